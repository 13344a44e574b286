section
-- ===== PART A: goes FIRST, ahead of the names: the tables' words, and 'selects' of the private methods out of them =====
/-- a private method of a class that the tables say can be made, by its rows of tables_1 -/
def lw_okq (q : MethodName × Nat) : Prop := (q.1.cls ≠ "java/lang/invoke/MethodHandle" ∧ q.1.cls ≠ "java/lang/invoke/VarHandle") ∧ Cond.instantiable q.1.cls q.2 ∈ tables_1 ∧ Cond.privateMethod q.1 ∈ tables_1 ∧ Cond.instanceMethod q.1 ∈ tables_1
theorem lw_p0 : lw_okq (⟨"RuleClasses", "madeEditions", "()I"⟩, 15) := ⟨⟨by decide +kernel, by decide +kernel⟩, List.mem_of_getElem? (i := 24) (by decide +kernel), List.mem_of_getElem? (i := 163) (by decide +kernel), List.mem_of_getElem? (i := 164) (by decide +kernel)⟩
theorem lw_p1 : lw_okq (⟨"RuleClasses", "failedQuestions", "()I"⟩, 15) := ⟨⟨by decide +kernel, by decide +kernel⟩, List.mem_of_getElem? (i := 24) (by decide +kernel), List.mem_of_getElem? (i := 182) (by decide +kernel), List.mem_of_getElem? (i := 183) (by decide +kernel)⟩
theorem lw_p2 : lw_okq (⟨"java/lang/Throwable", "fillInStackTrace", "(I)Ljava/lang/Throwable;"⟩, 6) := ⟨⟨by decide +kernel, by decide +kernel⟩, List.mem_of_getElem? (i := 240) (by decide +kernel), List.mem_of_getElem? (i := 238) (by decide +kernel), List.mem_of_getElem? (i := 239) (by decide +kernel)⟩
theorem lw_p3 : lw_okq (⟨"RuleClasses", "endHandle", "()V"⟩, 15) := ⟨⟨by decide +kernel, by decide +kernel⟩, List.mem_of_getElem? (i := 24) (by decide +kernel), List.mem_of_getElem? (i := 270) (by decide +kernel), List.mem_of_getElem? (i := 271) (by decide +kernel)⟩
theorem lw_p4 : lw_okq (⟨"java/util/ArrayList", "add", "(Ljava/lang/Object;[Ljava/lang/Object;I)V"⟩, 3) := ⟨⟨by decide +kernel, by decide +kernel⟩, List.mem_of_getElem? (i := 32) (by decide +kernel), List.mem_of_getElem? (i := 349) (by decide +kernel), List.mem_of_getElem? (i := 350) (by decide +kernel)⟩
theorem lw_p5 : lw_okq (⟨"java/util/ArrayList", "grow", "()[Ljava/lang/Object;"⟩, 3) := ⟨⟨by decide +kernel, by decide +kernel⟩, List.mem_of_getElem? (i := 32) (by decide +kernel), List.mem_of_getElem? (i := 353) (by decide +kernel), List.mem_of_getElem? (i := 354) (by decide +kernel)⟩
theorem lw_p6 : lw_okq (⟨"java/util/ArrayList", "grow", "(I)[Ljava/lang/Object;"⟩, 3) := ⟨⟨by decide +kernel, by decide +kernel⟩, List.mem_of_getElem? (i := 32) (by decide +kernel), List.mem_of_getElem? (i := 357) (by decide +kernel), List.mem_of_getElem? (i := 358) (by decide +kernel)⟩
theorem lw_p7 : lw_okq (⟨"RuleClasses", "editionAt", "(I)LRuleClasses$Edition;"⟩, 15) := ⟨⟨by decide +kernel, by decide +kernel⟩, List.mem_of_getElem? (i := 24) (by decide +kernel), List.mem_of_getElem? (i := 408) (by decide +kernel), List.mem_of_getElem? (i := 409) (by decide +kernel)⟩
theorem lw_p8 : lw_okq (⟨"RuleClasses", "requireEdition", "(I)V"⟩, 15) := ⟨⟨by decide +kernel, by decide +kernel⟩, List.mem_of_getElem? (i := 24) (by decide +kernel), List.mem_of_getElem? (i := 412) (by decide +kernel), List.mem_of_getElem? (i := 413) (by decide +kernel)⟩
theorem lw_p9 : lw_okq (⟨"RuleClasses$Run", "clear", "()V"⟩, 7) := ⟨⟨by decide +kernel, by decide +kernel⟩, List.mem_of_getElem? (i := 77) (by decide +kernel), List.mem_of_getElem? (i := 473) (by decide +kernel), List.mem_of_getElem? (i := 474) (by decide +kernel)⟩
theorem lw_p10 : lw_okq (⟨"RuleClasses$Run", "outcomeOf", "(LRuleClasses$Edition;LRuleClasses$Facts;)I"⟩, 7) := ⟨⟨by decide +kernel, by decide +kernel⟩, List.mem_of_getElem? (i := 77) (by decide +kernel), List.mem_of_getElem? (i := 477) (by decide +kernel), List.mem_of_getElem? (i := 478) (by decide +kernel)⟩
theorem lw_p11 : lw_okq (⟨"RuleClasses$Run", "step", "(LRuleClasses$Edition;ILRuleClasses$Facts;)I"⟩, 7) := ⟨⟨by decide +kernel, by decide +kernel⟩, List.mem_of_getElem? (i := 77) (by decide +kernel), List.mem_of_getElem? (i := 481) (by decide +kernel), List.mem_of_getElem? (i := 482) (by decide +kernel)⟩
theorem lw_p12 : lw_okq (⟨"RuleClasses$Run", "put", "(J)I"⟩, 7) := ⟨⟨by decide +kernel, by decide +kernel⟩, List.mem_of_getElem? (i := 77) (by decide +kernel), List.mem_of_getElem? (i := 488) (by decide +kernel), List.mem_of_getElem? (i := 489) (by decide +kernel)⟩
theorem lw_p13 : lw_okq (⟨"RuleClasses$Run", "take", "()I"⟩, 7) := ⟨⟨by decide +kernel, by decide +kernel⟩, List.mem_of_getElem? (i := 77) (by decide +kernel), List.mem_of_getElem? (i := 494) (by decide +kernel), List.mem_of_getElem? (i := 495) (by decide +kernel)⟩
theorem lw_p14 : lw_okq (⟨"RuleClasses$Run", "join", "(I)I"⟩, 7) := ⟨⟨by decide +kernel, by decide +kernel⟩, List.mem_of_getElem? (i := 77) (by decide +kernel), List.mem_of_getElem? (i := 498) (by decide +kernel), List.mem_of_getElem? (i := 499) (by decide +kernel)⟩
theorem lw_p15 : lw_okq (⟨"RuleClasses", "countingEdition", "(III)I"⟩, 15) := ⟨⟨by decide +kernel, by decide +kernel⟩, List.mem_of_getElem? (i := 24) (by decide +kernel), List.mem_of_getElem? (i := 516) (by decide +kernel), List.mem_of_getElem? (i := 517) (by decide +kernel)⟩
def lw_privs_1 : List (MethodName × Nat) := [(⟨"RuleClasses", "madeEditions", "()I"⟩, 15), (⟨"RuleClasses", "failedQuestions", "()I"⟩, 15), (⟨"java/lang/Throwable", "fillInStackTrace", "(I)Ljava/lang/Throwable;"⟩, 6), (⟨"RuleClasses", "endHandle", "()V"⟩, 15), (⟨"java/util/ArrayList", "add", "(Ljava/lang/Object;[Ljava/lang/Object;I)V"⟩, 3), (⟨"java/util/ArrayList", "grow", "()[Ljava/lang/Object;"⟩, 3), (⟨"java/util/ArrayList", "grow", "(I)[Ljava/lang/Object;"⟩, 3), (⟨"RuleClasses", "editionAt", "(I)LRuleClasses$Edition;"⟩, 15), (⟨"RuleClasses", "requireEdition", "(I)V"⟩, 15), (⟨"RuleClasses$Run", "clear", "()V"⟩, 7), (⟨"RuleClasses$Run", "outcomeOf", "(LRuleClasses$Edition;LRuleClasses$Facts;)I"⟩, 7), (⟨"RuleClasses$Run", "step", "(LRuleClasses$Edition;ILRuleClasses$Facts;)I"⟩, 7), (⟨"RuleClasses$Run", "put", "(J)I"⟩, 7), (⟨"RuleClasses$Run", "take", "()I"⟩, 7), (⟨"RuleClasses$Run", "join", "(I)I"⟩, 7), (⟨"RuleClasses", "countingEdition", "(III)I"⟩, 15)]
theorem lw_r1 : ∀ q ∈ lw_privs_1, lw_okq q := List.forall_mem_cons.mpr ⟨lw_p0, List.forall_mem_cons.mpr ⟨lw_p1, List.forall_mem_cons.mpr ⟨lw_p2, List.forall_mem_cons.mpr ⟨lw_p3, List.forall_mem_cons.mpr ⟨lw_p4, List.forall_mem_cons.mpr ⟨lw_p5, List.forall_mem_cons.mpr ⟨lw_p6, List.forall_mem_cons.mpr ⟨lw_p7, List.forall_mem_cons.mpr ⟨lw_p8, List.forall_mem_cons.mpr ⟨lw_p9, List.forall_mem_cons.mpr ⟨lw_p10, List.forall_mem_cons.mpr ⟨lw_p11, List.forall_mem_cons.mpr ⟨lw_p12, List.forall_mem_cons.mpr ⟨lw_p13, List.forall_mem_cons.mpr ⟨lw_p14, List.forall_mem_cons.mpr ⟨lw_p15, fun _ h => absurd h List.not_mem_nil⟩⟩⟩⟩⟩⟩⟩⟩⟩⟩⟩⟩⟩⟩⟩⟩
theorem lw_p16 : lw_okq (⟨"RuleClasses", "runShadow", "(I)V"⟩, 15) := ⟨⟨by decide +kernel, by decide +kernel⟩, List.mem_of_getElem? (i := 24) (by decide +kernel), List.mem_of_getElem? (i := 531) (by decide +kernel), List.mem_of_getElem? (i := 532) (by decide +kernel)⟩
theorem lw_p17 : lw_okq (⟨"RuleClassesModel", "isEdition", "(I)Z"⟩, 30) := ⟨⟨by decide +kernel, by decide +kernel⟩, List.mem_of_getElem? (i := 663) (by decide +kernel), List.mem_of_getElem? (i := 784) (by decide +kernel), List.mem_of_getElem? (i := 785) (by decide +kernel)⟩
theorem lw_p18 : lw_okq (⟨"RuleClassesModel", "giveFacts", "()V"⟩, 30) := ⟨⟨by decide +kernel, by decide +kernel⟩, List.mem_of_getElem? (i := 663) (by decide +kernel), List.mem_of_getElem? (i := 795) (by decide +kernel), List.mem_of_getElem? (i := 796) (by decide +kernel)⟩
theorem lw_p19 : lw_okq (⟨"RuleClassesModel", "run", "(I)I"⟩, 30) := ⟨⟨by decide +kernel, by decide +kernel⟩, List.mem_of_getElem? (i := 663) (by decide +kernel), List.mem_of_getElem? (i := 799) (by decide +kernel), List.mem_of_getElem? (i := 800) (by decide +kernel)⟩
theorem lw_p20 : lw_okq (⟨"RuleClassesModel", "step", "(I)I"⟩, 30) := ⟨⟨by decide +kernel, by decide +kernel⟩, List.mem_of_getElem? (i := 663) (by decide +kernel), List.mem_of_getElem? (i := 803) (by decide +kernel), List.mem_of_getElem? (i := 804) (by decide +kernel)⟩
theorem lw_p21 : lw_okq (⟨"RuleClassesModel", "valueOf", "(IIIJJ)J"⟩, 30) := ⟨⟨by decide +kernel, by decide +kernel⟩, List.mem_of_getElem? (i := 663) (by decide +kernel), List.mem_of_getElem? (i := 810) (by decide +kernel), List.mem_of_getElem? (i := 811) (by decide +kernel)⟩
theorem lw_p22 : lw_okq (⟨"RuleClassesModel", "counts", "(III)I"⟩, 30) := ⟨⟨by decide +kernel, by decide +kernel⟩, List.mem_of_getElem? (i := 663) (by decide +kernel), List.mem_of_getElem? (i := 824) (by decide +kernel), List.mem_of_getElem? (i := 825) (by decide +kernel)⟩
theorem lw_p23 : lw_okq (⟨"RuleClassesModel", "askedOf", "(III)I"⟩, 30) := ⟨⟨by decide +kernel, by decide +kernel⟩, List.mem_of_getElem? (i := 663) (by decide +kernel), List.mem_of_getElem? (i := 828) (by decide +kernel), List.mem_of_getElem? (i := 829) (by decide +kernel)⟩
def lw_privs_2 : List (MethodName × Nat) := [(⟨"RuleClasses", "runShadow", "(I)V"⟩, 15), (⟨"RuleClassesModel", "isEdition", "(I)Z"⟩, 30), (⟨"RuleClassesModel", "giveFacts", "()V"⟩, 30), (⟨"RuleClassesModel", "run", "(I)I"⟩, 30), (⟨"RuleClassesModel", "step", "(I)I"⟩, 30), (⟨"RuleClassesModel", "valueOf", "(IIIJJ)J"⟩, 30), (⟨"RuleClassesModel", "counts", "(III)I"⟩, 30), (⟨"RuleClassesModel", "askedOf", "(III)I"⟩, 30)]
theorem lw_r2 : ∀ q ∈ lw_privs_2, lw_okq q := List.forall_mem_cons.mpr ⟨lw_p16, List.forall_mem_cons.mpr ⟨lw_p17, List.forall_mem_cons.mpr ⟨lw_p18, List.forall_mem_cons.mpr ⟨lw_p19, List.forall_mem_cons.mpr ⟨lw_p20, List.forall_mem_cons.mpr ⟨lw_p21, List.forall_mem_cons.mpr ⟨lw_p22, List.forall_mem_cons.mpr ⟨lw_p23, fun _ h => absurd h List.not_mem_nil⟩⟩⟩⟩⟩⟩⟩⟩
def lw_privs : List (MethodName × Nat) := lw_privs_1 ++ (lw_privs_2)
def lw_tbl : List Cond := k2_sels lw_privs ++ tables_1
theorem lw_privs_ok : ∀ q ∈ lw_privs, lw_okq q := by
  show ∀ q ∈ lw_privs_1 ++ (lw_privs_2), lw_okq q
  exact List.forall_mem_append.mpr ⟨lw_r1, lw_r2⟩
/-! ===== BEGIN words of one list among another's, by their places ===== -/
theorem goodIn_r {big : List Cond} (ws : List Cond) (ps : List Nat) (hp : ws = ps.filterMap (fun i => big[i]?)) (h : ws.all goodWord = true) : GoodIn big ws := by
  intro w hw
  have h1 := List.all_eq_true.mp h w hw
  rw [hp] at hw
  obtain ⟨i, -, hi⟩ := List.mem_filterMap.mp hw
  have hm : w ∈ big := by first | exact List.mem_of_getElem? hi | exact List.getElem?_mem hi
  exact ⟨hm, good_of_word h1⟩
theorem goodIn_app {big a b : List Cond} (ha : GoodIn big a) (hb : GoodIn big b) : GoodIn big (a ++ b) := fun w h => (List.mem_append.mp h).elim (ha w) (hb w)
theorem goodIn_ca {big a b : List Cond} {c : Cond} (ha : GoodIn big (c :: a)) (hb : GoodIn big b) : GoodIn big (c :: (a ++ b)) := fun w h => (List.mem_cons.mp h).elim (fun e => ha w (List.mem_cons.mpr (Or.inl e))) (fun h => (List.mem_append.mp h).elim (fun h => ha w (List.mem_cons.mpr (Or.inr h))) (hb w))
theorem goodIn_sub {big ws : List Cond} (hm : ∀ w ∈ ws, w ∈ big) (h : ws.all goodWord = true) : GoodIn big ws := fun w hw => ⟨hm w hw, good_of_word (List.all_eq_true.mp h w hw)⟩
/-! ===== END ===== -/

/-! ===== BEGIN exceptions that leave a method, and their catching by the caller (launches without stack traces) ===== -/
section VXA
/-! The laws vx_back, vx_callV, vx_callS, vx_callSW, vx_throw0, vx_throwS follow proofs of the library, with one case more: JvmDerived/Free/Laws.lean (Back.of_free), Shelf42/LK1.lean (callV, callS), Shelf/KitTraced.lean (throwNew0V, throwNewS). -/
/-- where a method has thrown q: the class by its name, the cell, what was written, the world -/
def vx_T (XC : String → State → State → Prop) (st : State) (q : Addr) (t : State) (mc ms : Nat) (free : Addr → Prop) : Prop :=
  ∃ (E : String) (ce : Cell) (L : List Loc), XC E st t ∧ t.heap[q]? = some ce ∧ ce.vm = .none ∧ st.vm.findClass E = some ce.cls ∧ st.WarmedH t.vm ∧ st.sameButNew ({ t with vm := st.vm } : State) L mc ms ∧ ∀ z ∈ L, free z.base
def vx_Q (Qc : Array Value → State → Outcome → State → Prop) (XC : String → State → State → Prop) (mc ms : Nat) (free : Addr → Prop) : Array Value → State → Outcome → State → Prop := fun a st o t =>
  (Qc a st o t ∧ ∃ L, FrameEnd st o t L mc ms ∧ ∀ q ∈ L, free q.base) ∨ ∃ q, o = .threw q ∧ vx_T XC st q t mc ms free
/-- a callee that returns or throws -/
def vx_Met (l : Launch) (y : MethodName) (ws : List Cond) (rm : Room) (Pc : Array Value → State → Prop) (Qc : Array Value → State → Outcome → State → Prop) (XC : String → State → State → Prop) (mc ms : Nat) (free : Addr → Prop) : Prop :=
  MetFree l y (headSpec ws rm) Pc (fun _ _ _ _ _ => True) (vx_Q Qc XC mc ms free)
def vx_Post (XC : String → State → State → Prop) (mc ms : Nat) (free : Addr → Prop) : Pt → Array Value → Addr → Pt → Prop := fun A a q B =>
  ∃ (g : JFrame) (mk : MethodId) (t : State) (L : List Loc) (E : String) (ce : Cell), B.U.heap = t.heap ∧ B.U.vm = t.vm ∧ XC E (A.U.calling g mk a) t ∧ t.heap[q]? = some ce ∧ ce.vm = .none ∧ A.U.vm.findClass E = some ce.cls ∧ B.locs = A.locs ++ L ∧ (∀ z ∈ L, free z.base) ∧ B.cells = A.cells + mc ∧ B.slots = A.slots + ms
def vx_Back (l : Launch) (R : Room) (p : Program) (e : Env) (below : List Frame) (s : State) (sargs : Array Value) (y : MethodName) (len W9 : Nat)
    (Pre : Pt → Array Value → Prop) (Post : Pt → Array Value → Option Value → Pt → Prop) (PostX : Pt → Array Value → Addr → Pt → Prop) : Prop :=
  ∀ (m : MethodId) (meth : Method) (c : Code) (A : Pt) (g : JFrame) (ig : Instr) (mk : MethodId) (a : Array Value),
    Stand p l e R s m sargs below meth c A.U A.locs A.cells A.slots → g.method = m → g.locals.size = c.maxLocals → decode c.code g.pc = .ok (ig, len) →
    2 * g.monitorRoom + (g.stack.map fun v => v.category).sum ≤ W9 → A.U.methodNamed? y = some mk → Pre A a →
    (∃ (v : Option Value) (B : Pt), Stand p l e R s m sargs below meth c B.U B.locs B.cells B.slots ∧ Post A a v B ∧
      Steps p.tables e below (doInvoke e (A.U.setTop g) [] mk a).1 (B.U.setTop { g with pc := g.pc + len, stack := v.toList ++ g.stack })) ∨
    (∃ (q : Addr) (B : Pt), Stand p l e R s m sargs below meth c B.U B.locs B.cells B.slots ∧ PostX A a q B ∧
      Steps p.tables e below (doInvoke e (A.U.setTop g) [] mk a).1 ((B.U.setTop g).pushFrame (.throwing q)))
section Payer
variable {l : Launch} {R : Room} {p : Program} {e : Env} {below : List Frame} {s : State} {sargs : Array Value} {y : MethodName} {len W9 : Nat}
theorem vx_back {ws : List Cond} {rm : Room} {Pc : Array Value → State → Prop} {Qc : Array Value → State → Outcome → State → Prop} {XC : String → State → State → Prop} {mc ms : Nat} {free : Addr → Prop} {bytes : ByteArray} {maxL : Nat} {ret : Option FieldType}
    (hM : vx_Met l y ws rm Pc Qc XC mc ms free) (hblind : FrameBlind Pc) (hrc : rm.cells = mc) (hrs : rm.slots = ms)
    (hframes : rm.frames + 1 ≤ R.frames) (hlocals : W9 + (maxL + 11) + rm.locals ≤ R.locals)
    (hws : ∀ w ∈ ws, ∀ a' U, s.WarmedH U.vm → w.before a' U = true) (hcode : Cond.code y bytes maxL ret ∈ ws) (hinit : ∀ a' U, s.WarmedH U.vm → (Cond.initialized y.cls).before a' U = true) :
    vx_Back l R p e below s sargs y len W9 (PreOf R mc ms Pc) (PostOf Qc mc ms free) (vx_Post XC mc ms free) := by
  intro m meth c A g ig mk a X hg hsize hdg hW hn hp
  have h1 : (headSpec ws rm).pre.before a A.U = true := atoms_intro fun w hw => hws w hw _ _ X.warmed
  have h2 : (Cond.code y bytes maxL ret).before a A.U = true := hws _ hcode _ _ X.warmed
  have h3 : (Cond.initialized y.cls).before a A.U = true := hinit _ _ X.warmed
  have h4 : A.cells + (headSpec ws rm).room.cells ≤ R.cells := by rw [show (headSpec ws rm).room.cells = mc from hrc]; exact hp.1
  have h5 : A.slots + (headSpec ws rm).room.slots ≤ R.slots := by rw [show (headSpec ws rm).room.slots = ms from hrs]; exact hp.2.1
  have hPc : Pc a (A.U.calling g mk a) := hblind _ _ _ _ hp.2.2
  obtain ⟨U, Ls, c0, s0⟩ := A
  dsimp only [Pt.U, Pt.locs, Pt.cells, Pt.slots] at h1 h2 h3 h4 h5 X hn hPc ⊢
  obtain ⟨methY, cY, hmY, hcY, -, hlY, -, -, -, -⟩ := Cond.code_spec hn h2
  obtain ⟨kY, hkY, -⟩ := className_of_methodNamed hn
  have hinitY : kY.init = .initialized := Cond.initialized_spec (findClass_of_methodNamed hn) hkY h3
  have h : At U g.method c below := by rw [hg]; exact X.here
  have hlocals9 : W9 + (maxL + 11) + (headSpec ws rm).room.locals ≤ R.locals := hlocals
  have happ : (headSpec ws rm).appliesLoose y e.platform (U.calling g mk a) = true :=
    Spec.appliesLoose_calling (g := g) h hdg hn hkY hinitY
      (X.room_calling (g := g) (R' := (headSpec ws rm).room) hsize hmY hcY hframes (by rw [hlY]; omega) h4 h5) h1
  obtain ⟨mid, hmid⟩ := h.above
  have hfr : (U.setTop g).frames = (.java g :: mid) ++ below := by rw [State.frames_setTop' g h.top, hmid]; rfl
  obtain ⟨o, s₂, hsteps, -, hend, hq⟩ := Steps.callFree hM p X.admits X.cas X.clock (acts := []) hfr happ hPc trivial
  have hq' : vx_Q Qc XC mc ms free a (U.calling g mk a) o s₂ := hq
  rw [State.frames_setTop' g h.top] at hend
  obtain ⟨g₀, hg0⟩ := Option.isSome_iff_exists.mp h.top
  obtain ⟨r, hr⟩ := State.topJava?_eq_some.mp hg0
  have hr' : (({ U with heap := s₂.heap, slotsUsed := s₂.slotsUsed } : State).setVm s₂.vm).frames = .java g₀ :: r := hr
  rcases hq' with ⟨hqc, L, hfe, hL⟩ | ⟨q, rfl, E, ce, L, hx, hce, hcv, hcl, hW₂, hsm, hL⟩
  · obtain ⟨⟨v, rfl⟩, hW₂, e2, q2, q3, q4, q5, q6⟩ := id hfe
    have e3 : s₂ = ({ (U.calling g mk a).setFrames s₂.frames with heap := s₂.heap, slotsUsed := s₂.slotsUsed } : State).setVm s₂.vm := by
      have : s₂ = ({ s₂ with vm := (U.calling g mk a).vm } : State).setVm s₂.vm := rfl
      rw [e2] at this
      exact this
    obtain ⟨c₂, i₂, len₂, hc₂, hd₂, hf₂⟩ := hend
    have hW' : U.WarmedH s₂.vm := hW₂
    have hcc : c₂ = c := by
      have h1 : s₂.code? g.method = U.code? g.method := by
        rw [State.code?_eq, State.code?_eq, hW'.alike.method?]
      exact Option.some.inj (hc₂.symm.trans (h1.trans h.code))
    subst hcc
    have hlen : len₂ = len := by rw [hdg] at hd₂; cases hd₂; rfl
    subst hlen
    have hs₂ : s₂ = (({ U with heap := s₂.heap, slotsUsed := s₂.slotsUsed } : State).setVm s₂.vm).setTop { g with pc := g.pc + len₂, stack := v.toList ++ g.stack } := by
      refine e3.trans ?_
      rw [hf₂, State.calling_eq h.top, State.setFrames_setFrames, State.setTop_of_frames _ hr', hr]
      rfl
    have hsame : U.sameButNew ({ U with heap := s₂.heap, slotsUsed := s₂.slotsUsed } : State) L mc ms := by
      refine ⟨?_, q2, q3, q4, q5, q6⟩
      obtain ⟨t, ht, -⟩ := State.frames_cons hr
      show ({ U with heap := s₂.heap, slotsUsed := s₂.slotsUsed } : State) = { U.setFrames U.frames with heap := s₂.heap, slotsUsed := s₂.slotsUsed }
      rw [State.setFrames_self ht]
    subst hg
    refine Or.inl ⟨v, ⟨(({ U with heap := s₂.heap, slotsUsed := s₂.slotsUsed } : State).setVm s₂.vm), Ls ++ L, c0 + mc, s0 + ms⟩,
      ⟨X.admits, X.cas, X.clock, X.frames, X.room, X.hears, X.method, X.code, (X.here.setHeapUsed s₂.heap s₂.slotsUsed).setVm hW'.alike, X.tail, State.WarmedH.trans X.warmed hW', X.limits, X.bytes, X.same.trans (hsame.setVm s.vm)⟩,
      ⟨g, mk, s₂, L, rfl, rfl, hqc, rfl, hL, rfl, rfl⟩, ?_⟩
    show Steps p.tables e below _ ((({ U with heap := s₂.heap, slotsUsed := s₂.slotsUsed } : State).setVm s₂.vm).setTop { g with pc := g.pc + len₂, stack := v.toList ++ g.stack })
    rw [← hs₂]
    exact hsteps
  · obtain ⟨e2, q2, q3, q4, q5, q6⟩ := id hsm
    have e3 : s₂ = ({ (U.calling g mk a).setFrames s₂.frames with heap := s₂.heap, slotsUsed := s₂.slotsUsed } : State).setVm s₂.vm := by
      have : s₂ = ({ s₂ with vm := (U.calling g mk a).vm } : State).setVm s₂.vm := rfl
      rw [e2] at this
      exact this
    have hf₂ : s₂.frames = .throwing q :: .java g :: U.frames.tail := hend
    have hW' : U.WarmedH s₂.vm := hW₂
    have hs₂ : s₂ = ((({ U with heap := s₂.heap, slotsUsed := s₂.slotsUsed } : State).setVm s₂.vm).setTop g).pushFrame (.throwing q) := by
      refine e3.trans ?_
      rw [hf₂, State.calling_eq h.top, State.setFrames_setFrames, State.pushFrame, State.frames_setTop _ hr', State.setTop_of_frames _ hr', State.setFrames_setFrames, hr]
      rfl
    have hsame : U.sameButNew ({ U with heap := s₂.heap, slotsUsed := s₂.slotsUsed } : State) L mc ms := by
      refine ⟨?_, q2, q3, q4, q5, q6⟩
      obtain ⟨t, ht, -⟩ := State.frames_cons hr
      show ({ U with heap := s₂.heap, slotsUsed := s₂.slotsUsed } : State) = { U.setFrames U.frames with heap := s₂.heap, slotsUsed := s₂.slotsUsed }
      rw [State.setFrames_self ht]
    subst hg
    refine Or.inr ⟨q, ⟨(({ U with heap := s₂.heap, slotsUsed := s₂.slotsUsed } : State).setVm s₂.vm), Ls ++ L, c0 + mc, s0 + ms⟩,
      ⟨X.admits, X.cas, X.clock, X.frames, X.room, X.hears, X.method, X.code, (X.here.setHeapUsed s₂.heap s₂.slotsUsed).setVm hW'.alike, X.tail, State.WarmedH.trans X.warmed hW', X.limits, X.bytes, X.same.trans (hsame.setVm s.vm)⟩,
      ⟨g, mk, s₂, L, E, ce, rfl, rfl, hx, hce, hcv, hcl, rfl, hL, rfl, rfl⟩, ?_⟩
    show Steps p.tables e below _ (((({ U with heap := s₂.heap, slotsUsed := s₂.slotsUsed } : State).setVm s₂.vm).setTop g).pushFrame (.throwing q))
    rw [← hs₂]
    exact hsteps
end Payer
section Calls
variable {p : Program} {l : Launch} {e : Env} {R : Room} {s : State} {m : MethodId} {args : Array Value} {below : List Frame} {meth : Method} {c : Code} {T : State} {locs : List Loc} {cells slots : Nat}
theorem vx_callV (X : Stand p l e R s m args below meth c T locs cells slots) (hexec : p.tables.exec = Jvm.exec) {own C : String} {index : Nat} {y : MethodName} {bytes : ByteArray} {maxL : Nat} {ret : Option FieldType}
    (hown : s.vm.findClass own = some m.cls) (hlink : (Cond.methodLink own index y).before args s = true) (hinst : (Cond.instanceMethod y).before args s = true) (hsel : (Cond.selects C y y).before args s = true)
    (hcode : (Cond.code y bytes maxL ret).before args s = true) (hy : y.cls ≠ "java/lang/invoke/MethodHandle" ∧ y.cls ≠ "java/lang/invoke/VarHandle")
    {W9 : Nat} {Pre : Pt → Array Value → Prop} {Post : Pt → Array Value → Option Value → Pt → Prop} {PostX : Pt → Array Value → Addr → Pt → Prop} (hK : vx_Back l R p e below s args y 3 W9 Pre Post PostX)
    {b : Addr} {cellB : Cell} (hcell : T.heap[b]? = some cellB) (hobj : cellB.vm.isStatics = false) (hcls : s.vm.findClass C = some cellB.cls)
    {g : JFrame} (hg : g.method = m) (hsize : g.locals.size = c.maxLocals) {argsL rest : List Value} (hlen : ∀ sig, parseMethodDescriptor y.desc = some sig → argsL.length = sig.parameters.length)
    (hstack : g.stack = argsL.reverse ++ .ref b :: rest) (hW : 2 * g.monitorRoom + (rest.map fun v => v.category).sum ≤ W9) (hdg : decode c.code g.pc = .ok (.invokevirtual index, 3))
    (hpre : ∀ vm₁, s.WarmedH vm₁ → Pre ⟨T.setVm vm₁, locs, cells, slots⟩ (Value.ref b :: argsL).toArray) :
    (∃ (v : Option Value) (vm₁ : Vm) (B : Pt), s.WarmedH vm₁ ∧ Stand p l e R s m args below meth c B.U B.locs B.cells B.slots ∧ Post ⟨T.setVm vm₁, locs, cells, slots⟩ (Value.ref b :: argsL).toArray v B ∧
      ∀ target, Steps p.tables e below (B.U.setTop { g with pc := g.pc + 3, stack := v.toList ++ rest }) target → Steps p.tables e below (T.setTop g) target) ∨
    (∃ (q : Addr) (vm₁ : Vm) (B : Pt), s.WarmedH vm₁ ∧ Stand p l e R s m args below meth c B.U B.locs B.cells B.slots ∧ PostX ⟨T.setVm vm₁, locs, cells, slots⟩ (Value.ref b :: argsL).toArray q B ∧
      Steps p.tables e below (T.setTop g) ((B.U.setTop { g with stack := rest }).pushFrame (.throwing q))) := by
  obtain ⟨mk, methM, hnamed, hmethM, hstM, habM⟩ := Cond.instanceMethod_spec hinst
  obtain ⟨methM', cM, hmethM', -, -, -, -, -, -, hsigM⟩ := Cond.code_spec hnamed hcode
  cases hmethM.symm.trans hmethM'
  obtain ⟨c2, r2, m2, q1, q2, q3, q4, kP, hkP, hkPi⟩ := Cond.selects_spec hsel
  cases hcls.symm.trans q1
  cases (State.methodFound?_of_named hnamed hy).symm.trans q2
  cases hnamed.symm.trans q3
  have hselP : selectMethod e.platform s.vm cellB.cls mk = .method mk := by rw [Launch.admits_selectMethod X.admits]; exact q4
  obtain ⟨vm₁, X₁, hstep₁⟩ := X.invokevirtual hexec hown hlink hnamed hmethM hstM hkP hkPi hy (a := b) (cell := cellB) hcell
    (fun z h => by rw [h] at hobj; cases hobj) hselP hmethM habM hkP hkPi (g := g) hg (argsL := argsL) (rest := rest) (hlen _ hsigM) hstack hdg
  rcases hK m meth c ⟨T.setVm vm₁, locs, cells, slots⟩ { g with stack := rest } (.invokevirtual index) mk (Value.ref b :: argsL).toArray X₁ hg hsize hdg hW (X₁.named hnamed) (hpre vm₁ X₁.warmed) with ⟨v, B, X', hpost, hsteps⟩ | ⟨q, B, X', hpost, hsteps⟩
  · exact Or.inl ⟨v, vm₁, B, X₁.warmed, X', hpost, fun target h => hstep₁ _ fun acts => by rw [doInvoke_state]; exact hsteps.trans h⟩
  · exact Or.inr ⟨q, vm₁, B, X₁.warmed, X', hpost, hstep₁ _ fun acts => by rw [doInvoke_state]; exact hsteps⟩
theorem vx_callS (X : Stand p l e R s m args below meth c T locs cells slots) (hexec : p.tables.exec = Jvm.exec) {own : String} {index : Nat} {y : MethodName} {bytes : ByteArray} {maxL : Nat} {ret : Option FieldType}
    (hown : s.vm.findClass own = some m.cls) (hlink : (Cond.methodLink own index y).before args s = true) (hstat : (Cond.static y).before args s = true) (hinit : (Cond.initialized y.cls).before args s = true)
    (hcode : (Cond.code y bytes maxL ret).before args s = true) (hy : y.cls ≠ "java/lang/invoke/MethodHandle" ∧ y.cls ≠ "java/lang/invoke/VarHandle")
    {W9 : Nat} {Pre : Pt → Array Value → Prop} {Post : Pt → Array Value → Option Value → Pt → Prop} {PostX : Pt → Array Value → Addr → Pt → Prop} (hK : vx_Back l R p e below s args y 3 W9 Pre Post PostX)
    {g : JFrame} (hg : g.method = m) (hsize : g.locals.size = c.maxLocals) {argsL rest : List Value} (hlen : ∀ sig, parseMethodDescriptor y.desc = some sig → argsL.length = sig.parameters.length)
    (hstack : g.stack = argsL.reverse ++ rest) (hW : 2 * g.monitorRoom + (rest.map fun v => v.category).sum ≤ W9) (hdg : decode c.code g.pc = .ok (.invokestatic index, 3))
    (hpre : ∀ vm₁, s.WarmedH vm₁ → Pre ⟨T.setVm vm₁, locs, cells, slots⟩ argsL.toArray) :
    (∃ (v : Option Value) (vm₁ : Vm) (B : Pt), s.WarmedH vm₁ ∧ Stand p l e R s m args below meth c B.U B.locs B.cells B.slots ∧ Post ⟨T.setVm vm₁, locs, cells, slots⟩ argsL.toArray v B ∧
      ∀ target, Steps p.tables e below (B.U.setTop { g with pc := g.pc + 3, stack := v.toList ++ rest }) target → Steps p.tables e below (T.setTop g) target) ∨
    (∃ (q : Addr) (vm₁ : Vm) (B : Pt), s.WarmedH vm₁ ∧ Stand p l e R s m args below meth c B.U B.locs B.cells B.slots ∧ PostX ⟨T.setVm vm₁, locs, cells, slots⟩ argsL.toArray q B ∧
      Steps p.tables e below (T.setTop g) ((B.U.setTop { g with stack := rest }).pushFrame (.throwing q))) := by
  obtain ⟨mk, hnamed⟩ := Cond.code_named hcode
  obtain ⟨methM, cM, hmethM, -, -, -, -, -, -, hsigM⟩ := Cond.code_spec hnamed hcode
  have hstatic : methM.isStatic = true := Cond.static_spec hnamed hmethM hstat
  obtain ⟨kP, hkP, -⟩ := className_of_methodNamed hnamed
  have hinitP : kP.init = .initialized := Cond.initialized_spec (findClass_of_methodNamed hnamed) hkP hinit
  obtain ⟨vm₁, X₁, hstep₁⟩ := X.invokestatic hexec hown hlink hnamed hmethM hstatic hkP hinitP hy (g := g) hg (argsL := argsL) (rest := rest) (hlen _ hsigM) hstack hdg
  rcases hK m meth c ⟨T.setVm vm₁, locs, cells, slots⟩ { g with stack := rest } (.invokestatic index) mk argsL.toArray X₁ hg hsize hdg hW (X₁.named hnamed) (hpre vm₁ X₁.warmed) with ⟨v, B, X', hpost, hsteps⟩ | ⟨q, B, X', hpost, hsteps⟩
  · exact Or.inl ⟨v, vm₁, B, X₁.warmed, X', hpost, fun target h => hstep₁ _ fun acts => by rw [doInvoke_state]; exact hsteps.trans h⟩
  · exact Or.inr ⟨q, vm₁, B, X₁.warmed, X', hpost, hstep₁ _ fun acts => by rw [doInvoke_state]; exact hsteps⟩
end Calls
theorem vx_cls {s : State} {T : State} {vm₁ : Vm} {E : String} {k : ClassId} (hW : s.WarmedH vm₁) (h : (T.setVm vm₁).vm.findClass E = some k) : s.vm.findClass E = some k := by
  have h1 : vm₁.findClass E = some k := h
  rw [hW.alike.findClass] at h1
  exact h1
/-- the method's frame g, with q thrown over it -/
def vx_W (p : Program) (l : Launch) (e : Env) (R : Room) (s : State) (m : MethodId) (args : Array Value) (below : List Frame) (meth : Method) (c : Code) (H : Heap) (locs : List Loc) (cells slots : Nat) (Q : State → Prop) (g : JFrame) (q : Addr) : Prop :=
  ∀ T : State, T.heap = H → Stand p l e R s m args below meth c T locs cells slots → ∃ t, Steps p.tables e below ((T.setTop g).pushFrame (.throwing q)) t ∧ Q t
def vx_Run (p : Program) (l : Launch) (e : Env) (R : Room) (s : State) (m : MethodId) (args : Array Value) (below : List Frame) (meth : Method) (c : Code) (H : Heap) (locs : List Loc) (cells slots mc ms : Nat) (g : JFrame) (rest : List Value) (Qa : State → Outcome → State → Prop) (XC : String → State → State → Prop) (free : Addr → Prop) : Prop :=
  ∀ T : State, T.heap = H → Stand p l e R s m args below meth c T locs cells slots →
    (∃ (v : Option Value) (st₀ t T' : State) (L : List Loc), st₀.heap = H ∧ Stand p l e R s m args below meth c T' (locs ++ L) (cells + mc) (slots + ms) ∧ (∀ q ∈ L, free q.base) ∧ T'.heap = t.heap ∧ T'.vm = t.vm ∧ Qa st₀ (.returned v) t ∧
      Goes p e below T g T' { g with pc := g.pc + 3, stack := v.toList ++ rest }) ∨
    (∃ (q : Addr) (st₀ t T' : State) (L : List Loc) (E : String) (ce : Cell), st₀.heap = H ∧ Stand p l e R s m args below meth c T' (locs ++ L) (cells + mc) (slots + ms) ∧ (∀ z ∈ L, free z.base) ∧ T'.heap = t.heap ∧ T'.vm = t.vm ∧ XC E st₀ t ∧ t.heap[q]? = some ce ∧ ce.vm = .none ∧ s.vm.findClass E = some ce.cls ∧
      Steps p.tables e below (T.setTop g) ((T'.setTop { g with stack := rest }).pushFrame (.throwing q)))
def vx_X {S : Type} (px : S → Prop) (B : String → S → State → Prop) (A : Nat → Prop) : String → State → State → Prop := fun E st t => ∃ u : S, px u ∧ B E u t ∧ va_F A st t
section Runs
variable {p : Program} {l : Launch} {e : Env} {R : Room} {s : State} {m : MethodId} {args : Array Value} {below : List Frame} {meth : Method} {c : Code} {H : Heap} {locs : List Loc} {cells slots : Nat}
variable {y : MethodName} {bytes cc : ByteArray} {maxL nL mc ms n index : Nat} {ret : Option FieldType} {ws : List Cond} {rm : Room} {Pc : Array Value → State → Prop} {Qc : Array Value → State → Outcome → State → Prop} {XC : String → State → State → Prop} {free : Addr → Prop} {Ts : List Cond} {own C : String} {b : Addr} {As rest : List Value} {g : JFrame}
theorem vx_callBack (cb : CallB R s args own index y bytes maxL ret ws rm mc ms n) (hM : vx_Met l y ws rm Pc Qc XC mc ms free) (hbl : FrameBlind Pc) : vx_Back l R p e below s args y 3 8 (PreOf R mc ms Pc) (PostOf Qc mc ms free) (vx_Post XC mc ms free) := by
  obtain ⟨hrc, hrs, hfr, hlo, hws, hcw, -, hini, -⟩ := cb
  exact vx_back (bytes := bytes) (maxL := maxL) (ret := ret) hM hbl hrc hrs hfr hlo hws hcw (fun a' U hW => word_at hW (Or.inl (by first | rfl | simp [Cond.onTables, Cond.keeps, Cond.steady])) hini)
theorem vx_runV (S : CallFix p m c cc nL s args Ts own) (hM : vx_Met l y ws rm Pc Qc XC mc ms free) (cw : CallW R s args own C index y bytes maxL ret ws rm mc ms n) (hp : PreV s H C b Pc As)
    (hg : g.method = m) (hn : As.length = n) (hsize : g.locals.size = nL) (hstack : g.stack = As.reverse ++ .ref b :: rest) (hW : 2 * g.monitorRoom + (rest.map fun v => v.category).sum ≤ 8) (hdg : decode cc g.pc = .ok (.invokevirtual index, 3)) (hf : cells + mc ≤ R.cells ∧ slots + ms ≤ R.slots) :
    vx_Run p l e R s m args below meth c H locs cells slots mc ms g rest (Qc (Value.ref b :: As).toArray) XC free := by
  have hK : vx_Back l R p e below s args y 3 8 (PreOf R mc ms Pc) (PostOf Qc mc ms free) (vx_Post XC mc ms free) := vx_callBack cw.1 hM hp.1
  obtain ⟨⟨-, -, -, -, -, -, hcode, -, hy, hlen, hl⟩, hin, hse⟩ := cw
  obtain ⟨hx, hb, hml, ho, -⟩ := S
  obtain ⟨-, ⟨cellB, hcB, hoB, hclB⟩, hPc⟩ := hp
  intro T hT X
  rcases vx_callV X hx (C := C) (bytes := bytes) (maxL := maxL) (ret := ret) ho hl hin hse hcode hy hK (by rw [hT]; exact hcB) hoB hclB hg (hsize.trans hml.symm) (argsL := As) (rest := rest) (fun sig h => hn.trans (hlen sig h)) hstack hW (by rw [hb]; exact hdg)
    (fun vm₁ hW₁ => ⟨hf.1, hf.2, hPc (T.setVm vm₁) hT hW₁⟩) with ⟨v, vm₁, ⟨U', l2, c2, s2⟩, hW₁, X', ⟨g', mk, t, L, e1, e2, hq, h1, hL, h2, h3⟩, st⟩ | ⟨q, vm₁, ⟨U', l2, c2, s2⟩, hW₁, X', ⟨g', mk, t, L, E, ce, e1, e2, hq, hce, hcv, hcl, h1, hL, h2, h3⟩, st⟩
  · dsimp only [Pt.U, Pt.locs, Pt.cells, Pt.slots] at X' e1 e2 h1 h2 h3 st
    subst h1; subst h2; subst h3
    exact Or.inl ⟨v, (T.setVm vm₁).calling g' mk (Value.ref b :: As).toArray, t, U', L, hT, X', hL, e1, e2, hq, st⟩
  · dsimp only [Pt.U, Pt.locs, Pt.cells, Pt.slots] at X' e1 e2 h1 h2 h3 st hcl
    subst h1; subst h2; subst h3
    exact Or.inr ⟨q, (T.setVm vm₁).calling g' mk (Value.ref b :: As).toArray, t, U', L, E, ce, hT, X', hL, e1, e2, hq, hce, hcv, vx_cls hW₁ hcl, st⟩
theorem vx_runS (S : CallFix p m c cc nL s args Ts own) (hM : vx_Met l y ws rm Pc Qc XC mc ms free) (cw : CallB R s args own index y bytes maxL ret ws rm mc ms n ∧ (Cond.static y).before args s = true) (hp : PreS s H Pc As)
    (hg : g.method = m) (hn : As.length = n) (hsize : g.locals.size = nL) (hstack : g.stack = As.reverse ++ rest) (hW : 2 * g.monitorRoom + (rest.map fun v => v.category).sum ≤ 8) (hdg : decode cc g.pc = .ok (.invokestatic index, 3)) (hf : cells + mc ≤ R.cells ∧ slots + ms ≤ R.slots) :
    vx_Run p l e R s m args below meth c H locs cells slots mc ms g rest (Qc As.toArray) XC free := by
  have hK : vx_Back l R p e below s args y 3 8 (PreOf R mc ms Pc) (PostOf Qc mc ms free) (vx_Post XC mc ms free) := vx_callBack cw.1 hM hp.1
  obtain ⟨⟨-, -, -, -, -, -, hcode, hini, hy, hlen, hl⟩, hstt⟩ := cw
  obtain ⟨hx, hb, hml, ho, -⟩ := S
  intro T hT X
  rcases vx_callS X hx (bytes := bytes) (maxL := maxL) (ret := ret) ho hl hstt hini hcode hy hK hg (hsize.trans hml.symm) (argsL := As) (rest := rest) (fun sig h => hn.trans (hlen sig h)) hstack hW (by rw [hb]; exact hdg)
    (fun vm₁ hW₁ => ⟨hf.1, hf.2, hp.2 (T.setVm vm₁) hT hW₁⟩) with ⟨v, vm₁, ⟨U', l2, c2, s2⟩, hW₁, X', ⟨g', mk, t, L, e1, e2, hq, h1, hL, h2, h3⟩, st⟩ | ⟨q, vm₁, ⟨U', l2, c2, s2⟩, hW₁, X', ⟨g', mk, t, L, E, ce, e1, e2, hq, hce, hcv, hcl, h1, hL, h2, h3⟩, st⟩
  · dsimp only [Pt.U, Pt.locs, Pt.cells, Pt.slots] at X' e1 e2 h1 h2 h3 st
    subst h1; subst h2; subst h3
    exact Or.inl ⟨v, (T.setVm vm₁).calling g' mk As.toArray, t, U', L, hT, X', hL, e1, e2, hq, st⟩
  · dsimp only [Pt.U, Pt.locs, Pt.cells, Pt.slots] at X' e1 e2 h1 h2 h3 st hcl
    subst h1; subst h2; subst h3
    exact Or.inr ⟨q, (T.setVm vm₁).calling g' mk As.toArray, t, U', L, E, ce, hT, X', hL, e1, e2, hq, hce, hcv, vx_cls hW₁ hcl, st⟩
end Runs
section Rows
variable {p : Program} {l : Launch} {e : Env} {R : Room} {s : State} {m : MethodId} {args : Array Value} {below : List Frame} {meth : Method} {c : Code} {H : Heap} {locs : List Loc} {cells slots : Nat} {Q : State → Prop}
variable {mc ms : Nat} {free : Addr → Prop} {A0 A1 : Nat → Prop} {H0 : Heap} {a : Array Value} {pc : Nat} {ls : Array Slot} {st0 rest : List Value}
theorem vx_keep {st₀ t T' : State} {L : List Loc} (h0 : st₀.heap = H) (e1 : T'.heap = t.heap) (hS : va_S A0 H0 H locs) (hA : ∀ q, q < H.size → A1 q → A0 q) (hf : ∀ q, free q → A0 q) (hL : ∀ q ∈ L, free q.base) (hF : va_F A1 st₀ t) :
    H.size ≤ T'.heap.size ∧ (∀ q : Nat, q < H.size → ¬ A1 q → T'.heap[q]? = H[q]?) ∧ va_S A0 H0 T'.heap (locs ++ L) := by
  obtain ⟨hz, hk⟩ := hF
  rw [h0] at hz hk
  exact ⟨by rw [e1]; exact hz, fun q h1 h2 => by rw [e1]; exact hk q h1 h2,
    ⟨Nat.le_trans hS.1 (by rw [e1]; exact hz), fun q h1 h2 => by rw [e1, hk q (Nat.lt_of_lt_of_le h1 hS.1) (fun z => h2 (hA q (Nat.lt_of_lt_of_le h1 hS.1) z))]; exact hS.2.1 q h1 h2, fun q hq => by
      rcases List.mem_append.mp hq with h | h
      · exact hS.2.2 q h
      · exact hf _ (hL q h)⟩⟩
theorem vx_calli {S SX : Type} {post : Int32 → S → Prop} {px : SX → Prop} {B : S → State → Prop} {BX : String → SX → State → Prop} {AX : Nat → Prop} (hr : vx_Run p l e R s m args below meth c H locs cells slots mc ms (F0 m pc ls st0) rest (va_Qi post B A1 a) (vx_X px BX AX) free) (hS : va_S A0 H0 H locs) (hA : ∀ q, q < H.size → A1 q → A0 q) (hf : ∀ q, free q → A0 q) (hAX : ∀ q, q < H.size → AX q → A0 q)
    (kx : ∀ (E : String) (ce : Cell) (q9 : Addr) (u : SX) (t : State) (H1 : Heap) (locs1 : List Loc), t.heap = H1 → s.vm.Alike t.vm → px u → BX E u t → H.size ≤ H1.size → (∀ q : Nat, q < H.size → ¬ AX q → H1[q]? = H[q]?) → va_S A0 H0 H1 locs1 → H1[q9]? = some ce → ce.vm = .none → s.vm.findClass E = some ce.cls → vx_W p l e R s m args below meth c H1 locs1 (cells + mc) (slots + ms) Q (F0 m pc ls rest) q9)
    (kk : ∀ (r : Int32) (u : S) (t : State) (H1 : Heap) (locs1 : List Loc), t.heap = H1 → s.vm.Alike t.vm → post r u → B u t → H.size ≤ H1.size → (∀ q : Nat, q < H.size → ¬ A1 q → H1[q]? = H[q]?) → va_S A0 H0 H1 locs1 → W p l e R s m args below meth c H1 locs1 (cells + mc) (slots + ms) Q (F0 m (pc + 3) ls (.int r :: rest))) : W p l e R s m args below meth c H locs cells slots Q (F0 m pc ls st0) := by
  intro T hT X
  rcases hr T hT X with ⟨v, st₀, t, T', L, h0, X', hL, e1, e2, ⟨⟨r, u, hv, hp, hb⟩, hF⟩, st⟩ | ⟨q, st₀, t, T', L, E, ce, h0, X', hL, e1, e2, ⟨u, hp, hb, hF⟩, hce, hcv, hcl, st⟩
  · cases hv
    obtain ⟨k1, k2, k3⟩ := vx_keep h0 e1 hS hA hf hL hF
    obtain ⟨t2, a1, b1⟩ := kk r u t T'.heap (locs ++ L) e1.symm (by rw [← e2]; exact X'.warmed.alike) hp hb k1 k2 k3 T' rfl X'
    exact ⟨t2, st t2 a1, b1⟩
  · obtain ⟨k1, k2, k3⟩ := vx_keep h0 e1 hS hAX hf hL hF
    obtain ⟨t2, a1, b1⟩ := kx E ce q u t T'.heap (locs ++ L) e1.symm (by rw [← e2]; exact X'.warmed.alike) hp hb k1 k2 k3 (by rw [e1]; exact hce) hcv hcl T' rfl X'
    exact ⟨t2, st.trans a1, b1⟩
theorem vx_calll {S SX : Type} {post : Int64 → S → Prop} {px : SX → Prop} {B : S → State → Prop} {BX : String → SX → State → Prop} {AX : Nat → Prop} (hr : vx_Run p l e R s m args below meth c H locs cells slots mc ms (F0 m pc ls st0) rest (va_Ql post B A1 a) (vx_X px BX AX) free) (hS : va_S A0 H0 H locs) (hA : ∀ q, q < H.size → A1 q → A0 q) (hf : ∀ q, free q → A0 q) (hAX : ∀ q, q < H.size → AX q → A0 q)
    (kx : ∀ (E : String) (ce : Cell) (q9 : Addr) (u : SX) (t : State) (H1 : Heap) (locs1 : List Loc), t.heap = H1 → s.vm.Alike t.vm → px u → BX E u t → H.size ≤ H1.size → (∀ q : Nat, q < H.size → ¬ AX q → H1[q]? = H[q]?) → va_S A0 H0 H1 locs1 → H1[q9]? = some ce → ce.vm = .none → s.vm.findClass E = some ce.cls → vx_W p l e R s m args below meth c H1 locs1 (cells + mc) (slots + ms) Q (F0 m pc ls rest) q9)
    (kk : ∀ (r : Int64) (u : S) (t : State) (H1 : Heap) (locs1 : List Loc), t.heap = H1 → s.vm.Alike t.vm → post r u → B u t → H.size ≤ H1.size → (∀ q : Nat, q < H.size → ¬ A1 q → H1[q]? = H[q]?) → va_S A0 H0 H1 locs1 → W p l e R s m args below meth c H1 locs1 (cells + mc) (slots + ms) Q (F0 m (pc + 3) ls (.long r :: rest))) : W p l e R s m args below meth c H locs cells slots Q (F0 m pc ls st0) := by
  intro T hT X
  rcases hr T hT X with ⟨v, st₀, t, T', L, h0, X', hL, e1, e2, ⟨⟨r, u, hv, hp, hb⟩, hF⟩, st⟩ | ⟨q, st₀, t, T', L, E, ce, h0, X', hL, e1, e2, ⟨u, hp, hb, hF⟩, hce, hcv, hcl, st⟩
  · cases hv
    obtain ⟨k1, k2, k3⟩ := vx_keep h0 e1 hS hA hf hL hF
    obtain ⟨t2, a1, b1⟩ := kk r u t T'.heap (locs ++ L) e1.symm (by rw [← e2]; exact X'.warmed.alike) hp hb k1 k2 k3 T' rfl X'
    exact ⟨t2, st t2 a1, b1⟩
  · obtain ⟨k1, k2, k3⟩ := vx_keep h0 e1 hS hAX hf hL hF
    obtain ⟨t2, a1, b1⟩ := kx E ce q u t T'.heap (locs ++ L) e1.symm (by rw [← e2]; exact X'.warmed.alike) hp hb k1 k2 k3 (by rw [e1]; exact hce) hcv hcl T' rfl X'
    exact ⟨t2, st.trans a1, b1⟩
theorem vx_callf {S SX : Type} {post : UInt32 → S → Prop} {px : SX → Prop} {B : S → State → Prop} {BX : String → SX → State → Prop} {AX : Nat → Prop} (hr : vx_Run p l e R s m args below meth c H locs cells slots mc ms (F0 m pc ls st0) rest (va_Qf post B A1 a) (vx_X px BX AX) free) (hS : va_S A0 H0 H locs) (hA : ∀ q, q < H.size → A1 q → A0 q) (hf : ∀ q, free q → A0 q) (hAX : ∀ q, q < H.size → AX q → A0 q)
    (kx : ∀ (E : String) (ce : Cell) (q9 : Addr) (u : SX) (t : State) (H1 : Heap) (locs1 : List Loc), t.heap = H1 → s.vm.Alike t.vm → px u → BX E u t → H.size ≤ H1.size → (∀ q : Nat, q < H.size → ¬ AX q → H1[q]? = H[q]?) → va_S A0 H0 H1 locs1 → H1[q9]? = some ce → ce.vm = .none → s.vm.findClass E = some ce.cls → vx_W p l e R s m args below meth c H1 locs1 (cells + mc) (slots + ms) Q (F0 m pc ls rest) q9)
    (kk : ∀ (r : UInt32) (u : S) (t : State) (H1 : Heap) (locs1 : List Loc), t.heap = H1 → s.vm.Alike t.vm → post r u → B u t → H.size ≤ H1.size → (∀ q : Nat, q < H.size → ¬ A1 q → H1[q]? = H[q]?) → va_S A0 H0 H1 locs1 → W p l e R s m args below meth c H1 locs1 (cells + mc) (slots + ms) Q (F0 m (pc + 3) ls (.float r :: rest))) : W p l e R s m args below meth c H locs cells slots Q (F0 m pc ls st0) := by
  intro T hT X
  rcases hr T hT X with ⟨v, st₀, t, T', L, h0, X', hL, e1, e2, ⟨⟨r, u, hv, hp, hb⟩, hF⟩, st⟩ | ⟨q, st₀, t, T', L, E, ce, h0, X', hL, e1, e2, ⟨u, hp, hb, hF⟩, hce, hcv, hcl, st⟩
  · cases hv
    obtain ⟨k1, k2, k3⟩ := vx_keep h0 e1 hS hA hf hL hF
    obtain ⟨t2, a1, b1⟩ := kk r u t T'.heap (locs ++ L) e1.symm (by rw [← e2]; exact X'.warmed.alike) hp hb k1 k2 k3 T' rfl X'
    exact ⟨t2, st t2 a1, b1⟩
  · obtain ⟨k1, k2, k3⟩ := vx_keep h0 e1 hS hAX hf hL hF
    obtain ⟨t2, a1, b1⟩ := kx E ce q u t T'.heap (locs ++ L) e1.symm (by rw [← e2]; exact X'.warmed.alike) hp hb k1 k2 k3 (by rw [e1]; exact hce) hcv hcl T' rfl X'
    exact ⟨t2, st.trans a1, b1⟩
theorem vx_calld {S SX : Type} {post : UInt64 → S → Prop} {px : SX → Prop} {B : S → State → Prop} {BX : String → SX → State → Prop} {AX : Nat → Prop} (hr : vx_Run p l e R s m args below meth c H locs cells slots mc ms (F0 m pc ls st0) rest (va_Qd post B A1 a) (vx_X px BX AX) free) (hS : va_S A0 H0 H locs) (hA : ∀ q, q < H.size → A1 q → A0 q) (hf : ∀ q, free q → A0 q) (hAX : ∀ q, q < H.size → AX q → A0 q)
    (kx : ∀ (E : String) (ce : Cell) (q9 : Addr) (u : SX) (t : State) (H1 : Heap) (locs1 : List Loc), t.heap = H1 → s.vm.Alike t.vm → px u → BX E u t → H.size ≤ H1.size → (∀ q : Nat, q < H.size → ¬ AX q → H1[q]? = H[q]?) → va_S A0 H0 H1 locs1 → H1[q9]? = some ce → ce.vm = .none → s.vm.findClass E = some ce.cls → vx_W p l e R s m args below meth c H1 locs1 (cells + mc) (slots + ms) Q (F0 m pc ls rest) q9)
    (kk : ∀ (r : UInt64) (u : S) (t : State) (H1 : Heap) (locs1 : List Loc), t.heap = H1 → s.vm.Alike t.vm → post r u → B u t → H.size ≤ H1.size → (∀ q : Nat, q < H.size → ¬ A1 q → H1[q]? = H[q]?) → va_S A0 H0 H1 locs1 → W p l e R s m args below meth c H1 locs1 (cells + mc) (slots + ms) Q (F0 m (pc + 3) ls (.double r :: rest))) : W p l e R s m args below meth c H locs cells slots Q (F0 m pc ls st0) := by
  intro T hT X
  rcases hr T hT X with ⟨v, st₀, t, T', L, h0, X', hL, e1, e2, ⟨⟨r, u, hv, hp, hb⟩, hF⟩, st⟩ | ⟨q, st₀, t, T', L, E, ce, h0, X', hL, e1, e2, ⟨u, hp, hb, hF⟩, hce, hcv, hcl, st⟩
  · cases hv
    obtain ⟨k1, k2, k3⟩ := vx_keep h0 e1 hS hA hf hL hF
    obtain ⟨t2, a1, b1⟩ := kk r u t T'.heap (locs ++ L) e1.symm (by rw [← e2]; exact X'.warmed.alike) hp hb k1 k2 k3 T' rfl X'
    exact ⟨t2, st t2 a1, b1⟩
  · obtain ⟨k1, k2, k3⟩ := vx_keep h0 e1 hS hAX hf hL hF
    obtain ⟨t2, a1, b1⟩ := kx E ce q u t T'.heap (locs ++ L) e1.symm (by rw [← e2]; exact X'.warmed.alike) hp hb k1 k2 k3 (by rw [e1]; exact hce) hcv hcl T' rfl X'
    exact ⟨t2, st.trans a1, b1⟩
theorem vx_callv {S SX : Type} {post : S → Prop} {px : SX → Prop} {B : S → State → Prop} {BX : String → SX → State → Prop} {AX : Nat → Prop} (hr : vx_Run p l e R s m args below meth c H locs cells slots mc ms (F0 m pc ls st0) rest (va_Qv post B A1 a) (vx_X px BX AX) free) (hS : va_S A0 H0 H locs) (hA : ∀ q, q < H.size → A1 q → A0 q) (hf : ∀ q, free q → A0 q) (hAX : ∀ q, q < H.size → AX q → A0 q)
    (kx : ∀ (E : String) (ce : Cell) (q9 : Addr) (u : SX) (t : State) (H1 : Heap) (locs1 : List Loc), t.heap = H1 → s.vm.Alike t.vm → px u → BX E u t → H.size ≤ H1.size → (∀ q : Nat, q < H.size → ¬ AX q → H1[q]? = H[q]?) → va_S A0 H0 H1 locs1 → H1[q9]? = some ce → ce.vm = .none → s.vm.findClass E = some ce.cls → vx_W p l e R s m args below meth c H1 locs1 (cells + mc) (slots + ms) Q (F0 m pc ls rest) q9)
    (kk : ∀ (u : S) (t : State) (H1 : Heap) (locs1 : List Loc), t.heap = H1 → s.vm.Alike t.vm → post u → B u t → H.size ≤ H1.size → (∀ q : Nat, q < H.size → ¬ A1 q → H1[q]? = H[q]?) → va_S A0 H0 H1 locs1 → W p l e R s m args below meth c H1 locs1 (cells + mc) (slots + ms) Q (F0 m (pc + 3) ls (rest))) : W p l e R s m args below meth c H locs cells slots Q (F0 m pc ls st0) := by
  intro T hT X
  rcases hr T hT X with ⟨v, st₀, t, T', L, h0, X', hL, e1, e2, ⟨⟨u, hv, hp, hb⟩, hF⟩, st⟩ | ⟨q, st₀, t, T', L, E, ce, h0, X', hL, e1, e2, ⟨u, hp, hb, hF⟩, hce, hcv, hcl, st⟩
  · cases hv
    obtain ⟨k1, k2, k3⟩ := vx_keep h0 e1 hS hA hf hL hF
    obtain ⟨t2, a1, b1⟩ := kk u t T'.heap (locs ++ L) e1.symm (by rw [← e2]; exact X'.warmed.alike) hp hb k1 k2 k3 T' rfl X'
    exact ⟨t2, st t2 a1, b1⟩
  · obtain ⟨k1, k2, k3⟩ := vx_keep h0 e1 hS hAX hf hL hF
    obtain ⟨t2, a1, b1⟩ := kx E ce q u t T'.heap (locs ++ L) e1.symm (by rw [← e2]; exact X'.warmed.alike) hp hb k1 k2 k3 (by rw [e1]; exact hce) hcv hcl T' rfl X'
    exact ⟨t2, st.trans a1, b1⟩
/-- caught by the row x of this method's table; the rows ahead don't take it -/
theorem vx_catch {own name : String} {E : String} {ce : Cell} {q : Addr} (hown : s.vm.findClass own = some m.cls) (pre : List ExceptionTableEntry) (x : ExceptionTableEntry) (suf : List ExceptionTableEntry) (hsplit : c.exceptionTable.toList = pre ++ x :: suf)
    (hpass : ∀ z ∈ pre, covers z pc = false ∨ (z.catchType ≠ 0 ∧ ∃ nm : String, (Cond.classLink own z.catchType nm).before args s = true ∧ va_Nc E nm s)) (hx : covers x pc = true) (h0 : x.catchType ≠ 0)
    (hlink : (Cond.classLink own x.catchType name).before args s = true) (hcast : (Cond.castable E name).before args s = true) (hcell : H[q]? = some ce) (hv : ce.vm = .none) (hcl : s.vm.findClass E = some ce.cls)
    (kk : W p l e R s m args below meth c H locs cells slots Q (F0 m x.handlerPc ls [.ref q])) : vx_W p l e R s m args below meth c H locs cells slots Q (F0 m pc ls rest) q := by
  intro T hT X
  have hpl : e.platform.magicAccessors = ({} : Platform).magicAccessors := by rw [X.admits.platform]
  obtain ⟨c3, c4, hc3, hc4, hasg⟩ := Cond.castable_spec hcast
  cases Option.some.inj (hc3.symm.trans hcl)
  obtain ⟨c5, hc5, hcl5⟩ := Cond.classLink_spec hown hlink e.platform hpl
  cases Option.some.inj (hc4.symm.trans hc5)
  obtain ⟨vm', X', st⟩ := X.thenCaughtThrough q (g := F0 m pc ls rest) rfl (Steps.refl _) (by rw [hT]; exact hcell) (by rw [hv]; rfl) (by obtain ⟨k9, h9, -⟩ := Vm.findClass_spec hcl; exact ⟨k9, h9⟩) pre x suf hsplit
    (fun z hz => by
      rcases hpass z hz with h | ⟨hz0, nm, hl1, hn1⟩
      · exact Or.inl h
      · obtain ⟨c6, hc6, hcl6⟩ := Cond.classLink_spec hown hl1 e.platform hpl
        obtain ⟨a8, b8, h1, h2, h3⟩ := hn1
        cases Option.some.inj (h1.symm.trans hcl)
        cases Option.some.inj (h2.symm.trans hc6)
        exact Or.inr ⟨hz0, _, hcl6, h3⟩) hx (Or.inr ⟨h0, c4, hcl5, hasg⟩)
  obtain ⟨t, a1, b1⟩ := kk (T.setVm vm') hT X'
  exact ⟨t, st.trans a1, b1⟩
end Rows
section Ends
variable {p : Program} {l : Launch} {e : Env} {R : Room} {s : State} {m : MethodId} {args : Array Value} {below : List Frame} {meth : Method} {c : Code} {H : Heap} {locs : List Loc} {cells slots : Nat} {Q : State → Prop}
variable {mc ms : Nat} {free : Addr → Prop} {A0 A1 : Nat → Prop} {H0 : Heap} {a : Array Value} {ls : Array Slot} {st0 rest : List Value}
variable {Qc : Array Value → State → Outcome → State → Prop} {XC : String → State → State → Prop}
/-- what a body that may throw owes at its end -/
def vx_MQ (below : List Frame) (Qc : Array Value → State → Outcome → State → Prop) (XC : String → State → State → Prop) (a : Array Value) (s : State) (mc ms : Nat) (free : Addr → Prop) : State → Prop := fun t =>
  ∃ o, t.status = .running ∧ Ended t below o ∧ vx_Q Qc XC mc ms free a s o t
theorem vx_ret {g : JFrame} {mc ms : Nat} (k : W p l e R s m args below meth c H locs cells slots (MQ below Qc args s mc ms free) g) : W p l e R s m args below meth c H locs cells slots (vx_MQ below Qc XC args s mc ms free) g := by
  intro T hT X
  obtain ⟨t, a1, o, b1, b2, b3, b4⟩ := k T hT X
  exact ⟨t, a1, o, b1, b2, Or.inl ⟨b3, b4⟩⟩
/-- not caught here: it goes on to the caller -/
theorem vx_widen {g : JFrame} {q : Addr} {k n : Nat} (h1 : cells ≤ k) (h2 : slots ≤ n) (kk : vx_W p l e R s m args below meth c H locs k n Q g q) : vx_W p l e R s m args below meth c H locs cells slots Q g q := fun T hT X => kk T hT (stand_widen X h1 h2)
theorem vx_out {pc : Nat} {E : String} {ce : Cell} {q : Addr} {mc ms : Nat} (hout : ∀ x ∈ c.exceptionTable.toList, covers x pc = false) (hlocks : meth.locks = false) (hcell : H[q]? = some ce) (hv : ce.vm = .none) (hcl : s.vm.findClass E = some ce.cls)
    (hx : ∀ t : State, t.heap = H → s.vm.Alike t.vm → XC E s t) (hf : ∀ z ∈ locs, free z.base) (hc : cells ≤ mc) (hs : slots ≤ ms) :
    vx_W p l e R s m args below meth c H locs cells slots (vx_MQ below Qc XC args s mc ms free) (F0 m pc ls rest) q := by
  intro T hT X
  obtain ⟨st1, hrun, hend, hW, hsm⟩ := X.leaveThrown q (g := F0 m pc ls rest) rfl rfl rfl hout hlocks
  have hcell9 : (T.setFrames (.throwing q :: below)).heap[q]? = some ce := by
    show T.heap[q]? = some ce
    rw [hT]; exact hcell
  exact ⟨_, st1, .threw q, hrun, hend, Or.inr ⟨q, rfl, E, ce, locs, hx _ hT hW.alike, hcell9, hv, hcl, hW, hsm.mono hc hs, hf⟩⟩
theorem vx_frame {U : State} {k n : Nat} (h : s.sameButNew ({ U with vm := s.vm } : State) locs k n) : s.heap.size ≤ U.heap.size ∧ ∀ q : Nat, q < s.heap.size → (∀ z ∈ locs, z.base ≠ q) → U.heap[q]? = s.heap[q]? := by
  obtain ⟨-, h2, -, -, -, h6⟩ := h
  refine ⟨h2, fun q hq hz => ?_⟩
  obtain ⟨c9, e1, e2, e3, e4⟩ := h6 q _ (Array.getElem?_eq_getElem hq)
  have hs : c9.slots = (s.heap[q]).slots := Array.ext_getElem? fun i => e4 i fun hm => hz _ hm rfl
  have h9 : c9 = s.heap[q] := by
    rw [hs] at e2
    exact e2
  have e5 : U.heap[q]? = some c9 := e1
  rw [e5, h9, Array.getElem?_eq_getElem hq]
/-- the words of a throw but the four that speak of the heap -/
def vx_no (w : Cond) : Bool := decide (w ≠ .isRef (.static Bundle.tN "UNASSIGNED_STACK" Bundle.steD)) && decide (w ≠ .isRef (.static Bundle.tN "SUPPRESSED_SENTINEL" Bundle.listD)) && decide (w ≠ .laysStatic Bundle.tN "UNASSIGNED_STACK" Bundle.steD) && decide (w ≠ .laysStatic Bundle.tN "SUPPRESSED_SENTINEL" Bundle.listD)
def vx_at0 (own : String) (ic : Nat) (X : String) (names : List String) : List Cond := (Bundle.ownAtoms0 own ic X names).filter vx_no
def vx_atS (own : String) (ic : Nat) (X : String) (names : List String) : List Cond := (Bundle.ownAtoms own ic X names).filter vx_no
/-- a word that the tables alone decide, or a good one -/
def vx_ot (w : Cond) : Bool := w.onTables || goodWord w
theorem vx_ot_at {args a' : Array Value} {s U : State} {w : Cond} (hW : s.WarmedH U.vm) (hvm : s.vm = U.vm) (hg : vx_ot w = true) (h : w.before args s = true) : w.before a' U = true := by
  simp only [vx_ot, Bool.or_eq_true] at hg
  rcases hg with hg | hg
  · exact va_tabs hg hvm h
  · exact word_at hW (good_of_word hg) h
/-- a list's words: the good ones out of the method's own list, the others by premises of their own -/
theorem vx_hat {args : Array Value} {s : State} {L B : List Cond} (h1 : ∀ w ∈ L.filter goodWord, w.before args s = true) (h2 : ∀ w ∈ L.filter (fun w => !goodWord w), w ∈ B) (h3 : ∀ w ∈ B, w.before args s = true) : ∀ w ∈ L, w.before args s = true := by
  intro w hw
  by_cases g : goodWord w = true
  · exact h1 w (List.mem_filter.mpr ⟨hw, g⟩)
  · refine h3 w (h2 w (List.mem_filter.mpr ⟨hw, ?_⟩))
    show (!goodWord w) = true
    cases hgw : goodWord w
    · rfl
    · exact absurd hgw g
theorem vx_c {args : Array Value} {s : State} {w : Cond} {B : List Cond} (h : w.before args s = true) (t : ∀ w ∈ B, w.before args s = true) : ∀ w' ∈ w :: B, w'.before args s = true := fun w' h' => (List.mem_cons.mp h').elim (fun e => by rw [e]; exact h) (t w')
theorem vx_n {args : Array Value} {s : State} : ∀ w ∈ ([] : List Cond), w.before args s = true := fun _ h => nomatch h
theorem vx_own {args : Array Value} {s : State} {L : List Cond} (h1 : ∀ w ∈ L.filter vx_no, w.before args s = true)
    (hU : (Cond.isRef (.static Bundle.tN "UNASSIGNED_STACK" Bundle.steD)).before args s = true) (hN : (Cond.isRef (.static Bundle.tN "SUPPRESSED_SENTINEL" Bundle.listD)).before args s = true)
    (lU : (Cond.laysStatic Bundle.tN "UNASSIGNED_STACK" Bundle.steD).before args s = true) (lN : (Cond.laysStatic Bundle.tN "SUPPRESSED_SENTINEL" Bundle.listD).before args s = true) : ∀ w ∈ L, w.before args s = true := by
  intro w hw
  by_cases e1 : w = .isRef (.static Bundle.tN "UNASSIGNED_STACK" Bundle.steD)
  · rw [e1]; exact hU
  · by_cases e2 : w = .isRef (.static Bundle.tN "SUPPRESSED_SENTINEL" Bundle.listD)
    · rw [e2]; exact hN
    · by_cases e3 : w = .laysStatic Bundle.tN "UNASSIGNED_STACK" Bundle.steD
      · rw [e3]; exact lU
      · by_cases e4 : w = .laysStatic Bundle.tN "SUPPRESSED_SENTINEL" Bundle.listD
        · rw [e4]; exact lN
        · exact h1 w (List.mem_filter.mpr ⟨hw, by unfold vx_no; rw [decide_eq_true e1, decide_eq_true e2, decide_eq_true e3, decide_eq_true e4]; rfl⟩)
/-- where a static field lies, its class's statics cell in H -/
def vx_L (C n d : String) (A : Nat → Prop) (U : State) (H : Heap) : Prop := ∃ (c : ClassId) (k : Class) (i : Nat) (f : Field) (a : Nat) (cell : Cell), U.vm.findClass C = some c ∧ U.fieldFound? C n d = some (c, k, i, f) ∧ f.isStatic = true ∧ k.statics = some a ∧ H[a]? = some cell ∧ cell.vm.isStatics = true ∧ cell.cls = c ∧ f.slot < cell.slots.size ∧ k.staticTypes[f.slot]? = some f.type ∧ ¬ A a
theorem vx_L.moved {C n d : String} {A : Nat → Prop} {u U : State} {H : Heap} (hvm : u.vm.Alike U.vm) (h : vx_L C n d A u H) : vx_L C n d A U H := by
  obtain ⟨c, k, i, f, a, cell, h1, h2, h3, h4, h5, h6, h7, h8, h9, h10⟩ := h
  obtain ⟨k', hi', he⟩ := State.fieldFound?_setVm hvm h2
  exact ⟨c, k', i, f, a, cell, by rw [hvm.findClass]; exact h1, hi', h3, by rw [he]; exact h4, h5, h6, h7, h8, by rw [he]; exact h9, h10⟩
theorem vx_L.kept {C n d : String} {A : Nat → Prop} {U : State} {H H1 : Heap} (h : vx_L C n d A U H) (hq : ∀ a : Nat, a < H.size → ¬ A a → H1[a]? = H[a]?) : vx_L C n d A U H1 := by
  obtain ⟨c, k, i, f, a, cell, h1, h2, h3, h4, h5, h6, h7, h8, h9, h10⟩ := h
  exact ⟨c, k, i, f, a, cell, h1, h2, h3, h4, by rw [hq a (Array.getElem?_eq_some_iff.mp h5).1 h10]; exact h5, h6, h7, h8, h9, h10⟩
theorem vx_L.narrow {C n d : String} {A B : Nat → Prop} {U : State} {H : Heap} (h : vx_L C n d A U H) (hAB : ∀ q, B q → A q) : vx_L C n d B U H := by
  obtain ⟨c, k, i, f, a, cell, h1, h2, h3, h4, h5, h6, h7, h8, h9, h10⟩ := h
  exact ⟨c, k, i, f, a, cell, h1, h2, h3, h4, h5, h6, h7, h8, h9, fun z => h10 (hAB _ z)⟩
theorem vx_L.word {C n d : String} {A : Nat → Prop} {s : State} {args : Array Value} (h : vx_L C n d A s s.heap) : (Cond.laysStatic C n d).before args s = true := by
  obtain ⟨c, k, i, f, a, cell, h1, h2, h3, h4, h5, h6, h7, h8, h9, -⟩ := h
  show (Cond.laysStatic C n d).holds args s none s [] = true
  exact Cond.laysStatic_of h1 h2 h3 h4 h5 h6 h7 h8 h9
/-- .. and what it holds: null or some reference -/
def vx_Zq (C n d : String) (A : Nat → Prop) (U : State) (H : Heap) : Prop := va_Zq C n d A U H ∧ vx_L C n d A U H
theorem vx_Zq.moved {C n d : String} {A : Nat → Prop} {u U : State} {H : Heap} (hvm : u.vm.Alike U.vm) (h : vx_Zq C n d A u H) : vx_Zq C n d A U H := ⟨va_Zq.moved hvm h.1, vx_L.moved hvm h.2⟩
theorem vx_Zq.kept {C n d : String} {A : Nat → Prop} {U : State} {H H1 : Heap} (h : vx_Zq C n d A U H) (hq : ∀ a : Nat, a < H.size → ¬ A a → H1[a]? = H[a]?) : vx_Zq C n d A U H1 := ⟨va_Zq.kept h.1 hq, vx_L.kept h.2 hq⟩
theorem vx_Zq.narrow {C n d : String} {A B : Nat → Prop} {U : State} {H : Heap} (h : vx_Zq C n d A U H) (hAB : ∀ q, B q → A q) : vx_Zq C n d B U H := ⟨va_Zq.narrow h.1 hAB, vx_L.narrow h.2 hAB⟩
theorem vx_Zqof {args : Array Value} {s : State} {C n d : String} {A : Nat → Prop} (hl : (Cond.laysStatic C n d).before args s = true) (hini : (Cond.initialized C).before args s = true) (h : (Cond.isRef (.static C n d)).before args s = true) (hA : ∀ a : Nat, a < s.heap.size → ¬ A a) : vx_Zq C n d A s s.heap := by
  refine ⟨va_Zqof hl hini h hA, ?_⟩
  obtain ⟨c, k, i, f, a, cell, h1, h2, h3, h4, h5, h6, h7, h8, h9⟩ := Cond.laysStatic_spec hl
  exact ⟨c, k, i, f, a, cell, h1, h2, h3, h4, h5, h6, h7, h8, h9, hA a (Array.getElem?_eq_some_iff.mp h5).1⟩
theorem vx_isRef {C n d : String} {v : Value} {A : Nat → Prop} {s : State} {args : Array Value} (h : va_Z C n d v A s s.heap) (hv : v.isRef = true) : (Cond.isRef (.static C n d)).before args s = true := by
  obtain ⟨cf, kf, fi, f, a, cell, h1, h2, h3, h4, h5, h6, h7, -⟩ := h
  have he : (Term.static C n d).eval args s none [] s = some v := by
    simp [Term.eval, State.fieldNamed?, h1, h2, h4, h5, h6, h7]
  simp only [Cond.before, Cond.holds, Cond.value, he]
  cases v <;> simp_all [Value.isRef]
theorem vx_isRefq {C n d : String} {A : Nat → Prop} {s : State} {args : Array Value} (h : va_Zq C n d A s s.heap) : (Cond.isRef (.static C n d)).before args s = true := by
  rcases h with h | ⟨t, h⟩
  · exact vx_isRef h rfl
  · exact vx_isRef h rfl
/-- the same frame, seen from here: as if the method were called anew in this heap -/
theorem vx_rebase {T : State} (X : Stand p l e R s m args below meth c T locs cells slots) {R' : Room} (hf : R'.frames ≤ R.frames) (hl : R'.locals ≤ R.locals) (hc : cells + R'.cells ≤ R.cells) (hs : slots + R'.slots ≤ R.slots) :
    Stand p l e R' ((T.setVm s.vm).setFrames (.invoking m args :: below)) m args below meth c T [] 0 0 := by
  have htop : (T.setVm s.vm).topJava?.isSome := X.here.top
  have hF : ((T.setVm s.vm).setFrames (.invoking m args :: below)).frames = .invoking m args :: below := State.frames_setFrames _ (State.cur_lt_of_top htop)
  obtain ⟨g₀, hg0⟩ := Option.isSome_iff_exists.mp htop
  obtain ⟨r, hr⟩ := State.topJava?_eq_some.mp hg0
  have hl9 : e.platform.stackLimits (T.setVm s.vm).me = e.platform.stackLimits s.me := X.limits
  have hb9 : (T.setVm s.vm).me.stackBytes = s.me.stackBytes := X.bytes
  refine ⟨X.admits, X.cas, X.clock, hF, ?_, X.hears, X.method, X.code, X.here, X.tail, X.warmed, ?_, ?_, ?_⟩
  · have h := X.room
    have hU : ((T.setVm s.vm).setFrames (.invoking m args :: below)).localsInUse = s.localsInUse := by
      rw [State.localsInUse_invoking hF (meth := meth) (c := c) X.method X.code, State.localsInUse_invoking X.frames X.method X.code]
    simp only [State.hasRoom, Bool.and_eq_true, decide_eq_true_eq] at h ⊢
    obtain ⟨⟨⟨⟨h1, h2, h3, h4, h5, h6⟩, h7⟩, h8⟩, h9⟩ := h
    rw [X.frames, List.length_cons] at h2 h3
    have q1 := X.heapSize
    have q2 := X.used
    simp only [hF, hU, List.length_cons, State.stackLimits_setFrames, State.stackBytes_setFrames, hl9, hb9]
    refine ⟨⟨⟨⟨by omega, by omega, by omega, by omega, by omega, h6⟩, ?_⟩, ?_⟩, X.book⟩
    · show T.heap.size + R'.cells ≤ e.platform.maxCells
      omega
    · show T.slotsUsed + R'.slots ≤ e.platform.maxSlots
      omega
  · rw [State.stackLimits_setFrames]; rfl
  · rw [State.stackBytes_setFrames]; rfl
  · refine ⟨?_, Nat.le_refl _, Nat.le_refl _, ?_, ?_, fun a c9 h9 => ⟨c9, h9, rfl, rfl, fun _ _ => rfl⟩⟩
    · obtain ⟨t, ht, -⟩ := State.frames_cons hr
      show T.setVm s.vm = { ((T.setVm s.vm).setFrames (.invoking m args :: below)).setFrames (T.setVm s.vm).frames with heap := T.heap, slotsUsed := T.slotsUsed }
      rw [State.setFrames_setFrames, State.setFrames_self ht]
      rfl
    · show T.slotsUsed = T.slotsUsed + ((T.heap.toList.drop T.heap.size).map (·.slots.size)).sum
      rw [List.drop_eq_nil_of_le (Nat.le_of_eq Array.length_toList)]
      rfl
    · show ((T.heap.toList.drop T.heap.size).map (·.slots.size)).sum ≤ 0
      rw [List.drop_eq_nil_of_le (Nat.le_of_eq Array.length_toList)]
      exact Nat.le_refl _
/-- 'throw new E()': new; dup; invokespecial; athrow -/
theorem vx_throw0 {cc : ByteArray} {pc : Nat} (hexec : p.tables.exec = Jvm.exec) (hb : c.code = cc) (hl : l.stackTraces = false) {own cls : String} {names : List String} {ik ic mc ms : Nat} {A : Nat → Prop}
    (hown : s.vm.findClass own = some m.cls) (hcls : Bundle.fit cls = true) (hnames : ∀ n ∈ names, Bundle.fit n = true)
    (hk : (Cond.classLink own ik cls).before args s = true) (hini : (Cond.initialized cls).before args s = true) (hat : ∀ w ∈ vx_at0 own ic cls names, w.before args s = true)
    (hgood : ∀ w ∈ Cond.classLink own ik cls :: Cond.initialized cls :: vx_at0 own ic cls names, vx_ot w = true)
    (hU : vx_Zq Bundle.tN "UNASSIGNED_STACK" Bundle.steD A s s.heap) (hN : vx_Zq Bundle.tN "SUPPRESSED_SENTINEL" Bundle.listD A s s.heap) (hS : va_S A s.heap H locs) (hsize : ls.size = c.maxLocals)
    (d0 : decode cc pc = .ok (.new ik, 3)) (d3 : decode cc (pc + 3) = .ok (.dup, 1)) (d4 : decode cc (pc + 4) = .ok (.invokespecial ic, 3)) (d7 : decode cc (pc + 7) = .ok (.athrow, 1))
    (hout : ∀ x ∈ c.exceptionTable.toList, covers x (pc + 7) = false)
    (hRframes : names.length + 3 < R.frames) (hRlocals : (rest.map fun v => v.category).sum + (13 * (names.length + 1) + 42) ≤ R.locals) (hRcells : cells + 1 ≤ R.cells) (hRslots : slots + 6 ≤ R.slots) (hlocks : meth.locks = false)
    (hx : ∀ t : State, s.vm.Alike t.vm → H.size ≤ t.heap.size → (∀ q : Nat, q < H.size → t.heap[q]? = H[q]?) → XC cls s t)
    (hf : ∀ z ∈ locs, free z.base) (hc : cells + 1 ≤ mc) (hs : slots + 6 ≤ ms) :
    W p l e R s m args below meth c H locs cells slots (vx_MQ below Qc XC args s mc ms free) (F0 m pc ls rest) := by
  intro T hT X
  have htr : e.platform.stackTraces = false := (show e.platform.stackTraces = l.stackTraces by rw [X.admits.platform]).trans hl
  have Y := vx_rebase X (R' := { frames := R.frames, locals := R.locals, cells := 1, slots := 6 }) (Nat.le_refl _) (Nat.le_refl _) hRcells hRslots
  obtain ⟨s', hA⟩ : ∃ z, z = (T.setVm s.vm).setFrames (.invoking m args :: below) := ⟨_, rfl⟩
  rw [← hA] at Y
  have hvm : s'.vm = s.vm := by rw [hA]; rfl
  have hhp : s'.heap = H := by rw [hA]; exact hT
  have hW0 : s.WarmedH s'.vm := by rw [hvm]; exact State.WarmedH.refl s
  have hat' : ∀ w ∈ vx_at0 own ic cls names, w.before args s' = true := fun w hw => vx_ot_at hW0 hvm.symm (hgood w (List.mem_cons_of_mem _ (List.mem_cons_of_mem _ hw))) (hat w hw)
  have hk' : (Cond.classLink own ik cls).before args s' = true := vx_ot_at hW0 hvm.symm (hgood _ List.mem_cons_self) hk
  have hini' : (Cond.initialized cls).before args s' = true := vx_ot_at hW0 hvm.symm (hgood _ (List.mem_cons_of_mem _ List.mem_cons_self)) hini
  have hU' : vx_Zq Bundle.tN "UNASSIGNED_STACK" Bundle.steD A s' s'.heap := by rw [hhp]; exact vx_Zq.moved hW0.alike (hU.kept hS.2.1)
  have hN' : vx_Zq Bundle.tN "SUPPRESSED_SENTINEL" Bundle.listD A s' s'.heap := by rw [hhp]; exact vx_Zq.moved hW0.alike (hN.kept hS.2.1)
  have h : ∀ w ∈ Bundle.ownAtoms0 own ic cls names, w.before args s' = true := vx_own hat' (vx_isRefq hU'.1) (vx_isRefq hN'.1) hU'.2.word hN'.2.word
  have hown' : s'.vm.findClass own = some m.cls := by rw [hvm]; exact hown
  have hins : (Cond.instantiable cls 6).before args s' = true := h _ (by simp [Bundle.ownAtoms0])
  obtain ⟨vm₁, cX, kX, hfX, hkX, -, -, X₁, st1⟩ := Y.newCold hexec (own := own) (C := cls) (index := ik) (n := 6) hown' hk' hins hini'
    (g := F0 m pc ls rest) rfl (by rw [hb]; exact d0) (Nat.le_refl _) (Nat.le_refl _)
  generalize hT1 : (T.setVm vm₁).pushCell { cls := cX, slots := kX.instanceTypes.map defaultValue, vm := .none } = T1 at X₁ st1
  have hcat : (Value.ref T.heap.size).category = 1 := rfl
  have hcellA : T1.heap[T.heap.size]? = some (freshCell cX kX) := by rw [← hT1]; exact State.heap_pushCell_size _ _
  have d3' : decode c.code (pc + 3) = .ok (.dup, 1) := by rw [hb]; exact d3
  obtain ⟨U, hsteps, hrun, hend, hW, hsame, ce, hce, hO⟩ := X₁.ctorThrow0 hexec htr (own := own) (cls := cls) (names := names) (ic := ic) hown' hcls hnames h (fun x hx => nomatch hx) hfX hkX hcellA (by rw [hhp, hT]; exact Nat.le_refl _)
    (g := { method := m, pc := pc + 4, locals := ls, stack := .ref T.heap.size :: .ref T.heap.size :: rest, locked := none }) rfl hsize rfl rfl (rest := rest) rfl
    (by rw [hb]; exact d4) (by rw [hb]; exact d7) hout hRframes (by simp only [List.map_cons, List.sum_cons, hcat]; omega) hlocks
  obtain ⟨f1, f2⟩ := vx_frame hsame
  rw [hhp] at f1 f2
  have hWs : s.WarmedH U.vm := State.WarmedH.trans hW0 hW
  have hcl : s.vm.findClass cls = some ce.cls := by
    have h9 := hO.cls
    rw [hvm] at h9
    exact h9
  have hall : s.sameButNew ({ U with vm := s.vm } : State) locs mc ms := by
    subst hA
    obtain ⟨e1, e2⟩ := hsame
    rw [State.setFrames_setFrames] at e1
    have h2 : (T.setVm s.vm).sameButNew ({ U with vm := s.vm } : State) [] (0 + 1) (0 + 6) := ⟨e1, e2⟩
    have h3 := X.same.trans h2
    rw [List.append_nil] at h3
    exact h3.mono hc hs
  refine ⟨U, ?_, .threw T.heap.size, hrun, hend, Or.inr ⟨T.heap.size, rfl, cls, ce, locs, hx U hWs.alike f1 (fun q hq => f2 q hq (fun z hz => nomatch hz)), hce, hO.vm, hcl, hWs, hall, hf⟩⟩
  refine st1 _ ?_
  show Steps p.tables e below (T1.setTop { method := m, pc := pc + 3, locals := ls, stack := .ref T.heap.size :: rest, locked := none }) _
  jvm_step X₁.here [X₁.here.top, hexec, d3', Value.category]
  exact hsteps
/-- 'throw new E("text")': new; dup; ldc; invokespecial; athrow -/
theorem vx_throwS {cc : ByteArray} {pc : Nat} (hexec : p.tables.exec = Jvm.exec) (hb : c.code = cc) (hl : l.stackTraces = false) {own cls text : String} {names : List String} {ik is ic mc ms sa : Nat} {A : Nat → Prop}
    (hown : s.vm.findClass own = some m.cls) (hcls : Bundle.fit cls = true) (hnames : ∀ n ∈ names, Bundle.fit n = true)
    (hk : (Cond.classLink own ik cls).before args s = true) (hini : (Cond.initialized cls).before args s = true) (hstr : vk_R own is text sa s) (hat : ∀ w ∈ vx_atS own ic cls names, w.before args s = true)
    (hgood : ∀ w ∈ Cond.classLink own ik cls :: Cond.initialized cls :: vx_atS own ic cls names, vx_ot w = true)
    (hU : vx_Zq Bundle.tN "UNASSIGNED_STACK" Bundle.steD A s s.heap) (hN : vx_Zq Bundle.tN "SUPPRESSED_SENTINEL" Bundle.listD A s s.heap) (hS : va_S A s.heap H locs) (hsize : ls.size = c.maxLocals)
    (d0 : decode cc pc = .ok (.new ik, 3)) (d3 : decode cc (pc + 3) = .ok (.dup, 1)) (d4 : decode cc (pc + 4) = .ok (.ldc is, 2)) (d6 : decode cc (pc + 6) = .ok (.invokespecial ic, 3)) (d9 : decode cc (pc + 9) = .ok (.athrow, 1))
    (hout : ∀ x ∈ c.exceptionTable.toList, covers x (pc + 9) = false)
    (hRframes : names.length + 3 < R.frames) (hRlocals : (rest.map fun v => v.category).sum + (13 * (names.length + 1) + 43) ≤ R.locals) (hRcells : cells + 1 ≤ R.cells) (hRslots : slots + 6 ≤ R.slots) (hlocks : meth.locks = false)
    (hx : ∀ t : State, s.vm.Alike t.vm → H.size ≤ t.heap.size → (∀ q : Nat, q < H.size → t.heap[q]? = H[q]?) → XC cls s t)
    (hf : ∀ z ∈ locs, free z.base) (hc : cells + 1 ≤ mc) (hs : slots + 6 ≤ ms) :
    W p l e R s m args below meth c H locs cells slots (vx_MQ below Qc XC args s mc ms free) (F0 m pc ls rest) := by
  intro T hT X
  have htr : e.platform.stackTraces = false := (show e.platform.stackTraces = l.stackTraces by rw [X.admits.platform]).trans hl
  have Y := vx_rebase X (R' := { frames := R.frames, locals := R.locals, cells := 1, slots := 6 }) (Nat.le_refl _) (Nat.le_refl _) hRcells hRslots
  obtain ⟨s', hA⟩ : ∃ z, z = (T.setVm s.vm).setFrames (.invoking m args :: below) := ⟨_, rfl⟩
  rw [← hA] at Y
  have hvm : s'.vm = s.vm := by rw [hA]; rfl
  have hhp : s'.heap = H := by rw [hA]; exact hT
  have hW0 : s.WarmedH s'.vm := by rw [hvm]; exact State.WarmedH.refl s
  have hat' : ∀ w ∈ vx_atS own ic cls names, w.before args s' = true := fun w hw => vx_ot_at hW0 hvm.symm (hgood w (List.mem_cons_of_mem _ (List.mem_cons_of_mem _ hw))) (hat w hw)
  have hk' : (Cond.classLink own ik cls).before args s' = true := vx_ot_at hW0 hvm.symm (hgood _ List.mem_cons_self) hk
  have hini' : (Cond.initialized cls).before args s' = true := vx_ot_at hW0 hvm.symm (hgood _ (List.mem_cons_of_mem _ List.mem_cons_self)) hini
  have hU' : vx_Zq Bundle.tN "UNASSIGNED_STACK" Bundle.steD A s' s'.heap := by rw [hhp]; exact vx_Zq.moved hW0.alike (hU.kept hS.2.1)
  have hN' : vx_Zq Bundle.tN "SUPPRESSED_SENTINEL" Bundle.listD A s' s'.heap := by rw [hhp]; exact vx_Zq.moved hW0.alike (hN.kept hS.2.1)
  have h : ∀ w ∈ Bundle.ownAtoms own ic cls names, w.before args s' = true := vx_own hat' (vx_isRefq hU'.1) (vx_isRefq hN'.1) hU'.2.word hN'.2.word
  have hown' : s'.vm.findClass own = some m.cls := by rw [hvm]; exact hown
  have hins : (Cond.instantiable cls 6).before args s' = true := h _ (by simp [Bundle.ownAtoms])
  obtain ⟨vm₁, cX, kX, hfX, hkX, -, -, X₁, st1⟩ := Y.newCold hexec (own := own) (C := cls) (index := ik) (n := 6) hown' hk' hins hini'
    (g := F0 m pc ls rest) rfl (by rw [hb]; exact d0) (Nat.le_refl _) (Nat.le_refl _)
  generalize hT1 : (T.setVm vm₁).pushCell { cls := cX, slots := kX.instanceTypes.map defaultValue, vm := .none } = T1 at X₁ st1
  have hcat : (Value.ref T.heap.size).category = 1 := rfl
  have hcellA : T1.heap[T.heap.size]? = some (freshCell cX kX) := by rw [← hT1]; exact State.heap_pushCell_size _ _
  have d3' : decode c.code (pc + 3) = .ok (.dup, 1) := by rw [hb]; exact d3
  have d4' : decode c.code (pc + 4) = .ok (.ldc is, 2) := by rw [hb]; exact d4
  have hstr' : vk_R own is text sa s' := vk_R.warm hW0 hstr
  obtain ⟨U, hsteps, hrun, hend, hW, hsame, ce, hce, hO⟩ := X₁.ctorThrowS hexec htr (own := own) (cls := cls) (names := names) (ic := ic) hown' hcls hnames h (fun x hx => nomatch hx) hfX hkX hcellA (by rw [hhp, hT]; exact Nat.le_refl _) (msg := .ref sa) rfl
    (g := { method := m, pc := pc + 6, locals := ls, stack := .ref sa :: .ref T.heap.size :: .ref T.heap.size :: rest, locked := none }) rfl hsize rfl rfl (rest := rest) rfl
    (by rw [hb]; exact d6) (by rw [hb]; exact d9) hout hRframes (by simp only [List.map_cons, List.sum_cons, hcat]; omega) hlocks
  obtain ⟨f1, f2⟩ := vx_frame hsame
  rw [hhp] at f1 f2
  have hWs : s.WarmedH U.vm := State.WarmedH.trans hW0 hW
  have hcl : s.vm.findClass cls = some ce.cls := by
    have h9 := hO.cls
    rw [hvm] at h9
    exact h9
  have hall : s.sameButNew ({ U with vm := s.vm } : State) locs mc ms := by
    subst hA
    obtain ⟨e1, e2⟩ := hsame
    rw [State.setFrames_setFrames] at e1
    have h2 : (T.setVm s.vm).sameButNew ({ U with vm := s.vm } : State) [] (0 + 1) (0 + 6) := ⟨e1, e2⟩
    have h3 := X.same.trans h2
    rw [List.append_nil] at h3
    exact h3.mono hc hs
  refine ⟨U, ?_, .threw T.heap.size, hrun, hend, Or.inr ⟨T.heap.size, rfl, cls, ce, locs, hx U hWs.alike f1 (fun q hq => f2 q hq (fun z hz => nomatch hz)), hce, hO.vm, hcl, hWs, hall, hf⟩⟩
  refine st1 _ ?_
  show Steps p.tables e below (T1.setTop { method := m, pc := pc + 3, locals := ls, stack := .ref T.heap.size :: rest, locked := none }) _
  jvm_step X₁.here [X₁.here.top, hexec, d3', Value.category]
  exact X₁.ldcString hexec (own := own) (text := text) (index := is) (a := sa) hown' hstr'.1 hstr'.2
    (g := { method := m, pc := pc + 4, locals := ls, stack := .ref T.heap.size :: .ref T.heap.size :: rest, locked := none }) rfl d4' _ hsteps
/-- 'throw new E("text")', the text by a wide index -/
theorem vx_throwSW {cc : ByteArray} {pc : Nat} (hexec : p.tables.exec = Jvm.exec) (hb : c.code = cc) (hl : l.stackTraces = false) {own cls text : String} {names : List String} {ik is ic mc ms sa : Nat} {A : Nat → Prop}
    (hown : s.vm.findClass own = some m.cls) (hcls : Bundle.fit cls = true) (hnames : ∀ n ∈ names, Bundle.fit n = true)
    (hk : (Cond.classLink own ik cls).before args s = true) (hini : (Cond.initialized cls).before args s = true) (hstr : vk_R own is text sa s) (hat : ∀ w ∈ vx_atS own ic cls names, w.before args s = true)
    (hgood : ∀ w ∈ Cond.classLink own ik cls :: Cond.initialized cls :: vx_atS own ic cls names, vx_ot w = true)
    (hU : vx_Zq Bundle.tN "UNASSIGNED_STACK" Bundle.steD A s s.heap) (hN : vx_Zq Bundle.tN "SUPPRESSED_SENTINEL" Bundle.listD A s s.heap) (hS : va_S A s.heap H locs) (hsize : ls.size = c.maxLocals)
    (d0 : decode cc pc = .ok (.new ik, 3)) (d3 : decode cc (pc + 3) = .ok (.dup, 1)) (d4 : decode cc (pc + 4) = .ok (.ldc_w is, 3)) (d7 : decode cc (pc + 7) = .ok (.invokespecial ic, 3)) (d10 : decode cc (pc + 10) = .ok (.athrow, 1))
    (hout : ∀ x ∈ c.exceptionTable.toList, covers x (pc + 10) = false)
    (hRframes : names.length + 3 < R.frames) (hRlocals : (rest.map fun v => v.category).sum + (13 * (names.length + 1) + 43) ≤ R.locals) (hRcells : cells + 1 ≤ R.cells) (hRslots : slots + 6 ≤ R.slots) (hlocks : meth.locks = false)
    (hx : ∀ t : State, s.vm.Alike t.vm → H.size ≤ t.heap.size → (∀ q : Nat, q < H.size → t.heap[q]? = H[q]?) → XC cls s t)
    (hf : ∀ z ∈ locs, free z.base) (hc : cells + 1 ≤ mc) (hs : slots + 6 ≤ ms) :
    W p l e R s m args below meth c H locs cells slots (vx_MQ below Qc XC args s mc ms free) (F0 m pc ls rest) := by
  intro T hT X
  have htr : e.platform.stackTraces = false := (show e.platform.stackTraces = l.stackTraces by rw [X.admits.platform]).trans hl
  have Y := vx_rebase X (R' := { frames := R.frames, locals := R.locals, cells := 1, slots := 6 }) (Nat.le_refl _) (Nat.le_refl _) hRcells hRslots
  obtain ⟨s', hA⟩ : ∃ z, z = (T.setVm s.vm).setFrames (.invoking m args :: below) := ⟨_, rfl⟩
  rw [← hA] at Y
  have hvm : s'.vm = s.vm := by rw [hA]; rfl
  have hhp : s'.heap = H := by rw [hA]; exact hT
  have hW0 : s.WarmedH s'.vm := by rw [hvm]; exact State.WarmedH.refl s
  have hat' : ∀ w ∈ vx_atS own ic cls names, w.before args s' = true := fun w hw => vx_ot_at hW0 hvm.symm (hgood w (List.mem_cons_of_mem _ (List.mem_cons_of_mem _ hw))) (hat w hw)
  have hk' : (Cond.classLink own ik cls).before args s' = true := vx_ot_at hW0 hvm.symm (hgood _ List.mem_cons_self) hk
  have hini' : (Cond.initialized cls).before args s' = true := vx_ot_at hW0 hvm.symm (hgood _ (List.mem_cons_of_mem _ List.mem_cons_self)) hini
  have hU' : vx_Zq Bundle.tN "UNASSIGNED_STACK" Bundle.steD A s' s'.heap := by rw [hhp]; exact vx_Zq.moved hW0.alike (hU.kept hS.2.1)
  have hN' : vx_Zq Bundle.tN "SUPPRESSED_SENTINEL" Bundle.listD A s' s'.heap := by rw [hhp]; exact vx_Zq.moved hW0.alike (hN.kept hS.2.1)
  have h : ∀ w ∈ Bundle.ownAtoms own ic cls names, w.before args s' = true := vx_own hat' (vx_isRefq hU'.1) (vx_isRefq hN'.1) hU'.2.word hN'.2.word
  have hown' : s'.vm.findClass own = some m.cls := by rw [hvm]; exact hown
  have hins : (Cond.instantiable cls 6).before args s' = true := h _ (by simp [Bundle.ownAtoms])
  obtain ⟨vm₁, cX, kX, hfX, hkX, -, -, X₁, st1⟩ := Y.newCold hexec (own := own) (C := cls) (index := ik) (n := 6) hown' hk' hins hini'
    (g := F0 m pc ls rest) rfl (by rw [hb]; exact d0) (Nat.le_refl _) (Nat.le_refl _)
  generalize hT1 : (T.setVm vm₁).pushCell { cls := cX, slots := kX.instanceTypes.map defaultValue, vm := .none } = T1 at X₁ st1
  have hcat : (Value.ref T.heap.size).category = 1 := rfl
  have hcellA : T1.heap[T.heap.size]? = some (freshCell cX kX) := by rw [← hT1]; exact State.heap_pushCell_size _ _
  have d3' : decode c.code (pc + 3) = .ok (.dup, 1) := by rw [hb]; exact d3
  have d4' : decode c.code (pc + 4) = .ok (.ldc_w is, 3) := by rw [hb]; exact d4
  have hstr' : vk_R own is text sa s' := vk_R.warm hW0 hstr
  obtain ⟨U, hsteps, hrun, hend, hW, hsame, ce, hce, hO⟩ := X₁.ctorThrowS hexec htr (own := own) (cls := cls) (names := names) (ic := ic) hown' hcls hnames h (fun x hx => nomatch hx) hfX hkX hcellA (by rw [hhp, hT]; exact Nat.le_refl _) (msg := .ref sa) rfl
    (g := { method := m, pc := pc + 7, locals := ls, stack := .ref sa :: .ref T.heap.size :: .ref T.heap.size :: rest, locked := none }) rfl hsize rfl rfl (rest := rest) rfl
    (by rw [hb]; exact d7) (by rw [hb]; exact d10) hout hRframes (by simp only [List.map_cons, List.sum_cons, hcat]; omega) hlocks
  obtain ⟨f1, f2⟩ := vx_frame hsame
  rw [hhp] at f1 f2
  have hWs : s.WarmedH U.vm := State.WarmedH.trans hW0 hW
  have hcl : s.vm.findClass cls = some ce.cls := by
    have h9 := hO.cls
    rw [hvm] at h9
    exact h9
  have hall : s.sameButNew ({ U with vm := s.vm } : State) locs mc ms := by
    subst hA
    obtain ⟨e1, e2⟩ := hsame
    rw [State.setFrames_setFrames] at e1
    have h2 : (T.setVm s.vm).sameButNew ({ U with vm := s.vm } : State) [] (0 + 1) (0 + 6) := ⟨e1, e2⟩
    have h3 := X.same.trans h2
    rw [List.append_nil] at h3
    exact h3.mono hc hs
  refine ⟨U, ?_, .threw T.heap.size, hrun, hend, Or.inr ⟨T.heap.size, rfl, cls, ce, locs, hx U hWs.alike f1 (fun q hq => f2 q hq (fun z hz => nomatch hz)), hce, hO.vm, hcl, hWs, hall, hf⟩⟩
  refine st1 _ ?_
  show Steps p.tables e below (T1.setTop { method := m, pc := pc + 3, locals := ls, stack := .ref T.heap.size :: rest, locked := none }) _
  jvm_step X₁.here [X₁.here.top, hexec, d3', Value.category]
  exact X₁.ldcStringW hexec (own := own) (text := text) (index := is) (a := sa) hown' hstr'.1 hstr'.2
    (g := { method := m, pc := pc + 4, locals := ls, stack := .ref T.heap.size :: .ref T.heap.size :: rest, locked := none }) rfl d4' _ hsteps
end Ends
section Bodies
variable {l : Launch}
theorem vx_ofW {y : MethodName} {ws ws' : List Cond} {rm : Room} {Pc : Array Value → State → Prop} {Qc : Array Value → State → Outcome → State → Prop} {XC : String → State → State → Prop} {mc ms : Nat} {free : Addr → Prop} {cc : ByteArray} {maxL : Nat} {ret : Option FieldType}
    (hy : plainName y.cls = true) (hw : ws = Cond.code y cc maxL ret :: ws')
    (body : ∀ p e s m args below meth c s₁, BodyLoose p l y (headSpec ws rm) cc maxL ret e s m args below meth c s₁ → c.maxLocals = maxL → (∀ x ∈ c.exceptionTable.toList, False) → Pc args s →
      W p l e (headSpec ws rm).room s m args below meth c s.heap [] 0 0 (vx_MQ below Qc XC args s mc ms free) (entryFrame m args maxL)) : vx_Met l y ws rm Pc Qc XC mc ms free := by
  refine MetFree.of_bodyS (code := cc) (maxLocals := maxL) (ret := ret) hy ?_ ?_
  · intro args s m h hn
    obtain ⟨meth, c, h1, h2, h3, h4, h5, h6, -, -⟩ := Cond.code_spec hn (atoms_spec (ws := ws) h _ (by rw [hw]; exact List.mem_cons_self))
    exact ⟨meth, c, h1, h2, h3, h4, h5, h6⟩
  · intro p e s m args below meth c s₁ B hml hP _
    have hh0 : s₁.heap = s.heap := by rw [B.state]; rfl
    have ht : ∀ x ∈ c.exceptionTable.toList, False := by
      obtain ⟨meth9, c9, h1, h2, -, -, -, -, h7, -⟩ := Cond.code_spec B.named (atoms_spec (ws := ws) B.pre _ (by rw [hw]; exact List.mem_cons_self))
      cases Option.some.inj (h1.symm.trans B.method)
      cases Option.some.inj (h2.symm.trans (Stand.of_body B).code)
      intro x hx
      rw [Array.isEmpty_iff.mp h7] at hx
      cases hx
    obtain ⟨t, a1, o, b1, b2, b3⟩ := body p e s m args below meth c s₁ B hml ht hP s₁ hh0 (Stand.of_body B)
    exact ⟨t, o, a1, b1, b2, b3⟩
/-- the table of a body with handlers -/
theorem vx_table {p : Program} {x y : MethodName} {S : Spec} {cc bytes : ByteArray} {maxL maxL' : Nat} {ret ret' : Option FieldType} {e : Env} {s s₁ : State} {m : MethodId} {args : Array Value} {below : List Frame} {meth : Method} {c : Code} {hh : List (Nat × Nat × Nat × Nat)}
    (B : BodyLoose p l y S cc maxL ret e s m args below meth c s₁) (h : (Cond.codeWith y bytes maxL' ret' hh).before args s = true) : c.exceptionTable.toList = tableOf hh := by
  obtain ⟨m9, meth9, c9, hn9, h1, h2, -, -, h6, -⟩ := Cond.codeWith_spec h
  cases Option.some.inj (hn9.symm.trans B.named)
  cases Option.some.inj (h1.symm.trans B.method)
  cases Option.some.inj (h2.symm.trans (Stand.of_body B).code)
  rw [← h6, table_eq]
end Bodies
end VXA
/-! ===== END ===== -/
/-! ===== BEGIN a static call of a method with an exception table ===== -/
section VXS
variable {p : Program} {l : Launch} {e : Env} {R : Room} {s : State} {m : MethodId} {args : Array Value} {below : List Frame} {meth : Method} {c : Code} {T : State} {H : Heap} {locs : List Loc} {cells slots : Nat}
abbrev vx_CSW (R : Room) (s : State) (args : Array Value) (own : String) (index : Nat) (y : MethodName) (bytes : ByteArray) (maxL : Nat) (ret : Option FieldType) (hh : List (Nat × Nat × Nat × Nat)) (ws : List Cond) (rm : Room) (mc ms n : Nat) : Prop :=
  (rm.cells = mc ∧ rm.slots = ms ∧ rm.frames + 1 ≤ R.frames ∧ 8 + (maxL + 11) + rm.locals ≤ R.locals ∧ (∀ w ∈ ws, ∀ (a' : Array Value) (U : State), s.WarmedH U.vm → w.before a' U = true) ∧ Cond.codeWith y bytes maxL ret hh ∈ ws) ∧
  (Cond.codeWith y bytes maxL ret hh).before args s = true ∧ (Cond.initialized y.cls).before args s = true ∧ (y.cls ≠ "java/lang/invoke/MethodHandle" ∧ y.cls ≠ "java/lang/invoke/VarHandle") ∧
  (∀ sig, parseMethodDescriptor y.desc = some sig → n = sig.parameters.length) ∧ (Cond.methodLink own index y).before args s = true ∧ (Cond.static y).before args s = true
theorem vx_cwSW {own : String} {index maxL mc ms : Nat} {y : MethodName} {bytes : ByteArray} {ret : Option FieldType} {hh : List (Nat × Nat × Nat × Nat)} {Ts ws ws' : List Cond} {rm : Room} (n : Nat) (ht : ∀ w ∈ Ts, w.before args s = true) (hT : GoodIn Ts (va_wsS own index y ws)) (hw : ws = Cond.codeWith y bytes maxL ret hh :: ws') (hrc : rm.cells = mc) (hrs : rm.slots = ms)
    (hd : y.cls ≠ "java/lang/invoke/MethodHandle" ∧ y.cls ≠ "java/lang/invoke/VarHandle" ∧ (parseMethodDescriptor y.desc).map (fun d => d.parameters.length) = some n) (hR : rm.frames + 1 ≤ R.frames ∧ 8 + (maxL + 11) + rm.locals ≤ R.locals) :
    vx_CSW R s args own index y bytes maxL ret hh ws rm mc ms n := by
  have ok : ∀ w ∈ va_wsS own index y ws, w.before args s = true := fun w h => ht w (hT w h).1
  have hG : GoodIn Ts ws := fun w h => hT w (by unfold va_wsS; exact List.mem_append_right _ h)
  have hc : Cond.codeWith y bytes maxL ret hh ∈ ws := by rw [hw]; exact List.mem_cons_self
  refine ⟨⟨hrc, hrs, hR.1, hR.2, pay_in ht hG, hc⟩, ht _ (hG _ hc).1, ok _ (by simp [va_wsS]), ⟨hd.1, hd.2.1⟩, fun sig h => ?_, ok _ (by simp [va_wsS]), ok _ (by simp [va_wsS])⟩
  have h2 := hd.2.2
  rw [h] at h2
  exact (Option.some.inj h2).symm
theorem vx_callSW (X : Stand p l e R s m args below meth c T locs cells slots) (hexec : p.tables.exec = Jvm.exec) {own : String} {index : Nat} {y : MethodName} {bytes : ByteArray} {maxL : Nat} {ret : Option FieldType} {hh : List (Nat × Nat × Nat × Nat)}
    (hown : s.vm.findClass own = some m.cls) (hlink : (Cond.methodLink own index y).before args s = true) (hstat : (Cond.static y).before args s = true) (hinit : (Cond.initialized y.cls).before args s = true)
    (hcode : (Cond.codeWith y bytes maxL ret hh).before args s = true) (hy : y.cls ≠ "java/lang/invoke/MethodHandle" ∧ y.cls ≠ "java/lang/invoke/VarHandle")
    {W9 : Nat} {Pre : Pt → Array Value → Prop} {Post : Pt → Array Value → Option Value → Pt → Prop} (hK : Back l R p e below s args y 3 W9 Pre Post)
    {g : JFrame} (hg : g.method = m) (hsize : g.locals.size = c.maxLocals) {argsL rest : List Value} (hlen : ∀ sig, parseMethodDescriptor y.desc = some sig → argsL.length = sig.parameters.length)
    (hstack : g.stack = argsL.reverse ++ rest) (hW : 2 * g.monitorRoom + (rest.map fun v => v.category).sum ≤ W9) (hdg : decode c.code g.pc = .ok (.invokestatic index, 3))
    (hpre : ∀ vm₁, s.WarmedH vm₁ → Pre ⟨T.setVm vm₁, locs, cells, slots⟩ argsL.toArray) :
    ∃ (v : Option Value) (vm₁ : Vm) (B : Pt), s.WarmedH vm₁ ∧ Stand p l e R s m args below meth c B.U B.locs B.cells B.slots ∧ Post ⟨T.setVm vm₁, locs, cells, slots⟩ argsL.toArray v B ∧
      ∀ target, Steps p.tables e below (B.U.setTop { g with pc := g.pc + 3, stack := v.toList ++ rest }) target → Steps p.tables e below (T.setTop g) target := by
  obtain ⟨mk, methM, cM, hnamed, hmethM, -, -, -, -, -, -, hsigM⟩ := Cond.codeWith_spec hcode
  have hstatic : methM.isStatic = true := Cond.static_spec hnamed hmethM hstat
  obtain ⟨kP, hkP, -⟩ := className_of_methodNamed hnamed
  have hinitP : kP.init = .initialized := Cond.initialized_spec (findClass_of_methodNamed hnamed) hkP hinit
  obtain ⟨vm₁, X₁, hstep₁⟩ := X.invokestatic hexec hown hlink hnamed hmethM hstatic hkP hinitP hy (g := g) hg (argsL := argsL) (rest := rest) (hlen _ hsigM) hstack hdg
  obtain ⟨v, B, X', hpost, hsteps⟩ := hK m meth c ⟨T.setVm vm₁, locs, cells, slots⟩ { g with stack := rest } (.invokestatic index) mk argsL.toArray X₁ hg hsize hdg hW (X₁.named hnamed) (hpre vm₁ X₁.warmed)
  exact ⟨v, vm₁, B, X₁.warmed, X', hpost, fun target h => hstep₁ _ fun acts => by rw [doInvoke_state]; exact hsteps.trans h⟩
theorem vx_runSW {y : MethodName} {bytes cc : ByteArray} {maxL nL mc ms n index : Nat} {ret : Option FieldType} {hh : List (Nat × Nat × Nat × Nat)} {ws : List Cond} {rm : Room} {Pc : Array Value → State → Prop} {Qc : Array Value → State → Outcome → State → Prop} {free : Addr → Prop} {Ts : List Cond} {own : String} {As rest : List Value} {g : JFrame}
    (S : CallFix p m c cc nL s args Ts own) (hM : Met l y ws rm Pc Qc mc ms free) (cw : vx_CSW R s args own index y bytes maxL ret hh ws rm mc ms n) (hp : PreS s H Pc As)
    (hg : g.method = m) (hn : As.length = n) (hsize : g.locals.size = nL) (hstack : g.stack = As.reverse ++ rest) (hW : 2 * g.monitorRoom + (rest.map fun v => v.category).sum ≤ 8) (hdg : decode cc g.pc = .ok (.invokestatic index, 3)) (hf : cells + mc ≤ R.cells ∧ slots + ms ≤ R.slots) :
    va_Run p l e R s m args below meth c H locs cells slots mc ms g rest (Qc As.toArray) (free) := by
  obtain ⟨⟨hrc, hrs, hfr, hlo, hws, hcw⟩, hcode, hini, hy, hlen, hl, hstt⟩ := cw
  have hK : Back l R p e below s args y 3 8 (PreOf R mc ms Pc) (PostOf Qc mc ms free) := va_backW (hh := hh) (bytes := bytes) (maxL := maxL) (ret := ret) hM hp.1 hrc hrs hfr hlo hws hcw (fun a' U hW => word_at hW (Or.inl (by first | rfl | simp [Cond.onTables, Cond.keeps, Cond.steady])) hini)
  obtain ⟨hx, hb, hml, ho, -⟩ := S
  intro T hT X
  obtain ⟨v, vm₁, ⟨U', l2, c2, s2⟩, hW₁, X', ⟨g', mk, t, L, e1, e2, hq, h1, hL, h2, h3⟩, st⟩ := vx_callSW X hx (hh := hh) (bytes := bytes) (maxL := maxL) (ret := ret) ho hl hstt hini hcode hy hK hg (hsize.trans hml.symm) (argsL := As) (rest := rest) (fun sig h => hn.trans (hlen sig h)) hstack hW (by rw [hb]; exact hdg)
    (fun vm₁ hW₁ => ⟨hf.1, hf.2, hp.2 (T.setVm vm₁) hT hW₁⟩)
  dsimp only [Pt.U, Pt.locs, Pt.cells, Pt.slots] at X' e1 e2 h1 h2 h3 st
  subst h1; subst h2; subst h3
  exact ⟨v, (T.setVm vm₁).calling g' mk As.toArray, t, U', L, hT, X', hL, e1, e2, hq, st⟩
/-- not caught here, past rows that name other classes: it goes on to the caller -/
theorem vx_outP {p : Program} {l : Launch} {e : Env} {R : Room} {s : State} {m : MethodId} {args : Array Value} {below : List Frame} {meth : Method} {c : Code} {H : Heap} {locs : List Loc} {cells slots : Nat} {free : Addr → Prop} {ls : Array Slot} {rest : List Value} {Qc : Array Value → State → Outcome → State → Prop} {XC : String → State → State → Prop}
    {pc : Nat} {own E : String} {ce : Cell} {q : Addr} {mc ms : Nat} (hown : s.vm.findClass own = some m.cls) (hlocks : meth.locks = false)
    (hpass : ∀ z ∈ c.exceptionTable.toList, covers z pc = false ∨ (z.catchType ≠ 0 ∧ ∃ nm : String, (Cond.classLink own z.catchType nm).before args s = true ∧ va_Nc E nm s)) (hcell : H[q]? = some ce) (hv : ce.vm = .none) (hcl : s.vm.findClass E = some ce.cls)
    (hx : ∀ t : State, t.heap = H → s.vm.Alike t.vm → XC E s t) (hf : ∀ z ∈ locs, free z.base) (hc : cells ≤ mc) (hs : slots ≤ ms) :
    vx_W p l e R s m args below meth c H locs cells slots (vx_MQ below Qc XC args s mc ms free) (F0 m pc ls rest) q := by
  intro T hT X
  have hpl : e.platform.magicAccessors = ({} : Platform).magicAccessors := by rw [X.admits.platform]
  obtain ⟨vm', hW', X', st⟩ := X.outThrough hlocks q (g := F0 m pc ls rest) rfl rfl rfl (cell := ce) (by rw [hT]; exact hcell) (by rw [hv]; rfl)
    (by obtain ⟨k9, h9, -⟩ := Vm.findClass_spec hcl; exact ⟨k9, h9⟩) (fun z hz => by
      rcases hpass z hz with h | ⟨hz0, nm, hl1, hn1⟩
      · exact Or.inl h
      · obtain ⟨c6, hc6, hcl6⟩ := Cond.classLink_spec hown hl1 e.platform hpl
        obtain ⟨a8, b8, h1, h2, h3⟩ := hn1
        cases Option.some.inj (h1.symm.trans hcl)
        cases Option.some.inj (h2.symm.trans hc6)
        exact Or.inr ⟨hz0, _, hcl6, h3⟩)
  obtain ⟨g₀, hfr⟩ := X'.frames_eq
  have hcell9 : ((T.setVm vm').setFrames (.throwing q :: below)).heap[q]? = some ce := by
    show T.heap[q]? = some ce
    rw [hT]; exact hcell
  have hend : Ended ((T.setVm vm').setFrames (.throwing q :: below)) below (.threw q) := State.frames_setFrames _ (State.cur_lt_of_frames hfr)
  refine ⟨(T.setVm vm').setFrames (.throwing q :: below), ?_, .threw q, X'.here.running, hend, Or.inr ⟨q, rfl, E, ce, locs, hx _ hT (X'.ends _).1.alike, hcell9, hv, hcl, (X'.ends _).1, (X'.ends _).2.mono hc hs, hf⟩⟩
  rw [X.pushThrowing_eq]
  exact st
/-- a thing of a world lies in the heap -/
theorem vx_lt {D : va_G} {cl : List vw_C} {ws : va_W} {H1 : Heap} (h : va_P D cl ws H1) {k : Nat} {q : Nat × va_E} (hk : ws[k]? = some q) : q.1 < H1.size := (h k q hk).lt
end VXS
/-! ===== END ===== -/
/-! ===== BEGIN methods with a table of their own: called by a name, returning or throwing ===== -/
section VXH
/-! vx_backW, vx_callVX, vx_callSX, vx_callVW, vx_runVW, vx_runVX, vx_runSX, vx_ofWH follow the same proofs as their sisters above (Free/Laws.lean, Shelf42/LK1.lean); vx_outP calls Shelf42/NT130.lean (outThrough). -/
section
variable {l : Launch} {R : Room} {p : Program} {e : Env} {below : List Frame} {s : State} {sargs : Array Value} {y : MethodName} {len W9 : Nat}
theorem vx_backW {ws : List Cond} {rm : Room} {Pc : Array Value → State → Prop} {Qc : Array Value → State → Outcome → State → Prop} {XC : String → State → State → Prop} {mc ms : Nat} {free : Addr → Prop} {bytes : ByteArray} {maxL : Nat} {ret : Option FieldType} {hh : List (Nat × Nat × Nat × Nat)}
    (hM : vx_Met l y ws rm Pc Qc XC mc ms free) (hblind : FrameBlind Pc) (hrc : rm.cells = mc) (hrs : rm.slots = ms)
    (hframes : rm.frames + 1 ≤ R.frames) (hlocals : W9 + (maxL + 11) + rm.locals ≤ R.locals)
    (hws : ∀ w ∈ ws, ∀ a' U, s.WarmedH U.vm → w.before a' U = true) (hcode : Cond.codeWith y bytes maxL ret hh ∈ ws) (hinit : ∀ a' U, s.WarmedH U.vm → (Cond.initialized y.cls).before a' U = true) :
    vx_Back l R p e below s sargs y len W9 (PreOf R mc ms Pc) (PostOf Qc mc ms free) (vx_Post XC mc ms free) := by
  intro m meth c A g ig mk a X hg hsize hdg hW hn hp
  have h1 : (headSpec ws rm).pre.before a A.U = true := atoms_intro fun w hw => hws w hw _ _ X.warmed
  have h2 : (Cond.codeWith y bytes maxL ret hh).before a A.U = true := hws _ hcode _ _ X.warmed
  have h3 : (Cond.initialized y.cls).before a A.U = true := hinit _ _ X.warmed
  have h4 : A.cells + (headSpec ws rm).room.cells ≤ R.cells := by rw [show (headSpec ws rm).room.cells = mc from hrc]; exact hp.1
  have h5 : A.slots + (headSpec ws rm).room.slots ≤ R.slots := by rw [show (headSpec ws rm).room.slots = ms from hrs]; exact hp.2.1
  have hPc : Pc a (A.U.calling g mk a) := hblind _ _ _ _ hp.2.2
  obtain ⟨U, Ls, c0, s0⟩ := A
  dsimp only [Pt.U, Pt.locs, Pt.cells, Pt.slots] at h1 h2 h3 h4 h5 X hn hPc ⊢
  obtain ⟨m9, methY, cY, hn9, hmY, hcY, -, hlY, -⟩ := Cond.codeWith_spec h2
  cases Option.some.inj (hn9.symm.trans hn)
  obtain ⟨kY, hkY, -⟩ := className_of_methodNamed hn
  have hinitY : kY.init = .initialized := Cond.initialized_spec (findClass_of_methodNamed hn) hkY h3
  have h : At U g.method c below := by rw [hg]; exact X.here
  have hlocals9 : W9 + (maxL + 11) + (headSpec ws rm).room.locals ≤ R.locals := hlocals
  have happ : (headSpec ws rm).appliesLoose y e.platform (U.calling g mk a) = true :=
    Spec.appliesLoose_calling (g := g) h hdg hn hkY hinitY
      (X.room_calling (g := g) (R' := (headSpec ws rm).room) hsize hmY hcY hframes (by rw [hlY]; omega) h4 h5) h1
  obtain ⟨mid, hmid⟩ := h.above
  have hfr : (U.setTop g).frames = (.java g :: mid) ++ below := by rw [State.frames_setTop' g h.top, hmid]; rfl
  obtain ⟨o, s₂, hsteps, -, hend, hq⟩ := Steps.callFree hM p X.admits X.cas X.clock (acts := []) hfr happ hPc trivial
  have hq' : vx_Q Qc XC mc ms free a (U.calling g mk a) o s₂ := hq
  rw [State.frames_setTop' g h.top] at hend
  obtain ⟨g₀, hg0⟩ := Option.isSome_iff_exists.mp h.top
  obtain ⟨r, hr⟩ := State.topJava?_eq_some.mp hg0
  have hr' : (({ U with heap := s₂.heap, slotsUsed := s₂.slotsUsed } : State).setVm s₂.vm).frames = .java g₀ :: r := hr
  rcases hq' with ⟨hqc, L, hfe, hL⟩ | ⟨q, rfl, E, ce, L, hx, hce, hcv, hcl, hW₂, hsm, hL⟩
  · obtain ⟨⟨v, rfl⟩, hW₂, e2, q2, q3, q4, q5, q6⟩ := id hfe
    have e3 : s₂ = ({ (U.calling g mk a).setFrames s₂.frames with heap := s₂.heap, slotsUsed := s₂.slotsUsed } : State).setVm s₂.vm := by
      have : s₂ = ({ s₂ with vm := (U.calling g mk a).vm } : State).setVm s₂.vm := rfl
      rw [e2] at this
      exact this
    obtain ⟨c₂, i₂, len₂, hc₂, hd₂, hf₂⟩ := hend
    have hW' : U.WarmedH s₂.vm := hW₂
    have hcc : c₂ = c := by
      have h1 : s₂.code? g.method = U.code? g.method := by
        rw [State.code?_eq, State.code?_eq, hW'.alike.method?]
      exact Option.some.inj (hc₂.symm.trans (h1.trans h.code))
    subst hcc
    have hlen : len₂ = len := by rw [hdg] at hd₂; cases hd₂; rfl
    subst hlen
    have hs₂ : s₂ = (({ U with heap := s₂.heap, slotsUsed := s₂.slotsUsed } : State).setVm s₂.vm).setTop { g with pc := g.pc + len₂, stack := v.toList ++ g.stack } := by
      refine e3.trans ?_
      rw [hf₂, State.calling_eq h.top, State.setFrames_setFrames, State.setTop_of_frames _ hr', hr]
      rfl
    have hsame : U.sameButNew ({ U with heap := s₂.heap, slotsUsed := s₂.slotsUsed } : State) L mc ms := by
      refine ⟨?_, q2, q3, q4, q5, q6⟩
      obtain ⟨t, ht, -⟩ := State.frames_cons hr
      show ({ U with heap := s₂.heap, slotsUsed := s₂.slotsUsed } : State) = { U.setFrames U.frames with heap := s₂.heap, slotsUsed := s₂.slotsUsed }
      rw [State.setFrames_self ht]
    subst hg
    refine Or.inl ⟨v, ⟨(({ U with heap := s₂.heap, slotsUsed := s₂.slotsUsed } : State).setVm s₂.vm), Ls ++ L, c0 + mc, s0 + ms⟩,
      ⟨X.admits, X.cas, X.clock, X.frames, X.room, X.hears, X.method, X.code, (X.here.setHeapUsed s₂.heap s₂.slotsUsed).setVm hW'.alike, X.tail, State.WarmedH.trans X.warmed hW', X.limits, X.bytes, X.same.trans (hsame.setVm s.vm)⟩,
      ⟨g, mk, s₂, L, rfl, rfl, hqc, rfl, hL, rfl, rfl⟩, ?_⟩
    show Steps p.tables e below _ ((({ U with heap := s₂.heap, slotsUsed := s₂.slotsUsed } : State).setVm s₂.vm).setTop { g with pc := g.pc + len₂, stack := v.toList ++ g.stack })
    rw [← hs₂]
    exact hsteps
  · obtain ⟨e2, q2, q3, q4, q5, q6⟩ := id hsm
    have e3 : s₂ = ({ (U.calling g mk a).setFrames s₂.frames with heap := s₂.heap, slotsUsed := s₂.slotsUsed } : State).setVm s₂.vm := by
      have : s₂ = ({ s₂ with vm := (U.calling g mk a).vm } : State).setVm s₂.vm := rfl
      rw [e2] at this
      exact this
    have hf₂ : s₂.frames = .throwing q :: .java g :: U.frames.tail := hend
    have hW' : U.WarmedH s₂.vm := hW₂
    have hs₂ : s₂ = ((({ U with heap := s₂.heap, slotsUsed := s₂.slotsUsed } : State).setVm s₂.vm).setTop g).pushFrame (.throwing q) := by
      refine e3.trans ?_
      rw [hf₂, State.calling_eq h.top, State.setFrames_setFrames, State.pushFrame, State.frames_setTop _ hr', State.setTop_of_frames _ hr', State.setFrames_setFrames, hr]
      rfl
    have hsame : U.sameButNew ({ U with heap := s₂.heap, slotsUsed := s₂.slotsUsed } : State) L mc ms := by
      refine ⟨?_, q2, q3, q4, q5, q6⟩
      obtain ⟨t, ht, -⟩ := State.frames_cons hr
      show ({ U with heap := s₂.heap, slotsUsed := s₂.slotsUsed } : State) = { U.setFrames U.frames with heap := s₂.heap, slotsUsed := s₂.slotsUsed }
      rw [State.setFrames_self ht]
    subst hg
    refine Or.inr ⟨q, ⟨(({ U with heap := s₂.heap, slotsUsed := s₂.slotsUsed } : State).setVm s₂.vm), Ls ++ L, c0 + mc, s0 + ms⟩,
      ⟨X.admits, X.cas, X.clock, X.frames, X.room, X.hears, X.method, X.code, (X.here.setHeapUsed s₂.heap s₂.slotsUsed).setVm hW'.alike, X.tail, State.WarmedH.trans X.warmed hW', X.limits, X.bytes, X.same.trans (hsame.setVm s.vm)⟩,
      ⟨g, mk, s₂, L, E, ce, rfl, rfl, hx, hce, hcv, hcl, rfl, hL, rfl, rfl⟩, ?_⟩
    show Steps p.tables e below _ (((({ U with heap := s₂.heap, slotsUsed := s₂.slotsUsed } : State).setVm s₂.vm).setTop g).pushFrame (.throwing q))
    rw [← hs₂]
    exact hsteps
end
variable {p : Program} {l : Launch} {e : Env} {R : Room} {s : State} {m : MethodId} {args : Array Value} {below : List Frame} {meth : Method} {c : Code} {T : State} {H : Heap} {locs : List Loc} {cells slots : Nat}
theorem vx_callVX (X : Stand p l e R s m args below meth c T locs cells slots) (hexec : p.tables.exec = Jvm.exec) {own C : String} {index : Nat} {y : MethodName} {bytes : ByteArray} {maxL : Nat} {ret : Option FieldType} {hh : List (Nat × Nat × Nat × Nat)}
    (hown : s.vm.findClass own = some m.cls) (hlink : (Cond.methodLink own index y).before args s = true) (hinst : (Cond.instanceMethod y).before args s = true) (hsel : (Cond.selects C y y).before args s = true)
    (hcode : (Cond.codeWith y bytes maxL ret hh).before args s = true) (hy : y.cls ≠ "java/lang/invoke/MethodHandle" ∧ y.cls ≠ "java/lang/invoke/VarHandle")
    {W9 : Nat} {Pre : Pt → Array Value → Prop} {Post : Pt → Array Value → Option Value → Pt → Prop} {PostX : Pt → Array Value → Addr → Pt → Prop} (hK : vx_Back l R p e below s args y 3 W9 Pre Post PostX)
    {b : Addr} {cellB : Cell} (hcell : T.heap[b]? = some cellB) (hobj : cellB.vm.isStatics = false) (hcls : s.vm.findClass C = some cellB.cls)
    {g : JFrame} (hg : g.method = m) (hsize : g.locals.size = c.maxLocals) {argsL rest : List Value} (hlen : ∀ sig, parseMethodDescriptor y.desc = some sig → argsL.length = sig.parameters.length)
    (hstack : g.stack = argsL.reverse ++ .ref b :: rest) (hW : 2 * g.monitorRoom + (rest.map fun v => v.category).sum ≤ W9) (hdg : decode c.code g.pc = .ok (.invokevirtual index, 3))
    (hpre : ∀ vm₁, s.WarmedH vm₁ → Pre ⟨T.setVm vm₁, locs, cells, slots⟩ (Value.ref b :: argsL).toArray) :
    (∃ (v : Option Value) (vm₁ : Vm) (B : Pt), s.WarmedH vm₁ ∧ Stand p l e R s m args below meth c B.U B.locs B.cells B.slots ∧ Post ⟨T.setVm vm₁, locs, cells, slots⟩ (Value.ref b :: argsL).toArray v B ∧
      ∀ target, Steps p.tables e below (B.U.setTop { g with pc := g.pc + 3, stack := v.toList ++ rest }) target → Steps p.tables e below (T.setTop g) target) ∨
    (∃ (q : Addr) (vm₁ : Vm) (B : Pt), s.WarmedH vm₁ ∧ Stand p l e R s m args below meth c B.U B.locs B.cells B.slots ∧ PostX ⟨T.setVm vm₁, locs, cells, slots⟩ (Value.ref b :: argsL).toArray q B ∧
      Steps p.tables e below (T.setTop g) ((B.U.setTop { g with stack := rest }).pushFrame (.throwing q))) := by
  obtain ⟨mk, methM, hnamed, hmethM, hstM, habM⟩ := Cond.instanceMethod_spec hinst
  obtain ⟨m8, methM', cM, hn8, hmethM', -, -, -, -, -, -, hsigM⟩ := Cond.codeWith_spec hcode
  cases Option.some.inj (hn8.symm.trans hnamed)
  cases hmethM.symm.trans hmethM'
  obtain ⟨c2, r2, m2, q1, q2, q3, q4, kP, hkP, hkPi⟩ := Cond.selects_spec hsel
  cases hcls.symm.trans q1
  cases (State.methodFound?_of_named hnamed hy).symm.trans q2
  cases hnamed.symm.trans q3
  have hselP : selectMethod e.platform s.vm cellB.cls mk = .method mk := by rw [Launch.admits_selectMethod X.admits]; exact q4
  obtain ⟨vm₁, X₁, hstep₁⟩ := X.invokevirtual hexec hown hlink hnamed hmethM hstM hkP hkPi hy (a := b) (cell := cellB) hcell
    (fun z h => by rw [h] at hobj; cases hobj) hselP hmethM habM hkP hkPi (g := g) hg (argsL := argsL) (rest := rest) (hlen _ hsigM) hstack hdg
  rcases hK m meth c ⟨T.setVm vm₁, locs, cells, slots⟩ { g with stack := rest } (.invokevirtual index) mk (Value.ref b :: argsL).toArray X₁ hg hsize hdg hW (X₁.named hnamed) (hpre vm₁ X₁.warmed) with ⟨v, B, X', hpost, hsteps⟩ | ⟨q, B, X', hpost, hsteps⟩
  · exact Or.inl ⟨v, vm₁, B, X₁.warmed, X', hpost, fun target h => hstep₁ _ fun acts => by rw [doInvoke_state]; exact hsteps.trans h⟩
  · exact Or.inr ⟨q, vm₁, B, X₁.warmed, X', hpost, hstep₁ _ fun acts => by rw [doInvoke_state]; exact hsteps⟩
theorem vx_callSX (X : Stand p l e R s m args below meth c T locs cells slots) (hexec : p.tables.exec = Jvm.exec) {own : String} {index : Nat} {y : MethodName} {bytes : ByteArray} {maxL : Nat} {ret : Option FieldType} {hh : List (Nat × Nat × Nat × Nat)}
    (hown : s.vm.findClass own = some m.cls) (hlink : (Cond.methodLink own index y).before args s = true) (hstat : (Cond.static y).before args s = true) (hinit : (Cond.initialized y.cls).before args s = true)
    (hcode : (Cond.codeWith y bytes maxL ret hh).before args s = true) (hy : y.cls ≠ "java/lang/invoke/MethodHandle" ∧ y.cls ≠ "java/lang/invoke/VarHandle")
    {W9 : Nat} {Pre : Pt → Array Value → Prop} {Post : Pt → Array Value → Option Value → Pt → Prop} {PostX : Pt → Array Value → Addr → Pt → Prop} (hK : vx_Back l R p e below s args y 3 W9 Pre Post PostX)
    {g : JFrame} (hg : g.method = m) (hsize : g.locals.size = c.maxLocals) {argsL rest : List Value} (hlen : ∀ sig, parseMethodDescriptor y.desc = some sig → argsL.length = sig.parameters.length)
    (hstack : g.stack = argsL.reverse ++ rest) (hW : 2 * g.monitorRoom + (rest.map fun v => v.category).sum ≤ W9) (hdg : decode c.code g.pc = .ok (.invokestatic index, 3))
    (hpre : ∀ vm₁, s.WarmedH vm₁ → Pre ⟨T.setVm vm₁, locs, cells, slots⟩ argsL.toArray) :
    (∃ (v : Option Value) (vm₁ : Vm) (B : Pt), s.WarmedH vm₁ ∧ Stand p l e R s m args below meth c B.U B.locs B.cells B.slots ∧ Post ⟨T.setVm vm₁, locs, cells, slots⟩ argsL.toArray v B ∧
      ∀ target, Steps p.tables e below (B.U.setTop { g with pc := g.pc + 3, stack := v.toList ++ rest }) target → Steps p.tables e below (T.setTop g) target) ∨
    (∃ (q : Addr) (vm₁ : Vm) (B : Pt), s.WarmedH vm₁ ∧ Stand p l e R s m args below meth c B.U B.locs B.cells B.slots ∧ PostX ⟨T.setVm vm₁, locs, cells, slots⟩ argsL.toArray q B ∧
      Steps p.tables e below (T.setTop g) ((B.U.setTop { g with stack := rest }).pushFrame (.throwing q))) := by
  obtain ⟨mk, methM, cM, hnamed, hmethM, -, -, -, -, -, -, hsigM⟩ := Cond.codeWith_spec hcode
  have hstatic : methM.isStatic = true := Cond.static_spec hnamed hmethM hstat
  obtain ⟨kP, hkP, -⟩ := className_of_methodNamed hnamed
  have hinitP : kP.init = .initialized := Cond.initialized_spec (findClass_of_methodNamed hnamed) hkP hinit
  obtain ⟨vm₁, X₁, hstep₁⟩ := X.invokestatic hexec hown hlink hnamed hmethM hstatic hkP hinitP hy (g := g) hg (argsL := argsL) (rest := rest) (hlen _ hsigM) hstack hdg
  rcases hK m meth c ⟨T.setVm vm₁, locs, cells, slots⟩ { g with stack := rest } (.invokestatic index) mk argsL.toArray X₁ hg hsize hdg hW (X₁.named hnamed) (hpre vm₁ X₁.warmed) with ⟨v, B, X', hpost, hsteps⟩ | ⟨q, B, X', hpost, hsteps⟩
  · exact Or.inl ⟨v, vm₁, B, X₁.warmed, X', hpost, fun target h => hstep₁ _ fun acts => by rw [doInvoke_state]; exact hsteps.trans h⟩
  · exact Or.inr ⟨q, vm₁, B, X₁.warmed, X', hpost, hstep₁ _ fun acts => by rw [doInvoke_state]; exact hsteps⟩
theorem vx_callVW (X : Stand p l e R s m args below meth c T locs cells slots) (hexec : p.tables.exec = Jvm.exec) {own C : String} {index : Nat} {y : MethodName} {bytes : ByteArray} {maxL : Nat} {ret : Option FieldType} {hh : List (Nat × Nat × Nat × Nat)}
    (hown : s.vm.findClass own = some m.cls) (hlink : (Cond.methodLink own index y).before args s = true) (hinst : (Cond.instanceMethod y).before args s = true) (hsel : (Cond.selects C y y).before args s = true)
    (hcode : (Cond.codeWith y bytes maxL ret hh).before args s = true) (hy : y.cls ≠ "java/lang/invoke/MethodHandle" ∧ y.cls ≠ "java/lang/invoke/VarHandle")
    {W9 : Nat} {Pre : Pt → Array Value → Prop} {Post : Pt → Array Value → Option Value → Pt → Prop} (hK : Back l R p e below s args y 3 W9 Pre Post)
    {b : Addr} {cellB : Cell} (hcell : T.heap[b]? = some cellB) (hobj : cellB.vm.isStatics = false) (hcls : s.vm.findClass C = some cellB.cls)
    {g : JFrame} (hg : g.method = m) (hsize : g.locals.size = c.maxLocals) {argsL rest : List Value} (hlen : ∀ sig, parseMethodDescriptor y.desc = some sig → argsL.length = sig.parameters.length)
    (hstack : g.stack = argsL.reverse ++ .ref b :: rest) (hW : 2 * g.monitorRoom + (rest.map fun v => v.category).sum ≤ W9) (hdg : decode c.code g.pc = .ok (.invokevirtual index, 3))
    (hpre : ∀ vm₁, s.WarmedH vm₁ → Pre ⟨T.setVm vm₁, locs, cells, slots⟩ (Value.ref b :: argsL).toArray) :
    ∃ (v : Option Value) (vm₁ : Vm) (B : Pt), s.WarmedH vm₁ ∧ Stand p l e R s m args below meth c B.U B.locs B.cells B.slots ∧ Post ⟨T.setVm vm₁, locs, cells, slots⟩ (Value.ref b :: argsL).toArray v B ∧
      ∀ target, Steps p.tables e below (B.U.setTop { g with pc := g.pc + 3, stack := v.toList ++ rest }) target → Steps p.tables e below (T.setTop g) target := by
  obtain ⟨mk, methM, hnamed, hmethM, hstM, habM⟩ := Cond.instanceMethod_spec hinst
  obtain ⟨m8, methM', cM, hn8, hmethM', -, -, -, -, -, -, hsigM⟩ := Cond.codeWith_spec hcode
  cases Option.some.inj (hn8.symm.trans hnamed)
  cases hmethM.symm.trans hmethM'
  obtain ⟨c2, r2, m2, q1, q2, q3, q4, kP, hkP, hkPi⟩ := Cond.selects_spec hsel
  cases hcls.symm.trans q1
  cases (State.methodFound?_of_named hnamed hy).symm.trans q2
  cases hnamed.symm.trans q3
  have hselP : selectMethod e.platform s.vm cellB.cls mk = .method mk := by rw [Launch.admits_selectMethod X.admits]; exact q4
  obtain ⟨vm₁, X₁, hstep₁⟩ := X.invokevirtual hexec hown hlink hnamed hmethM hstM hkP hkPi hy (a := b) (cell := cellB) hcell
    (fun z h => by rw [h] at hobj; cases hobj) hselP hmethM habM hkP hkPi (g := g) hg (argsL := argsL) (rest := rest) (hlen _ hsigM) hstack hdg
  obtain ⟨v, B, X', hpost, hsteps⟩ := hK m meth c ⟨T.setVm vm₁, locs, cells, slots⟩ { g with stack := rest } (.invokevirtual index) mk (Value.ref b :: argsL).toArray X₁ hg hsize hdg hW (X₁.named hnamed) (hpre vm₁ X₁.warmed)
  exact ⟨v, vm₁, B, X₁.warmed, X', hpost, fun target h => hstep₁ _ fun acts => by rw [doInvoke_state]; exact hsteps.trans h⟩
abbrev vx_CVW (R : Room) (s : State) (args : Array Value) (own C : String) (index : Nat) (y : MethodName) (bytes : ByteArray) (maxL : Nat) (ret : Option FieldType) (hh : List (Nat × Nat × Nat × Nat)) (ws : List Cond) (rm : Room) (mc ms n : Nat) : Prop :=
  (rm.cells = mc ∧ rm.slots = ms ∧ rm.frames + 1 ≤ R.frames ∧ 8 + (maxL + 11) + rm.locals ≤ R.locals ∧ (∀ w ∈ ws, ∀ (a' : Array Value) (U : State), s.WarmedH U.vm → w.before a' U = true) ∧ Cond.codeWith y bytes maxL ret hh ∈ ws) ∧
  (Cond.codeWith y bytes maxL ret hh).before args s = true ∧ (Cond.initialized y.cls).before args s = true ∧ (y.cls ≠ "java/lang/invoke/MethodHandle" ∧ y.cls ≠ "java/lang/invoke/VarHandle") ∧
  (∀ sig, parseMethodDescriptor y.desc = some sig → n = sig.parameters.length) ∧ (Cond.methodLink own index y).before args s = true ∧ (Cond.instanceMethod y).before args s = true ∧ (Cond.selects C y y).before args s = true
theorem vx_cwVW {own C : String} {index maxL mc ms : Nat} {y : MethodName} {bytes : ByteArray} {ret : Option FieldType} {hh : List (Nat × Nat × Nat × Nat)} {Ts ws ws' : List Cond} {rm : Room} (n : Nat) (ht : ∀ w ∈ Ts, w.before args s = true) (hT : GoodIn Ts (wsV own index C y ws)) (hw : ws = Cond.codeWith y bytes maxL ret hh :: ws') (hrc : rm.cells = mc) (hrs : rm.slots = ms)
    (hd : y.cls = C ∧ y.cls ≠ "java/lang/invoke/MethodHandle" ∧ y.cls ≠ "java/lang/invoke/VarHandle" ∧ (parseMethodDescriptor y.desc).map (fun d => d.parameters.length) = some n) (hR : rm.frames + 1 ≤ R.frames ∧ 8 + (maxL + 11) + rm.locals ≤ R.locals) :
    vx_CVW R s args own C index y bytes maxL ret hh ws rm mc ms n := by
  obtain ⟨hC, hd⟩ := hd
  subst hC
  have ok : ∀ w ∈ wsV own index y.cls y ws, w.before args s = true := fun w h => ht w (hT w h).1
  have hG : GoodIn Ts ws := fun w h => hT w (by unfold wsV; exact List.mem_append_right _ h)
  have hc : Cond.codeWith y bytes maxL ret hh ∈ ws := by rw [hw]; exact List.mem_cons_self
  refine ⟨⟨hrc, hrs, hR.1, hR.2, pay_in ht hG, hc⟩, ht _ (hG _ hc).1, ok _ (by simp [wsV]), ⟨hd.1, hd.2.1⟩, fun sig h => ?_, ok _ (by simp [wsV]), ok _ (by simp [wsV]), ok _ (by simp [wsV])⟩
  have h2 := hd.2.2
  rw [h] at h2
  exact (Option.some.inj h2).symm
theorem vx_runVW {y : MethodName} {bytes cc : ByteArray} {maxL nL mc ms n index : Nat} {ret : Option FieldType} {hh : List (Nat × Nat × Nat × Nat)} {ws : List Cond} {rm : Room} {Pc : Array Value → State → Prop} {Qc : Array Value → State → Outcome → State → Prop} {free : Addr → Prop} {Ts : List Cond} {own C : String} {b : Addr} {As rest : List Value} {g : JFrame}
    (S : CallFix p m c cc nL s args Ts own) (hM : Met l y ws rm Pc Qc mc ms free) (cw : vx_CVW R s args own C index y bytes maxL ret hh ws rm mc ms n) (hp : PreV s H C b Pc As)
    (hg : g.method = m) (hn : As.length = n) (hsize : g.locals.size = nL) (hstack : g.stack = As.reverse ++ .ref b :: rest) (hW : 2 * g.monitorRoom + (rest.map fun v => v.category).sum ≤ 8) (hdg : decode cc g.pc = .ok (.invokevirtual index, 3)) (hf : cells + mc ≤ R.cells ∧ slots + ms ≤ R.slots) :
    va_Run p l e R s m args below meth c H locs cells slots mc ms g rest (Qc (Value.ref b :: As).toArray) free := by
  obtain ⟨⟨hrc, hrs, hfr, hlo, hws, hcw⟩, hcode, hini, hy, hlen, hl, hin, hse⟩ := cw
  have hK : Back l R p e below s args y 3 8 (PreOf R mc ms Pc) (PostOf Qc mc ms free) := va_backW (hh := hh) (bytes := bytes) (maxL := maxL) (ret := ret) hM hp.1 hrc hrs hfr hlo hws hcw (fun a' U hW => word_at hW (Or.inl (by first | rfl | simp [Cond.onTables, Cond.keeps, Cond.steady])) hini)
  obtain ⟨hx, hb, hml, ho, -⟩ := S
  obtain ⟨-, ⟨cellB, hcB, hoB, hclB⟩, hPc⟩ := hp
  intro T hT X
  obtain ⟨v, vm₁, ⟨U', l2, c2, s2⟩, hW₁, X', ⟨g', mk, t, L, e1, e2, hq, h1, hL, h2, h3⟩, st⟩ := vx_callVW X hx (C := C) (hh := hh) (bytes := bytes) (maxL := maxL) (ret := ret) ho hl hin hse hcode hy hK (by rw [hT]; exact hcB) hoB hclB hg (hsize.trans hml.symm) (argsL := As) (rest := rest) (fun sig h => hn.trans (hlen sig h)) hstack hW (by rw [hb]; exact hdg)
    (fun vm₁ hW₁ => ⟨hf.1, hf.2, hPc (T.setVm vm₁) hT hW₁⟩)
  dsimp only [Pt.U, Pt.locs, Pt.cells, Pt.slots] at X' e1 e2 h1 h2 h3 st
  subst h1; subst h2; subst h3
  exact ⟨v, (T.setVm vm₁).calling g' mk (Value.ref b :: As).toArray, t, U', L, hT, X', hL, e1, e2, hq, st⟩
section
variable {y : MethodName} {bytes cc : ByteArray} {maxL nL mc ms n index : Nat} {ret : Option FieldType} {ws : List Cond} {rm : Room} {Pc : Array Value → State → Prop} {Qc : Array Value → State → Outcome → State → Prop} {XC : String → State → State → Prop} {free : Addr → Prop} {Ts : List Cond} {own C : String} {b : Addr} {As rest : List Value} {g : JFrame}
theorem vx_runVX {hh : List (Nat × Nat × Nat × Nat)} (S : CallFix p m c cc nL s args Ts own) (hM : vx_Met l y ws rm Pc Qc XC mc ms free) (cw : vx_CVW R s args own C index y bytes maxL ret hh ws rm mc ms n) (hp : PreV s H C b Pc As)
    (hg : g.method = m) (hn : As.length = n) (hsize : g.locals.size = nL) (hstack : g.stack = As.reverse ++ .ref b :: rest) (hW : 2 * g.monitorRoom + (rest.map fun v => v.category).sum ≤ 8) (hdg : decode cc g.pc = .ok (.invokevirtual index, 3)) (hf : cells + mc ≤ R.cells ∧ slots + ms ≤ R.slots) :
    vx_Run p l e R s m args below meth c H locs cells slots mc ms g rest (Qc (Value.ref b :: As).toArray) XC free := by
  obtain ⟨⟨hrc, hrs, hfr, hlo, hws, hcw⟩, hcode, hini, hy, hlen, hl, hin, hse⟩ := cw
  have hK : vx_Back l R p e below s args y 3 8 (PreOf R mc ms Pc) (PostOf Qc mc ms free) (vx_Post XC mc ms free) := vx_backW (hh := hh) (bytes := bytes) (maxL := maxL) (ret := ret) hM hp.1 hrc hrs hfr hlo hws hcw (fun a' U hW => word_at hW (Or.inl (by first | rfl | simp [Cond.onTables, Cond.keeps, Cond.steady])) hini)
  obtain ⟨hx, hb, hml, ho, -⟩ := S
  obtain ⟨-, ⟨cellB, hcB, hoB, hclB⟩, hPc⟩ := hp
  intro T hT X
  rcases vx_callVX X hx (C := C) (hh := hh) (bytes := bytes) (maxL := maxL) (ret := ret) ho hl hin hse hcode hy hK (by rw [hT]; exact hcB) hoB hclB hg (hsize.trans hml.symm) (argsL := As) (rest := rest) (fun sig h => hn.trans (hlen sig h)) hstack hW (by rw [hb]; exact hdg)
    (fun vm₁ hW₁ => ⟨hf.1, hf.2, hPc (T.setVm vm₁) hT hW₁⟩) with ⟨v, vm₁, ⟨U', l2, c2, s2⟩, hW₁, X', ⟨g', mk, t, L, e1, e2, hq, h1, hL, h2, h3⟩, st⟩ | ⟨q, vm₁, ⟨U', l2, c2, s2⟩, hW₁, X', ⟨g', mk, t, L, E, ce, e1, e2, hq, hce, hcv, hcl, h1, hL, h2, h3⟩, st⟩
  · dsimp only [Pt.U, Pt.locs, Pt.cells, Pt.slots] at X' e1 e2 h1 h2 h3 st
    subst h1; subst h2; subst h3
    exact Or.inl ⟨v, (T.setVm vm₁).calling g' mk (Value.ref b :: As).toArray, t, U', L, hT, X', hL, e1, e2, hq, st⟩
  · dsimp only [Pt.U, Pt.locs, Pt.cells, Pt.slots] at X' e1 e2 h1 h2 h3 st hcl
    subst h1; subst h2; subst h3
    exact Or.inr ⟨q, (T.setVm vm₁).calling g' mk (Value.ref b :: As).toArray, t, U', L, E, ce, hT, X', hL, e1, e2, hq, hce, hcv, vx_cls hW₁ hcl, st⟩
theorem vx_runSX {hh : List (Nat × Nat × Nat × Nat)} (S : CallFix p m c cc nL s args Ts own) (hM : vx_Met l y ws rm Pc Qc XC mc ms free) (cw : vx_CSW R s args own index y bytes maxL ret hh ws rm mc ms n) (hp : PreS s H Pc As)
    (hg : g.method = m) (hn : As.length = n) (hsize : g.locals.size = nL) (hstack : g.stack = As.reverse ++ rest) (hW : 2 * g.monitorRoom + (rest.map fun v => v.category).sum ≤ 8) (hdg : decode cc g.pc = .ok (.invokestatic index, 3)) (hf : cells + mc ≤ R.cells ∧ slots + ms ≤ R.slots) :
    vx_Run p l e R s m args below meth c H locs cells slots mc ms g rest (Qc As.toArray) XC free := by
  obtain ⟨⟨hrc, hrs, hfr, hlo, hws, hcw⟩, hcode, hini, hy, hlen, hl, hstt⟩ := cw
  have hK : vx_Back l R p e below s args y 3 8 (PreOf R mc ms Pc) (PostOf Qc mc ms free) (vx_Post XC mc ms free) := vx_backW (hh := hh) (bytes := bytes) (maxL := maxL) (ret := ret) hM hp.1 hrc hrs hfr hlo hws hcw (fun a' U hW => word_at hW (Or.inl (by first | rfl | simp [Cond.onTables, Cond.keeps, Cond.steady])) hini)
  obtain ⟨hx, hb, hml, ho, -⟩ := S
  intro T hT X
  rcases vx_callSX X hx (hh := hh) (bytes := bytes) (maxL := maxL) (ret := ret) ho hl hstt hini hcode hy hK hg (hsize.trans hml.symm) (argsL := As) (rest := rest) (fun sig h => hn.trans (hlen sig h)) hstack hW (by rw [hb]; exact hdg)
    (fun vm₁ hW₁ => ⟨hf.1, hf.2, hp.2 (T.setVm vm₁) hT hW₁⟩) with ⟨v, vm₁, ⟨U', l2, c2, s2⟩, hW₁, X', ⟨g', mk, t, L, e1, e2, hq, h1, hL, h2, h3⟩, st⟩ | ⟨q, vm₁, ⟨U', l2, c2, s2⟩, hW₁, X', ⟨g', mk, t, L, E, ce, e1, e2, hq, hce, hcv, hcl, h1, hL, h2, h3⟩, st⟩
  · dsimp only [Pt.U, Pt.locs, Pt.cells, Pt.slots] at X' e1 e2 h1 h2 h3 st
    subst h1; subst h2; subst h3
    exact Or.inl ⟨v, (T.setVm vm₁).calling g' mk As.toArray, t, U', L, hT, X', hL, e1, e2, hq, st⟩
  · dsimp only [Pt.U, Pt.locs, Pt.cells, Pt.slots] at X' e1 e2 h1 h2 h3 st hcl
    subst h1; subst h2; subst h3
    exact Or.inr ⟨q, (T.setVm vm₁).calling g' mk As.toArray, t, U', L, E, ce, hT, X', hL, e1, e2, hq, hce, hcv, vx_cls hW₁ hcl, st⟩
end
end VXH
theorem vx_ofWH {l : Launch} {y : MethodName} {ws ws' : List Cond} {rm : Room} {Pc : Array Value → State → Prop} {Qc : Array Value → State → Outcome → State → Prop} {XC : String → State → State → Prop} {mc ms : Nat} {free : Addr → Prop} {cc : ByteArray} {maxL : Nat} {ret : Option FieldType} {hh : List (Nat × Nat × Nat × Nat)}
    (hy : plainName y.cls = true) (hw : ws = Cond.codeWith y cc maxL ret hh :: ws')
    (body : ∀ p e s m args below meth c s₁, BodyLoose p l y (headSpec ws rm) cc maxL ret e s m args below meth c s₁ → c.maxLocals = maxL → Pc args s →
      W p l e (headSpec ws rm).room s m args below meth c s.heap [] 0 0 (vx_MQ below Qc XC args s mc ms free) (entryFrame m args maxL)) : vx_Met l y ws rm Pc Qc XC mc ms free := by
  refine MetFree.of_bodyS (code := cc) (maxLocals := maxL) (ret := ret) hy ?_ ?_
  · intro args s m h hn
    obtain ⟨m9, meth, c, hn9, h1, h2, h3, h4, -, h5, h6, -⟩ := Cond.codeWith_spec (atoms_spec (ws := ws) h _ (by rw [hw]; exact List.mem_cons_self))
    cases hn.symm.trans hn9
    exact ⟨meth, c, h1, h2, h3, h4, h5, h6⟩
  · intro p e s m args below meth c s₁ B hml hP _
    have hh0 : s₁.heap = s.heap := by rw [B.state]; rfl
    obtain ⟨t, a1, o, b1, b2, b3⟩ := body p e s m args below meth c s₁ B hml hP s₁ hh0 (Stand.of_body B)
    exact ⟨t, o, a1, b1, b2, b3⟩
/-! ===== END ===== -/
end
section
/-! names: classes, fields, methods, words in the tables, by program (wip/whole/gen/mknames.py) -/
def TBL : List Cond := lw_tbl.filter goodWord
theorem mT {w : Cond} (h : w ∈ tables_1) (g : goodWord w = true) : w ∈ TBL := List.mem_filter.mpr ⟨List.mem_append_right _ h, g⟩
theorem mS {q : MethodName × Nat} (h : q ∈ lw_privs) (g : goodWord (Cond.selects q.1.cls q.1 q.1) = true) : Cond.selects q.1.cls q.1 q.1 ∈ TBL := List.mem_filter.mpr ⟨List.mem_append_left _ (List.mem_map.mpr ⟨q, h, rfl⟩), g⟩
def T_A : u_T := fun k => match k with
  | 0 => ("java/util/AbstractList", "modCount", "I", false)
  | 1 => ("java/util/ArrayList", "elementData", "[Ljava/lang/Object;", false)
  | _ => ("java/util/ArrayList", "size", "I", false)
def ty_A : Nat → FieldType := fun k => match k with
  | 0 => .int
  | 1 => (.array (.object "java/lang/Object"))
  | _ => .int
theorem nm_A : ∀ a, a < 3 → ∀ b, b < 3 → a ≠ b → (T_A a).2.1 ≠ (T_A b).2.1 := by decide +kernel
theorem tyk_A : ∀ k, k < 3 → parseFieldDescriptor (T_A k).2.2.1 = some (ty_A k) := by decide +kernel
def T_C : u_T := fun k => match k with
  | 0 => ("RuleClasses", "most", "I", true)
  | 1 => ("RuleClasses", "editions", "Ljava/util/ArrayList;", true)
  | 2 => ("RuleClasses", "kept", "Ljava/util/ArrayList;", true)
  | 3 => ("RuleClasses", "facts", "LRuleClasses$Facts;", true)
  | 4 => ("RuleClasses", "run", "LRuleClasses$Run;", true)
  | 5 => ("RuleClasses", "runBeside", "LRuleClasses$Run;", true)
  | 6 => ("RuleClasses", "fallbacks", "[I", true)
  | 7 => ("RuleClasses", "failures", "[I", true)
  | 8 => ("RuleClasses", "shadows", "[I", true)
  | 9 => ("RuleClasses", "differences", "[I", true)
  | 10 => ("RuleClasses", "day", "I", false)
  | 11 => ("RuleClasses", "questions", "I", false)
  | 12 => ("RuleClasses", "handles", "I", false)
  | 13 => ("RuleClasses", "livingHandle", "I", false)
  | _ => ("RuleClasses", "handledEdition", "I", false)
def ty_C : Nat → FieldType := fun k => match k with
  | 0 => .int
  | 1 => (.object "java/util/ArrayList")
  | 2 => (.object "java/util/ArrayList")
  | 3 => (.object "RuleClasses$Facts")
  | 4 => (.object "RuleClasses$Run")
  | 5 => (.object "RuleClasses$Run")
  | 6 => (.array .int)
  | 7 => (.array .int)
  | 8 => (.array .int)
  | 9 => (.array .int)
  | 10 => .int
  | 11 => .int
  | 12 => .int
  | 13 => .int
  | _ => .int
theorem nm_C : ∀ a, a < 15 → ∀ b, b < 15 → a ≠ b → (T_C a).2.1 ≠ (T_C b).2.1 := by decide +kernel
theorem tyk_C : ∀ k, k < 15 → parseFieldDescriptor (T_C k).2.2.1 = some (ty_C k) := by decide +kernel
def T_E : u_T := fun k => match k with
  | 0 => ("RuleClasses$Edition", "owner", "I", true)
  | 1 => ("RuleClasses$Edition", "kind", "I", true)
  | 2 => ("RuleClasses$Edition", "day", "I", true)
  | 3 => ("RuleClasses$Edition", "ops", "[I", true)
  | 4 => ("RuleClasses$Edition", "constants", "[I", true)
  | 5 => ("RuleClasses$Edition", "length", "I", false)
  | 6 => ("RuleClasses$Edition", "made", "Z", false)
  | 7 => ("RuleClasses$Edition", "timesAsked", "I", false)
  | 8 => ("RuleClasses$Edition", "stepsAsked", "I", false)
  | _ => ("RuleClasses$Edition", "timesFailed", "I", false)
def ty_E : Nat → FieldType := fun k => match k with
  | 0 => .int
  | 1 => .int
  | 2 => .int
  | 3 => (.array .int)
  | 4 => (.array .int)
  | 5 => .int
  | 6 => .boolean
  | 7 => .int
  | 8 => .int
  | _ => .int
theorem nm_E : ∀ a, a < 10 → ∀ b, b < 10 → a ≠ b → (T_E a).2.1 ≠ (T_E b).2.1 := by decide +kernel
theorem tyk_E : ∀ k, k < 10 → parseFieldDescriptor (T_E k).2.2.1 = some (ty_E k) := by decide +kernel
def T_F : u_T := fun k => match k with
  | _ => ("RuleClasses$Facts", "values", "[I", true)
def ty_F : Nat → FieldType := fun k => match k with
  | _ => (.array .int)
theorem nm_F : ∀ a, a < 1 → ∀ b, b < 1 → a ≠ b → (T_F a).2.1 ≠ (T_F b).2.1 := by decide +kernel
theorem tyk_F : ∀ k, k < 1 → parseFieldDescriptor (T_F k).2.2.1 = some (ty_F k) := by decide +kernel
def T_U : u_T := fun k => match k with
  | 0 => ("RuleClasses$Run", "most", "I", true)
  | 1 => ("RuleClasses$Run", "stack", "[I", true)
  | 2 => ("RuleClasses$Run", "height", "I", false)
  | 3 => ("RuleClasses$Run", "next", "I", false)
  | 4 => ("RuleClasses$Run", "outcome", "I", false)
  | 5 => ("RuleClasses$Run", "answer", "I", false)
  | _ => ("RuleClasses$Run", "steps", "I", false)
def ty_U : Nat → FieldType := fun k => match k with
  | 0 => .int
  | 1 => (.array .int)
  | 2 => .int
  | 3 => .int
  | 4 => .int
  | 5 => .int
  | _ => .int
theorem nm_U : ∀ a, a < 7 → ∀ b, b < 7 → a ≠ b → (T_U a).2.1 ≠ (T_U b).2.1 := by decide +kernel
theorem tyk_U : ∀ k, k < 7 → parseFieldDescriptor (T_U k).2.2.1 = some (ty_U k) := by decide +kernel
def T_M : u_T := fun k => match k with
  | 0 => ("RuleClassesModel", "most", "I", true)
  | 1 => ("RuleClassesModel", "editions", "I", false)
  | 2 => ("RuleClassesModel", "day", "I", false)
  | 3 => ("RuleClassesModel", "thrown", "I", false)
  | 4 => ("RuleClassesModel", "questions", "I", false)
  | 5 => ("RuleClassesModel", "kept", "I", false)
  | 6 => ("RuleClassesModel", "handles", "I", false)
  | 7 => ("RuleClassesModel", "handled", "I", false)
  | 8 => ("RuleClassesModel", "owner", "[I", true)
  | 9 => ("RuleClassesModel", "kind", "[I", true)
  | 10 => ("RuleClassesModel", "from", "[I", true)
  | 11 => ("RuleClassesModel", "made", "[Z", true)
  | 12 => ("RuleClassesModel", "asked", "[I", true)
  | 13 => ("RuleClassesModel", "stepsOf", "[I", true)
  | 14 => ("RuleClassesModel", "fails", "[I", true)
  | 15 => ("RuleClassesModel", "many", "[I", true)
  | 16 => ("RuleClassesModel", "ops", "[I", true)
  | 17 => ("RuleClassesModel", "constants", "[I", true)
  | 18 => ("RuleClassesModel", "facts", "[I", true)
  | 19 => ("RuleClassesModel", "keptFacts", "[I", true)
  | 20 => ("RuleClassesModel", "fallbacks", "[I", true)
  | 21 => ("RuleClassesModel", "failures", "[I", true)
  | 22 => ("RuleClassesModel", "shadows", "[I", true)
  | 23 => ("RuleClassesModel", "others", "[I", true)
  | 24 => ("RuleClassesModel", "stack", "[J", true)
  | 25 => ("RuleClassesModel", "put", "I", false)
  | 26 => ("RuleClassesModel", "steps", "I", false)
  | 27 => ("RuleClassesModel", "next", "I", false)
  | 28 => ("RuleClassesModel", "answer", "J", false)
  | _ => ("RuleClassesModel", "given", "[I", true)
def ty_M : Nat → FieldType := fun k => match k with
  | 0 => .int
  | 1 => .int
  | 2 => .int
  | 3 => .int
  | 4 => .int
  | 5 => .int
  | 6 => .int
  | 7 => .int
  | 8 => (.array .int)
  | 9 => (.array .int)
  | 10 => (.array .int)
  | 11 => (.array .boolean)
  | 12 => (.array .int)
  | 13 => (.array .int)
  | 14 => (.array .int)
  | 15 => (.array .int)
  | 16 => (.array .int)
  | 17 => (.array .int)
  | 18 => (.array .int)
  | 19 => (.array .int)
  | 20 => (.array .int)
  | 21 => (.array .int)
  | 22 => (.array .int)
  | 23 => (.array .int)
  | 24 => (.array .long)
  | 25 => .int
  | 26 => .int
  | 27 => .int
  | 28 => .long
  | _ => (.array .int)
theorem nm_M : ∀ a, a < 30 → ∀ b, b < 30 → a ≠ b → (T_M a).2.1 ≠ (T_M b).2.1 := by decide +kernel
theorem tyk_M : ∀ k, k < 30 → parseFieldDescriptor (T_M k).2.2.1 = some (ty_M k) := by decide +kernel
abbrev vwCl : List vw_C := [("java/util/ArrayList", T_A, 3), ("RuleClasses", T_C, 15), ("RuleClasses$Edition", T_E, 10), ("RuleClasses$Facts", T_F, 1), ("RuleClasses$Run", T_U, 7), ("RuleClassesModel", T_M, 30)]
def y_C_init : MethodName := ⟨"RuleClasses", "<init>", "(I)V"⟩
abbrev b_C_init : ByteArray := prog_1_method_1_code
def y_A_init : MethodName := ⟨"java/util/ArrayList", "<init>", "()V"⟩
abbrev b_A_init : ByteArray := prog_22_method_2_code
def y_AL_init : MethodName := ⟨"java/util/AbstractList", "<init>", "()V"⟩
abbrev b_AL_init : ByteArray := prog_21_method_1_code
def y_AC_init : MethodName := ⟨"java/util/AbstractCollection", "<init>", "()V"⟩
abbrev b_AC_init : ByteArray := prog_20_method_1_code
def y_F_init : MethodName := ⟨"RuleClasses$Facts", "<init>", "()V"⟩
abbrev b_F_init : ByteArray := prog_3_method_1_code
def y_MA_min : MethodName := ⟨"java/lang/Math", "min", "(II)I"⟩
abbrev b_MA_min : ByteArray := prog_14_method_69_code
def y_MA_max : MethodName := ⟨"java/lang/Math", "max", "(II)I"⟩
abbrev b_MA_max : ByteArray := prog_14_method_65_code
def y_U_init : MethodName := ⟨"RuleClasses$Run", "<init>", "(I)V"⟩
abbrev b_U_init : ByteArray := prog_4_method_1_code
def y_C_count : MethodName := ⟨"RuleClasses", "count", "(I)I"⟩
abbrev b_C_count : ByteArray := prog_1_method_20_code
def y_A_size : MethodName := ⟨"java/util/ArrayList", "size", "()I"⟩
abbrev b_A_size : ByteArray := prog_22_method_8_code
def y_C_madeEditions : MethodName := ⟨"RuleClasses", "madeEditions", "()I"⟩
abbrev b_C_madeEditions : ByteArray := prog_1_method_32_code
def y_A_get : MethodName := ⟨"java/util/ArrayList", "get", "(I)Ljava/lang/Object;"⟩
abbrev b_A_get : ByteArray := prog_22_method_20_code
def y_OB_checkIndex : MethodName := ⟨"java/util/Objects", "checkIndex", "(II)I"⟩
abbrev b_OB_checkIndex : ByteArray := prog_27_method_17_code
def y_PC_checkIndex : MethodName := ⟨"jdk/internal/util/Preconditions", "checkIndex", "(IILjava/util/function/BiFunction;)I"⟩
abbrev b_PC_checkIndex : ByteArray := prog_31_method_11_code
def y_A_elementData : MethodName := ⟨"java/util/ArrayList", "elementData", "(I)Ljava/lang/Object;"⟩
abbrev b_A_elementData : ByteArray := prog_22_method_18_code
def y_C_failedQuestions : MethodName := ⟨"RuleClasses", "failedQuestions", "()I"⟩
abbrev b_C_failedQuestions : ByteArray := prog_1_method_33_code
def y_L_cell : MethodName := ⟨"RuleClassesLaw", "cell", "([II)I"⟩
abbrev b_L_cell : ByteArray := method_2_code
def y_L_today : MethodName := ⟨"RuleClassesLaw", "today", "(LRuleClasses;I)I"⟩
abbrev b_L_today : ByteArray := method_3_code
def y_C_today : MethodName := ⟨"RuleClasses", "today", "(I)V"⟩
abbrev b_C_today : ByteArray := prog_1_method_2_code
def y_C_requireRange : MethodName := ⟨"RuleClasses", "requireRange", "(III)V"⟩
abbrev b_C_requireRange : ByteArray := prog_1_method_21_code
def y_C_endHandle : MethodName := ⟨"RuleClasses", "endHandle", "()V"⟩
abbrev b_C_endHandle : ByteArray := prog_1_method_29_code
def y_L_rule : MethodName := ⟨"RuleClassesLaw", "rule", "(LRuleClasses;III[J)I"⟩
abbrev b_L_rule : ByteArray := method_4_code
def y_C_rule : MethodName := ⟨"RuleClasses", "rule", "(III)I"⟩
abbrev b_C_rule : ByteArray := prog_1_method_3_code
def y_C_requireOwnerAndKind : MethodName := ⟨"RuleClasses", "requireOwnerAndKind", "(II)V"⟩
abbrev b_C_requireOwnerAndKind : ByteArray := prog_1_method_22_code
def y_E_init : MethodName := ⟨"RuleClasses$Edition", "<init>", "(III)V"⟩
abbrev b_E_init : ByteArray := prog_2_method_1_code
def y_A_add : MethodName := ⟨"java/util/ArrayList", "add", "(Ljava/lang/Object;)Z"⟩
abbrev b_A_add : ByteArray := prog_22_method_25_code
def y_A_add2 : MethodName := ⟨"java/util/ArrayList", "add", "(Ljava/lang/Object;[Ljava/lang/Object;I)V"⟩
abbrev b_A_add2 : ByteArray := prog_22_method_24_code
def y_A_grow : MethodName := ⟨"java/util/ArrayList", "grow", "()[Ljava/lang/Object;"⟩
abbrev b_A_grow : ByteArray := prog_22_method_7_code
def y_A_grow2 : MethodName := ⟨"java/util/ArrayList", "grow", "(I)[Ljava/lang/Object;"⟩
abbrev b_A_grow2 : ByteArray := prog_22_method_6_code
def y_AS_newLength : MethodName := ⟨"jdk/internal/util/ArraysSupport", "newLength", "(III)I"⟩
abbrev b_AS_newLength : ByteArray := prog_30_method_27_code
def y_AS_hugeLength : MethodName := ⟨"jdk/internal/util/ArraysSupport", "hugeLength", "(II)I"⟩
abbrev b_AS_hugeLength : ByteArray := prog_30_method_28_code
def y_AR_copyOf : MethodName := ⟨"java/util/Arrays", "copyOf", "([Ljava/lang/Object;I)[Ljava/lang/Object;"⟩
abbrev b_AR_copyOf : ByteArray := prog_23_method_119_code
def y_AR_copyOf2 : MethodName := ⟨"java/util/Arrays", "copyOf", "([Ljava/lang/Object;ILjava/lang/Class;)[Ljava/lang/Object;"⟩
abbrev b_AR_copyOf2 : ByteArray := prog_23_method_120_code
def y_L_op : MethodName := ⟨"RuleClassesLaw", "op", "(LRuleClasses;III[J)I"⟩
abbrev b_L_op : ByteArray := method_5_code
def y_C_op : MethodName := ⟨"RuleClasses", "op", "(III)I"⟩
abbrev b_C_op : ByteArray := prog_1_method_4_code
def y_C_editionAt : MethodName := ⟨"RuleClasses", "editionAt", "(I)LRuleClasses$Edition;"⟩
abbrev b_C_editionAt : ByteArray := prog_1_method_25_code
def y_C_requireEdition : MethodName := ⟨"RuleClasses", "requireEdition", "(I)V"⟩
abbrev b_C_requireEdition : ByteArray := prog_1_method_24_code
def y_C_leastConstant : MethodName := ⟨"RuleClasses", "leastConstant", "(I)I"⟩
abbrev b_C_leastConstant : ByteArray := prog_1_method_26_code
def y_C_greatestConstant : MethodName := ⟨"RuleClasses", "greatestConstant", "(I)I"⟩
abbrev b_C_greatestConstant : ByteArray := prog_1_method_27_code
def y_C_requireNotMade : MethodName := ⟨"RuleClasses", "requireNotMade", "(LRuleClasses$Edition;)V"⟩
abbrev b_C_requireNotMade : ByteArray := prog_1_method_23_code
def y_E_append : MethodName := ⟨"RuleClasses$Edition", "append", "(II)V"⟩
abbrev b_E_append : ByteArray := prog_2_method_2_code
def y_L_make : MethodName := ⟨"RuleClassesLaw", "make", "(LRuleClasses;I[J)I"⟩
abbrev b_L_make : ByteArray := method_6_code
def y_C_make : MethodName := ⟨"RuleClasses", "make", "(I)I"⟩
abbrev b_C_make : ByteArray := prog_1_method_5_code
def y_U_start : MethodName := ⟨"RuleClasses$Run", "start", "(LRuleClasses$Edition;LRuleClasses$Facts;)V"⟩
abbrev b_U_start : ByteArray := prog_4_method_3_code
def y_U_clear : MethodName := ⟨"RuleClasses$Run", "clear", "()V"⟩
abbrev b_U_clear : ByteArray := prog_4_method_5_code
def y_U_outcomeOf : MethodName := ⟨"RuleClasses$Run", "outcomeOf", "(LRuleClasses$Edition;LRuleClasses$Facts;)I"⟩
abbrev b_U_outcomeOf : ByteArray := prog_4_method_6_code
def y_U_step : MethodName := ⟨"RuleClasses$Run", "step", "(LRuleClasses$Edition;ILRuleClasses$Facts;)I"⟩
abbrev b_U_step : ByteArray := prog_4_method_7_code
def y_U_needed : MethodName := ⟨"RuleClasses$Run", "needed", "(I)I"⟩
abbrev b_U_needed : ByteArray := prog_4_method_8_code
def y_U_put : MethodName := ⟨"RuleClasses$Run", "put", "(J)I"⟩
abbrev b_U_put : ByteArray := prog_4_method_11_code
def y_U_take : MethodName := ⟨"RuleClasses$Run", "take", "()I"⟩
abbrev b_U_take : ByteArray := prog_4_method_10_code
def y_U_join : MethodName := ⟨"RuleClasses$Run", "join", "(I)I"⟩
abbrev b_U_join : ByteArray := prog_4_method_9_code
def y_L_fact : MethodName := ⟨"RuleClassesLaw", "fact", "(LRuleClasses;II)I"⟩
abbrev b_L_fact : ByteArray := method_7_code
def y_C_fact : MethodName := ⟨"RuleClasses", "fact", "(II)V"⟩
abbrev b_C_fact : ByteArray := prog_1_method_6_code
def y_L_ask : MethodName := ⟨"RuleClassesLaw", "ask", "(LRuleClasses;II[J)I"⟩
abbrev b_L_ask : ByteArray := method_8_code
def y_C_ask : MethodName := ⟨"RuleClasses", "ask", "(II)I"⟩
abbrev b_C_ask : ByteArray := prog_1_method_7_code
def y_C_countingEdition : MethodName := ⟨"RuleClasses", "countingEdition", "(III)I"⟩
abbrev b_C_countingEdition : ByteArray := prog_1_method_30_code
def y_E_countsFor : MethodName := ⟨"RuleClasses$Edition", "countsFor", "(III)Z"⟩
abbrev b_E_countsFor : ByteArray := prog_2_method_3_code
def y_U_startNothing : MethodName := ⟨"RuleClasses$Run", "startNothing", "()V"⟩
abbrev b_U_startNothing : ByteArray := prog_4_method_2_code
def y_C_place : MethodName := ⟨"RuleClasses", "place", "(II)I"⟩
abbrev b_C_place : ByteArray := prog_1_method_28_code
def y_C_runShadow : MethodName := ⟨"RuleClasses", "runShadow", "(I)V"⟩
abbrev b_C_runShadow : ByteArray := prog_1_method_31_code
def y_U_endedLike : MethodName := ⟨"RuleClasses$Run", "endedLike", "(LRuleClasses$Run;)Z"⟩
abbrev b_U_endedLike : ByteArray := prog_4_method_4_code
def y_E_noteQuestion : MethodName := ⟨"RuleClasses$Edition", "noteQuestion", "(LRuleClasses$Run;)V"⟩
abbrev b_E_noteQuestion : ByteArray := prog_2_method_5_code
def y_L_fallback : MethodName := ⟨"RuleClassesLaw", "fallback", "(LRuleClasses;II)I"⟩
abbrev b_L_fallback : ByteArray := method_9_code
def y_C_fallback : MethodName := ⟨"RuleClasses", "fallback", "(II)V"⟩
abbrev b_C_fallback : ByteArray := prog_1_method_8_code
def y_L_edition : MethodName := ⟨"RuleClassesLaw", "edition", "(LRuleClasses;III[J)I"⟩
abbrev b_L_edition : ByteArray := method_10_code
def y_C_edition : MethodName := ⟨"RuleClasses", "edition", "(III)I"⟩
abbrev b_C_edition : ByteArray := prog_1_method_9_code
def y_L_failed : MethodName := ⟨"RuleClassesLaw", "failed", "(LRuleClasses;II[J)I"⟩
abbrev b_L_failed : ByteArray := method_11_code
def y_C_failed : MethodName := ⟨"RuleClasses", "failed", "(II)I"⟩
abbrev b_C_failed : ByteArray := prog_1_method_10_code
def y_L_handle : MethodName := ⟨"RuleClassesLaw", "handle", "(LRuleClasses;I[J)I"⟩
abbrev b_L_handle : ByteArray := method_12_code
def y_C_handle : MethodName := ⟨"RuleClasses", "handle", "(I)I"⟩
abbrev b_C_handle : ByteArray := prog_1_method_11_code
def y_L_by : MethodName := ⟨"RuleClassesLaw", "by", "(LRuleClasses;I[J)I"⟩
abbrev b_L_by : ByteArray := method_13_code
def y_C_by : MethodName := ⟨"RuleClasses", "by", "(I)I"⟩
abbrev b_C_by : ByteArray := prog_1_method_12_code
def y_L_keep : MethodName := ⟨"RuleClassesLaw", "keep", "(LRuleClasses;[J)I"⟩
abbrev b_L_keep : ByteArray := method_14_code
def y_C_keep : MethodName := ⟨"RuleClasses", "keep", "()I"⟩
abbrev b_C_keep : ByteArray := prog_1_method_13_code
def y_F_copy : MethodName := ⟨"RuleClasses$Facts", "copy", "()LRuleClasses$Facts;"⟩
abbrev b_F_copy : ByteArray := prog_3_method_2_code
def y_L_compare : MethodName := ⟨"RuleClassesLaw", "compare", "(LRuleClasses;II[J)I"⟩
abbrev b_L_compare : ByteArray := method_15_code
def y_C_compare : MethodName := ⟨"RuleClasses", "compare", "(II)I"⟩
abbrev b_C_compare : ByteArray := prog_1_method_14_code
def y_L_same : MethodName := ⟨"RuleClassesLaw", "same", "(LRuleClasses;II[J)I"⟩
abbrev b_L_same : ByteArray := method_16_code
def y_C_same : MethodName := ⟨"RuleClasses", "same", "(II)Z"⟩
abbrev b_C_same : ByteArray := prog_1_method_15_code
def y_E_hasCodeOf : MethodName := ⟨"RuleClasses$Edition", "hasCodeOf", "(LRuleClasses$Edition;)Z"⟩
abbrev b_E_hasCodeOf : ByteArray := prog_2_method_4_code
def y_L_shadow : MethodName := ⟨"RuleClassesLaw", "shadow", "(LRuleClasses;III)I"⟩
abbrev b_L_shadow : ByteArray := method_17_code
def y_C_shadow : MethodName := ⟨"RuleClasses", "shadow", "(III)V"⟩
abbrev b_C_shadow : ByteArray := prog_1_method_16_code
def y_L_otherwise : MethodName := ⟨"RuleClassesLaw", "otherwise", "(LRuleClasses;II[J)I"⟩
abbrev b_L_otherwise : ByteArray := method_18_code
def y_C_otherwise : MethodName := ⟨"RuleClasses", "otherwise", "(II)I"⟩
abbrev b_C_otherwise : ByteArray := prog_1_method_17_code
def y_L_divide : MethodName := ⟨"RuleClassesLaw", "divide", "(LRuleClasses;II[J)I"⟩
abbrev b_L_divide : ByteArray := method_19_code
def y_C_divide : MethodName := ⟨"RuleClasses", "divide", "(II)I"⟩
abbrev b_C_divide : ByteArray := prog_1_method_18_code
def y_L_told : MethodName := ⟨"RuleClassesLaw", "told", "(LRuleClasses;II[J)I"⟩
abbrev b_L_told : ByteArray := method_20_code
def y_C_told : MethodName := ⟨"RuleClasses", "told", "(II)I"⟩
abbrev b_C_told : ByteArray := prog_1_method_19_code
def y_E_tell : MethodName := ⟨"RuleClasses$Edition", "tell", "(I)I"⟩
abbrev b_E_tell : ByteArray := prog_2_method_6_code
def y_M_init : MethodName := ⟨"RuleClassesModel", "<init>", "(I)V"⟩
abbrev b_M_init : ByteArray := prog_6_method_1_code
def y_M_thrown : MethodName := ⟨"RuleClassesModel", "thrown", "()I"⟩
abbrev b_M_thrown : ByteArray := prog_6_method_2_code
def y_M_today : MethodName := ⟨"RuleClassesModel", "today", "(I)V"⟩
abbrev b_M_today : ByteArray := prog_6_method_6_code
def y_M_within : MethodName := ⟨"RuleClassesModel", "within", "(III)Z"⟩
abbrev b_M_within : ByteArray := prog_6_method_3_code
def y_M_rule : MethodName := ⟨"RuleClassesModel", "rule", "(III)I"⟩
abbrev b_M_rule : ByteArray := prog_6_method_7_code
def y_M_isPlace : MethodName := ⟨"RuleClassesModel", "isPlace", "(II)Z"⟩
abbrev b_M_isPlace : ByteArray := prog_6_method_5_code
def y_M_op : MethodName := ⟨"RuleClassesModel", "op", "(III)I"⟩
abbrev b_M_op : ByteArray := prog_6_method_9_code
def y_M_isEdition : MethodName := ⟨"RuleClassesModel", "isEdition", "(I)Z"⟩
abbrev b_M_isEdition : ByteArray := prog_6_method_4_code
def y_M_isConstant : MethodName := ⟨"RuleClassesModel", "isConstant", "(II)Z"⟩
abbrev b_M_isConstant : ByteArray := prog_6_method_8_code
def y_M_make : MethodName := ⟨"RuleClassesModel", "make", "(I)I"⟩
abbrev b_M_make : ByteArray := prog_6_method_15_code
def y_M_giveFacts : MethodName := ⟨"RuleClassesModel", "giveFacts", "()V"⟩
abbrev b_M_giveFacts : ByteArray := prog_6_method_14_code
def y_M_run : MethodName := ⟨"RuleClassesModel", "run", "(I)I"⟩
abbrev b_M_run : ByteArray := prog_6_method_13_code
def y_M_step : MethodName := ⟨"RuleClassesModel", "step", "(I)I"⟩
abbrev b_M_step : ByteArray := prog_6_method_12_code
def y_M_takes : MethodName := ⟨"RuleClassesModel", "takes", "(I)I"⟩
abbrev b_M_takes : ByteArray := prog_6_method_10_code
def y_M_valueOf : MethodName := ⟨"RuleClassesModel", "valueOf", "(IIIJJ)J"⟩
abbrev b_M_valueOf : ByteArray := prog_6_method_11_code
def y_M_fact : MethodName := ⟨"RuleClassesModel", "fact", "(II)V"⟩
abbrev b_M_fact : ByteArray := prog_6_method_16_code
def y_M_ask : MethodName := ⟨"RuleClassesModel", "ask", "(II)I"⟩
abbrev b_M_ask : ByteArray := prog_6_method_19_code
def y_M_counts : MethodName := ⟨"RuleClassesModel", "counts", "(III)I"⟩
abbrev b_M_counts : ByteArray := prog_6_method_17_code
def y_M_askedOf : MethodName := ⟨"RuleClassesModel", "askedOf", "(III)I"⟩
abbrev b_M_askedOf : ByteArray := prog_6_method_18_code
def y_M_fallback : MethodName := ⟨"RuleClassesModel", "fallback", "(II)V"⟩
abbrev b_M_fallback : ByteArray := prog_6_method_20_code
def y_M_edition : MethodName := ⟨"RuleClassesModel", "edition", "(III)I"⟩
abbrev b_M_edition : ByteArray := prog_6_method_21_code
def y_M_failed : MethodName := ⟨"RuleClassesModel", "failed", "(II)I"⟩
abbrev b_M_failed : ByteArray := prog_6_method_22_code
def y_M_handle : MethodName := ⟨"RuleClassesModel", "handle", "(I)I"⟩
abbrev b_M_handle : ByteArray := prog_6_method_23_code
def y_M_by : MethodName := ⟨"RuleClassesModel", "by", "(I)I"⟩
abbrev b_M_by : ByteArray := prog_6_method_24_code
def y_M_keep : MethodName := ⟨"RuleClassesModel", "keep", "()I"⟩
abbrev b_M_keep : ByteArray := prog_6_method_25_code
def y_M_compare : MethodName := ⟨"RuleClassesModel", "compare", "(II)I"⟩
abbrev b_M_compare : ByteArray := prog_6_method_26_code
def y_M_same : MethodName := ⟨"RuleClassesModel", "same", "(II)Z"⟩
abbrev b_M_same : ByteArray := prog_6_method_27_code
def y_M_shadow : MethodName := ⟨"RuleClassesModel", "shadow", "(III)V"⟩
abbrev b_M_shadow : ByteArray := prog_6_method_28_code
def y_M_otherwise : MethodName := ⟨"RuleClassesModel", "otherwise", "(II)I"⟩
abbrev b_M_otherwise : ByteArray := prog_6_method_29_code
def y_M_divide : MethodName := ⟨"RuleClassesModel", "divide", "(II)I"⟩
abbrev b_M_divide : ByteArray := prog_6_method_30_code
def y_M_told : MethodName := ⟨"RuleClassesModel", "told", "(II)I"⟩
abbrev b_M_told : ByteArray := prog_6_method_31_code
def y_M_count : MethodName := ⟨"RuleClassesModel", "count", "(I)I"⟩
abbrev b_M_count : ByteArray := prog_6_method_32_code
theorem m_0 : (Jvm.Cond.initialized "RuleClassesLaw") ∈ TBL := mT (List.mem_append_left _ (List.mem_of_getElem? (i := 0) (by decide +kernel))) (by decide +kernel)
theorem m_1 : (Jvm.Cond.initialized "RuleClasses") ∈ TBL := mT (List.mem_append_left _ (List.mem_of_getElem? (i := 1) (by decide +kernel))) (by decide +kernel)
theorem m_2 : (Jvm.Cond.initialized "java/util/AbstractCollection") ∈ TBL := mT (List.mem_append_left _ (List.mem_of_getElem? (i := 2) (by decide +kernel))) (by decide +kernel)
theorem m_3 : (Jvm.Cond.initialized "java/util/AbstractList") ∈ TBL := mT (List.mem_append_left _ (List.mem_of_getElem? (i := 3) (by decide +kernel))) (by decide +kernel)
theorem m_4 : (Jvm.Cond.initialized "java/util/ArrayList") ∈ TBL := mT (List.mem_append_left _ (List.mem_of_getElem? (i := 4) (by decide +kernel))) (by decide +kernel)
theorem m_5 : (Jvm.Cond.initialized "RuleClasses$Facts") ∈ TBL := mT (List.mem_append_left _ (List.mem_of_getElem? (i := 5) (by decide +kernel))) (by decide +kernel)
theorem m_6 : (Jvm.Cond.initialized "java/lang/Math") ∈ TBL := mT (List.mem_append_left _ (List.mem_of_getElem? (i := 6) (by decide +kernel))) (by decide +kernel)
theorem m_7 : (Jvm.Cond.initialized "RuleClasses$Run") ∈ TBL := mT (List.mem_append_left _ (List.mem_of_getElem? (i := 7) (by decide +kernel))) (by decide +kernel)
theorem m_8 : (Jvm.Cond.initialized "RuleClassesModel") ∈ TBL := mT (List.mem_append_left _ (List.mem_of_getElem? (i := 8) (by decide +kernel))) (by decide +kernel)
theorem m_9 : (Jvm.Cond.initialized "java/lang/Throwable") ∈ TBL := mT (List.mem_append_left _ (List.mem_of_getElem? (i := 9) (by decide +kernel))) (by decide +kernel)
theorem m_10 : (Jvm.Cond.initialized "java/lang/Exception") ∈ TBL := mT (List.mem_append_left _ (List.mem_of_getElem? (i := 10) (by decide +kernel))) (by decide +kernel)
theorem m_11 : (Jvm.Cond.initialized "java/lang/RuntimeException") ∈ TBL := mT (List.mem_append_left _ (List.mem_of_getElem? (i := 11) (by decide +kernel))) (by decide +kernel)
theorem m_12 : (Jvm.Cond.initialized "java/lang/IllegalArgumentException") ∈ TBL := mT (List.mem_append_left _ (List.mem_of_getElem? (i := 12) (by decide +kernel))) (by decide +kernel)
theorem m_13 : (Jvm.Cond.initialized "java/lang/UnsupportedOperationException") ∈ TBL := mT (List.mem_append_left _ (List.mem_of_getElem? (i := 13) (by decide +kernel))) (by decide +kernel)
theorem m_14 : (Jvm.Cond.initialized "RuleClasses$Edition") ∈ TBL := mT (List.mem_append_left _ (List.mem_of_getElem? (i := 14) (by decide +kernel))) (by decide +kernel)
theorem m_15 : (Jvm.Cond.initialized "jdk/internal/util/ArraysSupport") ∈ TBL := mT (List.mem_append_left _ (List.mem_of_getElem? (i := 15) (by decide +kernel))) (by decide +kernel)
theorem m_16 : (Jvm.Cond.initialized "java/util/Arrays") ∈ TBL := mT (List.mem_append_left _ (List.mem_of_getElem? (i := 16) (by decide +kernel))) (by decide +kernel)
theorem m_17 : (Jvm.Cond.initialized "java/lang/System") ∈ TBL := mT (List.mem_append_left _ (List.mem_of_getElem? (i := 17) (by decide +kernel))) (by decide +kernel)
theorem m_18 : (Jvm.Cond.initialized "java/util/NoSuchElementException") ∈ TBL := mT (List.mem_append_left _ (List.mem_of_getElem? (i := 18) (by decide +kernel))) (by decide +kernel)
theorem m_19 : (Jvm.Cond.initialized "java/util/Objects") ∈ TBL := mT (List.mem_append_left _ (List.mem_of_getElem? (i := 19) (by decide +kernel))) (by decide +kernel)
theorem m_20 : (Jvm.Cond.initialized "jdk/internal/util/Preconditions") ∈ TBL := mT (List.mem_append_left _ (List.mem_of_getElem? (i := 20) (by decide +kernel))) (by decide +kernel)
theorem m_21 : (Jvm.Cond.initialized "java/lang/IllegalStateException") ∈ TBL := mT (List.mem_append_left _ (List.mem_of_getElem? (i := 21) (by decide +kernel))) (by decide +kernel)
theorem m_22 : (Jvm.Cond.initialized "java/lang/ArithmeticException") ∈ TBL := mT (List.mem_append_left _ (List.mem_of_getElem? (i := 22) (by decide +kernel))) (by decide +kernel)
theorem m_23 : (Jvm.Cond.classLink "RuleClassesLaw" (8 : Nat) "RuleClasses") ∈ TBL := mT (List.mem_append_left _ (List.mem_of_getElem? (i := 23) (by decide +kernel))) (by decide +kernel)
theorem m_24 : (Jvm.Cond.instantiable "RuleClasses" (15 : Nat)) ∈ TBL := mT (List.mem_append_left _ (List.mem_of_getElem? (i := 24) (by decide +kernel))) (by decide +kernel)
theorem m_25 : (Jvm.Cond.methodLink "RuleClassesLaw" (87 : Nat) ({ cls := "RuleClasses", name := "<init>", desc := "(I)V" } : Jvm.MethodName)) ∈ TBL := mT (List.mem_append_left _ (List.mem_of_getElem? (i := 25) (by decide +kernel))) (by decide +kernel)
theorem m_26 : (Jvm.Cond.instanceMethod ({ cls := "RuleClasses", name := "<init>", desc := "(I)V" } : Jvm.MethodName)) ∈ TBL := mT (List.mem_append_left _ (List.mem_of_getElem? (i := 26) (by decide +kernel))) (by decide +kernel)
theorem m_27 : (Jvm.Cond.code ({ cls := "RuleClasses", name := "<init>", desc := "(I)V" } : Jvm.MethodName) prog_1_method_1_code (3 : Nat) (Option.none : Option Jvm.ClassFile.FieldType)) ∈ TBL := mT (List.mem_append_left _ (List.mem_of_getElem? (i := 27) (by decide +kernel))) (by decide +kernel)
theorem m_28 : (Jvm.Cond.methodLink "RuleClasses" (1 : Nat) ({ cls := "java/lang/Object", name := "<init>", desc := "()V" } : Jvm.MethodName)) ∈ TBL := mT (List.mem_append_left _ (List.mem_of_getElem? (i := 28) (by decide +kernel))) (by decide +kernel)
theorem m_29 : (Jvm.Cond.instanceMethod ({ cls := "java/lang/Object", name := "<init>", desc := "()V" } : Jvm.MethodName)) ∈ TBL := mT (List.mem_append_left _ (List.mem_of_getElem? (i := 29) (by decide +kernel))) (by decide +kernel)
theorem m_30 : (Jvm.Cond.code ({ cls := "java/lang/Object", name := "<init>", desc := "()V" } : Jvm.MethodName) object_method_1_code (1 : Nat) (Option.none : Option Jvm.ClassFile.FieldType)) ∈ TBL := mT (List.mem_append_left _ (List.mem_of_getElem? (i := 30) (by decide +kernel))) (by decide +kernel)
theorem m_31 : (Jvm.Cond.classLink "RuleClasses" (7 : Nat) "java/util/ArrayList") ∈ TBL := mT (List.mem_append_left _ (List.mem_of_getElem? (i := 31) (by decide +kernel))) (by decide +kernel)
theorem m_32 : (Jvm.Cond.instantiable "java/util/ArrayList" (3 : Nat)) ∈ TBL := mT (List.mem_append_left _ (List.mem_of_getElem? (i := 32) (by decide +kernel))) (by decide +kernel)
theorem m_33 : (Jvm.Cond.methodLink "RuleClasses" (9 : Nat) ({ cls := "java/util/ArrayList", name := "<init>", desc := "()V" } : Jvm.MethodName)) ∈ TBL := mT (List.mem_append_left _ (List.mem_of_getElem? (i := 33) (by decide +kernel))) (by decide +kernel)
theorem m_34 : (Jvm.Cond.instanceMethod ({ cls := "java/util/ArrayList", name := "<init>", desc := "()V" } : Jvm.MethodName)) ∈ TBL := mT (List.mem_append_left _ (List.mem_of_getElem? (i := 34) (by decide +kernel))) (by decide +kernel)
theorem m_35 : (Jvm.Cond.code ({ cls := "java/util/ArrayList", name := "<init>", desc := "()V" } : Jvm.MethodName) prog_22_method_2_code (1 : Nat) (Option.none : Option Jvm.ClassFile.FieldType)) ∈ TBL := mT (List.mem_append_left _ (List.mem_of_getElem? (i := 35) (by decide +kernel))) (by decide +kernel)
theorem m_36 : (Jvm.Cond.methodLink "java/util/ArrayList" (1 : Nat) ({ cls := "java/util/AbstractList", name := "<init>", desc := "()V" } : Jvm.MethodName)) ∈ TBL := mT (List.mem_append_left _ (List.mem_of_getElem? (i := 36) (by decide +kernel))) (by decide +kernel)
theorem m_37 : (Jvm.Cond.instanceMethod ({ cls := "java/util/AbstractList", name := "<init>", desc := "()V" } : Jvm.MethodName)) ∈ TBL := mT (List.mem_append_left _ (List.mem_of_getElem? (i := 37) (by decide +kernel))) (by decide +kernel)
theorem m_38 : (Jvm.Cond.code ({ cls := "java/util/AbstractList", name := "<init>", desc := "()V" } : Jvm.MethodName) prog_21_method_1_code (1 : Nat) (Option.none : Option Jvm.ClassFile.FieldType)) ∈ TBL := mT (List.mem_append_left _ (List.mem_of_getElem? (i := 38) (by decide +kernel))) (by decide +kernel)
theorem m_39 : (Jvm.Cond.methodLink "java/util/AbstractList" (1 : Nat) ({ cls := "java/util/AbstractCollection", name := "<init>", desc := "()V" } : Jvm.MethodName)) ∈ TBL := mT (List.mem_append_left _ (List.mem_of_getElem? (i := 39) (by decide +kernel))) (by decide +kernel)
theorem m_40 : (Jvm.Cond.instanceMethod ({ cls := "java/util/AbstractCollection", name := "<init>", desc := "()V" } : Jvm.MethodName)) ∈ TBL := mT (List.mem_append_left _ (List.mem_of_getElem? (i := 40) (by decide +kernel))) (by decide +kernel)
theorem m_41 : (Jvm.Cond.code ({ cls := "java/util/AbstractCollection", name := "<init>", desc := "()V" } : Jvm.MethodName) prog_20_method_1_code (1 : Nat) (Option.none : Option Jvm.ClassFile.FieldType)) ∈ TBL := mT (List.mem_append_left _ (List.mem_of_getElem? (i := 41) (by decide +kernel))) (by decide +kernel)
theorem m_42 : (Jvm.Cond.methodLink "java/util/AbstractCollection" (1 : Nat) ({ cls := "java/lang/Object", name := "<init>", desc := "()V" } : Jvm.MethodName)) ∈ TBL := mT (List.mem_append_left _ (List.mem_of_getElem? (i := 42) (by decide +kernel))) (by decide +kernel)
theorem m_43 : (Jvm.Cond.fieldLink "java/util/ArrayList" (39 : Nat) "java/util/ArrayList" "DEFAULTCAPACITY_EMPTY_ELEMENTDATA" "[Ljava/lang/Object;") ∈ TBL := mT (List.mem_append_left _ (List.mem_of_getElem? (i := 43) (by decide +kernel))) (by decide +kernel)
theorem m_45 : (Jvm.Cond.fieldLink "java/util/ArrayList" (9 : Nat) "java/util/ArrayList" "elementData" "[Ljava/lang/Object;") ∈ TBL := mT (List.mem_append_left _ (List.mem_of_getElem? (i := 45) (by decide +kernel))) (by decide +kernel)
theorem m_46 : (Jvm.Cond.fieldLink "java/util/ArrayList" (48 : Nat) "java/util/ArrayList" "size" "I") ∈ TBL := mT (List.mem_append_left _ (List.mem_of_getElem? (i := 46) (by decide +kernel))) (by decide +kernel)
theorem m_47 : (Jvm.Cond.fieldLink "java/util/AbstractList" (7 : Nat) "java/util/AbstractList" "modCount" "I") ∈ TBL := mT (List.mem_append_left _ (List.mem_of_getElem? (i := 47) (by decide +kernel))) (by decide +kernel)
theorem m_48 : (Jvm.Cond.fieldLink "java/util/ArrayList" (63 : Nat) "java/util/ArrayList" "modCount" "I") ∈ TBL := mT (List.mem_append_left _ (List.mem_of_getElem? (i := 48) (by decide +kernel))) (by decide +kernel)
theorem m_49 : (Jvm.Cond.sameField "java/util/ArrayList" "java/util/AbstractList" "modCount" "I") ∈ TBL := mT (List.mem_append_left _ (List.mem_of_getElem? (i := 49) (by decide +kernel))) (by decide +kernel)
theorem m_50 : (Jvm.Cond.lays "java/util/ArrayList" "java/util/ArrayList" "elementData" "[Ljava/lang/Object;") ∈ TBL := mT (List.mem_append_left _ (List.mem_of_getElem? (i := 50) (by decide +kernel))) (by decide +kernel)
theorem m_52 : (Jvm.Cond.lays "java/util/ArrayList" "java/util/ArrayList" "size" "I") ∈ TBL := mT (List.mem_append_left _ (List.mem_of_getElem? (i := 52) (by decide +kernel))) (by decide +kernel)
theorem m_54 : (Jvm.Cond.lays "java/util/ArrayList" "java/util/AbstractList" "modCount" "I") ∈ TBL := mT (List.mem_append_left _ (List.mem_of_getElem? (i := 54) (by decide +kernel))) (by decide +kernel)
theorem m_57 : (Jvm.Cond.classLink "RuleClasses" (19 : Nat) "RuleClasses$Facts") ∈ TBL := mT (List.mem_append_left _ (List.mem_of_getElem? (i := 57) (by decide +kernel))) (by decide +kernel)
theorem m_58 : (Jvm.Cond.instantiable "RuleClasses$Facts" (1 : Nat)) ∈ TBL := mT (List.mem_append_left _ (List.mem_of_getElem? (i := 58) (by decide +kernel))) (by decide +kernel)
theorem m_60 : (Jvm.Cond.instanceMethod ({ cls := "RuleClasses$Facts", name := "<init>", desc := "()V" } : Jvm.MethodName)) ∈ TBL := mT (List.mem_append_left _ (List.mem_of_getElem? (i := 60) (by decide +kernel))) (by decide +kernel)
theorem m_61 : (Jvm.Cond.code ({ cls := "RuleClasses$Facts", name := "<init>", desc := "()V" } : Jvm.MethodName) prog_3_method_1_code (1 : Nat) (Option.none : Option Jvm.ClassFile.FieldType)) ∈ TBL := mT (List.mem_append_left _ (List.mem_of_getElem? (i := 61) (by decide +kernel))) (by decide +kernel)
theorem m_62 : (Jvm.Cond.methodLink "RuleClasses$Facts" (3 : Nat) ({ cls := "java/lang/Object", name := "<init>", desc := "()V" } : Jvm.MethodName)) ∈ TBL := mT (List.mem_append_left _ (List.mem_of_getElem? (i := 62) (by decide +kernel))) (by decide +kernel)
theorem m_63 : (Jvm.Cond.fieldLink "RuleClasses$Facts" (9 : Nat) "RuleClasses$Facts" "values" "[I") ∈ TBL := mT (List.mem_append_left _ (List.mem_of_getElem? (i := 63) (by decide +kernel))) (by decide +kernel)
theorem m_64 : (Jvm.Cond.fieldLink "RuleClasses" (131 : Nat) "RuleClasses$Facts" "values" "[I") ∈ TBL := mT (List.mem_append_left _ (List.mem_of_getElem? (i := 64) (by decide +kernel))) (by decide +kernel)
theorem m_65 : (Jvm.Cond.fieldLink "RuleClasses$Run" (64 : Nat) "RuleClasses$Facts" "values" "[I") ∈ TBL := mT (List.mem_append_left _ (List.mem_of_getElem? (i := 65) (by decide +kernel))) (by decide +kernel)
theorem m_66 : (Jvm.Cond.laysFinal "RuleClasses$Facts" "RuleClasses$Facts" "values" "[I") ∈ TBL := mT (List.mem_append_left _ (List.mem_of_getElem? (i := 66) (by decide +kernel))) (by decide +kernel)
theorem m_69 : (Jvm.Cond.arrayClass Jvm.ClassFile.FieldType.int) ∈ TBL := mT (List.mem_append_left _ (List.mem_of_getElem? (i := 69) (by decide +kernel))) (by decide +kernel)
theorem m_70 : (Jvm.Cond.methodLink "RuleClasses" (39 : Nat) ({ cls := "java/lang/Math", name := "min", desc := "(II)I" } : Jvm.MethodName)) ∈ TBL := mT (List.mem_append_left _ (List.mem_of_getElem? (i := 70) (by decide +kernel))) (by decide +kernel)
theorem m_71 : (Jvm.Cond.static ({ cls := "java/lang/Math", name := "min", desc := "(II)I" } : Jvm.MethodName)) ∈ TBL := mT (List.mem_append_left _ (List.mem_of_getElem? (i := 71) (by decide +kernel))) (by decide +kernel)
theorem m_72 : (Jvm.Cond.code ({ cls := "java/lang/Math", name := "min", desc := "(II)I" } : Jvm.MethodName) prog_14_method_69_code (2 : Nat) (Option.some Jvm.ClassFile.FieldType.int)) ∈ TBL := mT (List.mem_append_left _ (List.mem_of_getElem? (i := 72) (by decide +kernel))) (by decide +kernel)
theorem m_73 : (Jvm.Cond.methodLink "RuleClasses" (45 : Nat) ({ cls := "java/lang/Math", name := "max", desc := "(II)I" } : Jvm.MethodName)) ∈ TBL := mT (List.mem_append_left _ (List.mem_of_getElem? (i := 73) (by decide +kernel))) (by decide +kernel)
theorem m_74 : (Jvm.Cond.static ({ cls := "java/lang/Math", name := "max", desc := "(II)I" } : Jvm.MethodName)) ∈ TBL := mT (List.mem_append_left _ (List.mem_of_getElem? (i := 74) (by decide +kernel))) (by decide +kernel)
theorem m_75 : (Jvm.Cond.code ({ cls := "java/lang/Math", name := "max", desc := "(II)I" } : Jvm.MethodName) prog_14_method_65_code (2 : Nat) (Option.some Jvm.ClassFile.FieldType.int)) ∈ TBL := mT (List.mem_append_left _ (List.mem_of_getElem? (i := 75) (by decide +kernel))) (by decide +kernel)
theorem m_76 : (Jvm.Cond.classLink "RuleClasses" (52 : Nat) "RuleClasses$Run") ∈ TBL := mT (List.mem_append_left _ (List.mem_of_getElem? (i := 76) (by decide +kernel))) (by decide +kernel)
theorem m_77 : (Jvm.Cond.instantiable "RuleClasses$Run" (7 : Nat)) ∈ TBL := mT (List.mem_append_left _ (List.mem_of_getElem? (i := 77) (by decide +kernel))) (by decide +kernel)
theorem m_78 : (Jvm.Cond.methodLink "RuleClasses" (54 : Nat) ({ cls := "RuleClasses$Run", name := "<init>", desc := "(I)V" } : Jvm.MethodName)) ∈ TBL := mT (List.mem_append_left _ (List.mem_of_getElem? (i := 78) (by decide +kernel))) (by decide +kernel)
theorem m_79 : (Jvm.Cond.instanceMethod ({ cls := "RuleClasses$Run", name := "<init>", desc := "(I)V" } : Jvm.MethodName)) ∈ TBL := mT (List.mem_append_left _ (List.mem_of_getElem? (i := 79) (by decide +kernel))) (by decide +kernel)
theorem m_80 : (Jvm.Cond.code ({ cls := "RuleClasses$Run", name := "<init>", desc := "(I)V" } : Jvm.MethodName) prog_4_method_1_code (2 : Nat) (Option.none : Option Jvm.ClassFile.FieldType)) ∈ TBL := mT (List.mem_append_left _ (List.mem_of_getElem? (i := 80) (by decide +kernel))) (by decide +kernel)
theorem m_81 : (Jvm.Cond.methodLink "RuleClasses$Run" (3 : Nat) ({ cls := "java/lang/Object", name := "<init>", desc := "()V" } : Jvm.MethodName)) ∈ TBL := mT (List.mem_append_left _ (List.mem_of_getElem? (i := 81) (by decide +kernel))) (by decide +kernel)
theorem m_82 : (Jvm.Cond.fieldLink "RuleClasses$Run" (15 : Nat) "RuleClasses$Run" "most" "I") ∈ TBL := mT (List.mem_append_left _ (List.mem_of_getElem? (i := 82) (by decide +kernel))) (by decide +kernel)
theorem m_83 : (Jvm.Cond.fieldLink "RuleClasses$Run" (9 : Nat) "RuleClasses$Run" "stack" "[I") ∈ TBL := mT (List.mem_append_left _ (List.mem_of_getElem? (i := 83) (by decide +kernel))) (by decide +kernel)
theorem m_84 : (Jvm.Cond.fieldLink "RuleClasses$Run" (32 : Nat) "RuleClasses$Run" "height" "I") ∈ TBL := mT (List.mem_append_left _ (List.mem_of_getElem? (i := 84) (by decide +kernel))) (by decide +kernel)
theorem m_85 : (Jvm.Cond.fieldLink "RuleClasses$Run" (35 : Nat) "RuleClasses$Run" "next" "I") ∈ TBL := mT (List.mem_append_left _ (List.mem_of_getElem? (i := 85) (by decide +kernel))) (by decide +kernel)
theorem m_86 : (Jvm.Cond.fieldLink "RuleClasses$Run" (22 : Nat) "RuleClasses$Run" "outcome" "I") ∈ TBL := mT (List.mem_append_left _ (List.mem_of_getElem? (i := 86) (by decide +kernel))) (by decide +kernel)
theorem m_87 : (Jvm.Cond.fieldLink "RuleClasses$Edition" (46 : Nat) "RuleClasses$Run" "outcome" "I") ∈ TBL := mT (List.mem_append_left _ (List.mem_of_getElem? (i := 87) (by decide +kernel))) (by decide +kernel)
theorem m_88 : (Jvm.Cond.fieldLink "RuleClasses" (124 : Nat) "RuleClasses$Run" "outcome" "I") ∈ TBL := mT (List.mem_append_left _ (List.mem_of_getElem? (i := 88) (by decide +kernel))) (by decide +kernel)
theorem m_89 : (Jvm.Cond.fieldLink "RuleClasses$Run" (29 : Nat) "RuleClasses$Run" "answer" "I") ∈ TBL := mT (List.mem_append_left _ (List.mem_of_getElem? (i := 89) (by decide +kernel))) (by decide +kernel)
theorem m_90 : (Jvm.Cond.fieldLink "RuleClasses" (158 : Nat) "RuleClasses$Run" "answer" "I") ∈ TBL := mT (List.mem_append_left _ (List.mem_of_getElem? (i := 90) (by decide +kernel))) (by decide +kernel)
theorem m_91 : (Jvm.Cond.fieldLink "RuleClasses$Run" (38 : Nat) "RuleClasses$Run" "steps" "I") ∈ TBL := mT (List.mem_append_left _ (List.mem_of_getElem? (i := 91) (by decide +kernel))) (by decide +kernel)
theorem m_92 : (Jvm.Cond.fieldLink "RuleClasses$Edition" (41 : Nat) "RuleClasses$Run" "steps" "I") ∈ TBL := mT (List.mem_append_left _ (List.mem_of_getElem? (i := 92) (by decide +kernel))) (by decide +kernel)
theorem m_93 : (Jvm.Cond.laysFinal "RuleClasses$Run" "RuleClasses$Run" "most" "I") ∈ TBL := mT (List.mem_append_left _ (List.mem_of_getElem? (i := 93) (by decide +kernel))) (by decide +kernel)
theorem m_95 : (Jvm.Cond.laysFinal "RuleClasses$Run" "RuleClasses$Run" "stack" "[I") ∈ TBL := mT (List.mem_append_left _ (List.mem_of_getElem? (i := 95) (by decide +kernel))) (by decide +kernel)
theorem m_97 : (Jvm.Cond.lays "RuleClasses$Run" "RuleClasses$Run" "height" "I") ∈ TBL := mT (List.mem_append_left _ (List.mem_of_getElem? (i := 97) (by decide +kernel))) (by decide +kernel)
theorem m_99 : (Jvm.Cond.lays "RuleClasses$Run" "RuleClasses$Run" "next" "I") ∈ TBL := mT (List.mem_append_left _ (List.mem_of_getElem? (i := 99) (by decide +kernel))) (by decide +kernel)
theorem m_101 : (Jvm.Cond.lays "RuleClasses$Run" "RuleClasses$Run" "outcome" "I") ∈ TBL := mT (List.mem_append_left _ (List.mem_of_getElem? (i := 101) (by decide +kernel))) (by decide +kernel)
theorem m_103 : (Jvm.Cond.lays "RuleClasses$Run" "RuleClasses$Run" "answer" "I") ∈ TBL := mT (List.mem_append_left _ (List.mem_of_getElem? (i := 103) (by decide +kernel))) (by decide +kernel)
theorem m_105 : (Jvm.Cond.lays "RuleClasses$Run" "RuleClasses$Run" "steps" "I") ∈ TBL := mT (List.mem_append_left _ (List.mem_of_getElem? (i := 105) (by decide +kernel))) (by decide +kernel)
theorem m_108 : (Jvm.Cond.fieldLink "RuleClasses" (48 : Nat) "RuleClasses" "most" "I") ∈ TBL := mT (List.mem_append_left _ (List.mem_of_getElem? (i := 108) (by decide +kernel))) (by decide +kernel)
theorem m_109 : (Jvm.Cond.fieldLink "RuleClasses" (10 : Nat) "RuleClasses" "editions" "Ljava/util/ArrayList;") ∈ TBL := mT (List.mem_append_left _ (List.mem_of_getElem? (i := 109) (by decide +kernel))) (by decide +kernel)
theorem m_110 : (Jvm.Cond.fieldLink "RuleClasses" (16 : Nat) "RuleClasses" "kept" "Ljava/util/ArrayList;") ∈ TBL := mT (List.mem_append_left _ (List.mem_of_getElem? (i := 110) (by decide +kernel))) (by decide +kernel)
theorem m_111 : (Jvm.Cond.fieldLink "RuleClasses" (22 : Nat) "RuleClasses" "facts" "LRuleClasses$Facts;") ∈ TBL := mT (List.mem_append_left _ (List.mem_of_getElem? (i := 111) (by decide +kernel))) (by decide +kernel)
theorem m_112 : (Jvm.Cond.fieldLink "RuleClasses" (57 : Nat) "RuleClasses" "run" "LRuleClasses$Run;") ∈ TBL := mT (List.mem_append_left _ (List.mem_of_getElem? (i := 112) (by decide +kernel))) (by decide +kernel)
theorem m_113 : (Jvm.Cond.fieldLink "RuleClasses" (61 : Nat) "RuleClasses" "runBeside" "LRuleClasses$Run;") ∈ TBL := mT (List.mem_append_left _ (List.mem_of_getElem? (i := 113) (by decide +kernel))) (by decide +kernel)
theorem m_114 : (Jvm.Cond.fieldLink "RuleClasses" (26 : Nat) "RuleClasses" "fallbacks" "[I") ∈ TBL := mT (List.mem_append_left _ (List.mem_of_getElem? (i := 114) (by decide +kernel))) (by decide +kernel)
theorem m_115 : (Jvm.Cond.fieldLink "RuleClasses" (30 : Nat) "RuleClasses" "failures" "[I") ∈ TBL := mT (List.mem_append_left _ (List.mem_of_getElem? (i := 115) (by decide +kernel))) (by decide +kernel)
theorem m_116 : (Jvm.Cond.fieldLink "RuleClasses" (33 : Nat) "RuleClasses" "shadows" "[I") ∈ TBL := mT (List.mem_append_left _ (List.mem_of_getElem? (i := 116) (by decide +kernel))) (by decide +kernel)
theorem m_117 : (Jvm.Cond.fieldLink "RuleClasses" (36 : Nat) "RuleClasses" "differences" "[I") ∈ TBL := mT (List.mem_append_left _ (List.mem_of_getElem? (i := 117) (by decide +kernel))) (by decide +kernel)
theorem m_118 : (Jvm.Cond.fieldLink "RuleClasses" (64 : Nat) "RuleClasses" "day" "I") ∈ TBL := mT (List.mem_append_left _ (List.mem_of_getElem? (i := 118) (by decide +kernel))) (by decide +kernel)
theorem m_119 : (Jvm.Cond.fieldLink "RuleClasses" (134 : Nat) "RuleClasses" "questions" "I") ∈ TBL := mT (List.mem_append_left _ (List.mem_of_getElem? (i := 119) (by decide +kernel))) (by decide +kernel)
theorem m_120 : (Jvm.Cond.fieldLink "RuleClasses" (166 : Nat) "RuleClasses" "handles" "I") ∈ TBL := mT (List.mem_append_left _ (List.mem_of_getElem? (i := 120) (by decide +kernel))) (by decide +kernel)
theorem m_121 : (Jvm.Cond.fieldLink "RuleClasses" (171 : Nat) "RuleClasses" "livingHandle" "I") ∈ TBL := mT (List.mem_append_left _ (List.mem_of_getElem? (i := 121) (by decide +kernel))) (by decide +kernel)
theorem m_122 : (Jvm.Cond.fieldLink "RuleClasses" (174 : Nat) "RuleClasses" "handledEdition" "I") ∈ TBL := mT (List.mem_append_left _ (List.mem_of_getElem? (i := 122) (by decide +kernel))) (by decide +kernel)
theorem m_123 : (Jvm.Cond.laysFinal "RuleClasses" "RuleClasses" "most" "I") ∈ TBL := mT (List.mem_append_left _ (List.mem_of_getElem? (i := 123) (by decide +kernel))) (by decide +kernel)
theorem m_125 : (Jvm.Cond.laysFinal "RuleClasses" "RuleClasses" "editions" "Ljava/util/ArrayList;") ∈ TBL := mT (List.mem_append_left _ (List.mem_of_getElem? (i := 125) (by decide +kernel))) (by decide +kernel)
theorem m_127 : (Jvm.Cond.laysFinal "RuleClasses" "RuleClasses" "kept" "Ljava/util/ArrayList;") ∈ TBL := mT (List.mem_append_left _ (List.mem_of_getElem? (i := 127) (by decide +kernel))) (by decide +kernel)
theorem m_129 : (Jvm.Cond.laysFinal "RuleClasses" "RuleClasses" "facts" "LRuleClasses$Facts;") ∈ TBL := mT (List.mem_append_left _ (List.mem_of_getElem? (i := 129) (by decide +kernel))) (by decide +kernel)
theorem m_131 : (Jvm.Cond.laysFinal "RuleClasses" "RuleClasses" "run" "LRuleClasses$Run;") ∈ TBL := mT (List.mem_append_left _ (List.mem_of_getElem? (i := 131) (by decide +kernel))) (by decide +kernel)
theorem m_133 : (Jvm.Cond.laysFinal "RuleClasses" "RuleClasses" "runBeside" "LRuleClasses$Run;") ∈ TBL := mT (List.mem_append_left _ (List.mem_of_getElem? (i := 133) (by decide +kernel))) (by decide +kernel)
theorem m_135 : (Jvm.Cond.laysFinal "RuleClasses" "RuleClasses" "fallbacks" "[I") ∈ TBL := mT (List.mem_append_left _ (List.mem_of_getElem? (i := 135) (by decide +kernel))) (by decide +kernel)
theorem m_137 : (Jvm.Cond.laysFinal "RuleClasses" "RuleClasses" "failures" "[I") ∈ TBL := mT (List.mem_append_left _ (List.mem_of_getElem? (i := 137) (by decide +kernel))) (by decide +kernel)
theorem m_139 : (Jvm.Cond.laysFinal "RuleClasses" "RuleClasses" "shadows" "[I") ∈ TBL := mT (List.mem_append_left _ (List.mem_of_getElem? (i := 139) (by decide +kernel))) (by decide +kernel)
theorem m_141 : (Jvm.Cond.laysFinal "RuleClasses" "RuleClasses" "differences" "[I") ∈ TBL := mT (List.mem_append_left _ (List.mem_of_getElem? (i := 141) (by decide +kernel))) (by decide +kernel)
theorem m_143 : (Jvm.Cond.lays "RuleClasses" "RuleClasses" "day" "I") ∈ TBL := mT (List.mem_append_left _ (List.mem_of_getElem? (i := 143) (by decide +kernel))) (by decide +kernel)
theorem m_145 : (Jvm.Cond.lays "RuleClasses" "RuleClasses" "questions" "I") ∈ TBL := mT (List.mem_append_left _ (List.mem_of_getElem? (i := 145) (by decide +kernel))) (by decide +kernel)
theorem m_147 : (Jvm.Cond.lays "RuleClasses" "RuleClasses" "handles" "I") ∈ TBL := mT (List.mem_append_left _ (List.mem_of_getElem? (i := 147) (by decide +kernel))) (by decide +kernel)
theorem m_149 : (Jvm.Cond.lays "RuleClasses" "RuleClasses" "livingHandle" "I") ∈ TBL := mT (List.mem_append_left _ (List.mem_of_getElem? (i := 149) (by decide +kernel))) (by decide +kernel)
theorem m_151 : (Jvm.Cond.lays "RuleClasses" "RuleClasses" "handledEdition" "I") ∈ TBL := mT (List.mem_append_left _ (List.mem_of_getElem? (i := 151) (by decide +kernel))) (by decide +kernel)
theorem m_154 : (Jvm.Cond.methodLink "RuleClassesLaw" (156 : Nat) ({ cls := "RuleClasses", name := "count", desc := "(I)I" } : Jvm.MethodName)) ∈ TBL := mT (List.mem_append_left _ (List.mem_of_getElem? (i := 154) (by decide +kernel))) (by decide +kernel)
theorem m_155 : (Jvm.Cond.instanceMethod ({ cls := "RuleClasses", name := "count", desc := "(I)I" } : Jvm.MethodName)) ∈ TBL := mT (List.mem_append_left _ (List.mem_of_getElem? (i := 155) (by decide +kernel))) (by decide +kernel)
theorem m_156 : (Jvm.Cond.selects "RuleClasses" ({ cls := "RuleClasses", name := "count", desc := "(I)I" } : Jvm.MethodName) ({ cls := "RuleClasses", name := "count", desc := "(I)I" } : Jvm.MethodName)) ∈ TBL := mT (List.mem_append_left _ (List.mem_of_getElem? (i := 156) (by decide +kernel))) (by decide +kernel)
theorem m_157 : (Jvm.Cond.code ({ cls := "RuleClasses", name := "count", desc := "(I)I" } : Jvm.MethodName) prog_1_method_20_code (2 : Nat) (Option.some Jvm.ClassFile.FieldType.int)) ∈ TBL := mT (List.mem_append_left _ (List.mem_of_getElem? (i := 157) (by decide +kernel))) (by decide +kernel)
theorem m_158 : (Jvm.Cond.methodLink "RuleClasses" (78 : Nat) ({ cls := "java/util/ArrayList", name := "size", desc := "()I" } : Jvm.MethodName)) ∈ TBL := mT (List.mem_append_left _ (List.mem_of_getElem? (i := 158) (by decide +kernel))) (by decide +kernel)
theorem m_159 : (Jvm.Cond.instanceMethod ({ cls := "java/util/ArrayList", name := "size", desc := "()I" } : Jvm.MethodName)) ∈ TBL := mT (List.mem_append_left _ (List.mem_of_getElem? (i := 159) (by decide +kernel))) (by decide +kernel)
theorem m_160 : (Jvm.Cond.selects "java/util/ArrayList" ({ cls := "java/util/ArrayList", name := "size", desc := "()I" } : Jvm.MethodName) ({ cls := "java/util/ArrayList", name := "size", desc := "()I" } : Jvm.MethodName)) ∈ TBL := mT (List.mem_append_left _ (List.mem_of_getElem? (i := 160) (by decide +kernel))) (by decide +kernel)
theorem m_161 : (Jvm.Cond.code ({ cls := "java/util/ArrayList", name := "size", desc := "()I" } : Jvm.MethodName) prog_22_method_8_code (1 : Nat) (Option.some Jvm.ClassFile.FieldType.int)) ∈ TBL := mT (List.mem_append_left _ (List.mem_of_getElem? (i := 161) (by decide +kernel))) (by decide +kernel)
theorem m_162 : (Jvm.Cond.methodLink "RuleClasses" (207 : Nat) ({ cls := "RuleClasses", name := "madeEditions", desc := "()I" } : Jvm.MethodName)) ∈ TBL := mT (List.mem_append_left _ (List.mem_of_getElem? (i := 162) (by decide +kernel))) (by decide +kernel)
theorem m_164 : (Jvm.Cond.instanceMethod ({ cls := "RuleClasses", name := "madeEditions", desc := "()I" } : Jvm.MethodName)) ∈ TBL := mT (List.mem_append_left _ (List.mem_of_getElem? (i := 164) (by decide +kernel))) (by decide +kernel)
theorem m_165 : (Jvm.Cond.code ({ cls := "RuleClasses", name := "madeEditions", desc := "()I" } : Jvm.MethodName) prog_1_method_32_code (3 : Nat) (Option.some Jvm.ClassFile.FieldType.int)) ∈ TBL := mT (List.mem_append_left _ (List.mem_of_getElem? (i := 165) (by decide +kernel))) (by decide +kernel)
theorem m_166 : (Jvm.Cond.methodLink "RuleClasses" (144 : Nat) ({ cls := "java/util/ArrayList", name := "get", desc := "(I)Ljava/lang/Object;" } : Jvm.MethodName)) ∈ TBL := mT (List.mem_append_left _ (List.mem_of_getElem? (i := 166) (by decide +kernel))) (by decide +kernel)
theorem m_167 : (Jvm.Cond.instanceMethod ({ cls := "java/util/ArrayList", name := "get", desc := "(I)Ljava/lang/Object;" } : Jvm.MethodName)) ∈ TBL := mT (List.mem_append_left _ (List.mem_of_getElem? (i := 167) (by decide +kernel))) (by decide +kernel)
theorem m_168 : (Jvm.Cond.selects "java/util/ArrayList" ({ cls := "java/util/ArrayList", name := "get", desc := "(I)Ljava/lang/Object;" } : Jvm.MethodName) ({ cls := "java/util/ArrayList", name := "get", desc := "(I)Ljava/lang/Object;" } : Jvm.MethodName)) ∈ TBL := mT (List.mem_append_left _ (List.mem_of_getElem? (i := 168) (by decide +kernel))) (by decide +kernel)
theorem m_169 : (Jvm.Cond.code ({ cls := "java/util/ArrayList", name := "get", desc := "(I)Ljava/lang/Object;" } : Jvm.MethodName) prog_22_method_20_code (2 : Nat) (Option.some (Jvm.ClassFile.FieldType.object "java/lang/Object"))) ∈ TBL := mT (List.mem_append_left _ (List.mem_of_getElem? (i := 169) (by decide +kernel))) (by decide +kernel)
theorem m_170 : (Jvm.Cond.methodLink "java/util/ArrayList" (118 : Nat) ({ cls := "java/util/Objects", name := "checkIndex", desc := "(II)I" } : Jvm.MethodName)) ∈ TBL := mT (List.mem_append_left _ (List.mem_of_getElem? (i := 170) (by decide +kernel))) (by decide +kernel)
theorem m_171 : (Jvm.Cond.static ({ cls := "java/util/Objects", name := "checkIndex", desc := "(II)I" } : Jvm.MethodName)) ∈ TBL := mT (List.mem_append_left _ (List.mem_of_getElem? (i := 171) (by decide +kernel))) (by decide +kernel)
theorem m_172 : (Jvm.Cond.code ({ cls := "java/util/Objects", name := "checkIndex", desc := "(II)I" } : Jvm.MethodName) prog_27_method_17_code (2 : Nat) (Option.some Jvm.ClassFile.FieldType.int)) ∈ TBL := mT (List.mem_append_left _ (List.mem_of_getElem? (i := 172) (by decide +kernel))) (by decide +kernel)
theorem m_173 : (Jvm.Cond.methodLink "java/util/Objects" (105 : Nat) ({ cls := "jdk/internal/util/Preconditions", name := "checkIndex", desc := "(IILjava/util/function/BiFunction;)I" } : Jvm.MethodName)) ∈ TBL := mT (List.mem_append_left _ (List.mem_of_getElem? (i := 173) (by decide +kernel))) (by decide +kernel)
theorem m_174 : (Jvm.Cond.static ({ cls := "jdk/internal/util/Preconditions", name := "checkIndex", desc := "(IILjava/util/function/BiFunction;)I" } : Jvm.MethodName)) ∈ TBL := mT (List.mem_append_left _ (List.mem_of_getElem? (i := 174) (by decide +kernel))) (by decide +kernel)
theorem m_175 : (Jvm.Cond.code ({ cls := "jdk/internal/util/Preconditions", name := "checkIndex", desc := "(IILjava/util/function/BiFunction;)I" } : Jvm.MethodName) prog_31_method_11_code (3 : Nat) (Option.some Jvm.ClassFile.FieldType.int)) ∈ TBL := mT (List.mem_append_left _ (List.mem_of_getElem? (i := 175) (by decide +kernel))) (by decide +kernel)
theorem m_176 : (Jvm.Cond.methodLink "java/util/ArrayList" (123 : Nat) ({ cls := "java/util/ArrayList", name := "elementData", desc := "(I)Ljava/lang/Object;" } : Jvm.MethodName)) ∈ TBL := mT (List.mem_append_left _ (List.mem_of_getElem? (i := 176) (by decide +kernel))) (by decide +kernel)
theorem m_177 : (Jvm.Cond.instanceMethod ({ cls := "java/util/ArrayList", name := "elementData", desc := "(I)Ljava/lang/Object;" } : Jvm.MethodName)) ∈ TBL := mT (List.mem_append_left _ (List.mem_of_getElem? (i := 177) (by decide +kernel))) (by decide +kernel)
theorem m_178 : (Jvm.Cond.selects "java/util/ArrayList" ({ cls := "java/util/ArrayList", name := "elementData", desc := "(I)Ljava/lang/Object;" } : Jvm.MethodName) ({ cls := "java/util/ArrayList", name := "elementData", desc := "(I)Ljava/lang/Object;" } : Jvm.MethodName)) ∈ TBL := mT (List.mem_append_left _ (List.mem_of_getElem? (i := 178) (by decide +kernel))) (by decide +kernel)
theorem m_179 : (Jvm.Cond.code ({ cls := "java/util/ArrayList", name := "elementData", desc := "(I)Ljava/lang/Object;" } : Jvm.MethodName) prog_22_method_18_code (2 : Nat) (Option.some (Jvm.ClassFile.FieldType.object "java/lang/Object"))) ∈ TBL := mT (List.mem_append_left _ (List.mem_of_getElem? (i := 179) (by decide +kernel))) (by decide +kernel)
theorem m_180 : (Jvm.Cond.classLink "RuleClasses" (89 : Nat) "RuleClasses$Edition") ∈ TBL := mT (List.mem_append_left _ (List.mem_of_getElem? (i := 180) (by decide +kernel))) (by decide +kernel)
theorem m_181 : (Jvm.Cond.methodLink "RuleClasses" (210 : Nat) ({ cls := "RuleClasses", name := "failedQuestions", desc := "()I" } : Jvm.MethodName)) ∈ TBL := mT (List.mem_append_left _ (List.mem_of_getElem? (i := 181) (by decide +kernel))) (by decide +kernel)
theorem m_183 : (Jvm.Cond.instanceMethod ({ cls := "RuleClasses", name := "failedQuestions", desc := "()I" } : Jvm.MethodName)) ∈ TBL := mT (List.mem_append_left _ (List.mem_of_getElem? (i := 183) (by decide +kernel))) (by decide +kernel)
theorem m_184 : (Jvm.Cond.code ({ cls := "RuleClasses", name := "failedQuestions", desc := "()I" } : Jvm.MethodName) prog_1_method_33_code (3 : Nat) (Option.some Jvm.ClassFile.FieldType.int)) ∈ TBL := mT (List.mem_append_left _ (List.mem_of_getElem? (i := 184) (by decide +kernel))) (by decide +kernel)
theorem m_185 : (Jvm.Cond.methodLink "RuleClassesLaw" (81 : Nat) ({ cls := "RuleClassesLaw", name := "cell", desc := "([II)I" } : Jvm.MethodName)) ∈ TBL := mT (List.mem_append_left _ (List.mem_of_getElem? (i := 185) (by decide +kernel))) (by decide +kernel)
theorem m_186 : (Jvm.Cond.static ({ cls := "RuleClassesLaw", name := "cell", desc := "([II)I" } : Jvm.MethodName)) ∈ TBL := mT (List.mem_append_left _ (List.mem_of_getElem? (i := 186) (by decide +kernel))) (by decide +kernel)
theorem m_187 : (Jvm.Cond.code ({ cls := "RuleClassesLaw", name := "cell", desc := "([II)I" } : Jvm.MethodName) method_2_code (2 : Nat) (Option.some Jvm.ClassFile.FieldType.int)) ∈ TBL := mT (List.mem_append_left _ (List.mem_of_getElem? (i := 187) (by decide +kernel))) (by decide +kernel)
theorem m_188 : (Jvm.Cond.methodLink "RuleClassesLaw" (92 : Nat) ({ cls := "RuleClassesLaw", name := "today", desc := "(LRuleClasses;I)I" } : Jvm.MethodName)) ∈ TBL := mT (List.mem_append_left _ (List.mem_of_getElem? (i := 188) (by decide +kernel))) (by decide +kernel)
theorem m_189 : (Jvm.Cond.static ({ cls := "RuleClassesLaw", name := "today", desc := "(LRuleClasses;I)I" } : Jvm.MethodName)) ∈ TBL := mT (List.mem_append_left _ (List.mem_of_getElem? (i := 189) (by decide +kernel))) (by decide +kernel)
theorem m_190 : (Jvm.Cond.codeWith ({ cls := "RuleClassesLaw", name := "today", desc := "(LRuleClasses;I)I" } : Jvm.MethodName) method_3_code (3 : Nat) (Option.some Jvm.ClassFile.FieldType.int) [((0 : Nat), (5 : Nat), (8 : Nat), (13 : Nat))]) ∈ TBL := mT (List.mem_append_left _ (List.mem_of_getElem? (i := 190) (by decide +kernel))) (by decide +kernel)
theorem m_191 : (Jvm.Cond.classLink "RuleClassesLaw" (13 : Nat) "java/lang/IllegalArgumentException") ∈ TBL := mT (List.mem_append_left _ (List.mem_of_getElem? (i := 191) (by decide +kernel))) (by decide +kernel)
theorem m_192 : (Jvm.Cond.methodLink "RuleClassesLaw" (7 : Nat) ({ cls := "RuleClasses", name := "today", desc := "(I)V" } : Jvm.MethodName)) ∈ TBL := mT (List.mem_append_left _ (List.mem_of_getElem? (i := 192) (by decide +kernel))) (by decide +kernel)
theorem m_193 : (Jvm.Cond.instanceMethod ({ cls := "RuleClasses", name := "today", desc := "(I)V" } : Jvm.MethodName)) ∈ TBL := mT (List.mem_append_left _ (List.mem_of_getElem? (i := 193) (by decide +kernel))) (by decide +kernel)
theorem m_194 : (Jvm.Cond.selects "RuleClasses" ({ cls := "RuleClasses", name := "today", desc := "(I)V" } : Jvm.MethodName) ({ cls := "RuleClasses", name := "today", desc := "(I)V" } : Jvm.MethodName)) ∈ TBL := mT (List.mem_append_left _ (List.mem_of_getElem? (i := 194) (by decide +kernel))) (by decide +kernel)
theorem m_195 : (Jvm.Cond.code ({ cls := "RuleClasses", name := "today", desc := "(I)V" } : Jvm.MethodName) prog_1_method_2_code (2 : Nat) (Option.none : Option Jvm.ClassFile.FieldType)) ∈ TBL := mT (List.mem_append_left _ (List.mem_of_getElem? (i := 195) (by decide +kernel))) (by decide +kernel)
theorem m_196 : (Jvm.Cond.methodLink "RuleClasses" (67 : Nat) ({ cls := "RuleClasses", name := "requireRange", desc := "(III)V" } : Jvm.MethodName)) ∈ TBL := mT (List.mem_append_left _ (List.mem_of_getElem? (i := 196) (by decide +kernel))) (by decide +kernel)
theorem m_197 : (Jvm.Cond.static ({ cls := "RuleClasses", name := "requireRange", desc := "(III)V" } : Jvm.MethodName)) ∈ TBL := mT (List.mem_append_left _ (List.mem_of_getElem? (i := 197) (by decide +kernel))) (by decide +kernel)
theorem m_198 : (Jvm.Cond.code ({ cls := "RuleClasses", name := "requireRange", desc := "(III)V" } : Jvm.MethodName) prog_1_method_21_code (3 : Nat) (Option.none : Option Jvm.ClassFile.FieldType)) ∈ TBL := mT (List.mem_append_left _ (List.mem_of_getElem? (i := 198) (by decide +kernel))) (by decide +kernel)
theorem m_199 : (Jvm.Cond.classLink "RuleClasses" (213 : Nat) "java/lang/IllegalArgumentException") ∈ TBL := mT (List.mem_append_left _ (List.mem_of_getElem? (i := 199) (by decide +kernel))) (by decide +kernel)
theorem m_200 : (Jvm.Cond.instantiable "java/lang/IllegalArgumentException" (6 : Nat)) ∈ TBL := mT (List.mem_append_left _ (List.mem_of_getElem? (i := 200) (by decide +kernel))) (by decide +kernel)
theorem m_208 : (Jvm.Cond.selects "java/lang/IllegalArgumentException" ({ cls := "java/lang/Throwable", name := "fillInStackTrace", desc := "(I)Ljava/lang/Throwable;" } : Jvm.MethodName) ({ cls := "java/lang/Throwable", name := "fillInStackTrace", desc := "(I)Ljava/lang/Throwable;" } : Jvm.MethodName)) ∈ TBL := mT (List.mem_append_left _ (List.mem_of_getElem? (i := 208) (by decide +kernel))) (by decide +kernel)
theorem m_209 : (Jvm.Cond.selects "java/lang/IllegalArgumentException" ({ cls := "java/lang/Throwable", name := "fillInStackTrace", desc := "()Ljava/lang/Throwable;" } : Jvm.MethodName) ({ cls := "java/lang/Throwable", name := "fillInStackTrace", desc := "()Ljava/lang/Throwable;" } : Jvm.MethodName)) ∈ TBL := mT (List.mem_append_left _ (List.mem_of_getElem? (i := 209) (by decide +kernel))) (by decide +kernel)
theorem m_210 : (Jvm.Cond.lays "java/lang/IllegalArgumentException" "java/lang/Throwable" "cause" "Ljava/lang/Throwable;") ∈ TBL := mT (List.mem_append_left _ (List.mem_of_getElem? (i := 210) (by decide +kernel))) (by decide +kernel)
theorem m_211 : (Jvm.Cond.lays "java/lang/Throwable" "java/lang/Throwable" "cause" "Ljava/lang/Throwable;") ∈ TBL := mT (List.mem_append_left _ (List.mem_of_getElem? (i := 211) (by decide +kernel))) (by decide +kernel)
theorem m_212 : (Jvm.Cond.lays "java/lang/IllegalArgumentException" "java/lang/Throwable" "stackTrace" "[Ljava/lang/StackTraceElement;") ∈ TBL := mT (List.mem_append_left _ (List.mem_of_getElem? (i := 212) (by decide +kernel))) (by decide +kernel)
theorem m_213 : (Jvm.Cond.lays "java/lang/Throwable" "java/lang/Throwable" "stackTrace" "[Ljava/lang/StackTraceElement;") ∈ TBL := mT (List.mem_append_left _ (List.mem_of_getElem? (i := 213) (by decide +kernel))) (by decide +kernel)
theorem m_214 : (Jvm.Cond.lays "java/lang/IllegalArgumentException" "java/lang/Throwable" "suppressedExceptions" "Ljava/util/List;") ∈ TBL := mT (List.mem_append_left _ (List.mem_of_getElem? (i := 214) (by decide +kernel))) (by decide +kernel)
theorem m_215 : (Jvm.Cond.lays "java/lang/Throwable" "java/lang/Throwable" "suppressedExceptions" "Ljava/util/List;") ∈ TBL := mT (List.mem_append_left _ (List.mem_of_getElem? (i := 215) (by decide +kernel))) (by decide +kernel)
theorem m_216 : (Jvm.Cond.lays "java/lang/IllegalArgumentException" "java/lang/Throwable" "detailMessage" "Ljava/lang/String;") ∈ TBL := mT (List.mem_append_left _ (List.mem_of_getElem? (i := 216) (by decide +kernel))) (by decide +kernel)
theorem m_217 : (Jvm.Cond.lays "java/lang/Throwable" "java/lang/Throwable" "detailMessage" "Ljava/lang/String;") ∈ TBL := mT (List.mem_append_left _ (List.mem_of_getElem? (i := 217) (by decide +kernel))) (by decide +kernel)
theorem m_218 : (Jvm.Cond.lays "java/lang/IllegalArgumentException" "java/lang/Throwable" "backtrace" "Ljava/lang/Object;") ∈ TBL := mT (List.mem_append_left _ (List.mem_of_getElem? (i := 218) (by decide +kernel))) (by decide +kernel)
theorem m_219 : (Jvm.Cond.lays "java/lang/Throwable" "java/lang/Throwable" "backtrace" "Ljava/lang/Object;") ∈ TBL := mT (List.mem_append_left _ (List.mem_of_getElem? (i := 219) (by decide +kernel))) (by decide +kernel)
theorem m_220 : (Jvm.Cond.fieldLink "java/lang/Throwable" (198 : Nat) "java/lang/Throwable" "backtrace" "Ljava/lang/Object;") ∈ TBL := mT (List.mem_append_left _ (List.mem_of_getElem? (i := 220) (by decide +kernel))) (by decide +kernel)
theorem m_222 : (Jvm.Cond.instanceMethod ({ cls := "java/lang/Throwable", name := "<init>", desc := "()V" } : Jvm.MethodName)) ∈ TBL := mT (List.mem_append_left _ (List.mem_of_getElem? (i := 222) (by decide +kernel))) (by decide +kernel)
theorem m_223 : (Jvm.Cond.code ({ cls := "java/lang/Throwable", name := "<init>", desc := "()V" } : Jvm.MethodName) prog_18_method_1_code (1 : Nat) (Option.none : Option Jvm.ClassFile.FieldType)) ∈ TBL := mT (List.mem_append_left _ (List.mem_of_getElem? (i := 223) (by decide +kernel))) (by decide +kernel)
theorem m_224 : (Jvm.Cond.methodLink "java/lang/Throwable" (1 : Nat) ({ cls := "java/lang/Object", name := "<init>", desc := "()V" } : Jvm.MethodName)) ∈ TBL := mT (List.mem_append_left _ (List.mem_of_getElem? (i := 224) (by decide +kernel))) (by decide +kernel)
theorem m_225 : (Jvm.Cond.fieldLink "java/lang/Throwable" (13 : Nat) "java/lang/Throwable" "UNASSIGNED_STACK" "[Ljava/lang/StackTraceElement;") ∈ TBL := mT (List.mem_append_left _ (List.mem_of_getElem? (i := 225) (by decide +kernel))) (by decide +kernel)
theorem m_227 : (Jvm.Cond.fieldLink "java/lang/Throwable" (20 : Nat) "java/lang/Throwable" "SUPPRESSED_SENTINEL" "Ljava/util/List;") ∈ TBL := mT (List.mem_append_left _ (List.mem_of_getElem? (i := 227) (by decide +kernel))) (by decide +kernel)
theorem m_229 : (Jvm.Cond.methodLink "java/lang/Throwable" (27 : Nat) ({ cls := "java/lang/Throwable", name := "fillInStackTrace", desc := "()Ljava/lang/Throwable;" } : Jvm.MethodName)) ∈ TBL := mT (List.mem_append_left _ (List.mem_of_getElem? (i := 229) (by decide +kernel))) (by decide +kernel)
theorem m_230 : (Jvm.Cond.instanceMethod ({ cls := "java/lang/Throwable", name := "fillInStackTrace", desc := "()Ljava/lang/Throwable;" } : Jvm.MethodName)) ∈ TBL := mT (List.mem_append_left _ (List.mem_of_getElem? (i := 230) (by decide +kernel))) (by decide +kernel)
theorem m_232 : (Jvm.Cond.selects "java/lang/ArithmeticException" ({ cls := "java/lang/Throwable", name := "fillInStackTrace", desc := "()Ljava/lang/Throwable;" } : Jvm.MethodName) ({ cls := "java/lang/Throwable", name := "fillInStackTrace", desc := "()Ljava/lang/Throwable;" } : Jvm.MethodName)) ∈ TBL := mT (List.mem_append_left _ (List.mem_of_getElem? (i := 232) (by decide +kernel))) (by decide +kernel)
theorem m_233 : (Jvm.Cond.selects "java/lang/IllegalStateException" ({ cls := "java/lang/Throwable", name := "fillInStackTrace", desc := "()Ljava/lang/Throwable;" } : Jvm.MethodName) ({ cls := "java/lang/Throwable", name := "fillInStackTrace", desc := "()Ljava/lang/Throwable;" } : Jvm.MethodName)) ∈ TBL := mT (List.mem_append_left _ (List.mem_of_getElem? (i := 233) (by decide +kernel))) (by decide +kernel)
theorem m_234 : (Jvm.Cond.selects "java/lang/UnsupportedOperationException" ({ cls := "java/lang/Throwable", name := "fillInStackTrace", desc := "()Ljava/lang/Throwable;" } : Jvm.MethodName) ({ cls := "java/lang/Throwable", name := "fillInStackTrace", desc := "()Ljava/lang/Throwable;" } : Jvm.MethodName)) ∈ TBL := mT (List.mem_append_left _ (List.mem_of_getElem? (i := 234) (by decide +kernel))) (by decide +kernel)
theorem m_235 : (Jvm.Cond.selects "java/util/NoSuchElementException" ({ cls := "java/lang/Throwable", name := "fillInStackTrace", desc := "()Ljava/lang/Throwable;" } : Jvm.MethodName) ({ cls := "java/lang/Throwable", name := "fillInStackTrace", desc := "()Ljava/lang/Throwable;" } : Jvm.MethodName)) ∈ TBL := mT (List.mem_append_left _ (List.mem_of_getElem? (i := 235) (by decide +kernel))) (by decide +kernel)
theorem m_237 : (Jvm.Cond.methodLink "java/lang/Throwable" (202 : Nat) ({ cls := "java/lang/Throwable", name := "fillInStackTrace", desc := "(I)Ljava/lang/Throwable;" } : Jvm.MethodName)) ∈ TBL := mT (List.mem_append_left _ (List.mem_of_getElem? (i := 237) (by decide +kernel))) (by decide +kernel)
theorem m_239 : (Jvm.Cond.instanceMethod ({ cls := "java/lang/Throwable", name := "fillInStackTrace", desc := "(I)Ljava/lang/Throwable;" } : Jvm.MethodName)) ∈ TBL := mT (List.mem_append_left _ (List.mem_of_getElem? (i := 239) (by decide +kernel))) (by decide +kernel)
theorem m_240 : (Jvm.Cond.instantiable "java/lang/Throwable" (6 : Nat)) ∈ TBL := mT (List.mem_append_right _ (List.mem_append_left _ (List.mem_of_getElem? (i := 0) (by decide +kernel)))) (by decide +kernel)
theorem m_241 : (Jvm.Cond.native ({ cls := "java/lang/Throwable", name := "fillInStackTrace", desc := "(I)Ljava/lang/Throwable;" } : Jvm.MethodName)) ∈ TBL := mT (List.mem_append_right _ (List.mem_append_left _ (List.mem_of_getElem? (i := 1) (by decide +kernel)))) (by decide +kernel)
theorem m_243 : (Jvm.Cond.methodLink "RuleClasses" (217 : Nat) ({ cls := "java/lang/IllegalArgumentException", name := "<init>", desc := "(Ljava/lang/String;)V" } : Jvm.MethodName)) ∈ TBL := mT (List.mem_append_right _ (List.mem_append_left _ (List.mem_of_getElem? (i := 3) (by decide +kernel)))) (by decide +kernel)
theorem m_244 : (Jvm.Cond.instanceMethod ({ cls := "java/lang/IllegalArgumentException", name := "<init>", desc := "(Ljava/lang/String;)V" } : Jvm.MethodName)) ∈ TBL := mT (List.mem_append_right _ (List.mem_append_left _ (List.mem_of_getElem? (i := 4) (by decide +kernel)))) (by decide +kernel)
theorem m_245 : (Jvm.Cond.code ({ cls := "java/lang/IllegalArgumentException", name := "<init>", desc := "(Ljava/lang/String;)V" } : Jvm.MethodName) prog_11_method_2_code (2 : Nat) (Option.none : Option Jvm.ClassFile.FieldType)) ∈ TBL := mT (List.mem_append_right _ (List.mem_append_left _ (List.mem_of_getElem? (i := 5) (by decide +kernel)))) (by decide +kernel)
theorem m_246 : (Jvm.Cond.methodLink "java/lang/IllegalArgumentException" (7 : Nat) ({ cls := "java/lang/RuntimeException", name := "<init>", desc := "(Ljava/lang/String;)V" } : Jvm.MethodName)) ∈ TBL := mT (List.mem_append_right _ (List.mem_append_left _ (List.mem_of_getElem? (i := 6) (by decide +kernel)))) (by decide +kernel)
theorem m_247 : (Jvm.Cond.instanceMethod ({ cls := "java/lang/RuntimeException", name := "<init>", desc := "(Ljava/lang/String;)V" } : Jvm.MethodName)) ∈ TBL := mT (List.mem_append_right _ (List.mem_append_left _ (List.mem_of_getElem? (i := 7) (by decide +kernel)))) (by decide +kernel)
theorem m_248 : (Jvm.Cond.code ({ cls := "java/lang/RuntimeException", name := "<init>", desc := "(Ljava/lang/String;)V" } : Jvm.MethodName) prog_15_method_2_code (2 : Nat) (Option.none : Option Jvm.ClassFile.FieldType)) ∈ TBL := mT (List.mem_append_right _ (List.mem_append_left _ (List.mem_of_getElem? (i := 8) (by decide +kernel)))) (by decide +kernel)
theorem m_249 : (Jvm.Cond.methodLink "java/lang/RuntimeException" (7 : Nat) ({ cls := "java/lang/Exception", name := "<init>", desc := "(Ljava/lang/String;)V" } : Jvm.MethodName)) ∈ TBL := mT (List.mem_append_right _ (List.mem_append_left _ (List.mem_of_getElem? (i := 9) (by decide +kernel)))) (by decide +kernel)
theorem m_250 : (Jvm.Cond.instanceMethod ({ cls := "java/lang/Exception", name := "<init>", desc := "(Ljava/lang/String;)V" } : Jvm.MethodName)) ∈ TBL := mT (List.mem_append_right _ (List.mem_append_left _ (List.mem_of_getElem? (i := 10) (by decide +kernel)))) (by decide +kernel)
theorem m_251 : (Jvm.Cond.code ({ cls := "java/lang/Exception", name := "<init>", desc := "(Ljava/lang/String;)V" } : Jvm.MethodName) prog_10_method_2_code (2 : Nat) (Option.none : Option Jvm.ClassFile.FieldType)) ∈ TBL := mT (List.mem_append_right _ (List.mem_append_left _ (List.mem_of_getElem? (i := 11) (by decide +kernel)))) (by decide +kernel)
theorem m_252 : (Jvm.Cond.methodLink "java/lang/Exception" (7 : Nat) ({ cls := "java/lang/Throwable", name := "<init>", desc := "(Ljava/lang/String;)V" } : Jvm.MethodName)) ∈ TBL := mT (List.mem_append_right _ (List.mem_append_left _ (List.mem_of_getElem? (i := 12) (by decide +kernel)))) (by decide +kernel)
theorem m_253 : (Jvm.Cond.instanceMethod ({ cls := "java/lang/Throwable", name := "<init>", desc := "(Ljava/lang/String;)V" } : Jvm.MethodName)) ∈ TBL := mT (List.mem_append_right _ (List.mem_append_left _ (List.mem_of_getElem? (i := 13) (by decide +kernel)))) (by decide +kernel)
theorem m_254 : (Jvm.Cond.code ({ cls := "java/lang/Throwable", name := "<init>", desc := "(Ljava/lang/String;)V" } : Jvm.MethodName) prog_18_method_2_code (2 : Nat) (Option.none : Option Jvm.ClassFile.FieldType)) ∈ TBL := mT (List.mem_append_right _ (List.mem_append_left _ (List.mem_of_getElem? (i := 14) (by decide +kernel)))) (by decide +kernel)
theorem m_255 : (Jvm.Cond.fieldLink "java/lang/Throwable" (198 : Nat) "java/lang/Throwable" "backtrace" "Ljava/lang/Object;") ∈ TBL := mT (List.mem_append_right _ (List.mem_append_left _ (List.mem_of_getElem? (i := 15) (by decide +kernel)))) (by decide +kernel)
theorem m_256 : (Jvm.Cond.fieldLink "java/lang/Throwable" (31 : Nat) "java/lang/Throwable" "detailMessage" "Ljava/lang/String;") ∈ TBL := mT (List.mem_append_right _ (List.mem_append_left _ (List.mem_of_getElem? (i := 16) (by decide +kernel)))) (by decide +kernel)
theorem m_257 : (Jvm.Cond.fieldLink "java/lang/Throwable" (7 : Nat) "java/lang/Throwable" "cause" "Ljava/lang/Throwable;") ∈ TBL := mT (List.mem_append_right _ (List.mem_append_left _ (List.mem_of_getElem? (i := 17) (by decide +kernel)))) (by decide +kernel)
theorem m_258 : (Jvm.Cond.fieldLink "java/lang/Throwable" (17 : Nat) "java/lang/Throwable" "stackTrace" "[Ljava/lang/StackTraceElement;") ∈ TBL := mT (List.mem_append_right _ (List.mem_append_left _ (List.mem_of_getElem? (i := 18) (by decide +kernel)))) (by decide +kernel)
theorem m_259 : (Jvm.Cond.fieldLink "java/lang/Throwable" (24 : Nat) "java/lang/Throwable" "suppressedExceptions" "Ljava/util/List;") ∈ TBL := mT (List.mem_append_right _ (List.mem_append_left _ (List.mem_of_getElem? (i := 19) (by decide +kernel)))) (by decide +kernel)
theorem m_264 : (Jvm.Cond.lays "java/lang/IllegalArgumentException" "java/lang/Throwable" "depth" "I") ∈ TBL := mT (List.mem_append_right _ (List.mem_append_left _ (List.mem_of_getElem? (i := 24) (by decide +kernel)))) (by decide +kernel)
theorem m_268 : (Jvm.Cond.arrayClass Jvm.ClassFile.FieldType.byte) ∈ TBL := mT (List.mem_append_right _ (List.mem_append_left _ (List.mem_of_getElem? (i := 28) (by decide +kernel)))) (by decide +kernel)
theorem m_269 : (Jvm.Cond.methodLink "RuleClasses" (71 : Nat) ({ cls := "RuleClasses", name := "endHandle", desc := "()V" } : Jvm.MethodName)) ∈ TBL := mT (List.mem_append_right _ (List.mem_append_left _ (List.mem_of_getElem? (i := 29) (by decide +kernel)))) (by decide +kernel)
theorem m_271 : (Jvm.Cond.instanceMethod ({ cls := "RuleClasses", name := "endHandle", desc := "()V" } : Jvm.MethodName)) ∈ TBL := mT (List.mem_append_right _ (List.mem_append_left _ (List.mem_of_getElem? (i := 31) (by decide +kernel)))) (by decide +kernel)
theorem m_272 : (Jvm.Cond.code ({ cls := "RuleClasses", name := "endHandle", desc := "()V" } : Jvm.MethodName) prog_1_method_29_code (1 : Nat) (Option.none : Option Jvm.ClassFile.FieldType)) ∈ TBL := mT (List.mem_append_right _ (List.mem_append_left _ (List.mem_of_getElem? (i := 32) (by decide +kernel)))) (by decide +kernel)
theorem m_273 : (Jvm.Cond.methodLink "RuleClassesLaw" (99 : Nat) ({ cls := "RuleClassesLaw", name := "rule", desc := "(LRuleClasses;III[J)I" } : Jvm.MethodName)) ∈ TBL := mT (List.mem_append_right _ (List.mem_append_left _ (List.mem_of_getElem? (i := 33) (by decide +kernel)))) (by decide +kernel)
theorem m_274 : (Jvm.Cond.static ({ cls := "RuleClassesLaw", name := "rule", desc := "(LRuleClasses;III[J)I" } : Jvm.MethodName)) ∈ TBL := mT (List.mem_append_right _ (List.mem_append_left _ (List.mem_of_getElem? (i := 34) (by decide +kernel)))) (by decide +kernel)
theorem m_275 : (Jvm.Cond.codeWith ({ cls := "RuleClassesLaw", name := "rule", desc := "(LRuleClasses;III[J)I" } : Jvm.MethodName) method_4_code (6 : Nat) (Option.some Jvm.ClassFile.FieldType.int) [((0 : Nat), (12 : Nat), (15 : Nat), (13 : Nat)), ((0 : Nat), (12 : Nat), (19 : Nat), (19 : Nat))]) ∈ TBL := mT (List.mem_append_right _ (List.mem_append_left _ (List.mem_of_getElem? (i := 35) (by decide +kernel)))) (by decide +kernel)
theorem m_276 : (Jvm.Cond.classLink "RuleClassesLaw" (19 : Nat) "java/lang/UnsupportedOperationException") ∈ TBL := mT (List.mem_append_right _ (List.mem_append_left _ (List.mem_of_getElem? (i := 36) (by decide +kernel)))) (by decide +kernel)
theorem m_277 : (Jvm.Cond.methodLink "RuleClassesLaw" (15 : Nat) ({ cls := "RuleClasses", name := "rule", desc := "(III)I" } : Jvm.MethodName)) ∈ TBL := mT (List.mem_append_right _ (List.mem_append_left _ (List.mem_of_getElem? (i := 37) (by decide +kernel)))) (by decide +kernel)
theorem m_278 : (Jvm.Cond.instanceMethod ({ cls := "RuleClasses", name := "rule", desc := "(III)I" } : Jvm.MethodName)) ∈ TBL := mT (List.mem_append_right _ (List.mem_append_left _ (List.mem_of_getElem? (i := 38) (by decide +kernel)))) (by decide +kernel)
theorem m_279 : (Jvm.Cond.selects "RuleClasses" ({ cls := "RuleClasses", name := "rule", desc := "(III)I" } : Jvm.MethodName) ({ cls := "RuleClasses", name := "rule", desc := "(III)I" } : Jvm.MethodName)) ∈ TBL := mT (List.mem_append_right _ (List.mem_append_left _ (List.mem_of_getElem? (i := 39) (by decide +kernel)))) (by decide +kernel)
theorem m_280 : (Jvm.Cond.code ({ cls := "RuleClasses", name := "rule", desc := "(III)I" } : Jvm.MethodName) prog_1_method_3_code (4 : Nat) (Option.some Jvm.ClassFile.FieldType.int)) ∈ TBL := mT (List.mem_append_right _ (List.mem_append_left _ (List.mem_of_getElem? (i := 40) (by decide +kernel)))) (by decide +kernel)
theorem m_281 : (Jvm.Cond.methodLink "RuleClasses" (74 : Nat) ({ cls := "RuleClasses", name := "requireOwnerAndKind", desc := "(II)V" } : Jvm.MethodName)) ∈ TBL := mT (List.mem_append_right _ (List.mem_append_left _ (List.mem_of_getElem? (i := 41) (by decide +kernel)))) (by decide +kernel)
theorem m_282 : (Jvm.Cond.static ({ cls := "RuleClasses", name := "requireOwnerAndKind", desc := "(II)V" } : Jvm.MethodName)) ∈ TBL := mT (List.mem_append_right _ (List.mem_append_left _ (List.mem_of_getElem? (i := 42) (by decide +kernel)))) (by decide +kernel)
theorem m_283 : (Jvm.Cond.code ({ cls := "RuleClasses", name := "requireOwnerAndKind", desc := "(II)V" } : Jvm.MethodName) prog_1_method_22_code (2 : Nat) (Option.none : Option Jvm.ClassFile.FieldType)) ∈ TBL := mT (List.mem_append_right _ (List.mem_append_left _ (List.mem_of_getElem? (i := 43) (by decide +kernel)))) (by decide +kernel)
theorem m_284 : (Jvm.Cond.classLink "RuleClasses" (82 : Nat) "java/lang/UnsupportedOperationException") ∈ TBL := mT (List.mem_append_right _ (List.mem_append_left _ (List.mem_of_getElem? (i := 44) (by decide +kernel)))) (by decide +kernel)
theorem m_285 : (Jvm.Cond.instantiable "java/lang/UnsupportedOperationException" (6 : Nat)) ∈ TBL := mT (List.mem_append_right _ (List.mem_append_left _ (List.mem_of_getElem? (i := 45) (by decide +kernel)))) (by decide +kernel)
theorem m_287 : (Jvm.Cond.selects "java/lang/UnsupportedOperationException" ({ cls := "java/lang/Throwable", name := "fillInStackTrace", desc := "(I)Ljava/lang/Throwable;" } : Jvm.MethodName) ({ cls := "java/lang/Throwable", name := "fillInStackTrace", desc := "(I)Ljava/lang/Throwable;" } : Jvm.MethodName)) ∈ TBL := mT (List.mem_append_right _ (List.mem_append_left _ (List.mem_of_getElem? (i := 47) (by decide +kernel)))) (by decide +kernel)
theorem m_288 : (Jvm.Cond.lays "java/lang/UnsupportedOperationException" "java/lang/Throwable" "cause" "Ljava/lang/Throwable;") ∈ TBL := mT (List.mem_append_right _ (List.mem_append_left _ (List.mem_of_getElem? (i := 48) (by decide +kernel)))) (by decide +kernel)
theorem m_289 : (Jvm.Cond.lays "java/lang/UnsupportedOperationException" "java/lang/Throwable" "stackTrace" "[Ljava/lang/StackTraceElement;") ∈ TBL := mT (List.mem_append_right _ (List.mem_append_left _ (List.mem_of_getElem? (i := 49) (by decide +kernel)))) (by decide +kernel)
theorem m_290 : (Jvm.Cond.lays "java/lang/UnsupportedOperationException" "java/lang/Throwable" "suppressedExceptions" "Ljava/util/List;") ∈ TBL := mT (List.mem_append_right _ (List.mem_append_left _ (List.mem_of_getElem? (i := 50) (by decide +kernel)))) (by decide +kernel)
theorem m_291 : (Jvm.Cond.lays "java/lang/UnsupportedOperationException" "java/lang/Throwable" "detailMessage" "Ljava/lang/String;") ∈ TBL := mT (List.mem_append_right _ (List.mem_append_left _ (List.mem_of_getElem? (i := 51) (by decide +kernel)))) (by decide +kernel)
theorem m_292 : (Jvm.Cond.lays "java/lang/UnsupportedOperationException" "java/lang/Throwable" "backtrace" "Ljava/lang/Object;") ∈ TBL := mT (List.mem_append_right _ (List.mem_append_left _ (List.mem_of_getElem? (i := 52) (by decide +kernel)))) (by decide +kernel)
theorem m_294 : (Jvm.Cond.methodLink "RuleClasses" (86 : Nat) ({ cls := "java/lang/UnsupportedOperationException", name := "<init>", desc := "(Ljava/lang/String;)V" } : Jvm.MethodName)) ∈ TBL := mT (List.mem_append_right _ (List.mem_append_left _ (List.mem_of_getElem? (i := 54) (by decide +kernel)))) (by decide +kernel)
theorem m_295 : (Jvm.Cond.instanceMethod ({ cls := "java/lang/UnsupportedOperationException", name := "<init>", desc := "(Ljava/lang/String;)V" } : Jvm.MethodName)) ∈ TBL := mT (List.mem_append_right _ (List.mem_append_left _ (List.mem_of_getElem? (i := 55) (by decide +kernel)))) (by decide +kernel)
theorem m_296 : (Jvm.Cond.code ({ cls := "java/lang/UnsupportedOperationException", name := "<init>", desc := "(Ljava/lang/String;)V" } : Jvm.MethodName) prog_19_method_2_code (2 : Nat) (Option.none : Option Jvm.ClassFile.FieldType)) ∈ TBL := mT (List.mem_append_right _ (List.mem_append_left _ (List.mem_of_getElem? (i := 56) (by decide +kernel)))) (by decide +kernel)
theorem m_297 : (Jvm.Cond.methodLink "java/lang/UnsupportedOperationException" (7 : Nat) ({ cls := "java/lang/RuntimeException", name := "<init>", desc := "(Ljava/lang/String;)V" } : Jvm.MethodName)) ∈ TBL := mT (List.mem_append_right _ (List.mem_append_left _ (List.mem_of_getElem? (i := 57) (by decide +kernel)))) (by decide +kernel)
theorem m_298 : (Jvm.Cond.lays "java/lang/UnsupportedOperationException" "java/lang/Throwable" "depth" "I") ∈ TBL := mT (List.mem_append_right _ (List.mem_append_left _ (List.mem_of_getElem? (i := 58) (by decide +kernel)))) (by decide +kernel)
theorem m_300 : (Jvm.Cond.instantiable "RuleClasses$Edition" (10 : Nat)) ∈ TBL := mT (List.mem_append_right _ (List.mem_append_left _ (List.mem_of_getElem? (i := 60) (by decide +kernel)))) (by decide +kernel)
theorem m_301 : (Jvm.Cond.methodLink "RuleClasses" (91 : Nat) ({ cls := "RuleClasses$Edition", name := "<init>", desc := "(III)V" } : Jvm.MethodName)) ∈ TBL := mT (List.mem_append_right _ (List.mem_append_left _ (List.mem_of_getElem? (i := 61) (by decide +kernel)))) (by decide +kernel)
theorem m_302 : (Jvm.Cond.instanceMethod ({ cls := "RuleClasses$Edition", name := "<init>", desc := "(III)V" } : Jvm.MethodName)) ∈ TBL := mT (List.mem_append_right _ (List.mem_append_left _ (List.mem_of_getElem? (i := 62) (by decide +kernel)))) (by decide +kernel)
theorem m_303 : (Jvm.Cond.code ({ cls := "RuleClasses$Edition", name := "<init>", desc := "(III)V" } : Jvm.MethodName) prog_2_method_1_code (4 : Nat) (Option.none : Option Jvm.ClassFile.FieldType)) ∈ TBL := mT (List.mem_append_right _ (List.mem_append_left _ (List.mem_of_getElem? (i := 63) (by decide +kernel)))) (by decide +kernel)
theorem m_304 : (Jvm.Cond.methodLink "RuleClasses$Edition" (3 : Nat) ({ cls := "java/lang/Object", name := "<init>", desc := "()V" } : Jvm.MethodName)) ∈ TBL := mT (List.mem_append_right _ (List.mem_append_left _ (List.mem_of_getElem? (i := 64) (by decide +kernel)))) (by decide +kernel)
theorem m_305 : (Jvm.Cond.fieldLink "RuleClasses$Edition" (18 : Nat) "RuleClasses$Edition" "owner" "I") ∈ TBL := mT (List.mem_append_right _ (List.mem_append_left _ (List.mem_of_getElem? (i := 65) (by decide +kernel)))) (by decide +kernel)
theorem m_306 : (Jvm.Cond.fieldLink "RuleClasses$Edition" (22 : Nat) "RuleClasses$Edition" "kind" "I") ∈ TBL := mT (List.mem_append_right _ (List.mem_append_left _ (List.mem_of_getElem? (i := 66) (by decide +kernel)))) (by decide +kernel)
theorem m_307 : (Jvm.Cond.fieldLink "RuleClasses" (179 : Nat) "RuleClasses$Edition" "kind" "I") ∈ TBL := mT (List.mem_append_right _ (List.mem_append_left _ (List.mem_of_getElem? (i := 67) (by decide +kernel)))) (by decide +kernel)
theorem m_308 : (Jvm.Cond.fieldLink "RuleClasses$Edition" (25 : Nat) "RuleClasses$Edition" "day" "I") ∈ TBL := mT (List.mem_append_right _ (List.mem_append_left _ (List.mem_of_getElem? (i := 68) (by decide +kernel)))) (by decide +kernel)
theorem m_309 : (Jvm.Cond.fieldLink "RuleClasses" (229 : Nat) "RuleClasses$Edition" "day" "I") ∈ TBL := mT (List.mem_append_right _ (List.mem_append_left _ (List.mem_of_getElem? (i := 69) (by decide +kernel)))) (by decide +kernel)
theorem m_310 : (Jvm.Cond.fieldLink "RuleClasses$Edition" (9 : Nat) "RuleClasses$Edition" "ops" "[I") ∈ TBL := mT (List.mem_append_right _ (List.mem_append_left _ (List.mem_of_getElem? (i := 70) (by decide +kernel)))) (by decide +kernel)
theorem m_311 : (Jvm.Cond.fieldLink "RuleClasses$Run" (50 : Nat) "RuleClasses$Edition" "ops" "[I") ∈ TBL := mT (List.mem_append_right _ (List.mem_append_left _ (List.mem_of_getElem? (i := 71) (by decide +kernel)))) (by decide +kernel)
theorem m_312 : (Jvm.Cond.fieldLink "RuleClasses$Edition" (15 : Nat) "RuleClasses$Edition" "constants" "[I") ∈ TBL := mT (List.mem_append_right _ (List.mem_append_left _ (List.mem_of_getElem? (i := 72) (by decide +kernel)))) (by decide +kernel)
theorem m_313 : (Jvm.Cond.fieldLink "RuleClasses$Run" (53 : Nat) "RuleClasses$Edition" "constants" "[I") ∈ TBL := mT (List.mem_append_right _ (List.mem_append_left _ (List.mem_of_getElem? (i := 73) (by decide +kernel)))) (by decide +kernel)
theorem m_314 : (Jvm.Cond.fieldLink "RuleClasses$Edition" (28 : Nat) "RuleClasses$Edition" "length" "I") ∈ TBL := mT (List.mem_append_right _ (List.mem_append_left _ (List.mem_of_getElem? (i := 74) (by decide +kernel)))) (by decide +kernel)
theorem m_315 : (Jvm.Cond.fieldLink "RuleClasses" (112 : Nat) "RuleClasses$Edition" "length" "I") ∈ TBL := mT (List.mem_append_right _ (List.mem_append_left _ (List.mem_of_getElem? (i := 75) (by decide +kernel)))) (by decide +kernel)
theorem m_316 : (Jvm.Cond.fieldLink "RuleClasses$Run" (41 : Nat) "RuleClasses$Edition" "length" "I") ∈ TBL := mT (List.mem_append_right _ (List.mem_append_left _ (List.mem_of_getElem? (i := 76) (by decide +kernel)))) (by decide +kernel)
theorem m_317 : (Jvm.Cond.fieldLink "RuleClasses$Edition" (31 : Nat) "RuleClasses$Edition" "made" "Z") ∈ TBL := mT (List.mem_append_right _ (List.mem_append_left _ (List.mem_of_getElem? (i := 77) (by decide +kernel)))) (by decide +kernel)
theorem m_318 : (Jvm.Cond.fieldLink "RuleClasses" (127 : Nat) "RuleClasses$Edition" "made" "Z") ∈ TBL := mT (List.mem_append_right _ (List.mem_append_left _ (List.mem_of_getElem? (i := 78) (by decide +kernel)))) (by decide +kernel)
theorem m_319 : (Jvm.Cond.fieldLink "RuleClasses$Edition" (35 : Nat) "RuleClasses$Edition" "timesAsked" "I") ∈ TBL := mT (List.mem_append_right _ (List.mem_append_left _ (List.mem_of_getElem? (i := 79) (by decide +kernel)))) (by decide +kernel)
theorem m_320 : (Jvm.Cond.fieldLink "RuleClasses$Run" (69 : Nat) "RuleClasses$Edition" "timesAsked" "I") ∈ TBL := mT (List.mem_append_right _ (List.mem_append_left _ (List.mem_of_getElem? (i := 80) (by decide +kernel)))) (by decide +kernel)
theorem m_321 : (Jvm.Cond.fieldLink "RuleClasses$Edition" (38 : Nat) "RuleClasses$Edition" "stepsAsked" "I") ∈ TBL := mT (List.mem_append_right _ (List.mem_append_left _ (List.mem_of_getElem? (i := 81) (by decide +kernel)))) (by decide +kernel)
theorem m_322 : (Jvm.Cond.fieldLink "RuleClasses$Edition" (49 : Nat) "RuleClasses$Edition" "timesFailed" "I") ∈ TBL := mT (List.mem_append_right _ (List.mem_append_left _ (List.mem_of_getElem? (i := 82) (by decide +kernel)))) (by decide +kernel)
theorem m_323 : (Jvm.Cond.laysFinal "RuleClasses$Edition" "RuleClasses$Edition" "owner" "I") ∈ TBL := mT (List.mem_append_right _ (List.mem_append_left _ (List.mem_of_getElem? (i := 83) (by decide +kernel)))) (by decide +kernel)
theorem m_325 : (Jvm.Cond.laysFinal "RuleClasses$Edition" "RuleClasses$Edition" "kind" "I") ∈ TBL := mT (List.mem_append_right _ (List.mem_append_left _ (List.mem_of_getElem? (i := 85) (by decide +kernel)))) (by decide +kernel)
theorem m_327 : (Jvm.Cond.laysFinal "RuleClasses$Edition" "RuleClasses$Edition" "day" "I") ∈ TBL := mT (List.mem_append_right _ (List.mem_append_left _ (List.mem_of_getElem? (i := 87) (by decide +kernel)))) (by decide +kernel)
theorem m_329 : (Jvm.Cond.laysFinal "RuleClasses$Edition" "RuleClasses$Edition" "ops" "[I") ∈ TBL := mT (List.mem_append_right _ (List.mem_append_left _ (List.mem_of_getElem? (i := 89) (by decide +kernel)))) (by decide +kernel)
theorem m_331 : (Jvm.Cond.laysFinal "RuleClasses$Edition" "RuleClasses$Edition" "constants" "[I") ∈ TBL := mT (List.mem_append_right _ (List.mem_append_left _ (List.mem_of_getElem? (i := 91) (by decide +kernel)))) (by decide +kernel)
theorem m_333 : (Jvm.Cond.lays "RuleClasses$Edition" "RuleClasses$Edition" "length" "I") ∈ TBL := mT (List.mem_append_right _ (List.mem_append_left _ (List.mem_of_getElem? (i := 93) (by decide +kernel)))) (by decide +kernel)
theorem m_335 : (Jvm.Cond.lays "RuleClasses$Edition" "RuleClasses$Edition" "made" "Z") ∈ TBL := mT (List.mem_append_right _ (List.mem_append_left _ (List.mem_of_getElem? (i := 95) (by decide +kernel)))) (by decide +kernel)
theorem m_337 : (Jvm.Cond.lays "RuleClasses$Edition" "RuleClasses$Edition" "timesAsked" "I") ∈ TBL := mT (List.mem_append_right _ (List.mem_append_left _ (List.mem_of_getElem? (i := 97) (by decide +kernel)))) (by decide +kernel)
theorem m_339 : (Jvm.Cond.lays "RuleClasses$Edition" "RuleClasses$Edition" "stepsAsked" "I") ∈ TBL := mT (List.mem_append_right _ (List.mem_append_left _ (List.mem_of_getElem? (i := 99) (by decide +kernel)))) (by decide +kernel)
theorem m_341 : (Jvm.Cond.lays "RuleClasses$Edition" "RuleClasses$Edition" "timesFailed" "I") ∈ TBL := mT (List.mem_append_right _ (List.mem_append_left _ (List.mem_of_getElem? (i := 101) (by decide +kernel)))) (by decide +kernel)
theorem m_344 : (Jvm.Cond.methodLink "RuleClasses" (93 : Nat) ({ cls := "java/util/ArrayList", name := "add", desc := "(Ljava/lang/Object;)Z" } : Jvm.MethodName)) ∈ TBL := mT (List.mem_append_right _ (List.mem_append_left _ (List.mem_of_getElem? (i := 104) (by decide +kernel)))) (by decide +kernel)
theorem m_345 : (Jvm.Cond.instanceMethod ({ cls := "java/util/ArrayList", name := "add", desc := "(Ljava/lang/Object;)Z" } : Jvm.MethodName)) ∈ TBL := mT (List.mem_append_right _ (List.mem_append_left _ (List.mem_of_getElem? (i := 105) (by decide +kernel)))) (by decide +kernel)
theorem m_346 : (Jvm.Cond.selects "java/util/ArrayList" ({ cls := "java/util/ArrayList", name := "add", desc := "(Ljava/lang/Object;)Z" } : Jvm.MethodName) ({ cls := "java/util/ArrayList", name := "add", desc := "(Ljava/lang/Object;)Z" } : Jvm.MethodName)) ∈ TBL := mT (List.mem_append_right _ (List.mem_append_left _ (List.mem_of_getElem? (i := 106) (by decide +kernel)))) (by decide +kernel)
theorem m_347 : (Jvm.Cond.code ({ cls := "java/util/ArrayList", name := "add", desc := "(Ljava/lang/Object;)Z" } : Jvm.MethodName) prog_22_method_25_code (2 : Nat) (Option.some Jvm.ClassFile.FieldType.boolean)) ∈ TBL := mT (List.mem_append_right _ (List.mem_append_left _ (List.mem_of_getElem? (i := 107) (by decide +kernel)))) (by decide +kernel)
theorem m_348 : (Jvm.Cond.methodLink "java/util/ArrayList" (131 : Nat) ({ cls := "java/util/ArrayList", name := "add", desc := "(Ljava/lang/Object;[Ljava/lang/Object;I)V" } : Jvm.MethodName)) ∈ TBL := mT (List.mem_append_right _ (List.mem_append_left _ (List.mem_of_getElem? (i := 108) (by decide +kernel)))) (by decide +kernel)
theorem m_350 : (Jvm.Cond.instanceMethod ({ cls := "java/util/ArrayList", name := "add", desc := "(Ljava/lang/Object;[Ljava/lang/Object;I)V" } : Jvm.MethodName)) ∈ TBL := mT (List.mem_append_right _ (List.mem_append_left _ (List.mem_of_getElem? (i := 110) (by decide +kernel)))) (by decide +kernel)
theorem m_351 : (Jvm.Cond.code ({ cls := "java/util/ArrayList", name := "add", desc := "(Ljava/lang/Object;[Ljava/lang/Object;I)V" } : Jvm.MethodName) prog_22_method_24_code (4 : Nat) (Option.none : Option Jvm.ClassFile.FieldType)) ∈ TBL := mT (List.mem_append_right _ (List.mem_append_left _ (List.mem_of_getElem? (i := 111) (by decide +kernel)))) (by decide +kernel)
theorem m_352 : (Jvm.Cond.methodLink "java/util/ArrayList" (129 : Nat) ({ cls := "java/util/ArrayList", name := "grow", desc := "()[Ljava/lang/Object;" } : Jvm.MethodName)) ∈ TBL := mT (List.mem_append_right _ (List.mem_append_left _ (List.mem_of_getElem? (i := 112) (by decide +kernel)))) (by decide +kernel)
theorem m_354 : (Jvm.Cond.instanceMethod ({ cls := "java/util/ArrayList", name := "grow", desc := "()[Ljava/lang/Object;" } : Jvm.MethodName)) ∈ TBL := mT (List.mem_append_right _ (List.mem_append_left _ (List.mem_of_getElem? (i := 114) (by decide +kernel)))) (by decide +kernel)
theorem m_355 : (Jvm.Cond.code ({ cls := "java/util/ArrayList", name := "grow", desc := "()[Ljava/lang/Object;" } : Jvm.MethodName) prog_22_method_7_code (1 : Nat) (Option.some (Jvm.ClassFile.FieldType.array (Jvm.ClassFile.FieldType.object "java/lang/Object")))) ∈ TBL := mT (List.mem_append_right _ (List.mem_append_left _ (List.mem_of_getElem? (i := 115) (by decide +kernel)))) (by decide +kernel)
theorem m_356 : (Jvm.Cond.methodLink "java/util/ArrayList" (69 : Nat) ({ cls := "java/util/ArrayList", name := "grow", desc := "(I)[Ljava/lang/Object;" } : Jvm.MethodName)) ∈ TBL := mT (List.mem_append_right _ (List.mem_append_left _ (List.mem_of_getElem? (i := 116) (by decide +kernel)))) (by decide +kernel)
theorem m_358 : (Jvm.Cond.instanceMethod ({ cls := "java/util/ArrayList", name := "grow", desc := "(I)[Ljava/lang/Object;" } : Jvm.MethodName)) ∈ TBL := mT (List.mem_append_right _ (List.mem_append_left _ (List.mem_of_getElem? (i := 118) (by decide +kernel)))) (by decide +kernel)
theorem m_359 : (Jvm.Cond.code ({ cls := "java/util/ArrayList", name := "grow", desc := "(I)[Ljava/lang/Object;" } : Jvm.MethodName) prog_22_method_6_code (4 : Nat) (Option.some (Jvm.ClassFile.FieldType.array (Jvm.ClassFile.FieldType.object "java/lang/Object")))) ∈ TBL := mT (List.mem_append_right _ (List.mem_append_left _ (List.mem_of_getElem? (i := 119) (by decide +kernel)))) (by decide +kernel)
theorem m_360 : (Jvm.Cond.methodLink "java/util/ArrayList" (73 : Nat) ({ cls := "jdk/internal/util/ArraysSupport", name := "newLength", desc := "(III)I" } : Jvm.MethodName)) ∈ TBL := mT (List.mem_append_right _ (List.mem_append_left _ (List.mem_of_getElem? (i := 120) (by decide +kernel)))) (by decide +kernel)
theorem m_361 : (Jvm.Cond.static ({ cls := "jdk/internal/util/ArraysSupport", name := "newLength", desc := "(III)I" } : Jvm.MethodName)) ∈ TBL := mT (List.mem_append_right _ (List.mem_append_left _ (List.mem_of_getElem? (i := 121) (by decide +kernel)))) (by decide +kernel)
theorem m_362 : (Jvm.Cond.code ({ cls := "jdk/internal/util/ArraysSupport", name := "newLength", desc := "(III)I" } : Jvm.MethodName) prog_30_method_27_code (4 : Nat) (Option.some Jvm.ClassFile.FieldType.int)) ∈ TBL := mT (List.mem_append_right _ (List.mem_append_left _ (List.mem_of_getElem? (i := 122) (by decide +kernel)))) (by decide +kernel)
theorem m_363 : (Jvm.Cond.methodLink "jdk/internal/util/ArraysSupport" (194 : Nat) ({ cls := "java/lang/Math", name := "max", desc := "(II)I" } : Jvm.MethodName)) ∈ TBL := mT (List.mem_append_right _ (List.mem_append_left _ (List.mem_of_getElem? (i := 123) (by decide +kernel)))) (by decide +kernel)
theorem m_364 : (Jvm.Cond.constant "jdk/internal/util/ArraysSupport" (200 : Nat) (2147483639 : Int32)) ∈ TBL := mT (List.mem_append_right _ (List.mem_append_left _ (List.mem_of_getElem? (i := 124) (by decide +kernel)))) (by decide +kernel)
theorem m_365 : (Jvm.Cond.methodLink "jdk/internal/util/ArraysSupport" (201 : Nat) ({ cls := "jdk/internal/util/ArraysSupport", name := "hugeLength", desc := "(II)I" } : Jvm.MethodName)) ∈ TBL := mT (List.mem_append_right _ (List.mem_append_left _ (List.mem_of_getElem? (i := 125) (by decide +kernel)))) (by decide +kernel)
theorem m_366 : (Jvm.Cond.static ({ cls := "jdk/internal/util/ArraysSupport", name := "hugeLength", desc := "(II)I" } : Jvm.MethodName)) ∈ TBL := mT (List.mem_append_right _ (List.mem_append_left _ (List.mem_of_getElem? (i := 126) (by decide +kernel)))) (by decide +kernel)
theorem m_367 : (Jvm.Cond.code ({ cls := "jdk/internal/util/ArraysSupport", name := "hugeLength", desc := "(II)I" } : Jvm.MethodName) prog_30_method_28_code (3 : Nat) (Option.some Jvm.ClassFile.FieldType.int)) ∈ TBL := mT (List.mem_append_right _ (List.mem_append_left _ (List.mem_of_getElem? (i := 127) (by decide +kernel)))) (by decide +kernel)
theorem m_368 : (Jvm.Cond.methodLink "java/util/ArrayList" (66 : Nat) ({ cls := "java/util/Arrays", name := "copyOf", desc := "([Ljava/lang/Object;I)[Ljava/lang/Object;" } : Jvm.MethodName)) ∈ TBL := mT (List.mem_append_right _ (List.mem_append_left _ (List.mem_of_getElem? (i := 128) (by decide +kernel)))) (by decide +kernel)
theorem m_369 : (Jvm.Cond.static ({ cls := "java/util/Arrays", name := "copyOf", desc := "([Ljava/lang/Object;I)[Ljava/lang/Object;" } : Jvm.MethodName)) ∈ TBL := mT (List.mem_append_right _ (List.mem_append_left _ (List.mem_of_getElem? (i := 129) (by decide +kernel)))) (by decide +kernel)
theorem m_370 : (Jvm.Cond.code ({ cls := "java/util/Arrays", name := "copyOf", desc := "([Ljava/lang/Object;I)[Ljava/lang/Object;" } : Jvm.MethodName) prog_23_method_119_code (2 : Nat) (Option.some (Jvm.ClassFile.FieldType.array (Jvm.ClassFile.FieldType.object "java/lang/Object")))) ∈ TBL := mT (List.mem_append_right _ (List.mem_append_left _ (List.mem_of_getElem? (i := 130) (by decide +kernel)))) (by decide +kernel)
theorem m_371 : (Jvm.Cond.methodLink "java/util/Arrays" (86 : Nat) ({ cls := "java/lang/Object", name := "getClass", desc := "()Ljava/lang/Class;" } : Jvm.MethodName)) ∈ TBL := mT (List.mem_append_right _ (List.mem_append_left _ (List.mem_of_getElem? (i := 131) (by decide +kernel)))) (by decide +kernel)
theorem m_372 : (Jvm.Cond.instanceMethod ({ cls := "java/lang/Object", name := "getClass", desc := "()Ljava/lang/Class;" } : Jvm.MethodName)) ∈ TBL := mT (List.mem_append_right _ (List.mem_append_left _ (List.mem_of_getElem? (i := 132) (by decide +kernel)))) (by decide +kernel)
theorem m_374 : (Jvm.Cond.selects "RuleClasses" ({ cls := "java/lang/Object", name := "getClass", desc := "()Ljava/lang/Class;" } : Jvm.MethodName) ({ cls := "java/lang/Object", name := "getClass", desc := "()Ljava/lang/Class;" } : Jvm.MethodName)) ∈ TBL := mT (List.mem_append_right _ (List.mem_append_left _ (List.mem_of_getElem? (i := 134) (by decide +kernel)))) (by decide +kernel)
theorem m_375 : (Jvm.Cond.selects "RuleClasses$Edition" ({ cls := "java/lang/Object", name := "getClass", desc := "()Ljava/lang/Class;" } : Jvm.MethodName) ({ cls := "java/lang/Object", name := "getClass", desc := "()Ljava/lang/Class;" } : Jvm.MethodName)) ∈ TBL := mT (List.mem_append_right _ (List.mem_append_left _ (List.mem_of_getElem? (i := 135) (by decide +kernel)))) (by decide +kernel)
theorem m_376 : (Jvm.Cond.selects "RuleClasses$Facts" ({ cls := "java/lang/Object", name := "getClass", desc := "()Ljava/lang/Class;" } : Jvm.MethodName) ({ cls := "java/lang/Object", name := "getClass", desc := "()Ljava/lang/Class;" } : Jvm.MethodName)) ∈ TBL := mT (List.mem_append_right _ (List.mem_append_left _ (List.mem_of_getElem? (i := 136) (by decide +kernel)))) (by decide +kernel)
theorem m_377 : (Jvm.Cond.selects "RuleClasses$Run" ({ cls := "java/lang/Object", name := "getClass", desc := "()Ljava/lang/Class;" } : Jvm.MethodName) ({ cls := "java/lang/Object", name := "getClass", desc := "()Ljava/lang/Class;" } : Jvm.MethodName)) ∈ TBL := mT (List.mem_append_right _ (List.mem_append_left _ (List.mem_of_getElem? (i := 137) (by decide +kernel)))) (by decide +kernel)
theorem m_378 : (Jvm.Cond.selects "RuleClassesModel" ({ cls := "java/lang/Object", name := "getClass", desc := "()Ljava/lang/Class;" } : Jvm.MethodName) ({ cls := "java/lang/Object", name := "getClass", desc := "()Ljava/lang/Class;" } : Jvm.MethodName)) ∈ TBL := mT (List.mem_append_right _ (List.mem_append_left _ (List.mem_of_getElem? (i := 138) (by decide +kernel)))) (by decide +kernel)
theorem m_379 : (Jvm.Cond.selects "java/lang/ArithmeticException" ({ cls := "java/lang/Object", name := "getClass", desc := "()Ljava/lang/Class;" } : Jvm.MethodName) ({ cls := "java/lang/Object", name := "getClass", desc := "()Ljava/lang/Class;" } : Jvm.MethodName)) ∈ TBL := mT (List.mem_append_right _ (List.mem_append_left _ (List.mem_of_getElem? (i := 139) (by decide +kernel)))) (by decide +kernel)
theorem m_380 : (Jvm.Cond.selects "java/lang/IllegalArgumentException" ({ cls := "java/lang/Object", name := "getClass", desc := "()Ljava/lang/Class;" } : Jvm.MethodName) ({ cls := "java/lang/Object", name := "getClass", desc := "()Ljava/lang/Class;" } : Jvm.MethodName)) ∈ TBL := mT (List.mem_append_right _ (List.mem_append_left _ (List.mem_of_getElem? (i := 140) (by decide +kernel)))) (by decide +kernel)
theorem m_381 : (Jvm.Cond.selects "java/lang/IllegalStateException" ({ cls := "java/lang/Object", name := "getClass", desc := "()Ljava/lang/Class;" } : Jvm.MethodName) ({ cls := "java/lang/Object", name := "getClass", desc := "()Ljava/lang/Class;" } : Jvm.MethodName)) ∈ TBL := mT (List.mem_append_right _ (List.mem_append_left _ (List.mem_of_getElem? (i := 141) (by decide +kernel)))) (by decide +kernel)
theorem m_382 : (Jvm.Cond.selects "java/lang/UnsupportedOperationException" ({ cls := "java/lang/Object", name := "getClass", desc := "()Ljava/lang/Class;" } : Jvm.MethodName) ({ cls := "java/lang/Object", name := "getClass", desc := "()Ljava/lang/Class;" } : Jvm.MethodName)) ∈ TBL := mT (List.mem_append_right _ (List.mem_append_left _ (List.mem_of_getElem? (i := 142) (by decide +kernel)))) (by decide +kernel)
theorem m_383 : (Jvm.Cond.selects "java/util/ArrayList" ({ cls := "java/lang/Object", name := "getClass", desc := "()Ljava/lang/Class;" } : Jvm.MethodName) ({ cls := "java/lang/Object", name := "getClass", desc := "()Ljava/lang/Class;" } : Jvm.MethodName)) ∈ TBL := mT (List.mem_append_right _ (List.mem_append_left _ (List.mem_of_getElem? (i := 143) (by decide +kernel)))) (by decide +kernel)
theorem m_384 : (Jvm.Cond.selects "java/util/NoSuchElementException" ({ cls := "java/lang/Object", name := "getClass", desc := "()Ljava/lang/Class;" } : Jvm.MethodName) ({ cls := "java/lang/Object", name := "getClass", desc := "()Ljava/lang/Class;" } : Jvm.MethodName)) ∈ TBL := mT (List.mem_append_right _ (List.mem_append_left _ (List.mem_of_getElem? (i := 144) (by decide +kernel)))) (by decide +kernel)
theorem m_385 : (Jvm.Cond.native ({ cls := "java/lang/Object", name := "getClass", desc := "()Ljava/lang/Class;" } : Jvm.MethodName)) ∈ TBL := mT (List.mem_append_right _ (List.mem_append_left _ (List.mem_of_getElem? (i := 145) (by decide +kernel)))) (by decide +kernel)
theorem m_386 : (Jvm.Cond.methodLink "java/util/Arrays" (300 : Nat) ({ cls := "java/util/Arrays", name := "copyOf", desc := "([Ljava/lang/Object;ILjava/lang/Class;)[Ljava/lang/Object;" } : Jvm.MethodName)) ∈ TBL := mT (List.mem_append_right _ (List.mem_append_left _ (List.mem_of_getElem? (i := 146) (by decide +kernel)))) (by decide +kernel)
theorem m_387 : (Jvm.Cond.static ({ cls := "java/util/Arrays", name := "copyOf", desc := "([Ljava/lang/Object;ILjava/lang/Class;)[Ljava/lang/Object;" } : Jvm.MethodName)) ∈ TBL := mT (List.mem_append_right _ (List.mem_append_left _ (List.mem_of_getElem? (i := 147) (by decide +kernel)))) (by decide +kernel)
theorem m_388 : (Jvm.Cond.code ({ cls := "java/util/Arrays", name := "copyOf", desc := "([Ljava/lang/Object;ILjava/lang/Class;)[Ljava/lang/Object;" } : Jvm.MethodName) prog_23_method_120_code (4 : Nat) (Option.some (Jvm.ClassFile.FieldType.array (Jvm.ClassFile.FieldType.object "java/lang/Object")))) ∈ TBL := mT (List.mem_append_right _ (List.mem_append_left _ (List.mem_of_getElem? (i := 148) (by decide +kernel)))) (by decide +kernel)
theorem m_389 : (Jvm.Cond.classLink "java/util/Arrays" (110 : Nat) "[Ljava/lang/Object;") ∈ TBL := mT (List.mem_append_right _ (List.mem_append_left _ (List.mem_of_getElem? (i := 149) (by decide +kernel)))) (by decide +kernel)
theorem m_391 : (Jvm.Cond.classLink "java/util/Arrays" (2 : Nat) "java/lang/Object") ∈ TBL := mT (List.mem_append_right _ (List.mem_append_left _ (List.mem_of_getElem? (i := 151) (by decide +kernel)))) (by decide +kernel)
theorem m_392 : (Jvm.Cond.methodLink "java/util/Arrays" (304 : Nat) ({ cls := "java/lang/Math", name := "min", desc := "(II)I" } : Jvm.MethodName)) ∈ TBL := mT (List.mem_append_right _ (List.mem_append_left _ (List.mem_of_getElem? (i := 152) (by decide +kernel)))) (by decide +kernel)
theorem m_393 : (Jvm.Cond.methodLink "java/util/Arrays" (150 : Nat) ({ cls := "java/lang/System", name := "arraycopy", desc := "(Ljava/lang/Object;ILjava/lang/Object;II)V" } : Jvm.MethodName)) ∈ TBL := mT (List.mem_append_right _ (List.mem_append_left _ (List.mem_of_getElem? (i := 153) (by decide +kernel)))) (by decide +kernel)
theorem m_394 : (Jvm.Cond.static ({ cls := "java/lang/System", name := "arraycopy", desc := "(Ljava/lang/Object;ILjava/lang/Object;II)V" } : Jvm.MethodName)) ∈ TBL := mT (List.mem_append_right _ (List.mem_append_left _ (List.mem_of_getElem? (i := 154) (by decide +kernel)))) (by decide +kernel)
theorem m_395 : (Jvm.Cond.native ({ cls := "java/lang/System", name := "arraycopy", desc := "(Ljava/lang/Object;ILjava/lang/Object;II)V" } : Jvm.MethodName)) ∈ TBL := mT (List.mem_append_right _ (List.mem_append_left _ (List.mem_of_getElem? (i := 155) (by decide +kernel)))) (by decide +kernel)
theorem m_396 : (Jvm.Cond.methodLink "java/util/ArrayList" (79 : Nat) ({ cls := "java/lang/Math", name := "max", desc := "(II)I" } : Jvm.MethodName)) ∈ TBL := mT (List.mem_append_right _ (List.mem_append_left _ (List.mem_of_getElem? (i := 156) (by decide +kernel)))) (by decide +kernel)
theorem m_397 : (Jvm.Cond.classLink "java/util/ArrayList" (7 : Nat) "java/lang/Object") ∈ TBL := mT (List.mem_append_right _ (List.mem_append_left _ (List.mem_of_getElem? (i := 157) (by decide +kernel)))) (by decide +kernel)
theorem m_398 : (Jvm.Cond.methodLink "RuleClassesLaw" (103 : Nat) ({ cls := "RuleClassesLaw", name := "op", desc := "(LRuleClasses;III[J)I" } : Jvm.MethodName)) ∈ TBL := mT (List.mem_append_right _ (List.mem_append_left _ (List.mem_of_getElem? (i := 158) (by decide +kernel)))) (by decide +kernel)
theorem m_399 : (Jvm.Cond.static ({ cls := "RuleClassesLaw", name := "op", desc := "(LRuleClasses;III[J)I" } : Jvm.MethodName)) ∈ TBL := mT (List.mem_append_right _ (List.mem_append_left _ (List.mem_of_getElem? (i := 159) (by decide +kernel)))) (by decide +kernel)
theorem m_400 : (Jvm.Cond.codeWith ({ cls := "RuleClassesLaw", name := "op", desc := "(LRuleClasses;III[J)I" } : Jvm.MethodName) method_5_code (6 : Nat) (Option.some Jvm.ClassFile.FieldType.int) [((0 : Nat), (12 : Nat), (15 : Nat), (24 : Nat)), ((0 : Nat), (12 : Nat), (19 : Nat), (13 : Nat)), ((0 : Nat), (12 : Nat), (23 : Nat), (26 : Nat)), ((0 : Nat), (12 : Nat), (27 : Nat), (19 : Nat))]) ∈ TBL := mT (List.mem_append_right _ (List.mem_append_left _ (List.mem_of_getElem? (i := 160) (by decide +kernel)))) (by decide +kernel)
theorem m_401 : (Jvm.Cond.classLink "RuleClassesLaw" (24 : Nat) "java/util/NoSuchElementException") ∈ TBL := mT (List.mem_append_right _ (List.mem_append_left _ (List.mem_of_getElem? (i := 161) (by decide +kernel)))) (by decide +kernel)
theorem m_402 : (Jvm.Cond.classLink "RuleClassesLaw" (26 : Nat) "java/lang/IllegalStateException") ∈ TBL := mT (List.mem_append_right _ (List.mem_append_left _ (List.mem_of_getElem? (i := 162) (by decide +kernel)))) (by decide +kernel)
theorem m_403 : (Jvm.Cond.methodLink "RuleClassesLaw" (21 : Nat) ({ cls := "RuleClasses", name := "op", desc := "(III)I" } : Jvm.MethodName)) ∈ TBL := mT (List.mem_append_right _ (List.mem_append_left _ (List.mem_of_getElem? (i := 163) (by decide +kernel)))) (by decide +kernel)
theorem m_404 : (Jvm.Cond.instanceMethod ({ cls := "RuleClasses", name := "op", desc := "(III)I" } : Jvm.MethodName)) ∈ TBL := mT (List.mem_append_right _ (List.mem_append_left _ (List.mem_of_getElem? (i := 164) (by decide +kernel)))) (by decide +kernel)
theorem m_405 : (Jvm.Cond.selects "RuleClasses" ({ cls := "RuleClasses", name := "op", desc := "(III)I" } : Jvm.MethodName) ({ cls := "RuleClasses", name := "op", desc := "(III)I" } : Jvm.MethodName)) ∈ TBL := mT (List.mem_append_right _ (List.mem_append_left _ (List.mem_of_getElem? (i := 165) (by decide +kernel)))) (by decide +kernel)
theorem m_406 : (Jvm.Cond.code ({ cls := "RuleClasses", name := "op", desc := "(III)I" } : Jvm.MethodName) prog_1_method_4_code (5 : Nat) (Option.some Jvm.ClassFile.FieldType.int)) ∈ TBL := mT (List.mem_append_right _ (List.mem_append_left _ (List.mem_of_getElem? (i := 166) (by decide +kernel)))) (by decide +kernel)
theorem m_407 : (Jvm.Cond.methodLink "RuleClasses" (97 : Nat) ({ cls := "RuleClasses", name := "editionAt", desc := "(I)LRuleClasses$Edition;" } : Jvm.MethodName)) ∈ TBL := mT (List.mem_append_right _ (List.mem_append_left _ (List.mem_of_getElem? (i := 167) (by decide +kernel)))) (by decide +kernel)
theorem m_409 : (Jvm.Cond.instanceMethod ({ cls := "RuleClasses", name := "editionAt", desc := "(I)LRuleClasses$Edition;" } : Jvm.MethodName)) ∈ TBL := mT (List.mem_append_right _ (List.mem_append_left _ (List.mem_of_getElem? (i := 169) (by decide +kernel)))) (by decide +kernel)
theorem m_410 : (Jvm.Cond.code ({ cls := "RuleClasses", name := "editionAt", desc := "(I)LRuleClasses$Edition;" } : Jvm.MethodName) prog_1_method_25_code (2 : Nat) (Option.some (Jvm.ClassFile.FieldType.object "RuleClasses$Edition"))) ∈ TBL := mT (List.mem_append_right _ (List.mem_append_left _ (List.mem_of_getElem? (i := 170) (by decide +kernel)))) (by decide +kernel)
theorem m_411 : (Jvm.Cond.methodLink "RuleClasses" (196 : Nat) ({ cls := "RuleClasses", name := "requireEdition", desc := "(I)V" } : Jvm.MethodName)) ∈ TBL := mT (List.mem_append_right _ (List.mem_append_left _ (List.mem_of_getElem? (i := 171) (by decide +kernel)))) (by decide +kernel)
theorem m_413 : (Jvm.Cond.instanceMethod ({ cls := "RuleClasses", name := "requireEdition", desc := "(I)V" } : Jvm.MethodName)) ∈ TBL := mT (List.mem_append_right _ (List.mem_append_left _ (List.mem_of_getElem? (i := 173) (by decide +kernel)))) (by decide +kernel)
theorem m_414 : (Jvm.Cond.code ({ cls := "RuleClasses", name := "requireEdition", desc := "(I)V" } : Jvm.MethodName) prog_1_method_24_code (2 : Nat) (Option.none : Option Jvm.ClassFile.FieldType)) ∈ TBL := mT (List.mem_append_right _ (List.mem_append_left _ (List.mem_of_getElem? (i := 174) (by decide +kernel)))) (by decide +kernel)
theorem m_415 : (Jvm.Cond.classLink "RuleClasses" (220 : Nat) "java/util/NoSuchElementException") ∈ TBL := mT (List.mem_append_right _ (List.mem_append_left _ (List.mem_of_getElem? (i := 175) (by decide +kernel)))) (by decide +kernel)
theorem m_416 : (Jvm.Cond.instantiable "java/util/NoSuchElementException" (6 : Nat)) ∈ TBL := mT (List.mem_append_right _ (List.mem_append_left _ (List.mem_of_getElem? (i := 176) (by decide +kernel)))) (by decide +kernel)
theorem m_418 : (Jvm.Cond.selects "java/util/NoSuchElementException" ({ cls := "java/lang/Throwable", name := "fillInStackTrace", desc := "(I)Ljava/lang/Throwable;" } : Jvm.MethodName) ({ cls := "java/lang/Throwable", name := "fillInStackTrace", desc := "(I)Ljava/lang/Throwable;" } : Jvm.MethodName)) ∈ TBL := mT (List.mem_append_right _ (List.mem_append_left _ (List.mem_of_getElem? (i := 178) (by decide +kernel)))) (by decide +kernel)
theorem m_419 : (Jvm.Cond.lays "java/util/NoSuchElementException" "java/lang/Throwable" "cause" "Ljava/lang/Throwable;") ∈ TBL := mT (List.mem_append_right _ (List.mem_append_left _ (List.mem_of_getElem? (i := 179) (by decide +kernel)))) (by decide +kernel)
theorem m_420 : (Jvm.Cond.lays "java/util/NoSuchElementException" "java/lang/Throwable" "stackTrace" "[Ljava/lang/StackTraceElement;") ∈ TBL := mT (List.mem_append_right _ (List.mem_append_left _ (List.mem_of_getElem? (i := 180) (by decide +kernel)))) (by decide +kernel)
theorem m_421 : (Jvm.Cond.lays "java/util/NoSuchElementException" "java/lang/Throwable" "suppressedExceptions" "Ljava/util/List;") ∈ TBL := mT (List.mem_append_right _ (List.mem_append_left _ (List.mem_of_getElem? (i := 181) (by decide +kernel)))) (by decide +kernel)
theorem m_422 : (Jvm.Cond.lays "java/util/NoSuchElementException" "java/lang/Throwable" "detailMessage" "Ljava/lang/String;") ∈ TBL := mT (List.mem_append_right _ (List.mem_append_left _ (List.mem_of_getElem? (i := 182) (by decide +kernel)))) (by decide +kernel)
theorem m_423 : (Jvm.Cond.lays "java/util/NoSuchElementException" "java/lang/Throwable" "backtrace" "Ljava/lang/Object;") ∈ TBL := mT (List.mem_append_right _ (List.mem_append_left _ (List.mem_of_getElem? (i := 183) (by decide +kernel)))) (by decide +kernel)
theorem m_425 : (Jvm.Cond.methodLink "RuleClasses" (224 : Nat) ({ cls := "java/util/NoSuchElementException", name := "<init>", desc := "(Ljava/lang/String;)V" } : Jvm.MethodName)) ∈ TBL := mT (List.mem_append_right _ (List.mem_append_left _ (List.mem_of_getElem? (i := 185) (by decide +kernel)))) (by decide +kernel)
theorem m_426 : (Jvm.Cond.instanceMethod ({ cls := "java/util/NoSuchElementException", name := "<init>", desc := "(Ljava/lang/String;)V" } : Jvm.MethodName)) ∈ TBL := mT (List.mem_append_right _ (List.mem_append_left _ (List.mem_of_getElem? (i := 186) (by decide +kernel)))) (by decide +kernel)
theorem m_427 : (Jvm.Cond.code ({ cls := "java/util/NoSuchElementException", name := "<init>", desc := "(Ljava/lang/String;)V" } : Jvm.MethodName) prog_26_method_4_code (2 : Nat) (Option.none : Option Jvm.ClassFile.FieldType)) ∈ TBL := mT (List.mem_append_right _ (List.mem_append_left _ (List.mem_of_getElem? (i := 187) (by decide +kernel)))) (by decide +kernel)
theorem m_428 : (Jvm.Cond.methodLink "java/util/NoSuchElementException" (13 : Nat) ({ cls := "java/lang/RuntimeException", name := "<init>", desc := "(Ljava/lang/String;)V" } : Jvm.MethodName)) ∈ TBL := mT (List.mem_append_right _ (List.mem_append_left _ (List.mem_of_getElem? (i := 188) (by decide +kernel)))) (by decide +kernel)
theorem m_429 : (Jvm.Cond.lays "java/util/NoSuchElementException" "java/lang/Throwable" "depth" "I") ∈ TBL := mT (List.mem_append_right _ (List.mem_append_left _ (List.mem_of_getElem? (i := 189) (by decide +kernel)))) (by decide +kernel)
theorem m_431 : (Jvm.Cond.methodLink "RuleClasses" (101 : Nat) ({ cls := "RuleClasses", name := "leastConstant", desc := "(I)I" } : Jvm.MethodName)) ∈ TBL := mT (List.mem_append_right _ (List.mem_append_left _ (List.mem_of_getElem? (i := 191) (by decide +kernel)))) (by decide +kernel)
theorem m_432 : (Jvm.Cond.static ({ cls := "RuleClasses", name := "leastConstant", desc := "(I)I" } : Jvm.MethodName)) ∈ TBL := mT (List.mem_append_right _ (List.mem_append_left _ (List.mem_of_getElem? (i := 192) (by decide +kernel)))) (by decide +kernel)
theorem m_433 : (Jvm.Cond.code ({ cls := "RuleClasses", name := "leastConstant", desc := "(I)I" } : Jvm.MethodName) prog_1_method_26_code (1 : Nat) (Option.some Jvm.ClassFile.FieldType.int)) ∈ TBL := mT (List.mem_append_right _ (List.mem_append_left _ (List.mem_of_getElem? (i := 193) (by decide +kernel)))) (by decide +kernel)
theorem m_434 : (Jvm.Cond.methodLink "RuleClasses" (105 : Nat) ({ cls := "RuleClasses", name := "greatestConstant", desc := "(I)I" } : Jvm.MethodName)) ∈ TBL := mT (List.mem_append_right _ (List.mem_append_left _ (List.mem_of_getElem? (i := 194) (by decide +kernel)))) (by decide +kernel)
theorem m_435 : (Jvm.Cond.static ({ cls := "RuleClasses", name := "greatestConstant", desc := "(I)I" } : Jvm.MethodName)) ∈ TBL := mT (List.mem_append_right _ (List.mem_append_left _ (List.mem_of_getElem? (i := 195) (by decide +kernel)))) (by decide +kernel)
theorem m_436 : (Jvm.Cond.code ({ cls := "RuleClasses", name := "greatestConstant", desc := "(I)I" } : Jvm.MethodName) prog_1_method_27_code (1 : Nat) (Option.some Jvm.ClassFile.FieldType.int)) ∈ TBL := mT (List.mem_append_right _ (List.mem_append_left _ (List.mem_of_getElem? (i := 196) (by decide +kernel)))) (by decide +kernel)
theorem m_437 : (Jvm.Cond.methodLink "RuleClasses" (108 : Nat) ({ cls := "RuleClasses", name := "requireNotMade", desc := "(LRuleClasses$Edition;)V" } : Jvm.MethodName)) ∈ TBL := mT (List.mem_append_right _ (List.mem_append_left _ (List.mem_of_getElem? (i := 197) (by decide +kernel)))) (by decide +kernel)
theorem m_438 : (Jvm.Cond.static ({ cls := "RuleClasses", name := "requireNotMade", desc := "(LRuleClasses$Edition;)V" } : Jvm.MethodName)) ∈ TBL := mT (List.mem_append_right _ (List.mem_append_left _ (List.mem_of_getElem? (i := 198) (by decide +kernel)))) (by decide +kernel)
theorem m_439 : (Jvm.Cond.code ({ cls := "RuleClasses", name := "requireNotMade", desc := "(LRuleClasses$Edition;)V" } : Jvm.MethodName) prog_1_method_23_code (1 : Nat) (Option.none : Option Jvm.ClassFile.FieldType)) ∈ TBL := mT (List.mem_append_right _ (List.mem_append_left _ (List.mem_of_getElem? (i := 199) (by decide +kernel)))) (by decide +kernel)
theorem m_440 : (Jvm.Cond.classLink "RuleClasses" (161 : Nat) "java/lang/IllegalStateException") ∈ TBL := mT (List.mem_append_right _ (List.mem_append_left _ (List.mem_of_getElem? (i := 200) (by decide +kernel)))) (by decide +kernel)
theorem m_441 : (Jvm.Cond.instantiable "java/lang/IllegalStateException" (6 : Nat)) ∈ TBL := mT (List.mem_append_right _ (List.mem_append_left _ (List.mem_of_getElem? (i := 201) (by decide +kernel)))) (by decide +kernel)
theorem m_443 : (Jvm.Cond.selects "java/lang/IllegalStateException" ({ cls := "java/lang/Throwable", name := "fillInStackTrace", desc := "(I)Ljava/lang/Throwable;" } : Jvm.MethodName) ({ cls := "java/lang/Throwable", name := "fillInStackTrace", desc := "(I)Ljava/lang/Throwable;" } : Jvm.MethodName)) ∈ TBL := mT (List.mem_append_right _ (List.mem_append_left _ (List.mem_of_getElem? (i := 203) (by decide +kernel)))) (by decide +kernel)
theorem m_444 : (Jvm.Cond.lays "java/lang/IllegalStateException" "java/lang/Throwable" "cause" "Ljava/lang/Throwable;") ∈ TBL := mT (List.mem_append_right _ (List.mem_append_left _ (List.mem_of_getElem? (i := 204) (by decide +kernel)))) (by decide +kernel)
theorem m_445 : (Jvm.Cond.lays "java/lang/IllegalStateException" "java/lang/Throwable" "stackTrace" "[Ljava/lang/StackTraceElement;") ∈ TBL := mT (List.mem_append_right _ (List.mem_append_left _ (List.mem_of_getElem? (i := 205) (by decide +kernel)))) (by decide +kernel)
theorem m_446 : (Jvm.Cond.lays "java/lang/IllegalStateException" "java/lang/Throwable" "suppressedExceptions" "Ljava/util/List;") ∈ TBL := mT (List.mem_append_right _ (List.mem_append_left _ (List.mem_of_getElem? (i := 206) (by decide +kernel)))) (by decide +kernel)
theorem m_447 : (Jvm.Cond.lays "java/lang/IllegalStateException" "java/lang/Throwable" "detailMessage" "Ljava/lang/String;") ∈ TBL := mT (List.mem_append_right _ (List.mem_append_left _ (List.mem_of_getElem? (i := 207) (by decide +kernel)))) (by decide +kernel)
theorem m_448 : (Jvm.Cond.lays "java/lang/IllegalStateException" "java/lang/Throwable" "backtrace" "Ljava/lang/Object;") ∈ TBL := mT (List.mem_append_right _ (List.mem_append_left _ (List.mem_of_getElem? (i := 208) (by decide +kernel)))) (by decide +kernel)
theorem m_450 : (Jvm.Cond.methodLink "RuleClasses" (165 : Nat) ({ cls := "java/lang/IllegalStateException", name := "<init>", desc := "(Ljava/lang/String;)V" } : Jvm.MethodName)) ∈ TBL := mT (List.mem_append_right _ (List.mem_append_left _ (List.mem_of_getElem? (i := 210) (by decide +kernel)))) (by decide +kernel)
theorem m_451 : (Jvm.Cond.instanceMethod ({ cls := "java/lang/IllegalStateException", name := "<init>", desc := "(Ljava/lang/String;)V" } : Jvm.MethodName)) ∈ TBL := mT (List.mem_append_right _ (List.mem_append_left _ (List.mem_of_getElem? (i := 211) (by decide +kernel)))) (by decide +kernel)
theorem m_452 : (Jvm.Cond.code ({ cls := "java/lang/IllegalStateException", name := "<init>", desc := "(Ljava/lang/String;)V" } : Jvm.MethodName) prog_12_method_2_code (2 : Nat) (Option.none : Option Jvm.ClassFile.FieldType)) ∈ TBL := mT (List.mem_append_right _ (List.mem_append_left _ (List.mem_of_getElem? (i := 212) (by decide +kernel)))) (by decide +kernel)
theorem m_453 : (Jvm.Cond.methodLink "java/lang/IllegalStateException" (7 : Nat) ({ cls := "java/lang/RuntimeException", name := "<init>", desc := "(Ljava/lang/String;)V" } : Jvm.MethodName)) ∈ TBL := mT (List.mem_append_right _ (List.mem_append_left _ (List.mem_of_getElem? (i := 213) (by decide +kernel)))) (by decide +kernel)
theorem m_454 : (Jvm.Cond.lays "java/lang/IllegalStateException" "java/lang/Throwable" "depth" "I") ∈ TBL := mT (List.mem_append_right _ (List.mem_append_left _ (List.mem_of_getElem? (i := 214) (by decide +kernel)))) (by decide +kernel)
theorem m_457 : (Jvm.Cond.methodLink "RuleClasses" (117 : Nat) ({ cls := "RuleClasses$Edition", name := "append", desc := "(II)V" } : Jvm.MethodName)) ∈ TBL := mT (List.mem_append_right _ (List.mem_append_left _ (List.mem_of_getElem? (i := 217) (by decide +kernel)))) (by decide +kernel)
theorem m_458 : (Jvm.Cond.instanceMethod ({ cls := "RuleClasses$Edition", name := "append", desc := "(II)V" } : Jvm.MethodName)) ∈ TBL := mT (List.mem_append_right _ (List.mem_append_left _ (List.mem_of_getElem? (i := 218) (by decide +kernel)))) (by decide +kernel)
theorem m_459 : (Jvm.Cond.selects "RuleClasses$Edition" ({ cls := "RuleClasses$Edition", name := "append", desc := "(II)V" } : Jvm.MethodName) ({ cls := "RuleClasses$Edition", name := "append", desc := "(II)V" } : Jvm.MethodName)) ∈ TBL := mT (List.mem_append_right _ (List.mem_append_left _ (List.mem_of_getElem? (i := 219) (by decide +kernel)))) (by decide +kernel)
theorem m_460 : (Jvm.Cond.code ({ cls := "RuleClasses$Edition", name := "append", desc := "(II)V" } : Jvm.MethodName) prog_2_method_2_code (3 : Nat) (Option.none : Option Jvm.ClassFile.FieldType)) ∈ TBL := mT (List.mem_append_right _ (List.mem_append_left _ (List.mem_of_getElem? (i := 220) (by decide +kernel)))) (by decide +kernel)
theorem m_461 : (Jvm.Cond.methodLink "RuleClassesLaw" (106 : Nat) ({ cls := "RuleClassesLaw", name := "make", desc := "(LRuleClasses;I[J)I" } : Jvm.MethodName)) ∈ TBL := mT (List.mem_append_right _ (List.mem_append_left _ (List.mem_of_getElem? (i := 221) (by decide +kernel)))) (by decide +kernel)
theorem m_462 : (Jvm.Cond.static ({ cls := "RuleClassesLaw", name := "make", desc := "(LRuleClasses;I[J)I" } : Jvm.MethodName)) ∈ TBL := mT (List.mem_append_right _ (List.mem_append_left _ (List.mem_of_getElem? (i := 222) (by decide +kernel)))) (by decide +kernel)
theorem m_463 : (Jvm.Cond.codeWith ({ cls := "RuleClassesLaw", name := "make", desc := "(LRuleClasses;I[J)I" } : Jvm.MethodName) method_6_code (4 : Nat) (Option.some Jvm.ClassFile.FieldType.int) [((0 : Nat), (9 : Nat), (12 : Nat), (24 : Nat)), ((0 : Nat), (9 : Nat), (15 : Nat), (26 : Nat))]) ∈ TBL := mT (List.mem_append_right _ (List.mem_append_left _ (List.mem_of_getElem? (i := 223) (by decide +kernel)))) (by decide +kernel)
theorem m_464 : (Jvm.Cond.methodLink "RuleClassesLaw" (28 : Nat) ({ cls := "RuleClasses", name := "make", desc := "(I)I" } : Jvm.MethodName)) ∈ TBL := mT (List.mem_append_right _ (List.mem_append_left _ (List.mem_of_getElem? (i := 224) (by decide +kernel)))) (by decide +kernel)
theorem m_465 : (Jvm.Cond.instanceMethod ({ cls := "RuleClasses", name := "make", desc := "(I)I" } : Jvm.MethodName)) ∈ TBL := mT (List.mem_append_right _ (List.mem_append_left _ (List.mem_of_getElem? (i := 225) (by decide +kernel)))) (by decide +kernel)
theorem m_466 : (Jvm.Cond.selects "RuleClasses" ({ cls := "RuleClasses", name := "make", desc := "(I)I" } : Jvm.MethodName) ({ cls := "RuleClasses", name := "make", desc := "(I)I" } : Jvm.MethodName)) ∈ TBL := mT (List.mem_append_right _ (List.mem_append_left _ (List.mem_of_getElem? (i := 226) (by decide +kernel)))) (by decide +kernel)
theorem m_467 : (Jvm.Cond.code ({ cls := "RuleClasses", name := "make", desc := "(I)I" } : Jvm.MethodName) prog_1_method_5_code (3 : Nat) (Option.some Jvm.ClassFile.FieldType.int)) ∈ TBL := mT (List.mem_append_right _ (List.mem_append_left _ (List.mem_of_getElem? (i := 227) (by decide +kernel)))) (by decide +kernel)
theorem m_468 : (Jvm.Cond.methodLink "RuleClasses" (120 : Nat) ({ cls := "RuleClasses$Run", name := "start", desc := "(LRuleClasses$Edition;LRuleClasses$Facts;)V" } : Jvm.MethodName)) ∈ TBL := mT (List.mem_append_right _ (List.mem_append_left _ (List.mem_of_getElem? (i := 228) (by decide +kernel)))) (by decide +kernel)
theorem m_469 : (Jvm.Cond.instanceMethod ({ cls := "RuleClasses$Run", name := "start", desc := "(LRuleClasses$Edition;LRuleClasses$Facts;)V" } : Jvm.MethodName)) ∈ TBL := mT (List.mem_append_right _ (List.mem_append_left _ (List.mem_of_getElem? (i := 229) (by decide +kernel)))) (by decide +kernel)
theorem m_470 : (Jvm.Cond.selects "RuleClasses$Run" ({ cls := "RuleClasses$Run", name := "start", desc := "(LRuleClasses$Edition;LRuleClasses$Facts;)V" } : Jvm.MethodName) ({ cls := "RuleClasses$Run", name := "start", desc := "(LRuleClasses$Edition;LRuleClasses$Facts;)V" } : Jvm.MethodName)) ∈ TBL := mT (List.mem_append_right _ (List.mem_append_left _ (List.mem_of_getElem? (i := 230) (by decide +kernel)))) (by decide +kernel)
theorem m_471 : (Jvm.Cond.code ({ cls := "RuleClasses$Run", name := "start", desc := "(LRuleClasses$Edition;LRuleClasses$Facts;)V" } : Jvm.MethodName) prog_4_method_3_code (3 : Nat) (Option.none : Option Jvm.ClassFile.FieldType)) ∈ TBL := mT (List.mem_append_right _ (List.mem_append_left _ (List.mem_of_getElem? (i := 231) (by decide +kernel)))) (by decide +kernel)
theorem m_472 : (Jvm.Cond.methodLink "RuleClasses$Run" (19 : Nat) ({ cls := "RuleClasses$Run", name := "clear", desc := "()V" } : Jvm.MethodName)) ∈ TBL := mT (List.mem_append_right _ (List.mem_append_left _ (List.mem_of_getElem? (i := 232) (by decide +kernel)))) (by decide +kernel)
theorem m_474 : (Jvm.Cond.instanceMethod ({ cls := "RuleClasses$Run", name := "clear", desc := "()V" } : Jvm.MethodName)) ∈ TBL := mT (List.mem_append_right _ (List.mem_append_left _ (List.mem_of_getElem? (i := 234) (by decide +kernel)))) (by decide +kernel)
theorem m_475 : (Jvm.Cond.code ({ cls := "RuleClasses$Run", name := "clear", desc := "()V" } : Jvm.MethodName) prog_4_method_5_code (1 : Nat) (Option.none : Option Jvm.ClassFile.FieldType)) ∈ TBL := mT (List.mem_append_right _ (List.mem_append_left _ (List.mem_of_getElem? (i := 235) (by decide +kernel)))) (by decide +kernel)
theorem m_476 : (Jvm.Cond.methodLink "RuleClasses$Run" (25 : Nat) ({ cls := "RuleClasses$Run", name := "outcomeOf", desc := "(LRuleClasses$Edition;LRuleClasses$Facts;)I" } : Jvm.MethodName)) ∈ TBL := mT (List.mem_append_right _ (List.mem_append_left _ (List.mem_of_getElem? (i := 236) (by decide +kernel)))) (by decide +kernel)
theorem m_478 : (Jvm.Cond.instanceMethod ({ cls := "RuleClasses$Run", name := "outcomeOf", desc := "(LRuleClasses$Edition;LRuleClasses$Facts;)I" } : Jvm.MethodName)) ∈ TBL := mT (List.mem_append_right _ (List.mem_append_left _ (List.mem_of_getElem? (i := 238) (by decide +kernel)))) (by decide +kernel)
theorem m_479 : (Jvm.Cond.code ({ cls := "RuleClasses$Run", name := "outcomeOf", desc := "(LRuleClasses$Edition;LRuleClasses$Facts;)I" } : Jvm.MethodName) prog_4_method_6_code (6 : Nat) (Option.some Jvm.ClassFile.FieldType.int)) ∈ TBL := mT (List.mem_append_right _ (List.mem_append_left _ (List.mem_of_getElem? (i := 239) (by decide +kernel)))) (by decide +kernel)
theorem m_480 : (Jvm.Cond.methodLink "RuleClasses$Run" (46 : Nat) ({ cls := "RuleClasses$Run", name := "step", desc := "(LRuleClasses$Edition;ILRuleClasses$Facts;)I" } : Jvm.MethodName)) ∈ TBL := mT (List.mem_append_right _ (List.mem_append_right _ (List.mem_append_left _ (List.mem_of_getElem? (i := 0) (by decide +kernel))))) (by decide +kernel)
theorem m_482 : (Jvm.Cond.instanceMethod ({ cls := "RuleClasses$Run", name := "step", desc := "(LRuleClasses$Edition;ILRuleClasses$Facts;)I" } : Jvm.MethodName)) ∈ TBL := mT (List.mem_append_right _ (List.mem_append_right _ (List.mem_append_left _ (List.mem_of_getElem? (i := 2) (by decide +kernel))))) (by decide +kernel)
theorem m_483 : (Jvm.Cond.code ({ cls := "RuleClasses$Run", name := "step", desc := "(LRuleClasses$Edition;ILRuleClasses$Facts;)I" } : Jvm.MethodName) prog_4_method_7_code (6 : Nat) (Option.some Jvm.ClassFile.FieldType.int)) ∈ TBL := mT (List.mem_append_right _ (List.mem_append_right _ (List.mem_append_left _ (List.mem_of_getElem? (i := 3) (by decide +kernel))))) (by decide +kernel)
theorem m_484 : (Jvm.Cond.methodLink "RuleClasses$Run" (56 : Nat) ({ cls := "RuleClasses$Run", name := "needed", desc := "(I)I" } : Jvm.MethodName)) ∈ TBL := mT (List.mem_append_right _ (List.mem_append_right _ (List.mem_append_left _ (List.mem_of_getElem? (i := 4) (by decide +kernel))))) (by decide +kernel)
theorem m_485 : (Jvm.Cond.static ({ cls := "RuleClasses$Run", name := "needed", desc := "(I)I" } : Jvm.MethodName)) ∈ TBL := mT (List.mem_append_right _ (List.mem_append_right _ (List.mem_append_left _ (List.mem_of_getElem? (i := 5) (by decide +kernel))))) (by decide +kernel)
theorem m_486 : (Jvm.Cond.code ({ cls := "RuleClasses$Run", name := "needed", desc := "(I)I" } : Jvm.MethodName) prog_4_method_8_code (1 : Nat) (Option.some Jvm.ClassFile.FieldType.int)) ∈ TBL := mT (List.mem_append_right _ (List.mem_append_right _ (List.mem_append_left _ (List.mem_of_getElem? (i := 6) (by decide +kernel))))) (by decide +kernel)
theorem m_487 : (Jvm.Cond.methodLink "RuleClasses$Run" (60 : Nat) ({ cls := "RuleClasses$Run", name := "put", desc := "(J)I" } : Jvm.MethodName)) ∈ TBL := mT (List.mem_append_right _ (List.mem_append_right _ (List.mem_append_left _ (List.mem_of_getElem? (i := 7) (by decide +kernel))))) (by decide +kernel)
theorem m_489 : (Jvm.Cond.instanceMethod ({ cls := "RuleClasses$Run", name := "put", desc := "(J)I" } : Jvm.MethodName)) ∈ TBL := mT (List.mem_append_right _ (List.mem_append_right _ (List.mem_append_left _ (List.mem_of_getElem? (i := 9) (by decide +kernel))))) (by decide +kernel)
theorem m_490 : (Jvm.Cond.code ({ cls := "RuleClasses$Run", name := "put", desc := "(J)I" } : Jvm.MethodName) prog_4_method_11_code (3 : Nat) (Option.some Jvm.ClassFile.FieldType.int)) ∈ TBL := mT (List.mem_append_right _ (List.mem_append_right _ (List.mem_append_left _ (List.mem_of_getElem? (i := 10) (by decide +kernel))))) (by decide +kernel)
theorem m_491 : (Jvm.Cond.constantLong "RuleClasses$Run" (79 : Nat) (-1000000000 : Int64)) ∈ TBL := mT (List.mem_append_right _ (List.mem_append_right _ (List.mem_append_left _ (List.mem_of_getElem? (i := 11) (by decide +kernel))))) (by decide +kernel)
theorem m_492 : (Jvm.Cond.constantLong "RuleClasses$Run" (81 : Nat) (1000000000 : Int64)) ∈ TBL := mT (List.mem_append_right _ (List.mem_append_right _ (List.mem_append_left _ (List.mem_of_getElem? (i := 12) (by decide +kernel))))) (by decide +kernel)
theorem m_493 : (Jvm.Cond.methodLink "RuleClasses$Run" (72 : Nat) ({ cls := "RuleClasses$Run", name := "take", desc := "()I" } : Jvm.MethodName)) ∈ TBL := mT (List.mem_append_right _ (List.mem_append_right _ (List.mem_append_left _ (List.mem_of_getElem? (i := 13) (by decide +kernel))))) (by decide +kernel)
theorem m_495 : (Jvm.Cond.instanceMethod ({ cls := "RuleClasses$Run", name := "take", desc := "()I" } : Jvm.MethodName)) ∈ TBL := mT (List.mem_append_right _ (List.mem_append_right _ (List.mem_append_left _ (List.mem_of_getElem? (i := 15) (by decide +kernel))))) (by decide +kernel)
theorem m_496 : (Jvm.Cond.code ({ cls := "RuleClasses$Run", name := "take", desc := "()I" } : Jvm.MethodName) prog_4_method_10_code (1 : Nat) (Option.some Jvm.ClassFile.FieldType.int)) ∈ TBL := mT (List.mem_append_right _ (List.mem_append_right _ (List.mem_append_left _ (List.mem_of_getElem? (i := 16) (by decide +kernel))))) (by decide +kernel)
theorem m_497 : (Jvm.Cond.methodLink "RuleClasses$Run" (76 : Nat) ({ cls := "RuleClasses$Run", name := "join", desc := "(I)I" } : Jvm.MethodName)) ∈ TBL := mT (List.mem_append_right _ (List.mem_append_right _ (List.mem_append_left _ (List.mem_of_getElem? (i := 17) (by decide +kernel))))) (by decide +kernel)
theorem m_499 : (Jvm.Cond.instanceMethod ({ cls := "RuleClasses$Run", name := "join", desc := "(I)I" } : Jvm.MethodName)) ∈ TBL := mT (List.mem_append_right _ (List.mem_append_right _ (List.mem_append_left _ (List.mem_of_getElem? (i := 19) (by decide +kernel))))) (by decide +kernel)
theorem m_500 : (Jvm.Cond.code ({ cls := "RuleClasses$Run", name := "join", desc := "(I)I" } : Jvm.MethodName) prog_4_method_9_code (6 : Nat) (Option.some Jvm.ClassFile.FieldType.int)) ∈ TBL := mT (List.mem_append_right _ (List.mem_append_right _ (List.mem_append_left _ (List.mem_of_getElem? (i := 20) (by decide +kernel))))) (by decide +kernel)
theorem m_501 : (Jvm.Cond.methodLink "RuleClassesLaw" (110 : Nat) ({ cls := "RuleClassesLaw", name := "fact", desc := "(LRuleClasses;II)I" } : Jvm.MethodName)) ∈ TBL := mT (List.mem_append_right _ (List.mem_append_right _ (List.mem_append_left _ (List.mem_of_getElem? (i := 21) (by decide +kernel))))) (by decide +kernel)
theorem m_502 : (Jvm.Cond.static ({ cls := "RuleClassesLaw", name := "fact", desc := "(LRuleClasses;II)I" } : Jvm.MethodName)) ∈ TBL := mT (List.mem_append_right _ (List.mem_append_right _ (List.mem_append_left _ (List.mem_of_getElem? (i := 22) (by decide +kernel))))) (by decide +kernel)
theorem m_503 : (Jvm.Cond.codeWith ({ cls := "RuleClassesLaw", name := "fact", desc := "(LRuleClasses;II)I" } : Jvm.MethodName) method_7_code (4 : Nat) (Option.some Jvm.ClassFile.FieldType.int) [((0 : Nat), (6 : Nat), (9 : Nat), (13 : Nat))]) ∈ TBL := mT (List.mem_append_right _ (List.mem_append_right _ (List.mem_append_left _ (List.mem_of_getElem? (i := 23) (by decide +kernel))))) (by decide +kernel)
theorem m_504 : (Jvm.Cond.methodLink "RuleClassesLaw" (32 : Nat) ({ cls := "RuleClasses", name := "fact", desc := "(II)V" } : Jvm.MethodName)) ∈ TBL := mT (List.mem_append_right _ (List.mem_append_right _ (List.mem_append_left _ (List.mem_of_getElem? (i := 24) (by decide +kernel))))) (by decide +kernel)
theorem m_505 : (Jvm.Cond.instanceMethod ({ cls := "RuleClasses", name := "fact", desc := "(II)V" } : Jvm.MethodName)) ∈ TBL := mT (List.mem_append_right _ (List.mem_append_right _ (List.mem_append_left _ (List.mem_of_getElem? (i := 25) (by decide +kernel))))) (by decide +kernel)
theorem m_506 : (Jvm.Cond.selects "RuleClasses" ({ cls := "RuleClasses", name := "fact", desc := "(II)V" } : Jvm.MethodName) ({ cls := "RuleClasses", name := "fact", desc := "(II)V" } : Jvm.MethodName)) ∈ TBL := mT (List.mem_append_right _ (List.mem_append_right _ (List.mem_append_left _ (List.mem_of_getElem? (i := 26) (by decide +kernel))))) (by decide +kernel)
theorem m_507 : (Jvm.Cond.code ({ cls := "RuleClasses", name := "fact", desc := "(II)V" } : Jvm.MethodName) prog_1_method_6_code (3 : Nat) (Option.none : Option Jvm.ClassFile.FieldType)) ∈ TBL := mT (List.mem_append_right _ (List.mem_append_right _ (List.mem_append_left _ (List.mem_of_getElem? (i := 27) (by decide +kernel))))) (by decide +kernel)
theorem m_508 : (Jvm.Cond.methodLink "RuleClassesLaw" (114 : Nat) ({ cls := "RuleClassesLaw", name := "ask", desc := "(LRuleClasses;II[J)I" } : Jvm.MethodName)) ∈ TBL := mT (List.mem_append_right _ (List.mem_append_right _ (List.mem_append_left _ (List.mem_of_getElem? (i := 28) (by decide +kernel))))) (by decide +kernel)
theorem m_509 : (Jvm.Cond.static ({ cls := "RuleClassesLaw", name := "ask", desc := "(LRuleClasses;II[J)I" } : Jvm.MethodName)) ∈ TBL := mT (List.mem_append_right _ (List.mem_append_right _ (List.mem_append_left _ (List.mem_of_getElem? (i := 29) (by decide +kernel))))) (by decide +kernel)
theorem m_510 : (Jvm.Cond.codeWith ({ cls := "RuleClassesLaw", name := "ask", desc := "(LRuleClasses;II[J)I" } : Jvm.MethodName) method_8_code (5 : Nat) (Option.some Jvm.ClassFile.FieldType.int) [((0 : Nat), (10 : Nat), (13 : Nat), (13 : Nat))]) ∈ TBL := mT (List.mem_append_right _ (List.mem_append_right _ (List.mem_append_left _ (List.mem_of_getElem? (i := 30) (by decide +kernel))))) (by decide +kernel)
theorem m_511 : (Jvm.Cond.methodLink "RuleClassesLaw" (36 : Nat) ({ cls := "RuleClasses", name := "ask", desc := "(II)I" } : Jvm.MethodName)) ∈ TBL := mT (List.mem_append_right _ (List.mem_append_right _ (List.mem_append_left _ (List.mem_of_getElem? (i := 31) (by decide +kernel))))) (by decide +kernel)
theorem m_512 : (Jvm.Cond.instanceMethod ({ cls := "RuleClasses", name := "ask", desc := "(II)I" } : Jvm.MethodName)) ∈ TBL := mT (List.mem_append_right _ (List.mem_append_right _ (List.mem_append_left _ (List.mem_of_getElem? (i := 32) (by decide +kernel))))) (by decide +kernel)
theorem m_513 : (Jvm.Cond.selects "RuleClasses" ({ cls := "RuleClasses", name := "ask", desc := "(II)I" } : Jvm.MethodName) ({ cls := "RuleClasses", name := "ask", desc := "(II)I" } : Jvm.MethodName)) ∈ TBL := mT (List.mem_append_right _ (List.mem_append_right _ (List.mem_append_left _ (List.mem_of_getElem? (i := 33) (by decide +kernel))))) (by decide +kernel)
theorem m_514 : (Jvm.Cond.code ({ cls := "RuleClasses", name := "ask", desc := "(II)I" } : Jvm.MethodName) prog_1_method_7_code (4 : Nat) (Option.some Jvm.ClassFile.FieldType.int)) ∈ TBL := mT (List.mem_append_right _ (List.mem_append_right _ (List.mem_append_left _ (List.mem_of_getElem? (i := 34) (by decide +kernel))))) (by decide +kernel)
theorem m_515 : (Jvm.Cond.methodLink "RuleClasses" (137 : Nat) ({ cls := "RuleClasses", name := "countingEdition", desc := "(III)I" } : Jvm.MethodName)) ∈ TBL := mT (List.mem_append_right _ (List.mem_append_right _ (List.mem_append_left _ (List.mem_of_getElem? (i := 35) (by decide +kernel))))) (by decide +kernel)
theorem m_517 : (Jvm.Cond.instanceMethod ({ cls := "RuleClasses", name := "countingEdition", desc := "(III)I" } : Jvm.MethodName)) ∈ TBL := mT (List.mem_append_right _ (List.mem_append_right _ (List.mem_append_left _ (List.mem_of_getElem? (i := 37) (by decide +kernel))))) (by decide +kernel)
theorem m_518 : (Jvm.Cond.code ({ cls := "RuleClasses", name := "countingEdition", desc := "(III)I" } : Jvm.MethodName) prog_1_method_30_code (8 : Nat) (Option.some Jvm.ClassFile.FieldType.int)) ∈ TBL := mT (List.mem_append_right _ (List.mem_append_right _ (List.mem_append_left _ (List.mem_of_getElem? (i := 38) (by decide +kernel))))) (by decide +kernel)
theorem m_519 : (Jvm.Cond.methodLink "RuleClasses" (225 : Nat) ({ cls := "RuleClasses$Edition", name := "countsFor", desc := "(III)Z" } : Jvm.MethodName)) ∈ TBL := mT (List.mem_append_right _ (List.mem_append_right _ (List.mem_append_left _ (List.mem_of_getElem? (i := 39) (by decide +kernel))))) (by decide +kernel)
theorem m_520 : (Jvm.Cond.instanceMethod ({ cls := "RuleClasses$Edition", name := "countsFor", desc := "(III)Z" } : Jvm.MethodName)) ∈ TBL := mT (List.mem_append_right _ (List.mem_append_right _ (List.mem_append_left _ (List.mem_of_getElem? (i := 40) (by decide +kernel))))) (by decide +kernel)
theorem m_521 : (Jvm.Cond.selects "RuleClasses$Edition" ({ cls := "RuleClasses$Edition", name := "countsFor", desc := "(III)Z" } : Jvm.MethodName) ({ cls := "RuleClasses$Edition", name := "countsFor", desc := "(III)Z" } : Jvm.MethodName)) ∈ TBL := mT (List.mem_append_right _ (List.mem_append_right _ (List.mem_append_left _ (List.mem_of_getElem? (i := 41) (by decide +kernel))))) (by decide +kernel)
theorem m_522 : (Jvm.Cond.code ({ cls := "RuleClasses$Edition", name := "countsFor", desc := "(III)Z" } : Jvm.MethodName) prog_2_method_3_code (4 : Nat) (Option.some Jvm.ClassFile.FieldType.boolean)) ∈ TBL := mT (List.mem_append_right _ (List.mem_append_right _ (List.mem_append_left _ (List.mem_of_getElem? (i := 42) (by decide +kernel))))) (by decide +kernel)
theorem m_523 : (Jvm.Cond.methodLink "RuleClasses" (141 : Nat) ({ cls := "RuleClasses$Run", name := "startNothing", desc := "()V" } : Jvm.MethodName)) ∈ TBL := mT (List.mem_append_right _ (List.mem_append_right _ (List.mem_append_left _ (List.mem_of_getElem? (i := 43) (by decide +kernel))))) (by decide +kernel)
theorem m_524 : (Jvm.Cond.instanceMethod ({ cls := "RuleClasses$Run", name := "startNothing", desc := "()V" } : Jvm.MethodName)) ∈ TBL := mT (List.mem_append_right _ (List.mem_append_right _ (List.mem_append_left _ (List.mem_of_getElem? (i := 44) (by decide +kernel))))) (by decide +kernel)
theorem m_525 : (Jvm.Cond.selects "RuleClasses$Run" ({ cls := "RuleClasses$Run", name := "startNothing", desc := "()V" } : Jvm.MethodName) ({ cls := "RuleClasses$Run", name := "startNothing", desc := "()V" } : Jvm.MethodName)) ∈ TBL := mT (List.mem_append_right _ (List.mem_append_right _ (List.mem_append_left _ (List.mem_of_getElem? (i := 45) (by decide +kernel))))) (by decide +kernel)
theorem m_526 : (Jvm.Cond.code ({ cls := "RuleClasses$Run", name := "startNothing", desc := "()V" } : Jvm.MethodName) prog_4_method_2_code (1 : Nat) (Option.none : Option Jvm.ClassFile.FieldType)) ∈ TBL := mT (List.mem_append_right _ (List.mem_append_right _ (List.mem_append_left _ (List.mem_of_getElem? (i := 46) (by decide +kernel))))) (by decide +kernel)
theorem m_527 : (Jvm.Cond.methodLink "RuleClasses" (148 : Nat) ({ cls := "RuleClasses", name := "place", desc := "(II)I" } : Jvm.MethodName)) ∈ TBL := mT (List.mem_append_right _ (List.mem_append_right _ (List.mem_append_left _ (List.mem_of_getElem? (i := 47) (by decide +kernel))))) (by decide +kernel)
theorem m_528 : (Jvm.Cond.static ({ cls := "RuleClasses", name := "place", desc := "(II)I" } : Jvm.MethodName)) ∈ TBL := mT (List.mem_append_right _ (List.mem_append_right _ (List.mem_append_left _ (List.mem_of_getElem? (i := 48) (by decide +kernel))))) (by decide +kernel)
theorem m_529 : (Jvm.Cond.code ({ cls := "RuleClasses", name := "place", desc := "(II)I" } : Jvm.MethodName) prog_1_method_28_code (2 : Nat) (Option.some Jvm.ClassFile.FieldType.int)) ∈ TBL := mT (List.mem_append_right _ (List.mem_append_right _ (List.mem_append_left _ (List.mem_of_getElem? (i := 49) (by decide +kernel))))) (by decide +kernel)
theorem m_530 : (Jvm.Cond.methodLink "RuleClasses" (151 : Nat) ({ cls := "RuleClasses", name := "runShadow", desc := "(I)V" } : Jvm.MethodName)) ∈ TBL := mT (List.mem_append_right _ (List.mem_append_right _ (List.mem_append_left _ (List.mem_of_getElem? (i := 50) (by decide +kernel))))) (by decide +kernel)
theorem m_532 : (Jvm.Cond.instanceMethod ({ cls := "RuleClasses", name := "runShadow", desc := "(I)V" } : Jvm.MethodName)) ∈ TBL := mT (List.mem_append_right _ (List.mem_append_right _ (List.mem_append_left _ (List.mem_of_getElem? (i := 52) (by decide +kernel))))) (by decide +kernel)
theorem m_533 : (Jvm.Cond.code ({ cls := "RuleClasses", name := "runShadow", desc := "(I)V" } : Jvm.MethodName) prog_1_method_31_code (3 : Nat) (Option.none : Option Jvm.ClassFile.FieldType)) ∈ TBL := mT (List.mem_append_right _ (List.mem_append_right _ (List.mem_append_left _ (List.mem_of_getElem? (i := 53) (by decide +kernel))))) (by decide +kernel)
theorem m_534 : (Jvm.Cond.methodLink "RuleClasses" (188 : Nat) ({ cls := "RuleClasses$Run", name := "endedLike", desc := "(LRuleClasses$Run;)Z" } : Jvm.MethodName)) ∈ TBL := mT (List.mem_append_right _ (List.mem_append_right _ (List.mem_append_left _ (List.mem_of_getElem? (i := 54) (by decide +kernel))))) (by decide +kernel)
theorem m_535 : (Jvm.Cond.instanceMethod ({ cls := "RuleClasses$Run", name := "endedLike", desc := "(LRuleClasses$Run;)Z" } : Jvm.MethodName)) ∈ TBL := mT (List.mem_append_right _ (List.mem_append_right _ (List.mem_append_left _ (List.mem_of_getElem? (i := 55) (by decide +kernel))))) (by decide +kernel)
theorem m_536 : (Jvm.Cond.selects "RuleClasses$Run" ({ cls := "RuleClasses$Run", name := "endedLike", desc := "(LRuleClasses$Run;)Z" } : Jvm.MethodName) ({ cls := "RuleClasses$Run", name := "endedLike", desc := "(LRuleClasses$Run;)Z" } : Jvm.MethodName)) ∈ TBL := mT (List.mem_append_right _ (List.mem_append_right _ (List.mem_append_left _ (List.mem_of_getElem? (i := 56) (by decide +kernel))))) (by decide +kernel)
theorem m_537 : (Jvm.Cond.code ({ cls := "RuleClasses$Run", name := "endedLike", desc := "(LRuleClasses$Run;)Z" } : Jvm.MethodName) prog_4_method_4_code (2 : Nat) (Option.some Jvm.ClassFile.FieldType.boolean)) ∈ TBL := mT (List.mem_append_right _ (List.mem_append_right _ (List.mem_append_left _ (List.mem_of_getElem? (i := 57) (by decide +kernel))))) (by decide +kernel)
theorem m_538 : (Jvm.Cond.methodLink "RuleClasses" (154 : Nat) ({ cls := "RuleClasses$Edition", name := "noteQuestion", desc := "(LRuleClasses$Run;)V" } : Jvm.MethodName)) ∈ TBL := mT (List.mem_append_right _ (List.mem_append_right _ (List.mem_append_left _ (List.mem_of_getElem? (i := 58) (by decide +kernel))))) (by decide +kernel)
theorem m_539 : (Jvm.Cond.instanceMethod ({ cls := "RuleClasses$Edition", name := "noteQuestion", desc := "(LRuleClasses$Run;)V" } : Jvm.MethodName)) ∈ TBL := mT (List.mem_append_right _ (List.mem_append_right _ (List.mem_append_left _ (List.mem_of_getElem? (i := 59) (by decide +kernel))))) (by decide +kernel)
theorem m_540 : (Jvm.Cond.selects "RuleClasses$Edition" ({ cls := "RuleClasses$Edition", name := "noteQuestion", desc := "(LRuleClasses$Run;)V" } : Jvm.MethodName) ({ cls := "RuleClasses$Edition", name := "noteQuestion", desc := "(LRuleClasses$Run;)V" } : Jvm.MethodName)) ∈ TBL := mT (List.mem_append_right _ (List.mem_append_right _ (List.mem_append_left _ (List.mem_of_getElem? (i := 60) (by decide +kernel))))) (by decide +kernel)
theorem m_541 : (Jvm.Cond.code ({ cls := "RuleClasses$Edition", name := "noteQuestion", desc := "(LRuleClasses$Run;)V" } : Jvm.MethodName) prog_2_method_5_code (2 : Nat) (Option.none : Option Jvm.ClassFile.FieldType)) ∈ TBL := mT (List.mem_append_right _ (List.mem_append_right _ (List.mem_append_left _ (List.mem_of_getElem? (i := 61) (by decide +kernel))))) (by decide +kernel)
theorem m_542 : (Jvm.Cond.methodLink "RuleClassesLaw" (118 : Nat) ({ cls := "RuleClassesLaw", name := "fallback", desc := "(LRuleClasses;II)I" } : Jvm.MethodName)) ∈ TBL := mT (List.mem_append_right _ (List.mem_append_right _ (List.mem_append_left _ (List.mem_of_getElem? (i := 62) (by decide +kernel))))) (by decide +kernel)
theorem m_543 : (Jvm.Cond.static ({ cls := "RuleClassesLaw", name := "fallback", desc := "(LRuleClasses;II)I" } : Jvm.MethodName)) ∈ TBL := mT (List.mem_append_right _ (List.mem_append_right _ (List.mem_append_left _ (List.mem_of_getElem? (i := 63) (by decide +kernel))))) (by decide +kernel)
theorem m_544 : (Jvm.Cond.codeWith ({ cls := "RuleClassesLaw", name := "fallback", desc := "(LRuleClasses;II)I" } : Jvm.MethodName) method_9_code (4 : Nat) (Option.some Jvm.ClassFile.FieldType.int) [((0 : Nat), (6 : Nat), (9 : Nat), (13 : Nat))]) ∈ TBL := mT (List.mem_append_right _ (List.mem_append_right _ (List.mem_append_left _ (List.mem_of_getElem? (i := 64) (by decide +kernel))))) (by decide +kernel)
theorem m_545 : (Jvm.Cond.methodLink "RuleClassesLaw" (40 : Nat) ({ cls := "RuleClasses", name := "fallback", desc := "(II)V" } : Jvm.MethodName)) ∈ TBL := mT (List.mem_append_right _ (List.mem_append_right _ (List.mem_append_left _ (List.mem_of_getElem? (i := 65) (by decide +kernel))))) (by decide +kernel)
theorem m_546 : (Jvm.Cond.instanceMethod ({ cls := "RuleClasses", name := "fallback", desc := "(II)V" } : Jvm.MethodName)) ∈ TBL := mT (List.mem_append_right _ (List.mem_append_right _ (List.mem_append_left _ (List.mem_of_getElem? (i := 66) (by decide +kernel))))) (by decide +kernel)
theorem m_547 : (Jvm.Cond.selects "RuleClasses" ({ cls := "RuleClasses", name := "fallback", desc := "(II)V" } : Jvm.MethodName) ({ cls := "RuleClasses", name := "fallback", desc := "(II)V" } : Jvm.MethodName)) ∈ TBL := mT (List.mem_append_right _ (List.mem_append_right _ (List.mem_append_left _ (List.mem_of_getElem? (i := 67) (by decide +kernel))))) (by decide +kernel)
theorem m_548 : (Jvm.Cond.code ({ cls := "RuleClasses", name := "fallback", desc := "(II)V" } : Jvm.MethodName) prog_1_method_8_code (3 : Nat) (Option.none : Option Jvm.ClassFile.FieldType)) ∈ TBL := mT (List.mem_append_right _ (List.mem_append_right _ (List.mem_append_left _ (List.mem_of_getElem? (i := 68) (by decide +kernel))))) (by decide +kernel)
theorem m_549 : (Jvm.Cond.methodLink "RuleClassesLaw" (121 : Nat) ({ cls := "RuleClassesLaw", name := "edition", desc := "(LRuleClasses;III[J)I" } : Jvm.MethodName)) ∈ TBL := mT (List.mem_append_right _ (List.mem_append_right _ (List.mem_append_left _ (List.mem_of_getElem? (i := 69) (by decide +kernel))))) (by decide +kernel)
theorem m_550 : (Jvm.Cond.static ({ cls := "RuleClassesLaw", name := "edition", desc := "(LRuleClasses;III[J)I" } : Jvm.MethodName)) ∈ TBL := mT (List.mem_append_right _ (List.mem_append_right _ (List.mem_append_left _ (List.mem_of_getElem? (i := 70) (by decide +kernel))))) (by decide +kernel)
theorem m_551 : (Jvm.Cond.codeWith ({ cls := "RuleClassesLaw", name := "edition", desc := "(LRuleClasses;III[J)I" } : Jvm.MethodName) method_10_code (6 : Nat) (Option.some Jvm.ClassFile.FieldType.int) [((0 : Nat), (12 : Nat), (15 : Nat), (13 : Nat))]) ∈ TBL := mT (List.mem_append_right _ (List.mem_append_right _ (List.mem_append_left _ (List.mem_of_getElem? (i := 71) (by decide +kernel))))) (by decide +kernel)
theorem m_552 : (Jvm.Cond.methodLink "RuleClassesLaw" (43 : Nat) ({ cls := "RuleClasses", name := "edition", desc := "(III)I" } : Jvm.MethodName)) ∈ TBL := mT (List.mem_append_right _ (List.mem_append_right _ (List.mem_append_left _ (List.mem_of_getElem? (i := 72) (by decide +kernel))))) (by decide +kernel)
theorem m_553 : (Jvm.Cond.instanceMethod ({ cls := "RuleClasses", name := "edition", desc := "(III)I" } : Jvm.MethodName)) ∈ TBL := mT (List.mem_append_right _ (List.mem_append_right _ (List.mem_append_left _ (List.mem_of_getElem? (i := 73) (by decide +kernel))))) (by decide +kernel)
theorem m_554 : (Jvm.Cond.selects "RuleClasses" ({ cls := "RuleClasses", name := "edition", desc := "(III)I" } : Jvm.MethodName) ({ cls := "RuleClasses", name := "edition", desc := "(III)I" } : Jvm.MethodName)) ∈ TBL := mT (List.mem_append_right _ (List.mem_append_right _ (List.mem_append_left _ (List.mem_of_getElem? (i := 74) (by decide +kernel))))) (by decide +kernel)
theorem m_555 : (Jvm.Cond.code ({ cls := "RuleClasses", name := "edition", desc := "(III)I" } : Jvm.MethodName) prog_1_method_9_code (4 : Nat) (Option.some Jvm.ClassFile.FieldType.int)) ∈ TBL := mT (List.mem_append_right _ (List.mem_append_right _ (List.mem_append_left _ (List.mem_of_getElem? (i := 75) (by decide +kernel))))) (by decide +kernel)
theorem m_556 : (Jvm.Cond.methodLink "RuleClassesLaw" (124 : Nat) ({ cls := "RuleClassesLaw", name := "failed", desc := "(LRuleClasses;II[J)I" } : Jvm.MethodName)) ∈ TBL := mT (List.mem_append_right _ (List.mem_append_right _ (List.mem_append_left _ (List.mem_of_getElem? (i := 76) (by decide +kernel))))) (by decide +kernel)
theorem m_557 : (Jvm.Cond.static ({ cls := "RuleClassesLaw", name := "failed", desc := "(LRuleClasses;II[J)I" } : Jvm.MethodName)) ∈ TBL := mT (List.mem_append_right _ (List.mem_append_right _ (List.mem_append_left _ (List.mem_of_getElem? (i := 77) (by decide +kernel))))) (by decide +kernel)
theorem m_558 : (Jvm.Cond.codeWith ({ cls := "RuleClassesLaw", name := "failed", desc := "(LRuleClasses;II[J)I" } : Jvm.MethodName) method_11_code (5 : Nat) (Option.some Jvm.ClassFile.FieldType.int) [((0 : Nat), (10 : Nat), (13 : Nat), (13 : Nat))]) ∈ TBL := mT (List.mem_append_right _ (List.mem_append_right _ (List.mem_append_left _ (List.mem_of_getElem? (i := 78) (by decide +kernel))))) (by decide +kernel)
theorem m_559 : (Jvm.Cond.methodLink "RuleClassesLaw" (46 : Nat) ({ cls := "RuleClasses", name := "failed", desc := "(II)I" } : Jvm.MethodName)) ∈ TBL := mT (List.mem_append_right _ (List.mem_append_right _ (List.mem_append_left _ (List.mem_of_getElem? (i := 79) (by decide +kernel))))) (by decide +kernel)
theorem m_560 : (Jvm.Cond.instanceMethod ({ cls := "RuleClasses", name := "failed", desc := "(II)I" } : Jvm.MethodName)) ∈ TBL := mT (List.mem_append_right _ (List.mem_append_right _ (List.mem_append_left _ (List.mem_of_getElem? (i := 80) (by decide +kernel))))) (by decide +kernel)
theorem m_561 : (Jvm.Cond.selects "RuleClasses" ({ cls := "RuleClasses", name := "failed", desc := "(II)I" } : Jvm.MethodName) ({ cls := "RuleClasses", name := "failed", desc := "(II)I" } : Jvm.MethodName)) ∈ TBL := mT (List.mem_append_right _ (List.mem_append_right _ (List.mem_append_left _ (List.mem_of_getElem? (i := 81) (by decide +kernel))))) (by decide +kernel)
theorem m_562 : (Jvm.Cond.code ({ cls := "RuleClasses", name := "failed", desc := "(II)I" } : Jvm.MethodName) prog_1_method_10_code (3 : Nat) (Option.some Jvm.ClassFile.FieldType.int)) ∈ TBL := mT (List.mem_append_right _ (List.mem_append_right _ (List.mem_append_left _ (List.mem_of_getElem? (i := 82) (by decide +kernel))))) (by decide +kernel)
theorem m_563 : (Jvm.Cond.methodLink "RuleClassesLaw" (127 : Nat) ({ cls := "RuleClassesLaw", name := "handle", desc := "(LRuleClasses;I[J)I" } : Jvm.MethodName)) ∈ TBL := mT (List.mem_append_right _ (List.mem_append_right _ (List.mem_append_left _ (List.mem_of_getElem? (i := 83) (by decide +kernel))))) (by decide +kernel)
theorem m_564 : (Jvm.Cond.static ({ cls := "RuleClassesLaw", name := "handle", desc := "(LRuleClasses;I[J)I" } : Jvm.MethodName)) ∈ TBL := mT (List.mem_append_right _ (List.mem_append_right _ (List.mem_append_left _ (List.mem_of_getElem? (i := 84) (by decide +kernel))))) (by decide +kernel)
theorem m_565 : (Jvm.Cond.codeWith ({ cls := "RuleClassesLaw", name := "handle", desc := "(LRuleClasses;I[J)I" } : Jvm.MethodName) method_12_code (4 : Nat) (Option.some Jvm.ClassFile.FieldType.int) [((0 : Nat), (9 : Nat), (12 : Nat), (24 : Nat)), ((0 : Nat), (9 : Nat), (15 : Nat), (26 : Nat)), ((0 : Nat), (9 : Nat), (18 : Nat), (19 : Nat))]) ∈ TBL := mT (List.mem_append_right _ (List.mem_append_right _ (List.mem_append_left _ (List.mem_of_getElem? (i := 85) (by decide +kernel))))) (by decide +kernel)
theorem m_566 : (Jvm.Cond.methodLink "RuleClassesLaw" (49 : Nat) ({ cls := "RuleClasses", name := "handle", desc := "(I)I" } : Jvm.MethodName)) ∈ TBL := mT (List.mem_append_right _ (List.mem_append_right _ (List.mem_append_left _ (List.mem_of_getElem? (i := 86) (by decide +kernel))))) (by decide +kernel)
theorem m_567 : (Jvm.Cond.instanceMethod ({ cls := "RuleClasses", name := "handle", desc := "(I)I" } : Jvm.MethodName)) ∈ TBL := mT (List.mem_append_right _ (List.mem_append_right _ (List.mem_append_left _ (List.mem_of_getElem? (i := 87) (by decide +kernel))))) (by decide +kernel)
theorem m_568 : (Jvm.Cond.selects "RuleClasses" ({ cls := "RuleClasses", name := "handle", desc := "(I)I" } : Jvm.MethodName) ({ cls := "RuleClasses", name := "handle", desc := "(I)I" } : Jvm.MethodName)) ∈ TBL := mT (List.mem_append_right _ (List.mem_append_right _ (List.mem_append_left _ (List.mem_of_getElem? (i := 88) (by decide +kernel))))) (by decide +kernel)
theorem m_569 : (Jvm.Cond.code ({ cls := "RuleClasses", name := "handle", desc := "(I)I" } : Jvm.MethodName) prog_1_method_11_code (2 : Nat) (Option.some Jvm.ClassFile.FieldType.int)) ∈ TBL := mT (List.mem_append_right _ (List.mem_append_right _ (List.mem_append_left _ (List.mem_of_getElem? (i := 89) (by decide +kernel))))) (by decide +kernel)
theorem m_572 : (Jvm.Cond.methodLink "RuleClassesLaw" (130 : Nat) ({ cls := "RuleClassesLaw", name := "by", desc := "(LRuleClasses;I[J)I" } : Jvm.MethodName)) ∈ TBL := mT (List.mem_append_right _ (List.mem_append_right _ (List.mem_append_left _ (List.mem_of_getElem? (i := 92) (by decide +kernel))))) (by decide +kernel)
theorem m_573 : (Jvm.Cond.static ({ cls := "RuleClassesLaw", name := "by", desc := "(LRuleClasses;I[J)I" } : Jvm.MethodName)) ∈ TBL := mT (List.mem_append_right _ (List.mem_append_right _ (List.mem_append_left _ (List.mem_of_getElem? (i := 93) (by decide +kernel))))) (by decide +kernel)
theorem m_574 : (Jvm.Cond.codeWith ({ cls := "RuleClassesLaw", name := "by", desc := "(LRuleClasses;I[J)I" } : Jvm.MethodName) method_13_code (4 : Nat) (Option.some Jvm.ClassFile.FieldType.int) [((0 : Nat), (9 : Nat), (12 : Nat), (13 : Nat)), ((0 : Nat), (9 : Nat), (15 : Nat), (26 : Nat))]) ∈ TBL := mT (List.mem_append_right _ (List.mem_append_right _ (List.mem_append_left _ (List.mem_of_getElem? (i := 94) (by decide +kernel))))) (by decide +kernel)
theorem m_575 : (Jvm.Cond.methodLink "RuleClassesLaw" (52 : Nat) ({ cls := "RuleClasses", name := "by", desc := "(I)I" } : Jvm.MethodName)) ∈ TBL := mT (List.mem_append_right _ (List.mem_append_right _ (List.mem_append_left _ (List.mem_of_getElem? (i := 95) (by decide +kernel))))) (by decide +kernel)
theorem m_576 : (Jvm.Cond.instanceMethod ({ cls := "RuleClasses", name := "by", desc := "(I)I" } : Jvm.MethodName)) ∈ TBL := mT (List.mem_append_right _ (List.mem_append_right _ (List.mem_append_left _ (List.mem_of_getElem? (i := 96) (by decide +kernel))))) (by decide +kernel)
theorem m_577 : (Jvm.Cond.selects "RuleClasses" ({ cls := "RuleClasses", name := "by", desc := "(I)I" } : Jvm.MethodName) ({ cls := "RuleClasses", name := "by", desc := "(I)I" } : Jvm.MethodName)) ∈ TBL := mT (List.mem_append_right _ (List.mem_append_right _ (List.mem_append_left _ (List.mem_of_getElem? (i := 97) (by decide +kernel))))) (by decide +kernel)
theorem m_578 : (Jvm.Cond.code ({ cls := "RuleClasses", name := "by", desc := "(I)I" } : Jvm.MethodName) prog_1_method_12_code (3 : Nat) (Option.some Jvm.ClassFile.FieldType.int)) ∈ TBL := mT (List.mem_append_right _ (List.mem_append_right _ (List.mem_append_left _ (List.mem_of_getElem? (i := 98) (by decide +kernel))))) (by decide +kernel)
theorem m_580 : (Jvm.Cond.methodLink "RuleClassesLaw" (133 : Nat) ({ cls := "RuleClassesLaw", name := "keep", desc := "(LRuleClasses;[J)I" } : Jvm.MethodName)) ∈ TBL := mT (List.mem_append_right _ (List.mem_append_right _ (List.mem_append_left _ (List.mem_of_getElem? (i := 100) (by decide +kernel))))) (by decide +kernel)
theorem m_581 : (Jvm.Cond.static ({ cls := "RuleClassesLaw", name := "keep", desc := "(LRuleClasses;[J)I" } : Jvm.MethodName)) ∈ TBL := mT (List.mem_append_right _ (List.mem_append_right _ (List.mem_append_left _ (List.mem_of_getElem? (i := 101) (by decide +kernel))))) (by decide +kernel)
theorem m_582 : (Jvm.Cond.codeWith ({ cls := "RuleClassesLaw", name := "keep", desc := "(LRuleClasses;[J)I" } : Jvm.MethodName) method_14_code (3 : Nat) (Option.some Jvm.ClassFile.FieldType.int) [((0 : Nat), (8 : Nat), (11 : Nat), (19 : Nat))]) ∈ TBL := mT (List.mem_append_right _ (List.mem_append_right _ (List.mem_append_left _ (List.mem_of_getElem? (i := 102) (by decide +kernel))))) (by decide +kernel)
theorem m_583 : (Jvm.Cond.methodLink "RuleClassesLaw" (55 : Nat) ({ cls := "RuleClasses", name := "keep", desc := "()I" } : Jvm.MethodName)) ∈ TBL := mT (List.mem_append_right _ (List.mem_append_right _ (List.mem_append_left _ (List.mem_of_getElem? (i := 103) (by decide +kernel))))) (by decide +kernel)
theorem m_584 : (Jvm.Cond.instanceMethod ({ cls := "RuleClasses", name := "keep", desc := "()I" } : Jvm.MethodName)) ∈ TBL := mT (List.mem_append_right _ (List.mem_append_right _ (List.mem_append_left _ (List.mem_of_getElem? (i := 104) (by decide +kernel))))) (by decide +kernel)
theorem m_585 : (Jvm.Cond.selects "RuleClasses" ({ cls := "RuleClasses", name := "keep", desc := "()I" } : Jvm.MethodName) ({ cls := "RuleClasses", name := "keep", desc := "()I" } : Jvm.MethodName)) ∈ TBL := mT (List.mem_append_right _ (List.mem_append_right _ (List.mem_append_left _ (List.mem_of_getElem? (i := 105) (by decide +kernel))))) (by decide +kernel)
theorem m_586 : (Jvm.Cond.code ({ cls := "RuleClasses", name := "keep", desc := "()I" } : Jvm.MethodName) prog_1_method_13_code (1 : Nat) (Option.some Jvm.ClassFile.FieldType.int)) ∈ TBL := mT (List.mem_append_right _ (List.mem_append_right _ (List.mem_append_left _ (List.mem_of_getElem? (i := 106) (by decide +kernel))))) (by decide +kernel)
theorem m_588 : (Jvm.Cond.methodLink "RuleClasses" (184 : Nat) ({ cls := "RuleClasses$Facts", name := "copy", desc := "()LRuleClasses$Facts;" } : Jvm.MethodName)) ∈ TBL := mT (List.mem_append_right _ (List.mem_append_right _ (List.mem_append_left _ (List.mem_of_getElem? (i := 108) (by decide +kernel))))) (by decide +kernel)
theorem m_589 : (Jvm.Cond.instanceMethod ({ cls := "RuleClasses$Facts", name := "copy", desc := "()LRuleClasses$Facts;" } : Jvm.MethodName)) ∈ TBL := mT (List.mem_append_right _ (List.mem_append_right _ (List.mem_append_left _ (List.mem_of_getElem? (i := 109) (by decide +kernel))))) (by decide +kernel)
theorem m_590 : (Jvm.Cond.selects "RuleClasses$Facts" ({ cls := "RuleClasses$Facts", name := "copy", desc := "()LRuleClasses$Facts;" } : Jvm.MethodName) ({ cls := "RuleClasses$Facts", name := "copy", desc := "()LRuleClasses$Facts;" } : Jvm.MethodName)) ∈ TBL := mT (List.mem_append_right _ (List.mem_append_right _ (List.mem_append_left _ (List.mem_of_getElem? (i := 110) (by decide +kernel))))) (by decide +kernel)
theorem m_591 : (Jvm.Cond.code ({ cls := "RuleClasses$Facts", name := "copy", desc := "()LRuleClasses$Facts;" } : Jvm.MethodName) prog_3_method_2_code (2 : Nat) (Option.some (Jvm.ClassFile.FieldType.object "RuleClasses$Facts"))) ∈ TBL := mT (List.mem_append_right _ (List.mem_append_right _ (List.mem_append_left _ (List.mem_of_getElem? (i := 111) (by decide +kernel))))) (by decide +kernel)
theorem m_592 : (Jvm.Cond.classLink "RuleClasses$Facts" (10 : Nat) "RuleClasses$Facts") ∈ TBL := mT (List.mem_append_right _ (List.mem_append_right _ (List.mem_append_left _ (List.mem_of_getElem? (i := 112) (by decide +kernel))))) (by decide +kernel)
theorem m_593 : (Jvm.Cond.methodLink "RuleClasses$Facts" (15 : Nat) ({ cls := "RuleClasses$Facts", name := "<init>", desc := "()V" } : Jvm.MethodName)) ∈ TBL := mT (List.mem_append_right _ (List.mem_append_right _ (List.mem_append_left _ (List.mem_of_getElem? (i := 113) (by decide +kernel))))) (by decide +kernel)
theorem m_594 : (Jvm.Cond.methodLink "RuleClasses$Facts" (16 : Nat) ({ cls := "java/lang/System", name := "arraycopy", desc := "(Ljava/lang/Object;ILjava/lang/Object;II)V" } : Jvm.MethodName)) ∈ TBL := mT (List.mem_append_right _ (List.mem_append_right _ (List.mem_append_left _ (List.mem_of_getElem? (i := 114) (by decide +kernel))))) (by decide +kernel)
theorem m_595 : (Jvm.Cond.methodLink "RuleClassesLaw" (137 : Nat) ({ cls := "RuleClassesLaw", name := "compare", desc := "(LRuleClasses;II[J)I" } : Jvm.MethodName)) ∈ TBL := mT (List.mem_append_right _ (List.mem_append_right _ (List.mem_append_left _ (List.mem_of_getElem? (i := 115) (by decide +kernel))))) (by decide +kernel)
theorem m_596 : (Jvm.Cond.static ({ cls := "RuleClassesLaw", name := "compare", desc := "(LRuleClasses;II[J)I" } : Jvm.MethodName)) ∈ TBL := mT (List.mem_append_right _ (List.mem_append_right _ (List.mem_append_left _ (List.mem_of_getElem? (i := 116) (by decide +kernel))))) (by decide +kernel)
theorem m_597 : (Jvm.Cond.codeWith ({ cls := "RuleClassesLaw", name := "compare", desc := "(LRuleClasses;II[J)I" } : Jvm.MethodName) method_15_code (5 : Nat) (Option.some Jvm.ClassFile.FieldType.int) [((0 : Nat), (10 : Nat), (13 : Nat), (24 : Nat))]) ∈ TBL := mT (List.mem_append_right _ (List.mem_append_right _ (List.mem_append_left _ (List.mem_of_getElem? (i := 117) (by decide +kernel))))) (by decide +kernel)
theorem m_598 : (Jvm.Cond.methodLink "RuleClassesLaw" (59 : Nat) ({ cls := "RuleClasses", name := "compare", desc := "(II)I" } : Jvm.MethodName)) ∈ TBL := mT (List.mem_append_right _ (List.mem_append_right _ (List.mem_append_left _ (List.mem_of_getElem? (i := 118) (by decide +kernel))))) (by decide +kernel)
theorem m_599 : (Jvm.Cond.instanceMethod ({ cls := "RuleClasses", name := "compare", desc := "(II)I" } : Jvm.MethodName)) ∈ TBL := mT (List.mem_append_right _ (List.mem_append_right _ (List.mem_append_left _ (List.mem_of_getElem? (i := 119) (by decide +kernel))))) (by decide +kernel)
theorem m_600 : (Jvm.Cond.selects "RuleClasses" ({ cls := "RuleClasses", name := "compare", desc := "(II)I" } : Jvm.MethodName) ({ cls := "RuleClasses", name := "compare", desc := "(II)I" } : Jvm.MethodName)) ∈ TBL := mT (List.mem_append_right _ (List.mem_append_right _ (List.mem_append_left _ (List.mem_of_getElem? (i := 120) (by decide +kernel))))) (by decide +kernel)
theorem m_601 : (Jvm.Cond.code ({ cls := "RuleClasses", name := "compare", desc := "(II)I" } : Jvm.MethodName) prog_1_method_14_code (7 : Nat) (Option.some Jvm.ClassFile.FieldType.int)) ∈ TBL := mT (List.mem_append_right _ (List.mem_append_right _ (List.mem_append_left _ (List.mem_of_getElem? (i := 121) (by decide +kernel))))) (by decide +kernel)
theorem m_602 : (Jvm.Cond.methodLink "RuleClassesLaw" (140 : Nat) ({ cls := "RuleClassesLaw", name := "same", desc := "(LRuleClasses;II[J)I" } : Jvm.MethodName)) ∈ TBL := mT (List.mem_append_right _ (List.mem_append_right _ (List.mem_append_left _ (List.mem_of_getElem? (i := 122) (by decide +kernel))))) (by decide +kernel)
theorem m_603 : (Jvm.Cond.static ({ cls := "RuleClassesLaw", name := "same", desc := "(LRuleClasses;II[J)I" } : Jvm.MethodName)) ∈ TBL := mT (List.mem_append_right _ (List.mem_append_right _ (List.mem_append_left _ (List.mem_of_getElem? (i := 123) (by decide +kernel))))) (by decide +kernel)
theorem m_604 : (Jvm.Cond.codeWith ({ cls := "RuleClassesLaw", name := "same", desc := "(LRuleClasses;II[J)I" } : Jvm.MethodName) method_16_code (5 : Nat) (Option.some Jvm.ClassFile.FieldType.int) [((0 : Nat), (17 : Nat), (20 : Nat), (24 : Nat))]) ∈ TBL := mT (List.mem_append_right _ (List.mem_append_right _ (List.mem_append_left _ (List.mem_of_getElem? (i := 124) (by decide +kernel))))) (by decide +kernel)
theorem m_605 : (Jvm.Cond.methodLink "RuleClassesLaw" (62 : Nat) ({ cls := "RuleClasses", name := "same", desc := "(II)Z" } : Jvm.MethodName)) ∈ TBL := mT (List.mem_append_right _ (List.mem_append_right _ (List.mem_append_left _ (List.mem_of_getElem? (i := 125) (by decide +kernel))))) (by decide +kernel)
theorem m_606 : (Jvm.Cond.instanceMethod ({ cls := "RuleClasses", name := "same", desc := "(II)Z" } : Jvm.MethodName)) ∈ TBL := mT (List.mem_append_right _ (List.mem_append_right _ (List.mem_append_left _ (List.mem_of_getElem? (i := 126) (by decide +kernel))))) (by decide +kernel)
theorem m_607 : (Jvm.Cond.selects "RuleClasses" ({ cls := "RuleClasses", name := "same", desc := "(II)Z" } : Jvm.MethodName) ({ cls := "RuleClasses", name := "same", desc := "(II)Z" } : Jvm.MethodName)) ∈ TBL := mT (List.mem_append_right _ (List.mem_append_right _ (List.mem_append_left _ (List.mem_of_getElem? (i := 127) (by decide +kernel))))) (by decide +kernel)
theorem m_608 : (Jvm.Cond.code ({ cls := "RuleClasses", name := "same", desc := "(II)Z" } : Jvm.MethodName) prog_1_method_15_code (5 : Nat) (Option.some Jvm.ClassFile.FieldType.boolean)) ∈ TBL := mT (List.mem_append_right _ (List.mem_append_right _ (List.mem_append_left _ (List.mem_of_getElem? (i := 128) (by decide +kernel))))) (by decide +kernel)
theorem m_609 : (Jvm.Cond.methodLink "RuleClasses" (192 : Nat) ({ cls := "RuleClasses$Edition", name := "hasCodeOf", desc := "(LRuleClasses$Edition;)Z" } : Jvm.MethodName)) ∈ TBL := mT (List.mem_append_right _ (List.mem_append_right _ (List.mem_append_left _ (List.mem_of_getElem? (i := 129) (by decide +kernel))))) (by decide +kernel)
theorem m_610 : (Jvm.Cond.instanceMethod ({ cls := "RuleClasses$Edition", name := "hasCodeOf", desc := "(LRuleClasses$Edition;)Z" } : Jvm.MethodName)) ∈ TBL := mT (List.mem_append_right _ (List.mem_append_right _ (List.mem_append_left _ (List.mem_of_getElem? (i := 130) (by decide +kernel))))) (by decide +kernel)
theorem m_611 : (Jvm.Cond.selects "RuleClasses$Edition" ({ cls := "RuleClasses$Edition", name := "hasCodeOf", desc := "(LRuleClasses$Edition;)Z" } : Jvm.MethodName) ({ cls := "RuleClasses$Edition", name := "hasCodeOf", desc := "(LRuleClasses$Edition;)Z" } : Jvm.MethodName)) ∈ TBL := mT (List.mem_append_right _ (List.mem_append_right _ (List.mem_append_left _ (List.mem_of_getElem? (i := 131) (by decide +kernel))))) (by decide +kernel)
theorem m_612 : (Jvm.Cond.code ({ cls := "RuleClasses$Edition", name := "hasCodeOf", desc := "(LRuleClasses$Edition;)Z" } : Jvm.MethodName) prog_2_method_4_code (3 : Nat) (Option.some Jvm.ClassFile.FieldType.boolean)) ∈ TBL := mT (List.mem_append_right _ (List.mem_append_right _ (List.mem_append_left _ (List.mem_of_getElem? (i := 132) (by decide +kernel))))) (by decide +kernel)
theorem m_613 : (Jvm.Cond.methodLink "RuleClassesLaw" (143 : Nat) ({ cls := "RuleClassesLaw", name := "shadow", desc := "(LRuleClasses;III)I" } : Jvm.MethodName)) ∈ TBL := mT (List.mem_append_right _ (List.mem_append_right _ (List.mem_append_left _ (List.mem_of_getElem? (i := 133) (by decide +kernel))))) (by decide +kernel)
theorem m_614 : (Jvm.Cond.static ({ cls := "RuleClassesLaw", name := "shadow", desc := "(LRuleClasses;III)I" } : Jvm.MethodName)) ∈ TBL := mT (List.mem_append_right _ (List.mem_append_right _ (List.mem_append_left _ (List.mem_of_getElem? (i := 134) (by decide +kernel))))) (by decide +kernel)
theorem m_615 : (Jvm.Cond.codeWith ({ cls := "RuleClassesLaw", name := "shadow", desc := "(LRuleClasses;III)I" } : Jvm.MethodName) method_17_code (5 : Nat) (Option.some Jvm.ClassFile.FieldType.int) [((0 : Nat), (7 : Nat), (10 : Nat), (24 : Nat)), ((0 : Nat), (7 : Nat), (14 : Nat), (13 : Nat))]) ∈ TBL := mT (List.mem_append_right _ (List.mem_append_right _ (List.mem_append_left _ (List.mem_of_getElem? (i := 135) (by decide +kernel))))) (by decide +kernel)
theorem m_616 : (Jvm.Cond.methodLink "RuleClassesLaw" (66 : Nat) ({ cls := "RuleClasses", name := "shadow", desc := "(III)V" } : Jvm.MethodName)) ∈ TBL := mT (List.mem_append_right _ (List.mem_append_right _ (List.mem_append_left _ (List.mem_of_getElem? (i := 136) (by decide +kernel))))) (by decide +kernel)
theorem m_617 : (Jvm.Cond.instanceMethod ({ cls := "RuleClasses", name := "shadow", desc := "(III)V" } : Jvm.MethodName)) ∈ TBL := mT (List.mem_append_right _ (List.mem_append_right _ (List.mem_append_left _ (List.mem_of_getElem? (i := 137) (by decide +kernel))))) (by decide +kernel)
theorem m_618 : (Jvm.Cond.selects "RuleClasses" ({ cls := "RuleClasses", name := "shadow", desc := "(III)V" } : Jvm.MethodName) ({ cls := "RuleClasses", name := "shadow", desc := "(III)V" } : Jvm.MethodName)) ∈ TBL := mT (List.mem_append_right _ (List.mem_append_right _ (List.mem_append_left _ (List.mem_of_getElem? (i := 138) (by decide +kernel))))) (by decide +kernel)
theorem m_619 : (Jvm.Cond.code ({ cls := "RuleClasses", name := "shadow", desc := "(III)V" } : Jvm.MethodName) prog_1_method_16_code (4 : Nat) (Option.none : Option Jvm.ClassFile.FieldType)) ∈ TBL := mT (List.mem_append_right _ (List.mem_append_right _ (List.mem_append_left _ (List.mem_of_getElem? (i := 139) (by decide +kernel))))) (by decide +kernel)
theorem m_620 : (Jvm.Cond.methodLink "RuleClassesLaw" (147 : Nat) ({ cls := "RuleClassesLaw", name := "otherwise", desc := "(LRuleClasses;II[J)I" } : Jvm.MethodName)) ∈ TBL := mT (List.mem_append_right _ (List.mem_append_right _ (List.mem_append_left _ (List.mem_of_getElem? (i := 140) (by decide +kernel))))) (by decide +kernel)
theorem m_621 : (Jvm.Cond.static ({ cls := "RuleClassesLaw", name := "otherwise", desc := "(LRuleClasses;II[J)I" } : Jvm.MethodName)) ∈ TBL := mT (List.mem_append_right _ (List.mem_append_right _ (List.mem_append_left _ (List.mem_of_getElem? (i := 141) (by decide +kernel))))) (by decide +kernel)
theorem m_622 : (Jvm.Cond.codeWith ({ cls := "RuleClassesLaw", name := "otherwise", desc := "(LRuleClasses;II[J)I" } : Jvm.MethodName) method_18_code (5 : Nat) (Option.some Jvm.ClassFile.FieldType.int) [((0 : Nat), (10 : Nat), (13 : Nat), (13 : Nat))]) ∈ TBL := mT (List.mem_append_right _ (List.mem_append_right _ (List.mem_append_left _ (List.mem_of_getElem? (i := 142) (by decide +kernel))))) (by decide +kernel)
theorem m_623 : (Jvm.Cond.methodLink "RuleClassesLaw" (70 : Nat) ({ cls := "RuleClasses", name := "otherwise", desc := "(II)I" } : Jvm.MethodName)) ∈ TBL := mT (List.mem_append_right _ (List.mem_append_right _ (List.mem_append_left _ (List.mem_of_getElem? (i := 143) (by decide +kernel))))) (by decide +kernel)
theorem m_624 : (Jvm.Cond.instanceMethod ({ cls := "RuleClasses", name := "otherwise", desc := "(II)I" } : Jvm.MethodName)) ∈ TBL := mT (List.mem_append_right _ (List.mem_append_right _ (List.mem_append_left _ (List.mem_of_getElem? (i := 144) (by decide +kernel))))) (by decide +kernel)
theorem m_625 : (Jvm.Cond.selects "RuleClasses" ({ cls := "RuleClasses", name := "otherwise", desc := "(II)I" } : Jvm.MethodName) ({ cls := "RuleClasses", name := "otherwise", desc := "(II)I" } : Jvm.MethodName)) ∈ TBL := mT (List.mem_append_right _ (List.mem_append_right _ (List.mem_append_left _ (List.mem_of_getElem? (i := 145) (by decide +kernel))))) (by decide +kernel)
theorem m_626 : (Jvm.Cond.code ({ cls := "RuleClasses", name := "otherwise", desc := "(II)I" } : Jvm.MethodName) prog_1_method_17_code (3 : Nat) (Option.some Jvm.ClassFile.FieldType.int)) ∈ TBL := mT (List.mem_append_right _ (List.mem_append_right _ (List.mem_append_left _ (List.mem_of_getElem? (i := 146) (by decide +kernel))))) (by decide +kernel)
theorem m_627 : (Jvm.Cond.methodLink "RuleClassesLaw" (150 : Nat) ({ cls := "RuleClassesLaw", name := "divide", desc := "(LRuleClasses;II[J)I" } : Jvm.MethodName)) ∈ TBL := mT (List.mem_append_right _ (List.mem_append_right _ (List.mem_append_left _ (List.mem_of_getElem? (i := 147) (by decide +kernel))))) (by decide +kernel)
theorem m_628 : (Jvm.Cond.static ({ cls := "RuleClassesLaw", name := "divide", desc := "(LRuleClasses;II[J)I" } : Jvm.MethodName)) ∈ TBL := mT (List.mem_append_right _ (List.mem_append_right _ (List.mem_append_left _ (List.mem_of_getElem? (i := 148) (by decide +kernel))))) (by decide +kernel)
theorem m_629 : (Jvm.Cond.codeWith ({ cls := "RuleClassesLaw", name := "divide", desc := "(LRuleClasses;II[J)I" } : Jvm.MethodName) method_19_code (5 : Nat) (Option.some Jvm.ClassFile.FieldType.int) [((0 : Nat), (10 : Nat), (13 : Nat), (76 : Nat))]) ∈ TBL := mT (List.mem_append_right _ (List.mem_append_right _ (List.mem_append_left _ (List.mem_of_getElem? (i := 149) (by decide +kernel))))) (by decide +kernel)
theorem m_630 : (Jvm.Cond.classLink "RuleClassesLaw" (76 : Nat) "java/lang/ArithmeticException") ∈ TBL := mT (List.mem_append_right _ (List.mem_append_right _ (List.mem_append_left _ (List.mem_of_getElem? (i := 150) (by decide +kernel))))) (by decide +kernel)
theorem m_631 : (Jvm.Cond.methodLink "RuleClassesLaw" (73 : Nat) ({ cls := "RuleClasses", name := "divide", desc := "(II)I" } : Jvm.MethodName)) ∈ TBL := mT (List.mem_append_right _ (List.mem_append_right _ (List.mem_append_left _ (List.mem_of_getElem? (i := 151) (by decide +kernel))))) (by decide +kernel)
theorem m_632 : (Jvm.Cond.instanceMethod ({ cls := "RuleClasses", name := "divide", desc := "(II)I" } : Jvm.MethodName)) ∈ TBL := mT (List.mem_append_right _ (List.mem_append_right _ (List.mem_append_left _ (List.mem_of_getElem? (i := 152) (by decide +kernel))))) (by decide +kernel)
theorem m_633 : (Jvm.Cond.selects "RuleClasses" ({ cls := "RuleClasses", name := "divide", desc := "(II)I" } : Jvm.MethodName) ({ cls := "RuleClasses", name := "divide", desc := "(II)I" } : Jvm.MethodName)) ∈ TBL := mT (List.mem_append_right _ (List.mem_append_right _ (List.mem_append_left _ (List.mem_of_getElem? (i := 153) (by decide +kernel))))) (by decide +kernel)
theorem m_634 : (Jvm.Cond.code ({ cls := "RuleClasses", name := "divide", desc := "(II)I" } : Jvm.MethodName) prog_1_method_18_code (3 : Nat) (Option.some Jvm.ClassFile.FieldType.int)) ∈ TBL := mT (List.mem_append_right _ (List.mem_append_right _ (List.mem_append_left _ (List.mem_of_getElem? (i := 154) (by decide +kernel))))) (by decide +kernel)
theorem m_635 : (Jvm.Cond.classLink "RuleClasses" (199 : Nat) "java/lang/ArithmeticException") ∈ TBL := mT (List.mem_append_right _ (List.mem_append_right _ (List.mem_append_left _ (List.mem_of_getElem? (i := 155) (by decide +kernel))))) (by decide +kernel)
theorem m_636 : (Jvm.Cond.instantiable "java/lang/ArithmeticException" (6 : Nat)) ∈ TBL := mT (List.mem_append_right _ (List.mem_append_right _ (List.mem_append_left _ (List.mem_of_getElem? (i := 156) (by decide +kernel))))) (by decide +kernel)
theorem m_638 : (Jvm.Cond.selects "java/lang/ArithmeticException" ({ cls := "java/lang/Throwable", name := "fillInStackTrace", desc := "(I)Ljava/lang/Throwable;" } : Jvm.MethodName) ({ cls := "java/lang/Throwable", name := "fillInStackTrace", desc := "(I)Ljava/lang/Throwable;" } : Jvm.MethodName)) ∈ TBL := mT (List.mem_append_right _ (List.mem_append_right _ (List.mem_append_left _ (List.mem_of_getElem? (i := 158) (by decide +kernel))))) (by decide +kernel)
theorem m_639 : (Jvm.Cond.lays "java/lang/ArithmeticException" "java/lang/Throwable" "cause" "Ljava/lang/Throwable;") ∈ TBL := mT (List.mem_append_right _ (List.mem_append_right _ (List.mem_append_left _ (List.mem_of_getElem? (i := 159) (by decide +kernel))))) (by decide +kernel)
theorem m_640 : (Jvm.Cond.lays "java/lang/ArithmeticException" "java/lang/Throwable" "stackTrace" "[Ljava/lang/StackTraceElement;") ∈ TBL := mT (List.mem_append_right _ (List.mem_append_right _ (List.mem_append_left _ (List.mem_of_getElem? (i := 160) (by decide +kernel))))) (by decide +kernel)
theorem m_641 : (Jvm.Cond.lays "java/lang/ArithmeticException" "java/lang/Throwable" "suppressedExceptions" "Ljava/util/List;") ∈ TBL := mT (List.mem_append_right _ (List.mem_append_right _ (List.mem_append_left _ (List.mem_of_getElem? (i := 161) (by decide +kernel))))) (by decide +kernel)
theorem m_642 : (Jvm.Cond.lays "java/lang/ArithmeticException" "java/lang/Throwable" "detailMessage" "Ljava/lang/String;") ∈ TBL := mT (List.mem_append_right _ (List.mem_append_right _ (List.mem_append_left _ (List.mem_of_getElem? (i := 162) (by decide +kernel))))) (by decide +kernel)
theorem m_643 : (Jvm.Cond.lays "java/lang/ArithmeticException" "java/lang/Throwable" "backtrace" "Ljava/lang/Object;") ∈ TBL := mT (List.mem_append_right _ (List.mem_append_right _ (List.mem_append_left _ (List.mem_of_getElem? (i := 163) (by decide +kernel))))) (by decide +kernel)
theorem m_645 : (Jvm.Cond.methodLink "RuleClasses" (203 : Nat) ({ cls := "java/lang/ArithmeticException", name := "<init>", desc := "(Ljava/lang/String;)V" } : Jvm.MethodName)) ∈ TBL := mT (List.mem_append_right _ (List.mem_append_right _ (List.mem_append_left _ (List.mem_of_getElem? (i := 165) (by decide +kernel))))) (by decide +kernel)
theorem m_646 : (Jvm.Cond.instanceMethod ({ cls := "java/lang/ArithmeticException", name := "<init>", desc := "(Ljava/lang/String;)V" } : Jvm.MethodName)) ∈ TBL := mT (List.mem_append_right _ (List.mem_append_right _ (List.mem_append_left _ (List.mem_of_getElem? (i := 166) (by decide +kernel))))) (by decide +kernel)
theorem m_647 : (Jvm.Cond.code ({ cls := "java/lang/ArithmeticException", name := "<init>", desc := "(Ljava/lang/String;)V" } : Jvm.MethodName) prog_8_method_2_code (2 : Nat) (Option.none : Option Jvm.ClassFile.FieldType)) ∈ TBL := mT (List.mem_append_right _ (List.mem_append_right _ (List.mem_append_left _ (List.mem_of_getElem? (i := 167) (by decide +kernel))))) (by decide +kernel)
theorem m_648 : (Jvm.Cond.methodLink "java/lang/ArithmeticException" (7 : Nat) ({ cls := "java/lang/RuntimeException", name := "<init>", desc := "(Ljava/lang/String;)V" } : Jvm.MethodName)) ∈ TBL := mT (List.mem_append_right _ (List.mem_append_right _ (List.mem_append_left _ (List.mem_of_getElem? (i := 168) (by decide +kernel))))) (by decide +kernel)
theorem m_649 : (Jvm.Cond.lays "java/lang/ArithmeticException" "java/lang/Throwable" "depth" "I") ∈ TBL := mT (List.mem_append_right _ (List.mem_append_right _ (List.mem_append_left _ (List.mem_of_getElem? (i := 169) (by decide +kernel))))) (by decide +kernel)
theorem m_651 : (Jvm.Cond.methodLink "RuleClassesLaw" (153 : Nat) ({ cls := "RuleClassesLaw", name := "told", desc := "(LRuleClasses;II[J)I" } : Jvm.MethodName)) ∈ TBL := mT (List.mem_append_right _ (List.mem_append_right _ (List.mem_append_left _ (List.mem_of_getElem? (i := 171) (by decide +kernel))))) (by decide +kernel)
theorem m_652 : (Jvm.Cond.static ({ cls := "RuleClassesLaw", name := "told", desc := "(LRuleClasses;II[J)I" } : Jvm.MethodName)) ∈ TBL := mT (List.mem_append_right _ (List.mem_append_right _ (List.mem_append_left _ (List.mem_of_getElem? (i := 172) (by decide +kernel))))) (by decide +kernel)
theorem m_653 : (Jvm.Cond.codeWith ({ cls := "RuleClassesLaw", name := "told", desc := "(LRuleClasses;II[J)I" } : Jvm.MethodName) method_20_code (5 : Nat) (Option.some Jvm.ClassFile.FieldType.int) [((0 : Nat), (10 : Nat), (13 : Nat), (24 : Nat)), ((0 : Nat), (10 : Nat), (17 : Nat), (13 : Nat))]) ∈ TBL := mT (List.mem_append_right _ (List.mem_append_right _ (List.mem_append_left _ (List.mem_of_getElem? (i := 173) (by decide +kernel))))) (by decide +kernel)
theorem m_654 : (Jvm.Cond.methodLink "RuleClassesLaw" (78 : Nat) ({ cls := "RuleClasses", name := "told", desc := "(II)I" } : Jvm.MethodName)) ∈ TBL := mT (List.mem_append_right _ (List.mem_append_right _ (List.mem_append_left _ (List.mem_of_getElem? (i := 174) (by decide +kernel))))) (by decide +kernel)
theorem m_655 : (Jvm.Cond.instanceMethod ({ cls := "RuleClasses", name := "told", desc := "(II)I" } : Jvm.MethodName)) ∈ TBL := mT (List.mem_append_right _ (List.mem_append_right _ (List.mem_append_left _ (List.mem_of_getElem? (i := 175) (by decide +kernel))))) (by decide +kernel)
theorem m_656 : (Jvm.Cond.selects "RuleClasses" ({ cls := "RuleClasses", name := "told", desc := "(II)I" } : Jvm.MethodName) ({ cls := "RuleClasses", name := "told", desc := "(II)I" } : Jvm.MethodName)) ∈ TBL := mT (List.mem_append_right _ (List.mem_append_right _ (List.mem_append_left _ (List.mem_of_getElem? (i := 176) (by decide +kernel))))) (by decide +kernel)
theorem m_657 : (Jvm.Cond.code ({ cls := "RuleClasses", name := "told", desc := "(II)I" } : Jvm.MethodName) prog_1_method_19_code (4 : Nat) (Option.some Jvm.ClassFile.FieldType.int)) ∈ TBL := mT (List.mem_append_right _ (List.mem_append_right _ (List.mem_append_left _ (List.mem_of_getElem? (i := 177) (by decide +kernel))))) (by decide +kernel)
theorem m_658 : (Jvm.Cond.methodLink "RuleClasses" (204 : Nat) ({ cls := "RuleClasses$Edition", name := "tell", desc := "(I)I" } : Jvm.MethodName)) ∈ TBL := mT (List.mem_append_right _ (List.mem_append_right _ (List.mem_append_left _ (List.mem_of_getElem? (i := 178) (by decide +kernel))))) (by decide +kernel)
theorem m_659 : (Jvm.Cond.instanceMethod ({ cls := "RuleClasses$Edition", name := "tell", desc := "(I)I" } : Jvm.MethodName)) ∈ TBL := mT (List.mem_append_right _ (List.mem_append_right _ (List.mem_append_left _ (List.mem_of_getElem? (i := 179) (by decide +kernel))))) (by decide +kernel)
theorem m_660 : (Jvm.Cond.selects "RuleClasses$Edition" ({ cls := "RuleClasses$Edition", name := "tell", desc := "(I)I" } : Jvm.MethodName) ({ cls := "RuleClasses$Edition", name := "tell", desc := "(I)I" } : Jvm.MethodName)) ∈ TBL := mT (List.mem_append_right _ (List.mem_append_right _ (List.mem_append_left _ (List.mem_of_getElem? (i := 180) (by decide +kernel))))) (by decide +kernel)
theorem m_661 : (Jvm.Cond.code ({ cls := "RuleClasses$Edition", name := "tell", desc := "(I)I" } : Jvm.MethodName) prog_2_method_6_code (2 : Nat) (Option.some Jvm.ClassFile.FieldType.int)) ∈ TBL := mT (List.mem_append_right _ (List.mem_append_right _ (List.mem_append_left _ (List.mem_of_getElem? (i := 181) (by decide +kernel))))) (by decide +kernel)
theorem m_662 : (Jvm.Cond.classLink "RuleClassesLaw" (89 : Nat) "RuleClassesModel") ∈ TBL := mT (List.mem_append_right _ (List.mem_append_right _ (List.mem_append_left _ (List.mem_of_getElem? (i := 182) (by decide +kernel))))) (by decide +kernel)
theorem m_663 : (Jvm.Cond.instantiable "RuleClassesModel" (30 : Nat)) ∈ TBL := mT (List.mem_append_right _ (List.mem_append_right _ (List.mem_append_left _ (List.mem_of_getElem? (i := 183) (by decide +kernel))))) (by decide +kernel)
theorem m_664 : (Jvm.Cond.methodLink "RuleClassesLaw" (91 : Nat) ({ cls := "RuleClassesModel", name := "<init>", desc := "(I)V" } : Jvm.MethodName)) ∈ TBL := mT (List.mem_append_right _ (List.mem_append_right _ (List.mem_append_left _ (List.mem_of_getElem? (i := 184) (by decide +kernel))))) (by decide +kernel)
theorem m_665 : (Jvm.Cond.instanceMethod ({ cls := "RuleClassesModel", name := "<init>", desc := "(I)V" } : Jvm.MethodName)) ∈ TBL := mT (List.mem_append_right _ (List.mem_append_right _ (List.mem_append_left _ (List.mem_of_getElem? (i := 185) (by decide +kernel))))) (by decide +kernel)
theorem m_666 : (Jvm.Cond.code ({ cls := "RuleClassesModel", name := "<init>", desc := "(I)V" } : Jvm.MethodName) prog_6_method_1_code (2 : Nat) (Option.none : Option Jvm.ClassFile.FieldType)) ∈ TBL := mT (List.mem_append_right _ (List.mem_append_right _ (List.mem_append_left _ (List.mem_of_getElem? (i := 186) (by decide +kernel))))) (by decide +kernel)
theorem m_667 : (Jvm.Cond.methodLink "RuleClassesModel" (1 : Nat) ({ cls := "java/lang/Object", name := "<init>", desc := "()V" } : Jvm.MethodName)) ∈ TBL := mT (List.mem_append_right _ (List.mem_append_right _ (List.mem_append_left _ (List.mem_of_getElem? (i := 187) (by decide +kernel))))) (by decide +kernel)
theorem m_668 : (Jvm.Cond.fieldLink "RuleClassesModel" (70 : Nat) "RuleClassesModel" "most" "I") ∈ TBL := mT (List.mem_append_right _ (List.mem_append_right _ (List.mem_append_left _ (List.mem_of_getElem? (i := 188) (by decide +kernel))))) (by decide +kernel)
theorem m_669 : (Jvm.Cond.fieldLink "RuleClassesModel" (76 : Nat) "RuleClassesModel" "editions" "I") ∈ TBL := mT (List.mem_append_right _ (List.mem_append_right _ (List.mem_append_left _ (List.mem_of_getElem? (i := 189) (by decide +kernel))))) (by decide +kernel)
theorem m_670 : (Jvm.Cond.fieldLink "RuleClassesModel" (83 : Nat) "RuleClassesModel" "day" "I") ∈ TBL := mT (List.mem_append_right _ (List.mem_append_right _ (List.mem_append_left _ (List.mem_of_getElem? (i := 190) (by decide +kernel))))) (by decide +kernel)
theorem m_671 : (Jvm.Cond.fieldLink "RuleClassesModel" (73 : Nat) "RuleClassesModel" "thrown" "I") ∈ TBL := mT (List.mem_append_right _ (List.mem_append_right _ (List.mem_append_left _ (List.mem_of_getElem? (i := 191) (by decide +kernel))))) (by decide +kernel)
theorem m_672 : (Jvm.Cond.fieldLink "RuleClassesModel" (131 : Nat) "RuleClassesModel" "questions" "I") ∈ TBL := mT (List.mem_append_right _ (List.mem_append_right _ (List.mem_append_left _ (List.mem_of_getElem? (i := 192) (by decide +kernel))))) (by decide +kernel)
theorem m_673 : (Jvm.Cond.fieldLink "RuleClassesModel" (144 : Nat) "RuleClassesModel" "kept" "I") ∈ TBL := mT (List.mem_append_right _ (List.mem_append_right _ (List.mem_append_left _ (List.mem_of_getElem? (i := 193) (by decide +kernel))))) (by decide +kernel)
theorem m_674 : (Jvm.Cond.fieldLink "RuleClassesModel" (141 : Nat) "RuleClassesModel" "handles" "I") ∈ TBL := mT (List.mem_append_right _ (List.mem_append_right _ (List.mem_append_left _ (List.mem_of_getElem? (i := 194) (by decide +kernel))))) (by decide +kernel)
theorem m_675 : (Jvm.Cond.fieldLink "RuleClassesModel" (9 : Nat) "RuleClassesModel" "handled" "I") ∈ TBL := mT (List.mem_append_right _ (List.mem_append_right _ (List.mem_append_left _ (List.mem_of_getElem? (i := 195) (by decide +kernel))))) (by decide +kernel)
theorem m_676 : (Jvm.Cond.fieldLink "RuleClassesModel" (13 : Nat) "RuleClassesModel" "owner" "[I") ∈ TBL := mT (List.mem_append_right _ (List.mem_append_right _ (List.mem_append_left _ (List.mem_of_getElem? (i := 196) (by decide +kernel))))) (by decide +kernel)
theorem m_677 : (Jvm.Cond.fieldLink "RuleClassesModel" (17 : Nat) "RuleClassesModel" "kind" "[I") ∈ TBL := mT (List.mem_append_right _ (List.mem_append_right _ (List.mem_append_left _ (List.mem_of_getElem? (i := 197) (by decide +kernel))))) (by decide +kernel)
theorem m_678 : (Jvm.Cond.fieldLink "RuleClassesModel" (20 : Nat) "RuleClassesModel" "from" "[I") ∈ TBL := mT (List.mem_append_right _ (List.mem_append_right _ (List.mem_append_left _ (List.mem_of_getElem? (i := 198) (by decide +kernel))))) (by decide +kernel)
theorem m_679 : (Jvm.Cond.fieldLink "RuleClassesModel" (23 : Nat) "RuleClassesModel" "made" "[Z") ∈ TBL := mT (List.mem_append_right _ (List.mem_append_right _ (List.mem_append_left _ (List.mem_of_getElem? (i := 199) (by decide +kernel))))) (by decide +kernel)
theorem m_680 : (Jvm.Cond.fieldLink "RuleClassesModel" (27 : Nat) "RuleClassesModel" "asked" "[I") ∈ TBL := mT (List.mem_append_right _ (List.mem_append_right _ (List.mem_append_left _ (List.mem_of_getElem? (i := 200) (by decide +kernel))))) (by decide +kernel)
theorem m_681 : (Jvm.Cond.fieldLink "RuleClassesModel" (30 : Nat) "RuleClassesModel" "stepsOf" "[I") ∈ TBL := mT (List.mem_append_right _ (List.mem_append_right _ (List.mem_append_left _ (List.mem_of_getElem? (i := 201) (by decide +kernel))))) (by decide +kernel)
theorem m_682 : (Jvm.Cond.fieldLink "RuleClassesModel" (33 : Nat) "RuleClassesModel" "fails" "[I") ∈ TBL := mT (List.mem_append_right _ (List.mem_append_right _ (List.mem_append_left _ (List.mem_of_getElem? (i := 202) (by decide +kernel))))) (by decide +kernel)
theorem m_683 : (Jvm.Cond.fieldLink "RuleClassesModel" (36 : Nat) "RuleClassesModel" "many" "[I") ∈ TBL := mT (List.mem_append_right _ (List.mem_append_right _ (List.mem_append_left _ (List.mem_of_getElem? (i := 203) (by decide +kernel))))) (by decide +kernel)
theorem m_684 : (Jvm.Cond.fieldLink "RuleClassesModel" (39 : Nat) "RuleClassesModel" "ops" "[I") ∈ TBL := mT (List.mem_append_right _ (List.mem_append_right _ (List.mem_append_left _ (List.mem_of_getElem? (i := 204) (by decide +kernel))))) (by decide +kernel)
theorem m_685 : (Jvm.Cond.fieldLink "RuleClassesModel" (42 : Nat) "RuleClassesModel" "constants" "[I") ∈ TBL := mT (List.mem_append_right _ (List.mem_append_right _ (List.mem_append_left _ (List.mem_of_getElem? (i := 205) (by decide +kernel))))) (by decide +kernel)
theorem m_686 : (Jvm.Cond.fieldLink "RuleClassesModel" (45 : Nat) "RuleClassesModel" "facts" "[I") ∈ TBL := mT (List.mem_append_right _ (List.mem_append_right _ (List.mem_append_left _ (List.mem_of_getElem? (i := 206) (by decide +kernel))))) (by decide +kernel)
theorem m_687 : (Jvm.Cond.fieldLink "RuleClassesModel" (48 : Nat) "RuleClassesModel" "keptFacts" "[I") ∈ TBL := mT (List.mem_append_right _ (List.mem_append_right _ (List.mem_append_left _ (List.mem_of_getElem? (i := 207) (by decide +kernel))))) (by decide +kernel)
theorem m_688 : (Jvm.Cond.fieldLink "RuleClassesModel" (51 : Nat) "RuleClassesModel" "fallbacks" "[I") ∈ TBL := mT (List.mem_append_right _ (List.mem_append_right _ (List.mem_append_left _ (List.mem_of_getElem? (i := 208) (by decide +kernel))))) (by decide +kernel)
theorem m_689 : (Jvm.Cond.fieldLink "RuleClassesModel" (54 : Nat) "RuleClassesModel" "failures" "[I") ∈ TBL := mT (List.mem_append_right _ (List.mem_append_right _ (List.mem_append_left _ (List.mem_of_getElem? (i := 209) (by decide +kernel))))) (by decide +kernel)
theorem m_690 : (Jvm.Cond.fieldLink "RuleClassesModel" (57 : Nat) "RuleClassesModel" "shadows" "[I") ∈ TBL := mT (List.mem_append_right _ (List.mem_append_right _ (List.mem_append_left _ (List.mem_of_getElem? (i := 210) (by decide +kernel))))) (by decide +kernel)
theorem m_691 : (Jvm.Cond.fieldLink "RuleClassesModel" (60 : Nat) "RuleClassesModel" "others" "[I") ∈ TBL := mT (List.mem_append_right _ (List.mem_append_right _ (List.mem_append_left _ (List.mem_of_getElem? (i := 211) (by decide +kernel))))) (by decide +kernel)
theorem m_692 : (Jvm.Cond.fieldLink "RuleClassesModel" (63 : Nat) "RuleClassesModel" "stack" "[J") ∈ TBL := mT (List.mem_append_right _ (List.mem_append_right _ (List.mem_append_left _ (List.mem_of_getElem? (i := 212) (by decide +kernel))))) (by decide +kernel)
theorem m_693 : (Jvm.Cond.fieldLink "RuleClassesModel" (103 : Nat) "RuleClassesModel" "put" "I") ∈ TBL := mT (List.mem_append_right _ (List.mem_append_right _ (List.mem_append_left _ (List.mem_of_getElem? (i := 213) (by decide +kernel))))) (by decide +kernel)
theorem m_694 : (Jvm.Cond.fieldLink "RuleClassesModel" (97 : Nat) "RuleClassesModel" "steps" "I") ∈ TBL := mT (List.mem_append_right _ (List.mem_append_right _ (List.mem_append_left _ (List.mem_of_getElem? (i := 214) (by decide +kernel))))) (by decide +kernel)
theorem m_695 : (Jvm.Cond.fieldLink "RuleClassesModel" (100 : Nat) "RuleClassesModel" "next" "I") ∈ TBL := mT (List.mem_append_right _ (List.mem_append_right _ (List.mem_append_left _ (List.mem_of_getElem? (i := 215) (by decide +kernel))))) (by decide +kernel)
theorem m_696 : (Jvm.Cond.fieldLink "RuleClassesModel" (110 : Nat) "RuleClassesModel" "answer" "J") ∈ TBL := mT (List.mem_append_right _ (List.mem_append_right _ (List.mem_append_left _ (List.mem_of_getElem? (i := 216) (by decide +kernel))))) (by decide +kernel)
theorem m_697 : (Jvm.Cond.fieldLink "RuleClassesModel" (67 : Nat) "RuleClassesModel" "given" "[I") ∈ TBL := mT (List.mem_append_right _ (List.mem_append_right _ (List.mem_append_left _ (List.mem_of_getElem? (i := 217) (by decide +kernel))))) (by decide +kernel)
theorem m_698 : (Jvm.Cond.laysFinal "RuleClassesModel" "RuleClassesModel" "most" "I") ∈ TBL := mT (List.mem_append_right _ (List.mem_append_right _ (List.mem_append_left _ (List.mem_of_getElem? (i := 218) (by decide +kernel))))) (by decide +kernel)
theorem m_700 : (Jvm.Cond.lays "RuleClassesModel" "RuleClassesModel" "editions" "I") ∈ TBL := mT (List.mem_append_right _ (List.mem_append_right _ (List.mem_append_left _ (List.mem_of_getElem? (i := 220) (by decide +kernel))))) (by decide +kernel)
theorem m_702 : (Jvm.Cond.lays "RuleClassesModel" "RuleClassesModel" "day" "I") ∈ TBL := mT (List.mem_append_right _ (List.mem_append_right _ (List.mem_append_left _ (List.mem_of_getElem? (i := 222) (by decide +kernel))))) (by decide +kernel)
theorem m_704 : (Jvm.Cond.lays "RuleClassesModel" "RuleClassesModel" "thrown" "I") ∈ TBL := mT (List.mem_append_right _ (List.mem_append_right _ (List.mem_append_left _ (List.mem_of_getElem? (i := 224) (by decide +kernel))))) (by decide +kernel)
theorem m_706 : (Jvm.Cond.lays "RuleClassesModel" "RuleClassesModel" "questions" "I") ∈ TBL := mT (List.mem_append_right _ (List.mem_append_right _ (List.mem_append_left _ (List.mem_of_getElem? (i := 226) (by decide +kernel))))) (by decide +kernel)
theorem m_708 : (Jvm.Cond.lays "RuleClassesModel" "RuleClassesModel" "kept" "I") ∈ TBL := mT (List.mem_append_right _ (List.mem_append_right _ (List.mem_append_left _ (List.mem_of_getElem? (i := 228) (by decide +kernel))))) (by decide +kernel)
theorem m_710 : (Jvm.Cond.lays "RuleClassesModel" "RuleClassesModel" "handles" "I") ∈ TBL := mT (List.mem_append_right _ (List.mem_append_right _ (List.mem_append_left _ (List.mem_of_getElem? (i := 230) (by decide +kernel))))) (by decide +kernel)
theorem m_712 : (Jvm.Cond.lays "RuleClassesModel" "RuleClassesModel" "handled" "I") ∈ TBL := mT (List.mem_append_right _ (List.mem_append_right _ (List.mem_append_left _ (List.mem_of_getElem? (i := 232) (by decide +kernel))))) (by decide +kernel)
theorem m_714 : (Jvm.Cond.laysFinal "RuleClassesModel" "RuleClassesModel" "owner" "[I") ∈ TBL := mT (List.mem_append_right _ (List.mem_append_right _ (List.mem_append_left _ (List.mem_of_getElem? (i := 234) (by decide +kernel))))) (by decide +kernel)
theorem m_716 : (Jvm.Cond.laysFinal "RuleClassesModel" "RuleClassesModel" "kind" "[I") ∈ TBL := mT (List.mem_append_right _ (List.mem_append_right _ (List.mem_append_left _ (List.mem_of_getElem? (i := 236) (by decide +kernel))))) (by decide +kernel)
theorem m_718 : (Jvm.Cond.laysFinal "RuleClassesModel" "RuleClassesModel" "from" "[I") ∈ TBL := mT (List.mem_append_right _ (List.mem_append_right _ (List.mem_append_left _ (List.mem_of_getElem? (i := 238) (by decide +kernel))))) (by decide +kernel)
theorem m_720 : (Jvm.Cond.laysFinal "RuleClassesModel" "RuleClassesModel" "made" "[Z") ∈ TBL := mT (List.mem_append_right _ (List.mem_append_right _ (List.mem_append_right _ (List.mem_of_getElem? (i := 0) (by decide +kernel))))) (by decide +kernel)
theorem m_722 : (Jvm.Cond.laysFinal "RuleClassesModel" "RuleClassesModel" "asked" "[I") ∈ TBL := mT (List.mem_append_right _ (List.mem_append_right _ (List.mem_append_right _ (List.mem_of_getElem? (i := 2) (by decide +kernel))))) (by decide +kernel)
theorem m_724 : (Jvm.Cond.laysFinal "RuleClassesModel" "RuleClassesModel" "stepsOf" "[I") ∈ TBL := mT (List.mem_append_right _ (List.mem_append_right _ (List.mem_append_right _ (List.mem_of_getElem? (i := 4) (by decide +kernel))))) (by decide +kernel)
theorem m_726 : (Jvm.Cond.laysFinal "RuleClassesModel" "RuleClassesModel" "fails" "[I") ∈ TBL := mT (List.mem_append_right _ (List.mem_append_right _ (List.mem_append_right _ (List.mem_of_getElem? (i := 6) (by decide +kernel))))) (by decide +kernel)
theorem m_728 : (Jvm.Cond.laysFinal "RuleClassesModel" "RuleClassesModel" "many" "[I") ∈ TBL := mT (List.mem_append_right _ (List.mem_append_right _ (List.mem_append_right _ (List.mem_of_getElem? (i := 8) (by decide +kernel))))) (by decide +kernel)
theorem m_730 : (Jvm.Cond.laysFinal "RuleClassesModel" "RuleClassesModel" "ops" "[I") ∈ TBL := mT (List.mem_append_right _ (List.mem_append_right _ (List.mem_append_right _ (List.mem_of_getElem? (i := 10) (by decide +kernel))))) (by decide +kernel)
theorem m_732 : (Jvm.Cond.laysFinal "RuleClassesModel" "RuleClassesModel" "constants" "[I") ∈ TBL := mT (List.mem_append_right _ (List.mem_append_right _ (List.mem_append_right _ (List.mem_of_getElem? (i := 12) (by decide +kernel))))) (by decide +kernel)
theorem m_734 : (Jvm.Cond.laysFinal "RuleClassesModel" "RuleClassesModel" "facts" "[I") ∈ TBL := mT (List.mem_append_right _ (List.mem_append_right _ (List.mem_append_right _ (List.mem_of_getElem? (i := 14) (by decide +kernel))))) (by decide +kernel)
theorem m_736 : (Jvm.Cond.laysFinal "RuleClassesModel" "RuleClassesModel" "keptFacts" "[I") ∈ TBL := mT (List.mem_append_right _ (List.mem_append_right _ (List.mem_append_right _ (List.mem_of_getElem? (i := 16) (by decide +kernel))))) (by decide +kernel)
theorem m_738 : (Jvm.Cond.laysFinal "RuleClassesModel" "RuleClassesModel" "fallbacks" "[I") ∈ TBL := mT (List.mem_append_right _ (List.mem_append_right _ (List.mem_append_right _ (List.mem_of_getElem? (i := 18) (by decide +kernel))))) (by decide +kernel)
theorem m_740 : (Jvm.Cond.laysFinal "RuleClassesModel" "RuleClassesModel" "failures" "[I") ∈ TBL := mT (List.mem_append_right _ (List.mem_append_right _ (List.mem_append_right _ (List.mem_of_getElem? (i := 20) (by decide +kernel))))) (by decide +kernel)
theorem m_742 : (Jvm.Cond.laysFinal "RuleClassesModel" "RuleClassesModel" "shadows" "[I") ∈ TBL := mT (List.mem_append_right _ (List.mem_append_right _ (List.mem_append_right _ (List.mem_of_getElem? (i := 22) (by decide +kernel))))) (by decide +kernel)
theorem m_744 : (Jvm.Cond.laysFinal "RuleClassesModel" "RuleClassesModel" "others" "[I") ∈ TBL := mT (List.mem_append_right _ (List.mem_append_right _ (List.mem_append_right _ (List.mem_of_getElem? (i := 24) (by decide +kernel))))) (by decide +kernel)
theorem m_746 : (Jvm.Cond.laysFinal "RuleClassesModel" "RuleClassesModel" "stack" "[J") ∈ TBL := mT (List.mem_append_right _ (List.mem_append_right _ (List.mem_append_right _ (List.mem_of_getElem? (i := 26) (by decide +kernel))))) (by decide +kernel)
theorem m_748 : (Jvm.Cond.lays "RuleClassesModel" "RuleClassesModel" "put" "I") ∈ TBL := mT (List.mem_append_right _ (List.mem_append_right _ (List.mem_append_right _ (List.mem_of_getElem? (i := 28) (by decide +kernel))))) (by decide +kernel)
theorem m_750 : (Jvm.Cond.lays "RuleClassesModel" "RuleClassesModel" "steps" "I") ∈ TBL := mT (List.mem_append_right _ (List.mem_append_right _ (List.mem_append_right _ (List.mem_of_getElem? (i := 30) (by decide +kernel))))) (by decide +kernel)
theorem m_752 : (Jvm.Cond.lays "RuleClassesModel" "RuleClassesModel" "next" "I") ∈ TBL := mT (List.mem_append_right _ (List.mem_append_right _ (List.mem_append_right _ (List.mem_of_getElem? (i := 32) (by decide +kernel))))) (by decide +kernel)
theorem m_754 : (Jvm.Cond.lays "RuleClassesModel" "RuleClassesModel" "answer" "J") ∈ TBL := mT (List.mem_append_right _ (List.mem_append_right _ (List.mem_append_right _ (List.mem_of_getElem? (i := 34) (by decide +kernel))))) (by decide +kernel)
theorem m_756 : (Jvm.Cond.laysFinal "RuleClassesModel" "RuleClassesModel" "given" "[I") ∈ TBL := mT (List.mem_append_right _ (List.mem_append_right _ (List.mem_append_right _ (List.mem_of_getElem? (i := 36) (by decide +kernel))))) (by decide +kernel)
theorem m_759 : (Jvm.Cond.arrayClass Jvm.ClassFile.FieldType.boolean) ∈ TBL := mT (List.mem_append_right _ (List.mem_append_right _ (List.mem_append_right _ (List.mem_of_getElem? (i := 39) (by decide +kernel))))) (by decide +kernel)
theorem m_760 : (Jvm.Cond.arrayClass Jvm.ClassFile.FieldType.long) ∈ TBL := mT (List.mem_append_right _ (List.mem_append_right _ (List.mem_append_right _ (List.mem_of_getElem? (i := 40) (by decide +kernel))))) (by decide +kernel)
theorem m_761 : (Jvm.Cond.methodLink "RuleClassesLaw" (96 : Nat) ({ cls := "RuleClassesModel", name := "thrown", desc := "()I" } : Jvm.MethodName)) ∈ TBL := mT (List.mem_append_right _ (List.mem_append_right _ (List.mem_append_right _ (List.mem_of_getElem? (i := 41) (by decide +kernel))))) (by decide +kernel)
theorem m_762 : (Jvm.Cond.instanceMethod ({ cls := "RuleClassesModel", name := "thrown", desc := "()I" } : Jvm.MethodName)) ∈ TBL := mT (List.mem_append_right _ (List.mem_append_right _ (List.mem_append_right _ (List.mem_of_getElem? (i := 42) (by decide +kernel))))) (by decide +kernel)
theorem m_763 : (Jvm.Cond.selects "RuleClassesModel" ({ cls := "RuleClassesModel", name := "thrown", desc := "()I" } : Jvm.MethodName) ({ cls := "RuleClassesModel", name := "thrown", desc := "()I" } : Jvm.MethodName)) ∈ TBL := mT (List.mem_append_right _ (List.mem_append_right _ (List.mem_append_right _ (List.mem_of_getElem? (i := 43) (by decide +kernel))))) (by decide +kernel)
theorem m_764 : (Jvm.Cond.code ({ cls := "RuleClassesModel", name := "thrown", desc := "()I" } : Jvm.MethodName) prog_6_method_2_code (1 : Nat) (Option.some Jvm.ClassFile.FieldType.int)) ∈ TBL := mT (List.mem_append_right _ (List.mem_append_right _ (List.mem_append_right _ (List.mem_of_getElem? (i := 44) (by decide +kernel))))) (by decide +kernel)
theorem m_765 : (Jvm.Cond.methodLink "RuleClassesLaw" (95 : Nat) ({ cls := "RuleClassesModel", name := "today", desc := "(I)V" } : Jvm.MethodName)) ∈ TBL := mT (List.mem_append_right _ (List.mem_append_right _ (List.mem_append_right _ (List.mem_of_getElem? (i := 45) (by decide +kernel))))) (by decide +kernel)
theorem m_766 : (Jvm.Cond.instanceMethod ({ cls := "RuleClassesModel", name := "today", desc := "(I)V" } : Jvm.MethodName)) ∈ TBL := mT (List.mem_append_right _ (List.mem_append_right _ (List.mem_append_right _ (List.mem_of_getElem? (i := 46) (by decide +kernel))))) (by decide +kernel)
theorem m_767 : (Jvm.Cond.selects "RuleClassesModel" ({ cls := "RuleClassesModel", name := "today", desc := "(I)V" } : Jvm.MethodName) ({ cls := "RuleClassesModel", name := "today", desc := "(I)V" } : Jvm.MethodName)) ∈ TBL := mT (List.mem_append_right _ (List.mem_append_right _ (List.mem_append_right _ (List.mem_of_getElem? (i := 47) (by decide +kernel))))) (by decide +kernel)
theorem m_768 : (Jvm.Cond.code ({ cls := "RuleClassesModel", name := "today", desc := "(I)V" } : Jvm.MethodName) prog_6_method_6_code (2 : Nat) (Option.none : Option Jvm.ClassFile.FieldType)) ∈ TBL := mT (List.mem_append_right _ (List.mem_append_right _ (List.mem_append_right _ (List.mem_of_getElem? (i := 48) (by decide +kernel))))) (by decide +kernel)
theorem m_769 : (Jvm.Cond.methodLink "RuleClassesModel" (79 : Nat) ({ cls := "RuleClassesModel", name := "within", desc := "(III)Z" } : Jvm.MethodName)) ∈ TBL := mT (List.mem_append_right _ (List.mem_append_right _ (List.mem_append_right _ (List.mem_of_getElem? (i := 49) (by decide +kernel))))) (by decide +kernel)
theorem m_770 : (Jvm.Cond.static ({ cls := "RuleClassesModel", name := "within", desc := "(III)Z" } : Jvm.MethodName)) ∈ TBL := mT (List.mem_append_right _ (List.mem_append_right _ (List.mem_append_right _ (List.mem_of_getElem? (i := 50) (by decide +kernel))))) (by decide +kernel)
theorem m_771 : (Jvm.Cond.code ({ cls := "RuleClassesModel", name := "within", desc := "(III)Z" } : Jvm.MethodName) prog_6_method_3_code (3 : Nat) (Option.some Jvm.ClassFile.FieldType.boolean)) ∈ TBL := mT (List.mem_append_right _ (List.mem_append_right _ (List.mem_append_right _ (List.mem_of_getElem? (i := 51) (by decide +kernel))))) (by decide +kernel)
theorem m_772 : (Jvm.Cond.methodLink "RuleClassesLaw" (102 : Nat) ({ cls := "RuleClassesModel", name := "rule", desc := "(III)I" } : Jvm.MethodName)) ∈ TBL := mT (List.mem_append_right _ (List.mem_append_right _ (List.mem_append_right _ (List.mem_of_getElem? (i := 52) (by decide +kernel))))) (by decide +kernel)
theorem m_773 : (Jvm.Cond.instanceMethod ({ cls := "RuleClassesModel", name := "rule", desc := "(III)I" } : Jvm.MethodName)) ∈ TBL := mT (List.mem_append_right _ (List.mem_append_right _ (List.mem_append_right _ (List.mem_of_getElem? (i := 53) (by decide +kernel))))) (by decide +kernel)
theorem m_774 : (Jvm.Cond.selects "RuleClassesModel" ({ cls := "RuleClassesModel", name := "rule", desc := "(III)I" } : Jvm.MethodName) ({ cls := "RuleClassesModel", name := "rule", desc := "(III)I" } : Jvm.MethodName)) ∈ TBL := mT (List.mem_append_right _ (List.mem_append_right _ (List.mem_append_right _ (List.mem_of_getElem? (i := 54) (by decide +kernel))))) (by decide +kernel)
theorem m_775 : (Jvm.Cond.code ({ cls := "RuleClassesModel", name := "rule", desc := "(III)I" } : Jvm.MethodName) prog_6_method_7_code (4 : Nat) (Option.some Jvm.ClassFile.FieldType.int)) ∈ TBL := mT (List.mem_append_right _ (List.mem_append_right _ (List.mem_append_right _ (List.mem_of_getElem? (i := 55) (by decide +kernel))))) (by decide +kernel)
theorem m_776 : (Jvm.Cond.methodLink "RuleClassesModel" (86 : Nat) ({ cls := "RuleClassesModel", name := "isPlace", desc := "(II)Z" } : Jvm.MethodName)) ∈ TBL := mT (List.mem_append_right _ (List.mem_append_right _ (List.mem_append_right _ (List.mem_of_getElem? (i := 56) (by decide +kernel))))) (by decide +kernel)
theorem m_777 : (Jvm.Cond.static ({ cls := "RuleClassesModel", name := "isPlace", desc := "(II)Z" } : Jvm.MethodName)) ∈ TBL := mT (List.mem_append_right _ (List.mem_append_right _ (List.mem_append_right _ (List.mem_of_getElem? (i := 57) (by decide +kernel))))) (by decide +kernel)
theorem m_778 : (Jvm.Cond.code ({ cls := "RuleClassesModel", name := "isPlace", desc := "(II)Z" } : Jvm.MethodName) prog_6_method_5_code (2 : Nat) (Option.some Jvm.ClassFile.FieldType.boolean)) ∈ TBL := mT (List.mem_append_right _ (List.mem_append_right _ (List.mem_append_right _ (List.mem_of_getElem? (i := 58) (by decide +kernel))))) (by decide +kernel)
theorem m_779 : (Jvm.Cond.methodLink "RuleClassesLaw" (105 : Nat) ({ cls := "RuleClassesModel", name := "op", desc := "(III)I" } : Jvm.MethodName)) ∈ TBL := mT (List.mem_append_right _ (List.mem_append_right _ (List.mem_append_right _ (List.mem_of_getElem? (i := 59) (by decide +kernel))))) (by decide +kernel)
theorem m_780 : (Jvm.Cond.instanceMethod ({ cls := "RuleClassesModel", name := "op", desc := "(III)I" } : Jvm.MethodName)) ∈ TBL := mT (List.mem_append_right _ (List.mem_append_right _ (List.mem_append_right _ (List.mem_of_getElem? (i := 60) (by decide +kernel))))) (by decide +kernel)
theorem m_781 : (Jvm.Cond.selects "RuleClassesModel" ({ cls := "RuleClassesModel", name := "op", desc := "(III)I" } : Jvm.MethodName) ({ cls := "RuleClassesModel", name := "op", desc := "(III)I" } : Jvm.MethodName)) ∈ TBL := mT (List.mem_append_right _ (List.mem_append_right _ (List.mem_append_right _ (List.mem_of_getElem? (i := 61) (by decide +kernel))))) (by decide +kernel)
theorem m_782 : (Jvm.Cond.code ({ cls := "RuleClassesModel", name := "op", desc := "(III)I" } : Jvm.MethodName) prog_6_method_9_code (4 : Nat) (Option.some Jvm.ClassFile.FieldType.int)) ∈ TBL := mT (List.mem_append_right _ (List.mem_append_right _ (List.mem_append_right _ (List.mem_of_getElem? (i := 62) (by decide +kernel))))) (by decide +kernel)
theorem m_783 : (Jvm.Cond.methodLink "RuleClassesModel" (90 : Nat) ({ cls := "RuleClassesModel", name := "isEdition", desc := "(I)Z" } : Jvm.MethodName)) ∈ TBL := mT (List.mem_append_right _ (List.mem_append_right _ (List.mem_append_right _ (List.mem_of_getElem? (i := 63) (by decide +kernel))))) (by decide +kernel)
theorem m_785 : (Jvm.Cond.instanceMethod ({ cls := "RuleClassesModel", name := "isEdition", desc := "(I)Z" } : Jvm.MethodName)) ∈ TBL := mT (List.mem_append_right _ (List.mem_append_right _ (List.mem_append_right _ (List.mem_of_getElem? (i := 65) (by decide +kernel))))) (by decide +kernel)
theorem m_786 : (Jvm.Cond.code ({ cls := "RuleClassesModel", name := "isEdition", desc := "(I)Z" } : Jvm.MethodName) prog_6_method_4_code (2 : Nat) (Option.some Jvm.ClassFile.FieldType.boolean)) ∈ TBL := mT (List.mem_append_right _ (List.mem_append_right _ (List.mem_append_right _ (List.mem_of_getElem? (i := 66) (by decide +kernel))))) (by decide +kernel)
theorem m_787 : (Jvm.Cond.methodLink "RuleClassesModel" (94 : Nat) ({ cls := "RuleClassesModel", name := "isConstant", desc := "(II)Z" } : Jvm.MethodName)) ∈ TBL := mT (List.mem_append_right _ (List.mem_append_right _ (List.mem_append_right _ (List.mem_of_getElem? (i := 67) (by decide +kernel))))) (by decide +kernel)
theorem m_788 : (Jvm.Cond.static ({ cls := "RuleClassesModel", name := "isConstant", desc := "(II)Z" } : Jvm.MethodName)) ∈ TBL := mT (List.mem_append_right _ (List.mem_append_right _ (List.mem_append_right _ (List.mem_of_getElem? (i := 68) (by decide +kernel))))) (by decide +kernel)
theorem m_789 : (Jvm.Cond.code ({ cls := "RuleClassesModel", name := "isConstant", desc := "(II)Z" } : Jvm.MethodName) prog_6_method_8_code (2 : Nat) (Option.some Jvm.ClassFile.FieldType.boolean)) ∈ TBL := mT (List.mem_append_right _ (List.mem_append_right _ (List.mem_append_right _ (List.mem_of_getElem? (i := 69) (by decide +kernel))))) (by decide +kernel)
theorem m_790 : (Jvm.Cond.methodLink "RuleClassesLaw" (109 : Nat) ({ cls := "RuleClassesModel", name := "make", desc := "(I)I" } : Jvm.MethodName)) ∈ TBL := mT (List.mem_append_right _ (List.mem_append_right _ (List.mem_append_right _ (List.mem_of_getElem? (i := 70) (by decide +kernel))))) (by decide +kernel)
theorem m_791 : (Jvm.Cond.instanceMethod ({ cls := "RuleClassesModel", name := "make", desc := "(I)I" } : Jvm.MethodName)) ∈ TBL := mT (List.mem_append_right _ (List.mem_append_right _ (List.mem_append_right _ (List.mem_of_getElem? (i := 71) (by decide +kernel))))) (by decide +kernel)
theorem m_792 : (Jvm.Cond.selects "RuleClassesModel" ({ cls := "RuleClassesModel", name := "make", desc := "(I)I" } : Jvm.MethodName) ({ cls := "RuleClassesModel", name := "make", desc := "(I)I" } : Jvm.MethodName)) ∈ TBL := mT (List.mem_append_right _ (List.mem_append_right _ (List.mem_append_right _ (List.mem_of_getElem? (i := 72) (by decide +kernel))))) (by decide +kernel)
theorem m_793 : (Jvm.Cond.code ({ cls := "RuleClassesModel", name := "make", desc := "(I)I" } : Jvm.MethodName) prog_6_method_15_code (3 : Nat) (Option.some Jvm.ClassFile.FieldType.int)) ∈ TBL := mT (List.mem_append_right _ (List.mem_append_right _ (List.mem_append_right _ (List.mem_of_getElem? (i := 73) (by decide +kernel))))) (by decide +kernel)
theorem m_794 : (Jvm.Cond.methodLink "RuleClassesModel" (125 : Nat) ({ cls := "RuleClassesModel", name := "giveFacts", desc := "()V" } : Jvm.MethodName)) ∈ TBL := mT (List.mem_append_right _ (List.mem_append_right _ (List.mem_append_right _ (List.mem_of_getElem? (i := 74) (by decide +kernel))))) (by decide +kernel)
theorem m_796 : (Jvm.Cond.instanceMethod ({ cls := "RuleClassesModel", name := "giveFacts", desc := "()V" } : Jvm.MethodName)) ∈ TBL := mT (List.mem_append_right _ (List.mem_append_right _ (List.mem_append_right _ (List.mem_of_getElem? (i := 76) (by decide +kernel))))) (by decide +kernel)
theorem m_797 : (Jvm.Cond.code ({ cls := "RuleClassesModel", name := "giveFacts", desc := "()V" } : Jvm.MethodName) prog_6_method_14_code (2 : Nat) (Option.none : Option Jvm.ClassFile.FieldType)) ∈ TBL := mT (List.mem_append_right _ (List.mem_append_right _ (List.mem_append_right _ (List.mem_of_getElem? (i := 77) (by decide +kernel))))) (by decide +kernel)
theorem m_798 : (Jvm.Cond.methodLink "RuleClassesModel" (128 : Nat) ({ cls := "RuleClassesModel", name := "run", desc := "(I)I" } : Jvm.MethodName)) ∈ TBL := mT (List.mem_append_right _ (List.mem_append_right _ (List.mem_append_right _ (List.mem_of_getElem? (i := 78) (by decide +kernel))))) (by decide +kernel)
theorem m_800 : (Jvm.Cond.instanceMethod ({ cls := "RuleClassesModel", name := "run", desc := "(I)I" } : Jvm.MethodName)) ∈ TBL := mT (List.mem_append_right _ (List.mem_append_right _ (List.mem_append_right _ (List.mem_of_getElem? (i := 80) (by decide +kernel))))) (by decide +kernel)
theorem m_801 : (Jvm.Cond.code ({ cls := "RuleClassesModel", name := "run", desc := "(I)I" } : Jvm.MethodName) prog_6_method_13_code (3 : Nat) (Option.some Jvm.ClassFile.FieldType.int)) ∈ TBL := mT (List.mem_append_right _ (List.mem_append_right _ (List.mem_append_right _ (List.mem_of_getElem? (i := 81) (by decide +kernel))))) (by decide +kernel)
theorem m_802 : (Jvm.Cond.methodLink "RuleClassesModel" (122 : Nat) ({ cls := "RuleClassesModel", name := "step", desc := "(I)I" } : Jvm.MethodName)) ∈ TBL := mT (List.mem_append_right _ (List.mem_append_right _ (List.mem_append_right _ (List.mem_of_getElem? (i := 82) (by decide +kernel))))) (by decide +kernel)
theorem m_804 : (Jvm.Cond.instanceMethod ({ cls := "RuleClassesModel", name := "step", desc := "(I)I" } : Jvm.MethodName)) ∈ TBL := mT (List.mem_append_right _ (List.mem_append_right _ (List.mem_append_right _ (List.mem_of_getElem? (i := 84) (by decide +kernel))))) (by decide +kernel)
theorem m_805 : (Jvm.Cond.code ({ cls := "RuleClassesModel", name := "step", desc := "(I)I" } : Jvm.MethodName) prog_6_method_12_code (10 : Nat) (Option.some Jvm.ClassFile.FieldType.int)) ∈ TBL := mT (List.mem_append_right _ (List.mem_append_right _ (List.mem_append_right _ (List.mem_of_getElem? (i := 85) (by decide +kernel))))) (by decide +kernel)
theorem m_806 : (Jvm.Cond.methodLink "RuleClassesModel" (106 : Nat) ({ cls := "RuleClassesModel", name := "takes", desc := "(I)I" } : Jvm.MethodName)) ∈ TBL := mT (List.mem_append_right _ (List.mem_append_right _ (List.mem_append_right _ (List.mem_of_getElem? (i := 86) (by decide +kernel))))) (by decide +kernel)
theorem m_807 : (Jvm.Cond.static ({ cls := "RuleClassesModel", name := "takes", desc := "(I)I" } : Jvm.MethodName)) ∈ TBL := mT (List.mem_append_right _ (List.mem_append_right _ (List.mem_append_right _ (List.mem_of_getElem? (i := 87) (by decide +kernel))))) (by decide +kernel)
theorem m_808 : (Jvm.Cond.code ({ cls := "RuleClassesModel", name := "takes", desc := "(I)I" } : Jvm.MethodName) prog_6_method_10_code (1 : Nat) (Option.some Jvm.ClassFile.FieldType.int)) ∈ TBL := mT (List.mem_append_right _ (List.mem_append_right _ (List.mem_append_right _ (List.mem_of_getElem? (i := 88) (by decide +kernel))))) (by decide +kernel)
theorem m_809 : (Jvm.Cond.methodLink "RuleClassesModel" (114 : Nat) ({ cls := "RuleClassesModel", name := "valueOf", desc := "(IIIJJ)J" } : Jvm.MethodName)) ∈ TBL := mT (List.mem_append_right _ (List.mem_append_right _ (List.mem_append_right _ (List.mem_of_getElem? (i := 89) (by decide +kernel))))) (by decide +kernel)
theorem m_811 : (Jvm.Cond.instanceMethod ({ cls := "RuleClassesModel", name := "valueOf", desc := "(IIIJJ)J" } : Jvm.MethodName)) ∈ TBL := mT (List.mem_append_right _ (List.mem_append_right _ (List.mem_append_right _ (List.mem_of_getElem? (i := 91) (by decide +kernel))))) (by decide +kernel)
theorem m_812 : (Jvm.Cond.code ({ cls := "RuleClassesModel", name := "valueOf", desc := "(IIIJJ)J" } : Jvm.MethodName) prog_6_method_11_code (8 : Nat) (Option.some Jvm.ClassFile.FieldType.long)) ∈ TBL := mT (List.mem_append_right _ (List.mem_append_right _ (List.mem_append_right _ (List.mem_of_getElem? (i := 92) (by decide +kernel))))) (by decide +kernel)
theorem m_813 : (Jvm.Cond.constantLong "RuleClassesModel" (118 : Nat) (-1000000000 : Int64)) ∈ TBL := mT (List.mem_append_right _ (List.mem_append_right _ (List.mem_append_right _ (List.mem_of_getElem? (i := 93) (by decide +kernel))))) (by decide +kernel)
theorem m_814 : (Jvm.Cond.constantLong "RuleClassesModel" (120 : Nat) (1000000000 : Int64)) ∈ TBL := mT (List.mem_append_right _ (List.mem_append_right _ (List.mem_append_right _ (List.mem_of_getElem? (i := 94) (by decide +kernel))))) (by decide +kernel)
theorem m_815 : (Jvm.Cond.methodLink "RuleClassesLaw" (113 : Nat) ({ cls := "RuleClassesModel", name := "fact", desc := "(II)V" } : Jvm.MethodName)) ∈ TBL := mT (List.mem_append_right _ (List.mem_append_right _ (List.mem_append_right _ (List.mem_of_getElem? (i := 95) (by decide +kernel))))) (by decide +kernel)
theorem m_816 : (Jvm.Cond.instanceMethod ({ cls := "RuleClassesModel", name := "fact", desc := "(II)V" } : Jvm.MethodName)) ∈ TBL := mT (List.mem_append_right _ (List.mem_append_right _ (List.mem_append_right _ (List.mem_of_getElem? (i := 96) (by decide +kernel))))) (by decide +kernel)
theorem m_817 : (Jvm.Cond.selects "RuleClassesModel" ({ cls := "RuleClassesModel", name := "fact", desc := "(II)V" } : Jvm.MethodName) ({ cls := "RuleClassesModel", name := "fact", desc := "(II)V" } : Jvm.MethodName)) ∈ TBL := mT (List.mem_append_right _ (List.mem_append_right _ (List.mem_append_right _ (List.mem_of_getElem? (i := 97) (by decide +kernel))))) (by decide +kernel)
theorem m_818 : (Jvm.Cond.code ({ cls := "RuleClassesModel", name := "fact", desc := "(II)V" } : Jvm.MethodName) prog_6_method_16_code (3 : Nat) (Option.none : Option Jvm.ClassFile.FieldType)) ∈ TBL := mT (List.mem_append_right _ (List.mem_append_right _ (List.mem_append_right _ (List.mem_of_getElem? (i := 98) (by decide +kernel))))) (by decide +kernel)
theorem m_819 : (Jvm.Cond.methodLink "RuleClassesLaw" (117 : Nat) ({ cls := "RuleClassesModel", name := "ask", desc := "(II)I" } : Jvm.MethodName)) ∈ TBL := mT (List.mem_append_right _ (List.mem_append_right _ (List.mem_append_right _ (List.mem_of_getElem? (i := 99) (by decide +kernel))))) (by decide +kernel)
theorem m_820 : (Jvm.Cond.instanceMethod ({ cls := "RuleClassesModel", name := "ask", desc := "(II)I" } : Jvm.MethodName)) ∈ TBL := mT (List.mem_append_right _ (List.mem_append_right _ (List.mem_append_right _ (List.mem_of_getElem? (i := 100) (by decide +kernel))))) (by decide +kernel)
theorem m_821 : (Jvm.Cond.selects "RuleClassesModel" ({ cls := "RuleClassesModel", name := "ask", desc := "(II)I" } : Jvm.MethodName) ({ cls := "RuleClassesModel", name := "ask", desc := "(II)I" } : Jvm.MethodName)) ∈ TBL := mT (List.mem_append_right _ (List.mem_append_right _ (List.mem_append_right _ (List.mem_of_getElem? (i := 101) (by decide +kernel))))) (by decide +kernel)
theorem m_822 : (Jvm.Cond.code ({ cls := "RuleClassesModel", name := "ask", desc := "(II)I" } : Jvm.MethodName) prog_6_method_19_code (6 : Nat) (Option.some Jvm.ClassFile.FieldType.int)) ∈ TBL := mT (List.mem_append_right _ (List.mem_append_right _ (List.mem_append_right _ (List.mem_of_getElem? (i := 102) (by decide +kernel))))) (by decide +kernel)
theorem m_823 : (Jvm.Cond.methodLink "RuleClassesModel" (134 : Nat) ({ cls := "RuleClassesModel", name := "counts", desc := "(III)I" } : Jvm.MethodName)) ∈ TBL := mT (List.mem_append_right _ (List.mem_append_right _ (List.mem_append_right _ (List.mem_of_getElem? (i := 103) (by decide +kernel))))) (by decide +kernel)
theorem m_825 : (Jvm.Cond.instanceMethod ({ cls := "RuleClassesModel", name := "counts", desc := "(III)I" } : Jvm.MethodName)) ∈ TBL := mT (List.mem_append_right _ (List.mem_append_right _ (List.mem_append_right _ (List.mem_of_getElem? (i := 105) (by decide +kernel))))) (by decide +kernel)
theorem m_826 : (Jvm.Cond.code ({ cls := "RuleClassesModel", name := "counts", desc := "(III)I" } : Jvm.MethodName) prog_6_method_17_code (6 : Nat) (Option.some Jvm.ClassFile.FieldType.int)) ∈ TBL := mT (List.mem_append_right _ (List.mem_append_right _ (List.mem_append_right _ (List.mem_of_getElem? (i := 106) (by decide +kernel))))) (by decide +kernel)
theorem m_827 : (Jvm.Cond.methodLink "RuleClassesModel" (138 : Nat) ({ cls := "RuleClassesModel", name := "askedOf", desc := "(III)I" } : Jvm.MethodName)) ∈ TBL := mT (List.mem_append_right _ (List.mem_append_right _ (List.mem_append_right _ (List.mem_of_getElem? (i := 107) (by decide +kernel))))) (by decide +kernel)
theorem m_829 : (Jvm.Cond.instanceMethod ({ cls := "RuleClassesModel", name := "askedOf", desc := "(III)I" } : Jvm.MethodName)) ∈ TBL := mT (List.mem_append_right _ (List.mem_append_right _ (List.mem_append_right _ (List.mem_of_getElem? (i := 109) (by decide +kernel))))) (by decide +kernel)
theorem m_830 : (Jvm.Cond.code ({ cls := "RuleClassesModel", name := "askedOf", desc := "(III)I" } : Jvm.MethodName) prog_6_method_18_code (5 : Nat) (Option.some Jvm.ClassFile.FieldType.int)) ∈ TBL := mT (List.mem_append_right _ (List.mem_append_right _ (List.mem_append_right _ (List.mem_of_getElem? (i := 110) (by decide +kernel))))) (by decide +kernel)
theorem m_831 : (Jvm.Cond.methodLink "RuleClassesLaw" (120 : Nat) ({ cls := "RuleClassesModel", name := "fallback", desc := "(II)V" } : Jvm.MethodName)) ∈ TBL := mT (List.mem_append_right _ (List.mem_append_right _ (List.mem_append_right _ (List.mem_of_getElem? (i := 111) (by decide +kernel))))) (by decide +kernel)
theorem m_832 : (Jvm.Cond.instanceMethod ({ cls := "RuleClassesModel", name := "fallback", desc := "(II)V" } : Jvm.MethodName)) ∈ TBL := mT (List.mem_append_right _ (List.mem_append_right _ (List.mem_append_right _ (List.mem_of_getElem? (i := 112) (by decide +kernel))))) (by decide +kernel)
theorem m_833 : (Jvm.Cond.selects "RuleClassesModel" ({ cls := "RuleClassesModel", name := "fallback", desc := "(II)V" } : Jvm.MethodName) ({ cls := "RuleClassesModel", name := "fallback", desc := "(II)V" } : Jvm.MethodName)) ∈ TBL := mT (List.mem_append_right _ (List.mem_append_right _ (List.mem_append_right _ (List.mem_of_getElem? (i := 113) (by decide +kernel))))) (by decide +kernel)
theorem m_834 : (Jvm.Cond.code ({ cls := "RuleClassesModel", name := "fallback", desc := "(II)V" } : Jvm.MethodName) prog_6_method_20_code (3 : Nat) (Option.none : Option Jvm.ClassFile.FieldType)) ∈ TBL := mT (List.mem_append_right _ (List.mem_append_right _ (List.mem_append_right _ (List.mem_of_getElem? (i := 114) (by decide +kernel))))) (by decide +kernel)
theorem m_835 : (Jvm.Cond.methodLink "RuleClassesLaw" (123 : Nat) ({ cls := "RuleClassesModel", name := "edition", desc := "(III)I" } : Jvm.MethodName)) ∈ TBL := mT (List.mem_append_right _ (List.mem_append_right _ (List.mem_append_right _ (List.mem_of_getElem? (i := 115) (by decide +kernel))))) (by decide +kernel)
theorem m_836 : (Jvm.Cond.instanceMethod ({ cls := "RuleClassesModel", name := "edition", desc := "(III)I" } : Jvm.MethodName)) ∈ TBL := mT (List.mem_append_right _ (List.mem_append_right _ (List.mem_append_right _ (List.mem_of_getElem? (i := 116) (by decide +kernel))))) (by decide +kernel)
theorem m_837 : (Jvm.Cond.selects "RuleClassesModel" ({ cls := "RuleClassesModel", name := "edition", desc := "(III)I" } : Jvm.MethodName) ({ cls := "RuleClassesModel", name := "edition", desc := "(III)I" } : Jvm.MethodName)) ∈ TBL := mT (List.mem_append_right _ (List.mem_append_right _ (List.mem_append_right _ (List.mem_of_getElem? (i := 117) (by decide +kernel))))) (by decide +kernel)
theorem m_838 : (Jvm.Cond.code ({ cls := "RuleClassesModel", name := "edition", desc := "(III)I" } : Jvm.MethodName) prog_6_method_21_code (4 : Nat) (Option.some Jvm.ClassFile.FieldType.int)) ∈ TBL := mT (List.mem_append_right _ (List.mem_append_right _ (List.mem_append_right _ (List.mem_of_getElem? (i := 118) (by decide +kernel))))) (by decide +kernel)
theorem m_839 : (Jvm.Cond.methodLink "RuleClassesLaw" (126 : Nat) ({ cls := "RuleClassesModel", name := "failed", desc := "(II)I" } : Jvm.MethodName)) ∈ TBL := mT (List.mem_append_right _ (List.mem_append_right _ (List.mem_append_right _ (List.mem_of_getElem? (i := 119) (by decide +kernel))))) (by decide +kernel)
theorem m_840 : (Jvm.Cond.instanceMethod ({ cls := "RuleClassesModel", name := "failed", desc := "(II)I" } : Jvm.MethodName)) ∈ TBL := mT (List.mem_append_right _ (List.mem_append_right _ (List.mem_append_right _ (List.mem_of_getElem? (i := 120) (by decide +kernel))))) (by decide +kernel)
theorem m_841 : (Jvm.Cond.selects "RuleClassesModel" ({ cls := "RuleClassesModel", name := "failed", desc := "(II)I" } : Jvm.MethodName) ({ cls := "RuleClassesModel", name := "failed", desc := "(II)I" } : Jvm.MethodName)) ∈ TBL := mT (List.mem_append_right _ (List.mem_append_right _ (List.mem_append_right _ (List.mem_of_getElem? (i := 121) (by decide +kernel))))) (by decide +kernel)
theorem m_842 : (Jvm.Cond.code ({ cls := "RuleClassesModel", name := "failed", desc := "(II)I" } : Jvm.MethodName) prog_6_method_22_code (3 : Nat) (Option.some Jvm.ClassFile.FieldType.int)) ∈ TBL := mT (List.mem_append_right _ (List.mem_append_right _ (List.mem_append_right _ (List.mem_of_getElem? (i := 122) (by decide +kernel))))) (by decide +kernel)
theorem m_843 : (Jvm.Cond.methodLink "RuleClassesLaw" (129 : Nat) ({ cls := "RuleClassesModel", name := "handle", desc := "(I)I" } : Jvm.MethodName)) ∈ TBL := mT (List.mem_append_right _ (List.mem_append_right _ (List.mem_append_right _ (List.mem_of_getElem? (i := 123) (by decide +kernel))))) (by decide +kernel)
theorem m_844 : (Jvm.Cond.instanceMethod ({ cls := "RuleClassesModel", name := "handle", desc := "(I)I" } : Jvm.MethodName)) ∈ TBL := mT (List.mem_append_right _ (List.mem_append_right _ (List.mem_append_right _ (List.mem_of_getElem? (i := 124) (by decide +kernel))))) (by decide +kernel)
theorem m_845 : (Jvm.Cond.selects "RuleClassesModel" ({ cls := "RuleClassesModel", name := "handle", desc := "(I)I" } : Jvm.MethodName) ({ cls := "RuleClassesModel", name := "handle", desc := "(I)I" } : Jvm.MethodName)) ∈ TBL := mT (List.mem_append_right _ (List.mem_append_right _ (List.mem_append_right _ (List.mem_of_getElem? (i := 125) (by decide +kernel))))) (by decide +kernel)
theorem m_846 : (Jvm.Cond.code ({ cls := "RuleClassesModel", name := "handle", desc := "(I)I" } : Jvm.MethodName) prog_6_method_23_code (2 : Nat) (Option.some Jvm.ClassFile.FieldType.int)) ∈ TBL := mT (List.mem_append_right _ (List.mem_append_right _ (List.mem_append_right _ (List.mem_of_getElem? (i := 126) (by decide +kernel))))) (by decide +kernel)
theorem m_847 : (Jvm.Cond.methodLink "RuleClassesLaw" (132 : Nat) ({ cls := "RuleClassesModel", name := "by", desc := "(I)I" } : Jvm.MethodName)) ∈ TBL := mT (List.mem_append_right _ (List.mem_append_right _ (List.mem_append_right _ (List.mem_of_getElem? (i := 127) (by decide +kernel))))) (by decide +kernel)
theorem m_848 : (Jvm.Cond.instanceMethod ({ cls := "RuleClassesModel", name := "by", desc := "(I)I" } : Jvm.MethodName)) ∈ TBL := mT (List.mem_append_right _ (List.mem_append_right _ (List.mem_append_right _ (List.mem_of_getElem? (i := 128) (by decide +kernel))))) (by decide +kernel)
theorem m_849 : (Jvm.Cond.selects "RuleClassesModel" ({ cls := "RuleClassesModel", name := "by", desc := "(I)I" } : Jvm.MethodName) ({ cls := "RuleClassesModel", name := "by", desc := "(I)I" } : Jvm.MethodName)) ∈ TBL := mT (List.mem_append_right _ (List.mem_append_right _ (List.mem_append_right _ (List.mem_of_getElem? (i := 129) (by decide +kernel))))) (by decide +kernel)
theorem m_850 : (Jvm.Cond.code ({ cls := "RuleClassesModel", name := "by", desc := "(I)I" } : Jvm.MethodName) prog_6_method_24_code (2 : Nat) (Option.some Jvm.ClassFile.FieldType.int)) ∈ TBL := mT (List.mem_append_right _ (List.mem_append_right _ (List.mem_append_right _ (List.mem_of_getElem? (i := 130) (by decide +kernel))))) (by decide +kernel)
theorem m_851 : (Jvm.Cond.methodLink "RuleClassesLaw" (136 : Nat) ({ cls := "RuleClassesModel", name := "keep", desc := "()I" } : Jvm.MethodName)) ∈ TBL := mT (List.mem_append_right _ (List.mem_append_right _ (List.mem_append_right _ (List.mem_of_getElem? (i := 131) (by decide +kernel))))) (by decide +kernel)
theorem m_852 : (Jvm.Cond.instanceMethod ({ cls := "RuleClassesModel", name := "keep", desc := "()I" } : Jvm.MethodName)) ∈ TBL := mT (List.mem_append_right _ (List.mem_append_right _ (List.mem_append_right _ (List.mem_of_getElem? (i := 132) (by decide +kernel))))) (by decide +kernel)
theorem m_853 : (Jvm.Cond.selects "RuleClassesModel" ({ cls := "RuleClassesModel", name := "keep", desc := "()I" } : Jvm.MethodName) ({ cls := "RuleClassesModel", name := "keep", desc := "()I" } : Jvm.MethodName)) ∈ TBL := mT (List.mem_append_right _ (List.mem_append_right _ (List.mem_append_right _ (List.mem_of_getElem? (i := 133) (by decide +kernel))))) (by decide +kernel)
theorem m_854 : (Jvm.Cond.code ({ cls := "RuleClassesModel", name := "keep", desc := "()I" } : Jvm.MethodName) prog_6_method_25_code (2 : Nat) (Option.some Jvm.ClassFile.FieldType.int)) ∈ TBL := mT (List.mem_append_right _ (List.mem_append_right _ (List.mem_append_right _ (List.mem_of_getElem? (i := 134) (by decide +kernel))))) (by decide +kernel)
theorem m_855 : (Jvm.Cond.methodLink "RuleClassesLaw" (139 : Nat) ({ cls := "RuleClassesModel", name := "compare", desc := "(II)I" } : Jvm.MethodName)) ∈ TBL := mT (List.mem_append_right _ (List.mem_append_right _ (List.mem_append_right _ (List.mem_of_getElem? (i := 135) (by decide +kernel))))) (by decide +kernel)
theorem m_856 : (Jvm.Cond.instanceMethod ({ cls := "RuleClassesModel", name := "compare", desc := "(II)I" } : Jvm.MethodName)) ∈ TBL := mT (List.mem_append_right _ (List.mem_append_right _ (List.mem_append_right _ (List.mem_of_getElem? (i := 136) (by decide +kernel))))) (by decide +kernel)
theorem m_857 : (Jvm.Cond.selects "RuleClassesModel" ({ cls := "RuleClassesModel", name := "compare", desc := "(II)I" } : Jvm.MethodName) ({ cls := "RuleClassesModel", name := "compare", desc := "(II)I" } : Jvm.MethodName)) ∈ TBL := mT (List.mem_append_right _ (List.mem_append_right _ (List.mem_append_right _ (List.mem_of_getElem? (i := 137) (by decide +kernel))))) (by decide +kernel)
theorem m_858 : (Jvm.Cond.code ({ cls := "RuleClassesModel", name := "compare", desc := "(II)I" } : Jvm.MethodName) prog_6_method_26_code (9 : Nat) (Option.some Jvm.ClassFile.FieldType.int)) ∈ TBL := mT (List.mem_append_right _ (List.mem_append_right _ (List.mem_append_right _ (List.mem_of_getElem? (i := 138) (by decide +kernel))))) (by decide +kernel)
theorem m_859 : (Jvm.Cond.methodLink "RuleClassesLaw" (142 : Nat) ({ cls := "RuleClassesModel", name := "same", desc := "(II)Z" } : Jvm.MethodName)) ∈ TBL := mT (List.mem_append_right _ (List.mem_append_right _ (List.mem_append_right _ (List.mem_of_getElem? (i := 139) (by decide +kernel))))) (by decide +kernel)
theorem m_860 : (Jvm.Cond.instanceMethod ({ cls := "RuleClassesModel", name := "same", desc := "(II)Z" } : Jvm.MethodName)) ∈ TBL := mT (List.mem_append_right _ (List.mem_append_right _ (List.mem_append_right _ (List.mem_of_getElem? (i := 140) (by decide +kernel))))) (by decide +kernel)
theorem m_861 : (Jvm.Cond.selects "RuleClassesModel" ({ cls := "RuleClassesModel", name := "same", desc := "(II)Z" } : Jvm.MethodName) ({ cls := "RuleClassesModel", name := "same", desc := "(II)Z" } : Jvm.MethodName)) ∈ TBL := mT (List.mem_append_right _ (List.mem_append_right _ (List.mem_append_right _ (List.mem_of_getElem? (i := 141) (by decide +kernel))))) (by decide +kernel)
theorem m_862 : (Jvm.Cond.code ({ cls := "RuleClassesModel", name := "same", desc := "(II)Z" } : Jvm.MethodName) prog_6_method_27_code (4 : Nat) (Option.some Jvm.ClassFile.FieldType.boolean)) ∈ TBL := mT (List.mem_append_right _ (List.mem_append_right _ (List.mem_append_right _ (List.mem_of_getElem? (i := 142) (by decide +kernel))))) (by decide +kernel)
theorem m_863 : (Jvm.Cond.methodLink "RuleClassesLaw" (146 : Nat) ({ cls := "RuleClassesModel", name := "shadow", desc := "(III)V" } : Jvm.MethodName)) ∈ TBL := mT (List.mem_append_right _ (List.mem_append_right _ (List.mem_append_right _ (List.mem_of_getElem? (i := 143) (by decide +kernel))))) (by decide +kernel)
theorem m_864 : (Jvm.Cond.instanceMethod ({ cls := "RuleClassesModel", name := "shadow", desc := "(III)V" } : Jvm.MethodName)) ∈ TBL := mT (List.mem_append_right _ (List.mem_append_right _ (List.mem_append_right _ (List.mem_of_getElem? (i := 144) (by decide +kernel))))) (by decide +kernel)
theorem m_865 : (Jvm.Cond.selects "RuleClassesModel" ({ cls := "RuleClassesModel", name := "shadow", desc := "(III)V" } : Jvm.MethodName) ({ cls := "RuleClassesModel", name := "shadow", desc := "(III)V" } : Jvm.MethodName)) ∈ TBL := mT (List.mem_append_right _ (List.mem_append_right _ (List.mem_append_right _ (List.mem_of_getElem? (i := 145) (by decide +kernel))))) (by decide +kernel)
theorem m_866 : (Jvm.Cond.code ({ cls := "RuleClassesModel", name := "shadow", desc := "(III)V" } : Jvm.MethodName) prog_6_method_28_code (4 : Nat) (Option.none : Option Jvm.ClassFile.FieldType)) ∈ TBL := mT (List.mem_append_right _ (List.mem_append_right _ (List.mem_append_right _ (List.mem_of_getElem? (i := 146) (by decide +kernel))))) (by decide +kernel)
theorem m_867 : (Jvm.Cond.methodLink "RuleClassesLaw" (149 : Nat) ({ cls := "RuleClassesModel", name := "otherwise", desc := "(II)I" } : Jvm.MethodName)) ∈ TBL := mT (List.mem_append_right _ (List.mem_append_right _ (List.mem_append_right _ (List.mem_of_getElem? (i := 147) (by decide +kernel))))) (by decide +kernel)
theorem m_868 : (Jvm.Cond.instanceMethod ({ cls := "RuleClassesModel", name := "otherwise", desc := "(II)I" } : Jvm.MethodName)) ∈ TBL := mT (List.mem_append_right _ (List.mem_append_right _ (List.mem_append_right _ (List.mem_of_getElem? (i := 148) (by decide +kernel))))) (by decide +kernel)
theorem m_869 : (Jvm.Cond.selects "RuleClassesModel" ({ cls := "RuleClassesModel", name := "otherwise", desc := "(II)I" } : Jvm.MethodName) ({ cls := "RuleClassesModel", name := "otherwise", desc := "(II)I" } : Jvm.MethodName)) ∈ TBL := mT (List.mem_append_right _ (List.mem_append_right _ (List.mem_append_right _ (List.mem_of_getElem? (i := 149) (by decide +kernel))))) (by decide +kernel)
theorem m_870 : (Jvm.Cond.code ({ cls := "RuleClassesModel", name := "otherwise", desc := "(II)I" } : Jvm.MethodName) prog_6_method_29_code (3 : Nat) (Option.some Jvm.ClassFile.FieldType.int)) ∈ TBL := mT (List.mem_append_right _ (List.mem_append_right _ (List.mem_append_right _ (List.mem_of_getElem? (i := 150) (by decide +kernel))))) (by decide +kernel)
theorem m_871 : (Jvm.Cond.methodLink "RuleClassesLaw" (152 : Nat) ({ cls := "RuleClassesModel", name := "divide", desc := "(II)I" } : Jvm.MethodName)) ∈ TBL := mT (List.mem_append_right _ (List.mem_append_right _ (List.mem_append_right _ (List.mem_of_getElem? (i := 151) (by decide +kernel))))) (by decide +kernel)
theorem m_872 : (Jvm.Cond.instanceMethod ({ cls := "RuleClassesModel", name := "divide", desc := "(II)I" } : Jvm.MethodName)) ∈ TBL := mT (List.mem_append_right _ (List.mem_append_right _ (List.mem_append_right _ (List.mem_of_getElem? (i := 152) (by decide +kernel))))) (by decide +kernel)
theorem m_873 : (Jvm.Cond.selects "RuleClassesModel" ({ cls := "RuleClassesModel", name := "divide", desc := "(II)I" } : Jvm.MethodName) ({ cls := "RuleClassesModel", name := "divide", desc := "(II)I" } : Jvm.MethodName)) ∈ TBL := mT (List.mem_append_right _ (List.mem_append_right _ (List.mem_append_right _ (List.mem_of_getElem? (i := 153) (by decide +kernel))))) (by decide +kernel)
theorem m_874 : (Jvm.Cond.code ({ cls := "RuleClassesModel", name := "divide", desc := "(II)I" } : Jvm.MethodName) prog_6_method_30_code (3 : Nat) (Option.some Jvm.ClassFile.FieldType.int)) ∈ TBL := mT (List.mem_append_right _ (List.mem_append_right _ (List.mem_append_right _ (List.mem_of_getElem? (i := 154) (by decide +kernel))))) (by decide +kernel)
theorem m_875 : (Jvm.Cond.methodLink "RuleClassesLaw" (155 : Nat) ({ cls := "RuleClassesModel", name := "told", desc := "(II)I" } : Jvm.MethodName)) ∈ TBL := mT (List.mem_append_right _ (List.mem_append_right _ (List.mem_append_right _ (List.mem_of_getElem? (i := 155) (by decide +kernel))))) (by decide +kernel)
theorem m_876 : (Jvm.Cond.instanceMethod ({ cls := "RuleClassesModel", name := "told", desc := "(II)I" } : Jvm.MethodName)) ∈ TBL := mT (List.mem_append_right _ (List.mem_append_right _ (List.mem_append_right _ (List.mem_of_getElem? (i := 156) (by decide +kernel))))) (by decide +kernel)
theorem m_877 : (Jvm.Cond.selects "RuleClassesModel" ({ cls := "RuleClassesModel", name := "told", desc := "(II)I" } : Jvm.MethodName) ({ cls := "RuleClassesModel", name := "told", desc := "(II)I" } : Jvm.MethodName)) ∈ TBL := mT (List.mem_append_right _ (List.mem_append_right _ (List.mem_append_right _ (List.mem_of_getElem? (i := 157) (by decide +kernel))))) (by decide +kernel)
theorem m_878 : (Jvm.Cond.code ({ cls := "RuleClassesModel", name := "told", desc := "(II)I" } : Jvm.MethodName) prog_6_method_31_code (3 : Nat) (Option.some Jvm.ClassFile.FieldType.int)) ∈ TBL := mT (List.mem_append_right _ (List.mem_append_right _ (List.mem_append_right _ (List.mem_of_getElem? (i := 158) (by decide +kernel))))) (by decide +kernel)
theorem m_879 : (Jvm.Cond.methodLink "RuleClassesLaw" (159 : Nat) ({ cls := "RuleClassesModel", name := "count", desc := "(I)I" } : Jvm.MethodName)) ∈ TBL := mT (List.mem_append_right _ (List.mem_append_right _ (List.mem_append_right _ (List.mem_of_getElem? (i := 159) (by decide +kernel))))) (by decide +kernel)
theorem m_880 : (Jvm.Cond.instanceMethod ({ cls := "RuleClassesModel", name := "count", desc := "(I)I" } : Jvm.MethodName)) ∈ TBL := mT (List.mem_append_right _ (List.mem_append_right _ (List.mem_append_right _ (List.mem_of_getElem? (i := 160) (by decide +kernel))))) (by decide +kernel)
theorem m_881 : (Jvm.Cond.selects "RuleClassesModel" ({ cls := "RuleClassesModel", name := "count", desc := "(I)I" } : Jvm.MethodName) ({ cls := "RuleClassesModel", name := "count", desc := "(I)I" } : Jvm.MethodName)) ∈ TBL := mT (List.mem_append_right _ (List.mem_append_right _ (List.mem_append_right _ (List.mem_of_getElem? (i := 161) (by decide +kernel))))) (by decide +kernel)
theorem m_882 : (Jvm.Cond.code ({ cls := "RuleClassesModel", name := "count", desc := "(I)I" } : Jvm.MethodName) prog_6_method_32_code (4 : Nat) (Option.some Jvm.ClassFile.FieldType.int)) ∈ TBL := mT (List.mem_append_right _ (List.mem_append_right _ (List.mem_append_right _ (List.mem_of_getElem? (i := 162) (by decide +kernel))))) (by decide +kernel)
theorem m_887 : (Jvm.Cond.selects "[Ljava/lang/Object;" ({ cls := "java/lang/Object", name := "getClass", desc := "()Ljava/lang/Class;" } : Jvm.MethodName) ({ cls := "java/lang/Object", name := "getClass", desc := "()Ljava/lang/Class;" } : Jvm.MethodName)) ∈ TBL := mT (List.mem_append_right _ (List.mem_append_right _ (List.mem_append_right _ (List.mem_of_getElem? (i := 167) (by decide +kernel))))) (by decide +kernel)
theorem sl_C_madeEditions : Cond.selects "RuleClasses" y_C_madeEditions y_C_madeEditions ∈ TBL := mS (q := (y_C_madeEditions, 15)) (List.mem_of_getElem? (i := 0) (by decide +kernel)) (by decide +kernel)
theorem sl_C_failedQuestions : Cond.selects "RuleClasses" y_C_failedQuestions y_C_failedQuestions ∈ TBL := mS (q := (y_C_failedQuestions, 15)) (List.mem_of_getElem? (i := 1) (by decide +kernel)) (by decide +kernel)
theorem sl_C_endHandle : Cond.selects "RuleClasses" y_C_endHandle y_C_endHandle ∈ TBL := mS (q := (y_C_endHandle, 15)) (List.mem_of_getElem? (i := 3) (by decide +kernel)) (by decide +kernel)
theorem sl_A_add2 : Cond.selects "java/util/ArrayList" y_A_add2 y_A_add2 ∈ TBL := mS (q := (y_A_add2, 3)) (List.mem_of_getElem? (i := 4) (by decide +kernel)) (by decide +kernel)
theorem sl_A_grow : Cond.selects "java/util/ArrayList" y_A_grow y_A_grow ∈ TBL := mS (q := (y_A_grow, 3)) (List.mem_of_getElem? (i := 5) (by decide +kernel)) (by decide +kernel)
theorem sl_A_grow2 : Cond.selects "java/util/ArrayList" y_A_grow2 y_A_grow2 ∈ TBL := mS (q := (y_A_grow2, 3)) (List.mem_of_getElem? (i := 6) (by decide +kernel)) (by decide +kernel)
theorem sl_C_editionAt : Cond.selects "RuleClasses" y_C_editionAt y_C_editionAt ∈ TBL := mS (q := (y_C_editionAt, 15)) (List.mem_of_getElem? (i := 7) (by decide +kernel)) (by decide +kernel)
theorem sl_C_requireEdition : Cond.selects "RuleClasses" y_C_requireEdition y_C_requireEdition ∈ TBL := mS (q := (y_C_requireEdition, 15)) (List.mem_of_getElem? (i := 8) (by decide +kernel)) (by decide +kernel)
theorem sl_U_clear : Cond.selects "RuleClasses$Run" y_U_clear y_U_clear ∈ TBL := mS (q := (y_U_clear, 7)) (List.mem_of_getElem? (i := 9) (by decide +kernel)) (by decide +kernel)
theorem sl_U_outcomeOf : Cond.selects "RuleClasses$Run" y_U_outcomeOf y_U_outcomeOf ∈ TBL := mS (q := (y_U_outcomeOf, 7)) (List.mem_of_getElem? (i := 10) (by decide +kernel)) (by decide +kernel)
theorem sl_U_step : Cond.selects "RuleClasses$Run" y_U_step y_U_step ∈ TBL := mS (q := (y_U_step, 7)) (List.mem_of_getElem? (i := 11) (by decide +kernel)) (by decide +kernel)
theorem sl_U_put : Cond.selects "RuleClasses$Run" y_U_put y_U_put ∈ TBL := mS (q := (y_U_put, 7)) (List.mem_of_getElem? (i := 12) (by decide +kernel)) (by decide +kernel)
theorem sl_U_take : Cond.selects "RuleClasses$Run" y_U_take y_U_take ∈ TBL := mS (q := (y_U_take, 7)) (List.mem_of_getElem? (i := 13) (by decide +kernel)) (by decide +kernel)
theorem sl_U_join : Cond.selects "RuleClasses$Run" y_U_join y_U_join ∈ TBL := mS (q := (y_U_join, 7)) (List.mem_of_getElem? (i := 14) (by decide +kernel)) (by decide +kernel)
theorem sl_C_countingEdition : Cond.selects "RuleClasses" y_C_countingEdition y_C_countingEdition ∈ TBL := mS (q := (y_C_countingEdition, 15)) (List.mem_of_getElem? (i := 15) (by decide +kernel)) (by decide +kernel)
theorem sl_C_runShadow : Cond.selects "RuleClasses" y_C_runShadow y_C_runShadow ∈ TBL := mS (q := (y_C_runShadow, 15)) (List.mem_of_getElem? (i := 16) (by decide +kernel)) (by decide +kernel)
theorem sl_M_isEdition : Cond.selects "RuleClassesModel" y_M_isEdition y_M_isEdition ∈ TBL := mS (q := (y_M_isEdition, 30)) (List.mem_of_getElem? (i := 17) (by decide +kernel)) (by decide +kernel)
theorem sl_M_giveFacts : Cond.selects "RuleClassesModel" y_M_giveFacts y_M_giveFacts ∈ TBL := mS (q := (y_M_giveFacts, 30)) (List.mem_of_getElem? (i := 18) (by decide +kernel)) (by decide +kernel)
theorem sl_M_run : Cond.selects "RuleClassesModel" y_M_run y_M_run ∈ TBL := mS (q := (y_M_run, 30)) (List.mem_of_getElem? (i := 19) (by decide +kernel)) (by decide +kernel)
theorem sl_M_step : Cond.selects "RuleClassesModel" y_M_step y_M_step ∈ TBL := mS (q := (y_M_step, 30)) (List.mem_of_getElem? (i := 20) (by decide +kernel)) (by decide +kernel)
theorem sl_M_valueOf : Cond.selects "RuleClassesModel" y_M_valueOf y_M_valueOf ∈ TBL := mS (q := (y_M_valueOf, 30)) (List.mem_of_getElem? (i := 21) (by decide +kernel)) (by decide +kernel)
theorem sl_M_counts : Cond.selects "RuleClassesModel" y_M_counts y_M_counts ∈ TBL := mS (q := (y_M_counts, 30)) (List.mem_of_getElem? (i := 22) (by decide +kernel)) (by decide +kernel)
theorem sl_M_askedOf : Cond.selects "RuleClassesModel" y_M_askedOf y_M_askedOf ∈ TBL := mS (q := (y_M_askedOf, 30)) (List.mem_of_getElem? (i := 23) (by decide +kernel)) (by decide +kernel)
def CSP : List (String × String) := [("java/lang/IllegalArgumentException", "java/lang/IllegalArgumentException"), ("java/lang/UnsupportedOperationException", "java/lang/UnsupportedOperationException"), ("java/util/NoSuchElementException", "java/util/NoSuchElementException"), ("java/lang/IllegalStateException", "java/lang/IllegalStateException"), ("java/lang/ArithmeticException", "java/lang/ArithmeticException"), ("RuleClasses$Edition", "RuleClasses$Edition"), ("RuleClasses$Facts", "RuleClasses$Facts"), ("RuleClasses", "java/lang/Object"), ("RuleClasses$Facts", "java/lang/Object"), ("RuleClasses$Run", "java/lang/Object"), ("RuleClassesModel", "java/lang/Object"), ("RuleClasses$Edition", "java/lang/Object"), ("java/lang/String", "java/lang/Object")]
def STR : List (Nat × String) := [(215, "a number outside its range"), (84, "no room for an edition"), (222, "no such edition"), (218, "the edition is made"), (115, "no room for an op"), (163, "the edition is not made"), (169, "no room for a handle"), (177, "the handle has ended"), (182, "no room for a kept question"), (201, "/ by zero")]
def DCL : List MethodName := [({ cls := "java/lang/RuntimeException", name := "<init>", desc := "()V" } : Jvm.MethodName), ({ cls := "java/lang/RuntimeException", name := "<init>", desc := "(Ljava/lang/String;)V" } : Jvm.MethodName), ({ cls := "java/lang/Exception", name := "<init>", desc := "()V" } : Jvm.MethodName), ({ cls := "java/lang/Exception", name := "<init>", desc := "(Ljava/lang/String;)V" } : Jvm.MethodName), ({ cls := "java/lang/Throwable", name := "<init>", desc := "()V" } : Jvm.MethodName), ({ cls := "java/lang/Throwable", name := "<init>", desc := "(Ljava/lang/String;)V" } : Jvm.MethodName), ({ cls := "java/lang/Object", name := "getClass", desc := "()Ljava/lang/Class;" } : Jvm.MethodName)]
def XWS : List Cond := CSP.map (fun q => Cond.castable q.1 q.2) ++ DCL.map Cond.declares
end
section
/-! The logical heap: a cell by its kind and number; no list of cells, no split, no join: a contract says what it does to the view V. -/
abbrev Vw : Type := Nat → Nat → Option (Nat × va_E)
/-- class numbers and slots; array classes by number (0 int, 1 Object); the first address that is ours -/
abbrev Gl : Type := va_G × (Nat → ClassId) × Nat
def uV (V : Vw) (k i : Nat) (x : Nat × va_E) : Vw := fun k' i' => bif (Nat.beq k' k && Nat.beq i' i) then some x else V k' i'
theorem uV_self (V : Vw) (k i : Nat) (x : Nat × va_E) : uV V k i x k i = some x := by
  show (bif (Nat.beq k k && Nat.beq i i) then some x else V k i) = some x
  rw [Nat.beq_refl, Nat.beq_refl]
  rfl
theorem uV_ne {V : Vw} {k i k' i' : Nat} {x : Nat × va_E} (h : ¬ (k' = k ∧ i' = i)) : uV V k i x k' i' = V k' i' := by
  have hb : (Nat.beq k' k && Nat.beq i' i) = false := by
    cases hc : (Nat.beq k' k && Nat.beq i' i) with
    | false => rfl
    | true =>
      rw [Bool.and_eq_true] at hc
      exact absurd ⟨Nat.eq_of_beq_eq_true hc.1, Nat.eq_of_beq_eq_true hc.2⟩ h
  show (bif (Nat.beq k' k && Nat.beq i' i) then some x else V k' i') = V k' i'
  rw [hb]
  rfl
theorem uV_cases {V : Vw} {k i k' i' : Nat} {x q : Nat × va_E} (h : uV V k i x k' i' = some q) : (k' = k ∧ i' = i ∧ q = x) ∨ (¬ (k' = k ∧ i' = i) ∧ V k' i' = some q) := by
  by_cases hk : k' = k ∧ i' = i
  · obtain ⟨e1, e2⟩ := hk
    rw [e1, e2, uV_self] at h
    exact Or.inl ⟨e1, e2, (Option.some.inj h).symm⟩
  · rw [uV_ne hk] at h
    exact Or.inr ⟨hk, h⟩
def aB (G : Gl) : Nat → Prop := fun q => G.2.2 ≤ q
def HW (G : Gl) (V : Vw) (H : Heap) : Prop := (∀ (k i : Nat) (q : Nat × va_E), V k i = some q → va_at G.1 vwCl q H ∧ G.2.2 ≤ q.1) ∧ ∀ (k i k' i' : Nat) (q q' : Nat × va_E), V k i = some q → V k' i' = some q' → q.1 = q'.1 → k = k' ∧ i = i'
theorem HW.one {G : Gl} {V : Vw} {H : Heap} {k i : Nat} {q : Nat × va_E} (h : HW G V H) (he : V k i = some q) : va_P G.1 vwCl [q] H := by
  intro n x hx
  match n, hx with
  | 0, hx => cases hx; exact (h.1 _ _ _ he).1
  | n + 1, hx => simp at hx
theorem HW.keep {G : Gl} {V : Vw} {H H1 : Heap} (h : HW G V H) (hq : ∀ q : Nat, q < H.size → H1[q]? = H[q]?) : HW G V H1 :=
  ⟨fun k i q e => ⟨(h.1 k i q e).1.kept (hq _ (h.1 k i q e).1.lt), (h.1 k i q e).2⟩, h.2⟩
theorem HW.set {G : Gl} {V : Vw} {H H1 : Heap} {k i a : Nat} {e0 e : va_E} (h : HW G V H) (hp : V k i = some (a, e0)) (he : va_at G.1 vwCl (a, e) H1) (oq : ∀ q : Nat, q ≠ a → H1[q]? = H[q]?) : HW G (uV V k i (a, e)) H1 := by
  refine ⟨fun k' i' q hq => ?_, fun k1 i1 k2 i2 q1 q2 h1 h2 e12 => ?_⟩
  · rcases uV_cases hq with ⟨-, -, e3⟩ | ⟨hk, hq⟩
    · rw [e3]
      exact ⟨he, (h.1 _ _ _ hp).2⟩
    · have hn : q.1 ≠ a := fun z => hk (h.2 k' i' k i q (a, e0) hq hp z)
      exact ⟨(h.1 _ _ _ hq).1.kept (oq _ hn), (h.1 _ _ _ hq).2⟩
  · rcases uV_cases h1 with ⟨a1, a2, a3⟩ | ⟨n1, h1⟩ <;> rcases uV_cases h2 with ⟨b1, b2, b3⟩ | ⟨n2, h2⟩
    · exact ⟨a1.trans b1.symm, a2.trans b2.symm⟩
    · rw [a3] at e12
      exact absurd (h.2 k2 i2 k i q2 (a, e0) h2 hp e12.symm) n2
    · rw [b3] at e12
      exact absurd (h.2 k1 i1 k i q1 (a, e0) h1 hp e12) n1
    · exact h.2 _ _ _ _ _ _ h1 h2 e12
theorem HW.push {G : Gl} {V : Vw} {H H1 : Heap} {k i : Nat} {e : va_E} (h : HW G V H) (hB : G.2.2 ≤ H.size) (he : va_at G.1 vwCl (H.size, e) H1) (oq : ∀ q : Nat, q < H.size → H1[q]? = H[q]?) : HW G (uV V k i (H.size, e)) H1 := by
  have lt : ∀ (k i : Nat) (q : Nat × va_E), V k i = some q → q.1 < H.size := fun k i q hq => (h.1 k i q hq).1.lt
  refine ⟨fun k' i' q hq => ?_, fun k1 i1 k2 i2 q1 q2 h1 h2 e12 => ?_⟩
  · rcases uV_cases hq with ⟨-, -, e3⟩ | ⟨hk, hq⟩
    · rw [e3]
      exact ⟨he, hB⟩
    · exact ⟨(h.1 _ _ _ hq).1.kept (oq _ (lt _ _ _ hq)), (h.1 _ _ _ hq).2⟩
  · rcases uV_cases h1 with ⟨a1, a2, a3⟩ | ⟨n1, h1⟩ <;> rcases uV_cases h2 with ⟨b1, b2, b3⟩ | ⟨n2, h2⟩
    · exact ⟨a1.trans b1.symm, a2.trans b2.symm⟩
    · rw [a3] at e12
      have := lt _ _ _ h2
      have e13 : H.size = q2.1 := e12
      omega
    · rw [b3] at e12
      have := lt _ _ _ h1
      have e13 : q1.1 = H.size := e12
      omega
    · exact h.2 _ _ _ _ _ _ h1 h2 e12
/-- array classes: 0 int, 1 Object, 2 long, 3 boolean -/
def KT (G : Gl) : List (ClassId × FieldType) := [(G.2.1 0, .int), (G.2.1 1, .object "java/lang/Object"), (G.2.1 2, .long), (G.2.1 3, .boolean)]
/-- what stands outside our cells, and words that aren't in TBL -/
def KS (G : Gl) (U : State) (H : Heap) : Prop :=
  (vx_Zq Bundle.tN "UNASSIGNED_STACK" Bundle.steD (aB G) U H ∧ vx_Zq Bundle.tN "SUPPRESSED_SENTINEL" Bundle.listD (aB G) U H) ∧
  (va_Z "java/util/ArrayList" "DEFAULTCAPACITY_EMPTY_ELEMENTDATA" "[Ljava/lang/Object;" (.ref (G.2.1 9)) (aB G) U H ∧ va_T (.object "java/lang/Object") (G.2.1 9) 0 (fun _ => .null) (aB G) U H) ∧
  (∀ q ∈ CSP, va_Nw (.castable q.1 q.2) U) ∧ (∀ q ∈ STR, ∃ sa, vk_R "RuleClasses" q.1 q.2 sa U) ∧ va_Nw (.methodLinkNest "RuleClasses" 21 y_F_init "RuleClasses") U ∧ va_AO "java/lang/Object" U ∧ va_Mi "[Ljava/lang/Object;" (G.2.1 8) U ∧ ∀ y ∈ DCL, va_Nw (.declares y) U
def KK (G : Gl) (U : State) : Prop := va_K G.1 vwCl (KT G) U ∧ KS G U U.heap
theorem KK.go {G : Gl} {s U : State} {locs : List Loc} (h : KK G s) (hW : s.WarmedH U.vm) (hS : va_S (aB G) s.heap U.heap locs) : KK G U := by
  obtain ⟨h1, ⟨⟨a1, a2⟩, ⟨b1, b2⟩, c1, d1, e1, f1, i1, g1⟩⟩ := h
  have ha := hW.alike
  have hk := hS.2.1
  exact ⟨va_K.moved ha h1, ⟨⟨vx_Zq.moved ha (a1.kept hk), vx_Zq.moved ha (a2.kept hk)⟩, ⟨va_Z.moved ha (b1.kept hk), va_T.moved ha (b2.kept hk)⟩, fun q hq => va_Nw.warmC hW (c1 q hq), fun q hq => by
    obtain ⟨sa, h⟩ := d1 q hq
    exact ⟨sa, vk_R.warm hW h⟩, va_Nw.warmM hW e1, va_AO.moved ha f1, va_Mi.moved ha i1, fun y hy => va_Nw.warmD hW (g1 y hy)⟩⟩
theorem KK.same {G : Gl} {u U : State} (h : KK G u) (hh : U.heap = u.heap) (hv : U.vm = u.vm) : KK G U := by
  have hW : u.WarmedH U.vm := by rw [hv]; exact State.WarmedH.refl u
  exact h.go (locs := []) hW (by rw [hh]; exact va_S.rf)
theorem KK.xw {G : Gl} {s : State} {args : Array Value} (h : KK G s) : ∀ w ∈ XWS, w.before args s = true := by
  intro w hw
  rcases List.mem_append.mp hw with hw | hw
  · obtain ⟨q, hq, rfl⟩ := List.mem_map.mp hw
    exact va_Nw.use rfl (h.2.2.2.1 q hq)
  · obtain ⟨q, hq, rfl⟩ := List.mem_map.mp hw
    exact va_Nw.use rfl (h.2.2.2.2.2.2.2.2 q hq)
/-! One row an instruction over the view. F: what a body knows; hS: the view holds, nothing below our first address was written. -/
def HS (G : Gl) (s : State) (V : Vw) (H : Heap) (locs : List Loc) : Prop := HW G V H ∧ va_S (aB G) s.heap H locs ∧ G.2.2 ≤ s.heap.size
def Bd (G : Gl) (p : Program) (l : Launch) (s : State) (m : MethodId) (args : Array Value) (meth : Method) (c : Code) (cc : ByteArray) (nL : Nat) (own : String) : Prop :=
  p.tables.exec = Jvm.exec ∧ c.code = cc ∧ c.maxLocals = nL ∧ s.vm.findClass own = some m.cls ∧ (∀ w ∈ TBL, w.before args s = true) ∧ KK G s ∧ meth.locks = false ∧ l.stackTraces = false
/-- a field's place in the pool of 'own': class number, field number; 'ref' as javac spells its class -/
def FR (ref : String) (T : u_T) (j : Nat) : Prop := ref = (T j).1 ∨ Cond.sameField ref (T j).1 (T j).2.1 (T j).2.2.1 ∈ TBL
def FL (own : String) (index ci j : Nat) : Prop := ∃ (ref C : String) (T : u_T) (N : Nat), vwCl[ci]? = some (C, T, N) ∧ (∀ w ∈ u_ws C T N, w ∈ TBL) ∧ j < N ∧ Cond.fieldLink own index ref (T j).2.1 (T j).2.2.1 ∈ TBL ∧ FR ref T j
/-- what stores need of a class -/
def CT (ci : Nat) : Prop := ∃ (C : String) (T : u_T) (N : Nat), vwCl[ci]? = some (C, T, N) ∧ (∃ ty0 : Nat → FieldType, ∀ k, k < N → parseFieldDescriptor (T k).2.2.1 = some (ty0 k)) ∧ ∀ a, a < N → ∀ b, b < N → a ≠ b → (T a).2.1 ≠ (T b).2.1
def FP (own : String) (index ci j : Nat) (ty : FieldType) (fin : Bool) : Prop := ∃ (ref C : String) (T : u_T) (N : Nat), vwCl[ci]? = some (C, T, N) ∧ (∀ w ∈ u_ws C T N, w ∈ TBL) ∧ j < N ∧ Cond.fieldLink own index ref (T j).2.1 (T j).2.2.1 ∈ TBL ∧ FR ref T j ∧ (T j).2.2.2 = fin ∧ parseFieldDescriptor (T j).2.2.1 = some ty ∧ (fin = true → (T j).1 = own)
theorem FP.get {own : String} {index ci j : Nat} {ty : FieldType} {fin : Bool} (h : FP own index ci j ty fin) : FL own index ci j := by
  obtain ⟨r, C, T, N, h1, h2, h3, h4, h5, -⟩ := h
  exact ⟨r, C, T, N, h1, h2, h3, h4, h5⟩
theorem FR.use {ref : String} {T : u_T} {j : Nat} {args : Array Value} {s : State} (h : FR ref T j) (hts : ∀ w ∈ TBL, w.before args s = true) : ∀ x, s.fieldFound? (T j).1 (T j).2.1 (T j).2.2.1 = some x → s.fieldFound? ref (T j).2.1 (T j).2.2.1 = some x := by
  intro x hx
  rcases h with h | h
  · rw [h]; exact hx
  · exact u_same (hts _ h) x hx
section RW
variable {G : Gl} {p : Program} {l : Launch} {e : Env} {R : Room} {s : State} {m : MethodId} {args : Array Value} {below : List Frame} {meth : Method} {c : Code} {H : Heap} {locs : List Loc} {cells slots : Nat} {Q : State → Prop}
variable {cc : ByteArray} {nL pc : Nat} {own : String} {ls : Array Slot} {rest : List Value} {V : Vw} {k i a : Nat}
theorem r_get (F : Bd G p l s m args meth c cc nL own) (hS : HS G s V H locs) {index ci j : Nat} (fl : FL own index ci j) {fs : List Value} {v : Value} (he : V k i = some (a, .inr (ci, fs))) (hv : fs[j]? = some v) (hdg : decode cc pc = .ok (.getfield index, 3))
    (kk : W p l e R s m args below meth c H locs cells slots Q (F0 m (pc + 3) ls (v :: rest))) : W p l e R s m args below meth c H locs cells slots Q (F0 m pc ls (.ref a :: rest)) := by
  obtain ⟨hx, hb, hml, hown, hts, hK, -, -⟩ := F
  obtain ⟨r, C, T, N, hc, hin, hj, hl, hr⟩ := fl
  exact va_get (D := G.1) (cl := vwCl) (ws := [(a, .inr (ci, fs))]) hx hb hts hin hown hK.1 (hS.1.one he) 0 rfl hc j hj (hts _ hl) (hr.use hts) hv hdg kk
theorem r_put (F : Bd G p l s m args meth c cc nL own) (hS : HS G s V H locs) {index ci j : Nat} {ty : FieldType} (fl : FP own index ci j ty false) (ct : CT ci) {fs : List Value} {v : Value} (he : V k i = some (a, .inr (ci, fs))) (hn : narrow ty v = v) (hfit : fits ty v = true) (hl : j < fs.length) (hdg : decode cc pc = .ok (.putfield index, 3))
    (kk : ∀ (H1 : Heap) (locs1 : List Loc), HS G s (uV V k i (a, .inr (ci, fs.set j v))) H1 locs1 → W p l e R s m args below meth c H1 locs1 cells slots Q (F0 m (pc + 3) ls rest)) : W p l e R s m args below meth c H locs cells slots Q (F0 m pc ls (v :: .ref a :: rest)) := by
  obtain ⟨hx, hb, hml, hown, hts, hK, -, -⟩ := F
  obtain ⟨rf, C, T, N, hc, hin, hj, hlk, hrf, hfin, hd, -⟩ := fl
  obtain ⟨C', T', N', hc', ⟨ty0, hty⟩, hnm⟩ := ct
  cases Option.some.inj (hc.symm.trans hc')
  have hap := va_apart (own := own) hts hin ty0 hty hnm hK.1 hc
  obtain ⟨r, h1, cell, q1, q2, q3, q4⟩ := (hS.1.1 _ _ _ he).1
  have hr : r = (C, T, N) := Option.some.inj (h1.symm.trans hc)
  subst hr
  obtain ⟨hS0, hfc, kC, hkC, hkind⟩ := hK.1.1 ci _ hc
  obtain ⟨cf, kf, fi, f, hi, hsl⟩ := hS0 j hj
  have hlay := hts _ (hin _ (u_in_lay hj))
  unfold u_lay at hlay
  rw [if_neg (by rw [hfin]; decide)] at hlay
  have hst := (u_facts hfc hkC (u_lays hts hin hj) hi).1
  have h6 := u_store hfc hkC hkind hlay hi hd hn hfit
  refine W.putK hx hb (f := f) ⟨hown, hts _ hlk, ⟨_, _, _, hrf.use hts _ hi⟩, hst⟩ (by rw [q2]; exact h6) q1 q3 (by rw [hsl]; exact k2_hasslot (q4 j hj)) rfl rfl hdg fun H' e1 e2 e3 => ?_
  rw [hsl] at e1 ⊢
  exact kk H' _ ⟨hS.1.set he ⟨_, hc, t_OB.to (V := updV (vp_V fs) j v) ⟨_, e1, q2, q3, t_set q4 hap hj v⟩ (fun n _ => vp_updV_set hl v n)⟩ e3, hS.2.1.put e2 e3 (hS.1.1 _ _ _ he).2, hS.2.2⟩
theorem r_putF (F : Bd G p l s m args meth c cc nL own) (hS : HS G s V H locs) {index ci j : Nat} {ty : FieldType} (fl : FP own index ci j ty true) (ct : CT ci) (hin2 : meth.name = "<init>") {fs : List Value} {v : Value} (he : V k i = some (a, .inr (ci, fs))) (hn : narrow ty v = v) (hfit : fits ty v = true) (hl : j < fs.length) (hdg : decode cc pc = .ok (.putfield index, 3))
    (kk : ∀ (H1 : Heap) (locs1 : List Loc), HS G s (uV V k i (a, .inr (ci, fs.set j v))) H1 locs1 → W p l e R s m args below meth c H1 locs1 cells slots Q (F0 m (pc + 3) ls rest)) : W p l e R s m args below meth c H locs cells slots Q (F0 m pc ls (v :: .ref a :: rest)) := by
  obtain ⟨hx, hb, hml, hown, hts, hK, -, -⟩ := F
  obtain ⟨rf, C, T, N, hc, hin, hj, hlk, hrf, hfin, hd, hdecl⟩ := fl
  have hdecl := hdecl rfl
  obtain ⟨C', T', N', hc', ⟨ty0, hty⟩, hnm⟩ := ct
  cases Option.some.inj (hc.symm.trans hc')
  have hap := va_apart (own := own) hts hin ty0 hty hnm hK.1 hc
  obtain ⟨r, h1, cell, q1, q2, q3, q4⟩ := (hS.1.1 _ _ _ he).1
  have hr : r = (C, T, N) := Option.some.inj (h1.symm.trans hc)
  subst hr
  obtain ⟨hS0, hfc, kC, hkC, hkind⟩ := hK.1.1 ci _ hc
  obtain ⟨cf, kf, fi, f, hi, hsl⟩ := hS0 j hj
  have hlay := hts _ (hin _ (u_in_lay hj))
  unfold u_lay at hlay
  rw [if_pos hfin] at hlay
  have hst := (u_facts hfc hkC (u_lays hts hin hj) hi).1
  have hcf : m.cls = cf := by
    obtain ⟨_, _, c', _, _, _, -, -, hf', -, -, -, hown2, -⟩ := Cond.laysFinal_spec hlay
    have e1 : c' = cf := by have := hi.symm.trans hf'; simp at this; exact this.1.symm
    rw [hdecl] at hown2
    rw [← e1]; exact Option.some.inj (hown.symm.trans hown2)
  have h6 := u_fits hfc hkC hkind (Or.inr hlay) hi hd hn hfit
  refine W.putFinK hx hb hown (hts _ hlk) (hrf.use hts _ hi) hst hcf hin2 (by rw [q2]; exact h6) q1 q3 (by rw [hsl]; exact k2_hasslot (q4 j hj)) rfl rfl hdg fun H' e1 e2 e3 => ?_
  rw [hsl] at e1 ⊢
  exact kk H' _ ⟨hS.1.set he ⟨_, hc, t_OB.to (V := updV (vp_V fs) j v) ⟨_, e1, q2, q3, t_set q4 hap hj v⟩ (fun n _ => vp_updV_set hl v n)⟩ e3, hS.2.1.put e2 e3 (hS.1.1 _ _ _ he).2, hS.2.2⟩
theorem r_iald (F : Bd G p l s m args meth c cc nL own) (hS : HS G s V H locs) {n : Nat} {f : Nat → Int32} (he : V k i = some (a, .inl (G.2.1 0, n, .inl f))) {x : Int32} (hin : vp_in x n) (hdg : decode cc pc = .ok (.iaload, 1))
    (kk : W p l e R s m args below meth c H locs cells slots Q (F0 m (pc + 1) ls (.int (f x.toNatClampNeg) :: rest))) : W p l e R s m args below meth c H locs cells slots Q (F0 m pc ls (.int x :: .ref a :: rest)) := by
  obtain ⟨hx, hb, hml, hown, hts, hK, -, -⟩ := F
  exact va_iald (D := G.1) (cl := vwCl) (ws := [(a, .inl (G.2.1 0, n, .inl f))]) hx hb hK.1 (hS.1.one he) 0 0 rfl rfl hin hdg kk
theorem r_iast (F : Bd G p l s m args meth c cc nL own) (hS : HS G s V H locs) {n : Nat} {f : Nat → Int32} (he : V k i = some (a, .inl (G.2.1 0, n, .inl f))) {x y : Int32} (hin : vp_in x n) (hdg : decode cc pc = .ok (.iastore, 1))
    (kk : ∀ (H1 : Heap) (locs1 : List Loc), HS G s (uV V k i (a, .inl (G.2.1 0, n, .inl (upd f x.toNatClampNeg y)))) H1 locs1 → W p l e R s m args below meth c H1 locs1 cells slots Q (F0 m (pc + 1) ls rest)) : W p l e R s m args below meth c H locs cells slots Q (F0 m pc ls (.int y :: .int x :: .ref a :: rest)) := by
  obtain ⟨hx, hb, hml, hown, hts, hK, -, -⟩ := F
  have hc : H[a]? = some (vp_cell (G.2.1 0) (n, .inl f)) := (hS.1.1 _ _ _ he).1
  have hA := (hK.1.2 0 (G.2.1 0, .int) rfl).1 n (fun j => .int (f j))
  refine W.iast hx hb hc hA (fun q => by cases q) (by show ¬ (x < 0 ∨ (arrV _ _ _).slots.size ≤ _); rw [arrV_size]; exact hin) rfl rfl hdg fun H1 e1 z oq => ?_
  refine kk H1 _ ⟨hS.1.set he ?_ oq, hS.2.1.put z oq (hS.1.1 _ _ _ he).2, hS.2.2⟩
  show H1[a]? = some (vp_cell _ _)
  rw [e1, vp_cell_i, vp_cell_i, arrV_store]
  congr 2
  funext q
  by_cases hq : q = x.toNatClampNeg
  · subst hq
    simp [updV, upd]
  · simp [updV, upd, hq]
theorem r_alen (F : Bd G p l s m args meth c cc nL own) (hS : HS G s V H locs) {t n : Nat} {x : vp_A} (he : V k i = some (a, .inl (G.2.1 t, x))) (ht : t < 2) {v : Int32} (hv : Int32.ofNat x.1 = v) (hdg : decode cc pc = .ok (.arraylength, 1))
    (kk : W p l e R s m args below meth c H locs cells slots Q (F0 m (pc + 1) ls (.int v :: rest))) : W p l e R s m args below meth c H locs cells slots Q (F0 m pc ls (.ref a :: rest)) := by
  obtain ⟨hx, hb, hml, hown, hts, hK, -, -⟩ := F
  rcases (show t = 0 ∨ t = 1 by omega) with rfl | rfl
  · exact va_alen (D := G.1) (cl := vwCl) (ws := [(a, .inl (G.2.1 0, x))]) hx hb hK.1 (hS.1.one he) 0 0 rfl (ty := .int) rfl hv hdg kk
  · exact va_alen (D := G.1) (cl := vwCl) (ws := [(a, .inl (G.2.1 1, x))]) hx hb hK.1 (hS.1.one he) 0 1 rfl (ty := .object "java/lang/Object") rfl hv hdg kk
theorem r_aald (F : Bd G p l s m args meth c cc nL own) (hS : HS G s V H locs) {n : Nat} {f : Nat → Option Nat} (he : V k i = some (a, .inl (G.2.1 1, n, .inr (.inr (.inr (.inr f)))))) {x : Int32} (hin : vp_in x n) (hdg : decode cc pc = .ok (.aaload, 1))
    (kk : W p l e R s m args below meth c H locs cells slots Q (F0 m (pc + 1) ls (va_rf (f x.toNatClampNeg) :: rest))) : W p l e R s m args below meth c H locs cells slots Q (F0 m pc ls (.int x :: .ref a :: rest)) := by
  obtain ⟨hx, hb, hml, hown, hts, hK, -, -⟩ := F
  exact va_aldq (D := G.1) (cl := vwCl) (ws := [(a, .inl (G.2.1 1, n, .inr (.inr (.inr (.inr f)))))]) (C := "java/lang/Object") hx hb hK.1 (hS.1.one he) 0 1 rfl rfl hin hdg kk
/-- new: the cell gets the kind k and the number i -/
theorem r_new (F : Bd G p l s m args meth c cc nL own) (hS : HS G s V H locs) (k i : Nat) {index ci N : Nat} {C : String} {T : u_T} (hc : vwCl[ci]? = some (C, T, N)) (hin : ∀ w ∈ u_ws C T N, w ∈ TBL) (ty : Nat → FieldType) (hty : ∀ k, k < N → parseFieldDescriptor (T k).2.2.1 = some (ty k)) (hcl : Cond.classLink own index C ∈ TBL) (hinst : Cond.instantiable C N ∈ TBL) (hini : Cond.initialized C ∈ TBL)
    {fs : List Value} (hfs : ∀ j, j < N → defaultValue (ty j) = vp_V fs j) (hcells : cells + 1 ≤ R.cells) (hslots : slots + N ≤ R.slots) (hdg : decode cc pc = .ok (.new index, 3))
    (kk : ∀ (q : Nat) (H1 : Heap), HS G s (uV V k i (q, .inr (ci, fs))) H1 locs → W p l e R s m args below meth c H1 locs (cells + 1) (slots + N) Q (F0 m (pc + 3) ls (.ref q :: rest))) : W p l e R s m args below meth c H locs cells slots Q (F0 m pc ls rest) := by
  obtain ⟨hx, hb, hml, hown, hts, hK, -, -⟩ := F
  have hKn := hK.1.1 ci _ hc
  refine W.newcK hx hb hown (hts _ hcl) (hts _ hinst) (hts _ hini) rfl hdg hcells hslots hKn.2.1 rfl fun H1 kC hkC e1 z1 o1 => ?_
  refine kk H.size H1 ⟨hS.1.push (Nat.le_trans hS.2.2 hS.2.1.1) ⟨_, hc, (u_born ty hts hin hKn hkC e1 hty).to hfs⟩ o1, ⟨Nat.le_trans hS.2.1.1 (by omega), fun x h1 h2 => (o1 x (Nat.lt_of_lt_of_le h1 hS.2.1.1)).trans (hS.2.1.2.1 x h1 h2), hS.2.1.2.2⟩, hS.2.2⟩
/-- newarray int -/
theorem r_newi (F : Bd G p l s m args meth c cc nL own) (hS : HS G s V H locs) (k i : Nat) (harr : Cond.arrayClass (newarray.typeOf .int) ∈ TBL) {n : Int32} {N : Nat} (hn : ¬ n < 0) (hN : n.toNatClampNeg = N) (hbytes : N * 4 ≤ 536870912) (hcells : cells + 1 ≤ R.cells) (hslots : slots + N ≤ R.slots) (hdg : decode cc pc = .ok (.newarray .int, 2))
    (kk : ∀ (q : Nat) (H1 : Heap), HS G s (uV V k i (q, .inl (G.2.1 0, N, .inl (fun _ => 0)))) H1 locs → W p l e R s m args below meth c H1 locs (cells + 1) (slots + N) Q (F0 m (pc + 2) ls (.ref q :: rest))) : W p l e R s m args below meth c H locs cells slots Q (F0 m pc ls (.int n :: rest)) := by
  obtain ⟨hx, hb, hml, hown, hts, hK, -, -⟩ := F
  refine va_newaK hx hb (hts _ harr) rfl hdg rfl hn hN hbytes hcells hslots rfl fun H1 cA e1 z1 o1 hAr hNm => ?_
  have hcA : cA = G.2.1 0 := Option.some.inj (hNm.symm.trans (hK.1.2 0 (G.2.1 0, .int) rfl).2)
  subst hcA
  exact kk H.size H1 ⟨hS.1.push (Nat.le_trans hS.2.2 hS.2.1.1) e1 o1, ⟨Nat.le_trans hS.2.1.1 (by omega), fun x h1 h2 => (o1 x (Nat.lt_of_lt_of_le h1 hS.2.1.1)).trans (hS.2.1.2.1 x h1 h2), hS.2.1.2.2⟩, hS.2.2⟩
end RW
end
section
/-! Contracts over the view: Cm (returns), Cx (returns or throws); their bodies' starts and ends; calls. -/
abbrev wsY (y : MethodName) (cc : ByteArray) (maxL : Nat) (ret : Option FieldType) : List Cond := Cond.code y cc maxL ret :: TBL
def PreC (G : Gl) (V : Vw) (As : List Value) : Array Value → State → Prop := va_Pc As (fun U => HW G V U.heap ∧ G.2.2 ≤ U.heap.size ∧ KK G U)
def QcC (G : Gl) (Rt : Option Value → Vw → Prop) : Array Value → State → Outcome → State → Prop := fun _ st oc t => (∃ (r : Option Value) (V' : Vw), oc = .returned r ∧ Rt r V' ∧ HW G V' t.heap) ∧ va_F (aB G) st t
def Cm (G : Gl) (l : Launch) (y : MethodName) (cc : ByteArray) (maxL : Nat) (ret : Option FieldType) (rm : Room) (V : Vw) (As : List Value) (Rt : Option Value → Vw → Prop) : Prop :=
  Met l y (wsY y cc maxL ret) rm (PreC G V As) (QcC G Rt) rm.cells rm.slots (aB G)
theorem PreC.blind (G : Gl) (V : Vw) (As : List Value) : FrameBlind (PreC G V As) := by
  intro a U g mk h
  obtain ⟨h1, h2, h3, h4⟩ := h
  exact ⟨h1, h2, h3, h4.same rfl rfl⟩
theorem PreC.at {G : Gl} {V : Vw} {As : List Value} {s U : State} {H : Heap} {locs : List Loc} (hS : HS G s V H locs) (hK : KK G s) (hU : U.heap = H) (hW : s.WarmedH U.vm) : PreC G V As As.toArray U :=
  ⟨rfl, by rw [hU]; exact hS.1, by rw [hU]; exact Nat.le_trans hS.2.2 hS.2.1.1, hK.go hW (by rw [hU]; exact hS.2.1)⟩
/-- a method's place in the pool of 'own' -/
def ML (own : String) (index : Nat) (y : MethodName) (bytes : ByteArray) (maxL : Nat) (ret : Option FieldType) (n : Nat) : Prop :=
  Cond.methodLink own index y ∈ TBL ∧ Cond.code y bytes maxL ret ∈ TBL ∧ Cond.initialized y.cls ∈ TBL ∧ (y.cls ≠ "java/lang/invoke/MethodHandle" ∧ y.cls ≠ "java/lang/invoke/VarHandle") ∧ (parseMethodDescriptor y.desc).map (fun d => d.parameters.length) = some n
def MLV (own : String) (index : Nat) (y : MethodName) (C : String) (bytes : ByteArray) (maxL : Nat) (ret : Option FieldType) (n : Nat) : Prop := ML own index y bytes maxL ret n ∧ Cond.instanceMethod y ∈ TBL ∧ Cond.selects C y y ∈ TBL
def MLS (own : String) (index : Nat) (y : MethodName) (bytes : ByteArray) (maxL : Nat) (ret : Option FieldType) (n : Nat) : Prop := ML own index y bytes maxL ret n ∧ Cond.static y ∈ TBL
def MLI (own : String) (index : Nat) (y : MethodName) (bytes : ByteArray) (maxL : Nat) (n : Nat) : Prop := ML own index y bytes maxL none n ∧ y.name = "<init>" ∧ Cond.instanceMethod y ∈ TBL
section CC
variable {G : Gl} {p : Program} {l : Launch} {e : Env} {R : Room} {s : State} {m : MethodId} {args : Array Value} {below : List Frame} {meth : Method} {c : Code} {H : Heap} {locs : List Loc} {cells slots : Nat} {Q : State → Prop}
variable {cc : ByteArray} {nL pc : Nat} {own : String} {ls : Array Slot} {rest st0 : List Value} {V : Vw}
variable {y : MethodName} {bytes : ByteArray} {maxL n index : Nat} {ret : Option FieldType} {rm : Room} {As : List Value} {Rt : Option Value → Vw → Prop}
theorem good_T (w : Cond) (h : w ∈ TBL) : goodWord w = true := (List.mem_filter.mp h).2
theorem pay_Y {s : State} {args : Array Value} (hts : ∀ w ∈ TBL, w.before args s = true) (hc : Cond.code y bytes maxL ret ∈ TBL) : ∀ w ∈ wsY y bytes maxL ret, ∀ (a' : Array Value) (U : State), s.WarmedH U.vm → w.before a' U = true := by
  intro w hw a' U hW
  have h1 : w ∈ TBL := by
    rcases List.mem_cons.mp hw with h | h
    · rw [h]; exact hc
    · exact h
  exact word_at hW (good_of_word (good_T w h1)) (hts w h1)
theorem ML.cb (h : ML own index y bytes maxL ret n) (hts : ∀ w ∈ TBL, w.before args s = true) (hR : rm.frames + 1 ≤ R.frames ∧ 8 + (maxL + 11) + rm.locals ≤ R.locals) : CallB R s args own index y bytes maxL ret (wsY y bytes maxL ret) rm rm.cells rm.slots n := by
  obtain ⟨h1, h2, h3, h4, h5⟩ := h
  refine ⟨rfl, rfl, hR.1, hR.2, pay_Y hts h2, List.mem_cons_self, hts _ h2, hts _ h3, h4, fun sig hs => ?_, hts _ h1⟩
  rw [hs] at h5
  exact (Option.some.inj h5).symm
/-- behind a call that returns -/
theorem k_back {a : Array Value} (hr : va_Run p l e R s m args below meth c H locs cells slots rm.cells rm.slots (F0 m pc ls st0) rest (QcC G Rt a) (aB G)) (hS : HS G s V H locs)
    (kk : ∀ (r : Option Value) (V' : Vw) (H1 : Heap) (locs1 : List Loc), Rt r V' → HS G s V' H1 locs1 → W p l e R s m args below meth c H1 locs1 (cells + rm.cells) (slots + rm.slots) Q (F0 m (pc + 3) ls (r.toList ++ rest))) : W p l e R s m args below meth c H locs cells slots Q (F0 m pc ls st0) := by
  intro T hT X
  obtain ⟨v, st₀, t, T', L, h0, X', hL, e1, e2, ⟨⟨r, V', hv, hp, hw⟩, hz, hk⟩, st⟩ := hr T hT X
  cases hv
  rw [h0] at hz hk
  have hlt := hS.2.1.1
  obtain ⟨t2, a1, b1⟩ := kk v V' T'.heap (locs ++ L) hp ⟨by rw [e1]; exact hw, ⟨Nat.le_trans hlt (by rw [e1]; exact hz), fun q g1 g2 => by rw [e1, hk q (Nat.lt_of_lt_of_le g1 hlt) g2]; exact hS.2.1.2.1 q g1 g2, fun q hq => by
      rcases List.mem_append.mp hq with h | h
      · exact hS.2.1.2.2 q h
      · exact hL q h⟩, hS.2.2⟩ T' rfl X'
  exact ⟨t2, st t2 a1, b1⟩
theorem recv_of_view {k i b ci : Nat} {fs : List Value} {q : vw_C} (hS : HS G s V H locs) (hK : KK G s) (hc : vwCl[ci]? = some q) (he : V k i = some (b, .inr (ci, fs))) : ∃ cell : Cell, H[b]? = some cell ∧ cell.vm.isStatics = false ∧ s.vm.findClass q.1 = some cell.cls :=
  va_recv (ws := [(b, .inr (ci, fs))]) (q0 := 0) hK.1 (hS.1.one he) hc rfl
theorem r_callV (F : Bd G p l s m args meth c cc nL own) (hS : HS G s V H locs) {k i b ci : Nat} {fs : List Value} {q : vw_C} (ml : MLV own index y q.1 bytes maxL ret n) (hM : Cm G l y bytes maxL ret rm V (.ref b :: As) Rt) (hc : vwCl[ci]? = some q) (he : V k i = some (b, .inr (ci, fs)))
    (hn : As.length = n) (hsz : ls.size = nL) (hst : st0 = As.reverse ++ .ref b :: rest) (hw : (rest.map fun v => v.category).sum ≤ 8) (hdg : decode cc pc = .ok (.invokevirtual index, 3)) (hR : rm.frames + 1 ≤ R.frames ∧ 8 + (maxL + 11) + rm.locals ≤ R.locals) (hf : cells + rm.cells ≤ R.cells ∧ slots + rm.slots ≤ R.slots)
    (kk : ∀ (r : Option Value) (V' : Vw) (H1 : Heap) (locs1 : List Loc), Rt r V' → HS G s V' H1 locs1 → W p l e R s m args below meth c H1 locs1 (cells + rm.cells) (slots + rm.slots) Q (F0 m (pc + 3) ls (r.toList ++ rest))) : W p l e R s m args below meth c H locs cells slots Q (F0 m pc ls st0) := by
  obtain ⟨hx, hb, hml, hown, hts, hK, -, -⟩ := F
  exact k_back (va_runV (C := q.1) (As := As) (rest := rest) ⟨hx, hb, hml, hown, hts⟩ hM ⟨ml.1.cb hts hR, hts _ ml.2.1, hts _ ml.2.2⟩ ⟨PreC.blind _ _ _, recv_of_view hS hK hc he, fun U hU hW => PreC.at hS hK hU hW⟩ rfl hn hsz hst (lv_room hw) hdg hf) hS kk
theorem r_callS (F : Bd G p l s m args meth c cc nL own) (hS : HS G s V H locs) (ml : MLS own index y bytes maxL ret n) (hM : Cm G l y bytes maxL ret rm V As Rt)
    (hn : As.length = n) (hsz : ls.size = nL) (hst : st0 = As.reverse ++ rest) (hw : (rest.map fun v => v.category).sum ≤ 8) (hdg : decode cc pc = .ok (.invokestatic index, 3)) (hR : rm.frames + 1 ≤ R.frames ∧ 8 + (maxL + 11) + rm.locals ≤ R.locals) (hf : cells + rm.cells ≤ R.cells ∧ slots + rm.slots ≤ R.slots)
    (kk : ∀ (r : Option Value) (V' : Vw) (H1 : Heap) (locs1 : List Loc), Rt r V' → HS G s V' H1 locs1 → W p l e R s m args below meth c H1 locs1 (cells + rm.cells) (slots + rm.slots) Q (F0 m (pc + 3) ls (r.toList ++ rest))) : W p l e R s m args below meth c H locs cells slots Q (F0 m pc ls st0) := by
  obtain ⟨hx, hb, hml, hown, hts, hK, -, -⟩ := F
  exact k_back (va_runS (As := As) (rest := rest) ⟨hx, hb, hml, hown, hts⟩ hM ⟨ml.1.cb hts hR, hts _ ml.2⟩ ⟨PreC.blind _ _ _, fun U hU hW => PreC.at hS hK hU hW⟩ rfl hn hsz hst (lv_room hw) hdg hf) hS kk
theorem r_callI (F : Bd G p l s m args meth c cc nL own) (hS : HS G s V H locs) {b : Nat} (ml : MLI own index y bytes maxL n) (hM : Cm G l y bytes maxL none rm V (.ref b :: As) Rt)
    (hn : As.length = n) (hsz : ls.size = nL) (hst : st0 = As.reverse ++ .ref b :: rest) (hw : (rest.map fun v => v.category).sum ≤ 8) (hdg : decode cc pc = .ok (.invokespecial index, 3)) (hR : rm.frames + 1 ≤ R.frames ∧ 8 + (maxL + 11) + rm.locals ≤ R.locals) (hf : cells + rm.cells ≤ R.cells ∧ slots + rm.slots ≤ R.slots)
    (kk : ∀ (r : Option Value) (V' : Vw) (H1 : Heap) (locs1 : List Loc), Rt r V' → HS G s V' H1 locs1 → W p l e R s m args below meth c H1 locs1 (cells + rm.cells) (slots + rm.slots) Q (F0 m (pc + 3) ls (r.toList ++ rest))) : W p l e R s m args below meth c H locs cells slots Q (F0 m pc ls st0) := by
  obtain ⟨hx, hb, hml, hown, hts, hK, -, -⟩ := F
  exact k_back (va_runI (As := As) (rest := rest) ⟨hx, hb, hml, hown, hts⟩ hM ⟨ml.1.cb hts hR, ml.2.1, hts _ ml.2.2⟩ ⟨PreC.blind _ _ _, fun U hU hW => PreC.at hS hK hU hW⟩ rfl hn hsz hst (lv_room hw) hdg hf) hS kk
/-- a body's start -/
theorem Cm.of (htr : l.stackTraces = false) (hy : plainName y.cls = true) (hlen : (lg_sl As).length ≤ maxL)
    (body : ∀ (p : Program) (e : Env) (s : State) (m : MethodId) (args : Array Value) (below : List Frame) (meth : Method) (c : Code) (ls : Array Slot), Bd G p l s m args meth c cc maxL y.cls → meth.sig.returnType = ret → meth.name = y.name → HS G s V s.heap [] → lv_has ls maxL (lv_args 0 As) →
      W p l e rm s m args below meth c s.heap [] 0 0 (MQ below (QcC G Rt) args s rm.cells rm.slots (aB G)) (F0 m 0 ls [])) : Cm G l y cc maxL ret rm V As Rt := by
  refine Met.ofW (cc := cc) (maxL := maxL) (ret := ret) hy rfl ?_
  intro p e s m args below meth c s₁ B hml hv
  obtain ⟨rfl, hW, hz, hK⟩ := hv
  have hts := atoms_spec (ws := wsY y cc maxL ret) B.pre
  have hl := lv_entry As (n := maxL) hlen
  rw [lg_entry_eq]
  exact body p e s m _ below meth c _ ⟨B.exec, B.bytes, hml, findClass_of_methodNamed B.named, fun w h => hts w (List.mem_cons_of_mem _ h), hK, B.notSynchronized, htr⟩ B.returns (name_of_methodNamed B.named B.method).1 ⟨hW, va_S.rf, hz⟩ hl
theorem m_reti (F : Bd G p l s m args meth c cc nL own) (hr : meth.sig.returnType = some .int) (hS : HS G s V H locs) (hc : cells ≤ rm.cells) (hs : slots ≤ rm.slots) {v : Int32} (hq : Rt (some (.int v)) V) (hdg : decode cc pc = .ok (.ireturn, 1)) :
    W p l e R s m args below meth c H locs cells slots (MQ below (QcC G Rt) args s rm.cells rm.slots (aB G)) (F0 m pc ls [.int v]) := by
  obtain ⟨hx, hb, hml, hown, hts, hK, hlk, -⟩ := F
  exact W.widen hc hs (W.iret hx hb hr (fun t ht hW => ⟨⟨_, V, rfl, hq, by rw [ht]; exact hS.1⟩, hS.2.1.F ht⟩) hS.2.1.2.2 hdg (hlocks := hlk))
theorem m_retz (F : Bd G p l s m args meth c cc nL own) (hr : meth.sig.returnType = some .boolean) (hS : HS G s V H locs) (hc : cells ≤ rm.cells) (hs : slots ≤ rm.slots) {v : Int32} (hn : narrow .boolean (.int v) = .int v) (hq : Rt (some (.int v)) V) (hdg : decode cc pc = .ok (.ireturn, 1)) :
    W p l e R s m args below meth c H locs cells slots (MQ below (QcC G Rt) args s rm.cells rm.slots (aB G)) (F0 m pc ls [.int v]) := by
  obtain ⟨hx, hb, hml, hown, hts, hK, hlk, -⟩ := F
  exact W.widen hc hs (W.zret hx hb hr hn (fun t ht hW => ⟨⟨_, V, rfl, hq, by rw [ht]; exact hS.1⟩, hS.2.1.F ht⟩) hS.2.1.2.2 hdg (hlocks := hlk))
theorem m_retv (F : Bd G p l s m args meth c cc nL own) (hr : meth.sig.returnType = none) (hS : HS G s V H locs) (hc : cells ≤ rm.cells) (hs : slots ≤ rm.slots) (hq : Rt none V) (hdg : decode cc pc = .ok (.return_, 1)) :
    W p l e R s m args below meth c H locs cells slots (MQ below (QcC G Rt) args s rm.cells rm.slots (aB G)) (F0 m pc ls []) := by
  obtain ⟨hx, hb, hml, hown, hts, hK, hlk, -⟩ := F
  exact W.widen hc hs (W.vret hx hb hr (fun t ht hW => ⟨⟨_, V, rfl, hq, by rw [ht]; exact hS.1⟩, hS.2.1.F ht⟩) hS.2.1.2.2 hdg (hlocks := hlk))
theorem m_reta (F : Bd G p l s m args meth c cc nL own) {rt : FieldType} (hr : meth.sig.returnType = some rt) (hrt : (∃ n, rt = .object n) ∨ ∃ t, rt = .array t) (hS : HS G s V H locs) (hc : cells ≤ rm.cells) (hs : slots ≤ rm.slots) {v : Value} (hv : v = .null ∨ ∃ a, v = .ref a) (hq : Rt (some v) V) (hdg : decode cc pc = .ok (.areturn, 1)) :
    W p l e R s m args below meth c H locs cells slots (MQ below (QcC G Rt) args s rm.cells rm.slots (aB G)) (F0 m pc ls [v]) := by
  obtain ⟨hx, hb, hml, hown, hts, hK, hlk, -⟩ := F
  exact W.widen hc hs (W.aret hx hb hr hrt hv (fun t ht hW => ⟨⟨_, V, rfl, hq, by rw [ht]; exact hS.1⟩, hS.2.1.F ht⟩) hS.2.1.2.2 hdg (hlocks := hlk))
end CC
end
section
/-! Methods that return or throw, over the view. -/
def NMS : List String := ["java/lang/RuntimeException", "java/lang/Exception"]
def XcC (G : Gl) (Th : String → Vw → Prop) : String → State → State → Prop := fun E st t => ∃ V' : Vw, Th E V' ∧ HW G V' t.heap ∧ va_F (aB G) st t
def Cx (G : Gl) (l : Launch) (y : MethodName) (cc : ByteArray) (maxL : Nat) (ret : Option FieldType) (rm : Room) (V : Vw) (As : List Value) (Rt : Option Value → Vw → Prop) (Th : String → Vw → Prop) : Prop :=
  vx_Met l y (wsY y cc maxL ret) rm (PreC G V As) (QcC G Rt) (XcC G Th) rm.cells rm.slots (aB G)
/-- what a 'throw new E("text")' of the class needs -/
def TW (own : String) (ik ic : Nat) (cls : String) : Prop :=
  Bundle.fit cls = true ∧ (∀ n ∈ NMS, Bundle.fit n = true) ∧ Cond.classLink own ik cls ∈ TBL ∧ Cond.initialized cls ∈ TBL ∧ (∀ w ∈ (vx_atS own ic cls NMS).filter goodWord, w ∈ tables_1) ∧ (∀ w ∈ (vx_atS own ic cls NMS).filter (fun w => !goodWord w), w ∈ XWS) ∧ ∀ w ∈ Cond.classLink own ik cls :: Cond.initialized cls :: vx_atS own ic cls NMS, vx_ot w = true
section XX
variable {G : Gl} {p : Program} {l : Launch} {e : Env} {R : Room} {s : State} {m : MethodId} {args : Array Value} {below : List Frame} {meth : Method} {c : Code} {H : Heap} {locs : List Loc} {cells slots : Nat} {Q : State → Prop}
variable {cc : ByteArray} {nL pc : Nat} {own : String} {ls : Array Slot} {rest st0 : List Value} {V : Vw}
variable {y : MethodName} {bytes : ByteArray} {maxL n index : Nat} {ret : Option FieldType} {rm : Room} {As : List Value} {Rt : Option Value → Vw → Prop} {Th : String → Vw → Prop}
theorem Cx.of (htr : l.stackTraces = false) (hy : plainName y.cls = true) (hlen : (lg_sl As).length ≤ maxL)
    (body : ∀ (p : Program) (e : Env) (s : State) (m : MethodId) (args : Array Value) (below : List Frame) (meth : Method) (c : Code) (ls : Array Slot), Bd G p l s m args meth c cc maxL y.cls → meth.sig.returnType = ret → (∀ x ∈ c.exceptionTable.toList, False) → HS G s V s.heap [] → lv_has ls maxL (lv_args 0 As) →
      W p l e rm s m args below meth c s.heap [] 0 0 (vx_MQ below (QcC G Rt) (XcC G Th) args s rm.cells rm.slots (aB G)) (F0 m 0 ls [])) : Cx G l y cc maxL ret rm V As Rt Th := by
  refine vx_ofW (cc := cc) (maxL := maxL) (ret := ret) hy rfl ?_
  intro p e s m args below meth c s₁ B hml hex hv
  obtain ⟨rfl, hW, hz, hK⟩ := hv
  have hts := atoms_spec (ws := wsY y cc maxL ret) B.pre
  have hl := lv_entry As (n := maxL) hlen
  rw [lg_entry_eq]
  exact body p e s m _ below meth c _ ⟨B.exec, B.bytes, hml, findClass_of_methodNamed B.named, fun w h => hts w (List.mem_cons_of_mem _ h), hK, B.notSynchronized, htr⟩ B.returns hex ⟨hW, va_S.rf, hz⟩ hl
/-- a contract that never throws is one that may -/
theorem x_back {a : Array Value} (hr : vx_Run p l e R s m args below meth c H locs cells slots rm.cells rm.slots (F0 m pc ls st0) rest (QcC G Rt a) (XcC G Th) (aB G)) (hS : HS G s V H locs)
    (kx : ∀ (q9 : Addr) (E : String) (ce : Cell) (V' : Vw) (H1 : Heap) (locs1 : List Loc), Th E V' → HS G s V' H1 locs1 → (H1[q9]? = some ce ∧ ce.vm = .none ∧ s.vm.findClass E = some ce.cls) → vx_W p l e R s m args below meth c H1 locs1 (cells + rm.cells) (slots + rm.slots) Q (F0 m pc ls rest) q9)
    (kk : ∀ (r : Option Value) (V' : Vw) (H1 : Heap) (locs1 : List Loc), Rt r V' → HS G s V' H1 locs1 → W p l e R s m args below meth c H1 locs1 (cells + rm.cells) (slots + rm.slots) Q (F0 m (pc + 3) ls (r.toList ++ rest))) : W p l e R s m args below meth c H locs cells slots Q (F0 m pc ls st0) := by
  have hlt := hS.2.1.1
  have key : ∀ {st₀ t T' : State} {L : List Loc}, st₀.heap = H → T'.heap = t.heap → (∀ q ∈ L, aB G q.base) → va_F (aB G) st₀ t → va_S (aB G) s.heap T'.heap (locs ++ L) := by
    intro st₀ t T' L h0 e1 hL hF
    obtain ⟨hz, hk⟩ := hF
    rw [h0] at hz hk
    refine ⟨Nat.le_trans hlt (by rw [e1]; exact hz), fun q g1 g2 => by rw [e1, hk q (Nat.lt_of_lt_of_le g1 hlt) g2]; exact hS.2.1.2.1 q g1 g2, fun q hq => ?_⟩
    rcases List.mem_append.mp hq with h | h
    · exact hS.2.1.2.2 q h
    · exact hL q h
  intro T hT X
  rcases hr T hT X with ⟨v, st₀, t, T', L, h0, X', hL, e1, e2, ⟨⟨r, V', hv, hp, hw⟩, hF⟩, st⟩ | ⟨q, st₀, t, T', L, E, ce, h0, X', hL, e1, e2, ⟨V', hTh, hw, hF⟩, hce, hcv, hcl, st⟩
  · cases hv
    obtain ⟨t2, a1, b1⟩ := kk v V' T'.heap (locs ++ L) hp ⟨by rw [e1]; exact hw, key h0 e1 hL hF, hS.2.2⟩ T' rfl X'
    exact ⟨t2, st t2 a1, b1⟩
  · obtain ⟨t2, a1, b1⟩ := kx q E ce V' T'.heap (locs ++ L) hTh ⟨by rw [e1]; exact hw, key h0 e1 hL hF, hS.2.2⟩ ⟨by rw [e1]; exact hce, hcv, hcl⟩ T' rfl X'
    exact ⟨t2, st.trans a1, b1⟩
theorem r_xcallV (F : Bd G p l s m args meth c cc nL own) (hS : HS G s V H locs) {k i b ci : Nat} {fs : List Value} {q : vw_C} (ml : MLV own index y q.1 bytes maxL ret n) (hM : Cx G l y bytes maxL ret rm V (.ref b :: As) Rt Th) (hc : vwCl[ci]? = some q) (he : V k i = some (b, .inr (ci, fs)))
    (hn : As.length = n) (hsz : ls.size = nL) (hst : st0 = As.reverse ++ .ref b :: rest) (hw : (rest.map fun v => v.category).sum ≤ 8) (hdg : decode cc pc = .ok (.invokevirtual index, 3)) (hR : rm.frames + 1 ≤ R.frames ∧ 8 + (maxL + 11) + rm.locals ≤ R.locals) (hf : cells + rm.cells ≤ R.cells ∧ slots + rm.slots ≤ R.slots)
    (kx : ∀ (q9 : Addr) (E : String) (ce : Cell) (V' : Vw) (H1 : Heap) (locs1 : List Loc), Th E V' → HS G s V' H1 locs1 → (H1[q9]? = some ce ∧ ce.vm = .none ∧ s.vm.findClass E = some ce.cls) → vx_W p l e R s m args below meth c H1 locs1 (cells + rm.cells) (slots + rm.slots) Q (F0 m pc ls rest) q9)
    (kk : ∀ (r : Option Value) (V' : Vw) (H1 : Heap) (locs1 : List Loc), Rt r V' → HS G s V' H1 locs1 → W p l e R s m args below meth c H1 locs1 (cells + rm.cells) (slots + rm.slots) Q (F0 m (pc + 3) ls (r.toList ++ rest))) : W p l e R s m args below meth c H locs cells slots Q (F0 m pc ls st0) := by
  obtain ⟨hx, hb, hml, hown, hts, hK, -, -⟩ := F
  exact x_back (vx_runV (C := q.1) (As := As) (rest := rest) ⟨hx, hb, hml, hown, hts⟩ hM ⟨ml.1.cb hts hR, hts _ ml.2.1, hts _ ml.2.2⟩ ⟨PreC.blind _ _ _, recv_of_view hS hK hc he, fun U hU hW => PreC.at hS hK hU hW⟩ rfl hn hsz hst (lv_room hw) hdg hf) hS kx kk
theorem r_xcallS (F : Bd G p l s m args meth c cc nL own) (hS : HS G s V H locs) (ml : MLS own index y bytes maxL ret n) (hM : Cx G l y bytes maxL ret rm V As Rt Th)
    (hn : As.length = n) (hsz : ls.size = nL) (hst : st0 = As.reverse ++ rest) (hw : (rest.map fun v => v.category).sum ≤ 8) (hdg : decode cc pc = .ok (.invokestatic index, 3)) (hR : rm.frames + 1 ≤ R.frames ∧ 8 + (maxL + 11) + rm.locals ≤ R.locals) (hf : cells + rm.cells ≤ R.cells ∧ slots + rm.slots ≤ R.slots)
    (kx : ∀ (q9 : Addr) (E : String) (ce : Cell) (V' : Vw) (H1 : Heap) (locs1 : List Loc), Th E V' → HS G s V' H1 locs1 → (H1[q9]? = some ce ∧ ce.vm = .none ∧ s.vm.findClass E = some ce.cls) → vx_W p l e R s m args below meth c H1 locs1 (cells + rm.cells) (slots + rm.slots) Q (F0 m pc ls rest) q9)
    (kk : ∀ (r : Option Value) (V' : Vw) (H1 : Heap) (locs1 : List Loc), Rt r V' → HS G s V' H1 locs1 → W p l e R s m args below meth c H1 locs1 (cells + rm.cells) (slots + rm.slots) Q (F0 m (pc + 3) ls (r.toList ++ rest))) : W p l e R s m args below meth c H locs cells slots Q (F0 m pc ls st0) := by
  obtain ⟨hx, hb, hml, hown, hts, hK, -, -⟩ := F
  exact x_back (vx_runS (As := As) (rest := rest) ⟨hx, hb, hml, hown, hts⟩ hM ⟨ml.1.cb hts hR, hts _ ml.2⟩ ⟨PreC.blind _ _ _, fun U hU hW => PreC.at hS hK hU hW⟩ rfl hn hsz hst (lv_room hw) hdg hf) hS kx kk
/-- not caught here: on to the caller -/
theorem x_out (F : Bd G p l s m args meth c cc nL own) (hex : ∀ x ∈ c.exceptionTable.toList, False) (hS : HS G s V H locs) {q : Addr} {E : String} {ce : Cell} (hce : H[q]? = some ce ∧ ce.vm = .none ∧ s.vm.findClass E = some ce.cls) (hTh : Th E V) (hc : cells ≤ rm.cells) (hs : slots ≤ rm.slots) :
    vx_W p l e R s m args below meth c H locs cells slots (vx_MQ below (QcC G Rt) (XcC G Th) args s rm.cells rm.slots (aB G)) (F0 m pc ls rest) q := by
  obtain ⟨hx, hb, hml, hown, hts, hK, hlk, -⟩ := F
  exact vx_out (E := E) (fun x h => (hex x h).elim) hlk hce.1 hce.2.1 hce.2.2 (fun t ht ha => ⟨V, hTh, by rw [ht]; exact hS.1, hS.2.1.F ht⟩) hS.2.1.2.2 hc hs
/-- throw new E("text") -/
theorem r_throw (F : Bd G p l s m args meth c cc nL "RuleClasses") (hex : ∀ x ∈ c.exceptionTable.toList, False) (hS : HS G s V H locs) {ik ic is : Nat} {cls text : String} (tw : TW "RuleClasses" ik ic cls) (ht : (is, text) ∈ STR) (hsz : ls.size = nL)
    (d0 : decode cc pc = .ok (.new ik, 3)) (d3 : decode cc (pc + 3) = .ok (.dup, 1)) (d4 : decode cc (pc + 4) = .ok (.ldc is, 2)) (d6 : decode cc (pc + 6) = .ok (.invokespecial ic, 3)) (d9 : decode cc (pc + 9) = .ok (.athrow, 1))
    (hRf : 5 < R.frames) (hRl : (rest.map fun v => v.category).sum + 82 ≤ R.locals) (hRc : cells + 1 ≤ R.cells) (hRs : slots + 6 ≤ R.slots) (hc : cells + 1 ≤ rm.cells) (hs : slots + 6 ≤ rm.slots) (hTh : Th cls V) :
    W p l e R s m args below meth c H locs cells slots (vx_MQ below (QcC G Rt) (XcC G Th) args s rm.cells rm.slots (aB G)) (F0 m pc ls rest) := by
  obtain ⟨hx, hb, hml, hown, hts, hK, hlk, htr⟩ := F
  obtain ⟨t1, t2, t3, t4, t5, t6, t7⟩ := tw
  obtain ⟨hU, hN⟩ := hK.2.1
  obtain ⟨sa, hstr⟩ := hK.2.2.2.2.1 _ ht
  refine vx_throwS (names := NMS) (sa := sa) (text := text) hx hb htr hown t1 t2 (hts _ t3) (hts _ t4) hstr (vx_hat (fun w hw => hts w (mT (t5 w hw) (List.mem_filter.mp hw).2)) t6 hK.xw) t7 hU hN hS.2.1 (hsz.trans hml.symm) d0 d3 d4 d6 d9 (fun x h => (hex x h).elim) hRf hRl hRc hRs hlk (fun t ha hz hk => ⟨V, hTh, hS.1.keep hk, ⟨Nat.le_trans hS.2.1.1 hz, fun q g1 g2 => (hk q (Nat.lt_of_lt_of_le g1 hS.2.1.1)).trans (hS.2.1.2.1 q g1 g2)⟩⟩) hS.2.1.2.2 hc hs
end XX
end
section
/-! links: fields and methods by their places in the pools, by program (wip/whole/gen/mklinks.py) -/
theorem uw_A : ∀ w ∈ u_ws "java/util/ArrayList" T_A 3, w ∈ TBL := by
  show ∀ w ∈ ([(Jvm.Cond.lays "java/util/ArrayList" "java/util/AbstractList" "modCount" "I"), (Jvm.Cond.lays "java/util/ArrayList" "java/util/ArrayList" "elementData" "[Ljava/lang/Object;"), (Jvm.Cond.lays "java/util/ArrayList" "java/util/ArrayList" "size" "I")] : List Cond), w ∈ TBL
  exact List.forall_mem_cons.mpr ⟨m_54, List.forall_mem_cons.mpr ⟨m_50, List.forall_mem_cons.mpr ⟨m_52, fun _ h => absurd h List.not_mem_nil⟩⟩⟩
theorem ct_A : CT 0 := ⟨_, T_A, 3, rfl, ⟨ty_A, tyk_A⟩, nm_A⟩
theorem uw_C : ∀ w ∈ u_ws "RuleClasses" T_C 15, w ∈ TBL := by
  show ∀ w ∈ ([(Jvm.Cond.laysFinal "RuleClasses" "RuleClasses" "most" "I"), (Jvm.Cond.laysFinal "RuleClasses" "RuleClasses" "editions" "Ljava/util/ArrayList;"), (Jvm.Cond.laysFinal "RuleClasses" "RuleClasses" "kept" "Ljava/util/ArrayList;"), (Jvm.Cond.laysFinal "RuleClasses" "RuleClasses" "facts" "LRuleClasses$Facts;"), (Jvm.Cond.laysFinal "RuleClasses" "RuleClasses" "run" "LRuleClasses$Run;"), (Jvm.Cond.laysFinal "RuleClasses" "RuleClasses" "runBeside" "LRuleClasses$Run;"), (Jvm.Cond.laysFinal "RuleClasses" "RuleClasses" "fallbacks" "[I"), (Jvm.Cond.laysFinal "RuleClasses" "RuleClasses" "failures" "[I"), (Jvm.Cond.laysFinal "RuleClasses" "RuleClasses" "shadows" "[I"), (Jvm.Cond.laysFinal "RuleClasses" "RuleClasses" "differences" "[I"), (Jvm.Cond.lays "RuleClasses" "RuleClasses" "day" "I"), (Jvm.Cond.lays "RuleClasses" "RuleClasses" "questions" "I"), (Jvm.Cond.lays "RuleClasses" "RuleClasses" "handles" "I"), (Jvm.Cond.lays "RuleClasses" "RuleClasses" "livingHandle" "I"), (Jvm.Cond.lays "RuleClasses" "RuleClasses" "handledEdition" "I")] : List Cond), w ∈ TBL
  exact List.forall_mem_cons.mpr ⟨m_123, List.forall_mem_cons.mpr ⟨m_125, List.forall_mem_cons.mpr ⟨m_127, List.forall_mem_cons.mpr ⟨m_129, List.forall_mem_cons.mpr ⟨m_131, List.forall_mem_cons.mpr ⟨m_133, List.forall_mem_cons.mpr ⟨m_135, List.forall_mem_cons.mpr ⟨m_137, List.forall_mem_cons.mpr ⟨m_139, List.forall_mem_cons.mpr ⟨m_141, List.forall_mem_cons.mpr ⟨m_143, List.forall_mem_cons.mpr ⟨m_145, List.forall_mem_cons.mpr ⟨m_147, List.forall_mem_cons.mpr ⟨m_149, List.forall_mem_cons.mpr ⟨m_151, fun _ h => absurd h List.not_mem_nil⟩⟩⟩⟩⟩⟩⟩⟩⟩⟩⟩⟩⟩⟩⟩
theorem ct_C : CT 1 := ⟨_, T_C, 15, rfl, ⟨ty_C, tyk_C⟩, nm_C⟩
theorem uw_E : ∀ w ∈ u_ws "RuleClasses$Edition" T_E 10, w ∈ TBL := by
  show ∀ w ∈ ([(Jvm.Cond.laysFinal "RuleClasses$Edition" "RuleClasses$Edition" "owner" "I"), (Jvm.Cond.laysFinal "RuleClasses$Edition" "RuleClasses$Edition" "kind" "I"), (Jvm.Cond.laysFinal "RuleClasses$Edition" "RuleClasses$Edition" "day" "I"), (Jvm.Cond.laysFinal "RuleClasses$Edition" "RuleClasses$Edition" "ops" "[I"), (Jvm.Cond.laysFinal "RuleClasses$Edition" "RuleClasses$Edition" "constants" "[I"), (Jvm.Cond.lays "RuleClasses$Edition" "RuleClasses$Edition" "length" "I"), (Jvm.Cond.lays "RuleClasses$Edition" "RuleClasses$Edition" "made" "Z"), (Jvm.Cond.lays "RuleClasses$Edition" "RuleClasses$Edition" "timesAsked" "I"), (Jvm.Cond.lays "RuleClasses$Edition" "RuleClasses$Edition" "stepsAsked" "I"), (Jvm.Cond.lays "RuleClasses$Edition" "RuleClasses$Edition" "timesFailed" "I")] : List Cond), w ∈ TBL
  exact List.forall_mem_cons.mpr ⟨m_323, List.forall_mem_cons.mpr ⟨m_325, List.forall_mem_cons.mpr ⟨m_327, List.forall_mem_cons.mpr ⟨m_329, List.forall_mem_cons.mpr ⟨m_331, List.forall_mem_cons.mpr ⟨m_333, List.forall_mem_cons.mpr ⟨m_335, List.forall_mem_cons.mpr ⟨m_337, List.forall_mem_cons.mpr ⟨m_339, List.forall_mem_cons.mpr ⟨m_341, fun _ h => absurd h List.not_mem_nil⟩⟩⟩⟩⟩⟩⟩⟩⟩⟩
theorem ct_E : CT 2 := ⟨_, T_E, 10, rfl, ⟨ty_E, tyk_E⟩, nm_E⟩
theorem uw_F : ∀ w ∈ u_ws "RuleClasses$Facts" T_F 1, w ∈ TBL := by
  show ∀ w ∈ ([(Jvm.Cond.laysFinal "RuleClasses$Facts" "RuleClasses$Facts" "values" "[I")] : List Cond), w ∈ TBL
  exact List.forall_mem_cons.mpr ⟨m_66, fun _ h => absurd h List.not_mem_nil⟩
theorem ct_F : CT 3 := ⟨_, T_F, 1, rfl, ⟨ty_F, tyk_F⟩, nm_F⟩
theorem uw_U : ∀ w ∈ u_ws "RuleClasses$Run" T_U 7, w ∈ TBL := by
  show ∀ w ∈ ([(Jvm.Cond.laysFinal "RuleClasses$Run" "RuleClasses$Run" "most" "I"), (Jvm.Cond.laysFinal "RuleClasses$Run" "RuleClasses$Run" "stack" "[I"), (Jvm.Cond.lays "RuleClasses$Run" "RuleClasses$Run" "height" "I"), (Jvm.Cond.lays "RuleClasses$Run" "RuleClasses$Run" "next" "I"), (Jvm.Cond.lays "RuleClasses$Run" "RuleClasses$Run" "outcome" "I"), (Jvm.Cond.lays "RuleClasses$Run" "RuleClasses$Run" "answer" "I"), (Jvm.Cond.lays "RuleClasses$Run" "RuleClasses$Run" "steps" "I")] : List Cond), w ∈ TBL
  exact List.forall_mem_cons.mpr ⟨m_93, List.forall_mem_cons.mpr ⟨m_95, List.forall_mem_cons.mpr ⟨m_97, List.forall_mem_cons.mpr ⟨m_99, List.forall_mem_cons.mpr ⟨m_101, List.forall_mem_cons.mpr ⟨m_103, List.forall_mem_cons.mpr ⟨m_105, fun _ h => absurd h List.not_mem_nil⟩⟩⟩⟩⟩⟩⟩
theorem ct_U : CT 4 := ⟨_, T_U, 7, rfl, ⟨ty_U, tyk_U⟩, nm_U⟩
theorem uw_M : ∀ w ∈ u_ws "RuleClassesModel" T_M 30, w ∈ TBL := by
  show ∀ w ∈ ([(Jvm.Cond.laysFinal "RuleClassesModel" "RuleClassesModel" "most" "I"), (Jvm.Cond.lays "RuleClassesModel" "RuleClassesModel" "editions" "I"), (Jvm.Cond.lays "RuleClassesModel" "RuleClassesModel" "day" "I"), (Jvm.Cond.lays "RuleClassesModel" "RuleClassesModel" "thrown" "I"), (Jvm.Cond.lays "RuleClassesModel" "RuleClassesModel" "questions" "I"), (Jvm.Cond.lays "RuleClassesModel" "RuleClassesModel" "kept" "I"), (Jvm.Cond.lays "RuleClassesModel" "RuleClassesModel" "handles" "I"), (Jvm.Cond.lays "RuleClassesModel" "RuleClassesModel" "handled" "I"), (Jvm.Cond.laysFinal "RuleClassesModel" "RuleClassesModel" "owner" "[I"), (Jvm.Cond.laysFinal "RuleClassesModel" "RuleClassesModel" "kind" "[I"), (Jvm.Cond.laysFinal "RuleClassesModel" "RuleClassesModel" "from" "[I"), (Jvm.Cond.laysFinal "RuleClassesModel" "RuleClassesModel" "made" "[Z"), (Jvm.Cond.laysFinal "RuleClassesModel" "RuleClassesModel" "asked" "[I"), (Jvm.Cond.laysFinal "RuleClassesModel" "RuleClassesModel" "stepsOf" "[I"), (Jvm.Cond.laysFinal "RuleClassesModel" "RuleClassesModel" "fails" "[I"), (Jvm.Cond.laysFinal "RuleClassesModel" "RuleClassesModel" "many" "[I"), (Jvm.Cond.laysFinal "RuleClassesModel" "RuleClassesModel" "ops" "[I"), (Jvm.Cond.laysFinal "RuleClassesModel" "RuleClassesModel" "constants" "[I"), (Jvm.Cond.laysFinal "RuleClassesModel" "RuleClassesModel" "facts" "[I"), (Jvm.Cond.laysFinal "RuleClassesModel" "RuleClassesModel" "keptFacts" "[I"), (Jvm.Cond.laysFinal "RuleClassesModel" "RuleClassesModel" "fallbacks" "[I"), (Jvm.Cond.laysFinal "RuleClassesModel" "RuleClassesModel" "failures" "[I"), (Jvm.Cond.laysFinal "RuleClassesModel" "RuleClassesModel" "shadows" "[I"), (Jvm.Cond.laysFinal "RuleClassesModel" "RuleClassesModel" "others" "[I"), (Jvm.Cond.laysFinal "RuleClassesModel" "RuleClassesModel" "stack" "[J"), (Jvm.Cond.lays "RuleClassesModel" "RuleClassesModel" "put" "I"), (Jvm.Cond.lays "RuleClassesModel" "RuleClassesModel" "steps" "I"), (Jvm.Cond.lays "RuleClassesModel" "RuleClassesModel" "next" "I"), (Jvm.Cond.lays "RuleClassesModel" "RuleClassesModel" "answer" "J"), (Jvm.Cond.laysFinal "RuleClassesModel" "RuleClassesModel" "given" "[I")] : List Cond), w ∈ TBL
  exact List.forall_mem_cons.mpr ⟨m_698, List.forall_mem_cons.mpr ⟨m_700, List.forall_mem_cons.mpr ⟨m_702, List.forall_mem_cons.mpr ⟨m_704, List.forall_mem_cons.mpr ⟨m_706, List.forall_mem_cons.mpr ⟨m_708, List.forall_mem_cons.mpr ⟨m_710, List.forall_mem_cons.mpr ⟨m_712, List.forall_mem_cons.mpr ⟨m_714, List.forall_mem_cons.mpr ⟨m_716, List.forall_mem_cons.mpr ⟨m_718, List.forall_mem_cons.mpr ⟨m_720, List.forall_mem_cons.mpr ⟨m_722, List.forall_mem_cons.mpr ⟨m_724, List.forall_mem_cons.mpr ⟨m_726, List.forall_mem_cons.mpr ⟨m_728, List.forall_mem_cons.mpr ⟨m_730, List.forall_mem_cons.mpr ⟨m_732, List.forall_mem_cons.mpr ⟨m_734, List.forall_mem_cons.mpr ⟨m_736, List.forall_mem_cons.mpr ⟨m_738, List.forall_mem_cons.mpr ⟨m_740, List.forall_mem_cons.mpr ⟨m_742, List.forall_mem_cons.mpr ⟨m_744, List.forall_mem_cons.mpr ⟨m_746, List.forall_mem_cons.mpr ⟨m_748, List.forall_mem_cons.mpr ⟨m_750, List.forall_mem_cons.mpr ⟨m_752, List.forall_mem_cons.mpr ⟨m_754, List.forall_mem_cons.mpr ⟨m_756, fun _ h => absurd h List.not_mem_nil⟩⟩⟩⟩⟩⟩⟩⟩⟩⟩⟩⟩⟩⟩⟩⟩⟩⟩⟩⟩⟩⟩⟩⟩⟩⟩⟩⟩⟩⟩
theorem ct_M : CT 5 := ⟨_, T_M, 30, rfl, ⟨ty_M, tyk_M⟩, nm_M⟩
theorem f_C_10 : FP "RuleClasses" 10 1 1 (.object "java/util/ArrayList") true := ⟨_, _, T_C, 15, rfl, uw_C, by decide, m_109, Or.inl rfl, rfl, by decide +kernel, fun h => rfl⟩
theorem f_C_16 : FP "RuleClasses" 16 1 2 (.object "java/util/ArrayList") true := ⟨_, _, T_C, 15, rfl, uw_C, by decide, m_110, Or.inl rfl, rfl, by decide +kernel, fun h => rfl⟩
theorem f_C_22 : FP "RuleClasses" 22 1 3 (.object "RuleClasses$Facts") true := ⟨_, _, T_C, 15, rfl, uw_C, by decide, m_111, Or.inl rfl, rfl, by decide +kernel, fun h => rfl⟩
theorem f_C_26 : FP "RuleClasses" 26 1 6 (.array .int) true := ⟨_, _, T_C, 15, rfl, uw_C, by decide, m_114, Or.inl rfl, rfl, by decide +kernel, fun h => rfl⟩
theorem f_C_30 : FP "RuleClasses" 30 1 7 (.array .int) true := ⟨_, _, T_C, 15, rfl, uw_C, by decide, m_115, Or.inl rfl, rfl, by decide +kernel, fun h => rfl⟩
theorem f_C_33 : FP "RuleClasses" 33 1 8 (.array .int) true := ⟨_, _, T_C, 15, rfl, uw_C, by decide, m_116, Or.inl rfl, rfl, by decide +kernel, fun h => rfl⟩
theorem f_C_36 : FP "RuleClasses" 36 1 9 (.array .int) true := ⟨_, _, T_C, 15, rfl, uw_C, by decide, m_117, Or.inl rfl, rfl, by decide +kernel, fun h => rfl⟩
theorem f_C_48 : FP "RuleClasses" 48 1 0 .int true := ⟨_, _, T_C, 15, rfl, uw_C, by decide, m_108, Or.inl rfl, rfl, by decide +kernel, fun h => rfl⟩
theorem f_C_57 : FP "RuleClasses" 57 1 4 (.object "RuleClasses$Run") true := ⟨_, _, T_C, 15, rfl, uw_C, by decide, m_112, Or.inl rfl, rfl, by decide +kernel, fun h => rfl⟩
theorem f_C_61 : FP "RuleClasses" 61 1 5 (.object "RuleClasses$Run") true := ⟨_, _, T_C, 15, rfl, uw_C, by decide, m_113, Or.inl rfl, rfl, by decide +kernel, fun h => rfl⟩
theorem f_C_64 : FP "RuleClasses" 64 1 10 .int false := ⟨_, _, T_C, 15, rfl, uw_C, by decide, m_118, Or.inl rfl, rfl, by decide +kernel, fun h => by cases h⟩
theorem f_C_112 : FP "RuleClasses" 112 2 5 .int false := ⟨_, _, T_E, 10, rfl, uw_E, by decide, m_315, Or.inl rfl, rfl, by decide +kernel, fun h => by cases h⟩
theorem f_C_124 : FP "RuleClasses" 124 4 4 .int false := ⟨_, _, T_U, 7, rfl, uw_U, by decide, m_88, Or.inl rfl, rfl, by decide +kernel, fun h => by cases h⟩
theorem f_C_127 : FP "RuleClasses" 127 2 6 .boolean false := ⟨_, _, T_E, 10, rfl, uw_E, by decide, m_318, Or.inl rfl, rfl, by decide +kernel, fun h => by cases h⟩
theorem f_C_131 : FL "RuleClasses" 131 3 0 := ⟨_, _, T_F, 1, rfl, uw_F, by decide, m_64, Or.inl rfl⟩
theorem f_C_134 : FP "RuleClasses" 134 1 11 .int false := ⟨_, _, T_C, 15, rfl, uw_C, by decide, m_119, Or.inl rfl, rfl, by decide +kernel, fun h => by cases h⟩
theorem f_C_158 : FP "RuleClasses" 158 4 5 .int false := ⟨_, _, T_U, 7, rfl, uw_U, by decide, m_90, Or.inl rfl, rfl, by decide +kernel, fun h => by cases h⟩
theorem f_C_166 : FP "RuleClasses" 166 1 12 .int false := ⟨_, _, T_C, 15, rfl, uw_C, by decide, m_120, Or.inl rfl, rfl, by decide +kernel, fun h => by cases h⟩
theorem f_C_171 : FP "RuleClasses" 171 1 13 .int false := ⟨_, _, T_C, 15, rfl, uw_C, by decide, m_121, Or.inl rfl, rfl, by decide +kernel, fun h => by cases h⟩
theorem f_C_174 : FP "RuleClasses" 174 1 14 .int false := ⟨_, _, T_C, 15, rfl, uw_C, by decide, m_122, Or.inl rfl, rfl, by decide +kernel, fun h => by cases h⟩
theorem f_C_179 : FL "RuleClasses" 179 2 1 := ⟨_, _, T_E, 10, rfl, uw_E, by decide, m_307, Or.inl rfl⟩
theorem f_C_229 : FL "RuleClasses" 229 2 2 := ⟨_, _, T_E, 10, rfl, uw_E, by decide, m_309, Or.inl rfl⟩
theorem f_E_9 : FP "RuleClasses$Edition" 9 2 3 (.array .int) true := ⟨_, _, T_E, 10, rfl, uw_E, by decide, m_310, Or.inl rfl, rfl, by decide +kernel, fun h => rfl⟩
theorem f_E_15 : FP "RuleClasses$Edition" 15 2 4 (.array .int) true := ⟨_, _, T_E, 10, rfl, uw_E, by decide, m_312, Or.inl rfl, rfl, by decide +kernel, fun h => rfl⟩
theorem f_E_18 : FP "RuleClasses$Edition" 18 2 0 .int true := ⟨_, _, T_E, 10, rfl, uw_E, by decide, m_305, Or.inl rfl, rfl, by decide +kernel, fun h => rfl⟩
theorem f_E_22 : FP "RuleClasses$Edition" 22 2 1 .int true := ⟨_, _, T_E, 10, rfl, uw_E, by decide, m_306, Or.inl rfl, rfl, by decide +kernel, fun h => rfl⟩
theorem f_E_25 : FP "RuleClasses$Edition" 25 2 2 .int true := ⟨_, _, T_E, 10, rfl, uw_E, by decide, m_308, Or.inl rfl, rfl, by decide +kernel, fun h => rfl⟩
theorem f_E_28 : FP "RuleClasses$Edition" 28 2 5 .int false := ⟨_, _, T_E, 10, rfl, uw_E, by decide, m_314, Or.inl rfl, rfl, by decide +kernel, fun h => by cases h⟩
theorem f_E_31 : FP "RuleClasses$Edition" 31 2 6 .boolean false := ⟨_, _, T_E, 10, rfl, uw_E, by decide, m_317, Or.inl rfl, rfl, by decide +kernel, fun h => by cases h⟩
theorem f_E_35 : FP "RuleClasses$Edition" 35 2 7 .int false := ⟨_, _, T_E, 10, rfl, uw_E, by decide, m_319, Or.inl rfl, rfl, by decide +kernel, fun h => by cases h⟩
theorem f_E_38 : FP "RuleClasses$Edition" 38 2 8 .int false := ⟨_, _, T_E, 10, rfl, uw_E, by decide, m_321, Or.inl rfl, rfl, by decide +kernel, fun h => by cases h⟩
theorem f_E_41 : FP "RuleClasses$Edition" 41 4 6 .int false := ⟨_, _, T_U, 7, rfl, uw_U, by decide, m_92, Or.inl rfl, rfl, by decide +kernel, fun h => by cases h⟩
theorem f_E_46 : FP "RuleClasses$Edition" 46 4 4 .int false := ⟨_, _, T_U, 7, rfl, uw_U, by decide, m_87, Or.inl rfl, rfl, by decide +kernel, fun h => by cases h⟩
theorem f_E_49 : FP "RuleClasses$Edition" 49 2 9 .int false := ⟨_, _, T_E, 10, rfl, uw_E, by decide, m_322, Or.inl rfl, rfl, by decide +kernel, fun h => by cases h⟩
theorem f_F_9 : FP "RuleClasses$Facts" 9 3 0 (.array .int) true := ⟨_, _, T_F, 1, rfl, uw_F, by decide, m_63, Or.inl rfl, rfl, by decide +kernel, fun h => rfl⟩
theorem f_U_9 : FP "RuleClasses$Run" 9 4 1 (.array .int) true := ⟨_, _, T_U, 7, rfl, uw_U, by decide, m_83, Or.inl rfl, rfl, by decide +kernel, fun h => rfl⟩
theorem f_U_15 : FP "RuleClasses$Run" 15 4 0 .int true := ⟨_, _, T_U, 7, rfl, uw_U, by decide, m_82, Or.inl rfl, rfl, by decide +kernel, fun h => rfl⟩
theorem f_U_22 : FP "RuleClasses$Run" 22 4 4 .int false := ⟨_, _, T_U, 7, rfl, uw_U, by decide, m_86, Or.inl rfl, rfl, by decide +kernel, fun h => by cases h⟩
theorem f_U_29 : FP "RuleClasses$Run" 29 4 5 .int false := ⟨_, _, T_U, 7, rfl, uw_U, by decide, m_89, Or.inl rfl, rfl, by decide +kernel, fun h => by cases h⟩
theorem f_U_32 : FP "RuleClasses$Run" 32 4 2 .int false := ⟨_, _, T_U, 7, rfl, uw_U, by decide, m_84, Or.inl rfl, rfl, by decide +kernel, fun h => by cases h⟩
theorem f_U_35 : FP "RuleClasses$Run" 35 4 3 .int false := ⟨_, _, T_U, 7, rfl, uw_U, by decide, m_85, Or.inl rfl, rfl, by decide +kernel, fun h => by cases h⟩
theorem f_U_38 : FP "RuleClasses$Run" 38 4 6 .int false := ⟨_, _, T_U, 7, rfl, uw_U, by decide, m_91, Or.inl rfl, rfl, by decide +kernel, fun h => by cases h⟩
theorem f_U_41 : FP "RuleClasses$Run" 41 2 5 .int false := ⟨_, _, T_E, 10, rfl, uw_E, by decide, m_316, Or.inl rfl, rfl, by decide +kernel, fun h => by cases h⟩
theorem f_U_50 : FL "RuleClasses$Run" 50 2 3 := ⟨_, _, T_E, 10, rfl, uw_E, by decide, m_311, Or.inl rfl⟩
theorem f_U_53 : FL "RuleClasses$Run" 53 2 4 := ⟨_, _, T_E, 10, rfl, uw_E, by decide, m_313, Or.inl rfl⟩
theorem f_U_64 : FL "RuleClasses$Run" 64 3 0 := ⟨_, _, T_F, 1, rfl, uw_F, by decide, m_65, Or.inl rfl⟩
theorem f_U_69 : FP "RuleClasses$Run" 69 2 7 .int false := ⟨_, _, T_E, 10, rfl, uw_E, by decide, m_320, Or.inl rfl, rfl, by decide +kernel, fun h => by cases h⟩
theorem f_M_9 : FP "RuleClassesModel" 9 5 7 .int false := ⟨_, _, T_M, 30, rfl, uw_M, by decide, m_675, Or.inl rfl, rfl, by decide +kernel, fun h => by cases h⟩
theorem f_M_13 : FP "RuleClassesModel" 13 5 8 (.array .int) true := ⟨_, _, T_M, 30, rfl, uw_M, by decide, m_676, Or.inl rfl, rfl, by decide +kernel, fun h => rfl⟩
theorem f_M_17 : FP "RuleClassesModel" 17 5 9 (.array .int) true := ⟨_, _, T_M, 30, rfl, uw_M, by decide, m_677, Or.inl rfl, rfl, by decide +kernel, fun h => rfl⟩
theorem f_M_20 : FP "RuleClassesModel" 20 5 10 (.array .int) true := ⟨_, _, T_M, 30, rfl, uw_M, by decide, m_678, Or.inl rfl, rfl, by decide +kernel, fun h => rfl⟩
theorem f_M_23 : FP "RuleClassesModel" 23 5 11 (.array .boolean) true := ⟨_, _, T_M, 30, rfl, uw_M, by decide, m_679, Or.inl rfl, rfl, by decide +kernel, fun h => rfl⟩
theorem f_M_27 : FP "RuleClassesModel" 27 5 12 (.array .int) true := ⟨_, _, T_M, 30, rfl, uw_M, by decide, m_680, Or.inl rfl, rfl, by decide +kernel, fun h => rfl⟩
theorem f_M_30 : FP "RuleClassesModel" 30 5 13 (.array .int) true := ⟨_, _, T_M, 30, rfl, uw_M, by decide, m_681, Or.inl rfl, rfl, by decide +kernel, fun h => rfl⟩
theorem f_M_33 : FP "RuleClassesModel" 33 5 14 (.array .int) true := ⟨_, _, T_M, 30, rfl, uw_M, by decide, m_682, Or.inl rfl, rfl, by decide +kernel, fun h => rfl⟩
theorem f_M_36 : FP "RuleClassesModel" 36 5 15 (.array .int) true := ⟨_, _, T_M, 30, rfl, uw_M, by decide, m_683, Or.inl rfl, rfl, by decide +kernel, fun h => rfl⟩
theorem f_M_39 : FP "RuleClassesModel" 39 5 16 (.array .int) true := ⟨_, _, T_M, 30, rfl, uw_M, by decide, m_684, Or.inl rfl, rfl, by decide +kernel, fun h => rfl⟩
theorem f_M_42 : FP "RuleClassesModel" 42 5 17 (.array .int) true := ⟨_, _, T_M, 30, rfl, uw_M, by decide, m_685, Or.inl rfl, rfl, by decide +kernel, fun h => rfl⟩
theorem f_M_45 : FP "RuleClassesModel" 45 5 18 (.array .int) true := ⟨_, _, T_M, 30, rfl, uw_M, by decide, m_686, Or.inl rfl, rfl, by decide +kernel, fun h => rfl⟩
theorem f_M_48 : FP "RuleClassesModel" 48 5 19 (.array .int) true := ⟨_, _, T_M, 30, rfl, uw_M, by decide, m_687, Or.inl rfl, rfl, by decide +kernel, fun h => rfl⟩
theorem f_M_51 : FP "RuleClassesModel" 51 5 20 (.array .int) true := ⟨_, _, T_M, 30, rfl, uw_M, by decide, m_688, Or.inl rfl, rfl, by decide +kernel, fun h => rfl⟩
theorem f_M_54 : FP "RuleClassesModel" 54 5 21 (.array .int) true := ⟨_, _, T_M, 30, rfl, uw_M, by decide, m_689, Or.inl rfl, rfl, by decide +kernel, fun h => rfl⟩
theorem f_M_57 : FP "RuleClassesModel" 57 5 22 (.array .int) true := ⟨_, _, T_M, 30, rfl, uw_M, by decide, m_690, Or.inl rfl, rfl, by decide +kernel, fun h => rfl⟩
theorem f_M_60 : FP "RuleClassesModel" 60 5 23 (.array .int) true := ⟨_, _, T_M, 30, rfl, uw_M, by decide, m_691, Or.inl rfl, rfl, by decide +kernel, fun h => rfl⟩
theorem f_M_63 : FP "RuleClassesModel" 63 5 24 (.array .long) true := ⟨_, _, T_M, 30, rfl, uw_M, by decide, m_692, Or.inl rfl, rfl, by decide +kernel, fun h => rfl⟩
theorem f_M_67 : FP "RuleClassesModel" 67 5 29 (.array .int) true := ⟨_, _, T_M, 30, rfl, uw_M, by decide, m_697, Or.inl rfl, rfl, by decide +kernel, fun h => rfl⟩
theorem f_M_70 : FP "RuleClassesModel" 70 5 0 .int true := ⟨_, _, T_M, 30, rfl, uw_M, by decide, m_668, Or.inl rfl, rfl, by decide +kernel, fun h => rfl⟩
theorem f_M_73 : FP "RuleClassesModel" 73 5 3 .int false := ⟨_, _, T_M, 30, rfl, uw_M, by decide, m_671, Or.inl rfl, rfl, by decide +kernel, fun h => by cases h⟩
theorem f_M_76 : FP "RuleClassesModel" 76 5 1 .int false := ⟨_, _, T_M, 30, rfl, uw_M, by decide, m_669, Or.inl rfl, rfl, by decide +kernel, fun h => by cases h⟩
theorem f_M_83 : FP "RuleClassesModel" 83 5 2 .int false := ⟨_, _, T_M, 30, rfl, uw_M, by decide, m_670, Or.inl rfl, rfl, by decide +kernel, fun h => by cases h⟩
theorem f_M_97 : FP "RuleClassesModel" 97 5 26 .int false := ⟨_, _, T_M, 30, rfl, uw_M, by decide, m_694, Or.inl rfl, rfl, by decide +kernel, fun h => by cases h⟩
theorem f_M_100 : FP "RuleClassesModel" 100 5 27 .int false := ⟨_, _, T_M, 30, rfl, uw_M, by decide, m_695, Or.inl rfl, rfl, by decide +kernel, fun h => by cases h⟩
theorem f_M_103 : FP "RuleClassesModel" 103 5 25 .int false := ⟨_, _, T_M, 30, rfl, uw_M, by decide, m_693, Or.inl rfl, rfl, by decide +kernel, fun h => by cases h⟩
theorem f_M_110 : FP "RuleClassesModel" 110 5 28 .long false := ⟨_, _, T_M, 30, rfl, uw_M, by decide, m_696, Or.inl rfl, rfl, by decide +kernel, fun h => by cases h⟩
theorem f_M_131 : FP "RuleClassesModel" 131 5 4 .int false := ⟨_, _, T_M, 30, rfl, uw_M, by decide, m_672, Or.inl rfl, rfl, by decide +kernel, fun h => by cases h⟩
theorem f_M_141 : FP "RuleClassesModel" 141 5 6 .int false := ⟨_, _, T_M, 30, rfl, uw_M, by decide, m_674, Or.inl rfl, rfl, by decide +kernel, fun h => by cases h⟩
theorem f_M_144 : FP "RuleClassesModel" 144 5 5 .int false := ⟨_, _, T_M, 30, rfl, uw_M, by decide, m_673, Or.inl rfl, rfl, by decide +kernel, fun h => by cases h⟩
theorem f_AL_7 : FP "java/util/AbstractList" 7 0 0 .int false := ⟨_, _, T_A, 3, rfl, uw_A, by decide, m_47, Or.inl rfl, rfl, by decide +kernel, fun h => by cases h⟩
theorem f_A_9 : FP "java/util/ArrayList" 9 0 1 (.array (.object "java/lang/Object")) false := ⟨_, _, T_A, 3, rfl, uw_A, by decide, m_45, Or.inl rfl, rfl, by decide +kernel, fun h => by cases h⟩
theorem f_A_48 : FP "java/util/ArrayList" 48 0 2 .int false := ⟨_, _, T_A, 3, rfl, uw_A, by decide, m_46, Or.inl rfl, rfl, by decide +kernel, fun h => by cases h⟩
theorem f_A_63 : FP "java/util/ArrayList" 63 0 0 .int false := ⟨_, _, T_A, 3, rfl, uw_A, by decide, m_48, Or.inr m_49, rfl, by decide +kernel, fun h => by cases h⟩
theorem c_C_9 : MLI "RuleClasses" 9 y_A_init b_A_init 1 0 := ⟨⟨m_33, m_35, m_4, by decide, by decide +kernel⟩, rfl, m_34⟩
theorem c_C_39 : MLS "RuleClasses" 39 y_MA_min b_MA_min 2 (Option.some Jvm.ClassFile.FieldType.int) 2 := ⟨⟨m_70, m_72, m_6, by decide, by decide +kernel⟩, m_71⟩
theorem c_C_45 : MLS "RuleClasses" 45 y_MA_max b_MA_max 2 (Option.some Jvm.ClassFile.FieldType.int) 2 := ⟨⟨m_73, m_75, m_6, by decide, by decide +kernel⟩, m_74⟩
theorem c_C_54 : MLI "RuleClasses" 54 y_U_init b_U_init 2 1 := ⟨⟨m_78, m_80, m_7, by decide, by decide +kernel⟩, rfl, m_79⟩
theorem c_C_67 : MLS "RuleClasses" 67 y_C_requireRange b_C_requireRange 3 none 3 := ⟨⟨m_196, m_198, m_1, by decide, by decide +kernel⟩, m_197⟩
theorem c_C_71 : MLV "RuleClasses" 71 y_C_endHandle "RuleClasses" b_C_endHandle 1 none 0 := ⟨⟨m_269, m_272, m_1, by decide, by decide +kernel⟩, m_271, sl_C_endHandle⟩
theorem c_C_74 : MLS "RuleClasses" 74 y_C_requireOwnerAndKind b_C_requireOwnerAndKind 2 none 2 := ⟨⟨m_281, m_283, m_1, by decide, by decide +kernel⟩, m_282⟩
theorem c_C_78 : MLV "RuleClasses" 78 y_A_size "java/util/ArrayList" b_A_size 1 (Option.some Jvm.ClassFile.FieldType.int) 0 := ⟨⟨m_158, m_161, m_4, by decide, by decide +kernel⟩, m_159, m_160⟩
theorem c_C_91 : MLI "RuleClasses" 91 y_E_init b_E_init 4 3 := ⟨⟨m_301, m_303, m_14, by decide, by decide +kernel⟩, rfl, m_302⟩
theorem c_C_93 : MLV "RuleClasses" 93 y_A_add "java/util/ArrayList" b_A_add 2 (Option.some Jvm.ClassFile.FieldType.boolean) 1 := ⟨⟨m_344, m_347, m_4, by decide, by decide +kernel⟩, m_345, m_346⟩
theorem c_C_97 : MLV "RuleClasses" 97 y_C_editionAt "RuleClasses" b_C_editionAt 2 (Option.some (Jvm.ClassFile.FieldType.object "RuleClasses$Edition")) 1 := ⟨⟨m_407, m_410, m_1, by decide, by decide +kernel⟩, m_409, sl_C_editionAt⟩
theorem c_C_101 : MLS "RuleClasses" 101 y_C_leastConstant b_C_leastConstant 1 (Option.some Jvm.ClassFile.FieldType.int) 1 := ⟨⟨m_431, m_433, m_1, by decide, by decide +kernel⟩, m_432⟩
theorem c_C_105 : MLS "RuleClasses" 105 y_C_greatestConstant b_C_greatestConstant 1 (Option.some Jvm.ClassFile.FieldType.int) 1 := ⟨⟨m_434, m_436, m_1, by decide, by decide +kernel⟩, m_435⟩
theorem c_C_108 : MLS "RuleClasses" 108 y_C_requireNotMade b_C_requireNotMade 1 none 1 := ⟨⟨m_437, m_439, m_1, by decide, by decide +kernel⟩, m_438⟩
theorem c_C_117 : MLV "RuleClasses" 117 y_E_append "RuleClasses$Edition" b_E_append 3 none 2 := ⟨⟨m_457, m_460, m_14, by decide, by decide +kernel⟩, m_458, m_459⟩
theorem c_C_120 : MLV "RuleClasses" 120 y_U_start "RuleClasses$Run" b_U_start 3 none 2 := ⟨⟨m_468, m_471, m_7, by decide, by decide +kernel⟩, m_469, m_470⟩
theorem c_C_137 : MLV "RuleClasses" 137 y_C_countingEdition "RuleClasses" b_C_countingEdition 8 (Option.some Jvm.ClassFile.FieldType.int) 3 := ⟨⟨m_515, m_518, m_1, by decide, by decide +kernel⟩, m_517, sl_C_countingEdition⟩
theorem c_C_141 : MLV "RuleClasses" 141 y_U_startNothing "RuleClasses$Run" b_U_startNothing 1 none 0 := ⟨⟨m_523, m_526, m_7, by decide, by decide +kernel⟩, m_524, m_525⟩
theorem c_C_144 : MLV "RuleClasses" 144 y_A_get "java/util/ArrayList" b_A_get 2 (Option.some (Jvm.ClassFile.FieldType.object "java/lang/Object")) 1 := ⟨⟨m_166, m_169, m_4, by decide, by decide +kernel⟩, m_167, m_168⟩
theorem c_C_148 : MLS "RuleClasses" 148 y_C_place b_C_place 2 (Option.some Jvm.ClassFile.FieldType.int) 2 := ⟨⟨m_527, m_529, m_1, by decide, by decide +kernel⟩, m_528⟩
theorem c_C_151 : MLV "RuleClasses" 151 y_C_runShadow "RuleClasses" b_C_runShadow 3 none 1 := ⟨⟨m_530, m_533, m_1, by decide, by decide +kernel⟩, m_532, sl_C_runShadow⟩
theorem c_C_154 : MLV "RuleClasses" 154 y_E_noteQuestion "RuleClasses$Edition" b_E_noteQuestion 2 none 1 := ⟨⟨m_538, m_541, m_14, by decide, by decide +kernel⟩, m_539, m_540⟩
theorem c_C_184 : MLV "RuleClasses" 184 y_F_copy "RuleClasses$Facts" b_F_copy 2 (Option.some (Jvm.ClassFile.FieldType.object "RuleClasses$Facts")) 0 := ⟨⟨m_588, m_591, m_5, by decide, by decide +kernel⟩, m_589, m_590⟩
theorem c_C_188 : MLV "RuleClasses" 188 y_U_endedLike "RuleClasses$Run" b_U_endedLike 2 (Option.some Jvm.ClassFile.FieldType.boolean) 1 := ⟨⟨m_534, m_537, m_7, by decide, by decide +kernel⟩, m_535, m_536⟩
theorem c_C_192 : MLV "RuleClasses" 192 y_E_hasCodeOf "RuleClasses$Edition" b_E_hasCodeOf 3 (Option.some Jvm.ClassFile.FieldType.boolean) 1 := ⟨⟨m_609, m_612, m_14, by decide, by decide +kernel⟩, m_610, m_611⟩
theorem c_C_196 : MLV "RuleClasses" 196 y_C_requireEdition "RuleClasses" b_C_requireEdition 2 none 1 := ⟨⟨m_411, m_414, m_1, by decide, by decide +kernel⟩, m_413, sl_C_requireEdition⟩
theorem c_C_204 : MLV "RuleClasses" 204 y_E_tell "RuleClasses$Edition" b_E_tell 2 (Option.some Jvm.ClassFile.FieldType.int) 1 := ⟨⟨m_658, m_661, m_14, by decide, by decide +kernel⟩, m_659, m_660⟩
theorem c_C_207 : MLV "RuleClasses" 207 y_C_madeEditions "RuleClasses" b_C_madeEditions 3 (Option.some Jvm.ClassFile.FieldType.int) 0 := ⟨⟨m_162, m_165, m_1, by decide, by decide +kernel⟩, m_164, sl_C_madeEditions⟩
theorem c_C_210 : MLV "RuleClasses" 210 y_C_failedQuestions "RuleClasses" b_C_failedQuestions 3 (Option.some Jvm.ClassFile.FieldType.int) 0 := ⟨⟨m_181, m_184, m_1, by decide, by decide +kernel⟩, m_183, sl_C_failedQuestions⟩
theorem c_C_225 : MLV "RuleClasses" 225 y_E_countsFor "RuleClasses$Edition" b_E_countsFor 4 (Option.some Jvm.ClassFile.FieldType.boolean) 3 := ⟨⟨m_519, m_522, m_14, by decide, by decide +kernel⟩, m_520, m_521⟩
theorem c_F_15 : MLI "RuleClasses$Facts" 15 y_F_init b_F_init 1 0 := ⟨⟨m_593, m_61, m_5, by decide, by decide +kernel⟩, rfl, m_60⟩
theorem c_U_19 : MLV "RuleClasses$Run" 19 y_U_clear "RuleClasses$Run" b_U_clear 1 none 0 := ⟨⟨m_472, m_475, m_7, by decide, by decide +kernel⟩, m_474, sl_U_clear⟩
theorem c_U_25 : MLV "RuleClasses$Run" 25 y_U_outcomeOf "RuleClasses$Run" b_U_outcomeOf 6 (Option.some Jvm.ClassFile.FieldType.int) 2 := ⟨⟨m_476, m_479, m_7, by decide, by decide +kernel⟩, m_478, sl_U_outcomeOf⟩
theorem c_U_46 : MLV "RuleClasses$Run" 46 y_U_step "RuleClasses$Run" b_U_step 6 (Option.some Jvm.ClassFile.FieldType.int) 3 := ⟨⟨m_480, m_483, m_7, by decide, by decide +kernel⟩, m_482, sl_U_step⟩
theorem c_U_56 : MLS "RuleClasses$Run" 56 y_U_needed b_U_needed 1 (Option.some Jvm.ClassFile.FieldType.int) 1 := ⟨⟨m_484, m_486, m_7, by decide, by decide +kernel⟩, m_485⟩
theorem c_U_60 : MLV "RuleClasses$Run" 60 y_U_put "RuleClasses$Run" b_U_put 3 (Option.some Jvm.ClassFile.FieldType.int) 1 := ⟨⟨m_487, m_490, m_7, by decide, by decide +kernel⟩, m_489, sl_U_put⟩
theorem c_U_72 : MLV "RuleClasses$Run" 72 y_U_take "RuleClasses$Run" b_U_take 1 (Option.some Jvm.ClassFile.FieldType.int) 0 := ⟨⟨m_493, m_496, m_7, by decide, by decide +kernel⟩, m_495, sl_U_take⟩
theorem c_U_76 : MLV "RuleClasses$Run" 76 y_U_join "RuleClasses$Run" b_U_join 6 (Option.some Jvm.ClassFile.FieldType.int) 1 := ⟨⟨m_497, m_500, m_7, by decide, by decide +kernel⟩, m_499, sl_U_join⟩
theorem c_L_7 : MLV "RuleClassesLaw" 7 y_C_today "RuleClasses" b_C_today 2 none 1 := ⟨⟨m_192, m_195, m_1, by decide, by decide +kernel⟩, m_193, m_194⟩
theorem c_L_15 : MLV "RuleClassesLaw" 15 y_C_rule "RuleClasses" b_C_rule 4 (Option.some Jvm.ClassFile.FieldType.int) 3 := ⟨⟨m_277, m_280, m_1, by decide, by decide +kernel⟩, m_278, m_279⟩
theorem c_L_21 : MLV "RuleClassesLaw" 21 y_C_op "RuleClasses" b_C_op 5 (Option.some Jvm.ClassFile.FieldType.int) 3 := ⟨⟨m_403, m_406, m_1, by decide, by decide +kernel⟩, m_404, m_405⟩
theorem c_L_28 : MLV "RuleClassesLaw" 28 y_C_make "RuleClasses" b_C_make 3 (Option.some Jvm.ClassFile.FieldType.int) 1 := ⟨⟨m_464, m_467, m_1, by decide, by decide +kernel⟩, m_465, m_466⟩
theorem c_L_32 : MLV "RuleClassesLaw" 32 y_C_fact "RuleClasses" b_C_fact 3 none 2 := ⟨⟨m_504, m_507, m_1, by decide, by decide +kernel⟩, m_505, m_506⟩
theorem c_L_36 : MLV "RuleClassesLaw" 36 y_C_ask "RuleClasses" b_C_ask 4 (Option.some Jvm.ClassFile.FieldType.int) 2 := ⟨⟨m_511, m_514, m_1, by decide, by decide +kernel⟩, m_512, m_513⟩
theorem c_L_40 : MLV "RuleClassesLaw" 40 y_C_fallback "RuleClasses" b_C_fallback 3 none 2 := ⟨⟨m_545, m_548, m_1, by decide, by decide +kernel⟩, m_546, m_547⟩
theorem c_L_43 : MLV "RuleClassesLaw" 43 y_C_edition "RuleClasses" b_C_edition 4 (Option.some Jvm.ClassFile.FieldType.int) 3 := ⟨⟨m_552, m_555, m_1, by decide, by decide +kernel⟩, m_553, m_554⟩
theorem c_L_46 : MLV "RuleClassesLaw" 46 y_C_failed "RuleClasses" b_C_failed 3 (Option.some Jvm.ClassFile.FieldType.int) 2 := ⟨⟨m_559, m_562, m_1, by decide, by decide +kernel⟩, m_560, m_561⟩
theorem c_L_49 : MLV "RuleClassesLaw" 49 y_C_handle "RuleClasses" b_C_handle 2 (Option.some Jvm.ClassFile.FieldType.int) 1 := ⟨⟨m_566, m_569, m_1, by decide, by decide +kernel⟩, m_567, m_568⟩
theorem c_L_52 : MLV "RuleClassesLaw" 52 y_C_by "RuleClasses" b_C_by 3 (Option.some Jvm.ClassFile.FieldType.int) 1 := ⟨⟨m_575, m_578, m_1, by decide, by decide +kernel⟩, m_576, m_577⟩
theorem c_L_55 : MLV "RuleClassesLaw" 55 y_C_keep "RuleClasses" b_C_keep 1 (Option.some Jvm.ClassFile.FieldType.int) 0 := ⟨⟨m_583, m_586, m_1, by decide, by decide +kernel⟩, m_584, m_585⟩
theorem c_L_59 : MLV "RuleClassesLaw" 59 y_C_compare "RuleClasses" b_C_compare 7 (Option.some Jvm.ClassFile.FieldType.int) 2 := ⟨⟨m_598, m_601, m_1, by decide, by decide +kernel⟩, m_599, m_600⟩
theorem c_L_62 : MLV "RuleClassesLaw" 62 y_C_same "RuleClasses" b_C_same 5 (Option.some Jvm.ClassFile.FieldType.boolean) 2 := ⟨⟨m_605, m_608, m_1, by decide, by decide +kernel⟩, m_606, m_607⟩
theorem c_L_66 : MLV "RuleClassesLaw" 66 y_C_shadow "RuleClasses" b_C_shadow 4 none 3 := ⟨⟨m_616, m_619, m_1, by decide, by decide +kernel⟩, m_617, m_618⟩
theorem c_L_70 : MLV "RuleClassesLaw" 70 y_C_otherwise "RuleClasses" b_C_otherwise 3 (Option.some Jvm.ClassFile.FieldType.int) 2 := ⟨⟨m_623, m_626, m_1, by decide, by decide +kernel⟩, m_624, m_625⟩
theorem c_L_73 : MLV "RuleClassesLaw" 73 y_C_divide "RuleClasses" b_C_divide 3 (Option.some Jvm.ClassFile.FieldType.int) 2 := ⟨⟨m_631, m_634, m_1, by decide, by decide +kernel⟩, m_632, m_633⟩
theorem c_L_78 : MLV "RuleClassesLaw" 78 y_C_told "RuleClasses" b_C_told 4 (Option.some Jvm.ClassFile.FieldType.int) 2 := ⟨⟨m_654, m_657, m_1, by decide, by decide +kernel⟩, m_655, m_656⟩
theorem c_L_81 : MLS "RuleClassesLaw" 81 y_L_cell b_L_cell 2 (Option.some Jvm.ClassFile.FieldType.int) 2 := ⟨⟨m_185, m_187, m_0, by decide, by decide +kernel⟩, m_186⟩
theorem c_L_87 : MLI "RuleClassesLaw" 87 y_C_init b_C_init 3 1 := ⟨⟨m_25, m_27, m_1, by decide, by decide +kernel⟩, rfl, m_26⟩
theorem c_L_91 : MLI "RuleClassesLaw" 91 y_M_init b_M_init 2 1 := ⟨⟨m_664, m_666, m_8, by decide, by decide +kernel⟩, rfl, m_665⟩
theorem c_L_95 : MLV "RuleClassesLaw" 95 y_M_today "RuleClassesModel" b_M_today 2 none 1 := ⟨⟨m_765, m_768, m_8, by decide, by decide +kernel⟩, m_766, m_767⟩
theorem c_L_96 : MLV "RuleClassesLaw" 96 y_M_thrown "RuleClassesModel" b_M_thrown 1 (Option.some Jvm.ClassFile.FieldType.int) 0 := ⟨⟨m_761, m_764, m_8, by decide, by decide +kernel⟩, m_762, m_763⟩
theorem c_L_102 : MLV "RuleClassesLaw" 102 y_M_rule "RuleClassesModel" b_M_rule 4 (Option.some Jvm.ClassFile.FieldType.int) 3 := ⟨⟨m_772, m_775, m_8, by decide, by decide +kernel⟩, m_773, m_774⟩
theorem c_L_105 : MLV "RuleClassesLaw" 105 y_M_op "RuleClassesModel" b_M_op 4 (Option.some Jvm.ClassFile.FieldType.int) 3 := ⟨⟨m_779, m_782, m_8, by decide, by decide +kernel⟩, m_780, m_781⟩
theorem c_L_109 : MLV "RuleClassesLaw" 109 y_M_make "RuleClassesModel" b_M_make 3 (Option.some Jvm.ClassFile.FieldType.int) 1 := ⟨⟨m_790, m_793, m_8, by decide, by decide +kernel⟩, m_791, m_792⟩
theorem c_L_113 : MLV "RuleClassesLaw" 113 y_M_fact "RuleClassesModel" b_M_fact 3 none 2 := ⟨⟨m_815, m_818, m_8, by decide, by decide +kernel⟩, m_816, m_817⟩
theorem c_L_117 : MLV "RuleClassesLaw" 117 y_M_ask "RuleClassesModel" b_M_ask 6 (Option.some Jvm.ClassFile.FieldType.int) 2 := ⟨⟨m_819, m_822, m_8, by decide, by decide +kernel⟩, m_820, m_821⟩
theorem c_L_120 : MLV "RuleClassesLaw" 120 y_M_fallback "RuleClassesModel" b_M_fallback 3 none 2 := ⟨⟨m_831, m_834, m_8, by decide, by decide +kernel⟩, m_832, m_833⟩
theorem c_L_123 : MLV "RuleClassesLaw" 123 y_M_edition "RuleClassesModel" b_M_edition 4 (Option.some Jvm.ClassFile.FieldType.int) 3 := ⟨⟨m_835, m_838, m_8, by decide, by decide +kernel⟩, m_836, m_837⟩
theorem c_L_126 : MLV "RuleClassesLaw" 126 y_M_failed "RuleClassesModel" b_M_failed 3 (Option.some Jvm.ClassFile.FieldType.int) 2 := ⟨⟨m_839, m_842, m_8, by decide, by decide +kernel⟩, m_840, m_841⟩
theorem c_L_129 : MLV "RuleClassesLaw" 129 y_M_handle "RuleClassesModel" b_M_handle 2 (Option.some Jvm.ClassFile.FieldType.int) 1 := ⟨⟨m_843, m_846, m_8, by decide, by decide +kernel⟩, m_844, m_845⟩
theorem c_L_132 : MLV "RuleClassesLaw" 132 y_M_by "RuleClassesModel" b_M_by 2 (Option.some Jvm.ClassFile.FieldType.int) 1 := ⟨⟨m_847, m_850, m_8, by decide, by decide +kernel⟩, m_848, m_849⟩
theorem c_L_136 : MLV "RuleClassesLaw" 136 y_M_keep "RuleClassesModel" b_M_keep 2 (Option.some Jvm.ClassFile.FieldType.int) 0 := ⟨⟨m_851, m_854, m_8, by decide, by decide +kernel⟩, m_852, m_853⟩
theorem c_L_139 : MLV "RuleClassesLaw" 139 y_M_compare "RuleClassesModel" b_M_compare 9 (Option.some Jvm.ClassFile.FieldType.int) 2 := ⟨⟨m_855, m_858, m_8, by decide, by decide +kernel⟩, m_856, m_857⟩
theorem c_L_142 : MLV "RuleClassesLaw" 142 y_M_same "RuleClassesModel" b_M_same 4 (Option.some Jvm.ClassFile.FieldType.boolean) 2 := ⟨⟨m_859, m_862, m_8, by decide, by decide +kernel⟩, m_860, m_861⟩
theorem c_L_146 : MLV "RuleClassesLaw" 146 y_M_shadow "RuleClassesModel" b_M_shadow 4 none 3 := ⟨⟨m_863, m_866, m_8, by decide, by decide +kernel⟩, m_864, m_865⟩
theorem c_L_149 : MLV "RuleClassesLaw" 149 y_M_otherwise "RuleClassesModel" b_M_otherwise 3 (Option.some Jvm.ClassFile.FieldType.int) 2 := ⟨⟨m_867, m_870, m_8, by decide, by decide +kernel⟩, m_868, m_869⟩
theorem c_L_152 : MLV "RuleClassesLaw" 152 y_M_divide "RuleClassesModel" b_M_divide 3 (Option.some Jvm.ClassFile.FieldType.int) 2 := ⟨⟨m_871, m_874, m_8, by decide, by decide +kernel⟩, m_872, m_873⟩
theorem c_L_155 : MLV "RuleClassesLaw" 155 y_M_told "RuleClassesModel" b_M_told 3 (Option.some Jvm.ClassFile.FieldType.int) 2 := ⟨⟨m_875, m_878, m_8, by decide, by decide +kernel⟩, m_876, m_877⟩
theorem c_L_156 : MLV "RuleClassesLaw" 156 y_C_count "RuleClasses" b_C_count 2 (Option.some Jvm.ClassFile.FieldType.int) 1 := ⟨⟨m_154, m_157, m_1, by decide, by decide +kernel⟩, m_155, m_156⟩
theorem c_L_159 : MLV "RuleClassesLaw" 159 y_M_count "RuleClassesModel" b_M_count 4 (Option.some Jvm.ClassFile.FieldType.int) 1 := ⟨⟨m_879, m_882, m_8, by decide, by decide +kernel⟩, m_880, m_881⟩
theorem c_M_79 : MLS "RuleClassesModel" 79 y_M_within b_M_within 3 (Option.some Jvm.ClassFile.FieldType.boolean) 3 := ⟨⟨m_769, m_771, m_8, by decide, by decide +kernel⟩, m_770⟩
theorem c_M_86 : MLS "RuleClassesModel" 86 y_M_isPlace b_M_isPlace 2 (Option.some Jvm.ClassFile.FieldType.boolean) 2 := ⟨⟨m_776, m_778, m_8, by decide, by decide +kernel⟩, m_777⟩
theorem c_M_90 : MLV "RuleClassesModel" 90 y_M_isEdition "RuleClassesModel" b_M_isEdition 2 (Option.some Jvm.ClassFile.FieldType.boolean) 1 := ⟨⟨m_783, m_786, m_8, by decide, by decide +kernel⟩, m_785, sl_M_isEdition⟩
theorem c_M_94 : MLS "RuleClassesModel" 94 y_M_isConstant b_M_isConstant 2 (Option.some Jvm.ClassFile.FieldType.boolean) 2 := ⟨⟨m_787, m_789, m_8, by decide, by decide +kernel⟩, m_788⟩
theorem c_M_106 : MLS "RuleClassesModel" 106 y_M_takes b_M_takes 1 (Option.some Jvm.ClassFile.FieldType.int) 1 := ⟨⟨m_806, m_808, m_8, by decide, by decide +kernel⟩, m_807⟩
theorem c_M_114 : MLV "RuleClassesModel" 114 y_M_valueOf "RuleClassesModel" b_M_valueOf 8 (Option.some Jvm.ClassFile.FieldType.long) 5 := ⟨⟨m_809, m_812, m_8, by decide, by decide +kernel⟩, m_811, sl_M_valueOf⟩
theorem c_M_122 : MLV "RuleClassesModel" 122 y_M_step "RuleClassesModel" b_M_step 10 (Option.some Jvm.ClassFile.FieldType.int) 1 := ⟨⟨m_802, m_805, m_8, by decide, by decide +kernel⟩, m_804, sl_M_step⟩
theorem c_M_125 : MLV "RuleClassesModel" 125 y_M_giveFacts "RuleClassesModel" b_M_giveFacts 2 none 0 := ⟨⟨m_794, m_797, m_8, by decide, by decide +kernel⟩, m_796, sl_M_giveFacts⟩
theorem c_M_128 : MLV "RuleClassesModel" 128 y_M_run "RuleClassesModel" b_M_run 3 (Option.some Jvm.ClassFile.FieldType.int) 1 := ⟨⟨m_798, m_801, m_8, by decide, by decide +kernel⟩, m_800, sl_M_run⟩
theorem c_M_134 : MLV "RuleClassesModel" 134 y_M_counts "RuleClassesModel" b_M_counts 6 (Option.some Jvm.ClassFile.FieldType.int) 3 := ⟨⟨m_823, m_826, m_8, by decide, by decide +kernel⟩, m_825, sl_M_counts⟩
theorem c_M_138 : MLV "RuleClassesModel" 138 y_M_askedOf "RuleClassesModel" b_M_askedOf 5 (Option.some Jvm.ClassFile.FieldType.int) 3 := ⟨⟨m_827, m_830, m_8, by decide, by decide +kernel⟩, m_829, sl_M_askedOf⟩
theorem c_AL_1 : MLI "java/util/AbstractList" 1 y_AC_init b_AC_init 1 0 := ⟨⟨m_39, m_41, m_2, by decide, by decide +kernel⟩, rfl, m_40⟩
theorem c_A_1 : MLI "java/util/ArrayList" 1 y_AL_init b_AL_init 1 0 := ⟨⟨m_36, m_38, m_3, by decide, by decide +kernel⟩, rfl, m_37⟩
theorem c_A_66 : MLS "java/util/ArrayList" 66 y_AR_copyOf b_AR_copyOf 2 (Option.some (Jvm.ClassFile.FieldType.array (Jvm.ClassFile.FieldType.object "java/lang/Object"))) 2 := ⟨⟨m_368, m_370, m_16, by decide, by decide +kernel⟩, m_369⟩
theorem c_A_69 : MLV "java/util/ArrayList" 69 y_A_grow2 "java/util/ArrayList" b_A_grow2 4 (Option.some (Jvm.ClassFile.FieldType.array (Jvm.ClassFile.FieldType.object "java/lang/Object"))) 1 := ⟨⟨m_356, m_359, m_4, by decide, by decide +kernel⟩, m_358, sl_A_grow2⟩
theorem c_A_73 : MLS "java/util/ArrayList" 73 y_AS_newLength b_AS_newLength 4 (Option.some Jvm.ClassFile.FieldType.int) 3 := ⟨⟨m_360, m_362, m_15, by decide, by decide +kernel⟩, m_361⟩
theorem c_A_79 : MLS "java/util/ArrayList" 79 y_MA_max b_MA_max 2 (Option.some Jvm.ClassFile.FieldType.int) 2 := ⟨⟨m_396, m_75, m_6, by decide, by decide +kernel⟩, m_74⟩
theorem c_A_118 : MLS "java/util/ArrayList" 118 y_OB_checkIndex b_OB_checkIndex 2 (Option.some Jvm.ClassFile.FieldType.int) 2 := ⟨⟨m_170, m_172, m_19, by decide, by decide +kernel⟩, m_171⟩
theorem c_A_123 : MLV "java/util/ArrayList" 123 y_A_elementData "java/util/ArrayList" b_A_elementData 2 (Option.some (Jvm.ClassFile.FieldType.object "java/lang/Object")) 1 := ⟨⟨m_176, m_179, m_4, by decide, by decide +kernel⟩, m_177, m_178⟩
theorem c_A_129 : MLV "java/util/ArrayList" 129 y_A_grow "java/util/ArrayList" b_A_grow 1 (Option.some (Jvm.ClassFile.FieldType.array (Jvm.ClassFile.FieldType.object "java/lang/Object"))) 0 := ⟨⟨m_352, m_355, m_4, by decide, by decide +kernel⟩, m_354, sl_A_grow⟩
theorem c_A_131 : MLV "java/util/ArrayList" 131 y_A_add2 "java/util/ArrayList" b_A_add2 4 none 3 := ⟨⟨m_348, m_351, m_4, by decide, by decide +kernel⟩, m_350, sl_A_add2⟩
theorem c_AR_300 : MLS "java/util/Arrays" 300 y_AR_copyOf2 b_AR_copyOf2 4 (Option.some (Jvm.ClassFile.FieldType.array (Jvm.ClassFile.FieldType.object "java/lang/Object"))) 3 := ⟨⟨m_386, m_388, m_16, by decide, by decide +kernel⟩, m_387⟩
theorem c_AR_304 : MLS "java/util/Arrays" 304 y_MA_min b_MA_min 2 (Option.some Jvm.ClassFile.FieldType.int) 2 := ⟨⟨m_392, m_72, m_6, by decide, by decide +kernel⟩, m_71⟩
theorem c_OB_105 : MLS "java/util/Objects" 105 y_PC_checkIndex b_PC_checkIndex 3 (Option.some Jvm.ClassFile.FieldType.int) 3 := ⟨⟨m_173, m_175, m_20, by decide, by decide +kernel⟩, m_174⟩
theorem c_AS_194 : MLS "jdk/internal/util/ArraysSupport" 194 y_MA_max b_MA_max 2 (Option.some Jvm.ClassFile.FieldType.int) 2 := ⟨⟨m_363, m_75, m_6, by decide, by decide +kernel⟩, m_74⟩
theorem c_AS_201 : MLS "jdk/internal/util/ArraysSupport" 201 y_AS_hugeLength b_AS_hugeLength 3 (Option.some Jvm.ClassFile.FieldType.int) 2 := ⟨⟨m_365, m_367, m_15, by decide, by decide +kernel⟩, m_366⟩
set_option maxRecDepth 20000 in
theorem tw_UnsupportedOperationException : TW "RuleClasses" 82 86 "java/lang/UnsupportedOperationException" := ⟨by decide +kernel, by decide +kernel, m_284, m_13, by decide +kernel, by decide +kernel, by decide +kernel⟩
set_option maxRecDepth 20000 in
theorem tw_IllegalStateException : TW "RuleClasses" 161 165 "java/lang/IllegalStateException" := ⟨by decide +kernel, by decide +kernel, m_440, m_21, by decide +kernel, by decide +kernel, by decide +kernel⟩
set_option maxRecDepth 20000 in
theorem tw_ArithmeticException : TW "RuleClasses" 199 203 "java/lang/ArithmeticException" := ⟨by decide +kernel, by decide +kernel, m_635, m_22, by decide +kernel, by decide +kernel, by decide +kernel⟩
set_option maxRecDepth 20000 in
theorem tw_IllegalArgumentException : TW "RuleClasses" 213 217 "java/lang/IllegalArgumentException" := ⟨by decide +kernel, by decide +kernel, m_199, m_12, by decide +kernel, by decide +kernel, by decide +kernel⟩
end
section
theorem d_U_init_0 : decode b_U_init 0 = .ok (.aload_n 0, 1) := by decide +kernel
theorem d_U_init_1 : decode b_U_init 1 = .ok (.invokespecial 3, 3) := by decide +kernel
theorem d_U_init_4 : decode b_U_init 4 = .ok (.aload_n 0, 1) := by decide +kernel
theorem d_U_init_5 : decode b_U_init 5 = .ok (.bipush 8, 2) := by decide +kernel
theorem d_U_init_7 : decode b_U_init 7 = .ok (.newarray .int, 2) := by decide +kernel
theorem d_U_init_9 : decode b_U_init 9 = .ok (.putfield 9, 3) := by decide +kernel
theorem d_U_init_12 : decode b_U_init 12 = .ok (.aload_n 0, 1) := by decide +kernel
theorem d_U_init_13 : decode b_U_init 13 = .ok (.iload_n 1, 1) := by decide +kernel
theorem d_U_init_14 : decode b_U_init 14 = .ok (.putfield 15, 3) := by decide +kernel
theorem d_U_init_17 : decode b_U_init 17 = .ok (.return_, 1) := by decide +kernel
theorem d_U_start_0 : decode b_U_start 0 = .ok (.aload_n 0, 1) := by decide +kernel
theorem d_U_start_1 : decode b_U_start 1 = .ok (.invokevirtual 19, 3) := by decide +kernel
theorem d_U_start_4 : decode b_U_start 4 = .ok (.aload_n 0, 1) := by decide +kernel
theorem d_U_start_5 : decode b_U_start 5 = .ok (.aload_n 0, 1) := by decide +kernel
theorem d_U_start_6 : decode b_U_start 6 = .ok (.aload_n 1, 1) := by decide +kernel
theorem d_U_start_7 : decode b_U_start 7 = .ok (.aload_n 2, 1) := by decide +kernel
theorem d_U_start_8 : decode b_U_start 8 = .ok (.invokevirtual 25, 3) := by decide +kernel
theorem d_U_start_11 : decode b_U_start 11 = .ok (.putfield 22, 3) := by decide +kernel
theorem d_U_start_14 : decode b_U_start 14 = .ok (.return_, 1) := by decide +kernel
theorem d_U_clear_0 : decode b_U_clear 0 = .ok (.aload_n 0, 1) := by decide +kernel
theorem d_U_clear_1 : decode b_U_clear 1 = .ok (.iconst 0, 1) := by decide +kernel
theorem d_U_clear_2 : decode b_U_clear 2 = .ok (.putfield 32, 3) := by decide +kernel
theorem d_U_clear_5 : decode b_U_clear 5 = .ok (.aload_n 0, 1) := by decide +kernel
theorem d_U_clear_6 : decode b_U_clear 6 = .ok (.iconst 0, 1) := by decide +kernel
theorem d_U_clear_7 : decode b_U_clear 7 = .ok (.putfield 35, 3) := by decide +kernel
theorem d_U_clear_10 : decode b_U_clear 10 = .ok (.aload_n 0, 1) := by decide +kernel
theorem d_U_clear_11 : decode b_U_clear 11 = .ok (.iconst 0, 1) := by decide +kernel
theorem d_U_clear_12 : decode b_U_clear 12 = .ok (.putfield 38, 3) := by decide +kernel
theorem d_U_clear_15 : decode b_U_clear 15 = .ok (.aload_n 0, 1) := by decide +kernel
theorem d_U_clear_16 : decode b_U_clear 16 = .ok (.iconst 0, 1) := by decide +kernel
theorem d_U_clear_17 : decode b_U_clear 17 = .ok (.putfield 29, 3) := by decide +kernel
theorem d_U_clear_20 : decode b_U_clear 20 = .ok (.return_, 1) := by decide +kernel
theorem d_U_outcomeOf_0 : decode b_U_outcomeOf 0 = .ok (.aload_n 0, 1) := by decide +kernel
theorem d_U_outcomeOf_1 : decode b_U_outcomeOf 1 = .ok (.getfield 15, 3) := by decide +kernel
theorem d_U_outcomeOf_4 : decode b_U_outcomeOf 4 = .ok (.istore_n 3, 1) := by decide +kernel
theorem d_U_outcomeOf_5 : decode b_U_outcomeOf 5 = .ok (.iload_n 3, 1) := by decide +kernel
theorem d_U_outcomeOf_6 : decode b_U_outcomeOf 6 = .ok (.ifCond .le 75, 3) := by decide +kernel
theorem d_U_outcomeOf_9 : decode b_U_outcomeOf 9 = .ok (.aload_n 0, 1) := by decide +kernel
theorem d_U_outcomeOf_10 : decode b_U_outcomeOf 10 = .ok (.getfield 35, 3) := by decide +kernel
theorem d_U_outcomeOf_13 : decode b_U_outcomeOf 13 = .ok (.ifCond .lt 14, 3) := by decide +kernel
theorem d_U_outcomeOf_16 : decode b_U_outcomeOf 16 = .ok (.aload_n 0, 1) := by decide +kernel
theorem d_U_outcomeOf_17 : decode b_U_outcomeOf 17 = .ok (.getfield 35, 3) := by decide +kernel
theorem d_U_outcomeOf_20 : decode b_U_outcomeOf 20 = .ok (.aload_n 1, 1) := by decide +kernel
theorem d_U_outcomeOf_21 : decode b_U_outcomeOf 21 = .ok (.getfield 41, 3) := by decide +kernel
theorem d_U_outcomeOf_24 : decode b_U_outcomeOf 24 = .ok (.if_icmp .lt 5, 3) := by decide +kernel
theorem d_U_outcomeOf_27 : decode b_U_outcomeOf 27 = .ok (.iconst 4, 1) := by decide +kernel
theorem d_U_outcomeOf_28 : decode b_U_outcomeOf 28 = .ok (.ireturn, 1) := by decide +kernel
theorem d_U_outcomeOf_29 : decode b_U_outcomeOf 29 = .ok (.aload_n 0, 1) := by decide +kernel
theorem d_U_outcomeOf_30 : decode b_U_outcomeOf 30 = .ok (.dup, 1) := by decide +kernel
theorem d_U_outcomeOf_31 : decode b_U_outcomeOf 31 = .ok (.getfield 38, 3) := by decide +kernel
theorem d_U_outcomeOf_34 : decode b_U_outcomeOf 34 = .ok (.iconst 1, 1) := by decide +kernel
theorem d_U_outcomeOf_35 : decode b_U_outcomeOf 35 = .ok (.iadd, 1) := by decide +kernel
theorem d_U_outcomeOf_36 : decode b_U_outcomeOf 36 = .ok (.putfield 38, 3) := by decide +kernel
theorem d_U_outcomeOf_39 : decode b_U_outcomeOf 39 = .ok (.aload_n 0, 1) := by decide +kernel
theorem d_U_outcomeOf_40 : decode b_U_outcomeOf 40 = .ok (.getfield 35, 3) := by decide +kernel
theorem d_U_outcomeOf_43 : decode b_U_outcomeOf 43 = .ok (.istore 4, 2) := by decide +kernel
theorem d_U_outcomeOf_45 : decode b_U_outcomeOf 45 = .ok (.aload_n 0, 1) := by decide +kernel
theorem d_U_outcomeOf_46 : decode b_U_outcomeOf 46 = .ok (.dup, 1) := by decide +kernel
theorem d_U_outcomeOf_47 : decode b_U_outcomeOf 47 = .ok (.getfield 35, 3) := by decide +kernel
theorem d_U_outcomeOf_50 : decode b_U_outcomeOf 50 = .ok (.iconst 1, 1) := by decide +kernel
theorem d_U_outcomeOf_51 : decode b_U_outcomeOf 51 = .ok (.iadd, 1) := by decide +kernel
theorem d_U_outcomeOf_52 : decode b_U_outcomeOf 52 = .ok (.putfield 35, 3) := by decide +kernel
theorem d_U_outcomeOf_55 : decode b_U_outcomeOf 55 = .ok (.aload_n 0, 1) := by decide +kernel
theorem d_U_outcomeOf_56 : decode b_U_outcomeOf 56 = .ok (.aload_n 1, 1) := by decide +kernel
theorem d_U_outcomeOf_57 : decode b_U_outcomeOf 57 = .ok (.iload 4, 2) := by decide +kernel
theorem d_U_outcomeOf_59 : decode b_U_outcomeOf 59 = .ok (.aload_n 2, 1) := by decide +kernel
theorem d_U_outcomeOf_60 : decode b_U_outcomeOf 60 = .ok (.invokevirtual 46, 3) := by decide +kernel
theorem d_U_outcomeOf_63 : decode b_U_outcomeOf 63 = .ok (.istore 5, 2) := by decide +kernel
theorem d_U_outcomeOf_65 : decode b_U_outcomeOf 65 = .ok (.iload 5, 2) := by decide +kernel
theorem d_U_outcomeOf_67 : decode b_U_outcomeOf 67 = .ok (.bipush 7, 2) := by decide +kernel
theorem d_U_outcomeOf_69 : decode b_U_outcomeOf 69 = .ok (.if_icmp .eq 6, 3) := by decide +kernel
theorem d_U_outcomeOf_72 : decode b_U_outcomeOf 72 = .ok (.iload 5, 2) := by decide +kernel
theorem d_U_outcomeOf_74 : decode b_U_outcomeOf 74 = .ok (.ireturn, 1) := by decide +kernel
theorem d_U_outcomeOf_75 : decode b_U_outcomeOf 75 = .ok (.iinc 3 (-1), 3) := by decide +kernel
theorem d_U_outcomeOf_78 : decode b_U_outcomeOf 78 = .ok (.goto (-73), 3) := by decide +kernel
theorem d_U_outcomeOf_81 : decode b_U_outcomeOf 81 = .ok (.iconst 1, 1) := by decide +kernel
theorem d_U_outcomeOf_82 : decode b_U_outcomeOf 82 = .ok (.ireturn, 1) := by decide +kernel
theorem d_U_step_0 : decode b_U_step 0 = .ok (.aload_n 1, 1) := by decide +kernel
theorem d_U_step_1 : decode b_U_step 1 = .ok (.getfield 50, 3) := by decide +kernel
theorem d_U_step_4 : decode b_U_step 4 = .ok (.iload_n 2, 1) := by decide +kernel
theorem d_U_step_5 : decode b_U_step 5 = .ok (.iaload, 1) := by decide +kernel
theorem d_U_step_6 : decode b_U_step 6 = .ok (.istore 4, 2) := by decide +kernel
theorem d_U_step_8 : decode b_U_step 8 = .ok (.aload_n 1, 1) := by decide +kernel
theorem d_U_step_9 : decode b_U_step 9 = .ok (.getfield 53, 3) := by decide +kernel
theorem d_U_step_12 : decode b_U_step 12 = .ok (.iload_n 2, 1) := by decide +kernel
theorem d_U_step_13 : decode b_U_step 13 = .ok (.iaload, 1) := by decide +kernel
theorem d_U_step_14 : decode b_U_step 14 = .ok (.istore 5, 2) := by decide +kernel
theorem d_U_step_16 : decode b_U_step 16 = .ok (.aload_n 0, 1) := by decide +kernel
theorem d_U_step_17 : decode b_U_step 17 = .ok (.getfield 32, 3) := by decide +kernel
theorem d_U_step_20 : decode b_U_step 20 = .ok (.iload 4, 2) := by decide +kernel
theorem d_U_step_22 : decode b_U_step 22 = .ok (.invokestatic 56, 3) := by decide +kernel
theorem d_U_step_25 : decode b_U_step 25 = .ok (.if_icmp .ge 5, 3) := by decide +kernel
theorem d_U_step_28 : decode b_U_step 28 = .ok (.iconst 3, 1) := by decide +kernel
theorem d_U_step_29 : decode b_U_step 29 = .ok (.ireturn, 1) := by decide +kernel
theorem d_U_step_30 : decode b_U_step 30 = .ok (.iload 4, 2) := by decide +kernel
theorem d_U_step_32 : decode b_U_step 32 = .ok (.tableswitch 135 0 10 #[60, 68, 135, 135, 135, 135, 135, 81, 108, 124, 98], 60) := by decide +kernel
theorem d_U_step_92 : decode b_U_step 92 = .ok (.aload_n 0, 1) := by decide +kernel
theorem d_U_step_93 : decode b_U_step 93 = .ok (.iload 5, 2) := by decide +kernel
theorem d_U_step_95 : decode b_U_step 95 = .ok (.i2l, 1) := by decide +kernel
theorem d_U_step_96 : decode b_U_step 96 = .ok (.invokevirtual 60, 3) := by decide +kernel
theorem d_U_step_99 : decode b_U_step 99 = .ok (.ireturn, 1) := by decide +kernel
theorem d_U_step_100 : decode b_U_step 100 = .ok (.aload_n 0, 1) := by decide +kernel
theorem d_U_step_101 : decode b_U_step 101 = .ok (.aload_n 3, 1) := by decide +kernel
theorem d_U_step_102 : decode b_U_step 102 = .ok (.getfield 64, 3) := by decide +kernel
theorem d_U_step_105 : decode b_U_step 105 = .ok (.iload 5, 2) := by decide +kernel
theorem d_U_step_107 : decode b_U_step 107 = .ok (.iaload, 1) := by decide +kernel
theorem d_U_step_108 : decode b_U_step 108 = .ok (.i2l, 1) := by decide +kernel
theorem d_U_step_109 : decode b_U_step 109 = .ok (.invokevirtual 60, 3) := by decide +kernel
theorem d_U_step_112 : decode b_U_step 112 = .ok (.ireturn, 1) := by decide +kernel
theorem d_U_step_113 : decode b_U_step 113 = .ok (.aload_n 0, 1) := by decide +kernel
theorem d_U_step_114 : decode b_U_step 114 = .ok (.aload_n 0, 1) := by decide +kernel
theorem d_U_step_115 : decode b_U_step 115 = .ok (.getfield 9, 3) := by decide +kernel
theorem d_U_step_118 : decode b_U_step 118 = .ok (.aload_n 0, 1) := by decide +kernel
theorem d_U_step_119 : decode b_U_step 119 = .ok (.getfield 32, 3) := by decide +kernel
theorem d_U_step_122 : decode b_U_step 122 = .ok (.iconst 1, 1) := by decide +kernel
theorem d_U_step_123 : decode b_U_step 123 = .ok (.isub, 1) := by decide +kernel
theorem d_U_step_124 : decode b_U_step 124 = .ok (.iaload, 1) := by decide +kernel
theorem d_U_step_125 : decode b_U_step 125 = .ok (.i2l, 1) := by decide +kernel
theorem d_U_step_126 : decode b_U_step 126 = .ok (.invokevirtual 60, 3) := by decide +kernel
theorem d_U_step_129 : decode b_U_step 129 = .ok (.ireturn, 1) := by decide +kernel
theorem d_U_step_130 : decode b_U_step 130 = .ok (.aload_n 0, 1) := by decide +kernel
theorem d_U_step_131 : decode b_U_step 131 = .ok (.aload_n 1, 1) := by decide +kernel
theorem d_U_step_132 : decode b_U_step 132 = .ok (.getfield 69, 3) := by decide +kernel
theorem d_U_step_135 : decode b_U_step 135 = .ok (.i2l, 1) := by decide +kernel
theorem d_U_step_136 : decode b_U_step 136 = .ok (.invokevirtual 60, 3) := by decide +kernel
theorem d_U_step_139 : decode b_U_step 139 = .ok (.ireturn, 1) := by decide +kernel
theorem d_U_step_140 : decode b_U_step 140 = .ok (.aload_n 0, 1) := by decide +kernel
theorem d_U_step_141 : decode b_U_step 141 = .ok (.invokevirtual 72, 3) := by decide +kernel
theorem d_U_step_144 : decode b_U_step 144 = .ok (.ifCond .ne 9, 3) := by decide +kernel
theorem d_U_step_147 : decode b_U_step 147 = .ok (.aload_n 0, 1) := by decide +kernel
theorem d_U_step_148 : decode b_U_step 148 = .ok (.iload 5, 2) := by decide +kernel
theorem d_U_step_150 : decode b_U_step 150 = .ok (.putfield 35, 3) := by decide +kernel
theorem d_U_step_153 : decode b_U_step 153 = .ok (.bipush 7, 2) := by decide +kernel
theorem d_U_step_155 : decode b_U_step 155 = .ok (.ireturn, 1) := by decide +kernel
theorem d_U_step_156 : decode b_U_step 156 = .ok (.aload_n 0, 1) := by decide +kernel
theorem d_U_step_157 : decode b_U_step 157 = .ok (.aload_n 0, 1) := by decide +kernel
theorem d_U_step_158 : decode b_U_step 158 = .ok (.invokevirtual 72, 3) := by decide +kernel
theorem d_U_step_161 : decode b_U_step 161 = .ok (.putfield 29, 3) := by decide +kernel
theorem d_U_step_164 : decode b_U_step 164 = .ok (.bipush 6, 2) := by decide +kernel
theorem d_U_step_166 : decode b_U_step 166 = .ok (.ireturn, 1) := by decide +kernel
theorem d_U_step_167 : decode b_U_step 167 = .ok (.aload_n 0, 1) := by decide +kernel
theorem d_U_step_168 : decode b_U_step 168 = .ok (.iload 4, 2) := by decide +kernel
theorem d_U_step_170 : decode b_U_step 170 = .ok (.invokevirtual 76, 3) := by decide +kernel
theorem d_U_step_173 : decode b_U_step 173 = .ok (.ireturn, 1) := by decide +kernel
theorem d_U_needed_0 : decode b_U_needed 0 = .ok (.iload_n 0, 1) := by decide +kernel
theorem d_U_needed_1 : decode b_U_needed 1 = .ok (.tableswitch 63 0 10 #[59, 59, 63, 63, 63, 63, 63, 61, 61, 61, 59], 59) := by decide +kernel
theorem d_U_needed_60 : decode b_U_needed 60 = .ok (.iconst 0, 1) := by decide +kernel
theorem d_U_needed_61 : decode b_U_needed 61 = .ok (.ireturn, 1) := by decide +kernel
theorem d_U_needed_62 : decode b_U_needed 62 = .ok (.iconst 1, 1) := by decide +kernel
theorem d_U_needed_63 : decode b_U_needed 63 = .ok (.ireturn, 1) := by decide +kernel
theorem d_U_needed_64 : decode b_U_needed 64 = .ok (.iconst 2, 1) := by decide +kernel
theorem d_U_needed_65 : decode b_U_needed 65 = .ok (.ireturn, 1) := by decide +kernel
theorem d_U_put_0 : decode b_U_put 0 = .ok (.lload_n 1, 1) := by decide +kernel
theorem d_U_put_1 : decode b_U_put 1 = .ok (.ldc2_w 79, 3) := by decide +kernel
theorem d_U_put_4 : decode b_U_put 4 = .ok (.lcmp, 1) := by decide +kernel
theorem d_U_put_5 : decode b_U_put 5 = .ok (.ifCond .lt 11, 3) := by decide +kernel
theorem d_U_put_8 : decode b_U_put 8 = .ok (.lload_n 1, 1) := by decide +kernel
theorem d_U_put_9 : decode b_U_put 9 = .ok (.ldc2_w 81, 3) := by decide +kernel
theorem d_U_put_12 : decode b_U_put 12 = .ok (.lcmp, 1) := by decide +kernel
theorem d_U_put_13 : decode b_U_put 13 = .ok (.ifCond .le 5, 3) := by decide +kernel
theorem d_U_put_16 : decode b_U_put 16 = .ok (.iconst 5, 1) := by decide +kernel
theorem d_U_put_17 : decode b_U_put 17 = .ok (.ireturn, 1) := by decide +kernel
theorem d_U_put_18 : decode b_U_put 18 = .ok (.aload_n 0, 1) := by decide +kernel
theorem d_U_put_19 : decode b_U_put 19 = .ok (.getfield 32, 3) := by decide +kernel
theorem d_U_put_22 : decode b_U_put 22 = .ok (.bipush 8, 2) := by decide +kernel
theorem d_U_put_24 : decode b_U_put 24 = .ok (.if_icmp .lt 5, 3) := by decide +kernel
theorem d_U_put_27 : decode b_U_put 27 = .ok (.iconst 3, 1) := by decide +kernel
theorem d_U_put_28 : decode b_U_put 28 = .ok (.ireturn, 1) := by decide +kernel
theorem d_U_put_29 : decode b_U_put 29 = .ok (.aload_n 0, 1) := by decide +kernel
theorem d_U_put_30 : decode b_U_put 30 = .ok (.getfield 9, 3) := by decide +kernel
theorem d_U_put_33 : decode b_U_put 33 = .ok (.aload_n 0, 1) := by decide +kernel
theorem d_U_put_34 : decode b_U_put 34 = .ok (.getfield 32, 3) := by decide +kernel
theorem d_U_put_37 : decode b_U_put 37 = .ok (.lload_n 1, 1) := by decide +kernel
theorem d_U_put_38 : decode b_U_put 38 = .ok (.l2i, 1) := by decide +kernel
theorem d_U_put_39 : decode b_U_put 39 = .ok (.iastore, 1) := by decide +kernel
theorem d_U_put_40 : decode b_U_put 40 = .ok (.aload_n 0, 1) := by decide +kernel
theorem d_U_put_41 : decode b_U_put 41 = .ok (.dup, 1) := by decide +kernel
theorem d_U_put_42 : decode b_U_put 42 = .ok (.getfield 32, 3) := by decide +kernel
theorem d_U_put_45 : decode b_U_put 45 = .ok (.iconst 1, 1) := by decide +kernel
theorem d_U_put_46 : decode b_U_put 46 = .ok (.iadd, 1) := by decide +kernel
theorem d_U_put_47 : decode b_U_put 47 = .ok (.putfield 32, 3) := by decide +kernel
theorem d_U_put_50 : decode b_U_put 50 = .ok (.bipush 7, 2) := by decide +kernel
theorem d_U_put_52 : decode b_U_put 52 = .ok (.ireturn, 1) := by decide +kernel
theorem d_U_take_0 : decode b_U_take 0 = .ok (.aload_n 0, 1) := by decide +kernel
theorem d_U_take_1 : decode b_U_take 1 = .ok (.getfield 32, 3) := by decide +kernel
theorem d_U_take_4 : decode b_U_take 4 = .ok (.ifCond .gt 5, 3) := by decide +kernel
theorem d_U_take_7 : decode b_U_take 7 = .ok (.iconst 0, 1) := by decide +kernel
theorem d_U_take_8 : decode b_U_take 8 = .ok (.ireturn, 1) := by decide +kernel
theorem d_U_take_9 : decode b_U_take 9 = .ok (.aload_n 0, 1) := by decide +kernel
theorem d_U_take_10 : decode b_U_take 10 = .ok (.dup, 1) := by decide +kernel
theorem d_U_take_11 : decode b_U_take 11 = .ok (.getfield 32, 3) := by decide +kernel
theorem d_U_take_14 : decode b_U_take 14 = .ok (.iconst 1, 1) := by decide +kernel
theorem d_U_take_15 : decode b_U_take 15 = .ok (.isub, 1) := by decide +kernel
theorem d_U_take_16 : decode b_U_take 16 = .ok (.putfield 32, 3) := by decide +kernel
theorem d_U_take_19 : decode b_U_take 19 = .ok (.aload_n 0, 1) := by decide +kernel
theorem d_U_take_20 : decode b_U_take 20 = .ok (.getfield 9, 3) := by decide +kernel
theorem d_U_take_23 : decode b_U_take 23 = .ok (.aload_n 0, 1) := by decide +kernel
theorem d_U_take_24 : decode b_U_take 24 = .ok (.getfield 32, 3) := by decide +kernel
theorem d_U_take_27 : decode b_U_take 27 = .ok (.iaload, 1) := by decide +kernel
theorem d_U_take_28 : decode b_U_take 28 = .ok (.ireturn, 1) := by decide +kernel
theorem d_U_join_0 : decode b_U_join 0 = .ok (.aload_n 0, 1) := by decide +kernel
theorem d_U_join_1 : decode b_U_join 1 = .ok (.invokevirtual 72, 3) := by decide +kernel
theorem d_U_join_4 : decode b_U_join 4 = .ok (.i2l, 1) := by decide +kernel
theorem d_U_join_5 : decode b_U_join 5 = .ok (.lstore_n 2, 1) := by decide +kernel
theorem d_U_join_6 : decode b_U_join 6 = .ok (.aload_n 0, 1) := by decide +kernel
theorem d_U_join_7 : decode b_U_join 7 = .ok (.invokevirtual 72, 3) := by decide +kernel
theorem d_U_join_10 : decode b_U_join 10 = .ok (.i2l, 1) := by decide +kernel
theorem d_U_join_11 : decode b_U_join 11 = .ok (.lstore 4, 2) := by decide +kernel
theorem d_U_join_13 : decode b_U_join 13 = .ok (.iload_n 1, 1) := by decide +kernel
theorem d_U_join_14 : decode b_U_join 14 = .ok (.tableswitch 80 2 6 #[34, 43, 52, 61, 80], 34) := by decide +kernel
theorem d_U_join_48 : decode b_U_join 48 = .ok (.aload_n 0, 1) := by decide +kernel
theorem d_U_join_49 : decode b_U_join 49 = .ok (.lload 4, 2) := by decide +kernel
theorem d_U_join_51 : decode b_U_join 51 = .ok (.lload_n 2, 1) := by decide +kernel
theorem d_U_join_52 : decode b_U_join 52 = .ok (.ladd, 1) := by decide +kernel
theorem d_U_join_53 : decode b_U_join 53 = .ok (.invokevirtual 60, 3) := by decide +kernel
theorem d_U_join_56 : decode b_U_join 56 = .ok (.ireturn, 1) := by decide +kernel
theorem d_U_join_57 : decode b_U_join 57 = .ok (.aload_n 0, 1) := by decide +kernel
theorem d_U_join_58 : decode b_U_join 58 = .ok (.lload 4, 2) := by decide +kernel
theorem d_U_join_60 : decode b_U_join 60 = .ok (.lload_n 2, 1) := by decide +kernel
theorem d_U_join_61 : decode b_U_join 61 = .ok (.lsub, 1) := by decide +kernel
theorem d_U_join_62 : decode b_U_join 62 = .ok (.invokevirtual 60, 3) := by decide +kernel
theorem d_U_join_65 : decode b_U_join 65 = .ok (.ireturn, 1) := by decide +kernel
theorem d_U_join_66 : decode b_U_join 66 = .ok (.aload_n 0, 1) := by decide +kernel
theorem d_U_join_67 : decode b_U_join 67 = .ok (.lload 4, 2) := by decide +kernel
theorem d_U_join_69 : decode b_U_join 69 = .ok (.lload_n 2, 1) := by decide +kernel
theorem d_U_join_70 : decode b_U_join 70 = .ok (.lmul, 1) := by decide +kernel
theorem d_U_join_71 : decode b_U_join 71 = .ok (.invokevirtual 60, 3) := by decide +kernel
theorem d_U_join_74 : decode b_U_join 74 = .ok (.ireturn, 1) := by decide +kernel
theorem d_U_join_75 : decode b_U_join 75 = .ok (.lload_n 2, 1) := by decide +kernel
theorem d_U_join_76 : decode b_U_join 76 = .ok (.lconst 0, 1) := by decide +kernel
theorem d_U_join_77 : decode b_U_join 77 = .ok (.lcmp, 1) := by decide +kernel
theorem d_U_join_78 : decode b_U_join 78 = .ok (.ifCond .ne 7, 3) := by decide +kernel
theorem d_U_join_81 : decode b_U_join 81 = .ok (.iconst 2, 1) := by decide +kernel
theorem d_U_join_82 : decode b_U_join 82 = .ok (.goto 11, 3) := by decide +kernel
theorem d_U_join_85 : decode b_U_join 85 = .ok (.aload_n 0, 1) := by decide +kernel
theorem d_U_join_86 : decode b_U_join 86 = .ok (.lload 4, 2) := by decide +kernel
theorem d_U_join_88 : decode b_U_join 88 = .ok (.lload_n 2, 1) := by decide +kernel
theorem d_U_join_89 : decode b_U_join 89 = .ok (.ldiv, 1) := by decide +kernel
theorem d_U_join_90 : decode b_U_join 90 = .ok (.invokevirtual 60, 3) := by decide +kernel
theorem d_U_join_93 : decode b_U_join 93 = .ok (.ireturn, 1) := by decide +kernel
theorem d_U_join_94 : decode b_U_join 94 = .ok (.aload_n 0, 1) := by decide +kernel
theorem d_U_join_95 : decode b_U_join 95 = .ok (.lload 4, 2) := by decide +kernel
theorem d_U_join_97 : decode b_U_join 97 = .ok (.lload_n 2, 1) := by decide +kernel
theorem d_U_join_98 : decode b_U_join 98 = .ok (.lcmp, 1) := by decide +kernel
theorem d_U_join_99 : decode b_U_join 99 = .ok (.ifCond .ge 7, 3) := by decide +kernel
theorem d_U_join_102 : decode b_U_join 102 = .ok (.lconst 1, 1) := by decide +kernel
theorem d_U_join_103 : decode b_U_join 103 = .ok (.goto 4, 3) := by decide +kernel
theorem d_U_join_106 : decode b_U_join 106 = .ok (.lconst 0, 1) := by decide +kernel
theorem d_U_join_107 : decode b_U_join 107 = .ok (.invokevirtual 60, 3) := by decide +kernel
theorem d_U_join_110 : decode b_U_join 110 = .ok (.ireturn, 1) := by decide +kernel
theorem d_U_startNothing_0 : decode b_U_startNothing 0 = .ok (.aload_n 0, 1) := by decide +kernel
theorem d_U_startNothing_1 : decode b_U_startNothing 1 = .ok (.invokevirtual 19, 3) := by decide +kernel
theorem d_U_startNothing_4 : decode b_U_startNothing 4 = .ok (.aload_n 0, 1) := by decide +kernel
theorem d_U_startNothing_5 : decode b_U_startNothing 5 = .ok (.iconst 0, 1) := by decide +kernel
theorem d_U_startNothing_6 : decode b_U_startNothing 6 = .ok (.putfield 22, 3) := by decide +kernel
theorem d_U_startNothing_9 : decode b_U_startNothing 9 = .ok (.return_, 1) := by decide +kernel
theorem d_U_endedLike_0 : decode b_U_endedLike 0 = .ok (.aload_n 0, 1) := by decide +kernel
theorem d_U_endedLike_1 : decode b_U_endedLike 1 = .ok (.getfield 22, 3) := by decide +kernel
theorem d_U_endedLike_4 : decode b_U_endedLike 4 = .ok (.aload_n 1, 1) := by decide +kernel
theorem d_U_endedLike_5 : decode b_U_endedLike 5 = .ok (.getfield 22, 3) := by decide +kernel
theorem d_U_endedLike_8 : decode b_U_endedLike 8 = .ok (.if_icmp .ne 18, 3) := by decide +kernel
theorem d_U_endedLike_11 : decode b_U_endedLike 11 = .ok (.aload_n 0, 1) := by decide +kernel
theorem d_U_endedLike_12 : decode b_U_endedLike 12 = .ok (.getfield 29, 3) := by decide +kernel
theorem d_U_endedLike_15 : decode b_U_endedLike 15 = .ok (.aload_n 1, 1) := by decide +kernel
theorem d_U_endedLike_16 : decode b_U_endedLike 16 = .ok (.getfield 29, 3) := by decide +kernel
theorem d_U_endedLike_19 : decode b_U_endedLike 19 = .ok (.if_icmp .ne 7, 3) := by decide +kernel
theorem d_U_endedLike_22 : decode b_U_endedLike 22 = .ok (.iconst 1, 1) := by decide +kernel
theorem d_U_endedLike_23 : decode b_U_endedLike 23 = .ok (.goto 4, 3) := by decide +kernel
theorem d_U_endedLike_26 : decode b_U_endedLike 26 = .ok (.iconst 0, 1) := by decide +kernel
theorem d_U_endedLike_27 : decode b_U_endedLike 27 = .ok (.ireturn, 1) := by decide +kernel
theorem d_E_init_0 : decode b_E_init 0 = .ok (.aload_n 0, 1) := by decide +kernel
theorem d_E_init_1 : decode b_E_init 1 = .ok (.invokespecial 3, 3) := by decide +kernel
theorem d_E_init_4 : decode b_E_init 4 = .ok (.aload_n 0, 1) := by decide +kernel
theorem d_E_init_5 : decode b_E_init 5 = .ok (.bipush 16, 2) := by decide +kernel
theorem d_E_init_7 : decode b_E_init 7 = .ok (.newarray .int, 2) := by decide +kernel
theorem d_E_init_9 : decode b_E_init 9 = .ok (.putfield 9, 3) := by decide +kernel
theorem d_E_init_12 : decode b_E_init 12 = .ok (.aload_n 0, 1) := by decide +kernel
theorem d_E_init_13 : decode b_E_init 13 = .ok (.bipush 16, 2) := by decide +kernel
theorem d_E_init_15 : decode b_E_init 15 = .ok (.newarray .int, 2) := by decide +kernel
theorem d_E_init_17 : decode b_E_init 17 = .ok (.putfield 15, 3) := by decide +kernel
theorem d_E_init_20 : decode b_E_init 20 = .ok (.aload_n 0, 1) := by decide +kernel
theorem d_E_init_21 : decode b_E_init 21 = .ok (.iload_n 1, 1) := by decide +kernel
theorem d_E_init_22 : decode b_E_init 22 = .ok (.putfield 18, 3) := by decide +kernel
theorem d_E_init_25 : decode b_E_init 25 = .ok (.aload_n 0, 1) := by decide +kernel
theorem d_E_init_26 : decode b_E_init 26 = .ok (.iload_n 2, 1) := by decide +kernel
theorem d_E_init_27 : decode b_E_init 27 = .ok (.putfield 22, 3) := by decide +kernel
theorem d_E_init_30 : decode b_E_init 30 = .ok (.aload_n 0, 1) := by decide +kernel
theorem d_E_init_31 : decode b_E_init 31 = .ok (.iload_n 3, 1) := by decide +kernel
theorem d_E_init_32 : decode b_E_init 32 = .ok (.putfield 25, 3) := by decide +kernel
theorem d_E_init_35 : decode b_E_init 35 = .ok (.return_, 1) := by decide +kernel
theorem d_E_append_0 : decode b_E_append 0 = .ok (.aload_n 0, 1) := by decide +kernel
theorem d_E_append_1 : decode b_E_append 1 = .ok (.getfield 28, 3) := by decide +kernel
theorem d_E_append_4 : decode b_E_append 4 = .ok (.bipush 16, 2) := by decide +kernel
theorem d_E_append_6 : decode b_E_append 6 = .ok (.if_icmp .ge 33, 3) := by decide +kernel
theorem d_E_append_9 : decode b_E_append 9 = .ok (.aload_n 0, 1) := by decide +kernel
theorem d_E_append_10 : decode b_E_append 10 = .ok (.getfield 9, 3) := by decide +kernel
theorem d_E_append_13 : decode b_E_append 13 = .ok (.aload_n 0, 1) := by decide +kernel
theorem d_E_append_14 : decode b_E_append 14 = .ok (.getfield 28, 3) := by decide +kernel
theorem d_E_append_17 : decode b_E_append 17 = .ok (.iload_n 1, 1) := by decide +kernel
theorem d_E_append_18 : decode b_E_append 18 = .ok (.iastore, 1) := by decide +kernel
theorem d_E_append_19 : decode b_E_append 19 = .ok (.aload_n 0, 1) := by decide +kernel
theorem d_E_append_20 : decode b_E_append 20 = .ok (.getfield 15, 3) := by decide +kernel
theorem d_E_append_23 : decode b_E_append 23 = .ok (.aload_n 0, 1) := by decide +kernel
theorem d_E_append_24 : decode b_E_append 24 = .ok (.getfield 28, 3) := by decide +kernel
theorem d_E_append_27 : decode b_E_append 27 = .ok (.iload_n 2, 1) := by decide +kernel
theorem d_E_append_28 : decode b_E_append 28 = .ok (.iastore, 1) := by decide +kernel
theorem d_E_append_29 : decode b_E_append 29 = .ok (.aload_n 0, 1) := by decide +kernel
theorem d_E_append_30 : decode b_E_append 30 = .ok (.dup, 1) := by decide +kernel
theorem d_E_append_31 : decode b_E_append 31 = .ok (.getfield 28, 3) := by decide +kernel
theorem d_E_append_34 : decode b_E_append 34 = .ok (.iconst 1, 1) := by decide +kernel
theorem d_E_append_35 : decode b_E_append 35 = .ok (.iadd, 1) := by decide +kernel
theorem d_E_append_36 : decode b_E_append 36 = .ok (.putfield 28, 3) := by decide +kernel
theorem d_E_append_39 : decode b_E_append 39 = .ok (.return_, 1) := by decide +kernel
theorem d_E_countsFor_0 : decode b_E_countsFor 0 = .ok (.aload_n 0, 1) := by decide +kernel
theorem d_E_countsFor_1 : decode b_E_countsFor 1 = .ok (.getfield 31, 3) := by decide +kernel
theorem d_E_countsFor_4 : decode b_E_countsFor 4 = .ok (.ifCond .eq 31, 3) := by decide +kernel
theorem d_E_countsFor_7 : decode b_E_countsFor 7 = .ok (.aload_n 0, 1) := by decide +kernel
theorem d_E_countsFor_8 : decode b_E_countsFor 8 = .ok (.getfield 18, 3) := by decide +kernel
theorem d_E_countsFor_11 : decode b_E_countsFor 11 = .ok (.iload_n 1, 1) := by decide +kernel
theorem d_E_countsFor_12 : decode b_E_countsFor 12 = .ok (.if_icmp .ne 23, 3) := by decide +kernel
theorem d_E_countsFor_15 : decode b_E_countsFor 15 = .ok (.aload_n 0, 1) := by decide +kernel
theorem d_E_countsFor_16 : decode b_E_countsFor 16 = .ok (.getfield 22, 3) := by decide +kernel
theorem d_E_countsFor_19 : decode b_E_countsFor 19 = .ok (.iload_n 2, 1) := by decide +kernel
theorem d_E_countsFor_20 : decode b_E_countsFor 20 = .ok (.if_icmp .ne 15, 3) := by decide +kernel
theorem d_E_countsFor_23 : decode b_E_countsFor 23 = .ok (.aload_n 0, 1) := by decide +kernel
theorem d_E_countsFor_24 : decode b_E_countsFor 24 = .ok (.getfield 25, 3) := by decide +kernel
theorem d_E_countsFor_27 : decode b_E_countsFor 27 = .ok (.iload_n 3, 1) := by decide +kernel
theorem d_E_countsFor_28 : decode b_E_countsFor 28 = .ok (.if_icmp .gt 7, 3) := by decide +kernel
theorem d_E_countsFor_31 : decode b_E_countsFor 31 = .ok (.iconst 1, 1) := by decide +kernel
theorem d_E_countsFor_32 : decode b_E_countsFor 32 = .ok (.goto 4, 3) := by decide +kernel
theorem d_E_countsFor_35 : decode b_E_countsFor 35 = .ok (.iconst 0, 1) := by decide +kernel
theorem d_E_countsFor_36 : decode b_E_countsFor 36 = .ok (.ireturn, 1) := by decide +kernel
theorem d_E_noteQuestion_0 : decode b_E_noteQuestion 0 = .ok (.aload_n 0, 1) := by decide +kernel
theorem d_E_noteQuestion_1 : decode b_E_noteQuestion 1 = .ok (.dup, 1) := by decide +kernel
theorem d_E_noteQuestion_2 : decode b_E_noteQuestion 2 = .ok (.getfield 35, 3) := by decide +kernel
theorem d_E_noteQuestion_5 : decode b_E_noteQuestion 5 = .ok (.iconst 1, 1) := by decide +kernel
theorem d_E_noteQuestion_6 : decode b_E_noteQuestion 6 = .ok (.iadd, 1) := by decide +kernel
theorem d_E_noteQuestion_7 : decode b_E_noteQuestion 7 = .ok (.putfield 35, 3) := by decide +kernel
theorem d_E_noteQuestion_10 : decode b_E_noteQuestion 10 = .ok (.aload_n 0, 1) := by decide +kernel
theorem d_E_noteQuestion_11 : decode b_E_noteQuestion 11 = .ok (.dup, 1) := by decide +kernel
theorem d_E_noteQuestion_12 : decode b_E_noteQuestion 12 = .ok (.getfield 38, 3) := by decide +kernel
theorem d_E_noteQuestion_15 : decode b_E_noteQuestion 15 = .ok (.aload_n 1, 1) := by decide +kernel
theorem d_E_noteQuestion_16 : decode b_E_noteQuestion 16 = .ok (.getfield 41, 3) := by decide +kernel
theorem d_E_noteQuestion_19 : decode b_E_noteQuestion 19 = .ok (.iadd, 1) := by decide +kernel
theorem d_E_noteQuestion_20 : decode b_E_noteQuestion 20 = .ok (.putfield 38, 3) := by decide +kernel
theorem d_E_noteQuestion_23 : decode b_E_noteQuestion 23 = .ok (.aload_n 1, 1) := by decide +kernel
theorem d_E_noteQuestion_24 : decode b_E_noteQuestion 24 = .ok (.getfield 46, 3) := by decide +kernel
theorem d_E_noteQuestion_27 : decode b_E_noteQuestion 27 = .ok (.bipush 6, 2) := by decide +kernel
theorem d_E_noteQuestion_29 : decode b_E_noteQuestion 29 = .ok (.if_icmp .eq 13, 3) := by decide +kernel
theorem d_E_noteQuestion_32 : decode b_E_noteQuestion 32 = .ok (.aload_n 0, 1) := by decide +kernel
theorem d_E_noteQuestion_33 : decode b_E_noteQuestion 33 = .ok (.dup, 1) := by decide +kernel
theorem d_E_noteQuestion_34 : decode b_E_noteQuestion 34 = .ok (.getfield 49, 3) := by decide +kernel
theorem d_E_noteQuestion_37 : decode b_E_noteQuestion 37 = .ok (.iconst 1, 1) := by decide +kernel
theorem d_E_noteQuestion_38 : decode b_E_noteQuestion 38 = .ok (.iadd, 1) := by decide +kernel
theorem d_E_noteQuestion_39 : decode b_E_noteQuestion 39 = .ok (.putfield 49, 3) := by decide +kernel
theorem d_E_noteQuestion_42 : decode b_E_noteQuestion 42 = .ok (.return_, 1) := by decide +kernel
theorem d_E_hasCodeOf_0 : decode b_E_hasCodeOf 0 = .ok (.aload_n 0, 1) := by decide +kernel
theorem d_E_hasCodeOf_1 : decode b_E_hasCodeOf 1 = .ok (.getfield 28, 3) := by decide +kernel
theorem d_E_hasCodeOf_4 : decode b_E_hasCodeOf 4 = .ok (.aload_n 1, 1) := by decide +kernel
theorem d_E_hasCodeOf_5 : decode b_E_hasCodeOf 5 = .ok (.getfield 28, 3) := by decide +kernel
theorem d_E_hasCodeOf_8 : decode b_E_hasCodeOf 8 = .ok (.if_icmp .eq 5, 3) := by decide +kernel
theorem d_E_hasCodeOf_11 : decode b_E_hasCodeOf 11 = .ok (.iconst 0, 1) := by decide +kernel
theorem d_E_hasCodeOf_12 : decode b_E_hasCodeOf 12 = .ok (.ireturn, 1) := by decide +kernel
theorem d_E_hasCodeOf_13 : decode b_E_hasCodeOf 13 = .ok (.iconst 0, 1) := by decide +kernel
theorem d_E_hasCodeOf_14 : decode b_E_hasCodeOf 14 = .ok (.istore_n 2, 1) := by decide +kernel
theorem d_E_hasCodeOf_15 : decode b_E_hasCodeOf 15 = .ok (.iload_n 2, 1) := by decide +kernel
theorem d_E_hasCodeOf_16 : decode b_E_hasCodeOf 16 = .ok (.aload_n 0, 1) := by decide +kernel
theorem d_E_hasCodeOf_17 : decode b_E_hasCodeOf 17 = .ok (.getfield 28, 3) := by decide +kernel
theorem d_E_hasCodeOf_20 : decode b_E_hasCodeOf 20 = .ok (.if_icmp .ge 41, 3) := by decide +kernel
theorem d_E_hasCodeOf_23 : decode b_E_hasCodeOf 23 = .ok (.aload_n 0, 1) := by decide +kernel
theorem d_E_hasCodeOf_24 : decode b_E_hasCodeOf 24 = .ok (.getfield 9, 3) := by decide +kernel
theorem d_E_hasCodeOf_27 : decode b_E_hasCodeOf 27 = .ok (.iload_n 2, 1) := by decide +kernel
theorem d_E_hasCodeOf_28 : decode b_E_hasCodeOf 28 = .ok (.iaload, 1) := by decide +kernel
theorem d_E_hasCodeOf_29 : decode b_E_hasCodeOf 29 = .ok (.aload_n 1, 1) := by decide +kernel
theorem d_E_hasCodeOf_30 : decode b_E_hasCodeOf 30 = .ok (.getfield 9, 3) := by decide +kernel
theorem d_E_hasCodeOf_33 : decode b_E_hasCodeOf 33 = .ok (.iload_n 2, 1) := by decide +kernel
theorem d_E_hasCodeOf_34 : decode b_E_hasCodeOf 34 = .ok (.iaload, 1) := by decide +kernel
theorem d_E_hasCodeOf_35 : decode b_E_hasCodeOf 35 = .ok (.if_icmp .ne 18, 3) := by decide +kernel
theorem d_E_hasCodeOf_38 : decode b_E_hasCodeOf 38 = .ok (.aload_n 0, 1) := by decide +kernel
theorem d_E_hasCodeOf_39 : decode b_E_hasCodeOf 39 = .ok (.getfield 15, 3) := by decide +kernel
theorem d_E_hasCodeOf_42 : decode b_E_hasCodeOf 42 = .ok (.iload_n 2, 1) := by decide +kernel
theorem d_E_hasCodeOf_43 : decode b_E_hasCodeOf 43 = .ok (.iaload, 1) := by decide +kernel
theorem d_E_hasCodeOf_44 : decode b_E_hasCodeOf 44 = .ok (.aload_n 1, 1) := by decide +kernel
theorem d_E_hasCodeOf_45 : decode b_E_hasCodeOf 45 = .ok (.getfield 15, 3) := by decide +kernel
theorem d_E_hasCodeOf_48 : decode b_E_hasCodeOf 48 = .ok (.iload_n 2, 1) := by decide +kernel
theorem d_E_hasCodeOf_49 : decode b_E_hasCodeOf 49 = .ok (.iaload, 1) := by decide +kernel
theorem d_E_hasCodeOf_50 : decode b_E_hasCodeOf 50 = .ok (.if_icmp .eq 5, 3) := by decide +kernel
theorem d_E_hasCodeOf_53 : decode b_E_hasCodeOf 53 = .ok (.iconst 0, 1) := by decide +kernel
theorem d_E_hasCodeOf_54 : decode b_E_hasCodeOf 54 = .ok (.ireturn, 1) := by decide +kernel
theorem d_E_hasCodeOf_55 : decode b_E_hasCodeOf 55 = .ok (.iinc 2 1, 3) := by decide +kernel
theorem d_E_hasCodeOf_58 : decode b_E_hasCodeOf 58 = .ok (.goto (-43), 3) := by decide +kernel
theorem d_E_hasCodeOf_61 : decode b_E_hasCodeOf 61 = .ok (.iconst 1, 1) := by decide +kernel
theorem d_E_hasCodeOf_62 : decode b_E_hasCodeOf 62 = .ok (.ireturn, 1) := by decide +kernel
theorem d_E_tell_0 : decode b_E_tell 0 = .ok (.iload_n 1, 1) := by decide +kernel
theorem d_E_tell_1 : decode b_E_tell 1 = .ok (.tableswitch 86 0 6 #[43, 48, 53, 58, 63, 76, 81], 43) := by decide +kernel
theorem d_E_tell_44 : decode b_E_tell 44 = .ok (.aload_n 0, 1) := by decide +kernel
theorem d_E_tell_45 : decode b_E_tell 45 = .ok (.getfield 18, 3) := by decide +kernel
theorem d_E_tell_48 : decode b_E_tell 48 = .ok (.ireturn, 1) := by decide +kernel
theorem d_E_tell_49 : decode b_E_tell 49 = .ok (.aload_n 0, 1) := by decide +kernel
theorem d_E_tell_50 : decode b_E_tell 50 = .ok (.getfield 22, 3) := by decide +kernel
theorem d_E_tell_53 : decode b_E_tell 53 = .ok (.ireturn, 1) := by decide +kernel
theorem d_E_tell_54 : decode b_E_tell 54 = .ok (.aload_n 0, 1) := by decide +kernel
theorem d_E_tell_55 : decode b_E_tell 55 = .ok (.getfield 25, 3) := by decide +kernel
theorem d_E_tell_58 : decode b_E_tell 58 = .ok (.ireturn, 1) := by decide +kernel
theorem d_E_tell_59 : decode b_E_tell 59 = .ok (.aload_n 0, 1) := by decide +kernel
theorem d_E_tell_60 : decode b_E_tell 60 = .ok (.getfield 28, 3) := by decide +kernel
theorem d_E_tell_63 : decode b_E_tell 63 = .ok (.ireturn, 1) := by decide +kernel
theorem d_E_tell_64 : decode b_E_tell 64 = .ok (.aload_n 0, 1) := by decide +kernel
theorem d_E_tell_65 : decode b_E_tell 65 = .ok (.getfield 31, 3) := by decide +kernel
theorem d_E_tell_68 : decode b_E_tell 68 = .ok (.ifCond .eq 7, 3) := by decide +kernel
theorem d_E_tell_71 : decode b_E_tell 71 = .ok (.iconst 1, 1) := by decide +kernel
theorem d_E_tell_72 : decode b_E_tell 72 = .ok (.goto 4, 3) := by decide +kernel
theorem d_E_tell_75 : decode b_E_tell 75 = .ok (.iconst 0, 1) := by decide +kernel
theorem d_E_tell_76 : decode b_E_tell 76 = .ok (.ireturn, 1) := by decide +kernel
theorem d_E_tell_77 : decode b_E_tell 77 = .ok (.aload_n 0, 1) := by decide +kernel
theorem d_E_tell_78 : decode b_E_tell 78 = .ok (.getfield 35, 3) := by decide +kernel
theorem d_E_tell_81 : decode b_E_tell 81 = .ok (.ireturn, 1) := by decide +kernel
theorem d_E_tell_82 : decode b_E_tell 82 = .ok (.aload_n 0, 1) := by decide +kernel
theorem d_E_tell_83 : decode b_E_tell 83 = .ok (.getfield 38, 3) := by decide +kernel
theorem d_E_tell_86 : decode b_E_tell 86 = .ok (.ireturn, 1) := by decide +kernel
theorem d_E_tell_87 : decode b_E_tell 87 = .ok (.aload_n 0, 1) := by decide +kernel
theorem d_E_tell_88 : decode b_E_tell 88 = .ok (.getfield 49, 3) := by decide +kernel
theorem d_E_tell_91 : decode b_E_tell 91 = .ok (.ireturn, 1) := by decide +kernel
theorem d_F_init_0 : decode b_F_init 0 = .ok (.aload_n 0, 1) := by decide +kernel
theorem d_F_init_1 : decode b_F_init 1 = .ok (.invokespecial 3, 3) := by decide +kernel
theorem d_F_init_4 : decode b_F_init 4 = .ok (.aload_n 0, 1) := by decide +kernel
theorem d_F_init_5 : decode b_F_init 5 = .ok (.bipush 8, 2) := by decide +kernel
theorem d_F_init_7 : decode b_F_init 7 = .ok (.newarray .int, 2) := by decide +kernel
theorem d_F_init_9 : decode b_F_init 9 = .ok (.putfield 9, 3) := by decide +kernel
theorem d_F_init_12 : decode b_F_init 12 = .ok (.return_, 1) := by decide +kernel
theorem d_F_copy_0 : decode b_F_copy 0 = .ok (.new 10, 3) := by decide +kernel
theorem d_F_copy_3 : decode b_F_copy 3 = .ok (.dup, 1) := by decide +kernel
theorem d_F_copy_4 : decode b_F_copy 4 = .ok (.invokespecial 15, 3) := by decide +kernel
theorem d_F_copy_7 : decode b_F_copy 7 = .ok (.astore_n 1, 1) := by decide +kernel
theorem d_F_copy_8 : decode b_F_copy 8 = .ok (.aload_n 0, 1) := by decide +kernel
theorem d_F_copy_9 : decode b_F_copy 9 = .ok (.getfield 9, 3) := by decide +kernel
theorem d_F_copy_12 : decode b_F_copy 12 = .ok (.iconst 0, 1) := by decide +kernel
theorem d_F_copy_13 : decode b_F_copy 13 = .ok (.aload_n 1, 1) := by decide +kernel
theorem d_F_copy_14 : decode b_F_copy 14 = .ok (.getfield 9, 3) := by decide +kernel
theorem d_F_copy_17 : decode b_F_copy 17 = .ok (.iconst 0, 1) := by decide +kernel
theorem d_F_copy_18 : decode b_F_copy 18 = .ok (.bipush 8, 2) := by decide +kernel
theorem d_F_copy_20 : decode b_F_copy 20 = .ok (.invokestatic 16, 3) := by decide +kernel
theorem d_F_copy_23 : decode b_F_copy 23 = .ok (.aload_n 1, 1) := by decide +kernel
theorem d_F_copy_24 : decode b_F_copy 24 = .ok (.areturn, 1) := by decide +kernel
theorem d_A_init_0 : decode b_A_init 0 = .ok (.aload_n 0, 1) := by decide +kernel
theorem d_A_init_1 : decode b_A_init 1 = .ok (.invokespecial 1, 3) := by decide +kernel
theorem d_A_init_4 : decode b_A_init 4 = .ok (.aload_n 0, 1) := by decide +kernel
theorem d_A_init_5 : decode b_A_init 5 = .ok (.getstatic 39, 3) := by decide +kernel
theorem d_A_init_8 : decode b_A_init 8 = .ok (.putfield 9, 3) := by decide +kernel
theorem d_A_init_11 : decode b_A_init 11 = .ok (.return_, 1) := by decide +kernel
theorem d_AL_init_0 : decode b_AL_init 0 = .ok (.aload_n 0, 1) := by decide +kernel
theorem d_AL_init_1 : decode b_AL_init 1 = .ok (.invokespecial 1, 3) := by decide +kernel
theorem d_AL_init_4 : decode b_AL_init 4 = .ok (.aload_n 0, 1) := by decide +kernel
theorem d_AL_init_5 : decode b_AL_init 5 = .ok (.iconst 0, 1) := by decide +kernel
theorem d_AL_init_6 : decode b_AL_init 6 = .ok (.putfield 7, 3) := by decide +kernel
theorem d_AL_init_9 : decode b_AL_init 9 = .ok (.return_, 1) := by decide +kernel
theorem d_AC_init_0 : decode b_AC_init 0 = .ok (.aload_n 0, 1) := by decide +kernel
theorem d_AC_init_1 : decode b_AC_init 1 = .ok (.invokespecial 1, 3) := by decide +kernel
theorem d_AC_init_4 : decode b_AC_init 4 = .ok (.return_, 1) := by decide +kernel
theorem d_MA_min_0 : decode b_MA_min 0 = .ok (.iload_n 0, 1) := by decide +kernel
theorem d_MA_min_1 : decode b_MA_min 1 = .ok (.iload_n 1, 1) := by decide +kernel
theorem d_MA_min_2 : decode b_MA_min 2 = .ok (.if_icmp .gt 7, 3) := by decide +kernel
theorem d_MA_min_5 : decode b_MA_min 5 = .ok (.iload_n 0, 1) := by decide +kernel
theorem d_MA_min_6 : decode b_MA_min 6 = .ok (.goto 4, 3) := by decide +kernel
theorem d_MA_min_9 : decode b_MA_min 9 = .ok (.iload_n 1, 1) := by decide +kernel
theorem d_MA_min_10 : decode b_MA_min 10 = .ok (.ireturn, 1) := by decide +kernel
theorem d_MA_max_0 : decode b_MA_max 0 = .ok (.iload_n 0, 1) := by decide +kernel
theorem d_MA_max_1 : decode b_MA_max 1 = .ok (.iload_n 1, 1) := by decide +kernel
theorem d_MA_max_2 : decode b_MA_max 2 = .ok (.if_icmp .lt 7, 3) := by decide +kernel
theorem d_MA_max_5 : decode b_MA_max 5 = .ok (.iload_n 0, 1) := by decide +kernel
theorem d_MA_max_6 : decode b_MA_max 6 = .ok (.goto 4, 3) := by decide +kernel
theorem d_MA_max_9 : decode b_MA_max 9 = .ok (.iload_n 1, 1) := by decide +kernel
theorem d_MA_max_10 : decode b_MA_max 10 = .ok (.ireturn, 1) := by decide +kernel
theorem d_A_size_0 : decode b_A_size 0 = .ok (.aload_n 0, 1) := by decide +kernel
theorem d_A_size_1 : decode b_A_size 1 = .ok (.getfield 48, 3) := by decide +kernel
theorem d_A_size_4 : decode b_A_size 4 = .ok (.ireturn, 1) := by decide +kernel
theorem d_A_get_0 : decode b_A_get 0 = .ok (.iload_n 1, 1) := by decide +kernel
theorem d_A_get_1 : decode b_A_get 1 = .ok (.aload_n 0, 1) := by decide +kernel
theorem d_A_get_2 : decode b_A_get 2 = .ok (.getfield 48, 3) := by decide +kernel
theorem d_A_get_5 : decode b_A_get 5 = .ok (.invokestatic 118, 3) := by decide +kernel
theorem d_A_get_8 : decode b_A_get 8 = .ok (.pop, 1) := by decide +kernel
theorem d_A_get_9 : decode b_A_get 9 = .ok (.aload_n 0, 1) := by decide +kernel
theorem d_A_get_10 : decode b_A_get 10 = .ok (.iload_n 1, 1) := by decide +kernel
theorem d_A_get_11 : decode b_A_get 11 = .ok (.invokevirtual 123, 3) := by decide +kernel
theorem d_A_get_14 : decode b_A_get 14 = .ok (.areturn, 1) := by decide +kernel
theorem d_OB_checkIndex_0 : decode b_OB_checkIndex 0 = .ok (.iload_n 0, 1) := by decide +kernel
theorem d_OB_checkIndex_1 : decode b_OB_checkIndex 1 = .ok (.iload_n 1, 1) := by decide +kernel
theorem d_OB_checkIndex_2 : decode b_OB_checkIndex 2 = .ok (.aconst_null, 1) := by decide +kernel
theorem d_OB_checkIndex_3 : decode b_OB_checkIndex 3 = .ok (.invokestatic 105, 3) := by decide +kernel
theorem d_OB_checkIndex_6 : decode b_OB_checkIndex 6 = .ok (.ireturn, 1) := by decide +kernel
theorem d_PC_checkIndex_0 : decode b_PC_checkIndex 0 = .ok (.iload_n 0, 1) := by decide +kernel
theorem d_PC_checkIndex_1 : decode b_PC_checkIndex 1 = .ok (.ifCond .lt 8, 3) := by decide +kernel
theorem d_PC_checkIndex_4 : decode b_PC_checkIndex 4 = .ok (.iload_n 0, 1) := by decide +kernel
theorem d_PC_checkIndex_5 : decode b_PC_checkIndex 5 = .ok (.iload_n 1, 1) := by decide +kernel
theorem d_PC_checkIndex_6 : decode b_PC_checkIndex 6 = .ok (.if_icmp .lt 10, 3) := by decide +kernel
theorem d_PC_checkIndex_9 : decode b_PC_checkIndex 9 = .ok (.aload_n 2, 1) := by decide +kernel
theorem d_PC_checkIndex_10 : decode b_PC_checkIndex 10 = .ok (.iload_n 0, 1) := by decide +kernel
theorem d_PC_checkIndex_11 : decode b_PC_checkIndex 11 = .ok (.iload_n 1, 1) := by decide +kernel
theorem d_PC_checkIndex_12 : decode b_PC_checkIndex 12 = .ok (.invokestatic 95, 3) := by decide +kernel
theorem d_PC_checkIndex_15 : decode b_PC_checkIndex 15 = .ok (.athrow, 1) := by decide +kernel
theorem d_PC_checkIndex_16 : decode b_PC_checkIndex 16 = .ok (.iload_n 0, 1) := by decide +kernel
theorem d_PC_checkIndex_17 : decode b_PC_checkIndex 17 = .ok (.ireturn, 1) := by decide +kernel
theorem d_A_elementData_0 : decode b_A_elementData 0 = .ok (.aload_n 0, 1) := by decide +kernel
theorem d_A_elementData_1 : decode b_A_elementData 1 = .ok (.getfield 9, 3) := by decide +kernel
theorem d_A_elementData_4 : decode b_A_elementData 4 = .ok (.iload_n 1, 1) := by decide +kernel
theorem d_A_elementData_5 : decode b_A_elementData 5 = .ok (.aaload, 1) := by decide +kernel
theorem d_A_elementData_6 : decode b_A_elementData 6 = .ok (.areturn, 1) := by decide +kernel
theorem d_A_add_0 : decode b_A_add 0 = .ok (.aload_n 0, 1) := by decide +kernel
theorem d_A_add_1 : decode b_A_add 1 = .ok (.dup, 1) := by decide +kernel
theorem d_A_add_2 : decode b_A_add 2 = .ok (.getfield 63, 3) := by decide +kernel
theorem d_A_add_5 : decode b_A_add 5 = .ok (.iconst 1, 1) := by decide +kernel
theorem d_A_add_6 : decode b_A_add 6 = .ok (.iadd, 1) := by decide +kernel
theorem d_A_add_7 : decode b_A_add 7 = .ok (.putfield 63, 3) := by decide +kernel
theorem d_A_add_10 : decode b_A_add 10 = .ok (.aload_n 0, 1) := by decide +kernel
theorem d_A_add_11 : decode b_A_add 11 = .ok (.aload_n 1, 1) := by decide +kernel
theorem d_A_add_12 : decode b_A_add 12 = .ok (.aload_n 0, 1) := by decide +kernel
theorem d_A_add_13 : decode b_A_add 13 = .ok (.getfield 9, 3) := by decide +kernel
theorem d_A_add_16 : decode b_A_add 16 = .ok (.aload_n 0, 1) := by decide +kernel
theorem d_A_add_17 : decode b_A_add 17 = .ok (.getfield 48, 3) := by decide +kernel
theorem d_A_add_20 : decode b_A_add 20 = .ok (.invokevirtual 131, 3) := by decide +kernel
theorem d_A_add_23 : decode b_A_add 23 = .ok (.iconst 1, 1) := by decide +kernel
theorem d_A_add_24 : decode b_A_add 24 = .ok (.ireturn, 1) := by decide +kernel
theorem d_A_add2_0 : decode b_A_add2 0 = .ok (.iload_n 3, 1) := by decide +kernel
theorem d_A_add2_1 : decode b_A_add2 1 = .ok (.aload_n 2, 1) := by decide +kernel
theorem d_A_add2_2 : decode b_A_add2 2 = .ok (.arraylength, 1) := by decide +kernel
theorem d_A_add2_3 : decode b_A_add2 3 = .ok (.if_icmp .ne 8, 3) := by decide +kernel
theorem d_A_add2_6 : decode b_A_add2 6 = .ok (.aload_n 0, 1) := by decide +kernel
theorem d_A_add2_7 : decode b_A_add2 7 = .ok (.invokevirtual 129, 3) := by decide +kernel
theorem d_A_add2_10 : decode b_A_add2 10 = .ok (.astore_n 2, 1) := by decide +kernel
theorem d_A_add2_11 : decode b_A_add2 11 = .ok (.aload_n 2, 1) := by decide +kernel
theorem d_A_add2_12 : decode b_A_add2 12 = .ok (.iload_n 3, 1) := by decide +kernel
theorem d_A_add2_13 : decode b_A_add2 13 = .ok (.aload_n 1, 1) := by decide +kernel
theorem d_A_add2_14 : decode b_A_add2 14 = .ok (.aastore, 1) := by decide +kernel
theorem d_A_add2_15 : decode b_A_add2 15 = .ok (.aload_n 0, 1) := by decide +kernel
theorem d_A_add2_16 : decode b_A_add2 16 = .ok (.iload_n 3, 1) := by decide +kernel
theorem d_A_add2_17 : decode b_A_add2 17 = .ok (.iconst 1, 1) := by decide +kernel
theorem d_A_add2_18 : decode b_A_add2 18 = .ok (.iadd, 1) := by decide +kernel
theorem d_A_add2_19 : decode b_A_add2 19 = .ok (.putfield 48, 3) := by decide +kernel
theorem d_A_add2_22 : decode b_A_add2 22 = .ok (.return_, 1) := by decide +kernel
theorem d_A_grow_0 : decode b_A_grow 0 = .ok (.aload_n 0, 1) := by decide +kernel
theorem d_A_grow_1 : decode b_A_grow 1 = .ok (.aload_n 0, 1) := by decide +kernel
theorem d_A_grow_2 : decode b_A_grow 2 = .ok (.getfield 48, 3) := by decide +kernel
theorem d_A_grow_5 : decode b_A_grow 5 = .ok (.iconst 1, 1) := by decide +kernel
theorem d_A_grow_6 : decode b_A_grow 6 = .ok (.iadd, 1) := by decide +kernel
theorem d_A_grow_7 : decode b_A_grow 7 = .ok (.invokevirtual 69, 3) := by decide +kernel
theorem d_A_grow_10 : decode b_A_grow 10 = .ok (.areturn, 1) := by decide +kernel
theorem d_A_grow2_0 : decode b_A_grow2 0 = .ok (.aload_n 0, 1) := by decide +kernel
theorem d_A_grow2_1 : decode b_A_grow2 1 = .ok (.getfield 9, 3) := by decide +kernel
theorem d_A_grow2_4 : decode b_A_grow2 4 = .ok (.arraylength, 1) := by decide +kernel
theorem d_A_grow2_5 : decode b_A_grow2 5 = .ok (.istore_n 2, 1) := by decide +kernel
theorem d_A_grow2_6 : decode b_A_grow2 6 = .ok (.iload_n 2, 1) := by decide +kernel
theorem d_A_grow2_7 : decode b_A_grow2 7 = .ok (.ifCond .gt 13, 3) := by decide +kernel
theorem d_A_grow2_10 : decode b_A_grow2 10 = .ok (.aload_n 0, 1) := by decide +kernel
theorem d_A_grow2_11 : decode b_A_grow2 11 = .ok (.getfield 9, 3) := by decide +kernel
theorem d_A_grow2_14 : decode b_A_grow2 14 = .ok (.getstatic 39, 3) := by decide +kernel
theorem d_A_grow2_17 : decode b_A_grow2 17 = .ok (.if_acmp .eq 28, 3) := by decide +kernel
theorem d_A_grow2_20 : decode b_A_grow2 20 = .ok (.iload_n 2, 1) := by decide +kernel
theorem d_A_grow2_21 : decode b_A_grow2 21 = .ok (.iload_n 1, 1) := by decide +kernel
theorem d_A_grow2_22 : decode b_A_grow2 22 = .ok (.iload_n 2, 1) := by decide +kernel
theorem d_A_grow2_23 : decode b_A_grow2 23 = .ok (.isub, 1) := by decide +kernel
theorem d_A_grow2_24 : decode b_A_grow2 24 = .ok (.iload_n 2, 1) := by decide +kernel
theorem d_A_grow2_25 : decode b_A_grow2 25 = .ok (.iconst 1, 1) := by decide +kernel
theorem d_A_grow2_26 : decode b_A_grow2 26 = .ok (.ishr, 1) := by decide +kernel
theorem d_A_grow2_27 : decode b_A_grow2 27 = .ok (.invokestatic 73, 3) := by decide +kernel
theorem d_A_grow2_30 : decode b_A_grow2 30 = .ok (.istore_n 3, 1) := by decide +kernel
theorem d_A_grow2_31 : decode b_A_grow2 31 = .ok (.aload_n 0, 1) := by decide +kernel
theorem d_A_grow2_32 : decode b_A_grow2 32 = .ok (.aload_n 0, 1) := by decide +kernel
theorem d_A_grow2_33 : decode b_A_grow2 33 = .ok (.getfield 9, 3) := by decide +kernel
theorem d_A_grow2_36 : decode b_A_grow2 36 = .ok (.iload_n 3, 1) := by decide +kernel
theorem d_A_grow2_37 : decode b_A_grow2 37 = .ok (.invokestatic 66, 3) := by decide +kernel
theorem d_A_grow2_40 : decode b_A_grow2 40 = .ok (.dup_x1, 1) := by decide +kernel
theorem d_A_grow2_41 : decode b_A_grow2 41 = .ok (.putfield 9, 3) := by decide +kernel
theorem d_A_grow2_44 : decode b_A_grow2 44 = .ok (.areturn, 1) := by decide +kernel
theorem d_A_grow2_45 : decode b_A_grow2 45 = .ok (.aload_n 0, 1) := by decide +kernel
theorem d_A_grow2_46 : decode b_A_grow2 46 = .ok (.bipush 10, 2) := by decide +kernel
theorem d_A_grow2_48 : decode b_A_grow2 48 = .ok (.iload_n 1, 1) := by decide +kernel
theorem d_A_grow2_49 : decode b_A_grow2 49 = .ok (.invokestatic 79, 3) := by decide +kernel
theorem d_A_grow2_52 : decode b_A_grow2 52 = .ok (.anewarray 7, 3) := by decide +kernel
theorem d_A_grow2_55 : decode b_A_grow2 55 = .ok (.dup_x1, 1) := by decide +kernel
theorem d_A_grow2_56 : decode b_A_grow2 56 = .ok (.putfield 9, 3) := by decide +kernel
theorem d_A_grow2_59 : decode b_A_grow2 59 = .ok (.areturn, 1) := by decide +kernel
theorem d_AS_newLength_0 : decode b_AS_newLength 0 = .ok (.iload_n 0, 1) := by decide +kernel
theorem d_AS_newLength_1 : decode b_AS_newLength 1 = .ok (.iload_n 1, 1) := by decide +kernel
theorem d_AS_newLength_2 : decode b_AS_newLength 2 = .ok (.iload_n 2, 1) := by decide +kernel
theorem d_AS_newLength_3 : decode b_AS_newLength 3 = .ok (.invokestatic 194, 3) := by decide +kernel
theorem d_AS_newLength_6 : decode b_AS_newLength 6 = .ok (.iadd, 1) := by decide +kernel
theorem d_AS_newLength_7 : decode b_AS_newLength 7 = .ok (.istore_n 3, 1) := by decide +kernel
theorem d_AS_newLength_8 : decode b_AS_newLength 8 = .ok (.iconst 0, 1) := by decide +kernel
theorem d_AS_newLength_9 : decode b_AS_newLength 9 = .ok (.iload_n 3, 1) := by decide +kernel
theorem d_AS_newLength_10 : decode b_AS_newLength 10 = .ok (.if_icmp .ge 11, 3) := by decide +kernel
theorem d_AS_newLength_13 : decode b_AS_newLength 13 = .ok (.iload_n 3, 1) := by decide +kernel
theorem d_AS_newLength_14 : decode b_AS_newLength 14 = .ok (.ldc 200, 2) := by decide +kernel
theorem d_AS_newLength_16 : decode b_AS_newLength 16 = .ok (.if_icmp .gt 5, 3) := by decide +kernel
theorem d_AS_newLength_19 : decode b_AS_newLength 19 = .ok (.iload_n 3, 1) := by decide +kernel
theorem d_AS_newLength_20 : decode b_AS_newLength 20 = .ok (.ireturn, 1) := by decide +kernel
theorem d_AS_newLength_21 : decode b_AS_newLength 21 = .ok (.iload_n 0, 1) := by decide +kernel
theorem d_AS_newLength_22 : decode b_AS_newLength 22 = .ok (.iload_n 1, 1) := by decide +kernel
theorem d_AS_newLength_23 : decode b_AS_newLength 23 = .ok (.invokestatic 201, 3) := by decide +kernel
theorem d_AS_newLength_26 : decode b_AS_newLength 26 = .ok (.ireturn, 1) := by decide +kernel
theorem d_AS_hugeLength_0 : decode b_AS_hugeLength 0 = .ok (.iload_n 0, 1) := by decide +kernel
theorem d_AS_hugeLength_1 : decode b_AS_hugeLength 1 = .ok (.iload_n 1, 1) := by decide +kernel
theorem d_AS_hugeLength_2 : decode b_AS_hugeLength 2 = .ok (.iadd, 1) := by decide +kernel
theorem d_AS_hugeLength_3 : decode b_AS_hugeLength 3 = .ok (.istore_n 2, 1) := by decide +kernel
theorem d_AS_hugeLength_4 : decode b_AS_hugeLength 4 = .ok (.iload_n 2, 1) := by decide +kernel
theorem d_AS_hugeLength_5 : decode b_AS_hugeLength 5 = .ok (.ifCond .ge 44, 3) := by decide +kernel
theorem d_AS_hugeLength_8 : decode b_AS_hugeLength 8 = .ok (.new 204, 3) := by decide +kernel
theorem d_AS_hugeLength_11 : decode b_AS_hugeLength 11 = .ok (.dup, 1) := by decide +kernel
theorem d_AS_hugeLength_12 : decode b_AS_hugeLength 12 = .ok (.new 89, 3) := by decide +kernel
theorem d_AS_hugeLength_15 : decode b_AS_hugeLength 15 = .ok (.dup, 1) := by decide +kernel
theorem d_AS_hugeLength_16 : decode b_AS_hugeLength 16 = .ok (.invokespecial 91, 3) := by decide +kernel
theorem d_AS_hugeLength_19 : decode b_AS_hugeLength 19 = .ok (.ldc 206, 2) := by decide +kernel
theorem d_AS_hugeLength_21 : decode b_AS_hugeLength 21 = .ok (.invokevirtual 94, 3) := by decide +kernel
theorem d_AS_hugeLength_24 : decode b_AS_hugeLength 24 = .ok (.iload_n 0, 1) := by decide +kernel
theorem d_AS_hugeLength_25 : decode b_AS_hugeLength 25 = .ok (.invokevirtual 98, 3) := by decide +kernel
theorem d_AS_hugeLength_28 : decode b_AS_hugeLength 28 = .ok (.ldc 208, 2) := by decide +kernel
theorem d_AS_hugeLength_30 : decode b_AS_hugeLength 30 = .ok (.invokevirtual 94, 3) := by decide +kernel
theorem d_AS_hugeLength_33 : decode b_AS_hugeLength 33 = .ok (.iload_n 1, 1) := by decide +kernel
theorem d_AS_hugeLength_34 : decode b_AS_hugeLength 34 = .ok (.invokevirtual 98, 3) := by decide +kernel
theorem d_AS_hugeLength_37 : decode b_AS_hugeLength 37 = .ok (.ldc 210, 2) := by decide +kernel
theorem d_AS_hugeLength_39 : decode b_AS_hugeLength 39 = .ok (.invokevirtual 94, 3) := by decide +kernel
theorem d_AS_hugeLength_42 : decode b_AS_hugeLength 42 = .ok (.invokevirtual 101, 3) := by decide +kernel
theorem d_AS_hugeLength_45 : decode b_AS_hugeLength 45 = .ok (.invokespecial 212, 3) := by decide +kernel
theorem d_AS_hugeLength_48 : decode b_AS_hugeLength 48 = .ok (.athrow, 1) := by decide +kernel
theorem d_AS_hugeLength_49 : decode b_AS_hugeLength 49 = .ok (.iload_n 2, 1) := by decide +kernel
theorem d_AS_hugeLength_50 : decode b_AS_hugeLength 50 = .ok (.ldc 200, 2) := by decide +kernel
theorem d_AS_hugeLength_52 : decode b_AS_hugeLength 52 = .ok (.if_icmp .gt 6, 3) := by decide +kernel
theorem d_AS_hugeLength_55 : decode b_AS_hugeLength 55 = .ok (.ldc 200, 2) := by decide +kernel
theorem d_AS_hugeLength_57 : decode b_AS_hugeLength 57 = .ok (.ireturn, 1) := by decide +kernel
theorem d_AS_hugeLength_58 : decode b_AS_hugeLength 58 = .ok (.iload_n 2, 1) := by decide +kernel
theorem d_AS_hugeLength_59 : decode b_AS_hugeLength 59 = .ok (.ireturn, 1) := by decide +kernel
theorem d_AR_copyOf_0 : decode b_AR_copyOf 0 = .ok (.aload_n 0, 1) := by decide +kernel
theorem d_AR_copyOf_1 : decode b_AR_copyOf 1 = .ok (.iload_n 1, 1) := by decide +kernel
theorem d_AR_copyOf_2 : decode b_AR_copyOf 2 = .ok (.aload_n 0, 1) := by decide +kernel
theorem d_AR_copyOf_3 : decode b_AR_copyOf 3 = .ok (.invokevirtual 86, 3) := by decide +kernel
theorem d_AR_copyOf_6 : decode b_AR_copyOf 6 = .ok (.invokestatic 300, 3) := by decide +kernel
theorem d_AR_copyOf_9 : decode b_AR_copyOf 9 = .ok (.areturn, 1) := by decide +kernel
theorem d_AR_copyOf2_0 : decode b_AR_copyOf2 0 = .ok (.aload_n 2, 1) := by decide +kernel
theorem d_AR_copyOf2_1 : decode b_AR_copyOf2 1 = .ok (.ldc 110, 2) := by decide +kernel
theorem d_AR_copyOf2_3 : decode b_AR_copyOf2 3 = .ok (.if_acmp .ne 10, 3) := by decide +kernel
theorem d_AR_copyOf2_6 : decode b_AR_copyOf2 6 = .ok (.iload_n 1, 1) := by decide +kernel
theorem d_AR_copyOf2_7 : decode b_AR_copyOf2 7 = .ok (.anewarray 2, 3) := by decide +kernel
theorem d_AR_copyOf2_10 : decode b_AR_copyOf2 10 = .ok (.goto 14, 3) := by decide +kernel
theorem d_AR_copyOf2_13 : decode b_AR_copyOf2 13 = .ok (.aload_n 2, 1) := by decide +kernel
theorem d_AR_copyOf2_14 : decode b_AR_copyOf2 14 = .ok (.invokevirtual 90, 3) := by decide +kernel
theorem d_AR_copyOf2_17 : decode b_AR_copyOf2 17 = .ok (.iload_n 1, 1) := by decide +kernel
theorem d_AR_copyOf2_18 : decode b_AR_copyOf2 18 = .ok (.invokestatic 95, 3) := by decide +kernel
theorem d_AR_copyOf2_21 : decode b_AR_copyOf2 21 = .ok (.checkcast 110, 3) := by decide +kernel
theorem d_AR_copyOf2_24 : decode b_AR_copyOf2 24 = .ok (.astore_n 3, 1) := by decide +kernel
theorem d_AR_copyOf2_25 : decode b_AR_copyOf2 25 = .ok (.aload_n 0, 1) := by decide +kernel
theorem d_AR_copyOf2_26 : decode b_AR_copyOf2 26 = .ok (.iconst 0, 1) := by decide +kernel
theorem d_AR_copyOf2_27 : decode b_AR_copyOf2 27 = .ok (.aload_n 3, 1) := by decide +kernel
theorem d_AR_copyOf2_28 : decode b_AR_copyOf2 28 = .ok (.iconst 0, 1) := by decide +kernel
theorem d_AR_copyOf2_29 : decode b_AR_copyOf2 29 = .ok (.aload_n 0, 1) := by decide +kernel
theorem d_AR_copyOf2_30 : decode b_AR_copyOf2 30 = .ok (.arraylength, 1) := by decide +kernel
theorem d_AR_copyOf2_31 : decode b_AR_copyOf2 31 = .ok (.iload_n 1, 1) := by decide +kernel
theorem d_AR_copyOf2_32 : decode b_AR_copyOf2 32 = .ok (.invokestatic 304, 3) := by decide +kernel
theorem d_AR_copyOf2_35 : decode b_AR_copyOf2 35 = .ok (.invokestatic 150, 3) := by decide +kernel
theorem d_AR_copyOf2_38 : decode b_AR_copyOf2 38 = .ok (.aload_n 3, 1) := by decide +kernel
theorem d_AR_copyOf2_39 : decode b_AR_copyOf2 39 = .ok (.areturn, 1) := by decide +kernel
end
section
/-! What a run is, as numbers. -/
abbrev oU (sA : Nat) (mo h nx oc an st : Int32) : va_E := .inr (4, [.int mo, .ref sA, .int h, .int nx, .int oc, .int an, .int st])
abbrev oE (ow ki dy : Int32) (oA cA : Nat) (ln md ak sk fk : Int32) : va_E := .inr (2, [.int ow, .int ki, .int dy, .ref oA, .ref cA, .int ln, .int md, .int ak, .int sk, .int fk])
abbrev oF (vA : Nat) : va_E := .inr (3, [.ref vA])
abbrev aI (G : Gl) (n : Nat) (f : Nat → Int32) : va_E := .inl (G.2.1 0, n, .inl f)
abbrev aQ (G : Gl) (n : Nat) (f : Nat → Option Nat) : va_E := .inl (G.2.1 1, n, .inr (.inr (.inr (.inr f))))
abbrev aL (G : Gl) (n : Nat) (f : Nat → Int64) : va_E := .inl (G.2.1 2, n, .inr (.inl f))
abbrev aZ (G : Gl) (n : Nat) (f : Nat → Int32) : va_E := .inl (G.2.1 3, n, .inl f)
theorem uV_id {V : Vw} {k i : Nat} {x : Nat × va_E} (h : V k i = some x) : uV V k i x = V := by
  funext k' i'
  by_cases e : k' = k ∧ i' = i
  · rw [e.1, e.2, uV_self, h]
  · rw [uV_ne e]
theorem uV_uV (V : Vw) (k i : Nat) (x y : Nat × va_E) : uV (uV V k i x) k i y = uV V k i y := by
  funext k' i'
  by_cases e : k' = k ∧ i' = i
  · rw [e.1, e.2, uV_self, uV_self]
  · rw [uV_ne e, uV_ne e, uV_ne e]
theorem uV_cm (V : Vw) {k i k2 i2 : Nat} (x y : Nat × va_E) (h : ¬ (k = k2 ∧ i = i2)) : uV (uV V k i x) k2 i2 y = uV (uV V k2 i2 y) k i x := by
  funext k' i'
  by_cases e : k' = k ∧ i' = i
  · have e2 : ¬ (k' = k2 ∧ i' = i2) := fun z => h ⟨e.1.symm.trans z.1, e.2.symm.trans z.2⟩
    rw [uV_ne e2, e.1, e.2, uV_self, uV_self]
  · by_cases e2 : k' = k2 ∧ i' = i2
    · rw [uV_ne e, e2.1, e2.2, uV_self, uV_self]
    · rw [uV_ne e2, uV_ne e, uV_ne e, uV_ne e2]
/-- a Run's two cells -/
def uR (G : Gl) (V : Vw) (b r sA : Nat) (mo : Int32) (h : Nat) (nx oc an st : Int32) (f : Nat → Int32) : Vw := uV (uV V 5 b (sA, aI G 8 f)) 4 b (r, oU sA mo (nI h) nx oc an st)
theorem uR_id {G : Gl} {V : Vw} {b r sA h : Nat} {mo nx oc an st : Int32} {f : Nat → Int32} (h4 : V 4 b = some (r, oU sA mo (nI h) nx oc an st)) (h5 : V 5 b = some (sA, aI G 8 f)) : uR G V b r sA mo h nx oc an st f = V := by
  unfold uR
  rw [uV_id h5, uV_id h4]
theorem uR_4 {G : Gl} {V : Vw} {b r sA h : Nat} {mo nx oc an st : Int32} {f : Nat → Int32} : uR G V b r sA mo h nx oc an st f 4 b = some (r, oU sA mo (nI h) nx oc an st) := uV_self _ _ _ _
theorem uR_5 {G : Gl} {V : Vw} {b r sA h : Nat} {mo nx oc an st : Int32} {f : Nat → Int32} : uR G V b r sA mo h nx oc an st f 5 b = some (sA, aI G 8 f) := by
  unfold uR
  exact (uV_ne (by omega)).trans (uV_self _ _ _ _)
theorem uR_o {G : Gl} {V : Vw} {b r sA h : Nat} {mo nx oc an st : Int32} {f : Nat → Int32} {k i : Nat} (hk : k ≠ 4) (hk5 : k ≠ 5) : uR G V b r sA mo h nx oc an st f k i = V k i := by
  unfold uR
  exact (uV_ne (fun z => hk z.1)).trans (uV_ne (fun z => hk5 z.1))
theorem uR_ob {G : Gl} {V : Vw} {b r sA h : Nat} {mo nx oc an st : Int32} {f : Nat → Int32} {k i : Nat} (hi : i ≠ b) : uR G V b r sA mo h nx oc an st f k i = V k i := by
  unfold uR
  exact (uV_ne (fun z => hi z.2)).trans (uV_ne (fun z => hi z.2))
theorem uR_uR {G : Gl} {V : Vw} {b r sA h h' : Nat} {mo nx oc an st nx' oc' an' st' : Int32} {f f' : Nat → Int32} : uR G (uR G V b r sA mo h nx oc an st f) b r sA mo h' nx' oc' an' st' f' = uR G V b r sA mo h' nx' oc' an' st' f' := by
  unfold uR
  rw [uV_cm _ _ _ (by omega), uV_uV, uV_cm _ _ _ (by omega), uV_uV]
theorem uR_of4 {G : Gl} {V : Vw} {b r sA h : Nat} {mo nx oc an st : Int32} {f : Nat → Int32} (h5 : V 5 b = some (sA, aI G 8 f)) : uV V 4 b (r, oU sA mo (nI h) nx oc an st) = uR G V b r sA mo h nx oc an st f := by
  unfold uR
  rw [uV_id h5]
def pTake (h : Nat) (f : Nat → Int32) : Int32 := if h = 0 then 0 else f (h - 1)
def pPut (v : Int64) (h : Nat) (f : Nat → Int32) : Int32 × Nat × (Nat → Int32) := if v < -1000000000 ∨ 1000000000 < v then (5, h, f) else if 8 ≤ h then (3, h, f) else (7, h + 1, upd f h v.toInt32)
def pNeed (o : Nat) : Nat := if o = 0 ∨ o = 1 ∨ o = 10 then 0 else if o = 7 ∨ o = 8 ∨ o = 9 then 1 else 2
def pJoin (o : Nat) (h : Nat) (f : Nat → Int32) : Int32 × Nat × (Nat → Int32) :=
  let up := (f (h - 1)).toInt64
  let lo := (f (h - 2)).toInt64
  if o = 2 then pPut (lo + up) (h - 2) f else if o = 3 then pPut (lo - up) (h - 2) f else if o = 4 then pPut (lo * up) (h - 2) f else if o = 5 then (if up = 0 then (2, h - 2, f) else pPut (lo / up) (h - 2) f) else pPut (if lo < up then 1 else 0) (h - 2) f
theorem pPut_h {v : Int64} {h : Nat} {f : Nat → Int32} (hh : h ≤ 8) : (pPut v h f).2.1 ≤ 8 := by
  unfold pPut
  split
  · exact hh
  · split
    · exact hh
    · show h + 1 ≤ 8
      omega
theorem nI_m1 {h : Nat} (h0 : 0 < h) : nI h - 1 = nI (h - 1) := by
  obtain ⟨j, rfl⟩ : ∃ j, h = j + 1 := ⟨h - 1, by omega⟩
  exact nI_pred j
theorem nI_0lt {h : Nat} (hh : h < 2 ^ 31) : (0 : Int32) < nI h ↔ 0 < h := nI_ltI (a := 0) (by decide) hh
theorem uR_put4 {G : Gl} {V : Vw} {b r sA h h' : Nat} {mo nx oc an st nx' oc' an' st' : Int32} {f : Nat → Int32} : uV (uR G V b r sA mo h nx oc an st f) 4 b (r, oU sA mo (nI h') nx' oc' an' st') = uR G V b r sA mo h' nx' oc' an' st' f := by
  unfold uR
  rw [uV_uV]
def pStep (o : Nat) (cn : Int32) (fa : Nat → Int32) (ak : Int32) (h : Nat) (nx an : Int32) (f : Nat → Int32) : Int32 × Nat × Int32 × Int32 × (Nat → Int32) :=
  if h < pNeed o then (3, h, nx, an, f) else
  if o = 0 then ((pPut cn.toInt64 h f).1, (pPut cn.toInt64 h f).2.1, nx, an, (pPut cn.toInt64 h f).2.2) else
  if o = 1 then ((pPut (fa cn.toNatClampNeg).toInt64 h f).1, (pPut (fa cn.toNatClampNeg).toInt64 h f).2.1, nx, an, (pPut (fa cn.toNatClampNeg).toInt64 h f).2.2) else
  if o = 7 then ((pPut (f (h - 1)).toInt64 h f).1, (pPut (f (h - 1)).toInt64 h f).2.1, nx, an, (pPut (f (h - 1)).toInt64 h f).2.2) else
  if o = 10 then ((pPut ak.toInt64 h f).1, (pPut ak.toInt64 h f).2.1, nx, an, (pPut ak.toInt64 h f).2.2) else
  if o = 8 then (7, h - 1, (if f (h - 1) = 0 then cn else nx), an, f) else
  if o = 9 then (6, h - 1, nx, f (h - 1), f) else
  ((pJoin o h f).1, (pJoin o h f).2.1, nx, an, (pJoin o h f).2.2)
theorem pJoin_h {o h : Nat} {f : Nat → Int32} (hh : h ≤ 8) : (pJoin o h f).2.1 ≤ 8 := by
  have h2 : h - 2 ≤ 8 := by omega
  unfold pJoin
  dsimp only
  repeat' split
  all_goals first | exact pPut_h h2 | exact h2
theorem pStep_h {o h : Nat} {cn ak nx an : Int32} {fa f : Nat → Int32} (hh : h ≤ 8) : (pStep o cn fa ak h nx an f).2.1 ≤ 8 := by
  unfold pStep
  repeat' split
  all_goals first | exact hh | exact pPut_h hh | exact pJoin_h hh | (show h - 1 ≤ 8; omega)
def pRun (ln : Nat) (po cs fa : Nat → Int32) (ak : Int32) : Nat → Nat → Int32 → Int32 → Int32 → (Nat → Int32) → Int32 × Nat × Int32 × Int32 × Int32 × (Nat → Int32)
  | 0, h, nx, an, st, f => (1, h, nx, an, st, f)
  | n + 1, h, nx, an, st, f =>
    if nx < 0 ∨ nI ln ≤ nx then (4, h, nx, an, st, f) else
    if (pStep (po nx.toNatClampNeg).toNatClampNeg (cs nx.toNatClampNeg) fa ak h (nx + 1) an f).1 = 7 then
      pRun ln po cs fa ak n (pStep (po nx.toNatClampNeg).toNatClampNeg (cs nx.toNatClampNeg) fa ak h (nx + 1) an f).2.1 (pStep (po nx.toNatClampNeg).toNatClampNeg (cs nx.toNatClampNeg) fa ak h (nx + 1) an f).2.2.1 (pStep (po nx.toNatClampNeg).toNatClampNeg (cs nx.toNatClampNeg) fa ak h (nx + 1) an f).2.2.2.1 (st + 1) (pStep (po nx.toNatClampNeg).toNatClampNeg (cs nx.toNatClampNeg) fa ak h (nx + 1) an f).2.2.2.2
    else ((pStep (po nx.toNatClampNeg).toNatClampNeg (cs nx.toNatClampNeg) fa ak h (nx + 1) an f).1, (pStep (po nx.toNatClampNeg).toNatClampNeg (cs nx.toNatClampNeg) fa ak h (nx + 1) an f).2.1, (pStep (po nx.toNatClampNeg).toNatClampNeg (cs nx.toNatClampNeg) fa ak h (nx + 1) an f).2.2.1, (pStep (po nx.toNatClampNeg).toNatClampNeg (cs nx.toNatClampNeg) fa ak h (nx + 1) an f).2.2.2.1, st + 1, (pStep (po nx.toNatClampNeg).toNatClampNeg (cs nx.toNatClampNeg) fa ak h (nx + 1) an f).2.2.2.2)
/-- an edition's code is one that op() can have written -/
def okCode (ln : Nat) (po cs : Nat → Int32) : Prop := ln ≤ 16 ∧ ∀ j, j < ln → ∃ o, o ≤ 10 ∧ po j = nI o ∧ (o = 1 → ∃ c, c < 8 ∧ cs j = nI c)
theorem pNeed_le (o : Nat) : pNeed o ≤ 2 := by
  unfold pNeed
  repeat' split
  all_goals decide
theorem pNeed_lt (o : Nat) : pNeed o < 2 ^ 31 := Nat.lt_of_le_of_lt (pNeed_le o) (by decide)
end
section
set_option maxHeartbeats 4000000 in
set_option maxRecDepth 100000 in
theorem k_U_take (G : Gl) (l : Launch) (htr : l.stackTraces = false) (V : Vw) (b r sA : Nat) (mo nx oc an st : Int32) (h : Nat) (f : Nat → Int32) (hh : h ≤ 8) (h4 : V 4 b = some (r, oU sA mo (nI h) nx oc an st)) (h5 : V 5 b = some (sA, aI G 8 f)) :
    Cm G l y_U_take b_U_take 1 (Option.some Jvm.ClassFile.FieldType.int) { frames := 0, cells := 0, slots := 0, locals := 0 } V [.ref r] (fun rv V' => rv = some (.int (pTake h f)) ∧ V' = uR G V b r sA mo (h - 1) nx oc an st f) := by
  refine Cm.of htr (by decide) (Nat.le_of_ble_eq_true rfl) ?_
  intro p e s m args below meth c ls F hr hnm hS hl
  obtain ⟨hx, hb, hml, hown, hts, hK, hlk, -⟩ := id F
  have hl : lv_has ls 1 [(0, .ref r)] := hl
  refine lv_aload_n hx hb d_U_take_0 rfl (lv_at hl 0 rfl) ?_
  refine r_get (k := 4) (i := b) F hS f_U_32.get h4 rfl d_U_take_1 ?_
  refine lv_if_gt (tgt := 9) hx hb d_U_take_4 (by decide) (fun c_4 => ?_) (fun c_4 => ?_)
  · have h0 : 0 < h := (nI_0lt (by omega)).mp c_4
    refine lv_aload_n hx hb d_U_take_9 rfl (lv_at hl 0 rfl) ?_
    refine lv_dup hx hb d_U_take_10 rfl ?_
    refine r_get (k := 4) (i := b) F hS f_U_32.get h4 rfl d_U_take_11 ?_
    refine lv_iconst (v := 1) hx hb d_U_take_14 (by decide) ?_
    refine lv_isub hx hb d_U_take_15 ?_
    rw [nI_m1 h0]
    refine r_put (k := 4) (i := b) F hS f_U_32 ct_U h4 rfl rfl (Nat.le_of_ble_eq_true rfl) d_U_take_16 (fun H locs hS => ?_)
    have hS : HS G s (uV V 4 b (r, oU sA mo (nI (h - 1)) nx oc an st)) H locs := hS
    refine lv_aload_n hx hb d_U_take_19 rfl (lv_at hl 0 rfl) ?_
    refine r_get (k := 4) (i := b) F hS f_U_9.get (uV_self _ _ _ _) rfl d_U_take_20 ?_
    refine lv_aload_n hx hb d_U_take_23 rfl (lv_at hl 0 rfl) ?_
    refine r_get (k := 4) (i := b) F hS f_U_32.get (uV_self _ _ _ _) rfl d_U_take_24 ?_
    refine r_iald (k := 5) (i := b) F hS h5 (vp_in_nI (by omega) (by decide)) d_U_take_27 ?_
    rw [nI_clamp (by omega)]
    exact m_reti F hr hS (Nat.le_of_ble_eq_true rfl) (Nat.le_of_ble_eq_true rfl) ⟨by rw [pTake, if_neg (by omega)], uR_of4 h5⟩ d_U_take_28
  · have h0 : h = 0 := by
      rcases Nat.eq_zero_or_pos h with q | q
      · exact q
      · exact absurd ((nI_0lt (by omega)).mpr q) c_4
    subst h0
    refine lv_iconst (v := 0) hx hb d_U_take_7 (by decide) ?_
    exact m_reti F hr hS (Nat.le_of_ble_eq_true rfl) (Nat.le_of_ble_eq_true rfl) ⟨rfl, (uR_id h4 h5).symm⟩ d_U_take_8
set_option maxHeartbeats 4000000 in
set_option maxRecDepth 100000 in
theorem k_U_put (G : Gl) (l : Launch) (htr : l.stackTraces = false) (V : Vw) (b r sA : Nat) (mo nx oc an st : Int32) (h : Nat) (f : Nat → Int32) (hh : h ≤ 8) (v : Int64) (h4 : V 4 b = some (r, oU sA mo (nI h) nx oc an st)) (h5 : V 5 b = some (sA, aI G 8 f)) :
    Cm G l y_U_put b_U_put 3 (Option.some Jvm.ClassFile.FieldType.int) { frames := 0, cells := 0, slots := 0, locals := 0 } V [.ref r, .long v] (fun rv V' => rv = some (.int (pPut v h f).1) ∧ V' = uR G V b r sA mo (pPut v h f).2.1 nx oc an st (pPut v h f).2.2) := by
  refine Cm.of htr (by decide) (Nat.le_of_ble_eq_true rfl) ?_
  intro p e s m args below meth c ls F hr hnm hS hl
  obtain ⟨hx, hb, hml, hown, hts, hK, hlk, -⟩ := id F
  have hl : lv_has ls 3 [(0, .ref r), (1, .long v)] := hl
  refine lv_lload_n hx hb d_U_put_0 rfl (lv_at hl 1 rfl) ?_
  refine lv_ldc2 (v := (-1000000000)) hx hb hown (hts _ m_491) d_U_put_1 ?_
  refine W.lcmp hx hb d_U_put_4 ?_
  refine lv_if_lt (tgt := 16) hx hb d_U_put_5 (by decide) (fun c_5 => ?_) (fun c_5 => ?_)
  · have hp : pPut v h f = (5, h, f) := if_pos (Or.inl ((lg_cmp_lt _ _).mp c_5))
    refine lv_iconst (v := 5) hx hb d_U_put_16 (by decide) ?_
    exact m_reti F hr hS (Nat.le_of_ble_eq_true rfl) (Nat.le_of_ble_eq_true rfl) (by rw [hp]; exact ⟨rfl, (uR_id h4 h5).symm⟩) d_U_put_17
  · refine lv_lload_n hx hb d_U_put_8 rfl (lv_at hl 1 rfl) ?_
    refine lv_ldc2 (v := 1000000000) hx hb hown (hts _ m_492) d_U_put_9 ?_
    refine W.lcmp hx hb d_U_put_12 ?_
    refine lv_if_le (tgt := 18) hx hb d_U_put_13 (by decide) (fun c_13 => ?_) (fun c_13 => ?_)
    · have hp0 : ¬ (v < -1000000000 ∨ 1000000000 < v) := fun z => z.elim (fun z => c_5 ((lg_cmp_lt _ _).mpr z)) (fun z => absurd ((lg_cmp_le _ _).mp c_13) (Int64.not_le.mpr z))
      refine lv_aload_n hx hb d_U_put_18 rfl (lv_at hl 0 rfl) ?_
      refine r_get (k := 4) (i := b) F hS f_U_32.get h4 rfl d_U_put_19 ?_
      refine lv_bipush (v := 8) hx hb d_U_put_22 (by decide) ?_
      refine lv_icmp_lt (tgt := 29) hx hb d_U_put_24 (by decide) (fun c_24 => ?_) (fun c_24 => ?_)
      · have h8 : h < 8 := (nI_ltI (by omega) (by decide)).mp (show nI h < nI 8 from c_24)
        have hp : pPut v h f = (7, h + 1, upd f h v.toInt32) := (if_neg hp0).trans (if_neg (by omega))
        refine lv_aload_n hx hb d_U_put_29 rfl (lv_at hl 0 rfl) ?_
        refine r_get (k := 4) (i := b) F hS f_U_9.get h4 rfl d_U_put_30 ?_
        refine lv_aload_n hx hb d_U_put_33 rfl (lv_at hl 0 rfl) ?_
        refine r_get (k := 4) (i := b) F hS f_U_32.get h4 rfl d_U_put_34 ?_
        refine lv_lload_n hx hb d_U_put_37 rfl (lv_at hl 1 rfl) ?_
        refine lv_l2i (v := v.toInt32) hx hb d_U_put_38 rfl ?_
        refine r_iast (k := 5) (i := b) F hS h5 (vp_in_nI (by omega) (by decide)) d_U_put_39 (fun H locs hS => ?_)
        rw [nI_clamp (by omega)] at hS
        have hS : HS G s (uV V 5 b (sA, aI G 8 (upd f h v.toInt32))) H locs := hS
        refine lv_aload_n hx hb d_U_put_40 rfl (lv_at hl 0 rfl) ?_
        refine lv_dup hx hb d_U_put_41 rfl ?_
        refine r_get (k := 4) (i := b) F hS f_U_32.get h4 rfl d_U_put_42 ?_
        refine lv_iconst (v := 1) hx hb d_U_put_45 (by decide) ?_
        refine lv_iadd hx hb d_U_put_46 ?_
        rw [nI_1]
        refine r_put (k := 4) (i := b) F hS f_U_32 ct_U h4 rfl rfl (Nat.le_of_ble_eq_true rfl) d_U_put_47 (fun H locs hS => ?_)
        have hS : HS G s (uV (uV V 5 b (sA, aI G 8 (upd f h v.toInt32))) 4 b (r, oU sA mo (nI (h + 1)) nx oc an st)) H locs := hS
        refine lv_bipush (v := 7) hx hb d_U_put_50 (by decide) ?_
        exact m_reti F hr hS (Nat.le_of_ble_eq_true rfl) (Nat.le_of_ble_eq_true rfl) (by rw [hp]; exact ⟨rfl, rfl⟩) d_U_put_52
      · have h8 : ¬ h < 8 := fun z => c_24 (show nI h < nI 8 from nI_lt z (by decide))
        have hp : pPut v h f = (3, h, f) := (if_neg hp0).trans (if_pos (by omega))
        refine lv_iconst (v := 3) hx hb d_U_put_27 (by decide) ?_
        exact m_reti F hr hS (Nat.le_of_ble_eq_true rfl) (Nat.le_of_ble_eq_true rfl) (by rw [hp]; exact ⟨rfl, (uR_id h4 h5).symm⟩) d_U_put_28
    · have hp : pPut v h f = (5, h, f) := if_pos (Or.inr (Int64.not_le.mp (fun z => c_13 ((lg_cmp_le _ _).mpr z))))
      refine lv_iconst (v := 5) hx hb d_U_put_16 (by decide) ?_
      exact m_reti F hr hS (Nat.le_of_ble_eq_true rfl) (Nat.le_of_ble_eq_true rfl) (by rw [hp]; exact ⟨rfl, (uR_id h4 h5).symm⟩) d_U_put_17
set_option maxHeartbeats 4000000 in
set_option maxRecDepth 100000 in
theorem k_U_needed (G : Gl) (l : Launch) (htr : l.stackTraces = false) (V : Vw) (o : Nat) (ho : o ≤ 10)  :
    Cm G l y_U_needed b_U_needed 1 (Option.some Jvm.ClassFile.FieldType.int) { frames := 0, cells := 0, slots := 0, locals := 0 } V [.int (nI o)] (fun rv V' => rv = some (.int (nI (pNeed o))) ∧ V' = V) := by
  refine Cm.of htr (by decide) (Nat.le_of_ble_eq_true rfl) ?_
  intro p e s m args below meth c ls F hr hnm hS hl
  obtain ⟨hx, hb, hml, hown, hts, hK, hlk, -⟩ := id F
  have hl : lv_has ls 1 [(0, .int (nI o))] := hl
  refine lv_iload_n hx hb d_U_needed_0 rfl (lv_at hl 0 rfl) ?_
  rcases (show o = 0 ∨ o = 1 ∨ o = 2 ∨ o = 3 ∨ o = 4 ∨ o = 5 ∨ o = 6 ∨ o = 7 ∨ o = 8 ∨ o = 9 ∨ o = 10 by omega) with rfl | rfl | rfl | rfl | rfl | rfl | rfl | rfl | rfl | rfl | rfl
  · refine lv_tableIn (tgt := 60) (off := 59) hx hb d_U_needed_1 (by decide) (by decide) (by decide) (by decide) ?_
    refine lv_iconst (v := 0) hx hb d_U_needed_60 (by decide) ?_
    exact m_reti F hr hS (Nat.le_of_ble_eq_true rfl) (Nat.le_of_ble_eq_true rfl) ⟨rfl, rfl⟩ d_U_needed_61
  · refine lv_tableIn (tgt := 60) (off := 59) hx hb d_U_needed_1 (by decide) (by decide) (by decide) (by decide) ?_
    refine lv_iconst (v := 0) hx hb d_U_needed_60 (by decide) ?_
    exact m_reti F hr hS (Nat.le_of_ble_eq_true rfl) (Nat.le_of_ble_eq_true rfl) ⟨rfl, rfl⟩ d_U_needed_61
  · refine lv_tableIn (tgt := 64) (off := 63) hx hb d_U_needed_1 (by decide) (by decide) (by decide) (by decide) ?_
    refine lv_iconst (v := 2) hx hb d_U_needed_64 (by decide) ?_
    exact m_reti F hr hS (Nat.le_of_ble_eq_true rfl) (Nat.le_of_ble_eq_true rfl) ⟨rfl, rfl⟩ d_U_needed_65
  · refine lv_tableIn (tgt := 64) (off := 63) hx hb d_U_needed_1 (by decide) (by decide) (by decide) (by decide) ?_
    refine lv_iconst (v := 2) hx hb d_U_needed_64 (by decide) ?_
    exact m_reti F hr hS (Nat.le_of_ble_eq_true rfl) (Nat.le_of_ble_eq_true rfl) ⟨rfl, rfl⟩ d_U_needed_65
  · refine lv_tableIn (tgt := 64) (off := 63) hx hb d_U_needed_1 (by decide) (by decide) (by decide) (by decide) ?_
    refine lv_iconst (v := 2) hx hb d_U_needed_64 (by decide) ?_
    exact m_reti F hr hS (Nat.le_of_ble_eq_true rfl) (Nat.le_of_ble_eq_true rfl) ⟨rfl, rfl⟩ d_U_needed_65
  · refine lv_tableIn (tgt := 64) (off := 63) hx hb d_U_needed_1 (by decide) (by decide) (by decide) (by decide) ?_
    refine lv_iconst (v := 2) hx hb d_U_needed_64 (by decide) ?_
    exact m_reti F hr hS (Nat.le_of_ble_eq_true rfl) (Nat.le_of_ble_eq_true rfl) ⟨rfl, rfl⟩ d_U_needed_65
  · refine lv_tableIn (tgt := 64) (off := 63) hx hb d_U_needed_1 (by decide) (by decide) (by decide) (by decide) ?_
    refine lv_iconst (v := 2) hx hb d_U_needed_64 (by decide) ?_
    exact m_reti F hr hS (Nat.le_of_ble_eq_true rfl) (Nat.le_of_ble_eq_true rfl) ⟨rfl, rfl⟩ d_U_needed_65
  · refine lv_tableIn (tgt := 62) (off := 61) hx hb d_U_needed_1 (by decide) (by decide) (by decide) (by decide) ?_
    refine lv_iconst (v := 1) hx hb d_U_needed_62 (by decide) ?_
    exact m_reti F hr hS (Nat.le_of_ble_eq_true rfl) (Nat.le_of_ble_eq_true rfl) ⟨rfl, rfl⟩ d_U_needed_63
  · refine lv_tableIn (tgt := 62) (off := 61) hx hb d_U_needed_1 (by decide) (by decide) (by decide) (by decide) ?_
    refine lv_iconst (v := 1) hx hb d_U_needed_62 (by decide) ?_
    exact m_reti F hr hS (Nat.le_of_ble_eq_true rfl) (Nat.le_of_ble_eq_true rfl) ⟨rfl, rfl⟩ d_U_needed_63
  · refine lv_tableIn (tgt := 62) (off := 61) hx hb d_U_needed_1 (by decide) (by decide) (by decide) (by decide) ?_
    refine lv_iconst (v := 1) hx hb d_U_needed_62 (by decide) ?_
    exact m_reti F hr hS (Nat.le_of_ble_eq_true rfl) (Nat.le_of_ble_eq_true rfl) ⟨rfl, rfl⟩ d_U_needed_63
  · refine lv_tableIn (tgt := 60) (off := 59) hx hb d_U_needed_1 (by decide) (by decide) (by decide) (by decide) ?_
    refine lv_iconst (v := 0) hx hb d_U_needed_60 (by decide) ?_
    exact m_reti F hr hS (Nat.le_of_ble_eq_true rfl) (Nat.le_of_ble_eq_true rfl) ⟨rfl, rfl⟩ d_U_needed_61
set_option maxHeartbeats 4000000 in
set_option maxRecDepth 100000 in
theorem k_U_clear (G : Gl) (l : Launch) (htr : l.stackTraces = false) (V : Vw) (b r sA : Nat) (mo nx oc an st : Int32) (h : Nat) (f : Nat → Int32) (hh : h ≤ 8) (h4 : V 4 b = some (r, oU sA mo (nI h) nx oc an st)) (h5 : V 5 b = some (sA, aI G 8 f)) :
    Cm G l y_U_clear b_U_clear 1 none { frames := 0, cells := 0, slots := 0, locals := 0 } V [.ref r] (fun rv V' => rv = none ∧ V' = uR G V b r sA mo 0 0 oc 0 0 f) := by
  refine Cm.of htr (by decide) (Nat.le_of_ble_eq_true rfl) ?_
  intro p e s m args below meth c ls F hr hnm hS hl
  obtain ⟨hx, hb, hml, hown, hts, hK, hlk, -⟩ := id F
  have hl : lv_has ls 1 [(0, .ref r)] := hl
  refine lv_aload_n hx hb d_U_clear_0 rfl (lv_at hl 0 rfl) ?_
  refine lv_iconst (v := 0) hx hb d_U_clear_1 (by decide) ?_
  refine r_put (k := 4) (i := b) F hS f_U_32 ct_U h4 rfl rfl (Nat.le_of_ble_eq_true rfl) d_U_clear_2 (fun H locs hS => ?_)
  have hS : HS G s (uV V 4 b (r, oU sA mo 0 nx oc an st)) H locs := hS
  refine lv_aload_n hx hb d_U_clear_5 rfl (lv_at hl 0 rfl) ?_
  refine lv_iconst (v := 0) hx hb d_U_clear_6 (by decide) ?_
  refine r_put (k := 4) (i := b) F hS f_U_35 ct_U (uV_self _ _ _ _) rfl rfl (Nat.le_of_ble_eq_true rfl) d_U_clear_7 (fun H locs hS => ?_)
  have hS : HS G s (uV (uV V 4 b (r, oU sA mo 0 nx oc an st)) 4 b (r, oU sA mo 0 0 oc an st)) H locs := hS
  refine lv_aload_n hx hb d_U_clear_10 rfl (lv_at hl 0 rfl) ?_
  refine lv_iconst (v := 0) hx hb d_U_clear_11 (by decide) ?_
  refine r_put (k := 4) (i := b) F hS f_U_38 ct_U (uV_self _ _ _ _) rfl rfl (Nat.le_of_ble_eq_true rfl) d_U_clear_12 (fun H locs hS => ?_)
  have hS : HS G s (uV (uV (uV V 4 b (r, oU sA mo 0 nx oc an st)) 4 b (r, oU sA mo 0 0 oc an st)) 4 b (r, oU sA mo 0 0 oc an 0)) H locs := hS
  refine lv_aload_n hx hb d_U_clear_15 rfl (lv_at hl 0 rfl) ?_
  refine lv_iconst (v := 0) hx hb d_U_clear_16 (by decide) ?_
  refine r_put (k := 4) (i := b) F hS f_U_29 ct_U (uV_self _ _ _ _) rfl rfl (Nat.le_of_ble_eq_true rfl) d_U_clear_17 (fun H locs hS => ?_)
  have hS : HS G s (uV (uV (uV (uV V 4 b (r, oU sA mo 0 nx oc an st)) 4 b (r, oU sA mo 0 0 oc an st)) 4 b (r, oU sA mo 0 0 oc an 0)) 4 b (r, oU sA mo 0 0 oc 0 0)) H locs := hS
  exact m_retv F hr hS (Nat.le_of_ble_eq_true rfl) (Nat.le_of_ble_eq_true rfl) ⟨rfl, by rw [uV_uV, uV_uV, uV_uV]; exact uR_of4 h5⟩ d_U_clear_20
set_option maxHeartbeats 4000000 in
set_option maxRecDepth 100000 in
theorem k_U_join (G : Gl) (l : Launch) (htr : l.stackTraces = false) (V : Vw) (b r sA : Nat) (mo nx oc an st : Int32) (h : Nat) (f : Nat → Int32) (o : Nat) (hh : h ≤ 8) (h2 : 2 ≤ h) (ho : 2 ≤ o) (ho6 : o ≤ 6) (h4 : V 4 b = some (r, oU sA mo (nI h) nx oc an st)) (h5 : V 5 b = some (sA, aI G 8 f)) :
    Cm G l y_U_join b_U_join 6 (Option.some Jvm.ClassFile.FieldType.int) { frames := 1, cells := 0, slots := 0, locals := 22 } V [.ref r, .int (nI o)] (fun rv V' => rv = some (.int (pJoin o h f).1) ∧ V' = uR G V b r sA mo (pJoin o h f).2.1 nx oc an st (pJoin o h f).2.2) := by
  refine Cm.of htr (by decide) (Nat.le_of_ble_eq_true rfl) ?_
  intro p e s m args below meth c ls F hr hnm hS hl
  obtain ⟨hx, hb, hml, hown, hts, hK, hlk, -⟩ := id F
  have hl : lv_has ls 6 [(0, .ref r), (1, .int (nI o))] := hl
  refine lv_aload_n hx hb d_U_join_0 rfl (lv_at hl 0 rfl) ?_
  refine r_callV (k := 4) (i := b) (q := ("RuleClasses$Run", T_U, 7)) (fs := [.int mo, .ref sA, .int (nI h), .int nx, .int oc, .int an, .int st]) (As := []) (rest := []) F hS c_U_72 (k_U_take G l htr V b r sA mo nx oc an st h f hh h4 h5) rfl h4 rfl hl.1 rfl (Nat.le_of_ble_eq_true rfl) d_U_join_1 ⟨Nat.le_of_ble_eq_true rfl, Nat.le_of_ble_eq_true rfl⟩ ⟨Nat.le_of_ble_eq_true rfl, Nat.le_of_ble_eq_true rfl⟩ (fun rv V1 H locs hR hS => ?_)
  obtain ⟨rfl, rfl⟩ := hR
  rw [show pTake h f = f (h - 1) from if_neg (by omega)]
  refine W.eq (g2 := F0 m 4 ls [.int (f (h - 1))]) rfl ?_
  refine lv_i2l (v := (f (h - 1)).toInt64) hx hb d_U_join_4 rfl ?_
  refine lv_lstore_n (lv' := [(2, .long ((f (h - 1)).toInt64)), (0, .ref r), (1, .int (nI o))]) hx hb d_U_join_5 rfl hl (by decide) rfl (fun ls hl => ?_)
  refine lv_aload_n hx hb d_U_join_6 rfl (lv_at hl 1 rfl) ?_
  refine r_callV (k := 4) (i := b) (q := ("RuleClasses$Run", T_U, 7)) (fs := [.int mo, .ref sA, .int (nI (h - 1)), .int nx, .int oc, .int an, .int st]) (As := []) (rest := []) F hS c_U_72 (k_U_take G l htr (uR G V b r sA mo (h - 1) nx oc an st f) b r sA mo nx oc an st (h - 1) f (by omega) uR_4 uR_5) rfl uR_4 rfl hl.1 rfl (Nat.le_of_ble_eq_true rfl) d_U_join_7 ⟨Nat.le_of_ble_eq_true rfl, Nat.le_of_ble_eq_true rfl⟩ ⟨Nat.le_of_ble_eq_true rfl, Nat.le_of_ble_eq_true rfl⟩ (fun rv V1 H locs hR hS => ?_)
  obtain ⟨rfl, rfl⟩ := hR
  rw [uR_uR] at hS
  rw [show pTake (h - 1) f = f (h - 2) from if_neg (by omega)]
  have hS : HS G s (uR G V b r sA mo (h - 2) nx oc an st f) H locs := hS
  refine W.eq (g2 := F0 m 10 ls [.int (f (h - 2))]) rfl ?_
  refine lv_i2l (v := (f (h - 2)).toInt64) hx hb d_U_join_10 rfl ?_
  refine lv_lstore (lv' := [(4, .long ((f (h - 2)).toInt64)), (2, .long ((f (h - 1)).toInt64)), (0, .ref r), (1, .int (nI o))]) hx hb d_U_join_11 hl (by decide) rfl (fun ls hl => ?_)
  refine lv_iload_n hx hb d_U_join_13 rfl (lv_at hl 3 rfl) ?_
  rcases (show o = 2 ∨ o = 3 ∨ o = 4 ∨ o = 5 ∨ o = 6 by omega) with rfl | rfl | rfl | rfl | rfl
  · refine lv_tableIn (tgt := 48) (off := 34) hx hb d_U_join_14 (by decide) (by decide) (by decide) (by decide) ?_
    refine lv_aload_n hx hb d_U_join_48 rfl (lv_at hl 2 rfl) ?_
    refine lv_lload hx hb d_U_join_49 (lv_at hl 0 rfl) ?_
    refine lv_lload_n hx hb d_U_join_51 rfl (lv_at hl 1 rfl) ?_
    refine lv_ladd hx hb d_U_join_52 ?_
    refine r_callV (k := 4) (i := b) (q := ("RuleClasses$Run", T_U, 7)) (fs := [.int mo, .ref sA, .int (nI (h - 2)), .int nx, .int oc, .int an, .int st]) (As := [.long (((f (h - 2)).toInt64) + ((f (h - 1)).toInt64))]) (rest := []) F hS c_U_60 (k_U_put G l htr (uR G V b r sA mo (h - 2) nx oc an st f) b r sA mo nx oc an st (h - 2) f (by omega) (((f (h - 2)).toInt64) + ((f (h - 1)).toInt64)) uR_4 uR_5) rfl uR_4 rfl hl.1 rfl (Nat.le_of_ble_eq_true rfl) d_U_join_53 ⟨Nat.le_of_ble_eq_true rfl, Nat.le_of_ble_eq_true rfl⟩ ⟨Nat.le_of_ble_eq_true rfl, Nat.le_of_ble_eq_true rfl⟩ (fun rv V1 H locs hR hS => ?_)
    obtain ⟨rfl, rfl⟩ := hR
    rw [uR_uR] at hS
    refine W.eq (g2 := F0 m 56 ls [.int ((pPut (((f (h - 2)).toInt64) + ((f (h - 1)).toInt64)) (h - 2) f).1)]) rfl ?_
    exact m_reti F hr hS (Nat.le_of_ble_eq_true rfl) (Nat.le_of_ble_eq_true rfl) ⟨rfl, rfl⟩ d_U_join_56
  · refine lv_tableIn (tgt := 57) (off := 43) hx hb d_U_join_14 (by decide) (by decide) (by decide) (by decide) ?_
    refine lv_aload_n hx hb d_U_join_57 rfl (lv_at hl 2 rfl) ?_
    refine lv_lload hx hb d_U_join_58 (lv_at hl 0 rfl) ?_
    refine lv_lload_n hx hb d_U_join_60 rfl (lv_at hl 1 rfl) ?_
    refine lv_lsub hx hb d_U_join_61 ?_
    refine r_callV (k := 4) (i := b) (q := ("RuleClasses$Run", T_U, 7)) (fs := [.int mo, .ref sA, .int (nI (h - 2)), .int nx, .int oc, .int an, .int st]) (As := [.long (((f (h - 2)).toInt64) - ((f (h - 1)).toInt64))]) (rest := []) F hS c_U_60 (k_U_put G l htr (uR G V b r sA mo (h - 2) nx oc an st f) b r sA mo nx oc an st (h - 2) f (by omega) (((f (h - 2)).toInt64) - ((f (h - 1)).toInt64)) uR_4 uR_5) rfl uR_4 rfl hl.1 rfl (Nat.le_of_ble_eq_true rfl) d_U_join_62 ⟨Nat.le_of_ble_eq_true rfl, Nat.le_of_ble_eq_true rfl⟩ ⟨Nat.le_of_ble_eq_true rfl, Nat.le_of_ble_eq_true rfl⟩ (fun rv V1 H locs hR hS => ?_)
    obtain ⟨rfl, rfl⟩ := hR
    rw [uR_uR] at hS
    refine W.eq (g2 := F0 m 65 ls [.int ((pPut (((f (h - 2)).toInt64) - ((f (h - 1)).toInt64)) (h - 2) f).1)]) rfl ?_
    exact m_reti F hr hS (Nat.le_of_ble_eq_true rfl) (Nat.le_of_ble_eq_true rfl) ⟨rfl, rfl⟩ d_U_join_65
  · refine lv_tableIn (tgt := 66) (off := 52) hx hb d_U_join_14 (by decide) (by decide) (by decide) (by decide) ?_
    refine lv_aload_n hx hb d_U_join_66 rfl (lv_at hl 2 rfl) ?_
    refine lv_lload hx hb d_U_join_67 (lv_at hl 0 rfl) ?_
    refine lv_lload_n hx hb d_U_join_69 rfl (lv_at hl 1 rfl) ?_
    refine lv_lmul hx hb d_U_join_70 ?_
    refine r_callV (k := 4) (i := b) (q := ("RuleClasses$Run", T_U, 7)) (fs := [.int mo, .ref sA, .int (nI (h - 2)), .int nx, .int oc, .int an, .int st]) (As := [.long (((f (h - 2)).toInt64) * ((f (h - 1)).toInt64))]) (rest := []) F hS c_U_60 (k_U_put G l htr (uR G V b r sA mo (h - 2) nx oc an st f) b r sA mo nx oc an st (h - 2) f (by omega) (((f (h - 2)).toInt64) * ((f (h - 1)).toInt64)) uR_4 uR_5) rfl uR_4 rfl hl.1 rfl (Nat.le_of_ble_eq_true rfl) d_U_join_71 ⟨Nat.le_of_ble_eq_true rfl, Nat.le_of_ble_eq_true rfl⟩ ⟨Nat.le_of_ble_eq_true rfl, Nat.le_of_ble_eq_true rfl⟩ (fun rv V1 H locs hR hS => ?_)
    obtain ⟨rfl, rfl⟩ := hR
    rw [uR_uR] at hS
    refine W.eq (g2 := F0 m 74 ls [.int ((pPut (((f (h - 2)).toInt64) * ((f (h - 1)).toInt64)) (h - 2) f).1)]) rfl ?_
    exact m_reti F hr hS (Nat.le_of_ble_eq_true rfl) (Nat.le_of_ble_eq_true rfl) ⟨rfl, rfl⟩ d_U_join_74
  · refine lv_tableIn (tgt := 75) (off := 61) hx hb d_U_join_14 (by decide) (by decide) (by decide) (by decide) ?_
    refine lv_lload_n hx hb d_U_join_75 rfl (lv_at hl 1 rfl) ?_
    refine lv_lconst (v := 0) hx hb d_U_join_76 (by decide) ?_
    refine W.lcmp hx hb d_U_join_77 ?_
    refine lv_if_ne (tgt := 85) hx hb d_U_join_78 (by decide) (fun c_78 => ?_) (fun c_78 => ?_)
    · have hne : ¬ (f (h - 1)).toInt64 = 0 := fun z => c_78 ((lg_cmp_eq _ _).mpr z)
      have hp : pJoin 5 h f = pPut ((f (h - 2)).toInt64 / (f (h - 1)).toInt64) (h - 2) f := if_neg hne
      refine lv_aload_n hx hb d_U_join_85 rfl (lv_at hl 2 rfl) ?_
      refine lv_lload hx hb d_U_join_86 (lv_at hl 0 rfl) ?_
      refine lv_lload_n hx hb d_U_join_88 rfl (lv_at hl 1 rfl) ?_
      refine lv_ldiv hx hb d_U_join_89 hne ?_
      refine r_callV (k := 4) (i := b) (q := ("RuleClasses$Run", T_U, 7)) (fs := [.int mo, .ref sA, .int (nI (h - 2)), .int nx, .int oc, .int an, .int st]) (As := [.long (((f (h - 2)).toInt64) / ((f (h - 1)).toInt64))]) (rest := []) F hS c_U_60 (k_U_put G l htr (uR G V b r sA mo (h - 2) nx oc an st f) b r sA mo nx oc an st (h - 2) f (by omega) (((f (h - 2)).toInt64) / ((f (h - 1)).toInt64)) uR_4 uR_5) rfl uR_4 rfl hl.1 rfl (Nat.le_of_ble_eq_true rfl) d_U_join_90 ⟨Nat.le_of_ble_eq_true rfl, Nat.le_of_ble_eq_true rfl⟩ ⟨Nat.le_of_ble_eq_true rfl, Nat.le_of_ble_eq_true rfl⟩ (fun rv V1 H locs hR hS => ?_)
      obtain ⟨rfl, rfl⟩ := hR
      rw [uR_uR] at hS
      refine W.eq (g2 := F0 m 93 ls [.int ((pPut (((f (h - 2)).toInt64) / ((f (h - 1)).toInt64)) (h - 2) f).1)]) rfl ?_
      exact m_reti F hr hS (Nat.le_of_ble_eq_true rfl) (Nat.le_of_ble_eq_true rfl) (by rw [hp]; exact ⟨rfl, rfl⟩) d_U_join_93
    · have hp : pJoin 5 h f = (2, h - 2, f) := if_pos ((lg_cmp_eq _ _).mp c_78)
      refine lv_iconst (v := 2) hx hb d_U_join_81 (by decide) ?_
      refine lv_goto (tgt := 93) hx hb d_U_join_82 (by decide) ?_
      exact m_reti F hr hS (Nat.le_of_ble_eq_true rfl) (Nat.le_of_ble_eq_true rfl) (by rw [hp]; exact ⟨rfl, rfl⟩) d_U_join_93
  · refine lv_tableIn (tgt := 94) (off := 80) hx hb d_U_join_14 (by decide) (by decide) (by decide) (by decide) ?_
    refine lv_aload_n hx hb d_U_join_94 rfl (lv_at hl 2 rfl) ?_
    refine lv_lload hx hb d_U_join_95 (lv_at hl 0 rfl) ?_
    refine lv_lload_n hx hb d_U_join_97 rfl (lv_at hl 1 rfl) ?_
    refine W.lcmp hx hb d_U_join_98 ?_
    refine lv_if_ge (tgt := 106) hx hb d_U_join_99 (by decide) (fun c_99 => ?_) (fun c_99 => ?_)
    · have hp : pJoin 6 h f = pPut 0 (h - 2) f := by
        show pPut (if (f (h - 2)).toInt64 < (f (h - 1)).toInt64 then 1 else 0) (h - 2) f = _
        rw [if_neg (Int64.not_lt.mpr ((lg_cmp_ge _ _).mp c_99))]
      refine lv_lconst (v := 0) hx hb d_U_join_106 (by decide) ?_
      refine r_callV (k := 4) (i := b) (q := ("RuleClasses$Run", T_U, 7)) (fs := [.int mo, .ref sA, .int (nI (h - 2)), .int nx, .int oc, .int an, .int st]) (As := [.long 0]) (rest := []) F hS c_U_60 (k_U_put G l htr (uR G V b r sA mo (h - 2) nx oc an st f) b r sA mo nx oc an st (h - 2) f (by omega) 0 uR_4 uR_5) rfl uR_4 rfl hl.1 rfl (Nat.le_of_ble_eq_true rfl) d_U_join_107 ⟨Nat.le_of_ble_eq_true rfl, Nat.le_of_ble_eq_true rfl⟩ ⟨Nat.le_of_ble_eq_true rfl, Nat.le_of_ble_eq_true rfl⟩ (fun rv V1 H locs hR hS => ?_)
      obtain ⟨rfl, rfl⟩ := hR
      rw [uR_uR] at hS
      refine W.eq (g2 := F0 m 110 ls [.int ((pPut 0 (h - 2) f).1)]) rfl ?_
      exact m_reti F hr hS (Nat.le_of_ble_eq_true rfl) (Nat.le_of_ble_eq_true rfl) (by rw [hp]; exact ⟨rfl, rfl⟩) d_U_join_110
    · have hp : pJoin 6 h f = pPut 1 (h - 2) f := by
        show pPut (if (f (h - 2)).toInt64 < (f (h - 1)).toInt64 then 1 else 0) (h - 2) f = _
        rw [if_pos (Int64.not_le.mp (fun z => c_99 ((lg_cmp_ge _ _).mpr z)))]
      refine lv_lconst (v := 1) hx hb d_U_join_102 (by decide) ?_
      refine lv_goto (tgt := 107) hx hb d_U_join_103 (by decide) ?_
      refine r_callV (k := 4) (i := b) (q := ("RuleClasses$Run", T_U, 7)) (fs := [.int mo, .ref sA, .int (nI (h - 2)), .int nx, .int oc, .int an, .int st]) (As := [.long 1]) (rest := []) F hS c_U_60 (k_U_put G l htr (uR G V b r sA mo (h - 2) nx oc an st f) b r sA mo nx oc an st (h - 2) f (by omega) 1 uR_4 uR_5) rfl uR_4 rfl hl.1 rfl (Nat.le_of_ble_eq_true rfl) d_U_join_107 ⟨Nat.le_of_ble_eq_true rfl, Nat.le_of_ble_eq_true rfl⟩ ⟨Nat.le_of_ble_eq_true rfl, Nat.le_of_ble_eq_true rfl⟩ (fun rv V1 H locs hR hS => ?_)
      obtain ⟨rfl, rfl⟩ := hR
      rw [uR_uR] at hS
      refine W.eq (g2 := F0 m 110 ls [.int ((pPut 1 (h - 2) f).1)]) rfl ?_
      exact m_reti F hr hS (Nat.le_of_ble_eq_true rfl) (Nat.le_of_ble_eq_true rfl) (by rw [hp]; exact ⟨rfl, rfl⟩) d_U_join_110
set_option maxHeartbeats 4000000 in
set_option maxRecDepth 100000 in
theorem k_U_step (G : Gl) (l : Launch) (htr : l.stackTraces = false) (V : Vw) (b r sA : Nat) (mo nx oc an st : Int32) (h : Nat) (f : Nat → Int32)  (i j ea oA cA fA vA : Nat) (ow ki dy ln md ak sk fk : Int32) (po cs fa : Nat → Int32) (now o : Nat) (hh : h ≤ 8) (hnow : now < 16) (ho : o ≤ 10) (hop : po now = nI o) (hc1 : o = 1 → ∃ c, c < 8 ∧ cs now = nI c) (h4 : V 4 b = some (r, oU sA mo (nI h) nx oc an st)) (h5 : V 5 b = some (sA, aI G 8 f)) (h1 : V 1 i = some (ea, oE ow ki dy oA cA ln md ak sk fk)) (h2 : V 2 i = some (oA, aI G 16 po)) (h3 : V 3 i = some (cA, aI G 16 cs)) (h6 : V 6 j = some (fA, oF vA)) (h7 : V 7 j = some (vA, aI G 8 fa)) :
    Cm G l y_U_step b_U_step 6 (Option.some Jvm.ClassFile.FieldType.int) { frames := 2, cells := 0, slots := 0, locals := 47 } V [.ref r, .ref ea, .int (nI now), .ref fA] (fun rv V' => rv = some (.int (pStep o (cs now) fa ak h nx an f).1) ∧ V' = uR G V b r sA mo (pStep o (cs now) fa ak h nx an f).2.1 (pStep o (cs now) fa ak h nx an f).2.2.1 oc (pStep o (cs now) fa ak h nx an f).2.2.2.1 st (pStep o (cs now) fa ak h nx an f).2.2.2.2) := by
  refine Cm.of htr (by decide) (Nat.le_of_ble_eq_true rfl) ?_
  intro p e s m args below meth c ls F hr hnm hS hl
  obtain ⟨hx, hb, hml, hown, hts, hK, hlk, -⟩ := id F
  have hl : lv_has ls 6 [(0, .ref r), (1, .ref ea), (2, .int (nI now)), (3, .ref fA)] := hl
  refine lv_aload_n hx hb d_U_step_0 rfl (lv_at hl 1 rfl) ?_
  refine r_get (k := 1) (i := i) F hS f_U_50 h1 rfl d_U_step_1 ?_
  refine lv_iload_n hx hb d_U_step_4 rfl (lv_at hl 2 rfl) ?_
  refine r_iald (k := 2) (i := i) F hS h2 (vp_in_nI hnow (by decide)) d_U_step_5 ?_
  rw [nI_clamp (by omega)]
  rw [hop]
  refine lv_istore (lv' := [(4, .int (nI o)), (0, .ref r), (1, .ref ea), (2, .int (nI now)), (3, .ref fA)]) hx hb d_U_step_6 hl (by decide) rfl (fun ls hl => ?_)
  refine lv_aload_n hx hb d_U_step_8 rfl (lv_at hl 2 rfl) ?_
  refine r_get (k := 1) (i := i) F hS f_U_53 h1 rfl d_U_step_9 ?_
  refine lv_iload_n hx hb d_U_step_12 rfl (lv_at hl 3 rfl) ?_
  refine r_iald (k := 3) (i := i) F hS h3 (vp_in_nI hnow (by decide)) d_U_step_13 ?_
  rw [nI_clamp (by omega)]
  refine lv_istore (lv' := [(5, .int (cs now)), (4, .int (nI o)), (0, .ref r), (1, .ref ea), (2, .int (nI now)), (3, .ref fA)]) hx hb d_U_step_14 hl (by decide) rfl (fun ls hl => ?_)
  refine lv_aload_n hx hb d_U_step_16 rfl (lv_at hl 2 rfl) ?_
  refine r_get (k := 4) (i := b) F hS f_U_32.get h4 rfl d_U_step_17 ?_
  refine lv_iload hx hb d_U_step_20 (lv_at hl 1 rfl) ?_
  refine r_callS (As := [.int (nI o)]) (rest := [.int (nI h)]) F hS c_U_56 (k_U_needed G l htr V o ho) rfl hl.1 rfl (Nat.le_of_ble_eq_true rfl) d_U_step_22 ⟨Nat.le_of_ble_eq_true rfl, Nat.le_of_ble_eq_true rfl⟩ ⟨Nat.le_of_ble_eq_true rfl, Nat.le_of_ble_eq_true rfl⟩ (fun rv V1 H locs hR hS => ?_)
  obtain ⟨rfl, hV⟩ := hR
  rw [hV] at hS
  refine W.eq (g2 := F0 m 25 ls [.int (nI (pNeed o)), .int (nI h)]) rfl ?_
  refine lv_icmp_ge (tgt := 30) hx hb d_U_step_25 (by decide) (fun c_25 => ?_) (fun c_25 => ?_)
  · have hn : pNeed o ≤ h := (nI_leI (pNeed_lt o) (by omega)).mp c_25
    have hs0 : ¬ h < pNeed o := by omega
    refine lv_iload hx hb d_U_step_30 (lv_at hl 1 rfl) ?_
    rcases (show o = 0 ∨ o = 1 ∨ o = 2 ∨ o = 3 ∨ o = 4 ∨ o = 5 ∨ o = 6 ∨ o = 7 ∨ o = 8 ∨ o = 9 ∨ o = 10 by omega) with rfl | rfl | rfl | rfl | rfl | rfl | rfl | rfl | rfl | rfl | rfl
    · refine lv_tableIn (tgt := 92) (off := 60) hx hb d_U_step_32 (by decide) (by decide) (by decide) (by decide) ?_
      have hp : pStep 0 (cs now) fa ak h nx an f = ((pPut ((cs now).toInt64) h f).1, (pPut ((cs now).toInt64) h f).2.1, nx, an, (pPut ((cs now).toInt64) h f).2.2) := if_neg hs0
      refine lv_aload_n hx hb d_U_step_92 rfl (lv_at hl 2 rfl) ?_
      refine lv_iload hx hb d_U_step_93 (lv_at hl 0 rfl) ?_
      refine lv_i2l (v := (cs now).toInt64) hx hb d_U_step_95 rfl ?_
      refine r_callV (k := 4) (i := b) (q := ("RuleClasses$Run", T_U, 7)) (fs := [.int mo, .ref sA, .int (nI h), .int nx, .int oc, .int an, .int st]) (As := [.long ((cs now).toInt64)]) (rest := []) F hS c_U_60 (k_U_put G l htr V b r sA mo nx oc an st h f hh ((cs now).toInt64) h4 h5) rfl h4 rfl hl.1 rfl (Nat.le_of_ble_eq_true rfl) d_U_step_96 ⟨Nat.le_of_ble_eq_true rfl, Nat.le_of_ble_eq_true rfl⟩ ⟨Nat.le_of_ble_eq_true rfl, Nat.le_of_ble_eq_true rfl⟩ (fun rv V1 H locs hR hS => ?_)
      obtain ⟨rfl, rfl⟩ := hR
      refine W.eq (g2 := F0 m 99 ls [.int ((pPut ((cs now).toInt64) h f).1)]) rfl ?_
      exact m_reti F hr hS (Nat.le_of_ble_eq_true rfl) (Nat.le_of_ble_eq_true rfl) (by rw [hp]; exact ⟨rfl, rfl⟩) d_U_step_99
    · refine lv_tableIn (tgt := 100) (off := 68) hx hb d_U_step_32 (by decide) (by decide) (by decide) (by decide) ?_
      have hp : pStep 1 (cs now) fa ak h nx an f = ((pPut ((fa (cs now).toNatClampNeg).toInt64) h f).1, (pPut ((fa (cs now).toNatClampNeg).toInt64) h f).2.1, nx, an, (pPut ((fa (cs now).toNatClampNeg).toInt64) h f).2.2) := if_neg hs0
      obtain ⟨c1, hc8, hcn⟩ := hc1 rfl
      refine lv_aload_n hx hb d_U_step_100 rfl (lv_at hl 2 rfl) ?_
      refine lv_aload_n hx hb d_U_step_101 rfl (lv_at hl 5 rfl) ?_
      refine r_get (k := 6) (i := j) F hS f_U_64 h6 rfl d_U_step_102 ?_
      refine lv_iload hx hb d_U_step_105 (lv_at hl 0 rfl) ?_
      refine r_iald (k := 7) (i := j) F hS h7 (by rw [hcn]; exact vp_in_nI hc8 (by decide)) d_U_step_107 ?_
      refine lv_i2l (v := (fa (cs now).toNatClampNeg).toInt64) hx hb d_U_step_108 rfl ?_
      refine r_callV (k := 4) (i := b) (q := ("RuleClasses$Run", T_U, 7)) (fs := [.int mo, .ref sA, .int (nI h), .int nx, .int oc, .int an, .int st]) (As := [.long ((fa (cs now).toNatClampNeg).toInt64)]) (rest := []) F hS c_U_60 (k_U_put G l htr V b r sA mo nx oc an st h f hh ((fa (cs now).toNatClampNeg).toInt64) h4 h5) rfl h4 rfl hl.1 rfl (Nat.le_of_ble_eq_true rfl) d_U_step_109 ⟨Nat.le_of_ble_eq_true rfl, Nat.le_of_ble_eq_true rfl⟩ ⟨Nat.le_of_ble_eq_true rfl, Nat.le_of_ble_eq_true rfl⟩ (fun rv V1 H locs hR hS => ?_)
      obtain ⟨rfl, rfl⟩ := hR
      refine W.eq (g2 := F0 m 112 ls [.int ((pPut ((fa (cs now).toNatClampNeg).toInt64) h f).1)]) rfl ?_
      exact m_reti F hr hS (Nat.le_of_ble_eq_true rfl) (Nat.le_of_ble_eq_true rfl) (by rw [hp]; exact ⟨rfl, rfl⟩) d_U_step_112
    · refine lv_tableIn (tgt := 167) (off := 135) hx hb d_U_step_32 (by decide) (by decide) (by decide) (by decide) ?_
      have hp : pStep 2 (cs now) fa ak h nx an f = ((pJoin 2 h f).1, (pJoin 2 h f).2.1, nx, an, (pJoin 2 h f).2.2) := if_neg hs0
      refine lv_aload_n hx hb d_U_step_167 rfl (lv_at hl 2 rfl) ?_
      refine lv_iload hx hb d_U_step_168 (lv_at hl 1 rfl) ?_
      refine r_callV (k := 4) (i := b) (q := ("RuleClasses$Run", T_U, 7)) (fs := [.int mo, .ref sA, .int (nI h), .int nx, .int oc, .int an, .int st]) (As := [.int (nI 2)]) (rest := []) F hS c_U_76 (k_U_join G l htr V b r sA mo nx oc an st h f 2 hh hn (by decide) (by decide) h4 h5) rfl h4 rfl hl.1 rfl (Nat.le_of_ble_eq_true rfl) d_U_step_170 ⟨Nat.le_of_ble_eq_true rfl, Nat.le_of_ble_eq_true rfl⟩ ⟨Nat.le_of_ble_eq_true rfl, Nat.le_of_ble_eq_true rfl⟩ (fun rv V1 H locs hR hS => ?_)
      obtain ⟨rfl, rfl⟩ := hR
      refine W.eq (g2 := F0 m 173 ls [.int ((pJoin 2 h f).1)]) rfl ?_
      exact m_reti F hr hS (Nat.le_of_ble_eq_true rfl) (Nat.le_of_ble_eq_true rfl) (by rw [hp]; exact ⟨rfl, rfl⟩) d_U_step_173
    · refine lv_tableIn (tgt := 167) (off := 135) hx hb d_U_step_32 (by decide) (by decide) (by decide) (by decide) ?_
      have hp : pStep 3 (cs now) fa ak h nx an f = ((pJoin 3 h f).1, (pJoin 3 h f).2.1, nx, an, (pJoin 3 h f).2.2) := if_neg hs0
      refine lv_aload_n hx hb d_U_step_167 rfl (lv_at hl 2 rfl) ?_
      refine lv_iload hx hb d_U_step_168 (lv_at hl 1 rfl) ?_
      refine r_callV (k := 4) (i := b) (q := ("RuleClasses$Run", T_U, 7)) (fs := [.int mo, .ref sA, .int (nI h), .int nx, .int oc, .int an, .int st]) (As := [.int (nI 3)]) (rest := []) F hS c_U_76 (k_U_join G l htr V b r sA mo nx oc an st h f 3 hh hn (by decide) (by decide) h4 h5) rfl h4 rfl hl.1 rfl (Nat.le_of_ble_eq_true rfl) d_U_step_170 ⟨Nat.le_of_ble_eq_true rfl, Nat.le_of_ble_eq_true rfl⟩ ⟨Nat.le_of_ble_eq_true rfl, Nat.le_of_ble_eq_true rfl⟩ (fun rv V1 H locs hR hS => ?_)
      obtain ⟨rfl, rfl⟩ := hR
      refine W.eq (g2 := F0 m 173 ls [.int ((pJoin 3 h f).1)]) rfl ?_
      exact m_reti F hr hS (Nat.le_of_ble_eq_true rfl) (Nat.le_of_ble_eq_true rfl) (by rw [hp]; exact ⟨rfl, rfl⟩) d_U_step_173
    · refine lv_tableIn (tgt := 167) (off := 135) hx hb d_U_step_32 (by decide) (by decide) (by decide) (by decide) ?_
      have hp : pStep 4 (cs now) fa ak h nx an f = ((pJoin 4 h f).1, (pJoin 4 h f).2.1, nx, an, (pJoin 4 h f).2.2) := if_neg hs0
      refine lv_aload_n hx hb d_U_step_167 rfl (lv_at hl 2 rfl) ?_
      refine lv_iload hx hb d_U_step_168 (lv_at hl 1 rfl) ?_
      refine r_callV (k := 4) (i := b) (q := ("RuleClasses$Run", T_U, 7)) (fs := [.int mo, .ref sA, .int (nI h), .int nx, .int oc, .int an, .int st]) (As := [.int (nI 4)]) (rest := []) F hS c_U_76 (k_U_join G l htr V b r sA mo nx oc an st h f 4 hh hn (by decide) (by decide) h4 h5) rfl h4 rfl hl.1 rfl (Nat.le_of_ble_eq_true rfl) d_U_step_170 ⟨Nat.le_of_ble_eq_true rfl, Nat.le_of_ble_eq_true rfl⟩ ⟨Nat.le_of_ble_eq_true rfl, Nat.le_of_ble_eq_true rfl⟩ (fun rv V1 H locs hR hS => ?_)
      obtain ⟨rfl, rfl⟩ := hR
      refine W.eq (g2 := F0 m 173 ls [.int ((pJoin 4 h f).1)]) rfl ?_
      exact m_reti F hr hS (Nat.le_of_ble_eq_true rfl) (Nat.le_of_ble_eq_true rfl) (by rw [hp]; exact ⟨rfl, rfl⟩) d_U_step_173
    · refine lv_tableIn (tgt := 167) (off := 135) hx hb d_U_step_32 (by decide) (by decide) (by decide) (by decide) ?_
      have hp : pStep 5 (cs now) fa ak h nx an f = ((pJoin 5 h f).1, (pJoin 5 h f).2.1, nx, an, (pJoin 5 h f).2.2) := if_neg hs0
      refine lv_aload_n hx hb d_U_step_167 rfl (lv_at hl 2 rfl) ?_
      refine lv_iload hx hb d_U_step_168 (lv_at hl 1 rfl) ?_
      refine r_callV (k := 4) (i := b) (q := ("RuleClasses$Run", T_U, 7)) (fs := [.int mo, .ref sA, .int (nI h), .int nx, .int oc, .int an, .int st]) (As := [.int (nI 5)]) (rest := []) F hS c_U_76 (k_U_join G l htr V b r sA mo nx oc an st h f 5 hh hn (by decide) (by decide) h4 h5) rfl h4 rfl hl.1 rfl (Nat.le_of_ble_eq_true rfl) d_U_step_170 ⟨Nat.le_of_ble_eq_true rfl, Nat.le_of_ble_eq_true rfl⟩ ⟨Nat.le_of_ble_eq_true rfl, Nat.le_of_ble_eq_true rfl⟩ (fun rv V1 H locs hR hS => ?_)
      obtain ⟨rfl, rfl⟩ := hR
      refine W.eq (g2 := F0 m 173 ls [.int ((pJoin 5 h f).1)]) rfl ?_
      exact m_reti F hr hS (Nat.le_of_ble_eq_true rfl) (Nat.le_of_ble_eq_true rfl) (by rw [hp]; exact ⟨rfl, rfl⟩) d_U_step_173
    · refine lv_tableIn (tgt := 167) (off := 135) hx hb d_U_step_32 (by decide) (by decide) (by decide) (by decide) ?_
      have hp : pStep 6 (cs now) fa ak h nx an f = ((pJoin 6 h f).1, (pJoin 6 h f).2.1, nx, an, (pJoin 6 h f).2.2) := if_neg hs0
      refine lv_aload_n hx hb d_U_step_167 rfl (lv_at hl 2 rfl) ?_
      refine lv_iload hx hb d_U_step_168 (lv_at hl 1 rfl) ?_
      refine r_callV (k := 4) (i := b) (q := ("RuleClasses$Run", T_U, 7)) (fs := [.int mo, .ref sA, .int (nI h), .int nx, .int oc, .int an, .int st]) (As := [.int (nI 6)]) (rest := []) F hS c_U_76 (k_U_join G l htr V b r sA mo nx oc an st h f 6 hh hn (by decide) (by decide) h4 h5) rfl h4 rfl hl.1 rfl (Nat.le_of_ble_eq_true rfl) d_U_step_170 ⟨Nat.le_of_ble_eq_true rfl, Nat.le_of_ble_eq_true rfl⟩ ⟨Nat.le_of_ble_eq_true rfl, Nat.le_of_ble_eq_true rfl⟩ (fun rv V1 H locs hR hS => ?_)
      obtain ⟨rfl, rfl⟩ := hR
      refine W.eq (g2 := F0 m 173 ls [.int ((pJoin 6 h f).1)]) rfl ?_
      exact m_reti F hr hS (Nat.le_of_ble_eq_true rfl) (Nat.le_of_ble_eq_true rfl) (by rw [hp]; exact ⟨rfl, rfl⟩) d_U_step_173
    · refine lv_tableIn (tgt := 113) (off := 81) hx hb d_U_step_32 (by decide) (by decide) (by decide) (by decide) ?_
      have hp : pStep 7 (cs now) fa ak h nx an f = ((pPut ((f (h - 1)).toInt64) h f).1, (pPut ((f (h - 1)).toInt64) h f).2.1, nx, an, (pPut ((f (h - 1)).toInt64) h f).2.2) := if_neg hs0
      have h1n : 1 ≤ h := hn
      refine lv_aload_n hx hb d_U_step_113 rfl (lv_at hl 2 rfl) ?_
      refine lv_aload_n hx hb d_U_step_114 rfl (lv_at hl 2 rfl) ?_
      refine r_get (k := 4) (i := b) F hS f_U_9.get h4 rfl d_U_step_115 ?_
      refine lv_aload_n hx hb d_U_step_118 rfl (lv_at hl 2 rfl) ?_
      refine r_get (k := 4) (i := b) F hS f_U_32.get h4 rfl d_U_step_119 ?_
      refine lv_iconst (v := 1) hx hb d_U_step_122 (by decide) ?_
      refine lv_isub hx hb d_U_step_123 ?_
      rw [nI_m1 h1n]
      refine r_iald (k := 5) (i := b) F hS h5 (vp_in_nI (by omega) (by decide)) d_U_step_124 ?_
      rw [nI_clamp (by omega)]
      refine lv_i2l (v := (f (h - 1)).toInt64) hx hb d_U_step_125 rfl ?_
      refine r_callV (k := 4) (i := b) (q := ("RuleClasses$Run", T_U, 7)) (fs := [.int mo, .ref sA, .int (nI h), .int nx, .int oc, .int an, .int st]) (As := [.long ((f (h - 1)).toInt64)]) (rest := []) F hS c_U_60 (k_U_put G l htr V b r sA mo nx oc an st h f hh ((f (h - 1)).toInt64) h4 h5) rfl h4 rfl hl.1 rfl (Nat.le_of_ble_eq_true rfl) d_U_step_126 ⟨Nat.le_of_ble_eq_true rfl, Nat.le_of_ble_eq_true rfl⟩ ⟨Nat.le_of_ble_eq_true rfl, Nat.le_of_ble_eq_true rfl⟩ (fun rv V1 H locs hR hS => ?_)
      obtain ⟨rfl, rfl⟩ := hR
      refine W.eq (g2 := F0 m 129 ls [.int ((pPut ((f (h - 1)).toInt64) h f).1)]) rfl ?_
      exact m_reti F hr hS (Nat.le_of_ble_eq_true rfl) (Nat.le_of_ble_eq_true rfl) (by rw [hp]; exact ⟨rfl, rfl⟩) d_U_step_129
    · refine lv_tableIn (tgt := 140) (off := 108) hx hb d_U_step_32 (by decide) (by decide) (by decide) (by decide) ?_
      have hp : pStep 8 (cs now) fa ak h nx an f = (7, h - 1, (if f (h - 1) = 0 then cs now else nx), an, f) := if_neg hs0
      have h1n : 1 ≤ h := hn
      refine lv_aload_n hx hb d_U_step_140 rfl (lv_at hl 2 rfl) ?_
      refine r_callV (k := 4) (i := b) (q := ("RuleClasses$Run", T_U, 7)) (fs := [.int mo, .ref sA, .int (nI h), .int nx, .int oc, .int an, .int st]) (As := []) (rest := []) F hS c_U_72 (k_U_take G l htr V b r sA mo nx oc an st h f hh h4 h5) rfl h4 rfl hl.1 rfl (Nat.le_of_ble_eq_true rfl) d_U_step_141 ⟨Nat.le_of_ble_eq_true rfl, Nat.le_of_ble_eq_true rfl⟩ ⟨Nat.le_of_ble_eq_true rfl, Nat.le_of_ble_eq_true rfl⟩ (fun rv V1 H locs hR hS => ?_)
      obtain ⟨rfl, rfl⟩ := hR
      rw [show pTake h f = f (h - 1) from if_neg (by omega)]
      refine W.eq (g2 := F0 m 144 ls [.int (f (h - 1))]) rfl ?_
      refine lv_if_ne (tgt := 153) hx hb d_U_step_144 (by decide) (fun c_144 => ?_) (fun c_144 => ?_)
      · rw [if_neg c_144] at hp
        refine lv_bipush (v := 7) hx hb d_U_step_153 (by decide) ?_
        exact m_reti F hr hS (Nat.le_of_ble_eq_true rfl) (Nat.le_of_ble_eq_true rfl) (by rw [hp]; exact ⟨rfl, rfl⟩) d_U_step_155
      · rw [if_pos c_144] at hp
        refine lv_aload_n hx hb d_U_step_147 rfl (lv_at hl 2 rfl) ?_
        refine lv_iload hx hb d_U_step_148 (lv_at hl 0 rfl) ?_
        refine r_put (k := 4) (i := b) F hS f_U_35 ct_U uR_4 rfl rfl (Nat.le_of_ble_eq_true rfl) d_U_step_150 (fun H locs hS => ?_)
        have hS : HS G s (uV (uR G V b r sA mo (h - 1) nx oc an st f) 4 b (r, oU sA mo (nI (h - 1)) (cs now) oc an st)) H locs := hS
        refine lv_bipush (v := 7) hx hb d_U_step_153 (by decide) ?_
        exact m_reti F hr hS (Nat.le_of_ble_eq_true rfl) (Nat.le_of_ble_eq_true rfl) (by rw [hp]; exact ⟨rfl, uR_put4⟩) d_U_step_155
    · refine lv_tableIn (tgt := 156) (off := 124) hx hb d_U_step_32 (by decide) (by decide) (by decide) (by decide) ?_
      have hp : pStep 9 (cs now) fa ak h nx an f = (6, h - 1, nx, f (h - 1), f) := if_neg hs0
      have h1n : 1 ≤ h := hn
      refine lv_aload_n hx hb d_U_step_156 rfl (lv_at hl 2 rfl) ?_
      refine lv_aload_n hx hb d_U_step_157 rfl (lv_at hl 2 rfl) ?_
      refine r_callV (k := 4) (i := b) (q := ("RuleClasses$Run", T_U, 7)) (fs := [.int mo, .ref sA, .int (nI h), .int nx, .int oc, .int an, .int st]) (As := []) (rest := [.ref r]) F hS c_U_72 (k_U_take G l htr V b r sA mo nx oc an st h f hh h4 h5) rfl h4 rfl hl.1 rfl (Nat.le_of_ble_eq_true rfl) d_U_step_158 ⟨Nat.le_of_ble_eq_true rfl, Nat.le_of_ble_eq_true rfl⟩ ⟨Nat.le_of_ble_eq_true rfl, Nat.le_of_ble_eq_true rfl⟩ (fun rv V1 H locs hR hS => ?_)
      obtain ⟨rfl, rfl⟩ := hR
      rw [show pTake h f = f (h - 1) from if_neg (by omega)]
      refine W.eq (g2 := F0 m 161 ls [.int (f (h - 1)), .ref r]) rfl ?_
      refine r_put (k := 4) (i := b) F hS f_U_29 ct_U uR_4 rfl rfl (Nat.le_of_ble_eq_true rfl) d_U_step_161 (fun H locs hS => ?_)
      have hS : HS G s (uV (uR G V b r sA mo (h - 1) nx oc an st f) 4 b (r, oU sA mo (nI (h - 1)) nx oc (f (h - 1)) st)) H locs := hS
      refine lv_bipush (v := 6) hx hb d_U_step_164 (by decide) ?_
      exact m_reti F hr hS (Nat.le_of_ble_eq_true rfl) (Nat.le_of_ble_eq_true rfl) (by rw [hp]; exact ⟨rfl, uR_put4⟩) d_U_step_166
    · refine lv_tableIn (tgt := 130) (off := 98) hx hb d_U_step_32 (by decide) (by decide) (by decide) (by decide) ?_
      have hp : pStep 10 (cs now) fa ak h nx an f = ((pPut ak.toInt64 h f).1, (pPut ak.toInt64 h f).2.1, nx, an, (pPut ak.toInt64 h f).2.2) := if_neg hs0
      refine lv_aload_n hx hb d_U_step_130 rfl (lv_at hl 2 rfl) ?_
      refine lv_aload_n hx hb d_U_step_131 rfl (lv_at hl 3 rfl) ?_
      refine r_get (k := 1) (i := i) F hS f_U_69.get h1 rfl d_U_step_132 ?_
      refine lv_i2l (v := ak.toInt64) hx hb d_U_step_135 rfl ?_
      refine r_callV (k := 4) (i := b) (q := ("RuleClasses$Run", T_U, 7)) (fs := [.int mo, .ref sA, .int (nI h), .int nx, .int oc, .int an, .int st]) (As := [.long ak.toInt64]) (rest := []) F hS c_U_60 (k_U_put G l htr V b r sA mo nx oc an st h f hh ak.toInt64 h4 h5) rfl h4 rfl hl.1 rfl (Nat.le_of_ble_eq_true rfl) d_U_step_136 ⟨Nat.le_of_ble_eq_true rfl, Nat.le_of_ble_eq_true rfl⟩ ⟨Nat.le_of_ble_eq_true rfl, Nat.le_of_ble_eq_true rfl⟩ (fun rv V1 H locs hR hS => ?_)
      obtain ⟨rfl, rfl⟩ := hR
      refine W.eq (g2 := F0 m 139 ls [.int ((pPut ak.toInt64 h f).1)]) rfl ?_
      exact m_reti F hr hS (Nat.le_of_ble_eq_true rfl) (Nat.le_of_ble_eq_true rfl) (by rw [hp]; exact ⟨rfl, rfl⟩) d_U_step_139
  · have hp : pStep o (cs now) fa ak h nx an f = (3, h, nx, an, f) := if_pos (Nat.not_le.mp (fun z => c_25 (nI_le z (by omega))))
    refine lv_iconst (v := 3) hx hb d_U_step_28 (by decide) ?_
    exact m_reti F hr hS (Nat.le_of_ble_eq_true rfl) (Nat.le_of_ble_eq_true rfl) (by rw [hp]; exact ⟨rfl, (uR_id h4 h5).symm⟩) d_U_step_29
set_option maxHeartbeats 4000000 in
set_option maxRecDepth 100000 in
theorem lp_U_outcomeOf (G : Gl) (l : Launch) (htr : l.stackTraces = false) (V : Vw) (b r sA : Nat) (mo oc : Int32) (i j ea oA cA fA vA : Nat) (ow ki dy md ak sk fk : Int32) (ln : Nat) (po cs fa : Nat → Int32) (hok : okCode ln po cs) (h1 : V 1 i = some (ea, oE ow ki dy oA cA (nI ln) md ak sk fk)) (h2 : V 2 i = some (oA, aI G 16 po)) (h3 : V 3 i = some (cA, aI G 16 cs)) (h6 : V 6 j = some (fA, oF vA)) (h7 : V 7 j = some (vA, aI G 8 fa)) {Rt : Option Value → Vw → Prop} {p : Program} {e : Env} {s : State} {m : MethodId} {args : Array Value} {below : List Frame} {meth : Method} {c : Code} (F : Bd G p l s m args meth c b_U_outcomeOf 6 "RuleClasses$Run") (hr : meth.sig.returnType = some .int) :
    ∀ (n : Nat), n ≤ 1000 → ∀ (h : Nat) (nx an st : Int32) (f : Nat → Int32) (H : Heap) (locs : List Loc) (ls : Array Slot), h ≤ 8 → Rt (some (.int (pRun ln po cs fa ak n h nx an st f).1)) (uR G V b r sA mo (pRun ln po cs fa ak n h nx an st f).2.1 (pRun ln po cs fa ak n h nx an st f).2.2.1 oc (pRun ln po cs fa ak n h nx an st f).2.2.2.1 (pRun ln po cs fa ak n h nx an st f).2.2.2.2.1 (pRun ln po cs fa ak n h nx an st f).2.2.2.2.2) → HS G s (uR G V b r sA mo h nx oc an st f) H locs → lv_has ls 6 [(0, .ref r), (1, .ref ea), (2, .ref fA), (3, .int (nI n))] →
      W p l e ({ frames := 3, cells := 0, slots := 0, locals := 72 } : Room) s m args below meth c H locs 0 0 (MQ below (QcC G Rt) args s ({ frames := 3, cells := 0, slots := 0, locals := 72 } : Room).cells ({ frames := 3, cells := 0, slots := 0, locals := 72 } : Room).slots (aB G)) (F0 m 5 ls []) := by
  have hln := hok.1
  obtain ⟨hx, hb, hml, hown, hts, hK, hlk, -⟩ := id F
  intro n
  induction n with
  | zero =>
    intro hn9 h nx an st f H locs ls hh hq hS hl
    refine lv_iload_n hx hb d_U_outcomeOf_5 rfl (lv_at hl 3 rfl) ?_
    refine lv_if_le (tgt := 81) hx hb d_U_outcomeOf_6 (by decide) (fun c_6 => ?_) (fun c_6 => absurd (by decide) c_6)
    refine lv_iconst (v := 1) hx hb d_U_outcomeOf_81 (by decide) ?_
    exact m_reti F hr hS (Nat.le_of_ble_eq_true rfl) (Nat.le_of_ble_eq_true rfl) hq d_U_outcomeOf_82
  | succ n ih =>
    intro hn9 h nx an st f H locs ls hh hq hS hl
    refine lv_iload_n hx hb d_U_outcomeOf_5 rfl (lv_at hl 3 rfl) ?_
    refine lv_if_le (tgt := 81) hx hb d_U_outcomeOf_6 (by decide) (fun c_6 => absurd c_6 (nI_nle (Nat.succ_pos n) (by omega))) (fun c_6 => ?_)
    refine lv_aload_n hx hb d_U_outcomeOf_9 rfl (lv_at hl 0 rfl) ?_
    refine r_get (k := 4) (i := b) F hS f_U_35.get uR_4 rfl d_U_outcomeOf_10 ?_
    refine lv_if_lt (tgt := 27) hx hb d_U_outcomeOf_13 (by decide) (fun c_13 => ?_) (fun c_13 => ?_)
    · have hp : pRun ln po cs fa ak (n + 1) h nx an st f = (4, h, nx, an, st, f) := if_pos (Or.inl c_13)
      rw [hp] at hq
      refine lv_iconst (v := 4) hx hb d_U_outcomeOf_27 (by decide) ?_
      exact m_reti F hr hS (Nat.le_of_ble_eq_true rfl) (Nat.le_of_ble_eq_true rfl) hq d_U_outcomeOf_28
    · refine lv_aload_n hx hb d_U_outcomeOf_16 rfl (lv_at hl 0 rfl) ?_
      refine r_get (k := 4) (i := b) F hS f_U_35.get uR_4 rfl d_U_outcomeOf_17 ?_
      refine lv_aload_n hx hb d_U_outcomeOf_20 rfl (lv_at hl 1 rfl) ?_
      refine r_get (k := 1) (i := i) F hS f_U_41.get ((uR_o (by decide) (by decide)).trans h1) rfl d_U_outcomeOf_21 ?_
      refine lv_icmp_lt (tgt := 29) hx hb d_U_outcomeOf_24 (by decide) (fun c_24 => ?_) (fun c_24 => ?_)
      · have hn0 : ¬ (nx < 0 ∨ nI ln ≤ nx) := fun z => z.elim c_13 (fun z => absurd c_24 (Int32.not_lt.mpr z))
        obtain ⟨j0, hj0, ej0⟩ : ∃ j0, j0 < ln ∧ nx = nI j0 := by
          obtain ⟨j0, hj1, hj2⟩ := nI_of c_13
          exact ⟨j0, (nI_ltI hj1 (by omega)).mp (by rw [← hj2]; exact c_24), hj2⟩
        have ej : nx.toNatClampNeg = j0 := by rw [ej0]; exact nI_clamp (by omega)
        obtain ⟨o, ho, hop0, hc10⟩ := hok.2 j0 hj0
        have hop : po nx.toNatClampNeg = nI o := by rw [ej]; exact hop0
        have hc1 : o = 1 → ∃ c, c < 8 ∧ cs nx.toNatClampNeg = nI c := by rw [ej]; exact hc10
        have hnow : nx.toNatClampNeg < 16 := by omega
        have eo : (po nx.toNatClampNeg).toNatClampNeg = o := by rw [hop]; exact nI_clamp (by omega)
        have enx : nx = nI nx.toNatClampNeg := by rw [ej]; exact ej0
        refine lv_aload_n hx hb d_U_outcomeOf_29 rfl (lv_at hl 0 rfl) ?_
        refine lv_dup hx hb d_U_outcomeOf_30 rfl ?_
        refine r_get (k := 4) (i := b) F hS f_U_38.get uR_4 rfl d_U_outcomeOf_31 ?_
        refine lv_iconst (v := 1) hx hb d_U_outcomeOf_34 (by decide) ?_
        refine lv_iadd hx hb d_U_outcomeOf_35 ?_
        refine r_put (k := 4) (i := b) F hS f_U_38 ct_U uR_4 rfl rfl (Nat.le_of_ble_eq_true rfl) d_U_outcomeOf_36 (fun H locs hS => ?_)
        have hS : HS G s (uV (uR G V b r sA mo h nx oc an st f) 4 b (r, oU sA mo (nI h) nx oc an (st + 1))) H locs := hS
        refine lv_aload_n hx hb d_U_outcomeOf_39 rfl (lv_at hl 0 rfl) ?_
        refine r_get (k := 4) (i := b) F hS f_U_35.get (uV_self _ _ _ _) rfl d_U_outcomeOf_40 ?_
        refine lv_istore (lv' := [(4, .int nx), (0, .ref r), (1, .ref ea), (2, .ref fA), (3, .int (nI (n + 1)))]) hx hb d_U_outcomeOf_43 hl (by decide) rfl (fun ls hl => ?_)
        refine lv_aload_n hx hb d_U_outcomeOf_45 rfl (lv_at hl 1 rfl) ?_
        refine lv_dup hx hb d_U_outcomeOf_46 rfl ?_
        refine r_get (k := 4) (i := b) F hS f_U_35.get (uV_self _ _ _ _) rfl d_U_outcomeOf_47 ?_
        refine lv_iconst (v := 1) hx hb d_U_outcomeOf_50 (by decide) ?_
        refine lv_iadd hx hb d_U_outcomeOf_51 ?_
        refine r_put (k := 4) (i := b) F hS f_U_35 ct_U (uV_self _ _ _ _) rfl rfl (Nat.le_of_ble_eq_true rfl) d_U_outcomeOf_52 (fun H locs hS => ?_)
        have hS : HS G s (uV (uV (uR G V b r sA mo h nx oc an st f) 4 b (r, oU sA mo (nI h) nx oc an (st + 1))) 4 b (r, oU sA mo (nI h) (nx + 1) oc an (st + 1))) H locs := hS
        refine lv_aload_n hx hb d_U_outcomeOf_55 rfl (lv_at hl 1 rfl) ?_
        refine lv_aload_n hx hb d_U_outcomeOf_56 rfl (lv_at hl 2 rfl) ?_
        refine lv_iload hx hb d_U_outcomeOf_57 (lv_at hl 0 rfl) ?_
        refine lv_aload_n hx hb d_U_outcomeOf_59 rfl (lv_at hl 3 rfl) ?_
        rw [uR_put4, uR_put4] at hS
        rw [show Value.int nx = Value.int (nI nx.toNatClampNeg) from congrArg Value.int enx]
        refine r_callV (k := 4) (i := b) (q := ("RuleClasses$Run", T_U, 7)) (fs := [.int mo, .ref sA, .int (nI h), .int (nx + 1), .int oc, .int an, .int (st + 1)]) (As := [.ref ea, .int (nI nx.toNatClampNeg), .ref fA]) (rest := []) F hS c_U_46 (k_U_step G l htr (uR G V b r sA mo h (nx + 1) oc an (st + 1) f) b r sA mo (nx + 1) oc an (st + 1) h f i j ea oA cA fA vA ow ki dy (nI ln) md ak sk fk po cs fa nx.toNatClampNeg o hh hnow ho hop hc1 uR_4 uR_5 ((uR_o (by decide) (by decide)).trans h1) ((uR_o (by decide) (by decide)).trans h2) ((uR_o (by decide) (by decide)).trans h3) ((uR_o (by decide) (by decide)).trans h6) ((uR_o (by decide) (by decide)).trans h7)) rfl uR_4 rfl hl.1 rfl (Nat.le_of_ble_eq_true rfl) d_U_outcomeOf_60 ⟨Nat.le_of_ble_eq_true rfl, Nat.le_of_ble_eq_true rfl⟩ ⟨Nat.le_of_ble_eq_true rfl, Nat.le_of_ble_eq_true rfl⟩ (fun rv V1 H locs hR hS => ?_)
        obtain ⟨rfl, rfl⟩ := hR
        rw [uR_uR] at hS
        refine W.eq (g2 := F0 m 63 ls [.int ((pStep o (cs nx.toNatClampNeg) fa ak h (nx + 1) an f).1)]) rfl ?_
        refine lv_istore (lv' := [(5, .int ((pStep o (cs nx.toNatClampNeg) fa ak h (nx + 1) an f).1)), (4, .int nx), (0, .ref r), (1, .ref ea), (2, .ref fA), (3, .int (nI (n + 1)))]) hx hb d_U_outcomeOf_63 hl (by decide) rfl (fun ls hl => ?_)
        refine lv_iload hx hb d_U_outcomeOf_65 (lv_at hl 0 rfl) ?_
        refine lv_bipush (v := 7) hx hb d_U_outcomeOf_67 (by decide) ?_
        refine lv_icmp_eq (tgt := 75) hx hb d_U_outcomeOf_69 (by decide) (fun c_69 => ?_) (fun c_69 => ?_)
        · have hp : pRun ln po cs fa ak (n + 1) h nx an st f = pRun ln po cs fa ak n (pStep o (cs nx.toNatClampNeg) fa ak h (nx + 1) an f).2.1 (pStep o (cs nx.toNatClampNeg) fa ak h (nx + 1) an f).2.2.1 (pStep o (cs nx.toNatClampNeg) fa ak h (nx + 1) an f).2.2.2.1 (st + 1) (pStep o (cs nx.toNatClampNeg) fa ak h (nx + 1) an f).2.2.2.2 := by
            show (if nx < 0 ∨ nI ln ≤ nx then _ else _) = _
            rw [if_neg hn0, eo, if_pos c_69]
          rw [hp] at hq
          refine lv_iinc (v := (nI n)) (lv' := [(3, .int (nI n)), (5, .int ((pStep o (cs nx.toNatClampNeg) fa ak h (nx + 1) an f).1)), (4, .int nx), (0, .ref r), (1, .ref ea), (2, .ref fA)]) hx hb d_U_outcomeOf_75 hl (k := 5) rfl (pk_m1 n) (by decide) rfl (fun ls hl => ?_)
          refine lv_goto (tgt := 5) hx hb d_U_outcomeOf_78 (by decide) ?_
          exact ih (by omega) _ _ _ _ _ _ _ _ (pStep_h hh) hq hS (lv_sub hl [3, 4, 5, 0] rfl)
        · have hp : pRun ln po cs fa ak (n + 1) h nx an st f = ((pStep o (cs nx.toNatClampNeg) fa ak h (nx + 1) an f).1, (pStep o (cs nx.toNatClampNeg) fa ak h (nx + 1) an f).2.1, (pStep o (cs nx.toNatClampNeg) fa ak h (nx + 1) an f).2.2.1, (pStep o (cs nx.toNatClampNeg) fa ak h (nx + 1) an f).2.2.2.1, st + 1, (pStep o (cs nx.toNatClampNeg) fa ak h (nx + 1) an f).2.2.2.2) := by
            show (if nx < 0 ∨ nI ln ≤ nx then _ else _) = _
            rw [if_neg hn0, eo, if_neg c_69]
          rw [hp] at hq
          refine lv_iload hx hb d_U_outcomeOf_72 (lv_at hl 0 rfl) ?_
          exact m_reti F hr hS (Nat.le_of_ble_eq_true rfl) (Nat.le_of_ble_eq_true rfl) hq d_U_outcomeOf_74
      · have hp : pRun ln po cs fa ak (n + 1) h nx an st f = (4, h, nx, an, st, f) := if_pos (Or.inr (Int32.not_lt.mp c_24))
        rw [hp] at hq
        refine lv_iconst (v := 4) hx hb d_U_outcomeOf_27 (by decide) ?_
        exact m_reti F hr hS (Nat.le_of_ble_eq_true rfl) (Nat.le_of_ble_eq_true rfl) hq d_U_outcomeOf_28
set_option maxHeartbeats 4000000 in
set_option maxRecDepth 100000 in
theorem k_U_outcomeOf (G : Gl) (l : Launch) (htr : l.stackTraces = false) (V : Vw) (b r sA : Nat) (nx oc an st : Int32) (h : Nat) (f : Nat → Int32) (n : Nat) (hh : h ≤ 8) (hn9 : n ≤ 1000) (i j ea oA cA fA vA : Nat) (ow ki dy md ak sk fk : Int32) (ln : Nat) (po cs fa : Nat → Int32) (hok : okCode ln po cs) (h4 : V 4 b = some (r, oU sA (nI n) (nI h) nx oc an st)) (h5 : V 5 b = some (sA, aI G 8 f)) (h1 : V 1 i = some (ea, oE ow ki dy oA cA (nI ln) md ak sk fk)) (h2 : V 2 i = some (oA, aI G 16 po)) (h3 : V 3 i = some (cA, aI G 16 cs)) (h6 : V 6 j = some (fA, oF vA)) (h7 : V 7 j = some (vA, aI G 8 fa)) :
    Cm G l y_U_outcomeOf b_U_outcomeOf 6 (Option.some Jvm.ClassFile.FieldType.int) { frames := 3, cells := 0, slots := 0, locals := 72 } V [.ref r, .ref ea, .ref fA] (fun rv V' => rv = some (.int (pRun ln po cs fa ak n h nx an st f).1) ∧ V' = uR G V b r sA (nI n) (pRun ln po cs fa ak n h nx an st f).2.1 (pRun ln po cs fa ak n h nx an st f).2.2.1 oc (pRun ln po cs fa ak n h nx an st f).2.2.2.1 (pRun ln po cs fa ak n h nx an st f).2.2.2.2.1 (pRun ln po cs fa ak n h nx an st f).2.2.2.2.2) := by
  refine Cm.of htr (by decide) (Nat.le_of_ble_eq_true rfl) ?_
  intro p e s m args below meth c ls F hr hnm hS hl
  obtain ⟨hx, hb, hml, hown, hts, hK, hlk, -⟩ := id F
  have hl : lv_has ls 6 [(0, .ref r), (1, .ref ea), (2, .ref fA)] := hl
  refine lv_aload_n hx hb d_U_outcomeOf_0 rfl (lv_at hl 0 rfl) ?_
  refine r_get (k := 4) (i := b) F hS f_U_15.get h4 rfl d_U_outcomeOf_1 ?_
  refine lv_istore_n (lv' := [(3, .int (nI n)), (0, .ref r), (1, .ref ea), (2, .ref fA)]) hx hb d_U_outcomeOf_4 rfl hl (by decide) rfl (fun ls hl => ?_)
  rw [← uR_id h4 h5] at hS
  refine lp_U_outcomeOf G l htr V b r sA (nI n) oc i j ea oA cA fA vA ow ki dy md ak sk fk ln po cs fa hok h1 h2 h3 h6 h7 F hr n hn9 h nx an st f _ _ _ hh ?_ hS (lv_sub hl [1, 2, 3, 0] rfl)
  exact ⟨rfl, rfl⟩
set_option maxHeartbeats 4000000 in
set_option maxRecDepth 100000 in
theorem k_U_start (G : Gl) (l : Launch) (htr : l.stackTraces = false) (V : Vw) (b r sA : Nat) (nx oc an st : Int32) (h : Nat) (f : Nat → Int32) (n : Nat) (hh : h ≤ 8) (hn9 : n ≤ 1000) (i j ea oA cA fA vA : Nat) (ow ki dy md ak sk fk : Int32) (ln : Nat) (po cs fa : Nat → Int32) (hok : okCode ln po cs) (h4 : V 4 b = some (r, oU sA (nI n) (nI h) nx oc an st)) (h5 : V 5 b = some (sA, aI G 8 f)) (h1 : V 1 i = some (ea, oE ow ki dy oA cA (nI ln) md ak sk fk)) (h2 : V 2 i = some (oA, aI G 16 po)) (h3 : V 3 i = some (cA, aI G 16 cs)) (h6 : V 6 j = some (fA, oF vA)) (h7 : V 7 j = some (vA, aI G 8 fa)) :
    Cm G l y_U_start b_U_start 3 none { frames := 4, cells := 0, slots := 0, locals := 97 } V [.ref r, .ref ea, .ref fA] (fun rv V' => rv = none ∧ V' = uR G V b r sA (nI n) (pRun ln po cs fa ak n 0 0 0 0 f).2.1 (pRun ln po cs fa ak n 0 0 0 0 f).2.2.1 (pRun ln po cs fa ak n 0 0 0 0 f).1 (pRun ln po cs fa ak n 0 0 0 0 f).2.2.2.1 (pRun ln po cs fa ak n 0 0 0 0 f).2.2.2.2.1 (pRun ln po cs fa ak n 0 0 0 0 f).2.2.2.2.2) := by
  refine Cm.of htr (by decide) (Nat.le_of_ble_eq_true rfl) ?_
  intro p e s m args below meth c ls F hr hnm hS hl
  obtain ⟨hx, hb, hml, hown, hts, hK, hlk, -⟩ := id F
  have hl : lv_has ls 3 [(0, .ref r), (1, .ref ea), (2, .ref fA)] := hl
  refine lv_aload_n hx hb d_U_start_0 rfl (lv_at hl 0 rfl) ?_
  refine r_callV (k := 4) (i := b) (q := ("RuleClasses$Run", T_U, 7)) (fs := [.int (nI n), .ref sA, .int (nI h), .int nx, .int oc, .int an, .int st]) (As := []) (rest := []) F hS c_U_19 (k_U_clear G l htr V b r sA (nI n) nx oc an st h f hh h4 h5) rfl h4 rfl hl.1 rfl (Nat.le_of_ble_eq_true rfl) d_U_start_1 ⟨Nat.le_of_ble_eq_true rfl, Nat.le_of_ble_eq_true rfl⟩ ⟨Nat.le_of_ble_eq_true rfl, Nat.le_of_ble_eq_true rfl⟩ (fun rv V1 H locs hR hS => ?_)
  obtain ⟨rfl, rfl⟩ := hR
  refine W.eq (g2 := F0 m 4 ls []) rfl ?_
  refine lv_aload_n hx hb d_U_start_4 rfl (lv_at hl 0 rfl) ?_
  refine lv_aload_n hx hb d_U_start_5 rfl (lv_at hl 0 rfl) ?_
  refine lv_aload_n hx hb d_U_start_6 rfl (lv_at hl 1 rfl) ?_
  refine lv_aload_n hx hb d_U_start_7 rfl (lv_at hl 2 rfl) ?_
  refine r_callV (k := 4) (i := b) (q := ("RuleClasses$Run", T_U, 7)) (fs := [.int (nI n), .ref sA, .int (nI 0), .int 0, .int oc, .int 0, .int 0]) (As := [.ref ea, .ref fA]) (rest := [.ref r]) F hS c_U_25 (k_U_outcomeOf G l htr (uR G V b r sA (nI n) 0 0 oc 0 0 f) b r sA 0 oc 0 0 0 f n (by decide) hn9 i j ea oA cA fA vA ow ki dy md ak sk fk ln po cs fa hok uR_4 uR_5 ((uR_o (by decide) (by decide)).trans h1) ((uR_o (by decide) (by decide)).trans h2) ((uR_o (by decide) (by decide)).trans h3) ((uR_o (by decide) (by decide)).trans h6) ((uR_o (by decide) (by decide)).trans h7)) rfl uR_4 rfl hl.1 rfl (Nat.le_of_ble_eq_true rfl) d_U_start_8 ⟨Nat.le_of_ble_eq_true rfl, Nat.le_of_ble_eq_true rfl⟩ ⟨Nat.le_of_ble_eq_true rfl, Nat.le_of_ble_eq_true rfl⟩ (fun rv V1 H locs hR hS => ?_)
  obtain ⟨rfl, rfl⟩ := hR
  rw [uR_uR] at hS
  refine W.eq (g2 := F0 m 11 ls [.int ((pRun ln po cs fa ak n 0 0 0 0 f).1), .ref r]) rfl ?_
  refine r_put (k := 4) (i := b) F hS f_U_22 ct_U uR_4 rfl rfl (Nat.le_of_ble_eq_true rfl) d_U_start_11 (fun H locs hS => ?_)
  have hS : HS G s (uV (uR G V b r sA (nI n) ((pRun ln po cs fa ak n 0 0 0 0 f).2.1) ((pRun ln po cs fa ak n 0 0 0 0 f).2.2.1) oc ((pRun ln po cs fa ak n 0 0 0 0 f).2.2.2.1) ((pRun ln po cs fa ak n 0 0 0 0 f).2.2.2.2.1) ((pRun ln po cs fa ak n 0 0 0 0 f).2.2.2.2.2)) 4 b (r, oU sA (nI n) (nI ((pRun ln po cs fa ak n 0 0 0 0 f).2.1)) ((pRun ln po cs fa ak n 0 0 0 0 f).2.2.1) ((pRun ln po cs fa ak n 0 0 0 0 f).1) ((pRun ln po cs fa ak n 0 0 0 0 f).2.2.2.1) ((pRun ln po cs fa ak n 0 0 0 0 f).2.2.2.2.1))) H locs := hS
  exact m_retv F hr hS (Nat.le_of_ble_eq_true rfl) (Nat.le_of_ble_eq_true rfl) ⟨rfl, uR_put4⟩ d_U_start_14
set_option maxHeartbeats 4000000 in
set_option maxRecDepth 100000 in
theorem k_U_startNothing (G : Gl) (l : Launch) (htr : l.stackTraces = false) (V : Vw) (b r sA : Nat) (n : Nat) (nx oc an st : Int32) (h : Nat) (f : Nat → Int32) (hh : h ≤ 8) (h4 : V 4 b = some (r, oU sA (nI n) (nI h) nx oc an st)) (h5 : V 5 b = some (sA, aI G 8 f)) :
    Cm G l y_U_startNothing b_U_startNothing 1 none { frames := 1, cells := 0, slots := 0, locals := 20 } V [.ref r] (fun rv V' => rv = none ∧ V' = uR G V b r sA (nI n) 0 0 0 0 0 f) := by
  refine Cm.of htr (by decide) (Nat.le_of_ble_eq_true rfl) ?_
  intro p e s m args below meth c ls F hr hnm hS hl
  obtain ⟨hx, hb, hml, hown, hts, hK, hlk, -⟩ := id F
  have hl : lv_has ls 1 [(0, .ref r)] := hl
  refine lv_aload_n hx hb d_U_startNothing_0 rfl (lv_at hl 0 rfl) ?_
  refine r_callV (k := 4) (i := b) (q := ("RuleClasses$Run", T_U, 7)) (fs := [.int (nI n), .ref sA, .int (nI h), .int nx, .int oc, .int an, .int st]) (As := []) (rest := []) F hS c_U_19 (k_U_clear G l htr V b r sA (nI n) nx oc an st h f hh h4 h5) rfl h4 rfl hl.1 rfl (Nat.le_of_ble_eq_true rfl) d_U_startNothing_1 ⟨Nat.le_of_ble_eq_true rfl, Nat.le_of_ble_eq_true rfl⟩ ⟨Nat.le_of_ble_eq_true rfl, Nat.le_of_ble_eq_true rfl⟩ (fun rv V1 H locs hR hS => ?_)
  obtain ⟨rfl, rfl⟩ := hR
  refine W.eq (g2 := F0 m 4 ls []) rfl ?_
  refine lv_aload_n hx hb d_U_startNothing_4 rfl (lv_at hl 0 rfl) ?_
  refine lv_iconst (v := 0) hx hb d_U_startNothing_5 (by decide) ?_
  refine r_put (k := 4) (i := b) F hS f_U_22 ct_U uR_4 rfl rfl (Nat.le_of_ble_eq_true rfl) d_U_startNothing_6 (fun H locs hS => ?_)
  have hS : HS G s (uV (uR G V b r sA (nI n) 0 0 oc 0 0 f) 4 b (r, oU sA (nI n) (nI 0) 0 0 0 0)) H locs := hS
  exact m_retv F hr hS (Nat.le_of_ble_eq_true rfl) (Nat.le_of_ble_eq_true rfl) ⟨rfl, uR_put4⟩ d_U_startNothing_9
set_option maxHeartbeats 4000000 in
set_option maxRecDepth 100000 in
theorem k_U_endedLike (G : Gl) (l : Launch) (htr : l.stackTraces = false) (V : Vw) (b b2 r r2 sA sA2 : Nat) (mo nx oc an st hx0 mo2 h2 nx2 oc2 an2 st2 : Int32) (h4 : V 4 b = some (r, oU sA mo hx0 nx oc an st)) (h5 : V 4 b2 = some (r2, oU sA2 mo2 h2 nx2 oc2 an2 st2)) :
    Cm G l y_U_endedLike b_U_endedLike 2 (Option.some Jvm.ClassFile.FieldType.boolean) { frames := 0, cells := 0, slots := 0, locals := 0 } V [.ref r, .ref r2] (fun rv V' => rv = some (.int (if oc = oc2 ∧ an = an2 then 1 else 0)) ∧ V' = V) := by
  refine Cm.of htr (by decide) (Nat.le_of_ble_eq_true rfl) ?_
  intro p e s m args below meth c ls F hr hnm hS hl
  obtain ⟨hx, hb, hml, hown, hts, hK, hlk, -⟩ := id F
  have hl : lv_has ls 2 [(0, .ref r), (1, .ref r2)] := hl
  refine lv_aload_n hx hb d_U_endedLike_0 rfl (lv_at hl 0 rfl) ?_
  refine r_get (k := 4) (i := b) F hS f_U_22.get h4 rfl d_U_endedLike_1 ?_
  refine lv_aload_n hx hb d_U_endedLike_4 rfl (lv_at hl 1 rfl) ?_
  refine r_get (k := 4) (i := b2) F hS f_U_22.get h5 rfl d_U_endedLike_5 ?_
  refine lv_icmp_ne (tgt := 26) hx hb d_U_endedLike_8 (by decide) (fun c_8 => ?_) (fun c_8 => ?_)
  · refine lv_iconst (v := 0) hx hb d_U_endedLike_26 (by decide) ?_
    exact m_retz F hr hS (Nat.le_of_ble_eq_true rfl) (Nat.le_of_ble_eq_true rfl) rfl ⟨by rw [if_neg (fun z => c_8 z.1)], rfl⟩ d_U_endedLike_27
  · refine lv_aload_n hx hb d_U_endedLike_11 rfl (lv_at hl 0 rfl) ?_
    refine r_get (k := 4) (i := b) F hS f_U_29.get h4 rfl d_U_endedLike_12 ?_
    refine lv_aload_n hx hb d_U_endedLike_15 rfl (lv_at hl 1 rfl) ?_
    refine r_get (k := 4) (i := b2) F hS f_U_29.get h5 rfl d_U_endedLike_16 ?_
    refine lv_icmp_ne (tgt := 26) hx hb d_U_endedLike_19 (by decide) (fun c_19 => ?_) (fun c_19 => ?_)
    · refine lv_iconst (v := 0) hx hb d_U_endedLike_26 (by decide) ?_
      exact m_retz F hr hS (Nat.le_of_ble_eq_true rfl) (Nat.le_of_ble_eq_true rfl) rfl ⟨by rw [if_neg (fun z => c_19 z.2)], rfl⟩ d_U_endedLike_27
    · refine lv_iconst (v := 1) hx hb d_U_endedLike_22 (by decide) ?_
      refine lv_goto (tgt := 27) hx hb d_U_endedLike_23 (by decide) ?_
      exact m_retz F hr hS (Nat.le_of_ble_eq_true rfl) (Nat.le_of_ble_eq_true rfl) rfl ⟨by rw [if_pos ⟨c_8, c_19⟩], rfl⟩ d_U_endedLike_27
end
section
def pTell (t : Nat) (ow ki dy ln md ak sk fk : Int32) : Int32 := if t = 0 then ow else if t = 1 then ki else if t = 2 then dy else if t = 3 then ln else if t = 4 then (if md = 0 then 0 else 1) else if t = 5 then ak else if t = 6 then sk else fk
set_option maxHeartbeats 4000000 in
set_option maxRecDepth 100000 in
theorem k_E_init (G : Gl) (l : Launch) (htr : l.stackTraces = false) (V : Vw) (i ea : Nat) (ow ki dy : Int32) (h1 : V 1 i = some (ea, .inr (2, [.int 0, .int 0, .int 0, .null, .null, .int 0, .int 0, .int 0, .int 0, .int 0]))) :
    Cm G l y_E_init b_E_init 4 none { frames := 1, cells := 2, slots := 32, locals := 12 } V [.ref ea, .int ow, .int ki, .int dy] (fun rv V' => rv = none ∧ ∃ oA cA : Nat, V' = uV (uV (uV V 2 i (oA, aI G 16 (fun _ => 0))) 3 i (cA, aI G 16 (fun _ => 0))) 1 i (ea, oE ow ki dy oA cA 0 0 0 0 0)) := by
  refine Cm.of htr (by decide) (Nat.le_of_ble_eq_true rfl) ?_
  intro p e s m args below meth c ls F hr hnm hS hl
  obtain ⟨hx, hb, hml, hown, hts, hK, hlk, -⟩ := id F
  have hl : lv_has ls 4 [(0, .ref ea), (1, .int ow), (2, .int ki), (3, .int dy)] := hl
  refine lv_aload_n hx hb d_E_init_0 rfl (lv_at hl 0 rfl) ?_
  refine W.objInit hx hb hown (hts _ m_304) (hts _ m_29) (hts _ m_30) rfl (by rw [hml]; exact hl.1) rfl d_E_init_1 (Nat.le_of_ble_eq_true rfl) (Nat.le_of_ble_eq_true rfl) ?_
  refine W.eq (g2 := F0 m 4 ls []) rfl ?_
  refine lv_aload_n hx hb d_E_init_4 rfl (lv_at hl 0 rfl) ?_
  refine lv_bipush (v := 16) hx hb d_E_init_5 (by decide) ?_
  refine r_newi F hS 2 i m_69 (N := 16) (by decide) (by decide) (by decide) (Nat.le_of_ble_eq_true rfl) (Nat.le_of_ble_eq_true rfl) d_E_init_7 (fun oA H hS => ?_)
  have hS : HS G s (uV V 2 i (oA, aI G 16 (fun _ => 0))) H _ := hS
  refine r_putF (k := 1) (i := i) F hS f_E_9 ct_E hnm h1 rfl rfl (Nat.le_of_ble_eq_true rfl) d_E_init_9 (fun H locs hS => ?_)
  have hS : HS G s (uV (uV V 2 i (oA, aI G 16 (fun _ => 0))) 1 i (ea, .inr (2, [.int 0, .int 0, .int 0, .ref oA, .null, .int 0, .int 0, .int 0, .int 0, .int 0]))) H _ := hS
  refine lv_aload_n hx hb d_E_init_12 rfl (lv_at hl 0 rfl) ?_
  refine lv_bipush (v := 16) hx hb d_E_init_13 (by decide) ?_
  refine r_newi F hS 3 i m_69 (N := 16) (by decide) (by decide) (by decide) (Nat.le_of_ble_eq_true rfl) (Nat.le_of_ble_eq_true rfl) d_E_init_15 (fun cA H hS => ?_)
  have hS : HS G s (uV (uV (uV V 2 i (oA, aI G 16 (fun _ => 0))) 1 i (ea, .inr (2, [.int 0, .int 0, .int 0, .ref oA, .null, .int 0, .int 0, .int 0, .int 0, .int 0]))) 3 i (cA, aI G 16 (fun _ => 0))) H _ := hS
  refine r_putF (k := 1) (i := i) F hS f_E_15 ct_E hnm (uV_self _ _ _ _) rfl rfl (Nat.le_of_ble_eq_true rfl) d_E_init_17 (fun H locs hS => ?_)
  have hS : HS G s (uV (uV (uV (uV V 2 i (oA, aI G 16 (fun _ => 0))) 1 i (ea, .inr (2, [.int 0, .int 0, .int 0, .ref oA, .null, .int 0, .int 0, .int 0, .int 0, .int 0]))) 3 i (cA, aI G 16 (fun _ => 0))) 1 i (ea, .inr (2, [.int 0, .int 0, .int 0, .ref oA, .ref cA, .int 0, .int 0, .int 0, .int 0, .int 0]))) H _ := hS
  refine lv_aload_n hx hb d_E_init_20 rfl (lv_at hl 0 rfl) ?_
  refine lv_iload_n hx hb d_E_init_21 rfl (lv_at hl 1 rfl) ?_
  refine r_putF (k := 1) (i := i) F hS f_E_18 ct_E hnm (uV_self _ _ _ _) rfl rfl (Nat.le_of_ble_eq_true rfl) d_E_init_22 (fun H locs hS => ?_)
  have hS : HS G s (uV (uV (uV (uV (uV V 2 i (oA, aI G 16 (fun _ => 0))) 1 i (ea, .inr (2, [.int 0, .int 0, .int 0, .ref oA, .null, .int 0, .int 0, .int 0, .int 0, .int 0]))) 3 i (cA, aI G 16 (fun _ => 0))) 1 i (ea, .inr (2, [.int 0, .int 0, .int 0, .ref oA, .ref cA, .int 0, .int 0, .int 0, .int 0, .int 0]))) 1 i (ea, .inr (2, [.int ow, .int 0, .int 0, .ref oA, .ref cA, .int 0, .int 0, .int 0, .int 0, .int 0]))) H _ := hS
  refine lv_aload_n hx hb d_E_init_25 rfl (lv_at hl 0 rfl) ?_
  refine lv_iload_n hx hb d_E_init_26 rfl (lv_at hl 2 rfl) ?_
  refine r_putF (k := 1) (i := i) F hS f_E_22 ct_E hnm (uV_self _ _ _ _) rfl rfl (Nat.le_of_ble_eq_true rfl) d_E_init_27 (fun H locs hS => ?_)
  have hS : HS G s (uV (uV (uV (uV (uV (uV V 2 i (oA, aI G 16 (fun _ => 0))) 1 i (ea, .inr (2, [.int 0, .int 0, .int 0, .ref oA, .null, .int 0, .int 0, .int 0, .int 0, .int 0]))) 3 i (cA, aI G 16 (fun _ => 0))) 1 i (ea, .inr (2, [.int 0, .int 0, .int 0, .ref oA, .ref cA, .int 0, .int 0, .int 0, .int 0, .int 0]))) 1 i (ea, .inr (2, [.int ow, .int 0, .int 0, .ref oA, .ref cA, .int 0, .int 0, .int 0, .int 0, .int 0]))) 1 i (ea, .inr (2, [.int ow, .int ki, .int 0, .ref oA, .ref cA, .int 0, .int 0, .int 0, .int 0, .int 0]))) H _ := hS
  refine lv_aload_n hx hb d_E_init_30 rfl (lv_at hl 0 rfl) ?_
  refine lv_iload_n hx hb d_E_init_31 rfl (lv_at hl 3 rfl) ?_
  refine r_putF (k := 1) (i := i) F hS f_E_25 ct_E hnm (uV_self _ _ _ _) rfl rfl (Nat.le_of_ble_eq_true rfl) d_E_init_32 (fun H locs hS => ?_)
  have hS : HS G s (uV (uV (uV (uV (uV (uV (uV V 2 i (oA, aI G 16 (fun _ => 0))) 1 i (ea, .inr (2, [.int 0, .int 0, .int 0, .ref oA, .null, .int 0, .int 0, .int 0, .int 0, .int 0]))) 3 i (cA, aI G 16 (fun _ => 0))) 1 i (ea, .inr (2, [.int 0, .int 0, .int 0, .ref oA, .ref cA, .int 0, .int 0, .int 0, .int 0, .int 0]))) 1 i (ea, .inr (2, [.int ow, .int 0, .int 0, .ref oA, .ref cA, .int 0, .int 0, .int 0, .int 0, .int 0]))) 1 i (ea, .inr (2, [.int ow, .int ki, .int 0, .ref oA, .ref cA, .int 0, .int 0, .int 0, .int 0, .int 0]))) 1 i (ea, .inr (2, [.int ow, .int ki, .int dy, .ref oA, .ref cA, .int 0, .int 0, .int 0, .int 0, .int 0]))) H _ := hS
  exact m_retv F hr hS (Nat.le_of_ble_eq_true rfl) (Nat.le_of_ble_eq_true rfl) ⟨rfl, oA, cA, by rw [uV_uV, uV_uV, uV_uV, uV_cm (k := 1) (k2 := 3) _ _ _ (by omega), uV_uV]⟩ d_E_init_35
set_option maxHeartbeats 4000000 in
set_option maxRecDepth 100000 in
theorem k_E_append (G : Gl) (l : Launch) (htr : l.stackTraces = false) (V : Vw) (i ea oA cA : Nat) (ow ki dy md ak sk fk : Int32) (ln : Nat) (po cs : Nat → Int32) (op cn : Int32) (hl16 : ln < 16) (h1 : V 1 i = some (ea, oE ow ki dy oA cA (nI ln) md ak sk fk)) (h2 : V 2 i = some (oA, aI G 16 po)) (h3 : V 3 i = some (cA, aI G 16 cs)) :
    Cm G l y_E_append b_E_append 3 none { frames := 0, cells := 0, slots := 0, locals := 0 } V [.ref ea, .int op, .int cn] (fun rv V' => rv = none ∧ V' = uV (uV (uV V 2 i (oA, aI G 16 (upd po ln op))) 3 i (cA, aI G 16 (upd cs ln cn))) 1 i (ea, oE ow ki dy oA cA (nI (ln + 1)) md ak sk fk)) := by
  refine Cm.of htr (by decide) (Nat.le_of_ble_eq_true rfl) ?_
  intro p e s m args below meth c ls F hr hnm hS hl
  obtain ⟨hx, hb, hml, hown, hts, hK, hlk, -⟩ := id F
  have hl : lv_has ls 3 [(0, .ref ea), (1, .int op), (2, .int cn)] := hl
  refine lv_aload_n hx hb d_E_append_0 rfl (lv_at hl 0 rfl) ?_
  refine r_get (k := 1) (i := i) F hS f_E_28.get h1 rfl d_E_append_1 ?_
  refine lv_bipush (v := 16) hx hb d_E_append_4 (by decide) ?_
  refine lv_icmp_ge (tgt := 39) hx hb d_E_append_6 (by decide) (fun c_6 => absurd c_6 (nI_ge (a := ln) (b := 16) hl16 (by decide))) (fun c_6 => ?_)
  refine lv_aload_n hx hb d_E_append_9 rfl (lv_at hl 0 rfl) ?_
  refine r_get (k := 1) (i := i) F hS f_E_9.get h1 rfl d_E_append_10 ?_
  refine lv_aload_n hx hb d_E_append_13 rfl (lv_at hl 0 rfl) ?_
  refine r_get (k := 1) (i := i) F hS f_E_28.get h1 rfl d_E_append_14 ?_
  refine lv_iload_n hx hb d_E_append_17 rfl (lv_at hl 1 rfl) ?_
  refine r_iast (k := 2) (i := i) F hS h2 (vp_in_nI hl16 (by decide)) d_E_append_18 (fun H locs hS => ?_)
  rw [nI_clamp (by omega)] at hS
  have hS : HS G s (uV V 2 i (oA, aI G 16 (upd po ln op))) H _ := hS
  refine lv_aload_n hx hb d_E_append_19 rfl (lv_at hl 0 rfl) ?_
  refine r_get (k := 1) (i := i) F hS f_E_15.get h1 rfl d_E_append_20 ?_
  refine lv_aload_n hx hb d_E_append_23 rfl (lv_at hl 0 rfl) ?_
  refine r_get (k := 1) (i := i) F hS f_E_28.get h1 rfl d_E_append_24 ?_
  refine lv_iload_n hx hb d_E_append_27 rfl (lv_at hl 2 rfl) ?_
  refine r_iast (k := 3) (i := i) F hS h3 (vp_in_nI hl16 (by decide)) d_E_append_28 (fun H locs hS => ?_)
  rw [nI_clamp (by omega)] at hS
  have hS : HS G s (uV (uV V 2 i (oA, aI G 16 (upd po ln op))) 3 i (cA, aI G 16 (upd cs ln cn))) H _ := hS
  refine lv_aload_n hx hb d_E_append_29 rfl (lv_at hl 0 rfl) ?_
  refine lv_dup hx hb d_E_append_30 rfl ?_
  refine r_get (k := 1) (i := i) F hS f_E_28.get h1 rfl d_E_append_31 ?_
  refine lv_iconst (v := 1) hx hb d_E_append_34 (by decide) ?_
  refine lv_iadd hx hb d_E_append_35 ?_
  rw [nI_1]
  refine r_put (k := 1) (i := i) F hS f_E_28 ct_E h1 rfl rfl (Nat.le_of_ble_eq_true rfl) d_E_append_36 (fun H locs hS => ?_)
  have hS : HS G s (uV (uV (uV V 2 i (oA, aI G 16 (upd po ln op))) 3 i (cA, aI G 16 (upd cs ln cn))) 1 i (ea, oE ow ki dy oA cA (nI (ln + 1)) md ak sk fk)) H _ := hS
  exact m_retv F hr hS (Nat.le_of_ble_eq_true rfl) (Nat.le_of_ble_eq_true rfl) ⟨rfl, rfl⟩ d_E_append_39
set_option maxHeartbeats 4000000 in
set_option maxRecDepth 100000 in
theorem k_E_countsFor (G : Gl) (l : Launch) (htr : l.stackTraces = false) (V : Vw) (i ea oA cA : Nat) (ow ki dy md ak sk fk : Int32) (ln : Nat) (a0 k0 d0 : Int32) (h1 : V 1 i = some (ea, oE ow ki dy oA cA (nI ln) md ak sk fk)) :
    Cm G l y_E_countsFor b_E_countsFor 4 (Option.some Jvm.ClassFile.FieldType.boolean) { frames := 0, cells := 0, slots := 0, locals := 0 } V [.ref ea, .int a0, .int k0, .int d0] (fun rv V' => rv = some (.int (if ¬ md = 0 ∧ ow = a0 ∧ ki = k0 ∧ dy ≤ d0 then 1 else 0)) ∧ V' = V) := by
  refine Cm.of htr (by decide) (Nat.le_of_ble_eq_true rfl) ?_
  intro p e s m args below meth c ls F hr hnm hS hl
  obtain ⟨hx, hb, hml, hown, hts, hK, hlk, -⟩ := id F
  have hl : lv_has ls 4 [(0, .ref ea), (1, .int a0), (2, .int k0), (3, .int d0)] := hl
  refine lv_aload_n hx hb d_E_countsFor_0 rfl (lv_at hl 0 rfl) ?_
  refine r_get (k := 1) (i := i) F hS f_E_31.get h1 rfl d_E_countsFor_1 ?_
  refine lv_if_eq (tgt := 35) hx hb d_E_countsFor_4 (by decide) (fun c_4 => ?_) (fun c_4 => ?_)
  · refine lv_iconst (v := 0) hx hb d_E_countsFor_35 (by decide) ?_
    exact m_retz F hr hS (Nat.le_of_ble_eq_true rfl) (Nat.le_of_ble_eq_true rfl) rfl ⟨by rw [if_neg (fun z => z.1 c_4)], rfl⟩ d_E_countsFor_36
  · refine lv_aload_n hx hb d_E_countsFor_7 rfl (lv_at hl 0 rfl) ?_
    refine r_get (k := 1) (i := i) F hS f_E_18.get h1 rfl d_E_countsFor_8 ?_
    refine lv_iload_n hx hb d_E_countsFor_11 rfl (lv_at hl 1 rfl) ?_
    refine lv_icmp_ne (tgt := 35) hx hb d_E_countsFor_12 (by decide) (fun c_12 => ?_) (fun c_12 => ?_)
    · refine lv_iconst (v := 0) hx hb d_E_countsFor_35 (by decide) ?_
      exact m_retz F hr hS (Nat.le_of_ble_eq_true rfl) (Nat.le_of_ble_eq_true rfl) rfl ⟨by rw [if_neg (fun z => c_12 z.2.1)], rfl⟩ d_E_countsFor_36
    · refine lv_aload_n hx hb d_E_countsFor_15 rfl (lv_at hl 0 rfl) ?_
      refine r_get (k := 1) (i := i) F hS f_E_22.get h1 rfl d_E_countsFor_16 ?_
      refine lv_iload_n hx hb d_E_countsFor_19 rfl (lv_at hl 2 rfl) ?_
      refine lv_icmp_ne (tgt := 35) hx hb d_E_countsFor_20 (by decide) (fun c_20 => ?_) (fun c_20 => ?_)
      · refine lv_iconst (v := 0) hx hb d_E_countsFor_35 (by decide) ?_
        exact m_retz F hr hS (Nat.le_of_ble_eq_true rfl) (Nat.le_of_ble_eq_true rfl) rfl ⟨by rw [if_neg (fun z => c_20 z.2.2.1)], rfl⟩ d_E_countsFor_36
      · refine lv_aload_n hx hb d_E_countsFor_23 rfl (lv_at hl 0 rfl) ?_
        refine r_get (k := 1) (i := i) F hS f_E_25.get h1 rfl d_E_countsFor_24 ?_
        refine lv_iload_n hx hb d_E_countsFor_27 rfl (lv_at hl 3 rfl) ?_
        refine lv_icmp_gt (tgt := 35) hx hb d_E_countsFor_28 (by decide) (fun c_28 => ?_) (fun c_28 => ?_)
        · refine lv_iconst (v := 0) hx hb d_E_countsFor_35 (by decide) ?_
          exact m_retz F hr hS (Nat.le_of_ble_eq_true rfl) (Nat.le_of_ble_eq_true rfl) rfl ⟨by rw [if_neg (fun z => absurd c_28 (Int32.not_lt.mpr z.2.2.2))], rfl⟩ d_E_countsFor_36
        · refine lv_iconst (v := 1) hx hb d_E_countsFor_31 (by decide) ?_
          refine lv_goto (tgt := 36) hx hb d_E_countsFor_32 (by decide) ?_
          exact m_retz F hr hS (Nat.le_of_ble_eq_true rfl) (Nat.le_of_ble_eq_true rfl) rfl ⟨by rw [if_pos ⟨c_4, c_12, c_20, Int32.not_lt.mp c_28⟩], rfl⟩ d_E_countsFor_36
set_option maxHeartbeats 4000000 in
set_option maxRecDepth 100000 in
theorem k_E_noteQuestion (G : Gl) (l : Launch) (htr : l.stackTraces = false) (V : Vw) (i ea oA cA : Nat) (ow ki dy md ak sk fk : Int32) (ln : Nat) (b r sA : Nat) (mo hx0 nx oc an st : Int32) (h1 : V 1 i = some (ea, oE ow ki dy oA cA (nI ln) md ak sk fk)) (h4 : V 4 b = some (r, oU sA mo hx0 nx oc an st)) :
    Cm G l y_E_noteQuestion b_E_noteQuestion 2 none { frames := 0, cells := 0, slots := 0, locals := 0 } V [.ref ea, .ref r] (fun rv V' => rv = none ∧ V' = uV V 1 i (ea, oE ow ki dy oA cA (nI ln) md (ak + 1) (sk + st) (if oc = 6 then fk else fk + 1))) := by
  refine Cm.of htr (by decide) (Nat.le_of_ble_eq_true rfl) ?_
  intro p e s m args below meth c ls F hr hnm hS hl
  obtain ⟨hx, hb, hml, hown, hts, hK, hlk, -⟩ := id F
  have hl : lv_has ls 2 [(0, .ref ea), (1, .ref r)] := hl
  refine lv_aload_n hx hb d_E_noteQuestion_0 rfl (lv_at hl 0 rfl) ?_
  refine lv_dup hx hb d_E_noteQuestion_1 rfl ?_
  refine r_get (k := 1) (i := i) F hS f_E_35.get h1 rfl d_E_noteQuestion_2 ?_
  refine lv_iconst (v := 1) hx hb d_E_noteQuestion_5 (by decide) ?_
  refine lv_iadd hx hb d_E_noteQuestion_6 ?_
  refine r_put (k := 1) (i := i) F hS f_E_35 ct_E h1 rfl rfl (Nat.le_of_ble_eq_true rfl) d_E_noteQuestion_7 (fun H locs hS => ?_)
  have hS : HS G s (uV V 1 i (ea, oE ow ki dy oA cA (nI ln) md (ak + 1) sk fk)) H _ := hS
  refine lv_aload_n hx hb d_E_noteQuestion_10 rfl (lv_at hl 0 rfl) ?_
  refine lv_dup hx hb d_E_noteQuestion_11 rfl ?_
  refine r_get (k := 1) (i := i) F hS f_E_38.get (uV_self _ _ _ _) rfl d_E_noteQuestion_12 ?_
  refine lv_aload_n hx hb d_E_noteQuestion_15 rfl (lv_at hl 1 rfl) ?_
  refine r_get (k := 4) (i := b) F hS f_E_41.get h4 rfl d_E_noteQuestion_16 ?_
  refine lv_iadd hx hb d_E_noteQuestion_19 ?_
  refine r_put (k := 1) (i := i) F hS f_E_38 ct_E (uV_self _ _ _ _) rfl rfl (Nat.le_of_ble_eq_true rfl) d_E_noteQuestion_20 (fun H locs hS => ?_)
  have hS : HS G s (uV (uV V 1 i (ea, oE ow ki dy oA cA (nI ln) md (ak + 1) sk fk)) 1 i (ea, oE ow ki dy oA cA (nI ln) md (ak + 1) (sk + st) fk)) H _ := hS
  refine lv_aload_n hx hb d_E_noteQuestion_23 rfl (lv_at hl 1 rfl) ?_
  refine r_get (k := 4) (i := b) F hS f_E_46.get h4 rfl d_E_noteQuestion_24 ?_
  refine lv_bipush (v := 6) hx hb d_E_noteQuestion_27 (by decide) ?_
  refine lv_icmp_eq (tgt := 42) hx hb d_E_noteQuestion_29 (by decide) (fun c_29 => ?_) (fun c_29 => ?_)
  · exact m_retv F hr hS (Nat.le_of_ble_eq_true rfl) (Nat.le_of_ble_eq_true rfl) ⟨rfl, by rw [uV_uV, if_pos c_29]⟩ d_E_noteQuestion_42
  · refine lv_aload_n hx hb d_E_noteQuestion_32 rfl (lv_at hl 0 rfl) ?_
    refine lv_dup hx hb d_E_noteQuestion_33 rfl ?_
    refine r_get (k := 1) (i := i) F hS f_E_49.get (uV_self _ _ _ _) rfl d_E_noteQuestion_34 ?_
    refine lv_iconst (v := 1) hx hb d_E_noteQuestion_37 (by decide) ?_
    refine lv_iadd hx hb d_E_noteQuestion_38 ?_
    refine r_put (k := 1) (i := i) F hS f_E_49 ct_E (uV_self _ _ _ _) rfl rfl (Nat.le_of_ble_eq_true rfl) d_E_noteQuestion_39 (fun H locs hS => ?_)
    have hS : HS G s (uV (uV (uV V 1 i (ea, oE ow ki dy oA cA (nI ln) md (ak + 1) sk fk)) 1 i (ea, oE ow ki dy oA cA (nI ln) md (ak + 1) (sk + st) fk)) 1 i (ea, oE ow ki dy oA cA (nI ln) md (ak + 1) (sk + st) (fk + 1))) H _ := hS
    exact m_retv F hr hS (Nat.le_of_ble_eq_true rfl) (Nat.le_of_ble_eq_true rfl) ⟨rfl, by rw [uV_uV, uV_uV, if_neg c_29]⟩ d_E_noteQuestion_42
set_option maxHeartbeats 4000000 in
set_option maxRecDepth 100000 in
theorem k_E_tell (G : Gl) (l : Launch) (htr : l.stackTraces = false) (V : Vw) (i ea oA cA : Nat) (ow ki dy md ak sk fk : Int32) (ln : Nat) (t : Nat) (ht : t ≤ 7) (h1 : V 1 i = some (ea, oE ow ki dy oA cA (nI ln) md ak sk fk)) :
    Cm G l y_E_tell b_E_tell 2 (Option.some Jvm.ClassFile.FieldType.int) { frames := 0, cells := 0, slots := 0, locals := 0 } V [.ref ea, .int (nI t)] (fun rv V' => rv = some (.int (pTell t ow ki dy (nI ln) md ak sk fk)) ∧ V' = V) := by
  refine Cm.of htr (by decide) (Nat.le_of_ble_eq_true rfl) ?_
  intro p e s m args below meth c ls F hr hnm hS hl
  obtain ⟨hx, hb, hml, hown, hts, hK, hlk, -⟩ := id F
  have hl : lv_has ls 2 [(0, .ref ea), (1, .int (nI t))] := hl
  refine lv_iload_n hx hb d_E_tell_0 rfl (lv_at hl 1 rfl) ?_
  rcases (show t = 0 ∨ t = 1 ∨ t = 2 ∨ t = 3 ∨ t = 4 ∨ t = 5 ∨ t = 6 ∨ t = 7 by omega) with rfl | rfl | rfl | rfl | rfl | rfl | rfl | rfl
  · refine lv_tableIn (tgt := 44) (off := 43) hx hb d_E_tell_1 (by decide) (by decide) (by decide) (by decide) ?_
    refine lv_aload_n hx hb d_E_tell_44 rfl (lv_at hl 0 rfl) ?_
    refine r_get (k := 1) (i := i) F hS f_E_18.get h1 rfl d_E_tell_45 ?_
    exact m_reti F hr hS (Nat.le_of_ble_eq_true rfl) (Nat.le_of_ble_eq_true rfl) ⟨rfl, rfl⟩ d_E_tell_48
  · refine lv_tableIn (tgt := 49) (off := 48) hx hb d_E_tell_1 (by decide) (by decide) (by decide) (by decide) ?_
    refine lv_aload_n hx hb d_E_tell_49 rfl (lv_at hl 0 rfl) ?_
    refine r_get (k := 1) (i := i) F hS f_E_22.get h1 rfl d_E_tell_50 ?_
    exact m_reti F hr hS (Nat.le_of_ble_eq_true rfl) (Nat.le_of_ble_eq_true rfl) ⟨rfl, rfl⟩ d_E_tell_53
  · refine lv_tableIn (tgt := 54) (off := 53) hx hb d_E_tell_1 (by decide) (by decide) (by decide) (by decide) ?_
    refine lv_aload_n hx hb d_E_tell_54 rfl (lv_at hl 0 rfl) ?_
    refine r_get (k := 1) (i := i) F hS f_E_25.get h1 rfl d_E_tell_55 ?_
    exact m_reti F hr hS (Nat.le_of_ble_eq_true rfl) (Nat.le_of_ble_eq_true rfl) ⟨rfl, rfl⟩ d_E_tell_58
  · refine lv_tableIn (tgt := 59) (off := 58) hx hb d_E_tell_1 (by decide) (by decide) (by decide) (by decide) ?_
    refine lv_aload_n hx hb d_E_tell_59 rfl (lv_at hl 0 rfl) ?_
    refine r_get (k := 1) (i := i) F hS f_E_28.get h1 rfl d_E_tell_60 ?_
    exact m_reti F hr hS (Nat.le_of_ble_eq_true rfl) (Nat.le_of_ble_eq_true rfl) ⟨rfl, rfl⟩ d_E_tell_63
  · refine lv_tableIn (tgt := 64) (off := 63) hx hb d_E_tell_1 (by decide) (by decide) (by decide) (by decide) ?_
    refine lv_aload_n hx hb d_E_tell_64 rfl (lv_at hl 0 rfl) ?_
    refine r_get (k := 1) (i := i) F hS f_E_31.get h1 rfl d_E_tell_65 ?_
    refine lv_if_eq (tgt := 75) hx hb d_E_tell_68 (by decide) (fun c_68 => ?_) (fun c_68 => ?_)
    · refine lv_iconst (v := 0) hx hb d_E_tell_75 (by decide) ?_
      exact m_reti F hr hS (Nat.le_of_ble_eq_true rfl) (Nat.le_of_ble_eq_true rfl) ⟨by show _ = some (Value.int (if md = 0 then 0 else 1)); rw [if_pos c_68], rfl⟩ d_E_tell_76
    · refine lv_iconst (v := 1) hx hb d_E_tell_71 (by decide) ?_
      refine lv_goto (tgt := 76) hx hb d_E_tell_72 (by decide) ?_
      exact m_reti F hr hS (Nat.le_of_ble_eq_true rfl) (Nat.le_of_ble_eq_true rfl) ⟨by show _ = some (Value.int (if md = 0 then 0 else 1)); rw [if_neg c_68], rfl⟩ d_E_tell_76
  · refine lv_tableIn (tgt := 77) (off := 76) hx hb d_E_tell_1 (by decide) (by decide) (by decide) (by decide) ?_
    refine lv_aload_n hx hb d_E_tell_77 rfl (lv_at hl 0 rfl) ?_
    refine r_get (k := 1) (i := i) F hS f_E_35.get h1 rfl d_E_tell_78 ?_
    exact m_reti F hr hS (Nat.le_of_ble_eq_true rfl) (Nat.le_of_ble_eq_true rfl) ⟨rfl, rfl⟩ d_E_tell_81
  · refine lv_tableIn (tgt := 82) (off := 81) hx hb d_E_tell_1 (by decide) (by decide) (by decide) (by decide) ?_
    refine lv_aload_n hx hb d_E_tell_82 rfl (lv_at hl 0 rfl) ?_
    refine r_get (k := 1) (i := i) F hS f_E_38.get h1 rfl d_E_tell_83 ?_
    exact m_reti F hr hS (Nat.le_of_ble_eq_true rfl) (Nat.le_of_ble_eq_true rfl) ⟨rfl, rfl⟩ d_E_tell_86
  · refine lv_tableOut (tgt := 87) hx hb d_E_tell_1 (by decide) (by decide) ?_
    refine lv_aload_n hx hb d_E_tell_87 rfl (lv_at hl 0 rfl) ?_
    refine r_get (k := 1) (i := i) F hS f_E_49.get h1 rfl d_E_tell_88 ?_
    exact m_reti F hr hS (Nat.le_of_ble_eq_true rfl) (Nat.le_of_ble_eq_true rfl) ⟨rfl, rfl⟩ d_E_tell_91
set_option maxHeartbeats 4000000 in
set_option maxRecDepth 100000 in
theorem lp_E_hasCodeOf (G : Gl) (l : Launch) (V : Vw) (i ea oA cA : Nat) (ow ki dy md ak sk fk : Int32) (ln : Nat) (po cs : Nat → Int32) (i2 ea2 oA2 cA2 : Nat) (ow2 ki2 dy2 md2 ak2 sk2 fk2 : Int32) (po2 cs2 : Nat → Int32) (hln : ln ≤ 16) (h1 : V 1 i = some (ea, oE ow ki dy oA cA (nI ln) md ak sk fk)) (h2 : V 2 i = some (oA, aI G 16 po)) (h3 : V 3 i = some (cA, aI G 16 cs)) (g1 : V 1 i2 = some (ea2, oE ow2 ki2 dy2 oA2 cA2 (nI ln) md2 ak2 sk2 fk2)) (g2 : V 2 i2 = some (oA2, aI G 16 po2)) (g3 : V 3 i2 = some (cA2, aI G 16 cs2)) {Rt : Option Value → Vw → Prop} {p : Program} {e : Env} {s : State} {m : MethodId} {args : Array Value} {below : List Frame} {meth : Method} {c : Code} (F : Bd G p l s m args meth c b_E_hasCodeOf 3 "RuleClasses$Edition") (hr : meth.sig.returnType = some .boolean) (hq : Rt (some (.int (@ite Int32 (∀ a, a < ln → po a = po2 a ∧ cs a = cs2 a) (Classical.propDecidable _) 1 0))) V) :
    ∀ (n k : Nat), k + n = ln → (∀ a, a < k → po a = po2 a ∧ cs a = cs2 a) → ∀ (H : Heap) (locs : List Loc) (ls : Array Slot), HS G s V H locs → lv_has ls 3 [(0, .ref ea), (1, .ref ea2), (2, .int (nI k))] →
      W p l e ({ frames := 0, cells := 0, slots := 0, locals := 0 } : Room) s m args below meth c H locs 0 0 (MQ below (QcC G Rt) args s ({ frames := 0, cells := 0, slots := 0, locals := 0 } : Room).cells ({ frames := 0, cells := 0, slots := 0, locals := 0 } : Room).slots (aB G)) (F0 m 15 ls []) := by
  obtain ⟨hx, hb, hml, hown, hts, hK, hlk, -⟩ := id F
  intro n
  induction n with
  | zero =>
    intro k hkn hd H locs ls hS hl
    refine lv_iload_n hx hb d_E_hasCodeOf_15 rfl (lv_at hl 2 rfl) ?_
    refine lv_aload_n hx hb d_E_hasCodeOf_16 rfl (lv_at hl 0 rfl) ?_
    refine r_get (k := 1) (i := i) F hS f_E_28.get h1 rfl d_E_hasCodeOf_17 ?_
    refine lv_icmp_ge (tgt := 61) hx hb d_E_hasCodeOf_20 (by decide) (fun c_20 => ?_) (fun c_20 => absurd (nI_le (by omega) (by omega)) c_20)
    refine lv_iconst (v := 1) hx hb d_E_hasCodeOf_61 (by decide) ?_
    exact m_retz F hr hS (Nat.le_of_ble_eq_true rfl) (Nat.le_of_ble_eq_true rfl) rfl (by rw [if_pos (fun a ha => hd a (by omega))] at hq; exact hq) d_E_hasCodeOf_62
  | succ n ih =>
    intro k hkn hd H locs ls hS hl
    refine lv_iload_n hx hb d_E_hasCodeOf_15 rfl (lv_at hl 2 rfl) ?_
    refine lv_aload_n hx hb d_E_hasCodeOf_16 rfl (lv_at hl 0 rfl) ?_
    refine r_get (k := 1) (i := i) F hS f_E_28.get h1 rfl d_E_hasCodeOf_17 ?_
    refine lv_icmp_ge (tgt := 61) hx hb d_E_hasCodeOf_20 (by decide) (fun c_20 => absurd c_20 (nI_ge (by omega) (by omega))) (fun c_20 => ?_)
    refine lv_aload_n hx hb d_E_hasCodeOf_23 rfl (lv_at hl 0 rfl) ?_
    refine r_get (k := 1) (i := i) F hS f_E_9.get h1 rfl d_E_hasCodeOf_24 ?_
    refine lv_iload_n hx hb d_E_hasCodeOf_27 rfl (lv_at hl 2 rfl) ?_
    refine r_iald (k := 2) (i := i) F hS h2 (vp_in_nI (by omega) (by decide)) d_E_hasCodeOf_28 ?_
    rw [nI_clamp (by omega)]
    refine lv_aload_n hx hb d_E_hasCodeOf_29 rfl (lv_at hl 1 rfl) ?_
    refine r_get (k := 1) (i := i2) F hS f_E_9.get g1 rfl d_E_hasCodeOf_30 ?_
    refine lv_iload_n hx hb d_E_hasCodeOf_33 rfl (lv_at hl 2 rfl) ?_
    refine r_iald (k := 2) (i := i2) F hS g2 (vp_in_nI (by omega) (by decide)) d_E_hasCodeOf_34 ?_
    rw [nI_clamp (by omega)]
    refine lv_icmp_ne (tgt := 53) hx hb d_E_hasCodeOf_35 (by decide) (fun c_35 => ?_) (fun c_35 => ?_)
    · refine lv_iconst (v := 0) hx hb d_E_hasCodeOf_53 (by decide) ?_
      refine m_retz F hr hS (Nat.le_of_ble_eq_true rfl) (Nat.le_of_ble_eq_true rfl) rfl ?_ d_E_hasCodeOf_54
      rw [if_neg (fun z => c_35 (z k (by omega)).1)] at hq
      exact hq
    · refine lv_aload_n hx hb d_E_hasCodeOf_38 rfl (lv_at hl 0 rfl) ?_
      refine r_get (k := 1) (i := i) F hS f_E_15.get h1 rfl d_E_hasCodeOf_39 ?_
      refine lv_iload_n hx hb d_E_hasCodeOf_42 rfl (lv_at hl 2 rfl) ?_
      refine r_iald (k := 3) (i := i) F hS h3 (vp_in_nI (by omega) (by decide)) d_E_hasCodeOf_43 ?_
      rw [nI_clamp (by omega)]
      refine lv_aload_n hx hb d_E_hasCodeOf_44 rfl (lv_at hl 1 rfl) ?_
      refine r_get (k := 1) (i := i2) F hS f_E_15.get g1 rfl d_E_hasCodeOf_45 ?_
      refine lv_iload_n hx hb d_E_hasCodeOf_48 rfl (lv_at hl 2 rfl) ?_
      refine r_iald (k := 3) (i := i2) F hS g3 (vp_in_nI (by omega) (by decide)) d_E_hasCodeOf_49 ?_
      rw [nI_clamp (by omega)]
      refine lv_icmp_eq (tgt := 55) hx hb d_E_hasCodeOf_50 (by decide) (fun c_50 => ?_) (fun c_50 => ?_)
      · refine lv_iinc (v := (nI (k + 1))) (lv' := [(2, .int (nI (k + 1))), (0, .ref ea), (1, .ref ea2)]) hx hb d_E_hasCodeOf_55 hl (k := 2) rfl (nI_1 k) (by decide) rfl (fun ls hl => ?_)
        refine lv_goto (tgt := 15) hx hb d_E_hasCodeOf_58 (by decide) ?_
        exact ih (k + 1) (by omega) (lt_s hd ⟨c_35, c_50⟩) _ _ _ hS (lv_sub hl [1, 2, 0] rfl)
      · refine lv_iconst (v := 0) hx hb d_E_hasCodeOf_53 (by decide) ?_
        refine m_retz F hr hS (Nat.le_of_ble_eq_true rfl) (Nat.le_of_ble_eq_true rfl) rfl ?_ d_E_hasCodeOf_54
        rw [if_neg (fun z => c_50 (z k (by omega)).2)] at hq
        exact hq
set_option maxHeartbeats 4000000 in
set_option maxRecDepth 100000 in
theorem k_E_hasCodeOf (G : Gl) (l : Launch) (htr : l.stackTraces = false) (V : Vw) (i ea oA cA : Nat) (ow ki dy md ak sk fk : Int32) (ln : Nat) (po cs : Nat → Int32) (i2 ea2 oA2 cA2 : Nat) (ow2 ki2 dy2 md2 ak2 sk2 fk2 : Int32) (po2 cs2 : Nat → Int32) (ln2 : Nat) (hln : ln ≤ 16) (hln2 : ln2 ≤ 16) (h1 : V 1 i = some (ea, oE ow ki dy oA cA (nI ln) md ak sk fk)) (h2 : V 2 i = some (oA, aI G 16 po)) (h3 : V 3 i = some (cA, aI G 16 cs)) (g1 : V 1 i2 = some (ea2, oE ow2 ki2 dy2 oA2 cA2 (nI ln2) md2 ak2 sk2 fk2)) (g2 : V 2 i2 = some (oA2, aI G 16 po2)) (g3 : V 3 i2 = some (cA2, aI G 16 cs2)) :
    Cm G l y_E_hasCodeOf b_E_hasCodeOf 3 (Option.some Jvm.ClassFile.FieldType.boolean) { frames := 0, cells := 0, slots := 0, locals := 0 } V [.ref ea, .ref ea2] (fun rv V' => rv = some (.int (@ite Int32 (ln = ln2 ∧ (∀ a, a < ln → po a = po2 a ∧ cs a = cs2 a)) (Classical.propDecidable _) 1 0)) ∧ V' = V) := by
  refine Cm.of htr (by decide) (Nat.le_of_ble_eq_true rfl) ?_
  intro p e s m args below meth c ls F hr hnm hS hl
  obtain ⟨hx, hb, hml, hown, hts, hK, hlk, -⟩ := id F
  have hl : lv_has ls 3 [(0, .ref ea), (1, .ref ea2)] := hl
  refine lv_aload_n hx hb d_E_hasCodeOf_0 rfl (lv_at hl 0 rfl) ?_
  refine r_get (k := 1) (i := i) F hS f_E_28.get h1 rfl d_E_hasCodeOf_1 ?_
  refine lv_aload_n hx hb d_E_hasCodeOf_4 rfl (lv_at hl 1 rfl) ?_
  refine r_get (k := 1) (i := i2) F hS f_E_28.get g1 rfl d_E_hasCodeOf_5 ?_
  refine lv_icmp_eq (tgt := 13) hx hb d_E_hasCodeOf_8 (by decide) (fun c_8 => ?_) (fun c_8 => ?_)
  · have hll : ln = ln2 := (nI_eq (by omega) (by omega)).mp c_8
    subst hll
    refine lv_iconst (v := 0) hx hb d_E_hasCodeOf_13 (by decide) ?_
    refine lv_istore_n (lv' := [(2, .int 0), (0, .ref ea), (1, .ref ea2)]) hx hb d_E_hasCodeOf_14 rfl hl (by decide) rfl (fun ls hl => ?_)
    refine lp_E_hasCodeOf G l V i ea oA cA ow ki dy md ak sk fk ln po cs i2 ea2 oA2 cA2 ow2 ki2 dy2 md2 ak2 sk2 fk2 po2 cs2 hln h1 h2 h3 g1 g2 g3 F hr ?_ ln 0 (by omega) (fun a ha => absurd ha (by omega)) _ _ _ hS (lv_sub hl [1, 2, 0] rfl)
    refine ⟨?_, rfl⟩
    by_cases hz : (∀ a, a < ln → po a = po2 a ∧ cs a = cs2 a)
    · rw [if_pos hz, if_pos ⟨rfl, hz⟩]
    · rw [if_neg hz, if_neg (fun z => hz z.2)]
  · have hll : ¬ ln = ln2 := fun z => c_8 (by rw [z])
    refine lv_iconst (v := 0) hx hb d_E_hasCodeOf_11 (by decide) ?_
    exact m_retz F hr hS (Nat.le_of_ble_eq_true rfl) (Nat.le_of_ble_eq_true rfl) rfl ⟨by rw [if_neg (fun z => hll z.1)], rfl⟩ d_E_hasCodeOf_12
set_option maxHeartbeats 4000000 in
set_option maxRecDepth 100000 in
theorem k_F_init (G : Gl) (l : Launch) (htr : l.stackTraces = false) (V : Vw) (j fA : Nat) (h6 : V 6 j = some (fA, .inr (3, [.null]))) :
    Cm G l y_F_init b_F_init 1 none { frames := 1, cells := 1, slots := 8, locals := 12 } V [.ref fA] (fun rv V' => rv = none ∧ ∃ vA : Nat, V' = uV (uV V 7 j (vA, aI G 8 (fun _ => 0))) 6 j (fA, oF vA)) := by
  refine Cm.of htr (by decide) (Nat.le_of_ble_eq_true rfl) ?_
  intro p e s m args below meth c ls F hr hnm hS hl
  obtain ⟨hx, hb, hml, hown, hts, hK, hlk, -⟩ := id F
  have hl : lv_has ls 1 [(0, .ref fA)] := hl
  refine lv_aload_n hx hb d_F_init_0 rfl (lv_at hl 0 rfl) ?_
  refine W.objInit hx hb hown (hts _ m_62) (hts _ m_29) (hts _ m_30) rfl (by rw [hml]; exact hl.1) rfl d_F_init_1 (Nat.le_of_ble_eq_true rfl) (Nat.le_of_ble_eq_true rfl) ?_
  refine W.eq (g2 := F0 m 4 ls []) rfl ?_
  refine lv_aload_n hx hb d_F_init_4 rfl (lv_at hl 0 rfl) ?_
  refine lv_bipush (v := 8) hx hb d_F_init_5 (by decide) ?_
  refine r_newi F hS 7 j m_69 (N := 8) (by decide) (by decide) (by decide) (Nat.le_of_ble_eq_true rfl) (Nat.le_of_ble_eq_true rfl) d_F_init_7 (fun vA H hS => ?_)
  have hS : HS G s (uV V 7 j (vA, aI G 8 (fun _ => 0))) H _ := hS
  refine r_putF (k := 6) (i := j) F hS f_F_9 ct_F hnm h6 rfl rfl (Nat.le_of_ble_eq_true rfl) d_F_init_9 (fun H locs hS => ?_)
  have hS : HS G s (uV (uV V 7 j (vA, aI G 8 (fun _ => 0))) 6 j (fA, .inr (3, [.ref vA]))) H _ := hS
  exact m_retv F hr hS (Nat.le_of_ble_eq_true rfl) (Nat.le_of_ble_eq_true rfl) ⟨rfl, vA, rfl⟩ d_F_init_12
set_option maxHeartbeats 4000000 in
set_option maxRecDepth 100000 in
theorem k_U_init (G : Gl) (l : Launch) (htr : l.stackTraces = false) (V : Vw) (b r : Nat) (mo : Int32) (h4 : V 4 b = some (r, .inr (4, [.int 0, .null, .int 0, .int 0, .int 0, .int 0, .int 0]))) :
    Cm G l y_U_init b_U_init 2 none { frames := 1, cells := 1, slots := 8, locals := 12 } V [.ref r, .int mo] (fun rv V' => rv = none ∧ ∃ sA : Nat, V' = uR G V b r sA mo 0 0 0 0 0 (fun _ => 0)) := by
  refine Cm.of htr (by decide) (Nat.le_of_ble_eq_true rfl) ?_
  intro p e s m args below meth c ls F hr hnm hS hl
  obtain ⟨hx, hb, hml, hown, hts, hK, hlk, -⟩ := id F
  have hl : lv_has ls 2 [(0, .ref r), (1, .int mo)] := hl
  refine lv_aload_n hx hb d_U_init_0 rfl (lv_at hl 0 rfl) ?_
  refine W.objInit hx hb hown (hts _ m_81) (hts _ m_29) (hts _ m_30) rfl (by rw [hml]; exact hl.1) rfl d_U_init_1 (Nat.le_of_ble_eq_true rfl) (Nat.le_of_ble_eq_true rfl) ?_
  refine W.eq (g2 := F0 m 4 ls []) rfl ?_
  refine lv_aload_n hx hb d_U_init_4 rfl (lv_at hl 0 rfl) ?_
  refine lv_bipush (v := 8) hx hb d_U_init_5 (by decide) ?_
  refine r_newi F hS 5 b m_69 (N := 8) (by decide) (by decide) (by decide) (Nat.le_of_ble_eq_true rfl) (Nat.le_of_ble_eq_true rfl) d_U_init_7 (fun sA H hS => ?_)
  have hS : HS G s (uV V 5 b (sA, aI G 8 (fun _ => 0))) H _ := hS
  refine r_putF (k := 4) (i := b) F hS f_U_9 ct_U hnm h4 rfl rfl (Nat.le_of_ble_eq_true rfl) d_U_init_9 (fun H locs hS => ?_)
  have hS : HS G s (uV (uV V 5 b (sA, aI G 8 (fun _ => 0))) 4 b (r, .inr (4, [.int 0, .ref sA, .int 0, .int 0, .int 0, .int 0, .int 0]))) H _ := hS
  refine lv_aload_n hx hb d_U_init_12 rfl (lv_at hl 0 rfl) ?_
  refine lv_iload_n hx hb d_U_init_13 rfl (lv_at hl 1 rfl) ?_
  refine r_putF (k := 4) (i := b) F hS f_U_15 ct_U hnm (uV_self _ _ _ _) rfl rfl (Nat.le_of_ble_eq_true rfl) d_U_init_14 (fun H locs hS => ?_)
  have hS : HS G s (uV (uV (uV V 5 b (sA, aI G 8 (fun _ => 0))) 4 b (r, .inr (4, [.int 0, .ref sA, .int 0, .int 0, .int 0, .int 0, .int 0]))) 4 b (r, .inr (4, [.int mo, .ref sA, .int 0, .int 0, .int 0, .int 0, .int 0]))) H _ := hS
  exact m_retv F hr hS (Nat.le_of_ble_eq_true rfl) (Nat.le_of_ble_eq_true rfl) ⟨rfl, sA, by rw [uV_uV]; rfl⟩ d_U_init_17
end
section
/-! Rows for the lists: static, Object[], copies, class objects. -/
section JR
variable {G : Gl} {p : Program} {l : Launch} {e : Env} {R : Room} {s : State} {m : MethodId} {args : Array Value} {below : List Frame} {meth : Method} {c : Code} {H : Heap} {locs : List Loc} {cells slots : Nat} {Q : State → Prop}
variable {cc : ByteArray} {nL pc : Nat} {own : String} {ls : Array Slot} {rest : List Value} {V : Vw} {k i a : Nat}
theorem r_gete (F : Bd G p l s m args meth c cc nL "java/util/ArrayList") (hS : HS G s V H locs) (hdg : decode cc pc = .ok (.getstatic 39, 3))
    (kk : W p l e R s m args below meth c H locs cells slots Q (F0 m (pc + 3) ls (.ref (G.2.1 9) :: rest))) : W p l e R s m args below meth c H locs cells slots Q (F0 m pc ls rest) := by
  obtain ⟨hx, hb, hml, hown, hts, hK, -, -⟩ := F
  exact va_gets hx hb hK.2.2.1.1 hS.2.1 hown (hts _ m_43) (fun _ h => h) hdg kk
theorem r_elen (F : Bd G p l s m args meth c cc nL own) (hS : HS G s V H locs) (hdg : decode cc pc = .ok (.arraylength, 1))
    (kk : W p l e R s m args below meth c H locs cells slots Q (F0 m (pc + 1) ls (.int 0 :: rest))) : W p l e R s m args below meth c H locs cells slots Q (F0 m pc ls (.ref (G.2.1 9) :: rest)) := by
  obtain ⟨hx, hb, hml, hown, hts, hK, -, -⟩ := F
  exact va_tlen hx hb hK.2.2.1.2 hS.2.1 (v := 0) rfl hdg kk
/-- new Object[n] -/
theorem r_newq (F : Bd G p l s m args meth c cc nL own) (hS : HS G s V H locs) (k i : Nat) {index : Nat} (hcl : Cond.classLink own index "java/lang/Object" ∈ TBL) {n : Int32} {N : Nat} (hn : ¬ n < 0) (hN : n.toNatClampNeg = N) (hbytes : N * 4 ≤ 536870912) (hcells : cells + 1 ≤ R.cells) (hslots : slots + N ≤ R.slots) (hdg : decode cc pc = .ok (.anewarray index, 3))
    (kk : ∀ (q : Nat) (H1 : Heap), HS G s (uV V k i (q, .inl (G.2.1 1, N, .inr (.inr (.inr (.inr (fun _ => none))))))) H1 locs → W p l e R s m args below meth c H1 locs (cells + 1) (slots + N) Q (F0 m (pc + 3) ls (.ref q :: rest))) : W p l e R s m args below meth c H locs cells slots Q (F0 m pc ls (.int n :: rest)) := by
  obtain ⟨hx, hb, hml, hown, hts, hK, -, -⟩ := F
  subst hN
  refine W.anew hx hb hown (hts _ hcl) (va_AO.use hK.2.2.2.2.2.2.1) rfl hdg rfl hn hbytes hcells hslots fun cA kA comp f1 f2 f3 f4 => ?_
  obtain ⟨kA', comp', r1, r2, r3, r4⟩ := (hK.1.2 1 (G.2.1 1, .object "java/lang/Object") rfl).2
  have hcA : cA = G.2.1 1 := Option.some.inj (f1.symm.trans r4)
  subst hcA
  generalize hH1 : H.push ({ cls := G.2.1 1, slots := Array.replicate n.toNatClampNeg .null, vm := .none } : Cell) = H1
  have z1 : H1.size = H.size + 1 := by rw [← hH1, Array.size_push]
  have e1 : H1[H.size]? = some (arrV (G.2.1 1) n.toNatClampNeg (fun _ => .null)) := by rw [← hH1, Array.getElem?_push_size, ← arrV_new]
  have o1 : ∀ q : Nat, q < H.size → H1[q]? = H[q]? := fun q hq => by rw [← hH1, Array.getElem?_push, if_neg (Nat.ne_of_lt hq)]
  exact kk H.size H1 ⟨hS.1.push (Nat.le_trans hS.2.2 hS.2.1.1) e1 o1, ⟨Nat.le_trans hS.2.1.1 (by omega), fun x h1 h2 => (o1 x (Nat.lt_of_lt_of_le h1 hS.2.1.1)).trans (hS.2.1.2.1 x h1 h2), hS.2.1.2.2⟩, hS.2.2⟩
/-- what may lie in an Object[]: a class that can be cast -/
def EC (ci : Nat) : Prop := ∃ q : vw_C, vwCl[ci]? = some q ∧ (q.1, "java/lang/Object") ∈ CSP
theorem r_aast (F : Bd G p l s m args meth c cc nL own) (hS : HS G s V H locs) {n v kv iv ci : Nat} {vs : List Value} {f : Nat → Option Nat} (he : V k i = some (a, .inl (G.2.1 1, n, .inr (.inr (.inr (.inr f)))))) (hv : V kv iv = some (v, .inr (ci, vs))) (ec : EC ci) {x : Int32} (hin : vp_in x n) (hdg : decode cc pc = .ok (.aastore, 1))
    (kk : ∀ (H1 : Heap) (locs1 : List Loc), HS G s (uV V k i (a, .inl (G.2.1 1, n, .inr (.inr (.inr (.inr (va_up f x.toNatClampNeg (some v)))))))) H1 locs1 → W p l e R s m args below meth c H1 locs1 cells slots Q (F0 m (pc + 1) ls rest)) : W p l e R s m args below meth c H locs cells slots Q (F0 m pc ls (.ref v :: .int x :: .ref a :: rest)) := by
  obtain ⟨hx, hb, hml, hown, hts, hK, -, -⟩ := F
  obtain ⟨r, hr, hcs⟩ := ec
  have hlt : x.toNatClampNeg < n := Nat.not_le.mp fun q => hin (Or.inr q)
  have h0 : ¬ x < 0 := fun q => hin (Or.inl q)
  obtain ⟨r', hr', cellV, g1, g2, g3, -⟩ := (hS.1.1 _ _ _ hv).1
  have hcls := (hK.1.1 ci r hr).2
  obtain ⟨kA, comp, k1, k2, k3, -⟩ := (hK.1.2 1 (G.2.1 1, .object "java/lang/Object") rfl).2
  obtain ⟨kE, hkE, -⟩ := Vm.findClass_spec k3
  obtain ⟨c0, t1, f1, f2, f3⟩ := Cond.castable_spec (va_Nw.use (A := args) rfl (hK.2.2.2.1 _ hcs))
  cases hcls.1.symm.trans f1
  cases k3.symm.trans f2
  obtain ⟨kC, hkC, -⟩ := hcls.2
  have hcell : H[a]? = some (vp_cell (G.2.1 1) (n, .inr (.inr (.inr (.inr f))))) := (hS.1.1 _ _ _ he).1
  refine W.aast hx hb hcell (fun q h => by cases h) (fun h => by cases h) k1 k2 rfl hkE ⟨h0, by show _ < (arrV _ _ _).slots.size; rw [arrV_size]; exact hlt⟩ g1 (fun q h => by rw [g3] at h; cases h) (by rw [g2]; exact hkC) (by rw [g2]; exact f3) rfl rfl hdg fun H1 e1 z oq => ?_
  refine kk H1 _ ⟨hS.1.set he ?_ oq, hS.2.1.put z oq (hS.1.1 _ _ _ he).2, hS.2.2⟩
  show H1[a]? = some (vp_cell _ _)
  rw [e1, vp_cell_q, vp_cell_q, arrV_store]
  congr 2
  funext q
  by_cases hq : q = x.toNatClampNeg
  · subst hq
    simp [updV, va_up, va_rf]
  · simp [updV, va_up, hq]
theorem nn32 (z : Int32) (hz : ¬ z < 0) : z.toInt = (z.toNatClampNeg : Int) := by
  have hz0 : (0 : Int) ≤ z.toInt := by
    have := Int32.not_lt.mp hz
    simpa using Int32.le_iff_toInt_le.mp this
  show z.toInt = ((z.toInt.toNat : Nat) : Int)
  omega
/-- the view behind a copy into the cell a -/
theorem HS.copied {T : State} {vm' : Vm} {e0 e1 : va_E} {cell : Cell} {L : List Loc} (hS : HS G s V T.heap locs) (he : V k i = some (a, e0)) (hc : va_at G.1 vwCl (a, e1) ((T.setVm vm').setCell a cell).heap) (hL : ∀ z ∈ L, z.base = a) : HS G s (uV V k i (a, e1)) ((T.setVm vm').setCell a cell).heap (locs ++ L) := by
  have hz : ((T.setVm vm').setCell a cell).heap = T.heap.setIfInBounds a cell := rfl
  have oq : ∀ q : Nat, q ≠ a → ((T.setVm vm').setCell a cell).heap[q]? = T.heap[q]? := fun q hq => by
    rw [hz]
    simp [Array.getElem?_setIfInBounds, Ne.symm hq]
  have hA : aB G a := (hS.1.1 _ _ _ he).2
  refine ⟨hS.1.set he hc oq, ⟨by rw [hz]; simpa using hS.2.1.1, fun q g1 g2 => ?_, fun z hz' => ?_⟩, hS.2.2⟩
  · rw [oq q (fun e => g2 (by rw [e]; exact hA))]
    exact hS.2.1.2.1 q g1 g2
  · rcases List.mem_append.mp hz' with h | h
    · exact hS.2.1.2.2 z h
    · rw [hL z h]
      exact hA
/-- System.arraycopy of ints, whole: n from the start -/
theorem r_icopy (F : Bd G p l s m args meth c cc nL own) (hS : HS G s V H locs) {k0 i0 a0 n0 n1 index : Nat} {f g : Nat → Int32} (h0 : V k0 i0 = some (a0, .inl (G.2.1 0, n0, .inl f))) (h1 : V k i = some (a, .inl (G.2.1 0, n1, .inl g))) (hlink : Cond.methodLink own index arraycopyName ∈ TBL) (hnat : Cond.native arraycopyName ∈ TBL) (hstat : Cond.static arraycopyName ∈ TBL) (hini : Cond.initialized "java/lang/System" ∈ TBL)
    {n : Int32} (hn : ¬ n < 0) (hn0 : n.toNatClampNeg ≤ n0) (hn1 : n.toNatClampNeg ≤ n1) (hsz : ls.size = nL) (hframes : 1 ≤ R.frames) (hlocals : (rest.map fun v => v.category).sum + (nativeFrameWords "java/lang/System" "arraycopy" 5 + 11) ≤ R.locals) (hdg : decode cc pc = .ok (.invokestatic index, 3))
    (kk : ∀ (H1 : Heap) (locs1 : List Loc), HS G s (uV V k i (a, .inl (G.2.1 0, n1, .inl (va_cpy f g 0 0 n.toNatClampNeg)))) H1 locs1 → W p l e R s m args below meth c H1 locs1 cells slots Q (F0 m (pc + 3) ls rest)) : W p l e R s m args below meth c H locs cells slots Q (F0 m pc ls (.int n :: .int 0 :: .ref a :: .int 0 :: .ref a0 :: rest)) := by
  obtain ⟨hx, hb, hml, hown, hts, hK, -, -⟩ := F
  intro T hT X
  subst hT
  have hc0 : T.heap[a0]? = some (vp_cell (G.2.1 0) (n0, .inl f)) := (hS.1.1 _ _ _ h0).1
  have hc1 : T.heap[a]? = some (vp_cell (G.2.1 0) (n1, .inl g)) := (hS.1.1 _ _ _ h1).1
  obtain ⟨-, k0', hk0, cm0, hkk0⟩ := (hK.1.2 0 (G.2.1 0, .int) rfl).1 n0 (fun j => .int (f j))
  have c0 : (0 : Int32).toNatClampNeg = 0 := by decide
  obtain ⟨vm', X', step⟩ := X.arraycopy hx hown (hts _ hlink) (hts _ hnat) (hts _ hstat) (hts _ hini) (src := a0) (dst := a) (cs := vp_cell (G.2.1 0) (n0, .inl f)) (cd := vp_cell (G.2.1 0) (n1, .inl g)) (srcPos := 0) (destPos := 0) (n := n) hc0 hc1
    (fun _ h => by cases h) (fun _ h => by cases h) (fun h => by cases h) (fun h => by cases h) hk0 hk0 hkk0 hkk0 (by simp [refKind]) (by decide) (by decide) hn
    (by rw [nn32 n hn]; show ¬ _ > ((arrV (G.2.1 0) n0 (fun j => .int (f j))).slots.size : Int); rw [arrV_size]; simp; omega)
    (by rw [nn32 n hn]; show ¬ _ > ((arrV (G.2.1 0) n1 (fun j => .int (g j))).slots.size : Int); rw [arrV_size]; simp; omega)
    (fun vm₁ _ i hi => by
      have e : (vp_cell (G.2.1 0) (n0, .inl f)).slots.getD ((0 : Int32).toNatClampNeg + i) .null = .int (f ((0 : Int32).toNatClampNeg + i)) := by
        show (arrV (G.2.1 0) n0 (fun j => .int (f j))).slots.getD _ _ = _
        rw [Array.getD_eq_getD_getElem?, arrV_read _ _ (by rw [c0]; omega)]
        rfl
      rw [e]
      exact ⟨rfl, trivial⟩)
    (g := F0 m pc ls (.int n :: .int 0 :: .ref a :: .int 0 :: .ref a0 :: rest)) rfl (by rw [hml]; exact hsz) (rest := rest) rfl (by rw [hb]; exact hdg) hframes (by show 2 * 0 + _ + _ ≤ _; omega)
  have e1 : copied (vp_cell (G.2.1 0) (n0, .inl f)) (vp_cell (G.2.1 0) (n1, .inl g)) 0 0 n = vp_cell (G.2.1 0) (n1, .inl (va_cpy f g 0 0 n.toNatClampNeg)) := va_copied (fun z => .int z) (G.2.1 0) (G.2.1 0) f g (by omega)
  rw [e1] at X' step
  have hl : a < T.heap.size := (Array.getElem?_eq_some_iff.mp hc1).1
  obtain ⟨t, a1, b1⟩ := kk _ _ (HS.copied hS h1 (show ((T.setVm vm').setCell a _).heap[a]? = some _ from heapAt_setCell_self (s := T.setVm vm') _ hl) (fun z hz => by
    obtain ⟨w, -, hw⟩ := List.mem_map.mp hz
    rw [← hw])) _ rfl X'
  exact ⟨t, step t a1, b1⟩
/-- System.arraycopy of references, whole: n from the start -/
theorem r_qcopy (F : Bd G p l s m args meth c cc nL own) (hS : HS G s V H locs) {k0 i0 a0 n0 n1 index ci : Nat} {f g : Nat → Option Nat} (h0 : V k0 i0 = some (a0, .inl (G.2.1 1, n0, .inr (.inr (.inr (.inr f)))))) (h1 : V k i = some (a, .inl (G.2.1 1, n1, .inr (.inr (.inr (.inr g)))))) (hlink : Cond.methodLink own index arraycopyName ∈ TBL) (hnat : Cond.native arraycopyName ∈ TBL) (hstat : Cond.static arraycopyName ∈ TBL) (hini : Cond.initialized "java/lang/System" ∈ TBL) (ec : EC ci)
    {n : Int32} (hn : ¬ n < 0) (hn0 : n.toNatClampNeg ≤ n0) (hn1 : n.toNatClampNeg ≤ n1) (hel : ∀ j, j < n.toNatClampNeg → ∀ y, f j = some y → ∃ (kv iv : Nat) (vs : List Value), V kv iv = some (y, .inr (ci, vs))) (hsz : ls.size = nL) (hframes : 1 ≤ R.frames) (hlocals : (rest.map fun v => v.category).sum + (nativeFrameWords "java/lang/System" "arraycopy" 5 + 11) ≤ R.locals) (hdg : decode cc pc = .ok (.invokestatic index, 3))
    (kk : ∀ (H1 : Heap) (locs1 : List Loc), HS G s (uV V k i (a, .inl (G.2.1 1, n1, .inr (.inr (.inr (.inr (va_cpy f g 0 0 n.toNatClampNeg))))))) H1 locs1 → W p l e R s m args below meth c H1 locs1 cells slots Q (F0 m (pc + 3) ls rest)) : W p l e R s m args below meth c H locs cells slots Q (F0 m pc ls (.int n :: .int 0 :: .ref a :: .int 0 :: .ref a0 :: rest)) := by
  obtain ⟨hx, hb, hml, hown, hts, hK, -, -⟩ := F
  obtain ⟨rq, hrq, hcs⟩ := ec
  intro T hT X
  subst hT
  have hc0 : T.heap[a0]? = some (vp_cell (G.2.1 1) (n0, .inr (.inr (.inr (.inr f))))) := (hS.1.1 _ _ _ h0).1
  have hc1 : T.heap[a]? = some (vp_cell (G.2.1 1) (n1, .inr (.inr (.inr (.inr g))))) := (hS.1.1 _ _ _ h1).1
  obtain ⟨-, k0', hk0, cm0, hkk0⟩ := (hK.1.2 1 (G.2.1 1, .object "java/lang/Object") rfl).1 n0 (fun j => va_rf (f j))
  have c0 : (0 : Int32).toNatClampNeg = 0 := by decide
  obtain ⟨vm', X', step⟩ := X.arraycopy hx hown (hts _ hlink) (hts _ hnat) (hts _ hstat) (hts _ hini) (src := a0) (dst := a) (cs := vp_cell (G.2.1 1) (n0, .inr (.inr (.inr (.inr f))))) (cd := vp_cell (G.2.1 1) (n1, .inr (.inr (.inr (.inr g))))) (srcPos := 0) (destPos := 0) (n := n) hc0 hc1
    (fun _ h => by cases h) (fun _ h => by cases h) (fun h => by cases h) (fun h => by cases h) hk0 hk0 hkk0 hkk0 rfl (by decide) (by decide) hn
    (by rw [nn32 n hn]; show ¬ _ > ((arrV (G.2.1 1) n0 (fun j => va_rf (f j))).slots.size : Int); rw [arrV_size]; simp; omega)
    (by rw [nn32 n hn]; show ¬ _ > ((arrV (G.2.1 1) n1 (fun j => va_rf (g j))).slots.size : Int); rw [arrV_size]; simp; omega)
    (fun vm₁ hal i hi => by
      have e : (vp_cell (G.2.1 1) (n0, .inr (.inr (.inr (.inr f))))).slots.getD ((0 : Int32).toNatClampNeg + i) .null = va_rf (f ((0 : Int32).toNatClampNeg + i)) := by
        show (arrV (G.2.1 1) n0 (fun j => va_rf (f j))).slots.getD _ _ = _
        rw [Array.getD_eq_getD_getElem?, arrV_read _ _ (by rw [c0]; omega)]
        rfl
      rw [e]
      cases hy : f ((0 : Int32).toNatClampNeg + i) with
      | none => exact ⟨rfl, trivial⟩
      | some y =>
        rw [c0, Nat.zero_add] at hy
        obtain ⟨kv, iv, vs, hv⟩ := hel i hi y hy
        obtain ⟨r', hr', cellV, g1, g2, g3, -⟩ := (hS.1.1 _ _ _ hv).1
        have hcls := (hK.1.1 ci rq hrq).2
        obtain ⟨kA, comp, r1, r2, r3, -⟩ := (hK.1.2 1 (G.2.1 1, .object "java/lang/Object") rfl).2
        cases hk0.symm.trans r1
        cases hkk0.symm.trans r2
        obtain ⟨cc0, t1, f1, f2, f3⟩ := Cond.castable_spec (va_Nw.use (A := args) rfl (hK.2.2.2.1 _ hcs))
        cases hcls.1.symm.trans f1
        cases r3.symm.trans f2
        obtain ⟨kC, hkC, -⟩ := hcls.2
        obtain ⟨kE, hkE, -⟩ := Vm.findClass_spec r3
        obtain ⟨kC', hkC', -⟩ := hal.2.2 _ _ hkC
        obtain ⟨kE', hkE', -⟩ := hal.2.2 _ _ hkE
        have hcc : cellV.cls = G.1.1 ci := g2
        refine ⟨rfl, cellV, g1, (fun q h => by rw [g3] at h; cases h), ⟨kC', by rw [hcc]; exact hkC'⟩, ⟨kE', hkE'⟩, ?_⟩
        show vm₁.assignable _ _ = true
        rw [hal.assignable, hcc]
        exact f3)
    (g := F0 m pc ls (.int n :: .int 0 :: .ref a :: .int 0 :: .ref a0 :: rest)) rfl (by rw [hml]; exact hsz) (rest := rest) rfl (by rw [hb]; exact hdg) hframes (by show 2 * 0 + _ + _ ≤ _; omega)
  have e1 : copied (vp_cell (G.2.1 1) (n0, .inr (.inr (.inr (.inr f))))) (vp_cell (G.2.1 1) (n1, .inr (.inr (.inr (.inr g))))) 0 0 n = vp_cell (G.2.1 1) (n1, .inr (.inr (.inr (.inr (va_cpy f g 0 0 n.toNatClampNeg))))) := by
    rw [vp_cell_q, vp_cell_q, vp_cell_q]
    exact va_copied (fun z => va_rf z) (G.2.1 1) (G.2.1 1) f g (by omega)
  rw [e1] at X' step
  have hl : a < T.heap.size := (Array.getElem?_eq_some_iff.mp hc1).1
  obtain ⟨t, a1, b1⟩ := kk _ _ (HS.copied hS h1 (show ((T.setVm vm').setCell a _).heap[a]? = some _ from heapAt_setCell_self (s := T.setVm vm') _ hl) (fun z hz => by
    obtain ⟨w, -, hw⟩ := List.mem_map.mp hz
    rw [← hw])) _ rfl X'
  exact ⟨t, step t a1, b1⟩
end JR
theorem ec_E : EC 2 := ⟨_, rfl, by decide +kernel⟩
theorem ec_F : EC 3 := ⟨_, rfl, by decide +kernel⟩
end

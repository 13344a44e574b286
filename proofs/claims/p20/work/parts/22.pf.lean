/-- a run doesn't see what lies above its height -/
def agr (h : Nat) (f g : Nat → Int32) : Prop := ∀ j, j < h → f j = g j
theorem pPut_f {v : Int64} {h : Nat} {f g : Nat → Int32} (ha : agr h f g) : (pPut v h f).1 = (pPut v h g).1 ∧ (pPut v h f).2.1 = (pPut v h g).2.1 ∧ agr (pPut v h f).2.1 (pPut v h f).2.2 (pPut v h g).2.2 := by
  unfold pPut
  split
  · exact ⟨rfl, rfl, ha⟩
  · split
    · exact ⟨rfl, rfl, ha⟩
    · refine ⟨rfl, rfl, fun j hj => ?_⟩
      have hj' : j < h + 1 := hj
      show upd f h _ j = upd g h _ j
      unfold upd
      by_cases e : j = h
      · simp [e]
      · simp [e, ha j (by omega)]
theorem pJoin_f {o h : Nat} {f g : Nat → Int32} (h2 : 2 ≤ h) (ha : agr h f g) : (pJoin o h f).1 = (pJoin o h g).1 ∧ (pJoin o h f).2.1 = (pJoin o h g).2.1 ∧ agr (pJoin o h f).2.1 (pJoin o h f).2.2 (pJoin o h g).2.2 := by
  have e1 : f (h - 1) = g (h - 1) := ha _ (by omega)
  have e2 : f (h - 2) = g (h - 2) := ha _ (by omega)
  have ha2 : agr (h - 2) f g := fun j hj => ha j (by omega)
  unfold pJoin
  dsimp only
  rw [e1, e2]
  repeat' split
  all_goals first | exact pPut_f ha2 | exact ⟨rfl, rfl, ha2⟩
theorem q5 {P Q : Int32 × Nat × (Nat → Int32)} {nx an : Int32} (h : P.1 = Q.1 ∧ P.2.1 = Q.2.1 ∧ agr P.2.1 P.2.2 Q.2.2) : (P.1, P.2.1, nx, an, P.2.2).1 = (Q.1, Q.2.1, nx, an, Q.2.2).1 ∧ (P.1, P.2.1, nx, an, P.2.2).2.1 = (Q.1, Q.2.1, nx, an, Q.2.2).2.1 ∧ (P.1, P.2.1, nx, an, P.2.2).2.2.1 = (Q.1, Q.2.1, nx, an, Q.2.2).2.2.1 ∧ (P.1, P.2.1, nx, an, P.2.2).2.2.2.1 = (Q.1, Q.2.1, nx, an, Q.2.2).2.2.2.1 ∧ agr (P.1, P.2.1, nx, an, P.2.2).2.1 (P.1, P.2.1, nx, an, P.2.2).2.2.2.2 (Q.1, Q.2.1, nx, an, Q.2.2).2.2.2.2 := by
  obtain ⟨p1, p2, p3⟩ := P
  obtain ⟨q1, q2, q3⟩ := Q
  exact ⟨h.1, h.2.1, rfl, rfl, h.2.2⟩
def sm (A B : Int32 × Nat × Int32 × Int32 × (Nat → Int32)) : Prop := A.1 = B.1 ∧ A.2.1 = B.2.1 ∧ A.2.2.1 = B.2.2.1 ∧ A.2.2.2.1 = B.2.2.2.1 ∧ agr A.2.1 A.2.2.2.2 B.2.2.2.2
theorem sm_put {P Q : Int32 × Nat × (Nat → Int32)} {nx an : Int32} (h : P.1 = Q.1 ∧ P.2.1 = Q.2.1 ∧ agr P.2.1 P.2.2 Q.2.2) : sm (P.1, P.2.1, nx, an, P.2.2) (Q.1, Q.2.1, nx, an, Q.2.2) := q5 h
theorem sm_mk {c : Int32} {h : Nat} {nx an : Int32} {f g : Nat → Int32} (ha : agr h f g) : sm (c, h, nx, an, f) (c, h, nx, an, g) := ⟨rfl, rfl, rfl, rfl, ha⟩
theorem pNeed_1 {o h : Nat} (ho : o = 7 ∨ o = 8 ∨ o = 9) (hn : ¬ h < pNeed o) : 1 ≤ h := by
  have e : pNeed o = 1 := by
    unfold pNeed
    rw [if_neg (by omega), if_pos ho]
  omega
theorem pNeed_2 {o h : Nat} (h1 : ¬ (o = 0 ∨ o = 1 ∨ o = 10)) (h2 : ¬ (o = 7 ∨ o = 8 ∨ o = 9)) (hn : ¬ h < pNeed o) : 2 ≤ h := by
  have e : pNeed o = 2 := by
    unfold pNeed
    rw [if_neg h1, if_neg h2]
  omega
theorem pStep_f {o : Nat} {cn : Int32} {fa : Nat → Int32} {ak : Int32} {h : Nat} {nx an : Int32} {f g : Nat → Int32} (ha : agr h f g) : sm (pStep o cn fa ak h nx an f) (pStep o cn fa ak h nx an g) := by
  unfold pStep
  by_cases hn : h < pNeed o
  · rw [if_pos hn, if_pos hn]
    exact sm_mk ha
  rw [if_neg hn, if_neg hn]
  by_cases h0 : o = 0
  · rw [if_pos h0, if_pos h0]
    exact sm_put (pPut_f ha)
  rw [if_neg h0, if_neg h0]
  by_cases h1 : o = 1
  · rw [if_pos h1, if_pos h1]
    exact sm_put (pPut_f ha)
  rw [if_neg h1, if_neg h1]
  by_cases h7 : o = 7
  · rw [if_pos h7, if_pos h7, ha (h - 1) (by have := pNeed_1 (Or.inl h7) hn; omega)]
    exact sm_put (pPut_f ha)
  rw [if_neg h7, if_neg h7]
  by_cases h10 : o = 10
  · rw [if_pos h10, if_pos h10]
    exact sm_put (pPut_f ha)
  rw [if_neg h10, if_neg h10]
  by_cases h8 : o = 8
  · have hp := pNeed_1 (Or.inr (Or.inl h8)) hn
    rw [if_pos h8, if_pos h8, ha (h - 1) (by omega)]
    exact sm_mk (fun j hj => ha j (by omega))
  rw [if_neg h8, if_neg h8]
  by_cases h9 : o = 9
  · have hp := pNeed_1 (Or.inr (Or.inr h9)) hn
    rw [if_pos h9, if_pos h9, ha (h - 1) (by omega)]
    exact sm_mk (fun j hj => ha j (by omega))
  rw [if_neg h9, if_neg h9]
  exact sm_put (pJoin_f (pNeed_2 (by omega) (by omega) hn) ha)
def sr (A B : Int32 × Nat × Int32 × Int32 × Int32 × (Nat → Int32)) : Prop := A.1 = B.1 ∧ A.2.2.2.1 = B.2.2.2.1 ∧ A.2.2.2.2.1 = B.2.2.2.2.1
theorem pRun_f {ln : Nat} {po cs fa : Nat → Int32} {ak : Int32} (n : Nat) : ∀ {h : Nat} {nx an st : Int32} {f g : Nat → Int32}, agr h f g → sr (pRun ln po cs fa ak n h nx an st f) (pRun ln po cs fa ak n h nx an st g) := by
  induction n with
  | zero =>
    intro h nx an st f g ha
    unfold pRun
    exact ⟨rfl, rfl, rfl⟩
  | succ n ih =>
    intro h nx an st f g ha
    unfold pRun
    by_cases hx : nx < 0 ∨ nI ln ≤ nx
    · rw [if_pos hx, if_pos hx]
      exact ⟨rfl, rfl, rfl⟩
    · rw [if_neg hx, if_neg hx]
      have hs := pStep_f (o := (po nx.toNatClampNeg).toNatClampNeg) (cn := cs nx.toNatClampNeg) (fa := fa) (ak := ak) (nx := nx + 1) (an := an) ha
      revert hs
      generalize pStep (po nx.toNatClampNeg).toNatClampNeg (cs nx.toNatClampNeg) fa ak h (nx + 1) an f = A
      generalize pStep (po nx.toNatClampNeg).toNatClampNeg (cs nx.toNatClampNeg) fa ak h (nx + 1) an g = B
      intro hs
      obtain ⟨a1, a2, a3, a4, a5⟩ := A
      obtain ⟨b1, b2, b3, b4, b5⟩ := B
      obtain ⟨e1, e2, e3, e4, e5⟩ := hs
      have e1 : a1 = b1 := e1
      have e2 : a2 = b2 := e2
      have e3 : a3 = b3 := e3
      have e4 : a4 = b4 := e4
      subst e1 e2 e3 e4
      by_cases h7 : a1 = 7
      · rw [if_pos h7, if_pos h7]
        exact ih e5
      · rw [if_neg h7, if_neg h7]
        exact ⟨rfl, rfl, rfl⟩
/-- a question's end, whatever lay in the stack -/
abbrev pEnd (ln : Nat) (po cs fa : Nat → Int32) (ak : Int32) (m0 : Nat) : Int32 × Nat × Int32 × Int32 × Int32 × (Nat → Int32) := pRun ln po cs fa ak m0 0 0 0 0 (fun _ => 0)
theorem pEnd_f {ln : Nat} {po cs fa : Nat → Int32} {ak : Int32} {m0 : Nat} {f : Nat → Int32} : (pRun ln po cs fa ak m0 0 0 0 0 f).1 = (pEnd ln po cs fa ak m0).1 ∧ (pRun ln po cs fa ak m0 0 0 0 0 f).2.2.2.1 = (pEnd ln po cs fa ak m0).2.2.2.1 ∧ (pRun ln po cs fa ak m0 0 0 0 0 f).2.2.2.2.1 = (pEnd ln po cs fa ak m0).2.2.2.2.1 := pRun_f m0 (fun j hj => absurd hj (by omega))
/-- how many of the first kept questions end otherwise -/
def pDiff (E1 E2 : Nat → Int32 × Int32) : Nat → Int32
  | 0 => 0
  | j + 1 => if (E1 j).1 = (E2 j).1 ∧ (E1 j).2 = (E2 j).2 then pDiff E1 E2 j else pDiff E1 E2 j + 1
theorem uR_ins {G : Gl} {V : Vw} {r0 s0 r1 s1 : Nat} {mo mo1 : Int32} {h h1 h2 : Nat} {nx oc an st nx1 oc1 an1 st1 nx2 oc2 an2 st2 : Int32} {f f1 f2 : Nat → Int32} : uR G (uR G (uR G V 0 r0 s0 mo h nx oc an st f) 1 r1 s1 mo1 h1 nx1 oc1 an1 st1 f1) 0 r0 s0 mo h2 nx2 oc2 an2 st2 f2 = uR G (uR G V 0 r0 s0 mo h2 nx2 oc2 an2 st2 f2) 1 r1 s1 mo1 h1 nx1 oc1 an1 st1 f1 := by
  funext k i
  by_cases hi : i = 1
  · subst hi
    rw [uR_ob (by decide)]
    by_cases h4 : k = 4
    · subst h4; rw [uR_4, uR_4]
    · by_cases h5 : k = 5
      · subst h5; rw [uR_5, uR_5]
      · rw [uR_o h4 h5, uR_o h4 h5, uR_o h4 h5, uR_o h4 h5]
  · rw [uR_ob (b := 1) hi]
    by_cases hi0 : i = 0
    · subst hi0
      by_cases h4 : k = 4
      · subst h4; rw [uR_4, uR_4]
      · by_cases h5 : k = 5
        · subst h5; rw [uR_5, uR_5]
        · rw [uR_o h4 h5, uR_o h4 h5, uR_o h4 h5, uR_o h4 h5]
    · rw [uR_ob hi0, uR_ob hi, uR_ob hi0, uR_ob hi0]
def pMost (s : Int32) : Int32 := if 0 < (if 1000 < s then 1000 else s) then (if 1000 < s then 1000 else s) else 0
theorem pMost_of (s : Int32) : ∃ m0 : Nat, m0 ≤ 1000 ∧ pMost s = nI m0 := by
  unfold pMost
  by_cases h : 1000 < s
  · rw [if_pos h]
    exact ⟨1000, by omega, by decide⟩
  · rw [if_neg h]
    by_cases h0 : 0 < s
    · rw [if_pos h0]
      exact nI_of2 (M := 1000) (n := 1000) (by decide) (Int32.not_lt.mpr (Int32.le_of_lt h0)) (Int32.not_lt.mp h)
    · rw [if_neg h0]
      exact ⟨0, by omega, rfl⟩
theorem uR_uV4 {G : Gl} {V : Vw} {b r sA h : Nat} {mo nx oc an st : Int32} {f : Nat → Int32} {x : Nat × va_E} : uR G (uV V 4 b x) b r sA mo h nx oc an st f = uR G V b r sA mo h nx oc an st f := by
  unfold uR
  rw [uV_cm (k := 4) (k2 := 5) _ _ _ (by omega), uV_uV]
section FN
variable {G : Gl} {p : Program} {l : Launch} {e : Env} {R : Room} {s : State} {m : MethodId} {args : Array Value} {below : List Frame} {meth : Method} {c : Code} {H : Heap} {locs : List Loc} {cells slots : Nat} {Q : State → Prop}
variable {cc : ByteArray} {nL pc : Nat} {ls : Array Slot} {rest st0 : List Value} {V : Vw} {rm : Room} {Rt : Option Value → Vw → Prop}
/-- new Facts(), from the class itself (a private constructor of a nest mate) -/
theorem r_callFN (F : Bd G p l s m args meth c cc nL "RuleClasses") (hS : HS G s V H locs) {b : Nat} (hM : Cm G l y_F_init b_F_init 1 none rm V [.ref b] Rt)
    (hsz : ls.size = nL) (hst : st0 = .ref b :: rest) (hw : (rest.map fun v => v.category).sum ≤ 8) (hdg : decode cc pc = .ok (.invokespecial 21, 3)) (hR : rm.frames + 1 ≤ R.frames ∧ 8 + (1 + 11) + rm.locals ≤ R.locals) (hf : cells + rm.cells ≤ R.cells ∧ slots + rm.slots ≤ R.slots)
    (kk : ∀ (r : Option Value) (V' : Vw) (H1 : Heap) (locs1 : List Loc), Rt r V' → HS G s V' H1 locs1 → W p l e R s m args below meth c H1 locs1 (cells + rm.cells) (slots + rm.slots) Q (F0 m (pc + 3) ls (r.toList ++ rest))) : W p l e R s m args below meth c H locs cells slots Q (F0 m pc ls st0) := by
  obtain ⟨hx, hb, hml, hown, hts, hK, -, -⟩ := F
  obtain ⟨⟨-, k2, k3, k4, k5⟩, -, k7⟩ := c_F_15
  exact k_back (va_runIN (As := []) (rest := rest) ⟨hx, hb, hml, hown, hts⟩ hM ⟨⟨⟨rfl, rfl, hR.1, hR.2, pay_Y hts k2, List.mem_cons_self⟩, hts _ k2, hts _ k3, k4, fun sig hs => by rw [hs] at k5; exact (Option.some.inj k5).symm, va_Nw.use (A := args) rfl hK.2.2.2.2.2.1⟩, rfl, hts _ k7⟩ ⟨PreC.blind _ _ _, fun U hU hW => PreC.at hS hK hU hW⟩ rfl rfl hsz hst (lv_room hw) hdg hf) hS kk
end FN

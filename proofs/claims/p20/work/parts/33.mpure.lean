/-! A run of the reference, as numbers. -/
theorem pPut_in2 (v : Int64) (h : Nat) (f : Nat → Int32) : (pPut v h f).1 = 5 ∨ (pPut v h f).1 = 3 ∨ (pPut v h f).1 = 7 := pPut_in v h f
theorem pJoin_in2 (o h : Nat) (f : Nat → Int32) : (pJoin o h f).1 = 2 ∨ (pJoin o h f).1 = 5 ∨ (pJoin o h f).1 = 3 ∨ (pJoin o h f).1 = 7 := by
  unfold pJoin
  dsimp only
  repeat' split
  all_goals first | exact Or.inl rfl | exact Or.inr (pPut_in2 _ _ _)
def five (c : Int32) : Prop := c = 2 ∨ c = 3 ∨ c = 5 ∨ c = 6 ∨ c = 7
theorem five_put {P : Int32 × Nat × (Nat → Int32)} {nx an : Int32} (h : P.1 = 5 ∨ P.1 = 3 ∨ P.1 = 7) : five (P.1, P.2.1, nx, an, P.2.2).1 := by
  obtain ⟨p1, p2, p3⟩ := P
  have h : p1 = 5 ∨ p1 = 3 ∨ p1 = 7 := h
  show five p1
  unfold five
  rcases h with h | h | h
  · exact Or.inr (Or.inr (Or.inl h))
  · exact Or.inr (Or.inl h)
  · exact Or.inr (Or.inr (Or.inr (Or.inr h)))
theorem five_join {P : Int32 × Nat × (Nat → Int32)} {nx an : Int32} (h : P.1 = 2 ∨ P.1 = 5 ∨ P.1 = 3 ∨ P.1 = 7) : five (P.1, P.2.1, nx, an, P.2.2).1 := by
  rcases h with h | h
  · exact Or.inl h
  · exact five_put h
theorem pStep_in2 (o : Nat) (cn : Int32) (fa : Nat → Int32) (ak : Int32) (h : Nat) (nx an : Int32) (f : Nat → Int32) : five (pStep o cn fa ak h nx an f).1 := by
  unfold pStep
  by_cases hn : h < pNeed o
  · rw [if_pos hn]; exact Or.inr (Or.inl rfl)
  rw [if_neg hn]
  by_cases h0 : o = 0
  · rw [if_pos h0]; exact five_put (pPut_in2 _ _ _)
  rw [if_neg h0]
  by_cases h1 : o = 1
  · rw [if_pos h1]; exact five_put (pPut_in2 _ _ _)
  rw [if_neg h1]
  by_cases h7 : o = 7
  · rw [if_pos h7]; exact five_put (pPut_in2 _ _ _)
  rw [if_neg h7]
  by_cases h10 : o = 10
  · rw [if_pos h10]; exact five_put (pPut_in2 _ _ _)
  rw [if_neg h10]
  by_cases h8 : o = 8
  · rw [if_pos h8]; exact Or.inr (Or.inr (Or.inr (Or.inr rfl)))
  rw [if_neg h8]
  by_cases h9 : o = 9
  · rw [if_pos h9]; exact Or.inr (Or.inr (Or.inr (Or.inl rfl)))
  rw [if_neg h9]
  exact five_join (pJoin_in2 _ _ _)
theorem snd5 {P : Int32 × Nat × (Nat → Int32)} {nx an : Int32} : (P.1, P.2.1, nx, an, P.2.2).2.2.1 = nx ∧ (P.1, P.2.1, nx, an, P.2.2).2.2.2.1 = an := ⟨rfl, rfl⟩
/-- where a step goes on, and what it answers -/
theorem pStep_nx (o : Nat) (cn : Int32) (fa : Nat → Int32) (ak : Int32) (h : Nat) (nx an : Int32) (f : Nat → Int32) : ((pStep o cn fa ak h nx an f).2.2.1 = nx ∨ (o = 8 ∧ (pStep o cn fa ak h nx an f).2.2.1 = cn)) ∧ (¬ (pStep o cn fa ak h nx an f).1 = 6 → (pStep o cn fa ak h nx an f).2.2.2.1 = an) := by
  unfold pStep
  by_cases hn : h < pNeed o
  · rw [if_pos hn]; exact ⟨Or.inl rfl, fun _ => rfl⟩
  rw [if_neg hn]
  by_cases h0 : o = 0
  · rw [if_pos h0]; exact ⟨Or.inl snd5.1, fun _ => snd5.2⟩
  rw [if_neg h0]
  by_cases h1 : o = 1
  · rw [if_pos h1]; exact ⟨Or.inl snd5.1, fun _ => snd5.2⟩
  rw [if_neg h1]
  by_cases h7 : o = 7
  · rw [if_pos h7]; exact ⟨Or.inl snd5.1, fun _ => snd5.2⟩
  rw [if_neg h7]
  by_cases h10 : o = 10
  · rw [if_pos h10]; exact ⟨Or.inl snd5.1, fun _ => snd5.2⟩
  rw [if_neg h10]
  by_cases h8 : o = 8
  · rw [if_pos h8]
    refine ⟨?_, fun _ => rfl⟩
    show (if f (h - 1) = 0 then cn else nx) = nx ∨ (o = 8 ∧ (if f (h - 1) = 0 then cn else nx) = cn)
    by_cases hz : f (h - 1) = 0
    · rw [if_pos hz]; exact Or.inr ⟨h8, rfl⟩
    · rw [if_neg hz]; exact Or.inl rfl
  rw [if_neg h8]
  by_cases h9 : o = 9
  · rw [if_pos h9]; exact ⟨Or.inl rfl, fun z => absurd rfl z⟩
  rw [if_neg h9]
  exact ⟨Or.inl snd5.1, fun _ => snd5.2⟩
theorem pRun_go {ln : Nat} {po cs fa : Nat → Int32} {ak : Int32} {n h j o : Nat} {an st cn : Int32} {f : Nat → Int32} (hj : j < ln) (hln : ln ≤ 16) (ho : o ≤ 10) (hop : po j = nI o) (hcn : cs j = cn) :
    pRun ln po cs fa ak (n + 1) h (nI j) an st f = if (pStep o cn fa ak h (nI (j + 1)) an f).1 = 7 then pRun ln po cs fa ak n (pStep o cn fa ak h (nI (j + 1)) an f).2.1 (pStep o cn fa ak h (nI (j + 1)) an f).2.2.1 (pStep o cn fa ak h (nI (j + 1)) an f).2.2.2.1 (st + 1) (pStep o cn fa ak h (nI (j + 1)) an f).2.2.2.2 else ((pStep o cn fa ak h (nI (j + 1)) an f).1, (pStep o cn fa ak h (nI (j + 1)) an f).2.1, (pStep o cn fa ak h (nI (j + 1)) an f).2.2.1, (pStep o cn fa ak h (nI (j + 1)) an f).2.2.2.1, st + 1, (pStep o cn fa ak h (nI (j + 1)) an f).2.2.2.2) := by
  show (if nI j < 0 ∨ nI ln ≤ nI j then _ else _) = _
  have h1 : ¬ (nI j < 0 ∨ nI ln ≤ nI j) := fun z => z.elim (fun z => absurd z (nI_pos (by omega))) (fun z => absurd ((nI_leI (by omega) (by omega)).mp z) (by omega))
  rw [if_neg h1, nI_clamp (by omega), hop, hcn, nI_clamp (by omega), nI_1]
theorem pRun_4 {ln : Nat} {po cs fa : Nat → Int32} {ak : Int32} {n h j : Nat} {an st : Int32} {f : Nat → Int32} (hj : ln ≤ j) (hln : j ≤ 16) :
    pRun ln po cs fa ak (n + 1) h (nI j) an st f = (4, h, nI j, an, st, f) := by
  show (if nI j < 0 ∨ nI ln ≤ nI j then _ else _) = _
  rw [if_pos (Or.inr (nI_le hj (by omega)))]
/-- a run that doesn't answer keeps the answer; no run ends with 0 -/
theorem pRun_an {ln : Nat} {po cs fa : Nat → Int32} {ak : Int32} (n : Nat) : ∀ {h : Nat} {nx an st : Int32} {f : Nat → Int32}, (¬ (pRun ln po cs fa ak n h nx an st f).1 = 6 → (pRun ln po cs fa ak n h nx an st f).2.2.2.1 = an) ∧ ¬ (pRun ln po cs fa ak n h nx an st f).1 = 0 := by
  induction n with
  | zero =>
    intro h nx an st f
    exact ⟨fun _ => rfl, fun (z : (1 : Int32) = 0) => absurd z (by decide)⟩
  | succ n ih =>
    intro h nx an st f
    unfold pRun
    by_cases hx : nx < 0 ∨ nI ln ≤ nx
    · rw [if_pos hx]
      exact ⟨fun _ => rfl, fun (z : (4 : Int32) = 0) => absurd z (by decide)⟩
    · rw [if_neg hx]
      have hs := pStep_in2 (po nx.toNatClampNeg).toNatClampNeg (cs nx.toNatClampNeg) fa ak h (nx + 1) an f
      have hn := (pStep_nx (po nx.toNatClampNeg).toNatClampNeg (cs nx.toNatClampNeg) fa ak h (nx + 1) an f).2
      revert hs hn
      generalize pStep (po nx.toNatClampNeg).toNatClampNeg (cs nx.toNatClampNeg) fa ak h (nx + 1) an f = P
      intro hs hn
      obtain ⟨a1, a2, a3, a4, a5⟩ := P
      have hs : five a1 := hs
      have hn : ¬ a1 = 6 → a4 = an := hn
      by_cases h7 : a1 = 7
      · rw [if_pos h7]
        have e : a4 = an := hn (by rw [h7]; decide)
        subst e
        exact ih
      · rw [if_neg h7]
        refine ⟨hn, fun (z : a1 = 0) => ?_⟩
        rw [z] at hs
        rcases hs with z | z | z | z | z <;> exact absurd z (by decide)
theorem mE_0 {c : Int32} (h : ¬ c = 0) : mE c = 0 ↔ c = 6 := by
  unfold mE
  by_cases e : c = 6
  · rw [if_pos e]; exact ⟨fun _ => e, fun _ => rfl⟩
  · rw [if_neg e]; exact ⟨fun z => absurd z h, fun z => absurd z e⟩
theorem mE_eq {c d : Int32} (h : ¬ c = 0) (h2 : ¬ d = 0) : mE c = mE d ↔ c = d := by
  unfold mE
  by_cases e : c = 6
  · rw [if_pos e]
    by_cases e2 : d = 6
    · rw [if_pos e2]; exact ⟨fun _ => e.trans e2.symm, fun _ => rfl⟩
    · rw [if_neg e2]; exact ⟨fun z => absurd z.symm h2, fun z => absurd (z.symm.trans e) e2⟩
  · rw [if_neg e]
    by_cases e2 : d = 6
    · rw [if_pos e2]; exact ⟨fun z => absurd z h, fun z => absurd (z.trans e2) e⟩
    · rw [if_neg e2]
theorem pCnt_2 (ow ki ed md : Nat → Int32) (o k d : Int32) : ∀ j, ((pCnt ow ki ed md o k d j).1 = -1 ∧ (pCnt ow ki ed md o k d j).2 = 0) ∨ ∃ i, i < j ∧ (pCnt ow ki ed md o k d j).1 = nI i ∧ (pCnt ow ki ed md o k d j).2 = ed i
  | 0 => Or.inl ⟨rfl, rfl⟩
  | j + 1 => by
    unfold pCnt
    split
    · exact Or.inr ⟨j, by omega, rfl, rfl⟩
    · rcases pCnt_2 ow ki ed md o k d j with h | ⟨i, hi, h⟩
      · exact Or.inl h
      · exact Or.inr ⟨i, by omega, h⟩
theorem pCnt_cg {ow ki ed md ow2 ki2 ed2 md2 : Nat → Int32} {o k d : Int32} : ∀ j, (∀ i, i < j → ow i = ow2 i ∧ ki i = ki2 i ∧ ed i = ed2 i ∧ md i = md2 i) → pCnt ow ki ed md o k d j = pCnt ow2 ki2 ed2 md2 o k d j
  | 0, _ => rfl
  | j + 1, h => by
    unfold pCnt
    obtain ⟨h1, h2, h3, h4⟩ := h j (by omega)
    rw [pCnt_cg j (fun i hi => h i (by omega)), h1, h2, h3, h4]
theorem pMade_cg {md md2 : Nat → Int32} : ∀ j, (∀ i, i < j → md i = md2 i) → pMade md j = pMade md2 j
  | 0, _ => rfl
  | j + 1, h => by
    unfold pMade
    rw [pMade_cg j (fun i hi => h i (by omega)), h j (by omega)]
/-- what a run reads of a code -/
theorem pRun_cg {ln : Nat} {po cs po2 cs2 fa fa2 : Nat → Int32} {ak : Int32} (hln : ln ≤ 16) (hc : ∀ j, j < ln → po j = po2 j ∧ cs j = cs2 j) (hf : ∀ j, j < ln → po j = nI 1 → fa (cs j).toNatClampNeg = fa2 (cs j).toNatClampNeg) (n : Nat) : ∀ {h : Nat} {nx an st : Int32} {f : Nat → Int32}, (∀ j, j < ln → ∃ o, o ≤ 10 ∧ po j = nI o) → pRun ln po cs fa ak n h nx an st f = pRun ln po2 cs2 fa2 ak n h nx an st f := by
  induction n with
  | zero => intro h nx an st f _; rfl
  | succ n ih =>
    intro h nx an st f hop
    unfold pRun
    by_cases hx : nx < 0 ∨ nI ln ≤ nx
    · rw [if_pos hx, if_pos hx]
    · rw [if_neg hx, if_neg hx]
      obtain ⟨j, hj1, rfl⟩ := nI_of (fun z => hx (Or.inl z))
      have hj : j < ln := (nI_ltI hj1 (by omega)).mp (Int32.not_le.mp (fun z => hx (Or.inr z)))
      rw [nI_clamp hj1]
      obtain ⟨o, ho, eo⟩ := hop j hj
      have e : pStep (po j).toNatClampNeg (cs j) fa ak h (nI j + 1) an f = pStep (po2 j).toNatClampNeg (cs2 j) fa2 ak h (nI j + 1) an f := by
        rw [← (hc j hj).1, ← (hc j hj).2, eo, nI_clamp (by omega)]
        unfold pStep
        by_cases h1 : o = 1
        · rw [hf j hj (by rw [eo, h1])]
        · rw [if_neg h1, if_neg h1]
      rw [← e, ih hop]
/-- the reference's memory between two calls -/
def MW (G : Gl) (V : Vw) (a1 : Nat) (A : Nat → Nat) (mo ne dy th qs nk hs hd : Int32) (mow mki med mmd mak msk mfk mmn mpo mcs fa mkf ff fs mss mot : Nat → Int32) : Prop :=
  ∃ (pu st nx : Int32) (an : Int64) (g : Nat → Int64) (gv : Nat → Int32), V 20 0 = some (a1, oM A mo ne dy th qs nk hs hd pu st nx an) ∧ V 21 0 = some (A 21, aI G 24 mow) ∧ V 22 0 = some (A 22, aI G 24 mki) ∧ V 23 0 = some (A 23, aI G 24 med) ∧ V 24 0 = some (A 24, aZ G 24 mmd) ∧ V 25 0 = some (A 25, aI G 24 mak) ∧ V 26 0 = some (A 26, aI G 24 msk) ∧ V 27 0 = some (A 27, aI G 24 mfk) ∧ V 28 0 = some (A 28, aI G 24 mmn) ∧ V 29 0 = some (A 29, aI G 384 mpo) ∧ V 30 0 = some (A 30, aI G 384 mcs) ∧ V 31 0 = some (A 31, aI G 8 fa) ∧ V 32 0 = some (A 32, aI G 64 mkf) ∧ V 33 0 = some (A 33, aI G 3 ff) ∧ V 34 0 = some (A 34, aI G 36 fs) ∧ V 35 0 = some (A 35, aI G 18 mss) ∧ V 36 0 = some (A 36, aI G 18 mot) ∧ V 37 0 = some (A 37, aL G 8 g) ∧ V 38 0 = some (A 38, aI G 8 gv)
/-- the reference's codes are these -/
def CD (ne : Nat) (mmn mpo mcs : Nat → Int32) (ln : Nat → Nat) (po cs : Nat → Nat → Int32) : Prop :=
  ∀ i, i < ne → mmn i = nI (ln i) ∧ okCode (ln i) (po i) (cs i) ∧ (∀ j, j < ln i → mpo (16 * i + j) = po i j ∧ mcs (16 * i + j) = cs i j) ∧ (∀ j, j < ln i → po i j = nI 8 → ∃ c : Nat, c < 16 ∧ cs i j = nI c)
def INN (V V' : Vw) : Prop := ∀ k i, k < 20 ∨ 39 ≤ k → V' k i = V k i
theorem INN.rf {V : Vw} : INN V V := fun _ _ _ => rfl
theorem INN.u {V V1 : Vw} {k i : Nat} {x : Nat × va_E} (h : INN V V1) (h1 : 20 ≤ k) (h2 : k < 39) : INN V (uV V1 k i x) := fun k' i' hk => (uV_ne (by omega)).trans (h k' i' hk)

/-! Loops of the class, as numbers. -/
def KV (G : Gl) (V : Vw) (nk : Nat) (fK vK : Nat → Nat) (kf : Nat → Nat → Int32) : Prop := ∀ j, j < nk → V 6 (j + 1) = some (fK j, oF (vK j)) ∧ V 7 (j + 1) = some (vK j, aI G 8 (kf j))
def pCnt (ow ki ed md : Nat → Int32) (o k d : Int32) : Nat → Int32 × Int32
  | 0 => (-1, 0)
  | j + 1 => if (¬ md j = 0 ∧ ow j = o ∧ ki j = k ∧ ed j ≤ d) ∧ (pCnt ow ki ed md o k d j).2 ≤ ed j then (nI j, ed j) else pCnt ow ki ed md o k d j
theorem pCnt_of (ow ki ed md : Nat → Int32) (o k d : Int32) : ∀ j, (pCnt ow ki ed md o k d j).1 = -1 ∨ ∃ i, i < j ∧ (pCnt ow ki ed md o k d j).1 = nI i
  | 0 => Or.inl rfl
  | j + 1 => by
    unfold pCnt
    split
    · exact Or.inr ⟨j, by omega, rfl⟩
    · rcases pCnt_of ow ki ed md o k d j with h | ⟨i, hi, h⟩
      · exact Or.inl h
      · exact Or.inr ⟨i, by omega, h⟩
def pMade (md : Nat → Int32) : Nat → Int32
  | 0 => 0
  | j + 1 => if md j = 0 then pMade md j else pMade md j + 1
def pSum (fs : Nat → Int32) : Nat → Int32
  | 0 => 0
  | j + 1 => pSum fs j + fs j
def pCount (t ne : Nat) (md : Nat → Int32) (qs : Int32) (fs : Nat → Int32) (nk : Nat) (hs dy mo : Int32) : Int32 :=
  if t = 0 then nI ne else if t = 1 then pMade md ne else if t = 2 then qs else if t = 3 then pSum fs 36 else if t = 4 then nI nk else if t = 5 then hs else if t = 6 then dy else mo
/-- a Run's cells behind a run -/
abbrev uRr (G : Gl) (V : Vw) (b r s m0 : Nat) (R : Int32 × Nat × Int32 × Int32 × Int32 × (Nat → Int32)) : Vw := uR G V b r s (nI m0) R.2.1 R.2.2.1 R.1 R.2.2.2.1 R.2.2.2.2.1 R.2.2.2.2.2
/-- what runShadow does to the view -/
def shV (G : Gl) (V : Vw) (ne : Nat) (ss ds : Nat → Int32) (pn df r1 s1 m0 : Nat) (ln : Nat → Nat) (po cs : Nat → Nat → Int32) (fa : Nat → Int32) (ak : Nat → Int32) (f1 : Nat → Int32) (oc an : Int32) : Vw :=
  if ss pn < 0 ∨ nI ne ≤ ss pn then V else
  if oc = (pRun (ln (ss pn).toNatClampNeg) (po (ss pn).toNatClampNeg) (cs (ss pn).toNatClampNeg) fa (ak (ss pn).toNatClampNeg) m0 0 0 0 0 f1).1 ∧ an = (pRun (ln (ss pn).toNatClampNeg) (po (ss pn).toNatClampNeg) (cs (ss pn).toNatClampNeg) fa (ak (ss pn).toNatClampNeg) m0 0 0 0 0 f1).2.2.2.1 then
    uRr G V 1 r1 s1 m0 (pRun (ln (ss pn).toNatClampNeg) (po (ss pn).toNatClampNeg) (cs (ss pn).toNatClampNeg) fa (ak (ss pn).toNatClampNeg) m0 0 0 0 0 f1)
  else uV (uRr G V 1 r1 s1 m0 (pRun (ln (ss pn).toNatClampNeg) (po (ss pn).toNatClampNeg) (cs (ss pn).toNatClampNeg) fa (ak (ss pn).toNatClampNeg) m0 0 0 0 0 f1)) 13 0 (df, aI G 18 (upd ds pn (ds pn + 1)))
theorem shV_o {G : Gl} {V : Vw} {ne : Nat} {ss ds : Nat → Int32} {pn df r1 s1 m0 : Nat} {ln : Nat → Nat} {po cs : Nat → Nat → Int32} {fa : Nat → Int32} {ak : Nat → Int32} {f1 : Nat → Int32} {oc an : Int32} {k i : Nat} (h4 : k ≠ 4) (h5 : k ≠ 5) (h13 : k ≠ 13) : shV G V ne ss ds pn df r1 s1 m0 ln po cs fa ak f1 oc an k i = V k i := by
  unfold shV
  split
  · rfl
  · split
    · exact uR_o h4 h5
    · exact (uV_ne (fun z => h13 z.1)).trans (uR_o h4 h5)
theorem shV_0 {G : Gl} {V : Vw} {ne : Nat} {ss ds : Nat → Int32} {pn df r1 s1 m0 : Nat} {ln : Nat → Nat} {po cs : Nat → Nat → Int32} {fa : Nat → Int32} {ak : Nat → Int32} {f1 : Nat → Int32} {oc an : Int32} {k : Nat} (h13 : k ≠ 13) : shV G V ne ss ds pn df r1 s1 m0 ln po cs fa ak f1 oc an k 0 = V k 0 := by
  unfold shV
  split
  · rfl
  · split
    · exact uR_ob (by decide)
    · exact (uV_ne (fun z => h13 z.1)).trans (uR_ob (by decide))
theorem nI_nm1 {i : Nat} (h : i < 2 ^ 31) : ¬ nI i = -1 := fun z => absurd (show nI i < 0 by rw [z]; decide) (nI_pos h)
theorem ok_own {on kn : Nat} (h1 : on ≤ 5) (h2 : kn ≤ 2) : ¬ ((nI on < 0 ∨ 5 < nI on) ∨ (nI kn < 0 ∨ 2 < nI kn)) := by
  rintro ((h | h) | (h | h))
  · exact absurd h (nI_pos (by omega))
  · exact absurd h (nI_nlt (a := 5) h1 (by omega))
  · exact absurd h (nI_pos (by omega))
  · exact absurd h (nI_nlt (a := 2) h2 (by omega))
/-- how a run may end -/
theorem pPut_in (v : Int64) (h : Nat) (f : Nat → Int32) : (pPut v h f).1 = 5 ∨ (pPut v h f).1 = 3 ∨ (pPut v h f).1 = 7 := by
  unfold pPut
  repeat' split
  all_goals first | exact Or.inl rfl | exact Or.inr (Or.inl rfl) | exact Or.inr (Or.inr rfl)
theorem pStep_in (o : Nat) (cn : Int32) (fa : Nat → Int32) (ak : Int32) (h : Nat) (nx an : Int32) (f : Nat → Int32) : ∃ c : Nat, c ≤ 7 ∧ (pStep o cn fa ak h nx an f).1 = nI c := by
  have hP : ∀ (v : Int64) (h : Nat) (f : Nat → Int32), ∃ c : Nat, c ≤ 7 ∧ (pPut v h f).1 = nI c := fun v h f => by
    rcases pPut_in v h f with e | e | e
    · exact ⟨5, by omega, e⟩
    · exact ⟨3, by omega, e⟩
    · exact ⟨7, by omega, e⟩
  have hJ : ∃ c : Nat, c ≤ 7 ∧ (pJoin o h f).1 = nI c := by
    unfold pJoin
    dsimp only
    repeat' split
    all_goals first | exact hP _ _ _ | exact ⟨2, by omega, rfl⟩
  unfold pStep
  repeat' split
  all_goals first | exact hP _ _ _ | exact hJ | exact ⟨3, by omega, rfl⟩ | exact ⟨7, by omega, rfl⟩ | exact ⟨6, by omega, rfl⟩
theorem pRun_in (ln : Nat) (po cs fa : Nat → Int32) (ak : Int32) : ∀ (n h : Nat) (nx an st : Int32) (f : Nat → Int32), ∃ c : Nat, c ≤ 6 ∧ (pRun ln po cs fa ak n h nx an st f).1 = nI c
  | 0, h, nx, an, st, f => ⟨1, by omega, rfl⟩
  | n + 1, h, nx, an, st, f => by
    unfold pRun
    split
    · exact ⟨4, by omega, rfl⟩
    · split
      · exact pRun_in ln po cs fa ak n _ _ _ _ _
      · rename_i h7
        obtain ⟨c, hc, e⟩ := pStep_in (po nx.toNatClampNeg).toNatClampNeg (cs nx.toNatClampNeg) fa ak h (nx + 1) an f
        refine ⟨c, ?_, e⟩
        rcases Nat.lt_or_eq_of_le hc with hl | rfl
        · omega
        · exact absurd e h7
theorem pRun_h {ln : Nat} {po cs fa : Nat → Int32} {ak : Int32} : ∀ {n h : Nat} {nx an st : Int32} {f : Nat → Int32}, h ≤ 8 → (pRun ln po cs fa ak n h nx an st f).2.1 ≤ 8
  | 0, h, nx, an, st, f, hh => hh
  | n + 1, h, nx, an, st, f, hh => by
    unfold pRun
    split
    · exact hh
    · split
      · exact pRun_h (pStep_h hh)
      · exact pStep_h hh

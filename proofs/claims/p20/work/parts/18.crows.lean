/-! The class itself, as numbers. -/
abbrev oC (mo : Int32) (aE aK fA r0 r1 fb fl sh df : Nat) (dy qs hs lv he : Int32) : va_E := .inr (1, [.int mo, .ref aE, .ref aK, .ref fA, .ref r0, .ref r1, .ref fb, .ref fl, .ref sh, .ref df, .int dy, .int qs, .int hs, .int lv, .int he])
theorem nI_mul (a b : Nat) : nI a * nI b = nI (a * b) := (Int32.ofNat_mul a b).symm
theorem nI_ma (a b c : Nat) : nI a * nI b + nI c = nI (a * b + c) := by rw [nI_mul, nI_add]
def pGr (o : Nat) : Int32 := if o = 0 then 10000 else if o = 1 then 7 else if o = 8 then 15 else 0
def pLs (o : Int32) : Int32 := if o = 0 then -10000 else 0
/-- the editions' cells -/
def EV (G : Gl) (V : Vw) (ne : Nat) (ea oA cA : Nat → Nat) (ow ki ed md ak sk fk : Nat → Int32) (ln : Nat → Nat) (po cs : Nat → Nat → Int32) : Prop :=
  ∀ i, i < ne → V 1 i = some (ea i, oE (ow i) (ki i) (ed i) (oA i) (cA i) (nI (ln i)) (md i) (ak i) (sk i) (fk i)) ∧ V 2 i = some (oA i, aI G 16 (po i)) ∧ V 3 i = some (cA i, aI G 16 (cs i))
/-- a list -/
def LV (G : Gl) (V : Vw) (L a d n : Nat) (f : Nat → Nat) (mc : Int32) : Prop :=
  V 8 L = some (a, oAl d (nI n) mc) ∧ ((n = 0 ∧ d = G.2.1 9) ∨ ∃ cap : Nat, 0 < cap ∧ n ≤ cap ∧ cap ≤ 36 ∧ V 9 L = some (d, aQ G cap (lF n f)))
section CR
variable {G : Gl} {p : Program} {l : Launch} {e : Env} {R : Room} {s : State} {m : MethodId} {args : Array Value} {below : List Frame} {meth : Method} {c : Code} {H : Heap} {locs : List Loc} {cells slots : Nat} {Q : State → Prop}
variable {cc : ByteArray} {nL pc : Nat} {own : String} {ls : Array Slot} {rest : List Value} {V : Vw} {k i a : Nat}
theorem r_cast (F : Bd G p l s m args meth c cc nL own) (hS : HS G s V H locs) {index ci : Nat} {q : vw_C} {fs : List Value} (hc : vwCl[ci]? = some q) (he : V k i = some (a, .inr (ci, fs))) (hlink : Cond.classLink own index q.1 ∈ TBL) (hdg : decode cc pc = .ok (.checkcast index, 3))
    (kk : W p l e R s m args below meth c H locs cells slots Q (F0 m (pc + 3) ls (.ref a :: rest))) : W p l e R s m args below meth c H locs cells slots Q (F0 m pc ls (.ref a :: rest)) := by
  obtain ⟨hx, hb, hml, hown, hts, hK, -, -⟩ := F
  exact va_castE hx hb hown (hts _ hlink) (recv_of_view hS hK hc he) hdg kk
end CR

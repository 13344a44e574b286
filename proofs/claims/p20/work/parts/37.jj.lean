/-! Class and reference together. -/
def RL (m0 dn hn ne nk : Nat) (lv he hd : Int32) (ow ki ed md ak sk fk : Nat → Int32) (ln : Nat → Nat) (po cs : Nat → Nat → Int32) (kf : Nat → Nat → Int32) (ss ds : Nat → Int32) (mow mki med mmd mak msk mfk mmn mpo mcs mkf mss mot : Nat → Int32) (B : Prop) : Prop :=
  (dn ≤ 1000 ∧ hn ≤ 10000 ∧ m0 ≤ 1000 ∧ ne ≤ 24 ∧ nk ≤ 8) ∧ (∀ i, i < ne → mow i = ow i ∧ mki i = ki i ∧ med i = ed i ∧ mmd i = md i ∧ mak i = ak i ∧ msk i = sk i ∧ mfk i = fk i) ∧ CD ne mmn mpo mcs ln po cs ∧ (∀ i, ne ≤ i → i < 24 → mmd i = 0 ∧ mak i = 0 ∧ msk i = 0 ∧ mfk i = 0 ∧ mmn i = 0) ∧ (∀ i, i < ne → (∃ d : Nat, d ≤ 1000 ∧ ed i = nI d) ∧ ∃ k : Nat, k ≤ 2 ∧ ki i = nI k) ∧ (∀ q, q < nk → ∀ j, j < 8 → mkf (8 * q + j) = kf q j) ∧ (∀ q, q < 18 → mss q = ss q ∧ (ss q = -1 ∨ ∃ i : Nat, i < ne ∧ ss q = nI i)) ∧ ((hd = -1 ∧ lv = 0) ∨ (lv = nI hn ∧ 0 < hn ∧ hd = he ∧ ∃ i : Nat, i < ne ∧ he = nI i)) ∧ (B → ∀ q, q < 18 → mot q = ds q)
def JJ (G : Gl) (V : Vw) (a0 a1 ou : Nat) (th : Int32) (g9 : Nat → Int64) (B : Prop) : Prop :=
  ∃ (A : Nat → Nat) (m0 dn hn ne nk : Nat) (qs lv he hd : Int32) (ow ki ed md ak sk fk : Nat → Int32) (ln : Nat → Nat) (po cs : Nat → Nat → Int32) (kf : Nat → Nat → Int32) (fa ff fs ss ds : Nat → Int32) (mow mki med mmd mak msk mfk mmn mpo mcs mkf mss mot : Nat → Int32), CV G V a0 m0 (nI dn) qs (nI hn) lv he ne ow ki ed md ak sk fk ln po cs nk kf fa ff fs ss ds ∧ MW G V a1 A (nI m0) (nI ne) (nI dn) th qs (nI nk) (nI hn) hd mow mki med mmd mak msk mfk mmn mpo mcs fa mkf ff fs mss mot ∧ V 50 0 = some (ou, aL G 1 g9) ∧ RL m0 dn hn ne nk lv he hd ow ki ed md ak sk fk ln po cs kf ss ds mow mki med mmd mak msk mfk mmn mpo mcs mkf mss mot B
/-- behind a call of both: thrown is k, and if k is 0 the answer kept is x -/
def FN (G : Gl) (V : Vw) (a0 a1 ou : Nat) (k : Int32) (x : Int64) : Prop := ∃ g9 : Nat → Int64, JJ G V a0 a1 ou k g9 False ∧ (k = 0 → g9 0 = x)
def PMi (G : Gl) (l : Launch) (y : MethodName) (cc : ByteArray) (ml : Nat) (rm : Room) (V : Vw) (a0 a1 ou : Nat) (As : List Value) (k : Int32) : Prop := (∃ fs : List Value, V 20 0 = some (a1, .inr (5, fs))) ∧ Cm G l y cc ml (some .int) rm V (.ref a1 :: As) (fun rv V2 => ∃ b : Int32, rv = some (.int b) ∧ FN G V2 a0 a1 ou k b.toInt64)
def PMz (G : Gl) (l : Launch) (y : MethodName) (cc : ByteArray) (ml : Nat) (rm : Room) (V : Vw) (a0 a1 ou : Nat) (As : List Value) (k : Int32) : Prop := (∃ fs : List Value, V 20 0 = some (a1, .inr (5, fs))) ∧ Cm G l y cc ml (some .boolean) rm V (.ref a1 :: As) (fun rv V2 => ∃ b : Int32, rv = some (.int b) ∧ FN G V2 a0 a1 ou k (if b = 0 then 0 else 1))
def PMo (G : Gl) (l : Launch) (y : MethodName) (cc : ByteArray) (ml : Nat) (rm : Room) (V : Vw) (a0 a1 ou : Nat) (As : List Value) (k : Int32) (B : Prop) : Prop := (∃ fs : List Value, V 20 0 = some (a1, .inr (5, fs))) ∧ Cm G l y cc ml (some .int) rm V (.ref a1 :: As) (fun rv V2 => ∃ b : Int32, rv = some (.int b) ∧ ∃ g9 : Nat → Int64, JJ G V2 a0 a1 ou k g9 False ∧ (B → k = 0 → g9 0 = b.toInt64))
def PMv (G : Gl) (l : Launch) (y : MethodName) (cc : ByteArray) (ml : Nat) (rm : Room) (V : Vw) (a0 a1 ou : Nat) (As : List Value) (k : Int32) : Prop := (∃ fs : List Value, V 20 0 = some (a1, .inr (5, fs))) ∧ Cm G l y cc ml none rm V (.ref a1 :: As) (fun rv V2 => rv = none ∧ ∃ g9 : Nat → Int64, JJ G V2 a0 a1 ou k g9 False)
theorem Cw.mono {G : Gl} {l : Launch} {y : MethodName} {cc : ByteArray} {maxL : Nat} {ret : Option FieldType} {hh : List (Nat × Nat × Nat × Nat)} {rm : Room} {V : Vw} {As : List Value} {Rt Rt2 : Option Value → Vw → Prop} (h : Cw G l y cc maxL ret hh rm V As Rt) (h1 : ∀ r V1, Rt r V1 → Rt2 r V1) : Cw G l y cc maxL ret hh rm V As Rt2 := by
  unfold Cw Met at *
  refine Free.MetFree.mono h (fun _ _ z => z) (fun _ _ _ _ _ z => z) (fun a s oc t _ z => ?_)
  obtain ⟨⟨⟨r, V1, e1, e2, e3⟩, e4⟩, e5⟩ := z
  exact ⟨⟨⟨r, V1, e1, h1 _ _ e2, e3⟩, e4⟩, e5⟩
theorem CV.of {G : Gl} {V V2 : Vw} {a0 : Nat} {m0 : Nat} {dy qs hs lv he : Int32} {ne : Nat} {ow ki ed md ak sk fk : Nat → Int32} {ln : Nat → Nat} {po cs : Nat → Nat → Int32} {nk : Nat} {kf : Nat → Nat → Int32} {fa ff fs ss ds : Nat → Int32} (h : CV G V a0 m0 dy qs hs lv he ne ow ki ed md ak sk fk ln po cs nk kf fa ff fs ss ds) (hV : ∀ k i, k < 20 → V2 k i = V k i) : CV G V2 a0 m0 dy qs hs lv he ne ow ki ed md ak sk fk ln po cs nk kf fa ff fs ss ds := by
  obtain ⟨aE, aK, fA, r0, r1, fb, fl, sh, df, dE, dK, vA, ea, oA, cA, fK, vK, mcE, mcK, h0, hE, hLE, hKV, hLK, h6, h7, hR0, hR1, h10, h11, h12, h13, h14, hm9, hne, hnk, hok, hki, hhe⟩ := h
  have v := fun k i (hk : Nat.ble (k + 1) 20 = true) => hV k i (Nat.le_of_ble_eq_true hk)
  exact ⟨aE, aK, fA, r0, r1, fb, fl, sh, df, dE, dK, vA, ea, oA, cA, fK, vK, mcE, mcK, (v 0 0 rfl).trans h0, hE.of (fun i => ⟨v 1 i rfl, v 2 i rfl, v 3 i rfl⟩), hLE.of (v 8 0 rfl) (v 9 0 rfl), hKV.of (fun i => ⟨v 6 i rfl, v 7 i rfl⟩), hLK.of (v 8 1 rfl) (v 9 1 rfl), (v 6 0 rfl).trans h6, (v 7 0 rfl).trans h7, hR0.of (v 4 0 rfl) (v 5 0 rfl), hR1.of (v 4 1 rfl) (v 5 1 rfl), (v 10 0 rfl).trans h10, (v 11 0 rfl).trans h11, (v 12 0 rfl).trans h12, (v 13 0 rfl).trans h13, ⟨(v 14 0 rfl).trans h14.1, (v 14 1 rfl).trans h14.2⟩, hm9, hne, hnk, hok, hki, hhe⟩
theorem MW.of {G : Gl} {V V2 : Vw} {a1 : Nat} {A : Nat → Nat} {mo ne dy th qs nk hs hd : Int32} {mow mki med mmd mak msk mfk mmn mpo mcs fa mkf ff fs mss mot : Nat → Int32} (h : MW G V a1 A mo ne dy th qs nk hs hd mow mki med mmd mak msk mfk mmn mpo mcs fa mkf ff fs mss mot) (hV : ∀ k, 20 ≤ k → k < 39 → V2 k 0 = V k 0) : MW G V2 a1 A mo ne dy th qs nk hs hd mow mki med mmd mak msk mfk mmn mpo mcs fa mkf ff fs mss mot := by
  obtain ⟨pu, st, nx, an, g, gv, h20, h21, h22, h23, h24, h25, h26, h27, h28, h29, h30, h31, h32, h33, h34, h35, h36, h37, h38⟩ := h
  have v := fun k (h1 : Nat.ble 20 k = true) (h2 : Nat.ble (k + 1) 39 = true) => hV k (Nat.le_of_ble_eq_true h1) (Nat.le_of_ble_eq_true h2)
  exact ⟨pu, st, nx, an, g, gv, (v 20 rfl rfl).trans h20, (v 21 rfl rfl).trans h21, (v 22 rfl rfl).trans h22, (v 23 rfl rfl).trans h23, (v 24 rfl rfl).trans h24, (v 25 rfl rfl).trans h25, (v 26 rfl rfl).trans h26, (v 27 rfl rfl).trans h27, (v 28 rfl rfl).trans h28, (v 29 rfl rfl).trans h29, (v 30 rfl rfl).trans h30, (v 31 rfl rfl).trans h31, (v 32 rfl rfl).trans h32, (v 33 rfl rfl).trans h33, (v 34 rfl rfl).trans h34, (v 35 rfl rfl).trans h35, (v 36 rfl rfl).trans h36, (v 37 rfl rfl).trans h37, (v 38 rfl rfl).trans h38⟩
theorem MW.o {G : Gl} {V : Vw} {a1 : Nat} {A : Nat → Nat} {mo ne dy th qs nk hs hd : Int32} {mow mki med mmd mak msk mfk mmn mpo mcs fa mkf ff fs mss mot : Nat → Int32} (h : MW G V a1 A mo ne dy th qs nk hs hd mow mki med mmd mak msk mfk mmn mpo mcs fa mkf ff fs mss mot) : ∃ l : List Value, V 20 0 = some (a1, .inr (5, l)) := by
  obtain ⟨pu, st, nx, an, g, gv, h20, -⟩ := h
  exact ⟨_, h20⟩
theorem ed_bad {n : Int32} {ne : Nat} (hne : ne ≤ 24) (h : n < 0 ∨ nI ne ≤ n) : ¬ ∃ i : Nat, i < ne ∧ n = nI i := by
  rintro ⟨i, hi, rfl⟩
  rcases h with h | h
  · exact absurd h (nI_pos (by omega))
  · exact absurd ((nI_leI (by omega) (by omega)).mp h) (by omega)
theorem rg_bad {x a b : Int32} (h : x < a ∨ b < x) : ¬ (a ≤ x ∧ x ≤ b) := fun z => h.elim (fun y => absurd z.1 (Int32.not_le.mpr y)) (fun y => absurd z.2 (Int32.not_le.mpr y))
theorem pl_bad {o k : Int32} (h : (o < 0 ∨ 5 < o) ∨ (k < 0 ∨ 2 < k)) : ¬ ∃ on kn : Nat, on ≤ 5 ∧ kn ≤ 2 ∧ o = nI on ∧ k = nI kn := fun z => h.elim (fun y => rg_bad y (pl_iff.mpr z).1) (fun y => rg_bad y (pl_iff.mpr z).2)
theorem in_ok {n m : Nat} (hn : n ≤ m) (hm : m < 2 ^ 31) : 0 ≤ nI n ∧ nI n ≤ nI m := ⟨nI_pos' (by omega), nI_le hn hm⟩
set_option maxHeartbeats 4000000 in
theorem j_today (G : Gl) (l : Launch) (htr : l.stackTraces = false) (V : Vw) (a0 a1 ou : Nat) (th : Int32) (g9 : Nat → Int64) (B : Prop) (h : JJ G V a0 a1 ou th g9 B) (p0 : Int32) :
    Cw G l y_L_today b_L_today 3 (some .int) [(0, 5, 8, 13)] { frames := 8, cells := 1, slots := 6, locals := 133 } V [.ref a0, .int p0] (fun rv V1 => ∃ k : Int32, rv = some (.int k) ∧ PMv G l y_M_today b_M_today 2 { frames := 1, cells := 0, slots := 0, locals := 22 } V1 a0 a1 ou [.int p0] k) := by
  obtain ⟨A, m0, dn, hn, ne, nk, qs, lv, he, hd, ow, ki, ed, md, ak, sk, fk, ln, po, cs, kf, fa, ff, fs, ss, ds, mow, mki, med, mmd, mak, msk, mfk, mmn, mpo, mcs, mkf, mss, mot, hCV, hMW, h50, hRL⟩ := h
  obtain ⟨⟨hdn, hhn, hm0, hne, hnk⟩, hag, hCD, hz, hek, hkf, hss, hhd, hB⟩ := id hRL
  obtain ⟨aE, aK, fA, r0, r1, fb, fl, sh, df, dE, dK, vA, ea, oA, cA, fK, vK, mcE, mcK, h0, -⟩ := id hCV
  have hed : ∀ j, j < ne → 0 ≤ med j := fun j hj => by
    obtain ⟨d9, a9, b9⟩ := (hek j hj).1
    rw [(hag j hj).2.2.1, b9]
    exact nI_pos' (by omega)
  refine (k_L_today G l htr V a0 aE aK fA r0 r1 fb fl sh df (nI m0) (nI dn) qs (nI hn) lv he p0 (c_today G l htr V a0 m0 (nI dn) qs (nI hn) lv he ne ow ki ed md ak sk fk ln po cs nk kf fa ff fs ss ds hCV p0) (fun E V1 hT => hT.1) (fun r V1 hR => hR.1) h0).mono (fun rv V1 hR => ?_)
  rcases hR with ⟨rfl, hR⟩ | ⟨rfl, hT⟩
  · obtain ⟨-, e1, e2, hCV1, hO⟩ := hR
    obtain ⟨d9, hd9, rfl⟩ := (in_iff (n := 1000) (by decide)).mp ⟨Int32.le_trans (nI_pos' (by omega)) e1, e2⟩
    have hMW1 := hMW.of (V2 := V1) (fun k h1 h2 => hO k 0 h1)
    have h501 := (hO 50 0 (by decide)).trans h50
    refine ⟨0, rfl, hMW1.o, (k_M_today G l htr V1 a1 A m0 ne nk (nI dn) th qs (nI hn) hd mow mki med mmd mak msk mfk mmn mpo mcs fa mkf ff fs mss mot hne hMW1 (nI d9) ).mono (fun rv V2 hM => ?_)⟩
    rcases hM with ⟨rfl, ⟨-, hMW2, hI⟩ | ⟨hno, -, -⟩⟩
    · exact ⟨rfl, _, ⟨A, m0, d9, hn, ne, nk, qs, 0, he, -1, ow, ki, ed, md, ak, sk, fk, ln, po, cs, kf, fa, ff, fs, ss, ds, mow, mki, med, mmd, mak, msk, mfk, mmn, mpo, mcs, mkf, mss, mot, hCV1.of (fun k i hk => hI k i (Or.inl hk)), hMW2, (hI 50 0 (Or.inr (by decide))).trans h501, ⟨⟨hd9, hhn, hm0, hne, hnk⟩, hag, hCD, hz, hek, hkf, hss, Or.inl ⟨rfl, rfl⟩, fun z => False.elim z⟩⟩⟩
    · exact absurd ⟨in_ok hd9 (by decide), e1⟩ hno
  · obtain ⟨-, hbad, hV⟩ := hT
    rw [hV]
    refine ⟨1, rfl, hMW.o, (k_M_today G l htr V a1 A m0 ne nk (nI dn) th qs (nI hn) hd mow mki med mmd mak msk mfk mmn mpo mcs fa mkf ff fs mss mot hne hMW p0 ).mono (fun rv V2 hM => ?_)⟩
    rcases hM with ⟨rfl, ⟨hok, -, -⟩ | ⟨-, hMW2, hI⟩⟩
    · exact absurd hbad (fun z => z.elim (fun y => absurd hok.2 (Int32.not_le.mpr y)) (fun y => absurd hok.1.2 (Int32.not_le.mpr y)))
    · exact ⟨rfl, _, ⟨A, m0, dn, hn, ne, nk, qs, lv, he, hd, ow, ki, ed, md, ak, sk, fk, ln, po, cs, kf, fa, ff, fs, ss, ds, mow, mki, med, mmd, mak, msk, mfk, mmn, mpo, mcs, mkf, mss, mot, hCV.of (fun k i hk => hI k i (Or.inl hk)), hMW2, (hI 50 0 (Or.inr (by decide))).trans h50, ⟨⟨hdn, hhn, hm0, hne, hnk⟩, hag, hCD, hz, hek, hkf, hss, hhd, fun z => False.elim z⟩⟩⟩
set_option maxHeartbeats 4000000 in
theorem j_fact (G : Gl) (l : Launch) (htr : l.stackTraces = false) (V : Vw) (a0 a1 ou : Nat) (th : Int32) (g9 : Nat → Int64) (B : Prop) (h : JJ G V a0 a1 ou th g9 B) (p0 p1 : Int32) :
    Cw G l y_L_fact b_L_fact 4 (some .int) [(0, 6, 9, 13)] { frames := 8, cells := 2, slots := 12, locals := 134 } V [.ref a0, .int p0, .int p1] (fun rv V1 => ∃ k : Int32, rv = some (.int k) ∧ PMv G l y_M_fact b_M_fact 3 { frames := 1, cells := 0, slots := 0, locals := 22 } V1 a0 a1 ou [.int p0, .int p1] k) := by
  obtain ⟨A, m0, dn, hn, ne, nk, qs, lv, he, hd, ow, ki, ed, md, ak, sk, fk, ln, po, cs, kf, fa, ff, fs, ss, ds, mow, mki, med, mmd, mak, msk, mfk, mmn, mpo, mcs, mkf, mss, mot, hCV, hMW, h50, hRL⟩ := h
  obtain ⟨⟨hdn, hhn, hm0, hne, hnk⟩, hag, hCD, hz, hek, hkf, hss, hhd, hB⟩ := id hRL
  obtain ⟨aE, aK, fA, r0, r1, fb, fl, sh, df, dE, dK, vA, ea, oA, cA, fK, vK, mcE, mcK, h0, -⟩ := id hCV
  have hed : ∀ j, j < ne → 0 ≤ med j := fun j hj => by
    obtain ⟨d9, a9, b9⟩ := (hek j hj).1
    rw [(hag j hj).2.2.1, b9]
    exact nI_pos' (by omega)
  refine (k_L_fact G l htr V a0 aE aK fA r0 r1 fb fl sh df (nI m0) (nI dn) qs (nI hn) lv he p0 p1 (c_fact G l htr V a0 m0 (nI dn) qs (nI hn) lv he ne ow ki ed md ak sk fk ln po cs nk kf fa ff fs ss ds hCV p0 p1) (fun E V1 hT => hT.1) (fun r V1 hR => hR.1) h0).mono (fun rv V1 hR => ?_)
  rcases hR with ⟨rfl, hR⟩ | ⟨rfl, hT⟩
  · obtain ⟨-, j, hj, rfl, e2, e3, hCV1, hO⟩ := hR
    have hMW1 := hMW.of (V2 := V1) (fun k h1 h2 => hO k 0 h1)
    have h501 := (hO 50 0 (by decide)).trans h50
    refine ⟨0, rfl, hMW1.o, (k_M_fact G l htr V1 a1 A m0 ne nk (nI dn) th qs (nI hn) hd mow mki med mmd mak msk mfk mmn mpo mcs fa mkf ff fs mss mot hne hMW1 (nI j) p1 ).mono (fun rv V2 hM => ?_)⟩
    rcases hM with ⟨rfl, ⟨hno, -, -⟩ | ⟨j2, hj2, ej, -, hMW2, hI⟩⟩
    · exact absurd ⟨in_ok hj (by decide), e2, e3⟩ hno
    · obtain rfl : j = j2 := (nI_eq (by omega) (by omega)).mp ej
      exact ⟨rfl, _, ⟨A, m0, dn, hn, ne, nk, qs, lv, he, hd, ow, ki, ed, md, ak, sk, fk, ln, po, cs, kf, upd fa j p1, ff, fs, ss, ds, mow, mki, med, mmd, mak, msk, mfk, mmn, mpo, mcs, mkf, mss, mot, hCV1.of (fun k i hk => hI k i (Or.inl hk)), hMW2, (hI 50 0 (Or.inr (by decide))).trans h501, ⟨⟨hdn, hhn, hm0, hne, hnk⟩, hag, hCD, hz, hek, hkf, hss, hhd, fun z => False.elim z⟩⟩⟩
  · obtain ⟨-, hbad, hV⟩ := hT
    rw [hV]
    refine ⟨1, rfl, hMW.o, (k_M_fact G l htr V a1 A m0 ne nk (nI dn) th qs (nI hn) hd mow mki med mmd mak msk mfk mmn mpo mcs fa mkf ff fs mss mot hne hMW p0 p1 ).mono (fun rv V2 hM => ?_)⟩
    rcases hM with ⟨rfl, ⟨-, hMW2, hI⟩ | ⟨j2, hj2, rfl, hv, -, -⟩⟩
    · exact ⟨rfl, _, ⟨A, m0, dn, hn, ne, nk, qs, lv, he, hd, ow, ki, ed, md, ak, sk, fk, ln, po, cs, kf, fa, ff, fs, ss, ds, mow, mki, med, mmd, mak, msk, mfk, mmn, mpo, mcs, mkf, mss, mot, hCV.of (fun k i hk => hI k i (Or.inl hk)), hMW2, (hI 50 0 (Or.inr (by decide))).trans h50, ⟨⟨hdn, hhn, hm0, hne, hnk⟩, hag, hCD, hz, hek, hkf, hss, hhd, fun z => False.elim z⟩⟩⟩
    · exact absurd hbad (fun z => z.elim (fun y => rg_bad y (in_ok hj2 (by decide))) (fun y => rg_bad y hv))
set_option maxHeartbeats 4000000 in
theorem j_fallback (G : Gl) (l : Launch) (htr : l.stackTraces = false) (V : Vw) (a0 a1 ou : Nat) (th : Int32) (g9 : Nat → Int64) (B : Prop) (h : JJ G V a0 a1 ou th g9 B) (p0 p1 : Int32) :
    Cw G l y_L_fallback b_L_fallback 4 (some .int) [(0, 6, 9, 13)] { frames := 8, cells := 2, slots := 12, locals := 134 } V [.ref a0, .int p0, .int p1] (fun rv V1 => ∃ k : Int32, rv = some (.int k) ∧ PMv G l y_M_fallback b_M_fallback 3 { frames := 1, cells := 0, slots := 0, locals := 22 } V1 a0 a1 ou [.int p0, .int p1] k) := by
  obtain ⟨A, m0, dn, hn, ne, nk, qs, lv, he, hd, ow, ki, ed, md, ak, sk, fk, ln, po, cs, kf, fa, ff, fs, ss, ds, mow, mki, med, mmd, mak, msk, mfk, mmn, mpo, mcs, mkf, mss, mot, hCV, hMW, h50, hRL⟩ := h
  obtain ⟨⟨hdn, hhn, hm0, hne, hnk⟩, hag, hCD, hz, hek, hkf, hss, hhd, hB⟩ := id hRL
  obtain ⟨aE, aK, fA, r0, r1, fb, fl, sh, df, dE, dK, vA, ea, oA, cA, fK, vK, mcE, mcK, h0, -⟩ := id hCV
  have hed : ∀ j, j < ne → 0 ≤ med j := fun j hj => by
    obtain ⟨d9, a9, b9⟩ := (hek j hj).1
    rw [(hag j hj).2.2.1, b9]
    exact nI_pos' (by omega)
  refine (k_L_fallback G l htr V a0 aE aK fA r0 r1 fb fl sh df (nI m0) (nI dn) qs (nI hn) lv he p0 p1 (c_fallback G l htr V a0 m0 (nI dn) qs (nI hn) lv he ne ow ki ed md ak sk fk ln po cs nk kf fa ff fs ss ds hCV p0 p1) (fun E V1 hT => hT.1) (fun r V1 hR => hR.1) h0).mono (fun rv V1 hR => ?_)
  rcases hR with ⟨rfl, hR⟩ | ⟨rfl, hT⟩
  · obtain ⟨-, j, hj, rfl, e2, e3, hCV1, hO⟩ := hR
    have hMW1 := hMW.of (V2 := V1) (fun k h1 h2 => hO k 0 h1)
    have h501 := (hO 50 0 (by decide)).trans h50
    refine ⟨0, rfl, hMW1.o, (k_M_fallback G l htr V1 a1 A m0 ne nk (nI dn) th qs (nI hn) hd mow mki med mmd mak msk mfk mmn mpo mcs fa mkf ff fs mss mot hne hMW1 (nI j) p1 ).mono (fun rv V2 hM => ?_)⟩
    rcases hM with ⟨rfl, ⟨hno, -, -⟩ | ⟨j2, hj2, ej, -, hMW2, hI⟩⟩
    · exact absurd ⟨in_ok hj (by decide), e2, e3⟩ hno
    · obtain rfl : j = j2 := (nI_eq (by omega) (by omega)).mp ej
      exact ⟨rfl, _, ⟨A, m0, dn, hn, ne, nk, qs, lv, he, hd, ow, ki, ed, md, ak, sk, fk, ln, po, cs, kf, fa, upd ff j p1, fs, ss, ds, mow, mki, med, mmd, mak, msk, mfk, mmn, mpo, mcs, mkf, mss, mot, hCV1.of (fun k i hk => hI k i (Or.inl hk)), hMW2, (hI 50 0 (Or.inr (by decide))).trans h501, ⟨⟨hdn, hhn, hm0, hne, hnk⟩, hag, hCD, hz, hek, hkf, hss, hhd, fun z => False.elim z⟩⟩⟩
  · obtain ⟨-, hbad, hV⟩ := hT
    rw [hV]
    refine ⟨1, rfl, hMW.o, (k_M_fallback G l htr V a1 A m0 ne nk (nI dn) th qs (nI hn) hd mow mki med mmd mak msk mfk mmn mpo mcs fa mkf ff fs mss mot hne hMW p0 p1 ).mono (fun rv V2 hM => ?_)⟩
    rcases hM with ⟨rfl, ⟨-, hMW2, hI⟩ | ⟨j2, hj2, rfl, hv, -, -⟩⟩
    · exact ⟨rfl, _, ⟨A, m0, dn, hn, ne, nk, qs, lv, he, hd, ow, ki, ed, md, ak, sk, fk, ln, po, cs, kf, fa, ff, fs, ss, ds, mow, mki, med, mmd, mak, msk, mfk, mmn, mpo, mcs, mkf, mss, mot, hCV.of (fun k i hk => hI k i (Or.inl hk)), hMW2, (hI 50 0 (Or.inr (by decide))).trans h50, ⟨⟨hdn, hhn, hm0, hne, hnk⟩, hag, hCD, hz, hek, hkf, hss, hhd, fun z => False.elim z⟩⟩⟩
    · exact absurd hbad (fun z => z.elim (fun y => rg_bad y (in_ok hj2 (by decide))) (fun y => rg_bad y hv))
set_option maxHeartbeats 4000000 in
theorem j_failed (G : Gl) (l : Launch) (htr : l.stackTraces = false) (V : Vw) (a0 a1 ou : Nat) (th : Int32) (g9 : Nat → Int64) (B : Prop) (h : JJ G V a0 a1 ou th g9 B) (p0 p1 : Int32) :
    Cw G l y_L_failed b_L_failed 5 (some .int) [(0, 10, 13, 13)] { frames := 8, cells := 2, slots := 12, locals := 134 } V [.ref a0, .int p0, .int p1, .ref ou] (fun rv V1 => ∃ k : Int32, rv = some (.int k) ∧ PMi G l y_M_failed b_M_failed 3 { frames := 1, cells := 0, slots := 0, locals := 22 } V1 a0 a1 ou [.int p0, .int p1] k) := by
  obtain ⟨A, m0, dn, hn, ne, nk, qs, lv, he, hd, ow, ki, ed, md, ak, sk, fk, ln, po, cs, kf, fa, ff, fs, ss, ds, mow, mki, med, mmd, mak, msk, mfk, mmn, mpo, mcs, mkf, mss, mot, hCV, hMW, h50, hRL⟩ := h
  obtain ⟨⟨hdn, hhn, hm0, hne, hnk⟩, hag, hCD, hz, hek, hkf, hss, hhd, hB⟩ := id hRL
  obtain ⟨aE, aK, fA, r0, r1, fb, fl, sh, df, dE, dK, vA, ea, oA, cA, fK, vK, mcE, mcK, h0, -⟩ := id hCV
  have hed : ∀ j, j < ne → 0 ≤ med j := fun j hj => by
    obtain ⟨d9, a9, b9⟩ := (hek j hj).1
    rw [(hag j hj).2.2.1, b9]
    exact nI_pos' (by omega)
  refine (k_L_failed G l htr V a0 aE aK fA r0 r1 fb fl sh df (nI m0) (nI dn) qs (nI hn) lv he p0 p1 (c_failed G l htr V a0 m0 (nI dn) qs (nI hn) lv he ne ow ki ed md ak sk fk ln po cs nk kf fa ff fs ss ds hCV p0 p1) (fun E V1 hT => hT.1) ou g9 (fun r V1 hR => by obtain ⟨hV0, on, wn, -, -, -, -, e1⟩ := hR; exact ⟨_, e1, by rw [hV0]; exact h50⟩) h0).mono (fun rv V1 hR => ?_)
  rcases hR with ⟨rfl, v, V0, hR, hV1⟩ | ⟨rfl, hT⟩
  · obtain ⟨hV0, on, wn, hon, hwn, rfl, rfl, e1⟩ := hR
    have ev := Value.int.inj (Option.some.inj e1)
    rw [hV0] at hV1
    have hMW1 := hMW.of (V2 := V1) (by rw [hV1]; exact (fun k h1 h2 => uV_ne (by omega)))
    have hCV1 := hCV.of (V2 := V1) (by rw [hV1]; exact fun k i hk => uV_ne (by omega))
    have h501 : V1 50 0 = some (ou, aL G 1 (vp_updL g9 0 v.toInt64)) := by rw [hV1]; exact uV_self _ _ _ _
    refine ⟨0, rfl, hMW1.o, (k_M_failed G l htr V1 a1 A m0 ne nk (nI dn) th qs (nI hn) hd mow mki med mmd mak msk mfk mmn mpo mcs fa mkf ff fs mss mot hne hMW1 (nI on) (nI wn) ).mono (fun rv V2 hM => ?_)⟩
    rcases hM with ⟨hno, -, -, -⟩ | ⟨on2, wn2, hon2, hwn2, eo, ew, rfl, hMW2, hI⟩
    · exact absurd ⟨in_ok hon (by decide), in_ok hwn (by decide)⟩ hno
    · obtain rfl : on = on2 := (nI_eq (by omega) (by omega)).mp eo
      obtain rfl : wn = wn2 := (nI_eq (by omega) (by omega)).mp ew
      exact ⟨_, rfl, _, ⟨A, m0, dn, hn, ne, nk, qs, lv, he, hd, ow, ki, ed, md, ak, sk, fk, ln, po, cs, kf, fa, ff, fs, ss, ds, mow, mki, med, mmd, mak, msk, mfk, mmn, mpo, mcs, mkf, mss, mot, hCV1.of (fun k i hk => hI k i (Or.inl hk)), hMW2, (hI 50 0 (Or.inr (by decide))).trans h501, ⟨⟨hdn, hhn, hm0, hne, hnk⟩, hag, hCD, hz, hek, hkf, hss, hhd, fun z => False.elim z⟩⟩, fun _ => by rw [ev, show on * 6 + wn = 6 * on + wn by omega]; exact pk_uLs⟩
  · obtain ⟨-, hbad, hV⟩ := hT
    rw [hV]
    refine ⟨1, rfl, hMW.o, (k_M_failed G l htr V a1 A m0 ne nk (nI dn) th qs (nI hn) hd mow mki med mmd mak msk mfk mmn mpo mcs fa mkf ff fs mss mot hne hMW p0 p1 ).mono (fun rv V2 hM => ?_)⟩
    rcases hM with ⟨-, rfl, hMW2, hI⟩ | ⟨on2, wn2, hon2, hwn2, rfl, rfl, -, -, -⟩
    · exact ⟨_, rfl, _, ⟨A, m0, dn, hn, ne, nk, qs, lv, he, hd, ow, ki, ed, md, ak, sk, fk, ln, po, cs, kf, fa, ff, fs, ss, ds, mow, mki, med, mmd, mak, msk, mfk, mmn, mpo, mcs, mkf, mss, mot, hCV.of (fun k i hk => hI k i (Or.inl hk)), hMW2, (hI 50 0 (Or.inr (by decide))).trans h50, ⟨⟨hdn, hhn, hm0, hne, hnk⟩, hag, hCD, hz, hek, hkf, hss, hhd, fun z => False.elim z⟩⟩, fun z => absurd z (by decide)⟩
    · exact absurd hbad (fun z => z.elim (fun y => rg_bad y (in_ok hon2 (by decide))) (fun y => rg_bad y (in_ok hwn2 (by decide))))
set_option maxHeartbeats 4000000 in
theorem j_divide (G : Gl) (l : Launch) (htr : l.stackTraces = false) (V : Vw) (a0 a1 ou : Nat) (th : Int32) (g9 : Nat → Int64) (B : Prop) (h : JJ G V a0 a1 ou th g9 B) (p0 p1 : Int32) :
    Cw G l y_L_divide b_L_divide 5 (some .int) [(0, 10, 13, 76)] { frames := 7, cells := 1, slots := 6, locals := 112 } V [.ref a0, .int p0, .int p1, .ref ou] (fun rv V1 => ∃ k : Int32, rv = some (.int k) ∧ PMi G l y_M_divide b_M_divide 3 { frames := 0, cells := 0, slots := 0, locals := 0 } V1 a0 a1 ou [.int p0, .int p1] k) := by
  obtain ⟨A, m0, dn, hn, ne, nk, qs, lv, he, hd, ow, ki, ed, md, ak, sk, fk, ln, po, cs, kf, fa, ff, fs, ss, ds, mow, mki, med, mmd, mak, msk, mfk, mmn, mpo, mcs, mkf, mss, mot, hCV, hMW, h50, hRL⟩ := h
  obtain ⟨⟨hdn, hhn, hm0, hne, hnk⟩, hag, hCD, hz, hek, hkf, hss, hhd, hB⟩ := id hRL
  obtain ⟨aE, aK, fA, r0, r1, fb, fl, sh, df, dE, dK, vA, ea, oA, cA, fK, vK, mcE, mcK, h0, -⟩ := id hCV
  have hed : ∀ j, j < ne → 0 ≤ med j := fun j hj => by
    obtain ⟨d9, a9, b9⟩ := (hek j hj).1
    rw [(hag j hj).2.2.1, b9]
    exact nI_pos' (by omega)
  refine (k_L_divide G l htr V a0 aE aK fA r0 r1 fb fl sh df (nI m0) (nI dn) qs (nI hn) lv he p0 p1 (c_divide G l htr V a0 m0 (nI dn) qs (nI hn) lv he ne ow ki ed md ak sk fk ln po cs nk kf fa ff fs ss ds hCV p0 p1) (fun E V1 hT => hT.1) ou g9 (fun r V1 hR => ⟨_, hR.1, by rw [hR.2.1]; exact h50⟩) h0).mono (fun rv V1 hR => ?_)
  rcases hR with ⟨rfl, v, V0, hR, hV1⟩ | ⟨rfl, hT⟩
  · obtain ⟨e1, hV0, hy⟩ := hR
    have ev := Value.int.inj (Option.some.inj e1)
    rw [hV0] at hV1
    have hMW1 := hMW.of (V2 := V1) (by rw [hV1]; exact (fun k h1 h2 => uV_ne (by omega)))
    have hCV1 := hCV.of (V2 := V1) (by rw [hV1]; exact fun k i hk => uV_ne (by omega))
    have h501 : V1 50 0 = some (ou, aL G 1 (vp_updL g9 0 v.toInt64)) := by rw [hV1]; exact uV_self _ _ _ _
    refine ⟨0, rfl, hMW1.o, (k_M_divide G l htr V1 a1 A m0 ne nk (nI dn) th qs (nI hn) hd mow mki med mmd mak msk mfk mmn mpo mcs fa mkf ff fs mss mot hne hMW1 p0 p1 ).mono (fun rv V2 hM => ?_)⟩
    rcases hM with ⟨hy0, -, -, -⟩ | ⟨-, rfl, hMW2, hI⟩
    · exact absurd hy0 hy
    · exact ⟨_, rfl, _, ⟨A, m0, dn, hn, ne, nk, qs, lv, he, hd, ow, ki, ed, md, ak, sk, fk, ln, po, cs, kf, fa, ff, fs, ss, ds, mow, mki, med, mmd, mak, msk, mfk, mmn, mpo, mcs, mkf, mss, mot, hCV1.of (fun k i hk => hI k i (Or.inl hk)), hMW2, (hI 50 0 (Or.inr (by decide))).trans h501, ⟨⟨hdn, hhn, hm0, hne, hnk⟩, hag, hCD, hz, hek, hkf, hss, hhd, fun z => False.elim z⟩⟩, fun _ => by rw [ev]; exact pk_uLs⟩
  · obtain ⟨-, hy, hV⟩ := hT
    rw [hV]
    refine ⟨1, rfl, hMW.o, (k_M_divide G l htr V a1 A m0 ne nk (nI dn) th qs (nI hn) hd mow mki med mmd mak msk mfk mmn mpo mcs fa mkf ff fs mss mot hne hMW p0 p1 ).mono (fun rv V2 hM => ?_)⟩
    rcases hM with ⟨-, rfl, hMW2, hI⟩ | ⟨hny, -, -, -⟩
    · exact ⟨_, rfl, _, ⟨A, m0, dn, hn, ne, nk, qs, lv, he, hd, ow, ki, ed, md, ak, sk, fk, ln, po, cs, kf, fa, ff, fs, ss, ds, mow, mki, med, mmd, mak, msk, mfk, mmn, mpo, mcs, mkf, mss, mot, hCV.of (fun k i hk => hI k i (Or.inl hk)), hMW2, (hI 50 0 (Or.inr (by decide))).trans h50, ⟨⟨hdn, hhn, hm0, hne, hnk⟩, hag, hCD, hz, hek, hkf, hss, hhd, fun z => False.elim z⟩⟩, fun z => absurd z (by decide)⟩
    · exact absurd hy hny
set_option maxHeartbeats 4000000 in
theorem j_otherwise (G : Gl) (l : Launch) (htr : l.stackTraces = false) (V : Vw) (a0 a1 ou : Nat) (th : Int32) (g9 : Nat → Int64) (B : Prop) (h : JJ G V a0 a1 ou th g9 B) (p0 p1 : Int32) :
    Cw G l y_L_otherwise b_L_otherwise 5 (some .int) [(0, 10, 13, 13)] { frames := 9, cells := 2, slots := 12, locals := 155 } V [.ref a0, .int p0, .int p1, .ref ou] (fun rv V1 => ∃ k : Int32, rv = some (.int k) ∧ PMo G l y_M_otherwise b_M_otherwise 3 { frames := 2, cells := 0, slots := 0, locals := 43 } V1 a0 a1 ou [.int p0, .int p1] k B) := by
  obtain ⟨A, m0, dn, hn, ne, nk, qs, lv, he, hd, ow, ki, ed, md, ak, sk, fk, ln, po, cs, kf, fa, ff, fs, ss, ds, mow, mki, med, mmd, mak, msk, mfk, mmn, mpo, mcs, mkf, mss, mot, hCV, hMW, h50, hRL⟩ := h
  obtain ⟨⟨hdn, hhn, hm0, hne, hnk⟩, hag, hCD, hz, hek, hkf, hss, hhd, hB⟩ := id hRL
  obtain ⟨aE, aK, fA, r0, r1, fb, fl, sh, df, dE, dK, vA, ea, oA, cA, fK, vK, mcE, mcK, h0, -⟩ := id hCV
  have hed : ∀ j, j < ne → 0 ≤ med j := fun j hj => by
    obtain ⟨d9, a9, b9⟩ := (hek j hj).1
    rw [(hag j hj).2.2.1, b9]
    exact nI_pos' (by omega)
  refine (k_L_otherwise G l htr V a0 aE aK fA r0 r1 fb fl sh df (nI m0) (nI dn) qs (nI hn) lv he p0 p1 (c_otherwise G l htr V a0 m0 (nI dn) qs (nI hn) lv he ne ow ki ed md ak sk fk ln po cs nk kf fa ff fs ss ds hCV p0 p1) (fun E V1 hT => hT.1) ou g9 (fun r V1 hR => by obtain ⟨hV0, on, kn, -, -, -, -, e1⟩ := hR; exact ⟨_, e1, by rw [hV0]; exact h50⟩) h0).mono (fun rv V1 hR => ?_)
  rcases hR with ⟨rfl, v, V0, hR, hV1⟩ | ⟨rfl, hT⟩
  · obtain ⟨hV0, on, kn, hon, hkn, rfl, rfl, e1⟩ := hR
    have ev := Value.int.inj (Option.some.inj e1)
    rw [hV0] at hV1
    have hMW1 := hMW.of (V2 := V1) (by rw [hV1]; exact (fun k h1 h2 => uV_ne (by omega)))
    have hCV1 := hCV.of (V2 := V1) (by rw [hV1]; exact fun k i hk => uV_ne (by omega))
    have h501 : V1 50 0 = some (ou, aL G 1 (vp_updL g9 0 v.toInt64)) := by rw [hV1]; exact uV_self _ _ _ _
    refine ⟨0, rfl, hMW1.o, (k_M_otherwise G l htr V1 a1 A m0 ne nk (nI dn) th qs (nI hn) hd mow mki med mmd mak msk mfk mmn mpo mcs fa mkf ff fs mss mot hne hMW1 (nI on) (nI kn) ).mono (fun rv V2 hM => ?_)⟩
    rcases hM with ⟨hno, -, -, -⟩ | ⟨on2, kn2, hon2, hkn2, eo, ek, rfl, hMW2, hI⟩
    · exact absurd ⟨on, kn, hon, hkn, rfl, rfl⟩ hno
    · obtain rfl : on = on2 := (nI_eq (by omega) (by omega)).mp eo
      obtain rfl : kn = kn2 := (nI_eq (by omega) (by omega)).mp ek
      exact ⟨_, rfl, _, ⟨A, m0, dn, hn, ne, nk, qs, lv, he, hd, ow, ki, ed, md, ak, sk, fk, ln, po, cs, kf, fa, ff, fs, ss, ds, mow, mki, med, mmd, mak, msk, mfk, mmn, mpo, mcs, mkf, mss, mot, hCV1.of (fun k i hk => hI k i (Or.inl hk)), hMW2, (hI 50 0 (Or.inr (by decide))).trans h501, ⟨⟨hdn, hhn, hm0, hne, hnk⟩, hag, hCD, hz, hek, hkf, hss, hhd, fun z => False.elim z⟩⟩, fun hb _ => by rw [ev, show on * 3 + kn = 3 * on + kn by omega, ← hB hb (3 * on + kn) (by omega)]; exact pk_uLs⟩
  · obtain ⟨-, hbad, hV⟩ := hT
    rw [hV]
    refine ⟨1, rfl, hMW.o, (k_M_otherwise G l htr V a1 A m0 ne nk (nI dn) th qs (nI hn) hd mow mki med mmd mak msk mfk mmn mpo mcs fa mkf ff fs mss mot hne hMW p0 p1 ).mono (fun rv V2 hM => ?_)⟩
    rcases hM with ⟨-, rfl, hMW2, hI⟩ | ⟨on2, kn2, hon2, hkn2, eo, ek, -, -, -⟩
    · exact ⟨_, rfl, _, ⟨A, m0, dn, hn, ne, nk, qs, lv, he, hd, ow, ki, ed, md, ak, sk, fk, ln, po, cs, kf, fa, ff, fs, ss, ds, mow, mki, med, mmd, mak, msk, mfk, mmn, mpo, mcs, mkf, mss, mot, hCV.of (fun k i hk => hI k i (Or.inl hk)), hMW2, (hI 50 0 (Or.inr (by decide))).trans h50, ⟨⟨hdn, hhn, hm0, hne, hnk⟩, hag, hCD, hz, hek, hkf, hss, hhd, fun z => False.elim z⟩⟩, fun _ z => absurd z (by decide)⟩
    · exact absurd ⟨on2, kn2, hon2, hkn2, eo, ek⟩ (pl_bad hbad)
set_option maxHeartbeats 4000000 in
theorem j_edition (G : Gl) (l : Launch) (htr : l.stackTraces = false) (V : Vw) (a0 a1 ou : Nat) (th : Int32) (g9 : Nat → Int64) (B : Prop) (h : JJ G V a0 a1 ou th g9 B) (p0 p1 p2 : Int32) :
    Cw G l y_L_edition b_L_edition 6 (some .int) [(0, 12, 15, 13)] { frames := 9, cells := 3, slots := 18, locals := 156 } V [.ref a0, .int p0, .int p1, .int p2, .ref ou] (fun rv V1 => ∃ k : Int32, rv = some (.int k) ∧ PMi G l y_M_edition b_M_edition 4 { frames := 2, cells := 0, slots := 0, locals := 43 } V1 a0 a1 ou [.int p0, .int p1, .int p2] k) := by
  obtain ⟨A, m0, dn, hn, ne, nk, qs, lv, he, hd, ow, ki, ed, md, ak, sk, fk, ln, po, cs, kf, fa, ff, fs, ss, ds, mow, mki, med, mmd, mak, msk, mfk, mmn, mpo, mcs, mkf, mss, mot, hCV, hMW, h50, hRL⟩ := h
  obtain ⟨⟨hdn, hhn, hm0, hne, hnk⟩, hag, hCD, hz, hek, hkf, hss, hhd, hB⟩ := id hRL
  obtain ⟨aE, aK, fA, r0, r1, fb, fl, sh, df, dE, dK, vA, ea, oA, cA, fK, vK, mcE, mcK, h0, -⟩ := id hCV
  have hed : ∀ j, j < ne → 0 ≤ med j := fun j hj => by
    obtain ⟨d9, a9, b9⟩ := (hek j hj).1
    rw [(hag j hj).2.2.1, b9]
    exact nI_pos' (by omega)
  refine (k_L_edition G l htr V a0 aE aK fA r0 r1 fb fl sh df (nI m0) (nI dn) qs (nI hn) lv he p0 p1 p2 (c_edition G l htr V a0 m0 (nI dn) qs (nI hn) lv he ne ow ki ed md ak sk fk ln po cs nk kf fa ff fs ss ds hCV p0 p1 p2) (fun E V1 hT => hT.1) ou g9 (fun r V1 hR => by obtain ⟨hV0, -, on, kn, -, -, -, -, e1⟩ := hR; exact ⟨_, e1, by rw [hV0]; exact h50⟩) h0).mono (fun rv V1 hR => ?_)
  rcases hR with ⟨rfl, v, V0, hR, hV1⟩ | ⟨rfl, hT⟩
  · obtain ⟨hV0, hd9, on, kn, hon, hkn, rfl, rfl, e1⟩ := hR
    have ev := Value.int.inj (Option.some.inj e1)
    rw [hV0] at hV1
    have hMW1 := hMW.of (V2 := V1) (by rw [hV1]; exact (fun k h1 h2 => uV_ne (by omega)))
    have hCV1 := hCV.of (V2 := V1) (by rw [hV1]; exact fun k i hk => uV_ne (by omega))
    have h501 : V1 50 0 = some (ou, aL G 1 (vp_updL g9 0 v.toInt64)) := by rw [hV1]; exact uV_self _ _ _ _
    refine ⟨0, rfl, hMW1.o, (k_M_edition G l htr V1 a1 A m0 ne nk (nI dn) th qs (nI hn) hd mow mki med mmd mak msk mfk mmn mpo mcs fa mkf ff fs mss mot hne hMW1 (nI on) (nI kn) p2 hed).mono (fun rv V2 hM => ?_)⟩
    rcases hM with ⟨hno, -, -, -⟩ | ⟨-, rfl, hMW2, hI⟩
    · exact absurd ⟨⟨on, kn, hon, hkn, rfl, rfl⟩, hd9⟩ hno
    · exact ⟨_, rfl, _, ⟨A, m0, dn, hn, ne, nk, qs, lv, he, hd, ow, ki, ed, md, ak, sk, fk, ln, po, cs, kf, fa, ff, fs, ss, ds, mow, mki, med, mmd, mak, msk, mfk, mmn, mpo, mcs, mkf, mss, mot, hCV1.of (fun k i hk => hI k i (Or.inl hk)), hMW2, (hI 50 0 (Or.inr (by decide))).trans h501, ⟨⟨hdn, hhn, hm0, hne, hnk⟩, hag, hCD, hz, hek, hkf, hss, hhd, fun z => False.elim z⟩⟩, fun _ => by rw [ev, show pCnt mow mki med mmd (nI on) (nI kn) p2 ne = pCnt ow ki ed md (nI on) (nI kn) p2 ne from pCnt_cg ne (fun i hi => ⟨(hag i hi).1, (hag i hi).2.1, (hag i hi).2.2.1, (hag i hi).2.2.2.1⟩)]; exact pk_uLs⟩
  · obtain ⟨-, hbad, hV⟩ := hT
    rw [hV]
    refine ⟨1, rfl, hMW.o, (k_M_edition G l htr V a1 A m0 ne nk (nI dn) th qs (nI hn) hd mow mki med mmd mak msk mfk mmn mpo mcs fa mkf ff fs mss mot hne hMW p0 p1 p2 hed).mono (fun rv V2 hM => ?_)⟩
    rcases hM with ⟨-, rfl, hMW2, hI⟩ | ⟨hok, -, -, -⟩
    · exact ⟨_, rfl, _, ⟨A, m0, dn, hn, ne, nk, qs, lv, he, hd, ow, ki, ed, md, ak, sk, fk, ln, po, cs, kf, fa, ff, fs, ss, ds, mow, mki, med, mmd, mak, msk, mfk, mmn, mpo, mcs, mkf, mss, mot, hCV.of (fun k i hk => hI k i (Or.inl hk)), hMW2, (hI 50 0 (Or.inr (by decide))).trans h50, ⟨⟨hdn, hhn, hm0, hne, hnk⟩, hag, hCD, hz, hek, hkf, hss, hhd, fun z => False.elim z⟩⟩, fun z => absurd z (by decide)⟩
    · exact absurd hbad (fun z => z.elim (fun y => pl_bad y hok.1) (fun y => rg_bad y hok.2))
set_option maxHeartbeats 4000000 in
theorem j_told (G : Gl) (l : Launch) (htr : l.stackTraces = false) (V : Vw) (a0 a1 ou : Nat) (th : Int32) (g9 : Nat → Int64) (B : Prop) (h : JJ G V a0 a1 ou th g9 B) (p0 p1 : Int32) :
    Cw G l y_L_told b_L_told 5 (some .int) [(0, 10, 13, 24), (0, 10, 17, 13)] { frames := 9, cells := 2, slots := 12, locals := 155 } V [.ref a0, .int p0, .int p1, .ref ou] (fun rv V1 => ∃ k : Int32, rv = some (.int k) ∧ PMi G l y_M_told b_M_told 3 { frames := 2, cells := 0, slots := 0, locals := 43 } V1 a0 a1 ou [.int p0, .int p1] k) := by
  obtain ⟨A, m0, dn, hn, ne, nk, qs, lv, he, hd, ow, ki, ed, md, ak, sk, fk, ln, po, cs, kf, fa, ff, fs, ss, ds, mow, mki, med, mmd, mak, msk, mfk, mmn, mpo, mcs, mkf, mss, mot, hCV, hMW, h50, hRL⟩ := h
  obtain ⟨⟨hdn, hhn, hm0, hne, hnk⟩, hag, hCD, hz, hek, hkf, hss, hhd, hB⟩ := id hRL
  obtain ⟨aE, aK, fA, r0, r1, fb, fl, sh, df, dE, dK, vA, ea, oA, cA, fK, vK, mcE, mcK, h0, -⟩ := id hCV
  have hed : ∀ j, j < ne → 0 ≤ med j := fun j hj => by
    obtain ⟨d9, a9, b9⟩ := (hek j hj).1
    rw [(hag j hj).2.2.1, b9]
    exact nI_pos' (by omega)
  refine (k_L_told G l htr V a0 aE aK fA r0 r1 fb fl sh df (nI m0) (nI dn) qs (nI hn) lv he p0 p1 (c_told G l htr V a0 m0 (nI dn) qs (nI hn) lv he ne ow ki ed md ak sk fk ln po cs nk kf fa ff fs ss ds hCV p0 p1) (fun E V1 hT => hT.2.imp (fun z => z.1) (fun z => z.1)) ou g9 (fun r V1 hR => by obtain ⟨hV0, i, tn, -, -, -, -, e1⟩ := hR; exact ⟨_, e1, by rw [hV0]; exact h50⟩) h0).mono (fun rv V1 hR => ?_)
  rcases hR with ⟨rfl, v, V0, hR, hV1⟩ | ⟨rfl, hT⟩ | ⟨rfl, hT⟩
  · obtain ⟨hV0, i, tn, hi, rfl, htn, rfl, e1⟩ := hR
    have ev := Value.int.inj (Option.some.inj e1)
    obtain ⟨g1, g2, g3, g4, g5, g6, g7⟩ := hag i hi
    rw [hV0] at hV1
    have hMW1 := hMW.of (V2 := V1) (by rw [hV1]; exact (fun k h1 h2 => uV_ne (by omega)))
    have hCV1 := hCV.of (V2 := V1) (by rw [hV1]; exact fun k i hk => uV_ne (by omega))
    have h501 : V1 50 0 = some (ou, aL G 1 (vp_updL g9 0 v.toInt64)) := by rw [hV1]; exact uV_self _ _ _ _
    refine ⟨0, rfl, hMW1.o, (k_M_told G l htr V1 a1 A m0 ne nk (nI dn) th qs (nI hn) hd mow mki med mmd mak msk mfk mmn mpo mcs fa mkf ff fs mss mot hne hMW1 (nI i) (nI tn) ln po cs hCD).mono (fun rv V2 hM => ?_)⟩
    rcases hM with ⟨hno, -, -, -⟩ | ⟨i2, hi2, ei, ⟨hno, -, -, -⟩ | ⟨tn2, htn2, et, rfl, hMW2, hI⟩⟩
    · exact absurd ⟨i, hi, rfl⟩ hno
    · exact absurd (in_ok htn (by decide)) hno
    · obtain rfl : i = i2 := (nI_eq (by omega) (by omega)).mp ei
      obtain rfl : tn = tn2 := (nI_eq (by omega) (by omega)).mp et
      exact ⟨_, rfl, _, ⟨A, m0, dn, hn, ne, nk, qs, lv, he, hd, ow, ki, ed, md, ak, sk, fk, ln, po, cs, kf, fa, ff, fs, ss, ds, mow, mki, med, mmd, mak, msk, mfk, mmn, mpo, mcs, mkf, mss, mot, hCV1.of (fun k i hk => hI k i (Or.inl hk)), hMW2, (hI 50 0 (Or.inr (by decide))).trans h501, ⟨⟨hdn, hhn, hm0, hne, hnk⟩, hag, hCD, hz, hek, hkf, hss, hhd, fun z => False.elim z⟩⟩, fun _ => by rw [ev, g1, g2, g3, g4, g5, g6, g7]; exact pk_uLs⟩
  · obtain ⟨hV, ⟨-, hbad⟩ | ⟨z, -⟩⟩ := hT
    · rw [hV]
      refine ⟨1, rfl, hMW.o, (k_M_told G l htr V a1 A m0 ne nk (nI dn) th qs (nI hn) hd mow mki med mmd mak msk mfk mmn mpo mcs fa mkf ff fs mss mot hne hMW p0 p1 ln po cs hCD).mono (fun rv V2 hM => ?_)⟩
      rcases hM with ⟨-, rfl, hMW2, hI⟩ | ⟨i2, hi2, ei, -⟩
      · exact ⟨_, rfl, _, ⟨A, m0, dn, hn, ne, nk, qs, lv, he, hd, ow, ki, ed, md, ak, sk, fk, ln, po, cs, kf, fa, ff, fs, ss, ds, mow, mki, med, mmd, mak, msk, mfk, mmn, mpo, mcs, mkf, mss, mot, hCV.of (fun k i hk => hI k i (Or.inl hk)), hMW2, (hI 50 0 (Or.inr (by decide))).trans h50, ⟨⟨hdn, hhn, hm0, hne, hnk⟩, hag, hCD, hz, hek, hkf, hss, hhd, fun z => False.elim z⟩⟩, fun z => absurd z (by decide)⟩
      · exact absurd ⟨i2, hi2, ei⟩ (ed_bad hne hbad)
    · exact absurd z (by decide)
  · obtain ⟨hV, ⟨z, -⟩ | ⟨-, hi9, hbad⟩⟩ := hT
    · exact absurd z (by decide)
    · rw [hV]
      refine ⟨2, rfl, hMW.o, (k_M_told G l htr V a1 A m0 ne nk (nI dn) th qs (nI hn) hd mow mki med mmd mak msk mfk mmn mpo mcs fa mkf ff fs mss mot hne hMW p0 p1 ln po cs hCD).mono (fun rv V2 hM => ?_)⟩
      rcases hM with ⟨hno, -, -, -⟩ | ⟨i2, hi2, ei, ⟨-, rfl, hMW2, hI⟩ | ⟨tn2, htn2, rfl, -, -, -⟩⟩
      · exact absurd hi9 hno
      · exact ⟨_, rfl, _, ⟨A, m0, dn, hn, ne, nk, qs, lv, he, hd, ow, ki, ed, md, ak, sk, fk, ln, po, cs, kf, fa, ff, fs, ss, ds, mow, mki, med, mmd, mak, msk, mfk, mmn, mpo, mcs, mkf, mss, mot, hCV.of (fun k i hk => hI k i (Or.inl hk)), hMW2, (hI 50 0 (Or.inr (by decide))).trans h50, ⟨⟨hdn, hhn, hm0, hne, hnk⟩, hag, hCD, hz, hek, hkf, hss, hhd, fun z => False.elim z⟩⟩, fun z => absurd z (by decide)⟩
      · exact absurd (in_ok htn2 (by decide)) (rg_bad hbad)
set_option maxHeartbeats 4000000 in
theorem j_same (G : Gl) (l : Launch) (htr : l.stackTraces = false) (V : Vw) (a0 a1 ou : Nat) (th : Int32) (g9 : Nat → Int64) (B : Prop) (h : JJ G V a0 a1 ou th g9 B) (p0 p1 : Int32) :
    Cw G l y_L_same b_L_same 5 (some .int) [(0, 17, 20, 24)] { frames := 9, cells := 2, slots := 12, locals := 156 } V [.ref a0, .int p0, .int p1, .ref ou] (fun rv V1 => ∃ k : Int32, rv = some (.int k) ∧ PMz G l y_M_same b_M_same 4 { frames := 2, cells := 0, slots := 0, locals := 43 } V1 a0 a1 ou [.int p0, .int p1] k) := by
  obtain ⟨A, m0, dn, hn, ne, nk, qs, lv, he, hd, ow, ki, ed, md, ak, sk, fk, ln, po, cs, kf, fa, ff, fs, ss, ds, mow, mki, med, mmd, mak, msk, mfk, mmn, mpo, mcs, mkf, mss, mot, hCV, hMW, h50, hRL⟩ := h
  obtain ⟨⟨hdn, hhn, hm0, hne, hnk⟩, hag, hCD, hz, hek, hkf, hss, hhd, hB⟩ := id hRL
  obtain ⟨aE, aK, fA, r0, r1, fb, fl, sh, df, dE, dK, vA, ea, oA, cA, fK, vK, mcE, mcK, h0, -⟩ := id hCV
  have hed : ∀ j, j < ne → 0 ≤ med j := fun j hj => by
    obtain ⟨d9, a9, b9⟩ := (hek j hj).1
    rw [(hag j hj).2.2.1, b9]
    exact nI_pos' (by omega)
  refine (k_L_same G l htr V a0 aE aK fA r0 r1 fb fl sh df (nI m0) (nI dn) qs (nI hn) lv he p0 p1 (c_same G l htr V a0 m0 (nI dn) qs (nI hn) lv he ne ow ki ed md ak sk fk ln po cs nk kf fa ff fs ss ds hCV p0 p1) (fun E V1 hT => hT.1) ou g9 (fun r V1 hR => by obtain ⟨hV0, i, i2, -, -, -, -, e1⟩ := hR; exact ⟨_, e1, by rw [hV0]; exact h50⟩) h0).mono (fun rv V1 hR => ?_)
  rcases hR with ⟨rfl, v, V0, hR, hV1⟩ | ⟨rfl, hT⟩
  · obtain ⟨hV0, i, i2, hi, hi2, rfl, rfl, e1⟩ := hR
    have ev := Value.int.inj (Option.some.inj e1)
    rw [hV0] at hV1
    have hMW1 := hMW.of (V2 := V1) (by rw [hV1]; exact (fun k h1 h2 => uV_ne (by omega)))
    have hCV1 := hCV.of (V2 := V1) (by rw [hV1]; exact fun k i hk => uV_ne (by omega))
    have h501 : V1 50 0 = some (ou, aL G 1 (vp_updL g9 0 (if v = 0 then 0 else 1))) := by rw [hV1]; exact uV_self _ _ _ _
    refine ⟨0, rfl, hMW1.o, (k_M_same G l htr V1 a1 A m0 ne nk (nI dn) th qs (nI hn) hd mow mki med mmd mak msk mfk mmn mpo mcs fa mkf ff fs mss mot hne hMW1 (nI i) (nI i2) ln po cs hCD).mono (fun rv V2 hM => ?_)⟩
    rcases hM with ⟨hno, -, -, -⟩ | ⟨j, j2, hj, hj2, ej, ej2, z, rfl, hz9, hMW2, hI⟩
    · exact absurd ⟨⟨i, hi, rfl⟩, ⟨i2, hi2, rfl⟩⟩ hno
    · obtain rfl : i = j := (nI_eq (by omega) (by omega)).mp ej
      obtain rfl : i2 = j2 := (nI_eq (by omega) (by omega)).mp ej2
      have evz : v = z := by
        rw [ev]
        by_cases q : (ln i = ln i2 ∧ (∀ a, a < ln i → po i a = po i2 a ∧ cs i a = cs i2 a))
        · rw [if_pos q, hz9.eq1 q]
        · rw [if_neg q, hz9.eq0 q]
      exact ⟨_, rfl, _, ⟨A, m0, dn, hn, ne, nk, qs, lv, he, hd, ow, ki, ed, md, ak, sk, fk, ln, po, cs, kf, fa, ff, fs, ss, ds, mow, mki, med, mmd, mak, msk, mfk, mmn, mpo, mcs, mkf, mss, mot, hCV1.of (fun k i hk => hI k i (Or.inl hk)), hMW2, (hI 50 0 (Or.inr (by decide))).trans h501, ⟨⟨hdn, hhn, hm0, hne, hnk⟩, hag, hCD, hz, hek, hkf, hss, hhd, fun z => False.elim z⟩⟩, fun _ => by rw [evz]; exact pk_uLs⟩
  · obtain ⟨-, hV, hbad⟩ := hT
    rw [hV]
    refine ⟨1, rfl, hMW.o, (k_M_same G l htr V a1 A m0 ne nk (nI dn) th qs (nI hn) hd mow mki med mmd mak msk mfk mmn mpo mcs fa mkf ff fs mss mot hne hMW p0 p1 ln po cs hCD).mono (fun rv V2 hM => ?_)⟩
    rcases hM with ⟨-, rfl, hMW2, hI⟩ | ⟨j, j2, hj, hj2, ej, ej2, -⟩
    · exact ⟨_, rfl, _, ⟨A, m0, dn, hn, ne, nk, qs, lv, he, hd, ow, ki, ed, md, ak, sk, fk, ln, po, cs, kf, fa, ff, fs, ss, ds, mow, mki, med, mmd, mak, msk, mfk, mmn, mpo, mcs, mkf, mss, mot, hCV.of (fun k i hk => hI k i (Or.inl hk)), hMW2, (hI 50 0 (Or.inr (by decide))).trans h50, ⟨⟨hdn, hhn, hm0, hne, hnk⟩, hag, hCD, hz, hek, hkf, hss, hhd, fun z => False.elim z⟩⟩, fun z => absurd z (by decide)⟩
    · exact absurd hbad (fun z => z.elim (fun y => ed_bad hne y ⟨j, hj, ej⟩) (fun y => ed_bad hne y ⟨j2, hj2, ej2⟩))
set_option maxHeartbeats 4000000 in
theorem j_handle (G : Gl) (l : Launch) (htr : l.stackTraces = false) (V : Vw) (a0 a1 ou : Nat) (th : Int32) (g9 : Nat → Int64) (B : Prop) (h : JJ G V a0 a1 ou th g9 B) (p0 : Int32) :
    Cw G l y_L_handle b_L_handle 4 (some .int) [(0, 9, 12, 24), (0, 9, 15, 26), (0, 9, 18, 19)] { frames := 9, cells := 2, slots := 12, locals := 153 } V [.ref a0, .int p0, .ref ou] (fun rv V1 => ∃ k : Int32, rv = some (.int k) ∧ PMi G l y_M_handle b_M_handle 2 { frames := 2, cells := 0, slots := 0, locals := 43 } V1 a0 a1 ou [.int p0] k) := by
  obtain ⟨A, m0, dn, hn, ne, nk, qs, lv, he, hd, ow, ki, ed, md, ak, sk, fk, ln, po, cs, kf, fa, ff, fs, ss, ds, mow, mki, med, mmd, mak, msk, mfk, mmn, mpo, mcs, mkf, mss, mot, hCV, hMW, h50, hRL⟩ := h
  obtain ⟨⟨hdn, hhn, hm0, hne, hnk⟩, hag, hCD, hz, hek, hkf, hss, hhd, hB⟩ := id hRL
  obtain ⟨aE, aK, fA, r0, r1, fb, fl, sh, df, dE, dK, vA, ea, oA, cA, fK, vK, mcE, mcK, h0, -⟩ := id hCV
  have hed : ∀ j, j < ne → 0 ≤ med j := fun j hj => by
    obtain ⟨d9, a9, b9⟩ := (hek j hj).1
    rw [(hag j hj).2.2.1, b9]
    exact nI_pos' (by omega)
  refine (k_L_handle G l htr V a0 aE aK fA r0 r1 fb fl sh df (nI m0) (nI dn) qs (nI hn) lv he p0 (c_handle G l htr V a0 m0 (nI dn) qs (nI hn) lv he ne ow ki ed md ak sk fk ln po cs nk kf fa ff fs ss ds hCV p0) (fun E V1 hT => by obtain ⟨-, ⟨z, -⟩ | ⟨i, -, -, ⟨z, -⟩ | ⟨z, -, -⟩⟩⟩ := hT; exact Or.inl z; exact Or.inr (Or.inl z); exact Or.inr (Or.inr z)) ou g9 (fun r V1 hR => by obtain ⟨i, -, -, -, -, e1, -, hO⟩ := hR; exact ⟨_, e1, (hO 50 0 (by decide)).trans h50⟩) h0).mono (fun rv V1 hR => ?_)
  rcases hR with ⟨rfl, v, V0, hR, hV1⟩ | ⟨rfl, hT⟩ | ⟨rfl, hT⟩ | ⟨rfl, hT⟩
  · obtain ⟨i, hi, rfl, hmd, hlt, e1, hCV2, hO⟩ := hR
    have ev := Value.int.inj (Option.some.inj e1)
    obtain ⟨g1, g2, g3, g4, g5, g6, g7⟩ := hag i hi
    have hlt9 : hn < 10000 := (nI_ltI (by omega) (by decide)).mp (show nI hn < nI 10000 from hlt)
    rw [nI_1] at hCV2 ev
    have hMW1 := hMW.of (V2 := V1) (by rw [hV1]; exact (fun k h1 h2 => (uV_ne (by omega)).trans (hO k 0 h1)))
    have hCV1 := hCV2.of (V2 := V1) (by rw [hV1]; exact fun k i hk => uV_ne (by omega))
    have h501 : V1 50 0 = some (ou, aL G 1 (vp_updL g9 0 v.toInt64)) := by rw [hV1]; exact uV_self _ _ _ _
    refine ⟨0, rfl, hMW1.o, (k_M_handle G l htr V1 a1 A m0 ne nk (nI dn) th qs (nI hn) hd mow mki med mmd mak msk mfk mmn mpo mcs fa mkf ff fs mss mot hne hMW1 (nI i) ).mono (fun rv V2 hM => ?_)⟩
    rcases hM with ⟨hno, -, -, -⟩ | ⟨i2, hi2, ei, ⟨hm9, -, -, -⟩ | ⟨-, h10, -, -, -⟩ | ⟨-, -, rfl, hMW2, hI⟩⟩
    · exact absurd ⟨i, hi, rfl⟩ hno
    · obtain rfl : i = i2 := (nI_eq (by omega) (by omega)).mp ei
      exact absurd (g4.symm.trans hm9) hmd
    · exact absurd h10 (Int32.ne_of_lt hlt)
    · obtain rfl : i = i2 := (nI_eq (by omega) (by omega)).mp ei
      rw [nI_1] at hMW2 ⊢
      exact ⟨_, rfl, _, ⟨A, m0, dn, hn + 1, ne, nk, qs, nI (hn + 1), nI i, nI i, ow, ki, ed, md, ak, sk, fk, ln, po, cs, kf, fa, ff, fs, ss, ds, mow, mki, med, mmd, mak, msk, mfk, mmn, mpo, mcs, mkf, mss, mot, hCV1.of (fun k i hk => hI k i (Or.inl hk)), hMW2, (hI 50 0 (Or.inr (by decide))).trans h501, ⟨⟨hdn, (by omega), hm0, hne, hnk⟩, hag, hCD, hz, hek, hkf, hss, Or.inr ⟨rfl, by omega, rfl, i, hi, rfl⟩, fun z => False.elim z⟩⟩, fun _ => by rw [ev]; exact pk_uLs⟩
  · obtain ⟨hV, ⟨-, hbad⟩ | ⟨i, -, -, ⟨z, -⟩ | ⟨z, -, -⟩⟩⟩ := hT
    · rw [hV]
      refine ⟨1, rfl, hMW.o, (k_M_handle G l htr V a1 A m0 ne nk (nI dn) th qs (nI hn) hd mow mki med mmd mak msk mfk mmn mpo mcs fa mkf ff fs mss mot hne hMW p0 ).mono (fun rv V2 hM => ?_)⟩
      rcases hM with ⟨-, rfl, hMW2, hI⟩ | ⟨i2, hi2, ei, -⟩
      · exact ⟨_, rfl, _, ⟨A, m0, dn, hn, ne, nk, qs, lv, he, hd, ow, ki, ed, md, ak, sk, fk, ln, po, cs, kf, fa, ff, fs, ss, ds, mow, mki, med, mmd, mak, msk, mfk, mmn, mpo, mcs, mkf, mss, mot, hCV.of (fun k i hk => hI k i (Or.inl hk)), hMW2, (hI 50 0 (Or.inr (by decide))).trans h50, ⟨⟨hdn, hhn, hm0, hne, hnk⟩, hag, hCD, hz, hek, hkf, hss, hhd, fun z => False.elim z⟩⟩, fun z => absurd z (by decide)⟩
      · exact absurd ⟨i2, hi2, ei⟩ (ed_bad hne hbad)
    · exact absurd z (by decide)
    · exact absurd z (by decide)
  · obtain ⟨hV, ⟨z, -⟩ | ⟨i, hi, rfl, ⟨-, hmd⟩ | ⟨z, -, -⟩⟩⟩ := hT
    · exact absurd z (by decide)
    · obtain ⟨g1, g2, g3, g4, g5, g6, g7⟩ := hag i hi
      rw [hV]
      refine ⟨2, rfl, hMW.o, (k_M_handle G l htr V a1 A m0 ne nk (nI dn) th qs (nI hn) hd mow mki med mmd mak msk mfk mmn mpo mcs fa mkf ff fs mss mot hne hMW (nI i) ).mono (fun rv V2 hM => ?_)⟩
      rcases hM with ⟨hno, -, -, -⟩ | ⟨i2, hi2, ei, ⟨-, rfl, hMW2, hI⟩ | ⟨hm9, -, -, -, -⟩ | ⟨hm9, -, -, -, -⟩⟩
      · exact absurd ⟨i, hi, rfl⟩ hno
      · exact ⟨_, rfl, _, ⟨A, m0, dn, hn, ne, nk, qs, lv, he, hd, ow, ki, ed, md, ak, sk, fk, ln, po, cs, kf, fa, ff, fs, ss, ds, mow, mki, med, mmd, mak, msk, mfk, mmn, mpo, mcs, mkf, mss, mot, hCV.of (fun k i hk => hI k i (Or.inl hk)), hMW2, (hI 50 0 (Or.inr (by decide))).trans h50, ⟨⟨hdn, hhn, hm0, hne, hnk⟩, hag, hCD, hz, hek, hkf, hss, hhd, fun z => False.elim z⟩⟩, fun z => absurd z (by decide)⟩
      · obtain rfl : i = i2 := (nI_eq (by omega) (by omega)).mp ei
        exact absurd (g4.trans hmd) hm9
      · obtain rfl : i = i2 := (nI_eq (by omega) (by omega)).mp ei
        exact absurd (g4.trans hmd) hm9
    · exact absurd z (by decide)
  · obtain ⟨hV, ⟨z, -⟩ | ⟨i, hi, rfl, ⟨z, -⟩ | ⟨-, hmd, hge⟩⟩⟩ := hT
    · exact absurd z (by decide)
    · exact absurd z (by decide)
    · obtain ⟨g1, g2, g3, g4, g5, g6, g7⟩ := hag i hi
      have h10 : nI hn = 10000 := by
        have z : 10000 ≤ hn := (nI_leI (by decide) (by omega)).mp (show nI 10000 ≤ nI hn from hge)
        exact congrArg nI (show hn = 10000 by omega)
      rw [hV]
      refine ⟨3, rfl, hMW.o, (k_M_handle G l htr V a1 A m0 ne nk (nI dn) th qs (nI hn) hd mow mki med mmd mak msk mfk mmn mpo mcs fa mkf ff fs mss mot hne hMW (nI i) ).mono (fun rv V2 hM => ?_)⟩
      rcases hM with ⟨hno, -, -, -⟩ | ⟨i2, hi2, ei, ⟨hm9, -, -, -⟩ | ⟨-, -, rfl, hMW2, hI⟩ | ⟨-, hn10, -, -, -⟩⟩
      · exact absurd ⟨i, hi, rfl⟩ hno
      · obtain rfl : i = i2 := (nI_eq (by omega) (by omega)).mp ei
        exact absurd (g4.symm.trans hm9) hmd
      · exact ⟨_, rfl, _, ⟨A, m0, dn, hn, ne, nk, qs, lv, he, hd, ow, ki, ed, md, ak, sk, fk, ln, po, cs, kf, fa, ff, fs, ss, ds, mow, mki, med, mmd, mak, msk, mfk, mmn, mpo, mcs, mkf, mss, mot, hCV.of (fun k i hk => hI k i (Or.inl hk)), hMW2, (hI 50 0 (Or.inr (by decide))).trans h50, ⟨⟨hdn, hhn, hm0, hne, hnk⟩, hag, hCD, hz, hek, hkf, hss, hhd, fun z => False.elim z⟩⟩, fun z => absurd z (by decide)⟩
      · exact absurd h10 hn10
theorem hss_up {mss ss : Nat → Int32} {ne : Nat} {n : Int32} {c : Nat} (h : ∀ q, q < 18 → mss q = ss q ∧ (ss q = -1 ∨ ∃ i : Nat, i < ne ∧ ss q = nI i)) (hn : n = -1 ∨ ∃ i : Nat, i < ne ∧ n = nI i) : ∀ q, q < 18 → upd mss c n q = upd ss c n q ∧ (upd ss c n q = -1 ∨ ∃ i : Nat, i < ne ∧ upd ss c n q = nI i) := by
  intro q hq
  unfold upd
  by_cases e : q = c
  · rw [if_pos e, if_pos e]
    exact ⟨rfl, hn⟩
  · rw [if_neg e, if_neg e]
    exact h q hq
theorem up_z {f : Nat → Int32} {i ne : Nat} {x y : Int32} (hi : i < ne) {j : Nat} (hj : ne ≤ j) (h : f j = y) : upd f i x j = y := (if_neg (by omega)).trans h
theorem up_a {f f2 : Nat → Int32} {i j : Nat} {x : Int32} (h : f j = f2 j) : upd f i x j = va_up f2 i x j := by
  unfold upd va_up
  by_cases e : j = i
  · rw [if_pos e, if_pos e]
  · rw [if_neg e, if_neg e, h]
theorem up_s {f f2 : Nat → Int32} {i j : Nat} {x : Int32} (h : f j = f2 j) (hx : f2 i = x) : upd f i x j = f2 j := by
  unfold upd
  by_cases e : j = i
  · rw [if_pos e, e, hx]
  · rw [if_neg e, h]
theorem CD_op {ne : Nat} {mmn mpo mcs : Nat → Int32} {ln : Nat → Nat} {po cs : Nat → Nat → Int32} (h : CD ne mmn mpo mcs ln po cs) {i on : Nat} {cn : Int32} (hi : i < ne) (hon : on ≤ 10) (hl : ln i < 16) (hc : pLs (nI on) ≤ cn ∧ cn ≤ pGr on) : CD ne (upd mmn i (nI (ln i + 1))) (upd mpo (16 * i + ln i) (nI on)) (upd mcs (16 * i + ln i) cn) (va_up ln i (ln i + 1)) (va_up po i (upd (po i) (ln i) (nI on))) (va_up cs i (upd (cs i) (ln i) cn)) := by
  intro j hj
  obtain ⟨h1, h2, h3, h4⟩ := h j hj
  by_cases e : j = i
  · subst e
    rw [va_up_self, va_up_self, va_up_self]
    refine ⟨if_pos rfl, ok_op h2 hl hon hc, fun a ha => ?_, fun a ha h8 => ?_⟩
    · unfold upd
      by_cases ea : a = ln j
      · subst ea
        rw [if_pos rfl, if_pos rfl, if_pos rfl, if_pos rfl]
        exact ⟨rfl, rfl⟩
      · have ne1 : ¬ 16 * j + a = 16 * j + ln j := by omega
        rw [if_neg ne1, if_neg ea, if_neg ne1, if_neg ea]
        exact h3 a (by omega)
    · by_cases ea : a = ln j
      · subst ea
        have e8 : nI on = nI 8 := (if_pos rfl : upd (po j) (ln j) (nI on) (ln j) = nI on).symm.trans h8
        have e9 : on = 8 := (nI_eq (by omega) (by decide)).mp e8
        subst e9
        rw [show pLs (nI 8) = 0 by decide, show pGr 8 = 15 by decide] at hc
        obtain ⟨c1, a1, b1⟩ := (in_iff (n := 15) (by decide)).mp hc
        exact ⟨c1, by omega, (if_pos rfl : upd (cs j) (ln j) cn (ln j) = cn).trans b1⟩
      · have e8 : po j a = nI 8 := (if_neg ea : upd (po j) (ln j) (nI on) a = po j a).symm.trans h8
        obtain ⟨c1, a1, b1⟩ := h4 a (by omega) e8
        exact ⟨c1, a1, (if_neg ea : upd (cs j) (ln j) cn a = cs j a).trans b1⟩
  · rw [va_up_ne _ _ e, va_up_ne _ _ e, va_up_ne _ _ e]
    have h16 := h2.1
    refine ⟨(if_neg e).trans h1, h2, fun a ha => ?_, h4⟩
    have ne1 : ¬ 16 * j + a = 16 * i + ln i := by omega
    exact ⟨(if_neg ne1).trans (h3 a ha).1, (if_neg ne1).trans (h3 a ha).2⟩
theorem CD_new {ne : Nat} {mmn mpo mcs : Nat → Int32} {ln : Nat → Nat} {po cs : Nat → Nat → Int32} (h : CD ne mmn mpo mcs ln po cs) (h0 : mmn ne = 0) : CD (ne + 1) mmn mpo mcs (va_up ln ne 0) (va_up po ne (fun _ => 0)) (va_up cs ne (fun _ => 0)) := by
  intro j hj
  by_cases e : j = ne
  · subst e
    rw [va_up_self, va_up_self, va_up_self]
    exact ⟨h0, ⟨by omega, fun a ha => absurd ha (by omega)⟩, fun a ha => absurd ha (by omega), fun a ha => absurd ha (by omega)⟩
  · rw [va_up_ne _ _ e, va_up_ne _ _ e, va_up_ne _ _ e]
    exact h j (by omega)
theorem up_n {f f2 : Nat → Int32} {ne j : Nat} {x : Int32} (hj : j < ne + 1) (h : j < ne → f j = f2 j) : upd f ne x j = va_up f2 ne x j := by
  by_cases e : j = ne
  · subst e
    rw [va_up_self]
    exact if_pos rfl
  · rw [va_up_ne _ _ e]
    exact (if_neg e).trans (h (by omega))
theorem up_0 {f f2 : Nat → Int32} {ne j : Nat} (hj : j < ne + 1) (h : j < ne → f j = f2 j) (h0 : f ne = 0) : f j = va_up f2 ne 0 j := by
  by_cases e : j = ne
  · subst e
    rw [va_up_self]
    exact h0
  · rw [va_up_ne _ _ e]
    exact h (by omega)
theorem pDiff_cg {E1 E2 D1 D2 : Nat → Int32 × Int32} : ∀ n, (∀ j, j < n → E1 j = D1 j ∧ E2 j = D2 j) → pDiff E1 E2 n = pDiff D1 D2 n
  | 0, _ => rfl
  | n + 1, h => by
    unfold pDiff
    obtain ⟨h1, h2⟩ := h n (by omega)
    rw [pDiff_cg n (fun j hj => h j (by omega)), h1, h2]
theorem kept_cg {ne nk m0 : Nat} {mmn mpo mcs mkf : Nat → Int32} {ln : Nat → Nat} {po cs kf : Nat → Nat → Int32} (hCD : CD ne mmn mpo mcs ln po cs) (hkf : ∀ q, q < nk → ∀ j, j < 8 → mkf (8 * q + j) = kf q j) {i j : Nat} (hi : i < ne) (hj : j < nk) (ak : Int32) : pEnd (ln i) (po i) (cs i) (fun q => mkf (8 * j + q)) ak m0 = pEnd (ln i) (po i) (cs i) (kf j) ak m0 := by
  obtain ⟨h1, h2, h3, h4⟩ := hCD i hi
  refine pRun_cg h2.1 (fun _ _ => ⟨rfl, rfl⟩) (fun a ha e1 => ?_) m0 (fun a ha => ?_)
  · obtain ⟨o, ho, eo, hc⟩ := h2.2 a ha
    have e2 : o = 1 := (nI_eq (by omega) (by decide)).mp (eo.symm.trans e1)
    obtain ⟨c, hc8, ec⟩ := hc e2
    rw [ec, nI_clamp (by omega)]
    exact hkf j hj c hc8
  · obtain ⟨o, ho, eo, -⟩ := h2.2 a ha
    exact ⟨o, ho, eo⟩
set_option maxHeartbeats 4000000 in
theorem j_shadow (G : Gl) (l : Launch) (htr : l.stackTraces = false) (V : Vw) (a0 a1 ou : Nat) (th : Int32) (g9 : Nat → Int64) (B : Prop) (h : JJ G V a0 a1 ou th g9 B) (p0 p1 p2 : Int32) :
    Cw G l y_L_shadow b_L_shadow 5 (some .int) [(0, 7, 10, 24), (0, 7, 14, 13)] { frames := 9, cells := 3, slots := 18, locals := 156 } V [.ref a0, .int p0, .int p1, .int p2] (fun rv V1 => ∃ k : Int32, rv = some (.int k) ∧ PMv G l y_M_shadow b_M_shadow 4 { frames := 2, cells := 0, slots := 0, locals := 43 } V1 a0 a1 ou [.int p0, .int p1, .int p2] k) := by
  obtain ⟨A, m0, dn, hn, ne, nk, qs, lv, he, hd, ow, ki, ed, md, ak, sk, fk, ln, po, cs, kf, fa, ff, fs, ss, ds, mow, mki, med, mmd, mak, msk, mfk, mmn, mpo, mcs, mkf, mss, mot, hCV, hMW, h50, hRL⟩ := h
  obtain ⟨⟨hdn, hhn, hm0, hne, hnk⟩, hag, hCD, hz, hek, hkf, hss, hhd, hB⟩ := id hRL
  obtain ⟨aE, aK, fA, r0, r1, fb, fl, sh, df, dE, dK, vA, ea, oA, cA, fK, vK, mcE, mcK, h0, -⟩ := id hCV
  have hed : ∀ j, j < ne → 0 ≤ med j := fun j hj => by
    obtain ⟨d9, a9, b9⟩ := (hek j hj).1
    rw [(hag j hj).2.2.1, b9]
    exact nI_pos' (by omega)
  refine (k_L_shadow G l htr V a0 aE aK fA r0 r1 fb fl sh df (nI m0) (nI dn) qs (nI hn) lv he p0 p1 p2 (c_shadow G l htr V a0 m0 (nI dn) qs (nI hn) lv he ne ow ki ed md ak sk fk ln po cs nk kf fa ff fs ss ds hCV p0 p1 p2) (fun E V1 hT => hT.2.imp (fun z => z.1) (fun z => z.1)) (fun r V1 hR => hR.1) h0).mono (fun rv V1 hR => ?_)
  rcases hR with ⟨rfl, hR⟩ | ⟨rfl, hT⟩ | ⟨rfl, hT⟩
  · obtain ⟨-, hn9, on, kn, hon, hkn, rfl, rfl, hCV1, hO⟩ := hR
    have hMW1 := hMW.of (V2 := V1) (fun k h1 h2 => hO k 0 h1)
    have h501 := (hO 50 0 (by decide)).trans h50
    refine ⟨0, rfl, hMW1.o, (k_M_shadow G l htr V1 a1 A m0 ne nk (nI dn) th qs (nI hn) hd mow mki med mmd mak msk mfk mmn mpo mcs fa mkf ff fs mss mot hne hMW1 (nI on) (nI kn) p2 ).mono (fun rv V2 hM => ?_)⟩
    rcases hM with ⟨rfl, ⟨h1, h2, -, -⟩ | ⟨-, hno, -, -⟩ | ⟨-, on2, kn2, hon2, hkn2, eo, ek, hMW2, hI⟩⟩
    · exact absurd hn9 (fun z => z.elim h1 h2)
    · exact absurd ⟨on, kn, hon, hkn, rfl, rfl⟩ hno
    · obtain rfl : on = on2 := (nI_eq (by omega) (by omega)).mp eo
      obtain rfl : kn = kn2 := (nI_eq (by omega) (by omega)).mp ek
      rw [show on * 3 + kn = 3 * on + kn by omega] at hCV1
      exact ⟨rfl, _, ⟨A, m0, dn, hn, ne, nk, qs, lv, he, hd, ow, ki, ed, md, ak, sk, fk, ln, po, cs, kf, fa, ff, fs, upd ss (3 * on + kn) p2, upd ds (3 * on + kn) 0, mow, mki, med, mmd, mak, msk, mfk, mmn, mpo, mcs, mkf, upd mss (3 * on + kn) p2, upd mot (3 * on + kn) 0, hCV1.of (fun k i hk => hI k i (Or.inl hk)), hMW2, (hI 50 0 (Or.inr (by decide))).trans h501, ⟨⟨hdn, hhn, hm0, hne, hnk⟩, hag, hCD, hz, hek, hkf, hss_up hss hn9, hhd, fun z => False.elim z⟩⟩⟩
  · obtain ⟨hV, ⟨-, hn1, hbad⟩ | ⟨z, -⟩⟩ := hT
    · rw [hV]
      refine ⟨1, rfl, hMW.o, (k_M_shadow G l htr V a1 A m0 ne nk (nI dn) th qs (nI hn) hd mow mki med mmd mak msk mfk mmn mpo mcs fa mkf ff fs mss mot hne hMW p0 p1 p2 ).mono (fun rv V2 hM => ?_)⟩
      rcases hM with ⟨rfl, ⟨-, -, hMW2, hI⟩ | ⟨hok, -, -, -⟩ | ⟨hok, -⟩⟩
      · exact ⟨rfl, _, ⟨A, m0, dn, hn, ne, nk, qs, lv, he, hd, ow, ki, ed, md, ak, sk, fk, ln, po, cs, kf, fa, ff, fs, ss, ds, mow, mki, med, mmd, mak, msk, mfk, mmn, mpo, mcs, mkf, mss, mot, hCV.of (fun k i hk => hI k i (Or.inl hk)), hMW2, (hI 50 0 (Or.inr (by decide))).trans h50, ⟨⟨hdn, hhn, hm0, hne, hnk⟩, hag, hCD, hz, hek, hkf, hss, hhd, fun z => False.elim z⟩⟩⟩
      · exact absurd hok (fun z => z.elim hn1 (ed_bad hne hbad))
      · exact absurd hok (fun z => z.elim hn1 (ed_bad hne hbad))
    · exact absurd z (by decide)
  · obtain ⟨hV, ⟨z, -⟩ | ⟨-, hn9, hbad⟩⟩ := hT
    · exact absurd z (by decide)
    · rw [hV]
      refine ⟨2, rfl, hMW.o, (k_M_shadow G l htr V a1 A m0 ne nk (nI dn) th qs (nI hn) hd mow mki med mmd mak msk mfk mmn mpo mcs fa mkf ff fs mss mot hne hMW p0 p1 p2 ).mono (fun rv V2 hM => ?_)⟩
      rcases hM with ⟨rfl, ⟨h1, h2, -, -⟩ | ⟨-, -, hMW2, hI⟩ | ⟨-, on2, kn2, hon2, hkn2, eo, ek, -, -⟩⟩
      · exact absurd hn9 (fun z => z.elim h1 h2)
      · exact ⟨rfl, _, ⟨A, m0, dn, hn, ne, nk, qs, lv, he, hd, ow, ki, ed, md, ak, sk, fk, ln, po, cs, kf, fa, ff, fs, ss, ds, mow, mki, med, mmd, mak, msk, mfk, mmn, mpo, mcs, mkf, mss, mot, hCV.of (fun k i hk => hI k i (Or.inl hk)), hMW2, (hI 50 0 (Or.inr (by decide))).trans h50, ⟨⟨hdn, hhn, hm0, hne, hnk⟩, hag, hCD, hz, hek, hkf, hss, hhd, fun z => False.elim z⟩⟩⟩
      · exact absurd ⟨on2, kn2, hon2, hkn2, eo, ek⟩ (pl_bad hbad)
set_option maxHeartbeats 4000000 in
theorem j_by (G : Gl) (l : Launch) (htr : l.stackTraces = false) (V : Vw) (a0 a1 ou : Nat) (th : Int32) (g9 : Nat → Int64) (B : Prop) (h : JJ G V a0 a1 ou th g9 B) (p0 : Int32) :
    Cw G l y_L_by b_L_by 4 (some .int) [(0, 9, 12, 13), (0, 9, 15, 26)] { frames := 9, cells := 2, slots := 12, locals := 154 } V [.ref a0, .int p0, .ref ou] (fun rv V1 => ∃ k : Int32, rv = some (.int k) ∧ PMi G l y_M_by b_M_by 2 { frames := 3, cells := 0, slots := 0, locals := 78 } V1 a0 a1 ou [.int p0] k) := by
  obtain ⟨A, m0, dn, hn, ne, nk, qs, lv, he, hd, ow, ki, ed, md, ak, sk, fk, ln, po, cs, kf, fa, ff, fs, ss, ds, mow, mki, med, mmd, mak, msk, mfk, mmn, mpo, mcs, mkf, mss, mot, hCV, hMW, h50, hRL⟩ := h
  obtain ⟨⟨hdn, hhn, hm0, hne, hnk⟩, hag, hCD, hz, hek, hkf, hss, hhd, hB⟩ := id hRL
  obtain ⟨aE, aK, fA, r0, r1, fb, fl, sh, df, dE, dK, vA, ea, oA, cA, fK, vK, mcE, mcK, h0, -⟩ := id hCV
  have hed : ∀ j, j < ne → 0 ≤ med j := fun j hj => by
    obtain ⟨d9, a9, b9⟩ := (hek j hj).1
    rw [(hag j hj).2.2.1, b9]
    exact nI_pos' (by omega)
  have hki9 : ∀ i, i < ne → ∃ k9 : Nat, k9 ≤ 2 ∧ mki i = nI k9 := fun i hi => by
    rw [(hag i hi).2.1]
    exact (hek i hi).2
  have hhd9 : ¬ hd = -1 → ∃ i : Nat, i < ne ∧ hd = nI i := fun z => by
    rcases hhd with ⟨a, -⟩ | ⟨-, -, a, b⟩
    · exact absurd a z
    · rw [a]
      exact b
  refine (k_L_by G l htr V a0 aE aK fA r0 r1 fb fl sh df (nI m0) (nI dn) qs (nI hn) lv he p0 (c_by G l htr V a0 m0 (nI dn) qs (nI hn) lv he ne ow ki ed md ak sk fk ln po cs nk kf fa ff fs ss ds hCV p0) (fun E V1 hT => hT.2.imp (fun z => z.1) (fun z => z.1)) ou g9 (fun r V1 hR => by obtain ⟨-, -, -, ⟨i, -, -, e1⟩, -, hO⟩ := hR; exact ⟨_, e1, (hO 50 0 (by decide)).trans h50⟩) h0).mono (fun rv V1 hR => ?_)
  rcases hR with ⟨rfl, v, V0, hR, hV1⟩ | ⟨rfl, hT⟩ | ⟨rfl, hT⟩
  · obtain ⟨h1, hle, hlv, ⟨i, hi, hei, e1⟩, hCV2, hO⟩ := hR
    have ev := Value.int.inj (Option.some.inj e1)
    obtain ⟨g1, g2, g3, g4, g5, g6, g7⟩ := hag i hi
    obtain ⟨z1, z2, z3, -⟩ : lv = nI hn ∧ 0 < hn ∧ hd = he ∧ ∃ i : Nat, i < ne ∧ he = nI i := hhd.resolve_left (fun z => absurd (z.2 ▸ hlv ▸ h1 : (1 : Int32) ≤ 0) (by decide))
    have hd9 : ¬ hd = -1 := by
      rw [z3, hei]
      exact nI_nm1 (by omega)
    have hMW1 := hMW.of (V2 := V1) (by rw [hV1]; exact (fun k h1 h2 => (uV_ne (by omega)).trans (hO k 0 h1)))
    have hCV1 := hCV2.of (V2 := V1) (by rw [hV1]; exact fun k i hk => uV_ne (by omega))
    have h501 : V1 50 0 = some (ou, aL G 1 (vp_updL g9 0 v.toInt64)) := by rw [hV1]; exact uV_self _ _ _ _
    refine ⟨0, rfl, hMW1.o, (k_M_by G l htr V1 a1 A m0 ne nk (nI dn) th qs (nI hn) hd mow mki med mmd mak msk mfk mmn mpo mcs fa mkf ff fs mss mot hne hMW1 p0 ln po cs hCD hm0 hki9 hhd9).mono (fun rv V2 hM => ?_)⟩
    rcases hM with ⟨hno, -, -, -⟩ | ⟨-, hno, -, -, -⟩ | ⟨-, -, -, i2, hi2, ei, rfl, hMW2, hI⟩
    · exact absurd ⟨h1, hle⟩ hno
    · exact absurd ⟨hlv.trans z1, hd9⟩ hno
    · obtain rfl : i = i2 := (nI_eq (by omega) (by omega)).mp (hei.symm.trans (z3.symm.trans ei))
      exact ⟨_, rfl, _, ⟨A, m0, dn, hn, ne, nk, qs, lv, he, hd, ow, ki, ed, md, ak, sk, fk, ln, po, cs, kf, fa, ff, fs, ss, ds, mow, mki, med, mmd, mak, msk, mfk, mmn, mpo, mcs, mkf, mss, mot, hCV1.of (fun k i hk => hI k i (Or.inl hk)), hMW2, (hI 50 0 (Or.inr (by decide))).trans h501, ⟨⟨hdn, hhn, hm0, hne, hnk⟩, hag, hCD, hz, hek, hkf, hss, hhd, fun z => False.elim z⟩⟩, fun _ => by rw [ev, g2, g5]; exact pk_uLs⟩
  · obtain ⟨hV, ⟨-, hbad⟩ | ⟨z, -⟩⟩ := hT
    · rw [hV]
      refine ⟨1, rfl, hMW.o, (k_M_by G l htr V a1 A m0 ne nk (nI dn) th qs (nI hn) hd mow mki med mmd mak msk mfk mmn mpo mcs fa mkf ff fs mss mot hne hMW p0 ln po cs hCD hm0 hki9 hhd9).mono (fun rv V2 hM => ?_)⟩
      rcases hM with ⟨-, rfl, hMW2, hI⟩ | ⟨hok, -⟩ | ⟨hok, -⟩
      · exact ⟨_, rfl, _, ⟨A, m0, dn, hn, ne, nk, qs, lv, he, hd, ow, ki, ed, md, ak, sk, fk, ln, po, cs, kf, fa, ff, fs, ss, ds, mow, mki, med, mmd, mak, msk, mfk, mmn, mpo, mcs, mkf, mss, mot, hCV.of (fun k i hk => hI k i (Or.inl hk)), hMW2, (hI 50 0 (Or.inr (by decide))).trans h50, ⟨⟨hdn, hhn, hm0, hne, hnk⟩, hag, hCD, hz, hek, hkf, hss, hhd, fun z => False.elim z⟩⟩, fun z => absurd z (by decide)⟩
      · exact absurd hok (rg_bad hbad)
      · exact absurd hok (rg_bad hbad)
    · exact absurd z (by decide)
  · obtain ⟨hV, ⟨z, -⟩ | ⟨-, h1, hle, hlv⟩⟩ := hT
    · exact absurd z (by decide)
    · rw [hV]
      refine ⟨2, rfl, hMW.o, (k_M_by G l htr V a1 A m0 ne nk (nI dn) th qs (nI hn) hd mow mki med mmd mak msk mfk mmn mpo mcs fa mkf ff fs mss mot hne hMW p0 ln po cs hCD hm0 hki9 hhd9).mono (fun rv V2 hM => ?_)⟩
      rcases hM with ⟨hno, -, -, -⟩ | ⟨-, -, rfl, hMW2, hI⟩ | ⟨-, eh, hd9, -⟩
      · exact absurd ⟨h1, hle⟩ hno
      · exact ⟨_, rfl, _, ⟨A, m0, dn, hn, ne, nk, qs, lv, he, hd, ow, ki, ed, md, ak, sk, fk, ln, po, cs, kf, fa, ff, fs, ss, ds, mow, mki, med, mmd, mak, msk, mfk, mmn, mpo, mcs, mkf, mss, mot, hCV.of (fun k i hk => hI k i (Or.inl hk)), hMW2, (hI 50 0 (Or.inr (by decide))).trans h50, ⟨⟨hdn, hhn, hm0, hne, hnk⟩, hag, hCD, hz, hek, hkf, hss, hhd, fun z => False.elim z⟩⟩, fun z => absurd z (by decide)⟩
      · rcases hhd with ⟨a, -⟩ | ⟨a, -⟩
        · exact absurd a hd9
        · exact absurd (eh.trans a.symm) hlv
set_option maxHeartbeats 4000000 in
theorem j_make (G : Gl) (l : Launch) (htr : l.stackTraces = false) (V : Vw) (a0 a1 ou : Nat) (th : Int32) (g9 : Nat → Int64) (B : Prop) (h : JJ G V a0 a1 ou th g9 B) (p0 : Int32) :
    Cw G l y_L_make b_L_make 4 (some .int) [(0, 9, 12, 24), (0, 9, 15, 26)] { frames := 9, cells := 2, slots := 12, locals := 154 } V [.ref a0, .int p0, .ref ou] (fun rv V1 => ∃ k : Int32, rv = some (.int k) ∧ PMi G l y_M_make b_M_make 3 { frames := 3, cells := 0, slots := 0, locals := 78 } V1 a0 a1 ou [.int p0] k) := by
  obtain ⟨A, m0, dn, hn, ne, nk, qs, lv, he, hd, ow, ki, ed, md, ak, sk, fk, ln, po, cs, kf, fa, ff, fs, ss, ds, mow, mki, med, mmd, mak, msk, mfk, mmn, mpo, mcs, mkf, mss, mot, hCV, hMW, h50, hRL⟩ := h
  obtain ⟨⟨hdn, hhn, hm0, hne, hnk⟩, hag, hCD, hz, hek, hkf, hss, hhd, hB⟩ := id hRL
  obtain ⟨aE, aK, fA, r0, r1, fb, fl, sh, df, dE, dK, vA, ea, oA, cA, fK, vK, mcE, mcK, h0, -⟩ := id hCV
  have hed : ∀ j, j < ne → 0 ≤ med j := fun j hj => by
    obtain ⟨d9, a9, b9⟩ := (hek j hj).1
    rw [(hag j hj).2.2.1, b9]
    exact nI_pos' (by omega)
  refine (k_L_make G l htr V a0 aE aK fA r0 r1 fb fl sh df (nI m0) (nI dn) qs (nI hn) lv he p0 (c_make G l htr V a0 m0 (nI dn) qs (nI hn) lv he ne ow ki ed md ak sk fk ln po cs nk kf fa ff fs ss ds hCV p0) (fun E V1 hT => by obtain ⟨-, ⟨z, -⟩ | ⟨z, -⟩⟩ := hT; exact Or.inl z; exact Or.inr z) ou g9 (fun r V1 hR => by obtain ⟨⟨i, -, -, -, ⟨-, e1, -⟩ | ⟨-, e1, -⟩⟩, hO⟩ := hR; exact ⟨_, e1, (hO 50 0 (by decide)).trans h50⟩; exact ⟨_, e1, (hO 50 0 (by decide)).trans h50⟩) h0).mono (fun rv V1 hR => ?_)
  rcases hR with ⟨rfl, v, V0, hR, hV1⟩ | ⟨rfl, hT⟩ | ⟨rfl, hT⟩
  · obtain ⟨⟨i, hi, rfl, hmd, hE9⟩, hO⟩ := hR
    obtain ⟨g1, g2, g3, g4, g5, g6, g7⟩ := hag i hi
    rcases hE9 with ⟨h6, e1, hCV2⟩ | ⟨h6, e1, hCV2⟩
    · have ev := Value.int.inj (Option.some.inj e1)
      have hMW1 := hMW.of (V2 := V1) (by rw [hV1]; exact (fun k h1 h2 => (uV_ne (by omega)).trans (hO k 0 h1)))
      have hCV1 := hCV2.of (V2 := V1) (by rw [hV1]; exact fun k i hk => uV_ne (by omega))
      have h501 : V1 50 0 = some (ou, aL G 1 (vp_updL g9 0 v.toInt64)) := by rw [hV1]; exact uV_self _ _ _ _
      refine ⟨0, rfl, hMW1.o, (k_M_make G l htr V1 a1 A m0 ne nk (nI dn) th qs (nI hn) hd mow mki med mmd mak msk mfk mmn mpo mcs fa mkf ff fs mss mot hne hMW1 (nI i) ln po cs hCD hm0).mono (fun rv V2 hM => ?_)⟩
      rcases hM with ⟨hno, -, -, -⟩ | ⟨i2, hi2, ei, ⟨hm9, -, -, -⟩ | ⟨-, rfl, hMW2, hI⟩⟩
      · exact absurd ⟨i, hi, rfl⟩ hno
      · obtain rfl : i = i2 := (nI_eq (by omega) (by omega)).mp ei
        exact absurd (g4.trans hmd) hm9
      · obtain rfl : i = i2 := (nI_eq (by omega) (by omega)).mp ei
        rw [g5] at hMW2 ⊢
        rw [if_pos h6] at hMW2
        exact ⟨_, rfl, _, ⟨A, m0, dn, hn, ne, nk, qs, 0, he, -1, ow, ki, ed, va_up md i 1, ak, sk, fk, ln, po, cs, kf, fa, ff, fs, ss, ds, mow, mki, med, upd mmd i 1, mak, msk, mfk, mmn, mpo, mcs, mkf, mss, mot, hCV1.of (fun k i hk => hI k i (Or.inl hk)), hMW2, (hI 50 0 (Or.inr (by decide))).trans h501, ⟨⟨hdn, hhn, hm0, hne, hnk⟩, fun j hj => by obtain ⟨b1, b2, b3, b4, b5, b6, b7⟩ := hag j hj; exact ⟨b1, b2, b3, up_a b4, b5, b6, b7⟩, hCD, fun j hj h9 => by obtain ⟨b1, b2, b3, b4, b5⟩ := hz j hj h9; exact ⟨up_z hi hj b1, b2, b3, b4, b5⟩, hek, hkf, hss, Or.inl ⟨rfl, rfl⟩, fun z => False.elim z⟩⟩, fun _ => by rw [ev, show mE (pEnd (ln i) (po i) (cs i) fa (ak i) m0).1 = 0 from if_pos h6]; exact pk_uLs⟩
    · have ev := Value.int.inj (Option.some.inj e1)
      have hMW1 := hMW.of (V2 := V1) (by rw [hV1]; exact (fun k h1 h2 => (uV_ne (by omega)).trans (hO k 0 h1)))
      have hCV1 := hCV2.of (V2 := V1) (by rw [hV1]; exact fun k i hk => uV_ne (by omega))
      have h501 : V1 50 0 = some (ou, aL G 1 (vp_updL g9 0 v.toInt64)) := by rw [hV1]; exact uV_self _ _ _ _
      refine ⟨0, rfl, hMW1.o, (k_M_make G l htr V1 a1 A m0 ne nk (nI dn) th qs (nI hn) hd mow mki med mmd mak msk mfk mmn mpo mcs fa mkf ff fs mss mot hne hMW1 (nI i) ln po cs hCD hm0).mono (fun rv V2 hM => ?_)⟩
      rcases hM with ⟨hno, -, -, -⟩ | ⟨i2, hi2, ei, ⟨hm9, -, -, -⟩ | ⟨-, rfl, hMW2, hI⟩⟩
      · exact absurd ⟨i, hi, rfl⟩ hno
      · obtain rfl : i = i2 := (nI_eq (by omega) (by omega)).mp ei
        exact absurd (g4.trans hmd) hm9
      · obtain rfl : i = i2 := (nI_eq (by omega) (by omega)).mp ei
        rw [g5] at hMW2 ⊢
        rw [if_neg h6] at hMW2
        exact ⟨_, rfl, _, ⟨A, m0, dn, hn, ne, nk, qs, 0, he, -1, ow, ki, ed, md, ak, sk, fk, ln, po, cs, kf, fa, ff, fs, ss, ds, mow, mki, med, upd mmd i 0, mak, msk, mfk, mmn, mpo, mcs, mkf, mss, mot, hCV1.of (fun k i hk => hI k i (Or.inl hk)), hMW2, (hI 50 0 (Or.inr (by decide))).trans h501, ⟨⟨hdn, hhn, hm0, hne, hnk⟩, fun j hj => by obtain ⟨b1, b2, b3, b4, b5, b6, b7⟩ := hag j hj; exact ⟨b1, b2, b3, up_s b4 hmd, b5, b6, b7⟩, hCD, fun j hj h9 => by obtain ⟨b1, b2, b3, b4, b5⟩ := hz j hj h9; exact ⟨up_z hi hj b1, b2, b3, b4, b5⟩, hek, hkf, hss, Or.inl ⟨rfl, rfl⟩, fun z => False.elim z⟩⟩, fun _ => by rw [ev, show mE (pEnd (ln i) (po i) (cs i) fa (ak i) m0).1 = (pEnd (ln i) (po i) (cs i) fa (ak i) m0).1 from if_neg h6]; exact pk_uLs⟩
  · obtain ⟨hV, ⟨-, hbad⟩ | ⟨z, -⟩⟩ := hT
    · rw [hV]
      refine ⟨1, rfl, hMW.o, (k_M_make G l htr V a1 A m0 ne nk (nI dn) th qs (nI hn) hd mow mki med mmd mak msk mfk mmn mpo mcs fa mkf ff fs mss mot hne hMW p0 ln po cs hCD hm0).mono (fun rv V2 hM => ?_)⟩
      rcases hM with ⟨-, rfl, hMW2, hI⟩ | ⟨i2, hi2, ei, -⟩
      · exact ⟨_, rfl, _, ⟨A, m0, dn, hn, ne, nk, qs, lv, he, hd, ow, ki, ed, md, ak, sk, fk, ln, po, cs, kf, fa, ff, fs, ss, ds, mow, mki, med, mmd, mak, msk, mfk, mmn, mpo, mcs, mkf, mss, mot, hCV.of (fun k i hk => hI k i (Or.inl hk)), hMW2, (hI 50 0 (Or.inr (by decide))).trans h50, ⟨⟨hdn, hhn, hm0, hne, hnk⟩, hag, hCD, hz, hek, hkf, hss, hhd, fun z => False.elim z⟩⟩, fun z => absurd z (by decide)⟩
      · exact absurd ⟨i2, hi2, ei⟩ (ed_bad hne hbad)
    · exact absurd z (by decide)
  · obtain ⟨hV, ⟨z, -⟩ | ⟨-, i, hi, rfl, hmd⟩⟩ := hT
    · exact absurd z (by decide)
    · obtain ⟨g1, g2, g3, g4, g5, g6, g7⟩ := hag i hi
      rw [hV]
      refine ⟨2, rfl, hMW.o, (k_M_make G l htr V a1 A m0 ne nk (nI dn) th qs (nI hn) hd mow mki med mmd mak msk mfk mmn mpo mcs fa mkf ff fs mss mot hne hMW (nI i) ln po cs hCD hm0).mono (fun rv V2 hM => ?_)⟩
      rcases hM with ⟨hno, -, -, -⟩ | ⟨i2, hi2, ei, ⟨-, rfl, hMW2, hI⟩ | ⟨hm9, -, -, -⟩⟩
      · exact absurd ⟨i, hi, rfl⟩ hno
      · exact ⟨_, rfl, _, ⟨A, m0, dn, hn, ne, nk, qs, lv, he, hd, ow, ki, ed, md, ak, sk, fk, ln, po, cs, kf, fa, ff, fs, ss, ds, mow, mki, med, mmd, mak, msk, mfk, mmn, mpo, mcs, mkf, mss, mot, hCV.of (fun k i hk => hI k i (Or.inl hk)), hMW2, (hI 50 0 (Or.inr (by decide))).trans h50, ⟨⟨hdn, hhn, hm0, hne, hnk⟩, hag, hCD, hz, hek, hkf, hss, hhd, fun z => False.elim z⟩⟩, fun z => absurd z (by decide)⟩
      · obtain rfl : i = i2 := (nI_eq (by omega) (by omega)).mp ei
        exact absurd (g4.symm.trans hm9) hmd
set_option maxHeartbeats 4000000 in
theorem j_op (G : Gl) (l : Launch) (htr : l.stackTraces = false) (V : Vw) (a0 a1 ou : Nat) (th : Int32) (g9 : Nat → Int64) (B : Prop) (h : JJ G V a0 a1 ou th g9 B) (p0 p1 p2 : Int32) :
    Cw G l y_L_op b_L_op 6 (some .int) [(0, 12, 15, 24), (0, 12, 19, 13), (0, 12, 23, 26), (0, 12, 27, 19)] { frames := 9, cells := 5, slots := 30, locals := 156 } V [.ref a0, .int p0, .int p1, .int p2, .ref ou] (fun rv V1 => ∃ k : Int32, rv = some (.int k) ∧ PMi G l y_M_op b_M_op 4 { frames := 2, cells := 0, slots := 0, locals := 43 } V1 a0 a1 ou [.int p0, .int p1, .int p2] k) := by
  obtain ⟨A, m0, dn, hn, ne, nk, qs, lv, he, hd, ow, ki, ed, md, ak, sk, fk, ln, po, cs, kf, fa, ff, fs, ss, ds, mow, mki, med, mmd, mak, msk, mfk, mmn, mpo, mcs, mkf, mss, mot, hCV, hMW, h50, hRL⟩ := h
  obtain ⟨⟨hdn, hhn, hm0, hne, hnk⟩, hag, hCD, hz, hek, hkf, hss, hhd, hB⟩ := id hRL
  obtain ⟨aE, aK, fA, r0, r1, fb, fl, sh, df, dE, dK, vA, ea, oA, cA, fK, vK, mcE, mcK, h0, -⟩ := id hCV
  have hed : ∀ j, j < ne → 0 ≤ med j := fun j hj => by
    obtain ⟨d9, a9, b9⟩ := (hek j hj).1
    rw [(hag j hj).2.2.1, b9]
    exact nI_pos' (by omega)
  refine (k_L_op G l htr V a0 aE aK fA r0 r1 fb fl sh df (nI m0) (nI dn) qs (nI hn) lv he p0 p1 p2 (c_op G l htr V a0 m0 (nI dn) qs (nI hn) lv he ne ow ki ed md ak sk fk ln po cs nk kf fa ff fs ss ds hCV p0 p1 p2) (fun E V1 hT => by obtain ⟨-, ⟨z, -⟩ | ⟨i, -, -, ⟨z, -⟩ | ⟨on, -, -, ⟨z, -⟩ | ⟨-, ⟨z, -⟩ | ⟨-, z, -⟩⟩⟩⟩⟩ := hT; exact Or.inl z; exact Or.inr (Or.inl z); exact Or.inr (Or.inl z); exact Or.inr (Or.inr (Or.inl z)); exact Or.inr (Or.inr (Or.inr z))) ou g9 (fun r V1 hR => by obtain ⟨⟨i, on, -, -, -, -, -, -, -, e1, -⟩, hO⟩ := hR; exact ⟨_, e1, (hO 50 0 (by decide)).trans h50⟩) h0).mono (fun rv V1 hR => ?_)
  rcases hR with ⟨rfl, v, V0, hR, hV1⟩ | ⟨rfl, hT⟩ | ⟨rfl, hT⟩ | ⟨rfl, hT⟩ | ⟨rfl, hT⟩
  · obtain ⟨⟨i, on, hi, rfl, hon, rfl, hcn, hmd, hl16, e1, hCV2⟩, hO⟩ := hR
    have ev := Value.int.inj (Option.some.inj e1)
    obtain ⟨g1, g2, g3, g4, g5, g6, g7⟩ := hag i hi
    have hMW1 := hMW.of (V2 := V1) (by rw [hV1]; exact (fun k h1 h2 => (uV_ne (by omega)).trans (hO k 0 h1)))
    have hCV1 := hCV2.of (V2 := V1) (by rw [hV1]; exact fun k i hk => uV_ne (by omega))
    have h501 : V1 50 0 = some (ou, aL G 1 (vp_updL g9 0 v.toInt64)) := by rw [hV1]; exact uV_self _ _ _ _
    refine ⟨0, rfl, hMW1.o, (k_M_op G l htr V1 a1 A m0 ne nk (nI dn) th qs (nI hn) hd mow mki med mmd mak msk mfk mmn mpo mcs fa mkf ff fs mss mot hne hMW1 (nI i) (nI on) p2 ln po cs hCD).mono (fun rv V2 hM => ?_)⟩
    rcases hM with ⟨hno, rfl, hMW2, hI⟩ | ⟨i2, hi2, ei, ⟨hno, rfl, hMW2, hI⟩ | ⟨on2, hon2, eo, hc2, ⟨hm9, rfl, hMW2, hI⟩ | ⟨hm9, h16, rfl, hMW2, hI⟩ | ⟨hm9, h16, rfl, hMW2, hI⟩⟩⟩
    · exact absurd ⟨i, hi, rfl⟩ hno
    · exact absurd ⟨on, hon, rfl, hcn⟩ hno
    · obtain rfl : i = i2 := (nI_eq (by omega) (by omega)).mp ei
      exact absurd (g4.trans hmd) hm9
    · obtain rfl : i = i2 := (nI_eq (by omega) (by omega)).mp ei
      exact absurd hl16 (by omega)
    · obtain rfl : i = i2 := (nI_eq (by omega) (by omega)).mp ei
      obtain rfl : on = on2 := (nI_eq (by omega) (by omega)).mp eo
      exact ⟨_, rfl, _, ⟨A, m0, dn, hn, ne, nk, qs, lv, he, hd, ow, ki, ed, md, ak, sk, fk, va_up ln i (ln i + 1), va_up po i (upd (po i) (ln i) (nI on)), va_up cs i (upd (cs i) (ln i) p2), kf, fa, ff, fs, ss, ds, mow, mki, med, mmd, mak, msk, mfk, upd mmn i (nI (ln i + 1)), upd mpo (16 * i + ln i) (nI on), upd mcs (16 * i + ln i) p2, mkf, mss, mot, hCV1.of (fun k i hk => hI k i (Or.inl hk)), hMW2, (hI 50 0 (Or.inr (by decide))).trans h501, ⟨⟨hdn, hhn, hm0, hne, hnk⟩, hag, CD_op hCD hi hon hl16 hcn, fun j hj h9 => by obtain ⟨b1, b2, b3, b4, b5⟩ := hz j hj h9; exact ⟨b1, b2, b3, b4, up_z hi hj b5⟩, hek, hkf, hss, hhd, fun z => False.elim z⟩⟩, fun _ => by rw [ev]; exact pk_uLs⟩
  · obtain ⟨hV, ⟨-, hbad⟩ | ⟨i, -, -, ⟨z, -⟩ | ⟨on, -, -, ⟨z, -⟩ | ⟨-, ⟨z, -⟩ | ⟨-, z, -⟩⟩⟩⟩⟩ := hT
    · rw [hV]
      refine ⟨1, rfl, hMW.o, (k_M_op G l htr V a1 A m0 ne nk (nI dn) th qs (nI hn) hd mow mki med mmd mak msk mfk mmn mpo mcs fa mkf ff fs mss mot hne hMW p0 p1 p2 ln po cs hCD).mono (fun rv V2 hM => ?_)⟩
      rcases hM with ⟨-, rfl, hMW2, hI⟩ | ⟨i2, hi2, ei, -⟩
      · exact ⟨_, rfl, _, ⟨A, m0, dn, hn, ne, nk, qs, lv, he, hd, ow, ki, ed, md, ak, sk, fk, ln, po, cs, kf, fa, ff, fs, ss, ds, mow, mki, med, mmd, mak, msk, mfk, mmn, mpo, mcs, mkf, mss, mot, hCV.of (fun k i hk => hI k i (Or.inl hk)), hMW2, (hI 50 0 (Or.inr (by decide))).trans h50, ⟨⟨hdn, hhn, hm0, hne, hnk⟩, hag, hCD, hz, hek, hkf, hss, hhd, fun z => False.elim z⟩⟩, fun z => absurd z (by decide)⟩
      · exact absurd ⟨i2, hi2, ei⟩ (ed_bad hne hbad)
    · exact absurd z (by decide)
    · exact absurd z (by decide)
    · exact absurd z (by decide)
    · exact absurd z (by decide)
  · obtain ⟨hV, ⟨z, -⟩ | ⟨i, hi, rfl, ⟨-, hbad⟩ | ⟨on, hon, rfl, ⟨-, hbad⟩ | ⟨-, ⟨z, -⟩ | ⟨-, z, -⟩⟩⟩⟩⟩ := hT
    · exact absurd z (by decide)
    · rw [hV]
      refine ⟨2, rfl, hMW.o, (k_M_op G l htr V a1 A m0 ne nk (nI dn) th qs (nI hn) hd mow mki med mmd mak msk mfk mmn mpo mcs fa mkf ff fs mss mot hne hMW (nI i) p1 p2 ln po cs hCD).mono (fun rv V2 hM => ?_)⟩
      rcases hM with ⟨hno, -, -, -⟩ | ⟨i2, hi2, ei, ⟨-, rfl, hMW2, hI⟩ | ⟨on2, hon2, eo, -⟩⟩
      · exact absurd ⟨i, hi, rfl⟩ hno
      · exact ⟨_, rfl, _, ⟨A, m0, dn, hn, ne, nk, qs, lv, he, hd, ow, ki, ed, md, ak, sk, fk, ln, po, cs, kf, fa, ff, fs, ss, ds, mow, mki, med, mmd, mak, msk, mfk, mmn, mpo, mcs, mkf, mss, mot, hCV.of (fun k i hk => hI k i (Or.inl hk)), hMW2, (hI 50 0 (Or.inr (by decide))).trans h50, ⟨⟨hdn, hhn, hm0, hne, hnk⟩, hag, hCD, hz, hek, hkf, hss, hhd, fun z => False.elim z⟩⟩, fun z => absurd z (by decide)⟩
      · exact absurd ((in_iff (n := 10) (by decide)).mpr ⟨on2, hon2, eo⟩) (rg_bad hbad)
    · rw [hV]
      refine ⟨2, rfl, hMW.o, (k_M_op G l htr V a1 A m0 ne nk (nI dn) th qs (nI hn) hd mow mki med mmd mak msk mfk mmn mpo mcs fa mkf ff fs mss mot hne hMW (nI i) (nI on) p2 ln po cs hCD).mono (fun rv V2 hM => ?_)⟩
      rcases hM with ⟨hno, -, -, -⟩ | ⟨i2, hi2, ei, ⟨-, rfl, hMW2, hI⟩ | ⟨on2, hon2, eo, hc2, -⟩⟩
      · exact absurd ⟨i, hi, rfl⟩ hno
      · exact ⟨_, rfl, _, ⟨A, m0, dn, hn, ne, nk, qs, lv, he, hd, ow, ki, ed, md, ak, sk, fk, ln, po, cs, kf, fa, ff, fs, ss, ds, mow, mki, med, mmd, mak, msk, mfk, mmn, mpo, mcs, mkf, mss, mot, hCV.of (fun k i hk => hI k i (Or.inl hk)), hMW2, (hI 50 0 (Or.inr (by decide))).trans h50, ⟨⟨hdn, hhn, hm0, hne, hnk⟩, hag, hCD, hz, hek, hkf, hss, hhd, fun z => False.elim z⟩⟩, fun z => absurd z (by decide)⟩
      · obtain rfl : on = on2 := (nI_eq (by omega) (by omega)).mp eo
        exact absurd hc2 (rg_bad hbad)
    · exact absurd z (by decide)
    · exact absurd z (by decide)
  · obtain ⟨hV, ⟨z, -⟩ | ⟨i, hi, rfl, ⟨z, -⟩ | ⟨on, hon, rfl, ⟨z, -⟩ | ⟨hcn, ⟨-, hmd⟩ | ⟨-, z, -⟩⟩⟩⟩⟩ := hT
    · exact absurd z (by decide)
    · exact absurd z (by decide)
    · exact absurd z (by decide)
    · obtain ⟨g1, g2, g3, g4, g5, g6, g7⟩ := hag i hi
      rw [hV]
      refine ⟨3, rfl, hMW.o, (k_M_op G l htr V a1 A m0 ne nk (nI dn) th qs (nI hn) hd mow mki med mmd mak msk mfk mmn mpo mcs fa mkf ff fs mss mot hne hMW (nI i) (nI on) p2 ln po cs hCD).mono (fun rv V2 hM => ?_)⟩
      rcases hM with ⟨hno, rfl, hMW2, hI⟩ | ⟨i2, hi2, ei, ⟨hno, rfl, hMW2, hI⟩ | ⟨on2, hon2, eo, hc2, ⟨hm9, rfl, hMW2, hI⟩ | ⟨hm9, h16, rfl, hMW2, hI⟩ | ⟨hm9, h16, rfl, hMW2, hI⟩⟩⟩
      · exact absurd ⟨i, hi, rfl⟩ hno
      · exact absurd ⟨on, hon, rfl, hcn⟩ hno
      · exact ⟨_, rfl, _, ⟨A, m0, dn, hn, ne, nk, qs, lv, he, hd, ow, ki, ed, md, ak, sk, fk, ln, po, cs, kf, fa, ff, fs, ss, ds, mow, mki, med, mmd, mak, msk, mfk, mmn, mpo, mcs, mkf, mss, mot, hCV.of (fun k i hk => hI k i (Or.inl hk)), hMW2, (hI 50 0 (Or.inr (by decide))).trans h50, ⟨⟨hdn, hhn, hm0, hne, hnk⟩, hag, hCD, hz, hek, hkf, hss, hhd, fun z => False.elim z⟩⟩, fun z => absurd z (by decide)⟩
      · obtain rfl : i = i2 := (nI_eq (by omega) (by omega)).mp ei
        exact absurd (g4.symm.trans hm9) hmd
      · obtain rfl : i = i2 := (nI_eq (by omega) (by omega)).mp ei
        exact absurd (g4.symm.trans hm9) hmd
    · exact absurd z (by decide)
  · obtain ⟨hV, ⟨z, -⟩ | ⟨i, hi, rfl, ⟨z, -⟩ | ⟨on, hon, rfl, ⟨z, -⟩ | ⟨hcn, ⟨z, -⟩ | ⟨hmd, -, h169⟩⟩⟩⟩⟩ := hT
    · exact absurd z (by decide)
    · exact absurd z (by decide)
    · exact absurd z (by decide)
    · exact absurd z (by decide)
    · obtain ⟨g1, g2, g3, g4, g5, g6, g7⟩ := hag i hi
      rw [hV]
      refine ⟨4, rfl, hMW.o, (k_M_op G l htr V a1 A m0 ne nk (nI dn) th qs (nI hn) hd mow mki med mmd mak msk mfk mmn mpo mcs fa mkf ff fs mss mot hne hMW (nI i) (nI on) p2 ln po cs hCD).mono (fun rv V2 hM => ?_)⟩
      rcases hM with ⟨hno, rfl, hMW2, hI⟩ | ⟨i2, hi2, ei, ⟨hno, rfl, hMW2, hI⟩ | ⟨on2, hon2, eo, hc2, ⟨hm9, rfl, hMW2, hI⟩ | ⟨hm9, h16, rfl, hMW2, hI⟩ | ⟨hm9, h16, rfl, hMW2, hI⟩⟩⟩
      · exact absurd ⟨i, hi, rfl⟩ hno
      · exact absurd ⟨on, hon, rfl, hcn⟩ hno
      · obtain rfl : i = i2 := (nI_eq (by omega) (by omega)).mp ei
        exact absurd (g4.trans hmd) hm9
      · exact ⟨_, rfl, _, ⟨A, m0, dn, hn, ne, nk, qs, lv, he, hd, ow, ki, ed, md, ak, sk, fk, ln, po, cs, kf, fa, ff, fs, ss, ds, mow, mki, med, mmd, mak, msk, mfk, mmn, mpo, mcs, mkf, mss, mot, hCV.of (fun k i hk => hI k i (Or.inl hk)), hMW2, (hI 50 0 (Or.inr (by decide))).trans h50, ⟨⟨hdn, hhn, hm0, hne, hnk⟩, hag, hCD, hz, hek, hkf, hss, hhd, fun z => False.elim z⟩⟩, fun z => absurd z (by decide)⟩
      · obtain rfl : i = i2 := (nI_eq (by omega) (by omega)).mp ei
        exact absurd h169 (by omega)
set_option maxHeartbeats 4000000 in
theorem j_keep (G : Gl) (l : Launch) (htr : l.stackTraces = false) (V : Vw) (a0 a1 ou : Nat) (th : Int32) (g9 : Nat → Int64) (B : Prop) (h : JJ G V a0 a1 ou th g9 B) :
    Cw G l y_L_keep b_L_keep 3 (some .int) [(0, 8, 11, 19)] { frames := 8, cells := 3, slots := 45, locals := 191 } V [.ref a0, .ref ou] (fun rv V1 => ∃ k : Int32, rv = some (.int k) ∧ PMi G l y_M_keep b_M_keep 2 { frames := 0, cells := 0, slots := 0, locals := 0 } V1 a0 a1 ou [] k) := by
  obtain ⟨A, m0, dn, hn, ne, nk, qs, lv, he, hd, ow, ki, ed, md, ak, sk, fk, ln, po, cs, kf, fa, ff, fs, ss, ds, mow, mki, med, mmd, mak, msk, mfk, mmn, mpo, mcs, mkf, mss, mot, hCV, hMW, h50, hRL⟩ := h
  obtain ⟨⟨hdn, hhn, hm0, hne, hnk⟩, hag, hCD, hz, hek, hkf, hss, hhd, hB⟩ := id hRL
  obtain ⟨aE, aK, fA, r0, r1, fb, fl, sh, df, dE, dK, vA, ea, oA, cA, fK, vK, mcE, mcK, h0, -⟩ := id hCV
  have hed : ∀ j, j < ne → 0 ≤ med j := fun j hj => by
    obtain ⟨d9, a9, b9⟩ := (hek j hj).1
    rw [(hag j hj).2.2.1, b9]
    exact nI_pos' (by omega)
  refine (k_L_keep G l htr V a0 aE aK fA r0 r1 fb fl sh df (nI m0) (nI dn) qs (nI hn) lv he 0 (c_keep G l htr V a0 m0 (nI dn) qs (nI hn) lv he ne ow ki ed md ak sk fk ln po cs nk kf fa ff fs ss ds hCV ) (fun E V1 hT => hT.1) ou g9 (fun r V1 hR => ⟨_, hR.1, (hR.2.2.2 50 0 (by decide)).trans h50⟩) h0).mono (fun rv V1 hR => ?_)
  rcases hR with ⟨rfl, v, V0, hR, hV1⟩ | ⟨rfl, hT⟩
  · obtain ⟨e1, hlt, hCV2, hO⟩ := hR
    have ev := Value.int.inj (Option.some.inj e1)
    have hMW1 := hMW.of (V2 := V1) (by rw [hV1]; exact (fun k h1 h2 => (uV_ne (by omega)).trans (hO k 0 h1)))
    have hCV1 := hCV2.of (V2 := V1) (by rw [hV1]; exact fun k i hk => uV_ne (by omega))
    have h501 : V1 50 0 = some (ou, aL G 1 (vp_updL g9 0 v.toInt64)) := by rw [hV1]; exact uV_self _ _ _ _
    refine ⟨0, rfl, hMW1.o, (k_M_keep G l htr V1 a1 A m0 ne nk (nI dn) th qs (nI hn) hd mow mki med mmd mak msk mfk mmn mpo mcs fa mkf ff fs mss mot hne hMW1  hnk).mono (fun rv V2 hM => ?_)⟩
    rcases hM with ⟨h8, -, -, -⟩ | ⟨-, rfl, mkf2, hk1, hk2, hMW2, hI⟩
    · exact absurd hlt (by omega)
    · have hkf2 : ∀ q, q < nk + 1 → ∀ j, j < 8 → mkf2 (8 * q + j) = va_up kf nk (va_cpy fa (fun _ => 0) 0 0 8) q j := fun q hq j hj => by
        by_cases e : q = nk
        · subst e
          rw [va_up_self, hk1 j hj]
          unfold va_cpy
          rw [if_pos (by omega), show 0 + (j - 0) = j by omega]
        · rw [va_up_ne _ _ e, hk2 _ (by omega)]
          exact hkf q (by omega) j hj
      exact ⟨_, rfl, _, ⟨A, m0, dn, hn, ne, nk + 1, qs, lv, he, hd, ow, ki, ed, md, ak, sk, fk, ln, po, cs, va_up kf nk (va_cpy fa (fun _ => 0) 0 0 8), fa, ff, fs, ss, ds, mow, mki, med, mmd, mak, msk, mfk, mmn, mpo, mcs, mkf2, mss, mot, hCV1.of (fun k i hk => hI k i (Or.inl hk)), hMW2, (hI 50 0 (Or.inr (by decide))).trans h501, ⟨⟨hdn, hhn, hm0, hne, (by omega)⟩, hag, hCD, hz, hek, hkf2, hss, hhd, fun z => False.elim z⟩⟩, fun _ => by rw [ev]; exact pk_uLs⟩
  · obtain ⟨-, hge, hV⟩ := hT
    rw [hV]
    refine ⟨1, rfl, hMW.o, (k_M_keep G l htr V a1 A m0 ne nk (nI dn) th qs (nI hn) hd mow mki med mmd mak msk mfk mmn mpo mcs fa mkf ff fs mss mot hne hMW  hnk).mono (fun rv V2 hM => ?_)⟩
    rcases hM with ⟨-, rfl, hMW2, hI⟩ | ⟨hlt, -⟩
    · exact ⟨_, rfl, _, ⟨A, m0, dn, hn, ne, nk, qs, lv, he, hd, ow, ki, ed, md, ak, sk, fk, ln, po, cs, kf, fa, ff, fs, ss, ds, mow, mki, med, mmd, mak, msk, mfk, mmn, mpo, mcs, mkf, mss, mot, hCV.of (fun k i hk => hI k i (Or.inl hk)), hMW2, (hI 50 0 (Or.inr (by decide))).trans h50, ⟨⟨hdn, hhn, hm0, hne, hnk⟩, hag, hCD, hz, hek, hkf, hss, hhd, fun z => False.elim z⟩⟩, fun z => absurd z (by decide)⟩
    · exact absurd hlt (by omega)
set_option maxHeartbeats 4000000 in
theorem j_rule (G : Gl) (l : Launch) (htr : l.stackTraces = false) (V : Vw) (a0 a1 ou : Nat) (th : Int32) (g9 : Nat → Int64) (B : Prop) (h : JJ G V a0 a1 ou th g9 B) (p0 p1 p2 : Int32) :
    Cw G l y_L_rule b_L_rule 6 (some .int) [(0, 12, 15, 13), (0, 12, 19, 19)] { frames := 9, cells := 7, slots := 96, locals := 194 } V [.ref a0, .int p0, .int p1, .int p2, .ref ou] (fun rv V1 => ∃ k : Int32, rv = some (.int k) ∧ PMi G l y_M_rule b_M_rule 4 { frames := 2, cells := 0, slots := 0, locals := 43 } V1 a0 a1 ou [.int p0, .int p1, .int p2] k) := by
  obtain ⟨A, m0, dn, hn, ne, nk, qs, lv, he, hd, ow, ki, ed, md, ak, sk, fk, ln, po, cs, kf, fa, ff, fs, ss, ds, mow, mki, med, mmd, mak, msk, mfk, mmn, mpo, mcs, mkf, mss, mot, hCV, hMW, h50, hRL⟩ := h
  obtain ⟨⟨hdn, hhn, hm0, hne, hnk⟩, hag, hCD, hz, hek, hkf, hss, hhd, hB⟩ := id hRL
  obtain ⟨aE, aK, fA, r0, r1, fb, fl, sh, df, dE, dK, vA, ea, oA, cA, fK, vK, mcE, mcK, h0, -⟩ := id hCV
  have hed : ∀ j, j < ne → 0 ≤ med j := fun j hj => by
    obtain ⟨d9, a9, b9⟩ := (hek j hj).1
    rw [(hag j hj).2.2.1, b9]
    exact nI_pos' (by omega)
  refine (k_L_rule G l htr V a0 aE aK fA r0 r1 fb fl sh df (nI m0) (nI dn) qs (nI hn) lv he p0 p1 p2 (c_rule G l htr V a0 m0 (nI dn) qs (nI hn) lv he ne ow ki ed md ak sk fk ln po cs nk kf fa ff fs ss ds hCV p0 p1 p2) (fun E V1 hT => hT.2.imp (fun z => z.1) (fun z => z.1)) ou g9 (fun r V1 hR => by obtain ⟨e1, -, -, on, kn, -, -, -, -, -, hO⟩ := hR; exact ⟨_, e1, (hO 50 0 (by decide)).trans h50⟩) h0).mono (fun rv V1 hR => ?_)
  rcases hR with ⟨rfl, v, V0, hR, hV1⟩ | ⟨rfl, hT⟩ | ⟨rfl, hT⟩
  · obtain ⟨e1, hlt, hd9, on, kn, hon, hkn, rfl, rfl, hCV2, hO⟩ := hR
    have ev := Value.int.inj (Option.some.inj e1)
    have hMW1 := hMW.of (V2 := V1) (by rw [hV1]; exact (fun k h1 h2 => (uV_ne (by omega)).trans (hO k 0 h1)))
    have hCV1 := hCV2.of (V2 := V1) (by rw [hV1]; exact fun k i hk => uV_ne (by omega))
    have h501 : V1 50 0 = some (ou, aL G 1 (vp_updL g9 0 v.toInt64)) := by rw [hV1]; exact uV_self _ _ _ _
    refine ⟨0, rfl, hMW1.o, (k_M_rule G l htr V1 a1 A m0 ne nk (nI dn) th qs (nI hn) hd mow mki med mmd mak msk mfk mmn mpo mcs fa mkf ff fs mss mot hne hMW1 (nI on) (nI kn) p2 ).mono (fun rv V2 hM => ?_)⟩
    rcases hM with ⟨hno, -, -, -⟩ | ⟨-, h24, -, -, -⟩ | ⟨-, -, rfl, hMW2, hI⟩
    · exact absurd ⟨⟨on, kn, hon, hkn, rfl, rfl⟩, hd9⟩ hno
    · exact absurd hlt (by omega)
    · obtain ⟨z1, z2, z3, z4, z5⟩ := hz ne (Nat.le_refl _) hlt
      have hag2 : ∀ j, j < ne + 1 → upd mow ne (nI on) j = va_up ow ne (nI on) j ∧ upd mki ne (nI kn) j = va_up ki ne (nI kn) j ∧ upd med ne p2 j = va_up ed ne p2 j ∧ mmd j = va_up md ne 0 j ∧ mak j = va_up ak ne 0 j ∧ msk j = va_up sk ne 0 j ∧ mfk j = va_up fk ne 0 j := fun j hj => ⟨up_n hj (fun z => (hag j z).1), up_n hj (fun z => (hag j z).2.1), up_n hj (fun z => (hag j z).2.2.1), up_0 hj (fun z => (hag j z).2.2.2.1) z1, up_0 hj (fun z => (hag j z).2.2.2.2.1) z2, up_0 hj (fun z => (hag j z).2.2.2.2.2.1) z3, up_0 hj (fun z => (hag j z).2.2.2.2.2.2) z4⟩
      have hek2 : ∀ j, j < ne + 1 → (∃ d : Nat, d ≤ 1000 ∧ va_up ed ne p2 j = nI d) ∧ ∃ k : Nat, k ≤ 2 ∧ va_up ki ne (nI kn) j = nI k := fun j hj => by
        by_cases e : j = ne
        · subst e
          rw [va_up_self, va_up_self]
          exact ⟨(in_iff (n := 1000) (by decide)).mp hd9, kn, hkn, rfl⟩
        · rw [va_up_ne _ _ e, va_up_ne _ _ e]
          exact hek j (by omega)
      exact ⟨_, rfl, _, ⟨A, m0, dn, hn, ne + 1, nk, qs, lv, he, hd, va_up ow ne (nI on), va_up ki ne (nI kn), va_up ed ne p2, va_up md ne 0, va_up ak ne 0, va_up sk ne 0, va_up fk ne 0, va_up ln ne 0, va_up po ne (fun _ => 0), va_up cs ne (fun _ => 0), kf, fa, ff, fs, ss, ds, upd mow ne (nI on), upd mki ne (nI kn), upd med ne p2, mmd, mak, msk, mfk, mmn, mpo, mcs, mkf, mss, mot, hCV1.of (fun k i hk => hI k i (Or.inl hk)), hMW2, (hI 50 0 (Or.inr (by decide))).trans h501, ⟨⟨hdn, hhn, hm0, (by omega), hnk⟩, hag2, CD_new hCD z5, fun j hj h9 => hz j (by omega) h9, hek2, hkf, fun q hq => ⟨(hss q hq).1, (hss q hq).2.imp id (fun ⟨i, a, b⟩ => ⟨i, by omega, b⟩)⟩, hhd.imp id (fun ⟨a, b, c, i, d, e⟩ => ⟨a, b, c, i, by omega, e⟩), fun z => False.elim z⟩⟩, fun _ => by rw [ev]; exact pk_uLs⟩
  · obtain ⟨hV, ⟨-, hbad⟩ | ⟨z, -⟩⟩ := hT
    · rw [hV]
      refine ⟨1, rfl, hMW.o, (k_M_rule G l htr V a1 A m0 ne nk (nI dn) th qs (nI hn) hd mow mki med mmd mak msk mfk mmn mpo mcs fa mkf ff fs mss mot hne hMW p0 p1 p2 ).mono (fun rv V2 hM => ?_)⟩
      rcases hM with ⟨-, rfl, hMW2, hI⟩ | ⟨hok, -⟩ | ⟨hok, -⟩
      · exact ⟨_, rfl, _, ⟨A, m0, dn, hn, ne, nk, qs, lv, he, hd, ow, ki, ed, md, ak, sk, fk, ln, po, cs, kf, fa, ff, fs, ss, ds, mow, mki, med, mmd, mak, msk, mfk, mmn, mpo, mcs, mkf, mss, mot, hCV.of (fun k i hk => hI k i (Or.inl hk)), hMW2, (hI 50 0 (Or.inr (by decide))).trans h50, ⟨⟨hdn, hhn, hm0, hne, hnk⟩, hag, hCD, hz, hek, hkf, hss, hhd, fun z => False.elim z⟩⟩, fun z => absurd z (by decide)⟩
      · exact absurd hbad (fun z => z.elim (fun y => pl_bad y hok.1) (fun y => rg_bad y hok.2))
      · exact absurd hbad (fun z => z.elim (fun y => pl_bad y hok.1) (fun y => rg_bad y hok.2))
    · exact absurd z (by decide)
  · obtain ⟨hV, ⟨z, -⟩ | ⟨-, h24, hd9, hpl⟩⟩ := hT
    · exact absurd z (by decide)
    · rw [hV]
      refine ⟨2, rfl, hMW.o, (k_M_rule G l htr V a1 A m0 ne nk (nI dn) th qs (nI hn) hd mow mki med mmd mak msk mfk mmn mpo mcs fa mkf ff fs mss mot hne hMW p0 p1 p2 ).mono (fun rv V2 hM => ?_)⟩
      rcases hM with ⟨hno, -, -, -⟩ | ⟨-, -, rfl, hMW2, hI⟩ | ⟨-, hlt, -⟩
      · exact absurd ⟨hpl, hd9⟩ hno
      · exact ⟨_, rfl, _, ⟨A, m0, dn, hn, ne, nk, qs, lv, he, hd, ow, ki, ed, md, ak, sk, fk, ln, po, cs, kf, fa, ff, fs, ss, ds, mow, mki, med, mmd, mak, msk, mfk, mmn, mpo, mcs, mkf, mss, mot, hCV.of (fun k i hk => hI k i (Or.inl hk)), hMW2, (hI 50 0 (Or.inr (by decide))).trans h50, ⟨⟨hdn, hhn, hm0, hne, hnk⟩, hag, hCD, hz, hek, hkf, hss, hhd, fun z => False.elim z⟩⟩, fun z => absurd z (by decide)⟩
      · exact absurd hlt (by omega)
set_option maxHeartbeats 4000000 in
theorem j_compare (G : Gl) (l : Launch) (htr : l.stackTraces = false) (V : Vw) (a0 a1 ou : Nat) (th : Int32) (g9 : Nat → Int64) (B : Prop) (h : JJ G V a0 a1 ou th g9 B) (p0 p1 : Int32) :
    Cw G l y_L_compare b_L_compare 5 (some .int) [(0, 10, 13, 24)] { frames := 9, cells := 2, slots := 12, locals := 158 } V [.ref a0, .int p0, .int p1, .ref ou] (fun rv V1 => ∃ k : Int32, rv = some (.int k) ∧ PMi G l y_M_compare b_M_compare 9 { frames := 3, cells := 0, slots := 0, locals := 78 } V1 a0 a1 ou [.int p0, .int p1] k) := by
  obtain ⟨A, m0, dn, hn, ne, nk, qs, lv, he, hd, ow, ki, ed, md, ak, sk, fk, ln, po, cs, kf, fa, ff, fs, ss, ds, mow, mki, med, mmd, mak, msk, mfk, mmn, mpo, mcs, mkf, mss, mot, hCV, hMW, h50, hRL⟩ := h
  obtain ⟨⟨hdn, hhn, hm0, hne, hnk⟩, hag, hCD, hz, hek, hkf, hss, hhd, hB⟩ := id hRL
  obtain ⟨aE, aK, fA, r0, r1, fb, fl, sh, df, dE, dK, vA, ea, oA, cA, fK, vK, mcE, mcK, h0, -⟩ := id hCV
  have hed : ∀ j, j < ne → 0 ≤ med j := fun j hj => by
    obtain ⟨d9, a9, b9⟩ := (hek j hj).1
    rw [(hag j hj).2.2.1, b9]
    exact nI_pos' (by omega)
  refine (k_L_compare G l htr V a0 aE aK fA r0 r1 fb fl sh df (nI m0) (nI dn) qs (nI hn) lv he p0 p1 (c_compare G l htr V a0 m0 (nI dn) qs (nI hn) lv he ne ow ki ed md ak sk fk ln po cs nk kf fa ff fs ss ds hCV p0 p1) (fun E V1 hT => hT.1) ou g9 (fun r V1 hR => by obtain ⟨⟨i, i2, -, -, -, -, e1⟩, -, hO⟩ := hR; exact ⟨_, e1, (hO 50 0 (by decide)).trans h50⟩) h0).mono (fun rv V1 hR => ?_)
  rcases hR with ⟨rfl, v, V0, hR, hV1⟩ | ⟨rfl, hT⟩
  · obtain ⟨⟨i, i2, hi, hi2, rfl, rfl, e1⟩, hCV2, hO⟩ := hR
    have ev := Value.int.inj (Option.some.inj e1)
    have hMW1 := hMW.of (V2 := V1) (by rw [hV1]; exact (fun k h1 h2 => (uV_ne (by omega)).trans (hO k 0 h1)))
    have hCV1 := hCV2.of (V2 := V1) (by rw [hV1]; exact fun k i hk => uV_ne (by omega))
    have h501 : V1 50 0 = some (ou, aL G 1 (vp_updL g9 0 v.toInt64)) := by rw [hV1]; exact uV_self _ _ _ _
    refine ⟨0, rfl, hMW1.o, (k_M_compare G l htr V1 a1 A m0 ne nk (nI dn) th qs (nI hn) hd mow mki med mmd mak msk mfk mmn mpo mcs fa mkf ff fs mss mot hne hMW1 (nI i) (nI i2) ln po cs hCD hm0 hnk).mono (fun rv V2 hM => ?_)⟩
    rcases hM with ⟨hno, -, -, -⟩ | ⟨j, j2, hj, hj2, ej, ej2, rfl, hMW2, hI⟩
    · exact absurd ⟨⟨i, hi, rfl⟩, ⟨i2, hi2, rfl⟩⟩ hno
    · obtain rfl : i = j := (nI_eq (by omega) (by omega)).mp ej
      obtain rfl : i2 = j2 := (nI_eq (by omega) (by omega)).mp ej2
      exact ⟨_, rfl, _, ⟨A, m0, dn, hn, ne, nk, qs, lv, he, hd, ow, ki, ed, md, ak, sk, fk, ln, po, cs, kf, fa, ff, fs, ss, ds, mow, mki, med, mmd, mak, msk, mfk, mmn, mpo, mcs, mkf, mss, mot, hCV1.of (fun k i hk => hI k i (Or.inl hk)), hMW2, (hI 50 0 (Or.inr (by decide))).trans h501, ⟨⟨hdn, hhn, hm0, hne, hnk⟩, hag, hCD, hz, hek, hkf, hss, hhd, fun z => False.elim z⟩⟩, fun _ => by rw [ev]; refine pk_uLs.trans (congrArg Int32.toInt64 (pDiff_cg nk (fun q hq => ?_))); rw [(hag i hi).2.2.2.2.1, (hag i2 hi2).2.2.2.2.1, kept_cg hCD hkf hi hq, kept_cg hCD hkf hi2 hq]; exact ⟨rfl, rfl⟩⟩
  · obtain ⟨-, hV, hbad⟩ := hT
    rw [hV]
    refine ⟨1, rfl, hMW.o, (k_M_compare G l htr V a1 A m0 ne nk (nI dn) th qs (nI hn) hd mow mki med mmd mak msk mfk mmn mpo mcs fa mkf ff fs mss mot hne hMW p0 p1 ln po cs hCD hm0 hnk).mono (fun rv V2 hM => ?_)⟩
    rcases hM with ⟨-, rfl, hMW2, hI⟩ | ⟨j, j2, hj, hj2, ej, ej2, -⟩
    · exact ⟨_, rfl, _, ⟨A, m0, dn, hn, ne, nk, qs, lv, he, hd, ow, ki, ed, md, ak, sk, fk, ln, po, cs, kf, fa, ff, fs, ss, ds, mow, mki, med, mmd, mak, msk, mfk, mmn, mpo, mcs, mkf, mss, mot, hCV.of (fun k i hk => hI k i (Or.inl hk)), hMW2, (hI 50 0 (Or.inr (by decide))).trans h50, ⟨⟨hdn, hhn, hm0, hne, hnk⟩, hag, hCD, hz, hek, hkf, hss, hhd, fun z => False.elim z⟩⟩, fun z => absurd z (by decide)⟩
    · exact absurd hbad (fun z => z.elim (fun y => ed_bad hne y ⟨j, hj, ej⟩) (fun y => ed_bad hne y ⟨j2, hj2, ej2⟩))
theorem up_s2 {f f2 : Nat → Int32} {i j : Nat} (h : f j = f2 j) : f j = va_up f2 i (f2 i) j := by
  rw [va_up_id]
  exact h
theorem not_rg {x a b : Int32} (h : ¬ (a ≤ x ∧ x ≤ b)) : x < a ∨ b < x := by
  by_cases z : a ≤ x
  · exact Or.inr (Int32.not_le.mp (fun y => h ⟨z, y⟩))
  · exact Or.inl (Int32.not_le.mp z)
set_option maxHeartbeats 4000000 in
theorem j_ask (G : Gl) (l : Launch) (htr : l.stackTraces = false) (V : Vw) (a0 a1 ou : Nat) (th : Int32) (g9 : Nat → Int64) (B : Prop) (h : JJ G V a0 a1 ou th g9 B) (p0 p1 : Int32) :
    Cw G l y_L_ask b_L_ask 5 (some .int) [(0, 10, 13, 13)] { frames := 9, cells := 2, slots := 12, locals := 164 } V [.ref a0, .int p0, .int p1, .ref ou] (fun rv V1 => ∃ k : Int32, rv = some (.int k) ∧ PMi G l y_M_ask b_M_ask 6 { frames := 4, cells := 0, slots := 0, locals := 102 } V1 a0 a1 ou [.int p0, .int p1] k) := by
  obtain ⟨A, m0, dn, hn, ne, nk, qs, lv, he, hd, ow, ki, ed, md, ak, sk, fk, ln, po, cs, kf, fa, ff, fs, ss, ds, mow, mki, med, mmd, mak, msk, mfk, mmn, mpo, mcs, mkf, mss, mot, hCV, hMW, h50, hRL⟩ := h
  obtain ⟨⟨hdn, hhn, hm0, hne, hnk⟩, hag, hCD, hz, hek, hkf, hss, hhd, hB⟩ := id hRL
  obtain ⟨aE, aK, fA, r0, r1, fb, fl, sh, df, dE, dK, vA, ea, oA, cA, fK, vK, mcE, mcK, h0, -⟩ := id hCV
  have hed : ∀ j, j < ne → 0 ≤ med j := fun j hj => by
    obtain ⟨d9, a9, b9⟩ := (hek j hj).1
    rw [(hag j hj).2.2.1, b9]
    exact nI_pos' (by omega)
  have hss9 : ∀ q, q < 18 → mss q = -1 ∨ ∃ i : Nat, i < ne ∧ mss q = nI i := fun q hq => by
    rw [(hss q hq).1]
    exact (hss q hq).2
  by_cases hpl : (∃ on kn : Nat, on ≤ 5 ∧ kn ≤ 2 ∧ p0 = nI on ∧ p1 = nI kn)
  · obtain ⟨on, kn, hon, hkn, rfl, rfl⟩ := id hpl
    rcases pCnt_of ow ki ed md (nI on) (nI kn) (nI dn) ne with hc | ⟨i, hi, hc⟩
    · refine (k_L_ask G l htr V a0 aE aK fA r0 r1 fb fl sh df (nI m0) (nI dn) qs (nI hn) lv he (nI on) (nI kn) (c_ask_none G l htr V a0 m0 (nI dn) qs (nI hn) lv he ne ow ki ed md ak sk fk ln po cs nk kf fa ff fs ss ds hCV on kn hon hkn hc) (fun E V1 hT => hT.elim) ou g9 (fun r V1 hR => ⟨_, hR.1, (hR.2.2 50 0 (by decide)).trans h50⟩) h0).mono (fun rv V1 hR => ?_)
      rcases hR with ⟨rfl, v, V0, hR, hV1⟩ | ⟨rfl, hT⟩
      · obtain ⟨e1, hCV2, hO⟩ := hR
        have ev := Value.int.inj (Option.some.inj e1)
        have hMW1 := hMW.of (V2 := V1) (by rw [hV1]; exact (fun k h1 h2 => (uV_ne (by omega)).trans (hO k 0 h1)))
        have hCV1 := hCV2.of (V2 := V1) (by rw [hV1]; exact fun k i hk => uV_ne (by omega))
        have h501 : V1 50 0 = some (ou, aL G 1 (vp_updL g9 0 v.toInt64)) := by rw [hV1]; exact uV_self _ _ _ _
        refine ⟨0, rfl, hMW1.o, (k_M_ask G l htr V1 a1 A m0 ne nk (nI dn) th qs (nI hn) hd mow mki med mmd mak msk mfk mmn mpo mcs fa mkf ff fs mss mot hne hMW1 (nI on) (nI kn) ln po cs hCD hm0 hed hss9).mono (fun rv V2 hM => ?_)⟩
        rcases hM with ⟨hno, -, -, -⟩ | ⟨on2, kn2, hon2, hkn2, eo, ek, ⟨-, rfl, mot2, hMW2, hI⟩ | ⟨i2, hi2, ec2, ⟨-, -, -⟩ | ⟨c, -, -, -⟩⟩⟩
        · exact absurd hpl hno
        · obtain rfl : on = on2 := (nI_eq (by omega) (by omega)).mp eo
          obtain rfl : kn = kn2 := (nI_eq (by omega) (by omega)).mp ek
          rw [show on * 6 + 0 = 6 * on by omega] at hCV1
          exact ⟨_, rfl, _, ⟨A, m0, dn, hn, ne, nk, qs + 1, 0, he, -1, ow, ki, ed, md, ak, sk, fk, ln, po, cs, kf, fa, ff, upd fs (6 * on) (fs (6 * on) + 1), ss, shD ne ss ds (on * 3 + kn) m0 ln po cs fa ak 0 0, mow, mki, med, mmd, mak, msk, mfk, mmn, mpo, mcs, mkf, mss, mot2, hCV1.of (fun k i hk => hI k i (Or.inl hk)), hMW2, (hI 50 0 (Or.inr (by decide))).trans h501, ⟨⟨hdn, hhn, hm0, hne, hnk⟩, hag, hCD, hz, hek, hkf, hss, Or.inl ⟨rfl, rfl⟩, fun z => False.elim z⟩⟩, fun _ => by rw [ev]; exact pk_uLs⟩
        · obtain rfl : on = on2 := (nI_eq (by omega) (by omega)).mp eo
          obtain rfl : kn = kn2 := (nI_eq (by omega) (by omega)).mp ek
          rw [show pCnt mow mki med mmd (nI on) (nI kn) (nI dn) ne = pCnt ow ki ed md (nI on) (nI kn) (nI dn) ne from pCnt_cg ne (fun i hi => ⟨(hag i hi).1, (hag i hi).2.1, (hag i hi).2.2.1, (hag i hi).2.2.2.1⟩)] at ec2
          exact absurd (ec2.symm.trans hc) (nI_nm1 (by omega))
        · obtain rfl : on = on2 := (nI_eq (by omega) (by omega)).mp eo
          obtain rfl : kn = kn2 := (nI_eq (by omega) (by omega)).mp ek
          rw [show pCnt mow mki med mmd (nI on) (nI kn) (nI dn) ne = pCnt ow ki ed md (nI on) (nI kn) (nI dn) ne from pCnt_cg ne (fun i hi => ⟨(hag i hi).1, (hag i hi).2.1, (hag i hi).2.2.1, (hag i hi).2.2.2.1⟩)] at ec2
          exact absurd (ec2.symm.trans hc) (nI_nm1 (by omega))
      · exact hT.elim
    · obtain ⟨g1, g2, g3, g4, g5, g6, g7⟩ := hag i hi
      refine (k_L_ask G l htr V a0 aE aK fA r0 r1 fb fl sh df (nI m0) (nI dn) qs (nI hn) lv he (nI on) (nI kn) (c_ask_some G l htr V a0 m0 (nI dn) qs (nI hn) lv he ne ow ki ed md ak sk fk ln po cs nk kf fa ff fs ss ds hCV on kn hon hkn i hi hc) (fun E V1 hT => hT.elim) ou g9 (fun r V1 hR => by obtain ⟨⟨-, e1, -⟩ | ⟨c, -, -, e1, -⟩, hO⟩ := hR; exact ⟨_, e1, (hO 50 0 (by decide)).trans h50⟩; exact ⟨_, e1, (hO 50 0 (by decide)).trans h50⟩) h0).mono (fun rv V1 hR => ?_)
      rcases hR with ⟨rfl, v, V0, hR, hV1⟩ | ⟨rfl, hT⟩
      · obtain ⟨⟨h6, e1, hCV2⟩ | ⟨c, hc5, ec, e1, hCV2⟩, hO⟩ := hR
        · have ev := Value.int.inj (Option.some.inj e1)
          have hMW1 := hMW.of (V2 := V1) (by rw [hV1]; exact (fun k h1 h2 => (uV_ne (by omega)).trans (hO k 0 h1)))
          have hCV1 := hCV2.of (V2 := V1) (by rw [hV1]; exact fun k i hk => uV_ne (by omega))
          have h501 : V1 50 0 = some (ou, aL G 1 (vp_updL g9 0 v.toInt64)) := by rw [hV1]; exact uV_self _ _ _ _
          refine ⟨0, rfl, hMW1.o, (k_M_ask G l htr V1 a1 A m0 ne nk (nI dn) th qs (nI hn) hd mow mki med mmd mak msk mfk mmn mpo mcs fa mkf ff fs mss mot hne hMW1 (nI on) (nI kn) ln po cs hCD hm0 hed hss9).mono (fun rv V2 hM => ?_)⟩
          rcases hM with ⟨hno, -, -, -⟩ | ⟨on2, kn2, hon2, hkn2, eo, ek, ⟨ec2, -, -⟩ | ⟨i2, hi2, ec2, ⟨-, rfl, mot2, hMW2, hI⟩ | ⟨c, hc5, ec, -, -⟩⟩⟩
          · exact absurd hpl hno
          · obtain rfl : on = on2 := (nI_eq (by omega) (by omega)).mp eo
            obtain rfl : kn = kn2 := (nI_eq (by omega) (by omega)).mp ek
            rw [show pCnt mow mki med mmd (nI on) (nI kn) (nI dn) ne = pCnt ow ki ed md (nI on) (nI kn) (nI dn) ne from pCnt_cg ne (fun i hi => ⟨(hag i hi).1, (hag i hi).2.1, (hag i hi).2.2.1, (hag i hi).2.2.2.1⟩)] at ec2
            exact absurd (hc.symm.trans ec2) (nI_nm1 (by omega))
          · obtain rfl : on = on2 := (nI_eq (by omega) (by omega)).mp eo
            obtain rfl : kn = kn2 := (nI_eq (by omega) (by omega)).mp ek
            rw [show pCnt mow mki med mmd (nI on) (nI kn) (nI dn) ne = pCnt ow ki ed md (nI on) (nI kn) (nI dn) ne from pCnt_cg ne (fun i hi => ⟨(hag i hi).1, (hag i hi).2.1, (hag i hi).2.2.1, (hag i hi).2.2.2.1⟩)] at ec2
            obtain rfl : i = i2 := (nI_eq (by omega) (by omega)).mp (hc.symm.trans ec2)
            rw [g5, g6] at hMW2
            rw [g5] at ⊢
            rw [if_pos h6] at hCV1
            exact ⟨_, rfl, _, ⟨A, m0, dn, hn, ne, nk, qs + 1, 0, he, -1, ow, ki, ed, md, va_up ak i (ak i + 1), va_up sk i (sk i + (pEnd (ln i) (po i) (cs i) fa (ak i) m0).2.2.2.2.1), va_up fk i (fk i), ln, po, cs, kf, fa, ff, fs, ss, shD ne ss ds (on * 3 + kn) m0 ln po cs fa ak (pEnd (ln i) (po i) (cs i) fa (ak i) m0).1 (pEnd (ln i) (po i) (cs i) fa (ak i) m0).2.2.2.1, mow, mki, med, mmd, upd mak i (ak i + 1), upd msk i (sk i + (pEnd (ln i) (po i) (cs i) fa (ak i) m0).2.2.2.2.1), mfk, mmn, mpo, mcs, mkf, mss, mot2, hCV1.of (fun k i hk => hI k i (Or.inl hk)), hMW2, (hI 50 0 (Or.inr (by decide))).trans h501, ⟨⟨hdn, hhn, hm0, hne, hnk⟩, fun j hj => by obtain ⟨b1, b2, b3, b4, b5, b6, b7⟩ := hag j hj; exact ⟨b1, b2, b3, b4, up_a b5, up_a b6, up_s2 b7⟩, hCD, fun j hj h9 => by obtain ⟨b1, b2, b3, b4, b5⟩ := hz j hj h9; exact ⟨b1, up_z hi hj b2, up_z hi hj b3, b4, b5⟩, hek, hkf, hss, Or.inl ⟨rfl, rfl⟩, fun z => False.elim z⟩⟩, fun _ => by rw [ev]; exact pk_uLs⟩
          · obtain rfl : on = on2 := (nI_eq (by omega) (by omega)).mp eo
            obtain rfl : kn = kn2 := (nI_eq (by omega) (by omega)).mp ek
            rw [show pCnt mow mki med mmd (nI on) (nI kn) (nI dn) ne = pCnt ow ki ed md (nI on) (nI kn) (nI dn) ne from pCnt_cg ne (fun i hi => ⟨(hag i hi).1, (hag i hi).2.1, (hag i hi).2.2.1, (hag i hi).2.2.2.1⟩)] at ec2
            obtain rfl : i = i2 := (nI_eq (by omega) (by omega)).mp (hc.symm.trans ec2)
            rw [g5] at ec
            exact absurd (h6.symm.trans ec) (fun z => absurd ((nI_eq (by decide) (by omega)).mp (show nI 6 = nI c from z)) (by omega))
        · have ev := Value.int.inj (Option.some.inj e1)
          have hMW1 := hMW.of (V2 := V1) (by rw [hV1]; exact (fun k h1 h2 => (uV_ne (by omega)).trans (hO k 0 h1)))
          have hCV1 := hCV2.of (V2 := V1) (by rw [hV1]; exact fun k i hk => uV_ne (by omega))
          have h501 : V1 50 0 = some (ou, aL G 1 (vp_updL g9 0 v.toInt64)) := by rw [hV1]; exact uV_self _ _ _ _
          refine ⟨0, rfl, hMW1.o, (k_M_ask G l htr V1 a1 A m0 ne nk (nI dn) th qs (nI hn) hd mow mki med mmd mak msk mfk mmn mpo mcs fa mkf ff fs mss mot hne hMW1 (nI on) (nI kn) ln po cs hCD hm0 hed hss9).mono (fun rv V2 hM => ?_)⟩
          rcases hM with ⟨hno, -, -, -⟩ | ⟨on2, kn2, hon2, hkn2, eo, ek, ⟨ec2, -, -⟩ | ⟨i2, hi2, ec2, ⟨h6, -, -⟩ | ⟨c2, hc52, ecc2, rfl, mot2, hMW2, hI⟩⟩⟩
          · exact absurd hpl hno
          · obtain rfl : on = on2 := (nI_eq (by omega) (by omega)).mp eo
            obtain rfl : kn = kn2 := (nI_eq (by omega) (by omega)).mp ek
            rw [show pCnt mow mki med mmd (nI on) (nI kn) (nI dn) ne = pCnt ow ki ed md (nI on) (nI kn) (nI dn) ne from pCnt_cg ne (fun i hi => ⟨(hag i hi).1, (hag i hi).2.1, (hag i hi).2.2.1, (hag i hi).2.2.2.1⟩)] at ec2
            exact absurd (hc.symm.trans ec2) (nI_nm1 (by omega))
          · obtain rfl : on = on2 := (nI_eq (by omega) (by omega)).mp eo
            obtain rfl : kn = kn2 := (nI_eq (by omega) (by omega)).mp ek
            rw [show pCnt mow mki med mmd (nI on) (nI kn) (nI dn) ne = pCnt ow ki ed md (nI on) (nI kn) (nI dn) ne from pCnt_cg ne (fun i hi => ⟨(hag i hi).1, (hag i hi).2.1, (hag i hi).2.2.1, (hag i hi).2.2.2.1⟩)] at ec2
            obtain rfl : i = i2 := (nI_eq (by omega) (by omega)).mp (hc.symm.trans ec2)
            rw [g5] at h6
            exact absurd (h6.symm.trans ec) (fun z => absurd ((nI_eq (by decide) (by omega)).mp (show nI 6 = nI c from z)) (by omega))
          · obtain rfl : on = on2 := (nI_eq (by omega) (by omega)).mp eo
            obtain rfl : kn = kn2 := (nI_eq (by omega) (by omega)).mp ek
            rw [show pCnt mow mki med mmd (nI on) (nI kn) (nI dn) ne = pCnt ow ki ed md (nI on) (nI kn) (nI dn) ne from pCnt_cg ne (fun i hi => ⟨(hag i hi).1, (hag i hi).2.1, (hag i hi).2.2.1, (hag i hi).2.2.2.1⟩)] at ec2
            obtain rfl : i = i2 := (nI_eq (by omega) (by omega)).mp (hc.symm.trans ec2)
            rw [g5] at ecc2
            obtain rfl : c = c2 := (nI_eq (by omega) (by omega)).mp (ec.symm.trans ecc2)
            have h6 : ¬ (pEnd (ln i) (po i) (cs i) fa (ak i) m0).1 = 6 := fun z => absurd ((nI_eq (by decide) (by omega)).mp (show nI 6 = nI c from z.symm.trans ec)) (by omega)
            rw [g5, g6, g7] at hMW2
            rw [if_neg h6, show on * 6 + c = 6 * on + c by omega] at hCV1
            exact ⟨_, rfl, _, ⟨A, m0, dn, hn, ne, nk, qs + 1, 0, he, -1, ow, ki, ed, md, va_up ak i (ak i + 1), va_up sk i (sk i + (pEnd (ln i) (po i) (cs i) fa (ak i) m0).2.2.2.2.1), va_up fk i (fk i + 1), ln, po, cs, kf, fa, ff, upd fs (6 * on + c) (fs (6 * on + c) + 1), ss, shD ne ss ds (on * 3 + kn) m0 ln po cs fa ak (pEnd (ln i) (po i) (cs i) fa (ak i) m0).1 (pEnd (ln i) (po i) (cs i) fa (ak i) m0).2.2.2.1, mow, mki, med, mmd, upd mak i (ak i + 1), upd msk i (sk i + (pEnd (ln i) (po i) (cs i) fa (ak i) m0).2.2.2.2.1), upd mfk i (fk i + 1), mmn, mpo, mcs, mkf, mss, mot2, hCV1.of (fun k i hk => hI k i (Or.inl hk)), hMW2, (hI 50 0 (Or.inr (by decide))).trans h501, ⟨⟨hdn, hhn, hm0, hne, hnk⟩, fun j hj => by obtain ⟨b1, b2, b3, b4, b5, b6, b7⟩ := hag j hj; exact ⟨b1, b2, b3, b4, up_a b5, up_a b6, up_a b7⟩, hCD, fun j hj h9 => by obtain ⟨b1, b2, b3, b4, b5⟩ := hz j hj h9; exact ⟨b1, up_z hi hj b2, up_z hi hj b3, up_z hi hj b4, b5⟩, hek, hkf, hss, Or.inl ⟨rfl, rfl⟩, fun z => False.elim z⟩⟩, fun _ => by rw [ev]; exact pk_uLs⟩
      · exact hT.elim
  · have hbad : (p0 < 0 ∨ 5 < p0) ∨ (p1 < 0 ∨ 2 < p1) := by
      by_cases z1 : 0 ≤ p0 ∧ p0 ≤ 5
      · by_cases z2 : 0 ≤ p1 ∧ p1 ≤ 2
        · exact absurd (pl_iff.mp ⟨z1, z2⟩) hpl
        · exact Or.inr (not_rg z2)
      · exact Or.inl (not_rg z1)
    refine (k_L_ask G l htr V a0 aE aK fA r0 r1 fb fl sh df (nI m0) (nI dn) qs (nI hn) lv he p0 p1 (k_C_ask_bad G l htr V a0 p0 p1 hbad) (fun E V1 hT => hT.1) ou g9 (fun r V1 hR => hR.elim) h0).mono (fun rv V1 hR => ?_)
    rcases hR with ⟨rfl, v, V0, hR, hV1⟩ | ⟨rfl, hT⟩
    · exact hR.elim
    · have hV := hT.2
      rw [hV]
      refine ⟨1, rfl, hMW.o, (k_M_ask G l htr V a1 A m0 ne nk (nI dn) th qs (nI hn) hd mow mki med mmd mak msk mfk mmn mpo mcs fa mkf ff fs mss mot hne hMW p0 p1 ln po cs hCD hm0 hed hss9).mono (fun rv V2 hM => ?_)⟩
      rcases hM with ⟨-, rfl, hMW2, hI⟩ | ⟨on2, kn2, hon2, hkn2, eo, ek, -⟩
      · exact ⟨_, rfl, _, ⟨A, m0, dn, hn, ne, nk, qs, lv, he, hd, ow, ki, ed, md, ak, sk, fk, ln, po, cs, kf, fa, ff, fs, ss, ds, mow, mki, med, mmd, mak, msk, mfk, mmn, mpo, mcs, mkf, mss, mot, hCV.of (fun k i hk => hI k i (Or.inl hk)), hMW2, (hI 50 0 (Or.inr (by decide))).trans h50, ⟨⟨hdn, hhn, hm0, hne, hnk⟩, hag, hCD, hz, hek, hkf, hss, hhd, fun z => False.elim z⟩⟩, fun z => absurd z (by decide)⟩
      · exact absurd ⟨on2, kn2, hon2, hkn2, eo, ek⟩ hpl
set_option maxHeartbeats 4000000 in
set_option maxRecDepth 100000 in
theorem k_C_count_out9 (G : Gl) (l : Launch) (htr : l.stackTraces = false) (V : Vw) (a0 : Nat) (w : Int32) (hw : w < 0 ∨ 7 < w)  :
    Cm G l y_C_count b_C_count 2 (Option.some Jvm.ClassFile.FieldType.int) { frames := 4, cells := 0, slots := 0, locals := 86 } V [.ref a0, .int w] (fun rv V' => rv = some (.int (-1)) ∧ V' = V) := by
  refine Cm.of htr (by decide) (Nat.le_of_ble_eq_true rfl) ?_
  intro p e s m args below meth c ls F hr hnm hS hl
  obtain ⟨hx, hb, hml, hown, hts, hK, hlk, -⟩ := id F
  have hl : lv_has ls 2 [(0, .ref a0), (1, .int w)] := hl
  refine lv_iload_n hx hb d_C_count_0 rfl (lv_at hl 1 rfl) ?_
  refine lv_tableOut (tgt := 94) hx hb d_C_count_1 (hw.imp (fun z => Int32.lt_iff_toInt_lt.mp z) (fun z => (show (7 : Int32).toInt < w.toInt from Int32.lt_iff_toInt_lt.mp z))) (by decide) ?_
  refine lv_iconst (v := (-1)) hx hb d_C_count_94 (by decide) ?_
  exact m_reti F hr hS (Nat.le_of_ble_eq_true rfl) (Nat.le_of_ble_eq_true rfl) ⟨rfl, rfl⟩ d_C_count_95
set_option maxHeartbeats 4000000 in
theorem j_count (G : Gl) (l : Launch) (htr : l.stackTraces = false) (V : Vw) (a0 a1 ou : Nat) (th : Int32) (g9 : Nat → Int64) (B : Prop) (h : JJ G V a0 a1 ou th g9 B) (p0 : Int32) :
    ∃ b : Int32, Cm G l y_C_count b_C_count 2 (some .int) { frames := 4, cells := 0, slots := 0, locals := 86 } V [.ref a0, .int p0] (fun rv V1 => rv = some (.int b) ∧ V1 = V) ∧ Cm G l y_M_count b_M_count 4 (some .int) { frames := 0, cells := 0, slots := 0, locals := 0 } V [.ref a1, .int p0] (fun rv V2 => rv = some (.int b) ∧ JJ G V2 a0 a1 ou 0 g9 False) := by
  obtain ⟨A, m0, dn, hn, ne, nk, qs, lv, he, hd, ow, ki, ed, md, ak, sk, fk, ln, po, cs, kf, fa, ff, fs, ss, ds, mow, mki, med, mmd, mak, msk, mfk, mmn, mpo, mcs, mkf, mss, mot, hCV, hMW, h50, hRL⟩ := h
  obtain ⟨⟨hdn, hhn, hm0, hne, hnk⟩, hag, hCD, hz, hek, hkf, hss, hhd, hB⟩ := id hRL
  obtain ⟨aE, aK, fA, r0, r1, fb, fl, sh, df, dE, dK, vA, ea, oA, cA, fK, vK, mcE, mcK, h0, -⟩ := id hCV
  have hed : ∀ j, j < ne → 0 ≤ med j := fun j hj => by
    obtain ⟨d9, a9, b9⟩ := (hek j hj).1
    rw [(hag j hj).2.2.1, b9]
    exact nI_pos' (by omega)
  by_cases hw : 0 ≤ p0 ∧ p0 ≤ 7
  · obtain ⟨t, ht, rfl⟩ := (in_iff (n := 7) (by decide)).mp hw
    refine ⟨_, c_count_in G l htr V a0 m0 (nI dn) qs (nI hn) lv he ne ow ki ed md ak sk fk ln po cs nk kf fa ff fs ss ds hCV t ht, (k_M_count_in G l htr V a1 A m0 ne nk (nI dn) th qs (nI hn) hd mow mki med mmd mak msk mfk mmn mpo mcs fa mkf ff fs mss mot hne hMW t ht).mono (fun rv V2 hM => ?_)⟩
    obtain ⟨rfl, hMW2, hI⟩ := hM
    refine ⟨?_, ⟨A, m0, dn, hn, ne, nk, qs, lv, he, hd, ow, ki, ed, md, ak, sk, fk, ln, po, cs, kf, fa, ff, fs, ss, ds, mow, mki, med, mmd, mak, msk, mfk, mmn, mpo, mcs, mkf, mss, mot, hCV.of (fun k i hk => hI k i (Or.inl hk)), hMW2, (hI 50 0 (Or.inr (by decide))).trans h50, ⟨⟨hdn, hhn, hm0, hne, hnk⟩, hag, hCD, hz, hek, hkf, hss, hhd, fun z => False.elim z⟩⟩⟩
    show some (Value.int (pCount t ne mmd qs fs nk (nI hn) (nI dn) (nI m0))) = some (Value.int (pCount t ne md qs fs nk (nI hn) (nI dn) (nI m0)))
    unfold pCount
    rw [pMade_cg ne (fun i hi => (hag i hi).2.2.2.1)]
  · have hb := not_rg hw
    refine ⟨-1, k_C_count_out9 G l htr V a0 p0 hb, (k_M_count_out G l htr V a1 A m0 ne nk (nI dn) th qs (nI hn) hd mow mki med mmd mak msk mfk mmn mpo mcs fa mkf ff fs mss mot hne hMW p0 hb).mono (fun rv V2 hM => ?_)⟩
    obtain ⟨rfl, hMW2, hI⟩ := hM
    exact ⟨rfl, ⟨A, m0, dn, hn, ne, nk, qs, lv, he, hd, ow, ki, ed, md, ak, sk, fk, ln, po, cs, kf, fa, ff, fs, ss, ds, mow, mki, med, mmd, mak, msk, mfk, mmn, mpo, mcs, mkf, mss, mot, hCV.of (fun k i hk => hI k i (Or.inl hk)), hMW2, (hI 50 0 (Or.inr (by decide))).trans h50, ⟨⟨hdn, hhn, hm0, hne, hnk⟩, hag, hCD, hz, hek, hkf, hss, hhd, fun z => False.elim z⟩⟩⟩

/-! The law's own rows: helpers with handlers, the script, the start of both objects. -/
def MLW (own : String) (index : Nat) (y : MethodName) (bytes : ByteArray) (maxL : Nat) (ret : Option FieldType) (hh : List (Nat × Nat × Nat × Nat)) (n : Nat) : Prop :=
  Cond.methodLink own index y ∈ TBL ∧ Cond.codeWith y bytes maxL ret hh ∈ TBL ∧ Cond.initialized y.cls ∈ TBL ∧ (y.cls ≠ "java/lang/invoke/MethodHandle" ∧ y.cls ≠ "java/lang/invoke/VarHandle") ∧ (parseMethodDescriptor y.desc).map (fun d => d.parameters.length) = some n ∧ Cond.static y ∈ TBL
def PreX (G : Gl) (V : Vw) (As : List Value) (b L : Nat) (xs : Nat → Int32) : Array Value → State → Prop := va_Pc As (fun U => (HW G V U.heap ∧ G.2.2 ≤ U.heap.size ∧ KK G U) ∧ va_X b L xs U U.heap)
def Cs (G : Gl) (l : Launch) (y : MethodName) (cc : ByteArray) (maxL : Nat) (ret : Option FieldType) (rm : Room) (V : Vw) (As : List Value) (b L : Nat) (xs : Nat → Int32) (Rt : Option Value → Vw → Prop) : Prop :=
  Met l y (wsY y cc maxL ret) rm (PreX G V As b L xs) (QcC G Rt) rm.cells rm.slots (aB G)
theorem PreX.blind (G : Gl) (V : Vw) (As : List Value) (b L : Nat) (xs : Nat → Int32) : FrameBlind (PreX G V As b L xs) := by
  intro a U g mk h
  obtain ⟨h1, ⟨h2, h3, h4⟩, h5⟩ := h
  exact ⟨h1, ⟨h2, h3, h4.same rfl rfl⟩, h5⟩
section LW
variable {G : Gl} {p : Program} {l : Launch} {e : Env} {R : Room} {s : State} {m : MethodId} {args : Array Value} {below : List Frame} {meth : Method} {c : Code} {H : Heap} {locs : List Loc} {cells slots : Nat} {Q : State → Prop}
variable {cc : ByteArray} {nL pc : Nat} {own : String} {ls : Array Slot} {rest st0 : List Value} {V : Vw}
variable {y : MethodName} {bytes : ByteArray} {maxL n index : Nat} {ret : Option FieldType} {rm : Room} {As : List Value} {Rt : Option Value → Vw → Prop} {hh : List (Nat × Nat × Nat × Nat)}
theorem r_callW (F : Bd G p l s m args meth c cc nL own) (hS : HS G s V H locs) (ml : MLW own index y bytes maxL ret hh n) (hM : Cw G l y bytes maxL ret hh rm V As Rt)
    (hn : As.length = n) (hsz : ls.size = nL) (hst : st0 = As.reverse ++ rest) (hw : (rest.map fun v => v.category).sum ≤ 8) (hdg : decode cc pc = .ok (.invokestatic index, 3)) (hR : rm.frames + 1 ≤ R.frames ∧ 8 + (maxL + 11) + rm.locals ≤ R.locals) (hf : cells + rm.cells ≤ R.cells ∧ slots + rm.slots ≤ R.slots)
    (kk : ∀ (r : Option Value) (V' : Vw) (H1 : Heap) (locs1 : List Loc), Rt r V' → HS G s V' H1 locs1 → W p l e R s m args below meth c H1 locs1 (cells + rm.cells) (slots + rm.slots) Q (F0 m (pc + 3) ls (r.toList ++ rest))) : W p l e R s m args below meth c H locs cells slots Q (F0 m pc ls st0) := by
  obtain ⟨hx, hb, hml, hown, hts, hK, -, -⟩ := F
  obtain ⟨k1, k2, k3, k4, k5, k6⟩ := ml
  have hpay : ∀ w ∈ Cond.codeWith y bytes maxL ret hh :: TBL, ∀ (a' : Array Value) (U : State), s.WarmedH U.vm → w.before a' U = true := by
    intro w hw a' U hW
    have h1 : w ∈ TBL := by
      rcases List.mem_cons.mp hw with h | h
      · rw [h]; exact k2
      · exact h
    exact word_at hW (good_of_word (good_T w h1)) (hts w h1)
  exact k_back (vx_runSW (As := As) (rest := rest) (hh := hh) (bytes := bytes) (maxL := maxL) (ret := ret) ⟨hx, hb, hml, hown, hts⟩ hM ⟨⟨rfl, rfl, hR.1, hR.2, hpay, List.mem_cons_self⟩, hts _ k2, hts _ k3, k4, fun sig hs => by rw [hs] at k5; exact (Option.some.inj k5).symm, hts _ k1, hts _ k6⟩ ⟨PreC.blind _ _ _, fun U hU hW => PreC.at hS hK hU hW⟩ rfl hn hsz hst (lv_room hw) hdg hf) hS kk
theorem r_callX (F : Bd G p l s m args meth c cc nL own) (hS : HS G s V H locs) {b L : Nat} {xs : Nat → Int32} (hX : va_X b L xs s s.heap) (hbl : b < s.heap.size) (hbA : ¬ aB G b) (ml : MLS own index y bytes maxL ret n) (hM : Cs G l y bytes maxL ret rm V As b L xs Rt)
    (hn : As.length = n) (hsz : ls.size = nL) (hst : st0 = As.reverse ++ rest) (hw : (rest.map fun v => v.category).sum ≤ 8) (hdg : decode cc pc = .ok (.invokestatic index, 3)) (hR : rm.frames + 1 ≤ R.frames ∧ 8 + (maxL + 11) + rm.locals ≤ R.locals) (hf : cells + rm.cells ≤ R.cells ∧ slots + rm.slots ≤ R.slots)
    (kk : ∀ (r : Option Value) (V' : Vw) (H1 : Heap) (locs1 : List Loc), Rt r V' → HS G s V' H1 locs1 → W p l e R s m args below meth c H1 locs1 (cells + rm.cells) (slots + rm.slots) Q (F0 m (pc + 3) ls (r.toList ++ rest))) : W p l e R s m args below meth c H locs cells slots Q (F0 m pc ls st0) := by
  obtain ⟨hx, hb, hml, hown, hts, hK, -, -⟩ := F
  exact k_back (va_runS (As := As) (rest := rest) ⟨hx, hb, hml, hown, hts⟩ hM ⟨ml.1.cb hts hR, hts _ ml.2⟩ ⟨PreX.blind _ _ _ _ _ _, fun U hU hW => ⟨rfl, (PreC.at (As := As) hS hK hU hW).2, by
    rw [hU]
    exact va_X.moved hW.alike (hX.kept (hS.2.1.2.1 b hbl hbA))⟩⟩ rfl hn hsz hst (lv_room hw) hdg hf) hS kk
end LW
set_option maxHeartbeats 2000000 in
theorem k_L_cell (G : Gl) (l : Launch) (htr : l.stackTraces = false) (V : Vw) (b L : Nat) (xs : Nat → Int32) (hbA : ¬ aB G b) (hL : L < 2 ^ 31) : Cs G l y_L_cell b_L_cell 2 (some .int) { frames := 0, cells := 0, slots := 0, locals := 0 } V [.ref b, .int 0] b L xs (fun rv V' => rv = some (.int (if 0 < L then xs 0 else 0)) ∧ V' = V) := by
  refine Met.ofW (cc := b_L_cell) (maxL := 2) (ret := some .int) (by decide) rfl ?_
  intro p e s m args below meth c s₁ B hml hv
  obtain ⟨rfl, ⟨hW, hz, hK⟩, hX⟩ := hv
  have hts := atoms_spec (ws := wsY y_L_cell b_L_cell 2 (some .int)) B.pre
  have hl : lv_has _ 2 [(0, .ref b), (1, .int 0)] := lv_entry [.ref b, .int 0] (n := 2) (Nat.le_of_ble_eq_true rfl)
  have F : Bd G p l s m _ meth c b_L_cell 2 "RuleClassesLaw" := ⟨B.exec, B.bytes, hml, findClass_of_methodNamed B.named, fun w h => hts w (List.mem_cons_of_mem _ h), hK, B.notSynchronized, htr⟩
  have hr := B.returns
  have hS : HS G s V s.heap [] := ⟨hW, va_S.rf, hz⟩
  rw [lg_entry_eq]
  obtain ⟨hx, hb, -, -, -, -, -, -⟩ := id F
  have hbl : b < s.heap.size := by
    obtain ⟨scr, h1, -⟩ := hX
    exact (Array.getElem?_eq_some_iff.mp h1).1
  refine lv_iload_n hx hb d_L_cell_0 rfl (lv_at hl 1 rfl) ?_
  refine lv_aload_n hx hb d_L_cell_1 rfl (lv_at hl 0 rfl) ?_
  refine va_slen (A := aB G) hx hb hX hbl hbA hS.2.1 d_L_cell_2 ?_
  refine lv_icmp_ge (tgt := 12) hx hb d_L_cell_3 (by decide) (fun c_3 => ?_) (fun c_3 => ?_)
  · refine lv_iconst (v := 0) hx hb d_L_cell_12 (by decide) ?_
    refine m_reti F hr hS (Nat.le_of_ble_eq_true rfl) (Nat.le_of_ble_eq_true rfl) ⟨?_, rfl⟩ d_L_cell_13
    have h0 : ¬ 0 < L := fun z => absurd ((nI_leI hL (by decide)).mp (show nI L ≤ nI 0 from c_3)) (by omega)
    rw [if_neg h0]
  · have h0 : 0 < L := Nat.pos_of_ne_zero (fun z => c_3 (by rw [z]; decide))
    refine lv_aload_n hx hb d_L_cell_6 rfl (lv_at hl 0 rfl) ?_
    refine lv_iload_n hx hb d_L_cell_7 rfl (lv_at hl 1 rfl) ?_
    refine va_sld (A := aB G) hx hb hX hbl hbA hS.2.1 (vp_in_nI (n := 0) h0 hL) d_L_cell_8 ?_
    refine lv_goto (tgt := 13) hx hb d_L_cell_9 (by decide) ?_
    refine m_reti F hr hS (Nat.le_of_ble_eq_true rfl) (Nat.le_of_ble_eq_true rfl) ⟨?_, rfl⟩ d_L_cell_13
    rw [if_pos h0]
    rfl
theorem JJ.o {G : Gl} {V : Vw} {a0 a1 ou : Nat} {th : Int32} {g9 : Nat → Int64} {B : Prop} (h : JJ G V a0 a1 ou th g9 B) : ∃ fs : List Value, V 20 0 = some (a1, .inr (5, fs)) := by
  obtain ⟨A, m0, dn, hn, ne, nk, qs, lv, he, hd, ow, ki, ed, md, ak, sk, fk, ln, po, cs, kf, fa, ff, fs, ss, ds, mow, mki, med, mmd, mak, msk, mfk, mmn, mpo, mcs, mkf, mss, mot, hCV, hMW, h50, hRL⟩ := h
  exact hMW.o
theorem JJ.c {G : Gl} {V : Vw} {a0 a1 ou : Nat} {th : Int32} {g9 : Nat → Int64} {B : Prop} (h : JJ G V a0 a1 ou th g9 B) : ∃ fs : List Value, V 0 0 = some (a0, .inr (1, fs)) := by
  obtain ⟨A, m0, dn, hn, ne, nk, qs, lv, he, hd, ow, ki, ed, md, ak, sk, fk, ln, po, cs, kf, fa, ff, fs, ss, ds, mow, mki, med, mmd, mak, msk, mfk, mmn, mpo, mcs, mkf, mss, mot, hCV, hMW, h50, hRL⟩ := h
  obtain ⟨aE, aK, fA, r0, r1, fb, fl, sh, df, dE, dK, vA, ea, oA, cA, fK, vK, mcE, mcK, h0, -⟩ := hCV
  exact ⟨_, h0⟩
theorem JJ.out {G : Gl} {V : Vw} {a0 a1 ou : Nat} {th : Int32} {g9 : Nat → Int64} {B : Prop} (h : JJ G V a0 a1 ou th g9 B) : V 50 0 = some (ou, aL G 1 g9) := by
  obtain ⟨A, m0, dn, hn, ne, nk, qs, lv, he, hd, ow, ki, ed, md, ak, sk, fk, ln, po, cs, kf, fa, ff, fs, ss, ds, mow, mki, med, mmd, mak, msk, mfk, mmn, mpo, mcs, mkf, mss, mot, hCV, hMW, h50, hRL⟩ := h
  exact h50
theorem JJ.nb {G : Gl} {V : Vw} {a0 a1 ou : Nat} {th : Int32} {g9 : Nat → Int64} {B B2 : Prop} (h : JJ G V a0 a1 ou th g9 B) (hB : B2 → B) : JJ G V a0 a1 ou th g9 B2 := by
  obtain ⟨A, m0, dn, hn, ne, nk, qs, lv, he, hd, ow, ki, ed, md, ak, sk, fk, ln, po, cs, kf, fa, ff, fs, ss, ds, mow, mki, med, mmd, mak, msk, mfk, mmn, mpo, mcs, mkf, mss, mot, hCV, hMW, h50, ⟨r1, r2, r3, r4, r5, r6, r7, r8, r9⟩⟩ := h
  exact ⟨A, m0, dn, hn, ne, nk, qs, lv, he, hd, ow, ki, ed, md, ak, sk, fk, ln, po, cs, kf, fa, ff, fs, ss, ds, mow, mki, med, mmd, mak, msk, mfk, mmn, mpo, mcs, mkf, mss, mot, hCV, hMW, h50, ⟨r1, r2, r3, r4, r5, r6, r7, r8, fun z => r9 (hB z)⟩⟩
/-- both objects are new -/
theorem JJ.new {G : Gl} {V V1 V2 V3 : Vw} {a0 a1 ou : Nat} {s9 : Int32}
    (hC : (∃ (m0 : Nat) (ss : Nat → Int32), pMost s9 = nI m0 ∧ (∀ a, a < 18 → ss a = -1) ∧ CV G V1 a0 m0 0 0 0 0 0 0 (fun _ => 0) (fun _ => 0) (fun _ => 0) (fun _ => 0) (fun _ => 0) (fun _ => 0) (fun _ => 0) (fun _ => 0) (fun _ _ => 0) (fun _ _ => 0) 0 (fun _ _ => 0) (fun _ => 0) (fun _ => 0) (fun _ => 0) ss (fun _ => 0)))
    (hM : ∃ (m0 : Nat) (A : Nat → Nat) (mss : Nat → Int32), pMost s9 = nI m0 ∧ (∀ a, a < 18 → mss a = -1) ∧ MW G V2 a1 A (nI m0) (nI 0) 0 0 0 (nI 0) 0 (-1) (fun _ => 0) (fun _ => 0) (fun _ => 0) (fun _ => 0) (fun _ => 0) (fun _ => 0) (fun _ => 0) (fun _ => 0) (fun _ => 0) (fun _ => 0) (fun _ => 0) (fun _ => 0) (fun _ => 0) (fun _ => 0) mss (fun _ => 0))
    (h1 : ∀ k i, k < 20 → V3 k i = V1 k i) (h2 : ∀ k, 20 ≤ k → k < 39 → V3 k 0 = V2 k 0) (h50 : V3 50 0 = some (ou, aL G 1 (fun _ => 0))) : JJ G V3 a0 a1 ou 0 (fun _ => 0) True := by
  obtain ⟨m0, ss, e0, hss, hCV⟩ := hC
  obtain ⟨m1, A, mss, e1, hms, hMW⟩ := hM
  have hm9 : m0 ≤ 1000 := by
    obtain ⟨aE, aK, fA, r0, r1, fb, fl, sh, df, dE, dK, vA, ea, oA, cA, fK, vK, mcE, mcK, h0, hE, hLE, hKV, hLK, h6, h7, hR0, hR1, h10, h11, h12, h13, h14, hm9, -⟩ := hCV
    exact hm9
  rw [← e1, e0] at hMW
  exact ⟨A, m0, 0, 0, 0, 0, 0, 0, 0, -1, fun _ => 0, fun _ => 0, fun _ => 0, fun _ => 0, fun _ => 0, fun _ => 0, fun _ => 0, fun _ => 0, fun _ _ => 0, fun _ _ => 0, fun _ _ => 0, fun _ => 0, fun _ => 0, fun _ => 0, ss, fun _ => 0, fun _ => 0, fun _ => 0, fun _ => 0, fun _ => 0, fun _ => 0, fun _ => 0, fun _ => 0, fun _ => 0, fun _ => 0, fun _ => 0, fun _ => 0, mss, fun _ => 0, hCV.of h1, hMW.of h2, h50, ⟨⟨by omega, by omega, hm9, by omega, by omega⟩, fun i hi => absurd hi (by omega), fun i hi => absurd hi (by omega), fun i _ _ => ⟨rfl, rfl, rfl, rfl, rfl⟩, fun i hi => absurd hi (by omega), fun q hq => absurd hq (by omega), fun q hq => ⟨(hms q hq).trans (hss q hq).symm, Or.inl (hss q hq)⟩, Or.inl ⟨rfl, rfl⟩, fun _ q _ => rfl⟩⟩

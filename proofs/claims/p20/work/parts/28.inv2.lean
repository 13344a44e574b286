/-! The class as a whole: calls that run, write or add. -/
theorem va_up_id {α : Type} (f : Nat → α) (i : Nat) : va_up f i (f i) = f := by
  funext j
  unfold va_up
  by_cases h : j = i
  · rw [if_pos h, h]
  · rw [if_neg h]
theorem EV.of {G : Gl} {V V' : Vw} {ne : Nat} {ea oA cA : Nat → Nat} {ow ki ed md ak sk fk : Nat → Int32} {ln : Nat → Nat} {po cs : Nat → Nat → Int32} (h : EV G V ne ea oA cA ow ki ed md ak sk fk ln po cs) (hV : ∀ i, V' 1 i = V 1 i ∧ V' 2 i = V 2 i ∧ V' 3 i = V 3 i) : EV G V' ne ea oA cA ow ki ed md ak sk fk ln po cs :=
  fun j hj => ⟨(hV j).1.trans (h j hj).1, (hV j).2.1.trans (h j hj).2.1, (hV j).2.2.trans (h j hj).2.2⟩
theorem KV.of {G : Gl} {V V' : Vw} {nk : Nat} {fK vK : Nat → Nat} {kf : Nat → Nat → Int32} (h : KV G V nk fK vK kf) (hV : ∀ i, V' 6 i = V 6 i ∧ V' 7 i = V 7 i) : KV G V' nk fK vK kf := fun j hj => ⟨(hV _).1.trans (h j hj).1, (hV _).2.trans (h j hj).2⟩
theorem LV.of {G : Gl} {V V' : Vw} {L a d n : Nat} {f : Nat → Nat} {mc : Int32} (h : LV G V L a d n f mc) (h8 : V' 8 L = V 8 L) (h9 : V' 9 L = V 9 L) : LV G V' L a d n f mc := by
  refine ⟨h8.trans h.1, ?_⟩
  rw [h9]
  exact h.2
theorem EV.set1 {G : Gl} {V : Vw} {ne : Nat} {ea oA cA : Nat → Nat} {ow ki ed md ak sk fk : Nat → Int32} {ln : Nat → Nat} {po cs : Nat → Nat → Int32} (h : EV G V ne ea oA cA ow ki ed md ak sk fk ln po cs) {i : Nat} {m a s f : Int32} : EV G (uV V 1 i (ea i, oE (ow i) (ki i) (ed i) (oA i) (cA i) (nI (ln i)) m a s f)) ne ea oA cA ow ki ed (va_up md i m) (va_up ak i a) (va_up sk i s) (va_up fk i f) ln po cs := by
  intro j hj
  refine ⟨?_, (uV_ne (by omega)).trans (h j hj).2.1, (uV_ne (by omega)).trans (h j hj).2.2⟩
  by_cases e : j = i
  · subst e
    rw [uV_self, va_up_self, va_up_self, va_up_self, va_up_self]
  · rw [uV_ne (fun z => e z.2), va_up_ne _ _ e, va_up_ne _ _ e, va_up_ne _ _ e, va_up_ne _ _ e]
    exact (h j hj).1
theorem RV.run {G : Gl} {V : Vw} {r s m0 : Nat} {b : Nat} {R : Int32 × Nat × Int32 × Int32 × Int32 × (Nat → Int32)} (hR : R.2.1 ≤ 8) : RV G (uRr G V b r s m0 R) b r m0 := ⟨s, _, _, _, _, _, _, hR, uR_4, uR_5⟩
theorem RV.of {G : Gl} {V V' : Vw} {b r m0 : Nat} (h : RV G V b r m0) (h4 : V' 4 b = V 4 b) (h5 : V' 5 b = V 5 b) : RV G V' b r m0 := by
  obtain ⟨s, hh, nx, oc, an, st, f, e1, e2, e3⟩ := h
  exact ⟨s, hh, nx, oc, an, st, f, e1, h4.trans e2, h5.trans e3⟩
set_option maxHeartbeats 1000000 in
theorem c_by (G : Gl) (l : Launch) (htr : l.stackTraces = false) (V : Vw) (a0 : Nat) (m0 : Nat) (dy qs hs lv he : Int32) (ne : Nat) (ow ki ed md ak sk fk : Nat → Int32) (ln : Nat → Nat) (po cs : Nat → Nat → Int32) (nk : Nat) (kf : Nat → Nat → Int32) (fa ff fs ss ds : Nat → Int32) (h : CV G V a0 m0 dy qs hs lv he ne ow ki ed md ak sk fk ln po cs nk kf fa ff fs ss ds) (n : Int32) :
    Cx G l y_C_by b_C_by 3 (Option.some Jvm.ClassFile.FieldType.int) { frames := 8, cells := 2, slots := 12, locals := 132 } V [.ref a0, .int n] (fun rv V' => 1 ≤ n ∧ n ≤ hs ∧ n = lv ∧ (∃ i : Nat, i < ne ∧ he = nI i ∧ rv = some (.int (if (pEnd (ln i) (po i) (cs i) fa (ak i) m0).1 = 6 then (pEnd (ln i) (po i) (cs i) fa (ak i) m0).2.2.2.1 else ff (ki i).toNatClampNeg))) ∧ CV G V' a0 m0 dy qs hs lv he ne ow ki ed md ak sk fk ln po cs nk kf fa ff fs ss ds ∧ OUT V V') (fun E V' => V' = V ∧ ((E = "java/lang/IllegalArgumentException" ∧ (n < 1 ∨ hs < n)) ∨ (E = "java/lang/IllegalStateException" ∧ 1 ≤ n ∧ n ≤ hs ∧ ¬ n = lv))) := by
  have hcv := h
  obtain ⟨aE, aK, fA, r0, r1, fb, fl, sh, df, dE, dK, vA, ea, oA, cA, fK, vK, mcE, mcK, h0, hE, hLE, hKV, hLK, h6, h7, hR0, hR1, h10, h11, h12, h13, h14, hm9, hne, hnk, hok, hki, hhe⟩ := h
  obtain ⟨s0, h9, nx, oc, an, st, f0, hh, h4, h5⟩ := id hR0
  refine (k_C_by G l htr V a0 aE aK fA r0 r1 fb fl sh df (nI m0) dy qs hs lv he ne ea oA cA ow ki ed md ak sk fk ln po cs hE dE mcE hne hLE hok s0 nx oc an st h9 f0 m0 hh hm9 vA fa ff n hhe hki h0 h4 h5 h6 h7 h10).mono (fun rv V1 hR => ?_) (fun E V1 hT => ?_)
  · obtain ⟨e1, e2, e3, i, e4, e5, rfl, e6⟩ := hR
    rw [pEnd_f.1, pEnd_f.2.1] at e6
    exact ⟨e1, e2, e3, ⟨i, e4, e5, e6⟩, ⟨aE, aK, fA, r0, r1, fb, fl, sh, df, dE, dK, vA, ea, oA, cA, fK, vK, mcE, mcK, (uR_o (by decide) (by decide)).trans h0, hE.of (fun j => ⟨(uR_o (by decide) (by decide)), (uR_o (by decide) (by decide)), (uR_o (by decide) (by decide))⟩), hLE.of (uR_o (by decide) (by decide)) (uR_o (by decide) (by decide)), hKV.of (fun j => ⟨(uR_o (by decide) (by decide)), (uR_o (by decide) (by decide))⟩), hLK.of (uR_o (by decide) (by decide)) (uR_o (by decide) (by decide)), (uR_o (by decide) (by decide)).trans h6, (uR_o (by decide) (by decide)).trans h7, RV.run (pRun_h (by decide)), hR1.of (uR_ob (by decide)) (uR_ob (by decide)), (uR_o (by decide) (by decide)).trans h10, (uR_o (by decide) (by decide)).trans h11, (uR_o (by decide) (by decide)).trans h12, (uR_o (by decide) (by decide)).trans h13, ⟨(uR_o (by decide) (by decide)).trans h14.1, (uR_o (by decide) (by decide)).trans h14.2⟩, hm9, hne, hnk, hok, hki, hhe⟩, (fun k i hk => by rw [uR_o (by omega) (by omega)])⟩
  · exact hT
set_option maxHeartbeats 1000000 in
theorem c_make (G : Gl) (l : Launch) (htr : l.stackTraces = false) (V : Vw) (a0 : Nat) (m0 : Nat) (dy qs hs lv he : Int32) (ne : Nat) (ow ki ed md ak sk fk : Nat → Int32) (ln : Nat → Nat) (po cs : Nat → Nat → Int32) (nk : Nat) (kf : Nat → Nat → Int32) (fa ff fs ss ds : Nat → Int32) (h : CV G V a0 m0 dy qs hs lv he ne ow ki ed md ak sk fk ln po cs nk kf fa ff fs ss ds) (n : Int32) :
    Cx G l y_C_make b_C_make 3 (Option.some Jvm.ClassFile.FieldType.int) { frames := 8, cells := 2, slots := 12, locals := 132 } V [.ref a0, .int n] (fun rv V' => (∃ i : Nat, i < ne ∧ n = nI i ∧ md i = 0 ∧ (((pEnd (ln i) (po i) (cs i) fa (ak i) m0).1 = 6 ∧ rv = some (.int 0) ∧ CV G V' a0 m0 dy qs hs 0 he ne ow ki ed (va_up md i 1) ak sk fk ln po cs nk kf fa ff fs ss ds) ∨ (¬ (pEnd (ln i) (po i) (cs i) fa (ak i) m0).1 = 6 ∧ rv = some (.int (-(pEnd (ln i) (po i) (cs i) fa (ak i) m0).1)) ∧ CV G V' a0 m0 dy qs hs 0 he ne ow ki ed md ak sk fk ln po cs nk kf fa ff fs ss ds))) ∧ OUT V V') (fun E V' => V' = V ∧ ((E = "java/util/NoSuchElementException" ∧ (n < 0 ∨ nI ne ≤ n)) ∨ (E = "java/lang/IllegalStateException" ∧ ∃ i : Nat, i < ne ∧ n = nI i ∧ md i ≠ 0))) := by
  have hcv := h
  obtain ⟨aE, aK, fA, r0, r1, fb, fl, sh, df, dE, dK, vA, ea, oA, cA, fK, vK, mcE, mcK, h0, hE, hLE, hKV, hLK, h6, h7, hR0, hR1, h10, h11, h12, h13, h14, hm9, hne, hnk, hok, hki, hhe⟩ := h
  obtain ⟨s0, h9, nx, oc, an, st, f0, hh, h4, h5⟩ := id hR0
  refine (k_C_make G l htr V a0 aE aK fA r0 r1 fb fl sh df (nI m0) dy qs hs lv he ne ea oA cA ow ki ed md ak sk fk ln po cs hE dE mcE hne hLE hok s0 nx oc an st h9 f0 m0 hh hm9 vA fa n h0 h4 h5 h6 h7).mono (fun rv V1 hR => ?_) (fun E V1 hT => ?_)
  · obtain ⟨i, e1, e2, e3, e4⟩ := hR
    rcases e4 with ⟨e5, e6, rfl⟩ | ⟨e5, e6, rfl⟩
    · rw [pEnd_f.1] at e5
      refine ⟨⟨i, e1, e2, e3, Or.inl ⟨e5, e6, ?_⟩⟩, (fun k i hk => by rw [uV_ne (by omega), uR_o (by omega) (by omega), uV_ne (by omega)])⟩
      have hEm := EV.set1 (hE.of (V' := uR G (uV V 0 0 (a0, oC (nI m0) aE aK fA r0 r1 fb fl sh df dy qs hs 0 he)) 0 r0 s0 (nI m0) (pRun (ln i) (po i) (cs i) fa (ak i) m0 0 0 0 0 f0).2.1 (pRun (ln i) (po i) (cs i) fa (ak i) m0 0 0 0 0 f0).2.2.1 (pRun (ln i) (po i) (cs i) fa (ak i) m0 0 0 0 0 f0).1 (pRun (ln i) (po i) (cs i) fa (ak i) m0 0 0 0 0 f0).2.2.2.1 (pRun (ln i) (po i) (cs i) fa (ak i) m0 0 0 0 0 f0).2.2.2.2.1 (pRun (ln i) (po i) (cs i) fa (ak i) m0 0 0 0 0 f0).2.2.2.2.2) (fun j => ⟨(uR_o (by decide) (by decide)), (uR_o (by decide) (by decide)), (uR_o (by decide) (by decide))⟩)) (i := i) (m := 1) (a := ak i) (s := sk i) (f := fk i)
      rw [va_up_id, va_up_id, va_up_id] at hEm
      exact ⟨aE, aK, fA, r0, r1, fb, fl, sh, df, dE, dK, vA, ea, oA, cA, fK, vK, mcE, mcK, ((uV_ne (by omega)).trans (uR_o (by decide) (by decide))).trans (uV_self _ _ _ _), hEm, hLE.of ((uV_ne (by omega)).trans (uR_o (by decide) (by decide))) ((uV_ne (by omega)).trans (uR_o (by decide) (by decide))), hKV.of (fun j => ⟨((uV_ne (by omega)).trans (uR_o (by decide) (by decide))), ((uV_ne (by omega)).trans (uR_o (by decide) (by decide)))⟩), hLK.of ((uV_ne (by omega)).trans (uR_o (by decide) (by decide))) ((uV_ne (by omega)).trans (uR_o (by decide) (by decide))), ((uV_ne (by omega)).trans (uR_o (by decide) (by decide))).trans h6, ((uV_ne (by omega)).trans (uR_o (by decide) (by decide))).trans h7, (RV.run (pRun_h (by decide))).of (uV_ne (by omega)) (uV_ne (by omega)), hR1.of ((uV_ne (by omega)).trans (uR_ob (by decide))) ((uV_ne (by omega)).trans (uR_ob (by decide))), ((uV_ne (by omega)).trans (uR_o (by decide) (by decide))).trans h10, ((uV_ne (by omega)).trans (uR_o (by decide) (by decide))).trans h11, ((uV_ne (by omega)).trans (uR_o (by decide) (by decide))).trans h12, ((uV_ne (by omega)).trans (uR_o (by decide) (by decide))).trans h13, ⟨((uV_ne (by omega)).trans (uR_o (by decide) (by decide))).trans h14.1, ((uV_ne (by omega)).trans (uR_o (by decide) (by decide))).trans h14.2⟩, hm9, hne, hnk, hok, hki, (fun z => absurd rfl z)⟩
    · rw [pEnd_f.1] at e5 e6
      exact ⟨⟨i, e1, e2, e3, Or.inr ⟨e5, e6, ⟨aE, aK, fA, r0, r1, fb, fl, sh, df, dE, dK, vA, ea, oA, cA, fK, vK, mcE, mcK, (uR_o (by decide) (by decide)).trans (uV_self _ _ _ _), hE.of (fun j => ⟨(uR_o (by decide) (by decide)), (uR_o (by decide) (by decide)), (uR_o (by decide) (by decide))⟩), hLE.of (uR_o (by decide) (by decide)) (uR_o (by decide) (by decide)), hKV.of (fun j => ⟨(uR_o (by decide) (by decide)), (uR_o (by decide) (by decide))⟩), hLK.of (uR_o (by decide) (by decide)) (uR_o (by decide) (by decide)), (uR_o (by decide) (by decide)).trans h6, (uR_o (by decide) (by decide)).trans h7, RV.run (pRun_h (by decide)), hR1.of (uR_ob (by decide)) (uR_ob (by decide)), (uR_o (by decide) (by decide)).trans h10, (uR_o (by decide) (by decide)).trans h11, (uR_o (by decide) (by decide)).trans h12, (uR_o (by decide) (by decide)).trans h13, ⟨(uR_o (by decide) (by decide)).trans h14.1, (uR_o (by decide) (by decide)).trans h14.2⟩, hm9, hne, hnk, hok, hki, (fun z => absurd rfl z)⟩⟩⟩, (fun k i hk => by rw [uR_o (by omega) (by omega), uV_ne (by omega)])⟩
  · exact hT
theorem EV.op {G : Gl} {V : Vw} {ne : Nat} {ea oA cA : Nat → Nat} {ow ki ed md ak sk fk : Nat → Int32} {ln : Nat → Nat} {po cs : Nat → Nat → Int32} (h : EV G V ne ea oA cA ow ki ed md ak sk fk ln po cs) {i : Nat} {c1 c2 : Int32} : EV G (uV (uV (uV V 2 i ((oA i), aI G 16 (upd (po i) (ln i) c1))) 3 i ((cA i), aI G 16 (upd (cs i) (ln i) c2))) 1 i ((ea i), oE (ow i) (ki i) (ed i) (oA i) (cA i) (nI (ln i + 1)) (md i) (ak i) (sk i) (fk i))) ne ea oA cA ow ki ed md ak sk fk (va_up ln i (ln i + 1)) (va_up po i (upd (po i) (ln i) c1)) (va_up cs i (upd (cs i) (ln i) c2)) := by
  intro j hj
  by_cases e : j = i
  · subst e
    refine ⟨?_, ?_, ?_⟩
    · rw [uV_self, va_up_self]
    · rw [va_up_self]; exact (uV_ne (by omega)).trans ((uV_ne (by omega)).trans (uV_self _ _ _ _))
    · rw [va_up_self]; exact (uV_ne (by omega)).trans (uV_self _ _ _ _)
  · rw [va_up_ne _ _ e, va_up_ne _ _ e, va_up_ne _ _ e]
    exact ⟨(uV_ne (fun z => e z.2)).trans ((uV_ne (fun z => e z.2)).trans ((uV_ne (fun z => e z.2)).trans (h j hj).1)), (uV_ne (fun z => e z.2)).trans ((uV_ne (fun z => e z.2)).trans ((uV_ne (fun z => e z.2)).trans (h j hj).2.1)), (uV_ne (fun z => e z.2)).trans ((uV_ne (fun z => e z.2)).trans ((uV_ne (fun z => e z.2)).trans (h j hj).2.2))⟩
theorem ok_op {ln on : Nat} {po cs : Nat → Int32} {cn : Int32} (h : okCode ln po cs) (hl : ln < 16) (hon : on ≤ 10) (hc : pLs (nI on) ≤ cn ∧ cn ≤ pGr on) : okCode (ln + 1) (upd po ln (nI on)) (upd cs ln cn) := by
  refine ⟨by omega, fun j hj => ?_⟩
  by_cases e : j = ln
  · subst e
    refine ⟨on, hon, by simp [upd], fun h1 => ?_⟩
    subst h1
    obtain ⟨c, hc1, hc2⟩ := nI_of2 (x := cn) (M := 7) (n := 7) (by decide) (Int32.not_lt.mpr hc.1) hc.2
    exact ⟨c, by omega, by simp [upd, hc2]⟩
  · obtain ⟨q, h1, h2, h3⟩ := h.2 j (by omega)
    exact ⟨q, h1, by simp [upd, e, h2], fun z => by obtain ⟨c, c1, c2⟩ := h3 z; exact ⟨c, c1, by simp [upd, e, c2]⟩⟩
set_option maxHeartbeats 1000000 in
theorem c_op (G : Gl) (l : Launch) (htr : l.stackTraces = false) (V : Vw) (a0 : Nat) (m0 : Nat) (dy qs hs lv he : Int32) (ne : Nat) (ow ki ed md ak sk fk : Nat → Int32) (ln : Nat → Nat) (po cs : Nat → Nat → Int32) (nk : Nat) (kf : Nat → Nat → Int32) (fa ff fs ss ds : Nat → Int32) (h : CV G V a0 m0 dy qs hs lv he ne ow ki ed md ak sk fk ln po cs nk kf fa ff fs ss ds) (n op cn : Int32) :
    Cx G l y_C_op b_C_op 5 (Option.some Jvm.ClassFile.FieldType.int) { frames := 8, cells := 5, slots := 30, locals := 132 } V [.ref a0, .int n, .int op, .int cn] (fun rv V' => (∃ i on : Nat, i < ne ∧ n = nI i ∧ on ≤ 10 ∧ op = nI on ∧ (pLs (nI on) ≤ cn ∧ cn ≤ pGr on) ∧ md i = 0 ∧ ln i < 16 ∧ rv = some (.int (nI (ln i + 1))) ∧ CV G V' a0 m0 dy qs hs lv he ne ow ki ed md ak sk fk (va_up ln i (ln i + 1)) (va_up po i (upd (po i) (ln i) (nI on))) (va_up cs i (upd (cs i) (ln i) cn)) nk kf fa ff fs ss ds) ∧ OUT V V') (fun E V' => V' = V ∧ ((E = "java/util/NoSuchElementException" ∧ (n < 0 ∨ nI ne ≤ n)) ∨ ∃ i : Nat, i < ne ∧ n = nI i ∧ ((E = "java/lang/IllegalArgumentException" ∧ (op < 0 ∨ 10 < op)) ∨ ∃ on : Nat, on ≤ 10 ∧ op = nI on ∧ ((E = "java/lang/IllegalArgumentException" ∧ (cn < pLs (nI on) ∨ pGr on < cn)) ∨ ((pLs (nI on) ≤ cn ∧ cn ≤ pGr on) ∧ ((E = "java/lang/IllegalStateException" ∧ md i ≠ 0) ∨ (md i = 0 ∧ E = "java/lang/UnsupportedOperationException" ∧ 16 ≤ ln i))))))) := by
  have hcv := h
  obtain ⟨aE, aK, fA, r0, r1, fb, fl, sh, df, dE, dK, vA, ea, oA, cA, fK, vK, mcE, mcK, h0, hE, hLE, hKV, hLK, h6, h7, hR0, hR1, h10, h11, h12, h13, h14, hm9, hne, hnk, hok, hki, hhe⟩ := h
  refine (k_C_op G l htr V a0 aE aK fA r0 r1 fb fl sh df (nI m0) dy qs hs lv he ne ea oA cA ow ki ed md ak sk fk ln po cs hE dE mcE hne hLE hok n op cn h0).mono (fun rv V1 hR => ?_) (fun E V1 hT => ?_)
  · obtain ⟨i, on, e1, e2, e3, e4, e5, e6, e7, e8, rfl⟩ := hR
    refine ⟨⟨i, on, e1, e2, e3, e4, e5, e6, e7, e8, ⟨aE, aK, fA, r0, r1, fb, fl, sh, df, dE, dK, vA, ea, oA, cA, fK, vK, mcE, mcK, h0, hE.op, hLE, hKV, hLK, h6, h7, hR0, hR1, h10, h11, h12, h13, h14, hm9, hne, hnk, fun j hj => ?_, hki, hhe⟩⟩, (fun k i hk => by rw [uV_ne (by omega)]; rw [uV_ne (by omega)]; rw [uV_ne (by omega)])⟩
    by_cases e : j = i
    · subst e
      rw [va_up_self, va_up_self, va_up_self]
      exact ok_op (hok j hj) e7 e3 e5
    · rw [va_up_ne _ _ e, va_up_ne _ _ e, va_up_ne _ _ e]
      exact hok j hj
  · exact hT

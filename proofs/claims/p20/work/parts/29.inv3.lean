/-! The class as a whole: compare, count. -/
theorem Cm.mono {G : Gl} {l : Launch} {y : MethodName} {cc : ByteArray} {maxL : Nat} {ret : Option FieldType} {rm : Room} {V : Vw} {As : List Value} {Rt Rt2 : Option Value → Vw → Prop} (h : Cm G l y cc maxL ret rm V As Rt) (h1 : ∀ r V', Rt r V' → Rt2 r V') : Cm G l y cc maxL ret rm V As Rt2 := by
  unfold Cm Met at *
  refine Free.MetFree.mono h (fun _ _ z => z) (fun _ _ _ _ _ z => z) (fun a s oc t _ z => ?_)
  obtain ⟨⟨⟨r, V1, e1, e2, e3⟩, e4⟩, e5⟩ := z
  exact ⟨⟨⟨r, V1, e1, h1 _ _ e2, e3⟩, e4⟩, e5⟩
set_option maxHeartbeats 1000000 in
theorem c_compare (G : Gl) (l : Launch) (htr : l.stackTraces = false) (V : Vw) (a0 : Nat) (m0 : Nat) (dy qs hs lv he : Int32) (ne : Nat) (ow ki ed md ak sk fk : Nat → Int32) (ln : Nat → Nat) (po cs : Nat → Nat → Int32) (nk : Nat) (kf : Nat → Nat → Int32) (fa ff fs ss ds : Nat → Int32) (h : CV G V a0 m0 dy qs hs lv he ne ow ki ed md ak sk fk ln po cs nk kf fa ff fs ss ds) (n n2 : Int32) :
    Cx G l y_C_compare b_C_compare 7 (Option.some Jvm.ClassFile.FieldType.int) { frames := 8, cells := 2, slots := 12, locals := 132 } V [.ref a0, .int n, .int n2] (fun rv V' => (∃ i i2 : Nat, i < ne ∧ i2 < ne ∧ n = nI i ∧ n2 = nI i2 ∧ rv = some (.int (pDiff (fun j => ((pEnd (ln i) (po i) (cs i) (kf j) (ak i) m0).1, (pEnd (ln i) (po i) (cs i) (kf j) (ak i) m0).2.2.2.1)) (fun j => ((pEnd (ln i2) (po i2) (cs i2) (kf j) (ak i2) m0).1, (pEnd (ln i2) (po i2) (cs i2) (kf j) (ak i2) m0).2.2.2.1)) nk))) ∧ CV G V' a0 m0 dy qs hs lv he ne ow ki ed md ak sk fk ln po cs nk kf fa ff fs ss ds ∧ OUT V V') (fun E V' => E = "java/util/NoSuchElementException" ∧ V' = V ∧ ((n < 0 ∨ nI ne ≤ n) ∨ (n2 < 0 ∨ nI ne ≤ n2))) := by
  have hcv := h
  obtain ⟨aE, aK, fA, r0, r1, fb, fl, sh, df, dE, dK, vA, ea, oA, cA, fK, vK, mcE, mcK, h0, hE, hLE, hKV, hLK, h6, h7, hR0, hR1, h10, h11, h12, h13, h14, hm9, hne, hnk, hok, hki, hhe⟩ := h
  obtain ⟨s0, h9, nx, oc, an, st, f0, hh, h4, h5⟩ := id hR0
  obtain ⟨s1, h19, nx1, oc1, an1, st1, f1, hh1, h41, h51⟩ := id hR1
  refine (k_C_compare G l htr V a0 aE aK fA r0 r1 fb fl sh df (nI m0) dy qs hs lv he ne ea oA cA ow ki ed md ak sk fk ln po cs hE dE mcE hne hLE hok nk dK fK vK kf mcK hnk hKV hLK s0 s1 m0 hm9 nx oc an st h9 f0 nx1 oc1 an1 st1 h19 f1 hh hh1 n n2 h0 h4 h5 h41 h51).mono (fun rv V1 hR => ?_) (fun E V1 hT => ?_)
  · obtain ⟨i, i2, e1, e2, e3, e4, e5, hA, nxA, ocA, anA, stA, gA, hB, nxB, ocB, anB, stB, gB, e6, e7, rfl⟩ := hR
    exact ⟨⟨i, i2, e1, e2, e3, e4, e5⟩, ⟨aE, aK, fA, r0, r1, fb, fl, sh, df, dE, dK, vA, ea, oA, cA, fK, vK, mcE, mcK, ((uR_o (by decide) (by decide)).trans (uR_o (by decide) (by decide))).trans h0, hE.of (fun j => ⟨((uR_o (by decide) (by decide)).trans (uR_o (by decide) (by decide))), ((uR_o (by decide) (by decide)).trans (uR_o (by decide) (by decide))), ((uR_o (by decide) (by decide)).trans (uR_o (by decide) (by decide)))⟩), hLE.of ((uR_o (by decide) (by decide)).trans (uR_o (by decide) (by decide))) ((uR_o (by decide) (by decide)).trans (uR_o (by decide) (by decide))), hKV.of (fun j => ⟨((uR_o (by decide) (by decide)).trans (uR_o (by decide) (by decide))), ((uR_o (by decide) (by decide)).trans (uR_o (by decide) (by decide)))⟩), hLK.of ((uR_o (by decide) (by decide)).trans (uR_o (by decide) (by decide))) ((uR_o (by decide) (by decide)).trans (uR_o (by decide) (by decide))), ((uR_o (by decide) (by decide)).trans (uR_o (by decide) (by decide))).trans h6, ((uR_o (by decide) (by decide)).trans (uR_o (by decide) (by decide))).trans h7, ⟨s0, hA, nxA, ocA, anA, stA, gA, e6, (uR_ob (by decide)).trans uR_4, (uR_ob (by decide)).trans uR_5⟩, ⟨s1, hB, nxB, ocB, anB, stB, gB, e7, uR_4, uR_5⟩, ((uR_o (by decide) (by decide)).trans (uR_o (by decide) (by decide))).trans h10, ((uR_o (by decide) (by decide)).trans (uR_o (by decide) (by decide))).trans h11, ((uR_o (by decide) (by decide)).trans (uR_o (by decide) (by decide))).trans h12, ((uR_o (by decide) (by decide)).trans (uR_o (by decide) (by decide))).trans h13, ⟨((uR_o (by decide) (by decide)).trans (uR_o (by decide) (by decide))).trans h14.1, ((uR_o (by decide) (by decide)).trans (uR_o (by decide) (by decide))).trans h14.2⟩, hm9, hne, hnk, hok, hki, hhe⟩, (fun k i hk => by rw [uR_o (by omega) (by omega), uR_o (by omega) (by omega)])⟩
  · exact hT
theorem c_count_in (G : Gl) (l : Launch) (htr : l.stackTraces = false) (V : Vw) (a0 : Nat) (m0 : Nat) (dy qs hs lv he : Int32) (ne : Nat) (ow ki ed md ak sk fk : Nat → Int32) (ln : Nat → Nat) (po cs : Nat → Nat → Int32) (nk : Nat) (kf : Nat → Nat → Int32) (fa ff fs ss ds : Nat → Int32) (h : CV G V a0 m0 dy qs hs lv he ne ow ki ed md ak sk fk ln po cs nk kf fa ff fs ss ds) (t : Nat) (ht : t ≤ 7) :
    Cm G l y_C_count b_C_count 2 (some .int) { frames := 4, cells := 0, slots := 0, locals := 86 } V [.ref a0, .int (nI t)] (fun rv V' => rv = some (.int (pCount t ne md qs fs nk hs dy (nI m0))) ∧ V' = V) := by
  obtain ⟨aE, aK, fA, r0, r1, fb, fl, sh, df, dE, dK, vA, ea, oA, cA, fK, vK, mcE, mcK, h0, hE, hLE, hKV, hLK, h6, h7, hR0, hR1, h10, h11, h12, h13, h14, hm9, hne, hnk, hok, hki, hhe⟩ := h
  exact k_C_count_in G l htr V a0 aE aK fA r0 r1 fb fl sh df (nI m0) dy qs hs lv he ne ea oA cA ow ki ed md ak sk fk ln po cs hE dE mcE hne hLE nk dK fK vK kf mcK hnk hKV hLK fs t ht h0 h11
set_option maxHeartbeats 1000000 in
theorem c_keep (G : Gl) (l : Launch) (htr : l.stackTraces = false) (V : Vw) (a0 : Nat) (m0 : Nat) (dy qs hs lv he : Int32) (ne : Nat) (ow ki ed md ak sk fk : Nat → Int32) (ln : Nat → Nat) (po cs : Nat → Nat → Int32) (nk : Nat) (kf : Nat → Nat → Int32) (fa ff fs ss ds : Nat → Int32) (h : CV G V a0 m0 dy qs hs lv he ne ow ki ed md ak sk fk ln po cs nk kf fa ff fs ss ds)  :
    Cx G l y_C_keep b_C_keep 1 (Option.some Jvm.ClassFile.FieldType.int) { frames := 7, cells := 3, slots := 45, locals := 171 } V [.ref a0] (fun rv V' => rv = some (.int (nI (nk + 1))) ∧ nk < 8 ∧ CV G V' a0 m0 dy qs hs lv he ne ow ki ed md ak sk fk ln po cs (nk + 1) (va_up kf nk (va_cpy fa (fun _ => 0) 0 0 8)) fa ff fs ss ds ∧ OUT V V') (fun E V' => E = "java/lang/UnsupportedOperationException" ∧ 8 ≤ nk ∧ V' = V) := by
  have hcv := h
  obtain ⟨aE, aK, fA, r0, r1, fb, fl, sh, df, dE, dK, vA, ea, oA, cA, fK, vK, mcE, mcK, h0, hE, hLE, hKV, hLK, h6, h7, hR0, hR1, h10, h11, h12, h13, h14, hm9, hne, hnk, hok, hki, hhe⟩ := h
  refine (k_C_keep G l htr V a0 aE aK fA r0 r1 fb fl sh df (nI m0) dy qs hs lv he nk dK fK vK kf mcK hnk hKV hLK h14.2 vA fa h0 h6 h7).mono (fun rv V1 hR => ?_) (fun E V1 hT => ?_)
  · obtain ⟨e1, e2, fB, vB, q, N, e3, e4, rfl⟩ := hR
    refine ⟨e1, e2, ⟨aE, aK, fA, r0, r1, fb, fl, sh, df, dE, q, vA, ea, oA, cA, va_up fK nk fB, va_up vK nk vB, mcE, mcK + 1, h0, hE, hLE.of rfl rfl, fun j hj => ?_, ⟨uV_self _ _ _ _, Or.inr ⟨N, by omega, e3, e4, (uV_ne (by omega)).trans (uV_self _ _ _ _)⟩⟩, (uV_ne (by omega)).trans ((uV_ne (by omega)).trans ((uV_ne (by omega)).trans ((uV_ne (by omega)).trans h6))), (uV_ne (by omega)).trans ((uV_ne (by omega)).trans ((uV_ne (by omega)).trans ((uV_ne (by omega)).trans h7))), hR0, hR1, h10, h11, h12, h13, h14, hm9, hne, by omega, hok, hki, hhe⟩, (fun k i hk => by rw [uV_ne (by omega)]; rw [uV_ne (by omega)]; rw [uV_ne (by omega)]; rw [uV_ne (by omega)])⟩
    by_cases e : j = nk
    · subst e
      rw [va_up_self, va_up_self, va_up_self]
      exact ⟨(uV_ne (by omega)).trans ((uV_ne (by omega)).trans (uV_self _ _ _ _)), (uV_ne (by omega)).trans ((uV_ne (by omega)).trans ((uV_ne (by omega)).trans (uV_self _ _ _ _)))⟩
    · rw [va_up_ne _ _ e, va_up_ne _ _ e, va_up_ne _ _ e]
      exact ⟨(uV_ne (by omega)).trans ((uV_ne (by omega)).trans ((uV_ne (by omega)).trans ((uV_ne (by omega)).trans (hKV j (by omega)).1))), (uV_ne (by omega)).trans ((uV_ne (by omega)).trans ((uV_ne (by omega)).trans ((uV_ne (by omega)).trans (hKV j (by omega)).2)))⟩
  · exact ⟨hT.1, hT.2.2, hT.2.1⟩
set_option maxHeartbeats 1000000 in
theorem c_rule (G : Gl) (l : Launch) (htr : l.stackTraces = false) (V : Vw) (a0 : Nat) (m0 : Nat) (dy qs hs lv he : Int32) (ne : Nat) (ow ki ed md ak sk fk : Nat → Int32) (ln : Nat → Nat) (po cs : Nat → Nat → Int32) (nk : Nat) (kf : Nat → Nat → Int32) (fa ff fs ss ds : Nat → Int32) (h : CV G V a0 m0 dy qs hs lv he ne ow ki ed md ak sk fk ln po cs nk kf fa ff fs ss ds) (o k d : Int32) :
    Cx G l y_C_rule b_C_rule 4 (Option.some Jvm.ClassFile.FieldType.int) { frames := 8, cells := 7, slots := 96, locals := 171 } V [.ref a0, .int o, .int k, .int d] (fun rv V' => rv = some (.int (nI ne)) ∧ ne < 24 ∧ (0 ≤ d ∧ d ≤ 1000) ∧ ∃ on kn : Nat, on ≤ 5 ∧ kn ≤ 2 ∧ o = nI on ∧ k = nI kn ∧ CV G V' a0 m0 dy qs hs lv he (ne + 1) (va_up ow ne (nI on)) (va_up ki ne (nI kn)) (va_up ed ne d) (va_up md ne 0) (va_up ak ne 0) (va_up sk ne 0) (va_up fk ne 0) (va_up ln ne 0) (va_up po ne (fun _ => 0)) (va_up cs ne (fun _ => 0)) nk kf fa ff fs ss ds ∧ OUT V V') (fun E V' => V' = V ∧ ((E = "java/lang/IllegalArgumentException" ∧ (((o < 0 ∨ 5 < o) ∨ (k < 0 ∨ 2 < k)) ∨ (d < 0 ∨ 1000 < d))) ∨ (E = "java/lang/UnsupportedOperationException" ∧ 24 ≤ ne ∧ (0 ≤ d ∧ d ≤ 1000) ∧ ∃ on kn : Nat, on ≤ 5 ∧ kn ≤ 2 ∧ o = nI on ∧ k = nI kn))) := by
  have hcv := h
  obtain ⟨aE, aK, fA, r0, r1, fb, fl, sh, df, dE, dK, vA, ea, oA, cA, fK, vK, mcE, mcK, h0, hE, hLE, hKV, hLK, h6, h7, hR0, hR1, h10, h11, h12, h13, h14, hm9, hne, hnk, hok, hki, hhe⟩ := h
  refine (k_C_rule G l htr V a0 aE aK fA r0 r1 fb fl sh df (nI m0) dy qs hs lv he ne ea oA cA ow ki ed md ak sk fk ln po cs hE dE mcE hne hLE h14.1 o k d h0).mono (fun rv V1 hR => ?_) (fun E V1 hT => ?_)
  · obtain ⟨e1, e2, e3, on, kn, qe, oN, cN, q, N, e4, e5, e6, e7, e8, e9, rfl⟩ := hR
    refine ⟨e1, e2, e3, on, kn, e4, e5, e6, e7, ⟨aE, aK, fA, r0, r1, fb, fl, sh, df, q, dK, vA, va_up ea ne qe, va_up oA ne oN, va_up cA ne cN, fK, vK, mcE + 1, mcK, h0, fun j hj => ?_, ⟨uV_self _ _ _ _, Or.inr ⟨N, by omega, e8, e9, (uV_ne (by omega)).trans (uV_self _ _ _ _)⟩⟩, hKV, hLK.of rfl rfl, h6, h7, hR0, hR1, h10, h11, h12, h13, h14, hm9, by omega, hnk, fun j hj => ?_, fun j hj => ?_, fun z => ?_⟩, (fun k i hk => by rw [uV_ne (by omega)]; rw [uV_ne (by omega)]; rw [uV_ne (by omega)]; rw [uV_ne (by omega)]; rw [uV_ne (by omega)])⟩
    · by_cases e : j = ne
      · subst e
        refine ⟨?_, ?_, ?_⟩
        · rw [va_up_self, va_up_self, va_up_self, va_up_self, va_up_self, va_up_self, va_up_self, va_up_self, va_up_self, va_up_self, va_up_self]; exact (uV_ne (by omega)).trans ((uV_ne (by omega)).trans (uV_self _ _ _ _))
        · rw [va_up_self, va_up_self]; exact (uV_ne (by omega)).trans ((uV_ne (by omega)).trans ((uV_ne (by omega)).trans ((uV_ne (by omega)).trans (uV_self _ _ _ _))))
        · rw [va_up_self, va_up_self]; exact (uV_ne (by omega)).trans ((uV_ne (by omega)).trans ((uV_ne (by omega)).trans (uV_self _ _ _ _)))
      · rw [va_up_ne _ _ e, va_up_ne _ _ e, va_up_ne _ _ e, va_up_ne _ _ e, va_up_ne _ _ e, va_up_ne _ _ e, va_up_ne _ _ e, va_up_ne _ _ e, va_up_ne _ _ e, va_up_ne _ _ e, va_up_ne _ _ e, va_up_ne _ _ e, va_up_ne _ _ e]
        exact ⟨(uV_ne (by omega)).trans ((uV_ne (by omega)).trans ((uV_ne (by omega)).trans ((uV_ne (by omega)).trans ((uV_ne (by omega)).trans (hE j (by omega)).1)))), (uV_ne (by omega)).trans ((uV_ne (by omega)).trans ((uV_ne (by omega)).trans ((uV_ne (by omega)).trans ((uV_ne (by omega)).trans (hE j (by omega)).2.1)))), (uV_ne (by omega)).trans ((uV_ne (by omega)).trans ((uV_ne (by omega)).trans ((uV_ne (by omega)).trans ((uV_ne (by omega)).trans (hE j (by omega)).2.2))))⟩
    · by_cases e : j = ne
      · subst e
        rw [va_up_self, va_up_self, va_up_self]
        exact ⟨by omega, fun a ha => absurd ha (by omega)⟩
      · rw [va_up_ne _ _ e, va_up_ne _ _ e, va_up_ne _ _ e]
        exact hok j (by omega)
    · by_cases e : j = ne
      · subst e
        rw [va_up_self]
        exact ⟨kn, e5, rfl⟩
      · rw [va_up_ne _ _ e]
        exact hki j (by omega)
    · obtain ⟨i, z1, z2⟩ := hhe z
      exact ⟨i, by omega, z2⟩
  · exact hT
theorem c_init (G : Gl) (l : Launch) (htr : l.stackTraces = false) (V : Vw) (a0 : Nat) (s9 : Int32) (h0 : V 0 0 = some (a0, .inr (1, [.int 0, .null, .null, .null, .null, .null, .null, .null, .null, .null, .int 0, .int 0, .int 0, .int 0, .int 0]))) (h14 : V 14 0 = none ∧ V 14 1 = none) :
    Cm G l y_C_init b_C_init 3 none { frames := 4, cells := 12, slots := 120, locals := 72 } V [.ref a0, .int s9] (fun rv V' => rv = none ∧ (∃ (m0 : Nat) (ss : Nat → Int32), pMost s9 = nI m0 ∧ (∀ a, a < 18 → ss a = -1) ∧ CV G V' a0 m0 0 0 0 0 0 0 (fun _ => 0) (fun _ => 0) (fun _ => 0) (fun _ => 0) (fun _ => 0) (fun _ => 0) (fun _ => 0) (fun _ => 0) (fun _ _ => 0) (fun _ _ => 0) 0 (fun _ _ => 0) (fun _ => 0) (fun _ => 0) (fun _ => 0) ss (fun _ => 0)) ∧ OUT V V') := by
  refine (k_C_init G l htr V a0 s9 h0).mono (fun rv V1 hR => ?_)
  obtain ⟨e1, aE, aK, fA, vA, r0, s0, r1, s1, fb, fl, sh, df, m0, hm0, em0, g0, g80, g81, g6, g7, g40, g50, g41, g51, g10, g11, g13, ⟨ss, g12, hss⟩, hout⟩ := hR
  refine ⟨e1, ⟨m0, ss, em0, hss, ⟨aE, aK, fA, r0, r1, fb, fl, sh, df, G.2.1 9, G.2.1 9, vA, (fun _ => 0), (fun _ => 0), (fun _ => 0), (fun _ => 0), (fun _ => 0), 0, 0, g0, fun j hj => absurd hj (by omega), ⟨g80, Or.inl ⟨rfl, rfl⟩⟩, fun j hj => absurd hj (by omega), ⟨g81, Or.inl ⟨rfl, rfl⟩⟩, g6, g7, ⟨s0, 0, 0, 0, 0, 0, _, by omega, g40, g50⟩, ⟨s1, 0, 0, 0, 0, 0, _, by omega, g41, g51⟩, g10, g11, g12, g13, ⟨(hout _ _ (by omega)).trans h14.1, (hout _ _ (by omega)).trans h14.2⟩, hm0, by omega, by omega, fun j hj => absurd hj (by omega), fun j hj => absurd hj (by omega), fun z => absurd rfl z⟩⟩, fun k i hk => hout k i (by omega)⟩

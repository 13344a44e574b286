/-! The class as a whole: what holds between two calls. -/
theorem Cx.mono {G : Gl} {l : Launch} {y : MethodName} {cc : ByteArray} {maxL : Nat} {ret : Option FieldType} {rm : Room} {V : Vw} {As : List Value} {Rt Rt2 : Option Value → Vw → Prop} {Th Th2 : String → Vw → Prop} (h : Cx G l y cc maxL ret rm V As Rt Th) (h1 : ∀ r V', Rt r V' → Rt2 r V') (h2 : ∀ E V', Th E V' → Th2 E V') : Cx G l y cc maxL ret rm V As Rt2 Th2 := by
  refine Free.MetFree.mono h (fun _ _ z => z) (fun _ _ _ _ _ z => z) (fun a s oc t _ z => ?_)
  rcases z with ⟨⟨⟨r, V1, e1, e2, e3⟩, e4⟩, e5⟩ | ⟨q, e0, E, ce, L, ⟨V1, e1, e2, e3⟩, e4⟩
  · exact Or.inl ⟨⟨⟨r, V1, e1, h1 _ _ e2, e3⟩, e4⟩, e5⟩
  · exact Or.inr ⟨q, e0, E, ce, L, ⟨V1, h2 _ _ e1, e2, e3⟩, e4⟩
def RV (G : Gl) (V : Vw) (b r m0 : Nat) : Prop := ∃ (s h : Nat) (nx oc an st : Int32) (f : Nat → Int32), h ≤ 8 ∧ V 4 b = some (r, oU s (nI m0) (nI h) nx oc an st) ∧ V 5 b = some (s, aI G 8 f)
def CV (G : Gl) (V : Vw) (a0 : Nat) (m0 : Nat) (dy qs hs lv he : Int32) (ne : Nat) (ow ki ed md ak sk fk : Nat → Int32) (ln : Nat → Nat) (po cs : Nat → Nat → Int32) (nk : Nat) (kf : Nat → Nat → Int32) (fa ff fs ss ds : Nat → Int32) : Prop :=
  ∃ (aE aK fA r0 r1 fb fl sh df dE dK vA : Nat) (ea oA cA fK vK : Nat → Nat) (mcE mcK : Int32), V 0 0 = some (a0, oC (nI m0) aE aK fA r0 r1 fb fl sh df dy qs hs lv he) ∧ EV G V ne ea oA cA ow ki ed md ak sk fk ln po cs ∧ LV G V 0 aE dE ne ea mcE ∧ KV G V nk fK vK kf ∧ LV G V 1 aK dK nk fK mcK ∧ V 6 0 = some (fA, oF vA) ∧ V 7 0 = some (vA, aI G 8 fa) ∧ RV G V 0 r0 m0 ∧ RV G V 1 r1 m0 ∧ V 10 0 = some (fb, aI G 3 ff) ∧ V 11 0 = some (fl, aI G 36 fs) ∧ V 12 0 = some (sh, aI G 18 ss) ∧ V 13 0 = some (df, aI G 18 ds) ∧ (V 14 0 = none ∧ V 14 1 = none) ∧ m0 ≤ 1000 ∧ ne ≤ 24 ∧ nk ≤ 8 ∧ (∀ i, i < ne → okCode (ln i) (po i) (cs i)) ∧ (∀ i, i < ne → ∃ k : Nat, k ≤ 2 ∧ ki i = nI k) ∧ (¬ lv = 0 → ∃ i : Nat, i < ne ∧ he = nI i)
def OUT (V V' : Vw) : Prop := ∀ k i, 20 ≤ k → V' k i = V k i
set_option maxHeartbeats 1000000 in
theorem c_today (G : Gl) (l : Launch) (htr : l.stackTraces = false) (V : Vw) (a0 : Nat) (m0 : Nat) (dy qs hs lv he : Int32) (ne : Nat) (ow ki ed md ak sk fk : Nat → Int32) (ln : Nat → Nat) (po cs : Nat → Nat → Int32) (nk : Nat) (kf : Nat → Nat → Int32) (fa ff fs ss ds : Nat → Int32) (h : CV G V a0 m0 dy qs hs lv he ne ow ki ed md ak sk fk ln po cs nk kf fa ff fs ss ds) (d : Int32) :
    Cx G l y_C_today b_C_today 2 none { frames := 7, cells := 1, slots := 6, locals := 112 } V [.ref a0, .int d] (fun rv V' => rv = none ∧ dy ≤ d ∧ d ≤ 1000 ∧ CV G V' a0 m0 d qs hs 0 he ne ow ki ed md ak sk fk ln po cs nk kf fa ff fs ss ds ∧ OUT V V') (fun E V' => E = "java/lang/IllegalArgumentException" ∧ (d < dy ∨ 1000 < d) ∧ V' = V) := by
  have hcv := h
  obtain ⟨aE, aK, fA, r0, r1, fb, fl, sh, df, dE, dK, vA, ea, oA, cA, fK, vK, mcE, mcK, h0, hE, hLE, hKV, hLK, h6, h7, hR0, hR1, h10, h11, h12, h13, h14, hm9, hne, hnk, hok, hki, hhe⟩ := h
  refine (k_C_today G l htr V a0 aE aK fA r0 r1 fb fl sh df (nI m0) dy qs hs lv he d h0).mono (fun rv V1 hR => ?_) (fun E V1 hT => ?_)
  · obtain ⟨rfl, e1, e2, rfl⟩ := hR
    exact ⟨rfl, e1, e2, ⟨aE, aK, fA, r0, r1, fb, fl, sh, df, dE, dK, vA, ea, oA, cA, fK, vK, mcE, mcK, uV_self _ _ _ _, hE, hLE, hKV, hLK, h6, h7, hR0, hR1, h10, h11, h12, h13, h14, hm9, hne, hnk, hok, hki, fun z => absurd rfl z⟩, (fun k i hk => by rw [uV_ne (by omega)])⟩
  · exact ⟨hT.1, hT.2.2, hT.2.1⟩
set_option maxHeartbeats 1000000 in
theorem c_fact (G : Gl) (l : Launch) (htr : l.stackTraces = false) (V : Vw) (a0 : Nat) (m0 : Nat) (dy qs hs lv he : Int32) (ne : Nat) (ow ki ed md ak sk fk : Nat → Int32) (ln : Nat → Nat) (po cs : Nat → Nat → Int32) (nk : Nat) (kf : Nat → Nat → Int32) (fa ff fs ss ds : Nat → Int32) (h : CV G V a0 m0 dy qs hs lv he ne ow ki ed md ak sk fk ln po cs nk kf fa ff fs ss ds) (n v : Int32) :
    Cx G l y_C_fact b_C_fact 3 none { frames := 7, cells := 2, slots := 12, locals := 112 } V [.ref a0, .int n, .int v] (fun rv V' => rv = none ∧ ∃ j : Nat, j ≤ 7 ∧ n = nI j ∧ -10000 ≤ v ∧ v ≤ 10000 ∧ CV G V' a0 m0 dy qs hs lv he ne ow ki ed md ak sk fk ln po cs nk kf (upd fa j v) ff fs ss ds ∧ OUT V V') (fun E V' => E = "java/lang/IllegalArgumentException" ∧ ((n < 0 ∨ 7 < n) ∨ (v < -10000 ∨ 10000 < v)) ∧ V' = V) := by
  have hcv := h
  obtain ⟨aE, aK, fA, r0, r1, fb, fl, sh, df, dE, dK, vA, ea, oA, cA, fK, vK, mcE, mcK, h0, hE, hLE, hKV, hLK, h6, h7, hR0, hR1, h10, h11, h12, h13, h14, hm9, hne, hnk, hok, hki, hhe⟩ := h
  refine (k_C_fact G l htr V a0 aE aK fA r0 r1 fb fl sh df (nI m0) dy qs hs lv he vA fa n v h0 h6 h7).mono (fun rv V1 hR => ?_) (fun E V1 hT => ?_)
  · obtain ⟨rfl, j, e1, e2, e3, e4, rfl⟩ := hR
    exact ⟨rfl, j, e1, e2, e3, e4, ⟨aE, aK, fA, r0, r1, fb, fl, sh, df, dE, dK, vA, ea, oA, cA, fK, vK, mcE, mcK, h0, hE, hLE, (fun q hq => ⟨(hKV q hq).1, (uV_ne (by omega)).trans (hKV q hq).2⟩), hLK, h6, uV_self _ _ _ _, hR0, hR1, h10, h11, h12, h13, h14, hm9, hne, hnk, hok, hki, hhe⟩, (fun k i hk => by rw [uV_ne (by omega)])⟩
  · exact ⟨hT.1, hT.2.2, hT.2.1⟩
set_option maxHeartbeats 1000000 in
theorem c_fallback (G : Gl) (l : Launch) (htr : l.stackTraces = false) (V : Vw) (a0 : Nat) (m0 : Nat) (dy qs hs lv he : Int32) (ne : Nat) (ow ki ed md ak sk fk : Nat → Int32) (ln : Nat → Nat) (po cs : Nat → Nat → Int32) (nk : Nat) (kf : Nat → Nat → Int32) (fa ff fs ss ds : Nat → Int32) (h : CV G V a0 m0 dy qs hs lv he ne ow ki ed md ak sk fk ln po cs nk kf fa ff fs ss ds) (k v : Int32) :
    Cx G l y_C_fallback b_C_fallback 3 none { frames := 7, cells := 2, slots := 12, locals := 112 } V [.ref a0, .int k, .int v] (fun rv V' => rv = none ∧ ∃ j : Nat, j ≤ 2 ∧ k = nI j ∧ -10000 ≤ v ∧ v ≤ 10000 ∧ CV G V' a0 m0 dy qs hs lv he ne ow ki ed md ak sk fk ln po cs nk kf fa (upd ff j v) fs ss ds ∧ OUT V V') (fun E V' => E = "java/lang/IllegalArgumentException" ∧ ((k < 0 ∨ 2 < k) ∨ (v < -10000 ∨ 10000 < v)) ∧ V' = V) := by
  have hcv := h
  obtain ⟨aE, aK, fA, r0, r1, fb, fl, sh, df, dE, dK, vA, ea, oA, cA, fK, vK, mcE, mcK, h0, hE, hLE, hKV, hLK, h6, h7, hR0, hR1, h10, h11, h12, h13, h14, hm9, hne, hnk, hok, hki, hhe⟩ := h
  refine (k_C_fallback G l htr V a0 aE aK fA r0 r1 fb fl sh df (nI m0) dy qs hs lv he ff k v h0 h10).mono (fun rv V1 hR => ?_) (fun E V1 hT => ?_)
  · obtain ⟨rfl, j, e1, e2, e3, e4, rfl⟩ := hR
    exact ⟨rfl, j, e1, e2, e3, e4, ⟨aE, aK, fA, r0, r1, fb, fl, sh, df, dE, dK, vA, ea, oA, cA, fK, vK, mcE, mcK, h0, hE, hLE, hKV, hLK, h6, h7, hR0, hR1, uV_self _ _ _ _, h11, h12, h13, h14, hm9, hne, hnk, hok, hki, hhe⟩, (fun k i hk => by rw [uV_ne (by omega)])⟩
  · exact ⟨hT.1, hT.2.2, hT.2.1⟩
set_option maxHeartbeats 1000000 in
theorem c_failed (G : Gl) (l : Launch) (htr : l.stackTraces = false) (V : Vw) (a0 : Nat) (m0 : Nat) (dy qs hs lv he : Int32) (ne : Nat) (ow ki ed md ak sk fk : Nat → Int32) (ln : Nat → Nat) (po cs : Nat → Nat → Int32) (nk : Nat) (kf : Nat → Nat → Int32) (fa ff fs ss ds : Nat → Int32) (h : CV G V a0 m0 dy qs hs lv he ne ow ki ed md ak sk fk ln po cs nk kf fa ff fs ss ds) (o w : Int32) :
    Cx G l y_C_failed b_C_failed 3 (Option.some Jvm.ClassFile.FieldType.int) { frames := 7, cells := 2, slots := 12, locals := 112 } V [.ref a0, .int o, .int w] (fun rv V' => V' = V ∧ ∃ on wn : Nat, on ≤ 5 ∧ wn ≤ 5 ∧ o = nI on ∧ w = nI wn ∧ rv = some (.int (fs (on * 6 + wn)))) (fun E V' => E = "java/lang/IllegalArgumentException" ∧ ((o < 0 ∨ 5 < o) ∨ (w < 0 ∨ 5 < w)) ∧ V' = V) := by
  have hcv := h
  obtain ⟨aE, aK, fA, r0, r1, fb, fl, sh, df, dE, dK, vA, ea, oA, cA, fK, vK, mcE, mcK, h0, hE, hLE, hKV, hLK, h6, h7, hR0, hR1, h10, h11, h12, h13, h14, hm9, hne, hnk, hok, hki, hhe⟩ := h
  refine (k_C_failed G l htr V a0 aE aK fA r0 r1 fb fl sh df (nI m0) dy qs hs lv he fs o w h0 h11).mono (fun rv V1 hR => ?_) (fun E V1 hT => ?_)
  · exact hR
  · exact ⟨hT.1, hT.2.2, hT.2.1⟩
set_option maxHeartbeats 1000000 in
theorem c_divide (G : Gl) (l : Launch) (htr : l.stackTraces = false) (V : Vw) (a0 : Nat) (m0 : Nat) (dy qs hs lv he : Int32) (ne : Nat) (ow ki ed md ak sk fk : Nat → Int32) (ln : Nat → Nat) (po cs : Nat → Nat → Int32) (nk : Nat) (kf : Nat → Nat → Int32) (fa ff fs ss ds : Nat → Int32) (h : CV G V a0 m0 dy qs hs lv he ne ow ki ed md ak sk fk ln po cs nk kf fa ff fs ss ds) (x y : Int32) :
    Cx G l y_C_divide b_C_divide 3 (Option.some Jvm.ClassFile.FieldType.int) { frames := 6, cells := 1, slots := 6, locals := 90 } V [.ref a0, .int x, .int y] (fun rv V' => rv = some (.int (x / y)) ∧ V' = V ∧ y ≠ 0) (fun E V' => E = "java/lang/ArithmeticException" ∧ y = 0 ∧ V' = V) := by
  have hcv := h
  obtain ⟨aE, aK, fA, r0, r1, fb, fl, sh, df, dE, dK, vA, ea, oA, cA, fK, vK, mcE, mcK, h0, hE, hLE, hKV, hLK, h6, h7, hR0, hR1, h10, h11, h12, h13, h14, hm9, hne, hnk, hok, hki, hhe⟩ := h
  refine (k_C_divide G l htr V a0 x y).mono (fun rv V1 hR => ?_) (fun E V1 hT => ?_)
  · exact hR
  · exact ⟨hT.1, hT.2.2, hT.2.1⟩
set_option maxHeartbeats 1000000 in
theorem c_otherwise (G : Gl) (l : Launch) (htr : l.stackTraces = false) (V : Vw) (a0 : Nat) (m0 : Nat) (dy qs hs lv he : Int32) (ne : Nat) (ow ki ed md ak sk fk : Nat → Int32) (ln : Nat → Nat) (po cs : Nat → Nat → Int32) (nk : Nat) (kf : Nat → Nat → Int32) (fa ff fs ss ds : Nat → Int32) (h : CV G V a0 m0 dy qs hs lv he ne ow ki ed md ak sk fk ln po cs nk kf fa ff fs ss ds) (o k : Int32) :
    Cx G l y_C_otherwise b_C_otherwise 3 (Option.some Jvm.ClassFile.FieldType.int) { frames := 8, cells := 2, slots := 12, locals := 133 } V [.ref a0, .int o, .int k] (fun rv V' => V' = V ∧ ∃ on kn : Nat, on ≤ 5 ∧ kn ≤ 2 ∧ o = nI on ∧ k = nI kn ∧ rv = some (.int (ds (on * 3 + kn)))) (fun E V' => E = "java/lang/IllegalArgumentException" ∧ ((o < 0 ∨ 5 < o) ∨ (k < 0 ∨ 2 < k)) ∧ V' = V) := by
  have hcv := h
  obtain ⟨aE, aK, fA, r0, r1, fb, fl, sh, df, dE, dK, vA, ea, oA, cA, fK, vK, mcE, mcK, h0, hE, hLE, hKV, hLK, h6, h7, hR0, hR1, h10, h11, h12, h13, h14, hm9, hne, hnk, hok, hki, hhe⟩ := h
  refine (k_C_otherwise G l htr V a0 aE aK fA r0 r1 fb fl sh df (nI m0) dy qs hs lv he ds o k h0 h13).mono (fun rv V1 hR => ?_) (fun E V1 hT => ?_)
  · exact hR
  · exact ⟨hT.1, hT.2.2, hT.2.1⟩
set_option maxHeartbeats 1000000 in
theorem c_edition (G : Gl) (l : Launch) (htr : l.stackTraces = false) (V : Vw) (a0 : Nat) (m0 : Nat) (dy qs hs lv he : Int32) (ne : Nat) (ow ki ed md ak sk fk : Nat → Int32) (ln : Nat → Nat) (po cs : Nat → Nat → Int32) (nk : Nat) (kf : Nat → Nat → Int32) (fa ff fs ss ds : Nat → Int32) (h : CV G V a0 m0 dy qs hs lv he ne ow ki ed md ak sk fk ln po cs nk kf fa ff fs ss ds) (o k d : Int32) :
    Cx G l y_C_edition b_C_edition 4 (Option.some Jvm.ClassFile.FieldType.int) { frames := 8, cells := 3, slots := 18, locals := 133 } V [.ref a0, .int o, .int k, .int d] (fun rv V' => V' = V ∧ (0 ≤ d ∧ d ≤ 1000) ∧ ∃ on kn : Nat, on ≤ 5 ∧ kn ≤ 2 ∧ o = nI on ∧ k = nI kn ∧ rv = some (.int (pCnt ow ki ed md (nI on) (nI kn) d ne).1)) (fun E V' => E = "java/lang/IllegalArgumentException" ∧ (((o < 0 ∨ 5 < o) ∨ (k < 0 ∨ 2 < k)) ∨ (d < 0 ∨ 1000 < d)) ∧ V' = V) := by
  have hcv := h
  obtain ⟨aE, aK, fA, r0, r1, fb, fl, sh, df, dE, dK, vA, ea, oA, cA, fK, vK, mcE, mcK, h0, hE, hLE, hKV, hLK, h6, h7, hR0, hR1, h10, h11, h12, h13, h14, hm9, hne, hnk, hok, hki, hhe⟩ := h
  refine (k_C_edition G l htr V a0 aE aK fA r0 r1 fb fl sh df (nI m0) dy qs hs lv he ne ea oA cA ow ki ed md ak sk fk ln po cs hE dE mcE hne hLE o k d h0).mono (fun rv V1 hR => ?_) (fun E V1 hT => ?_)
  · exact hR
  · exact ⟨hT.1, hT.2.2, hT.2.1⟩
set_option maxHeartbeats 1000000 in
theorem c_told (G : Gl) (l : Launch) (htr : l.stackTraces = false) (V : Vw) (a0 : Nat) (m0 : Nat) (dy qs hs lv he : Int32) (ne : Nat) (ow ki ed md ak sk fk : Nat → Int32) (ln : Nat → Nat) (po cs : Nat → Nat → Int32) (nk : Nat) (kf : Nat → Nat → Int32) (fa ff fs ss ds : Nat → Int32) (h : CV G V a0 m0 dy qs hs lv he ne ow ki ed md ak sk fk ln po cs nk kf fa ff fs ss ds) (n t : Int32) :
    Cx G l y_C_told b_C_told 4 (Option.some Jvm.ClassFile.FieldType.int) { frames := 8, cells := 2, slots := 12, locals := 132 } V [.ref a0, .int n, .int t] (fun rv V' => V' = V ∧ ∃ i tn : Nat, i < ne ∧ n = nI i ∧ tn ≤ 7 ∧ t = nI tn ∧ rv = some (.int (pTell tn (ow i) (ki i) (ed i) (nI (ln i)) (md i) (ak i) (sk i) (fk i)))) (fun E V' => V' = V ∧ ((E = "java/util/NoSuchElementException" ∧ (n < 0 ∨ nI ne ≤ n)) ∨ (E = "java/lang/IllegalArgumentException" ∧ (∃ i : Nat, i < ne ∧ n = nI i) ∧ (t < 0 ∨ 7 < t)))) := by
  have hcv := h
  obtain ⟨aE, aK, fA, r0, r1, fb, fl, sh, df, dE, dK, vA, ea, oA, cA, fK, vK, mcE, mcK, h0, hE, hLE, hKV, hLK, h6, h7, hR0, hR1, h10, h11, h12, h13, h14, hm9, hne, hnk, hok, hki, hhe⟩ := h
  refine (k_C_told G l htr V a0 aE aK fA r0 r1 fb fl sh df (nI m0) dy qs hs lv he ne ea oA cA ow ki ed md ak sk fk ln po cs hE dE mcE hne hLE n t h0).mono (fun rv V1 hR => ?_) (fun E V1 hT => ?_)
  · exact hR
  · exact hT
set_option maxHeartbeats 1000000 in
theorem c_same (G : Gl) (l : Launch) (htr : l.stackTraces = false) (V : Vw) (a0 : Nat) (m0 : Nat) (dy qs hs lv he : Int32) (ne : Nat) (ow ki ed md ak sk fk : Nat → Int32) (ln : Nat → Nat) (po cs : Nat → Nat → Int32) (nk : Nat) (kf : Nat → Nat → Int32) (fa ff fs ss ds : Nat → Int32) (h : CV G V a0 m0 dy qs hs lv he ne ow ki ed md ak sk fk ln po cs nk kf fa ff fs ss ds) (n n2 : Int32) :
    Cx G l y_C_same b_C_same 5 (Option.some Jvm.ClassFile.FieldType.boolean) { frames := 8, cells := 2, slots := 12, locals := 132 } V [.ref a0, .int n, .int n2] (fun rv V' => V' = V ∧ ∃ i i2 : Nat, i < ne ∧ i2 < ne ∧ n = nI i ∧ n2 = nI i2 ∧ rv = some (.int (@ite Int32 (ln i = ln i2 ∧ (∀ a, a < ln i → po i a = po i2 a ∧ cs i a = cs i2 a)) (Classical.propDecidable _) 1 0))) (fun E V' => E = "java/util/NoSuchElementException" ∧ V' = V ∧ ((n < 0 ∨ nI ne ≤ n) ∨ (n2 < 0 ∨ nI ne ≤ n2))) := by
  have hcv := h
  obtain ⟨aE, aK, fA, r0, r1, fb, fl, sh, df, dE, dK, vA, ea, oA, cA, fK, vK, mcE, mcK, h0, hE, hLE, hKV, hLK, h6, h7, hR0, hR1, h10, h11, h12, h13, h14, hm9, hne, hnk, hok, hki, hhe⟩ := h
  refine (k_C_same G l htr V a0 aE aK fA r0 r1 fb fl sh df (nI m0) dy qs hs lv he ne ea oA cA ow ki ed md ak sk fk ln po cs hE dE mcE hne hLE hok n n2 h0).mono (fun rv V1 hR => ?_) (fun E V1 hT => ?_)
  · exact hR
  · exact hT
set_option maxHeartbeats 1000000 in
theorem c_handle (G : Gl) (l : Launch) (htr : l.stackTraces = false) (V : Vw) (a0 : Nat) (m0 : Nat) (dy qs hs lv he : Int32) (ne : Nat) (ow ki ed md ak sk fk : Nat → Int32) (ln : Nat → Nat) (po cs : Nat → Nat → Int32) (nk : Nat) (kf : Nat → Nat → Int32) (fa ff fs ss ds : Nat → Int32) (h : CV G V a0 m0 dy qs hs lv he ne ow ki ed md ak sk fk ln po cs nk kf fa ff fs ss ds) (n : Int32) :
    Cx G l y_C_handle b_C_handle 2 (Option.some Jvm.ClassFile.FieldType.int) { frames := 8, cells := 2, slots := 12, locals := 132 } V [.ref a0, .int n] (fun rv V' => ∃ i : Nat, i < ne ∧ n = nI i ∧ ¬ md i = 0 ∧ hs < 10000 ∧ rv = some (.int (hs + 1)) ∧ CV G V' a0 m0 dy qs (hs + 1) (hs + 1) (nI i) ne ow ki ed md ak sk fk ln po cs nk kf fa ff fs ss ds ∧ OUT V V') (fun E V' => V' = V ∧ ((E = "java/util/NoSuchElementException" ∧ (n < 0 ∨ nI ne ≤ n)) ∨ ∃ i : Nat, i < ne ∧ n = nI i ∧ ((E = "java/lang/IllegalStateException" ∧ md i = 0) ∨ (E = "java/lang/UnsupportedOperationException" ∧ ¬ md i = 0 ∧ 10000 ≤ hs)))) := by
  have hcv := h
  obtain ⟨aE, aK, fA, r0, r1, fb, fl, sh, df, dE, dK, vA, ea, oA, cA, fK, vK, mcE, mcK, h0, hE, hLE, hKV, hLK, h6, h7, hR0, hR1, h10, h11, h12, h13, h14, hm9, hne, hnk, hok, hki, hhe⟩ := h
  refine (k_C_handle G l htr V a0 aE aK fA r0 r1 fb fl sh df (nI m0) dy qs hs lv he ne ea oA cA ow ki ed md ak sk fk ln po cs hE dE mcE hne hLE n h0).mono (fun rv V1 hR => ?_) (fun E V1 hT => ?_)
  · obtain ⟨i, e1, e2, e3, e4, e5, rfl⟩ := hR
    exact ⟨i, e1, e2, e3, e4, e5, ⟨aE, aK, fA, r0, r1, fb, fl, sh, df, dE, dK, vA, ea, oA, cA, fK, vK, mcE, mcK, uV_self _ _ _ _, hE, hLE, hKV, hLK, h6, h7, hR0, hR1, h10, h11, h12, h13, h14, hm9, hne, hnk, hok, hki, fun _ => ⟨i, e1, rfl⟩⟩, (fun k i hk => by rw [uV_ne (by omega)])⟩
  · exact hT
set_option maxHeartbeats 1000000 in
theorem c_shadow (G : Gl) (l : Launch) (htr : l.stackTraces = false) (V : Vw) (a0 : Nat) (m0 : Nat) (dy qs hs lv he : Int32) (ne : Nat) (ow ki ed md ak sk fk : Nat → Int32) (ln : Nat → Nat) (po cs : Nat → Nat → Int32) (nk : Nat) (kf : Nat → Nat → Int32) (fa ff fs ss ds : Nat → Int32) (h : CV G V a0 m0 dy qs hs lv he ne ow ki ed md ak sk fk ln po cs nk kf fa ff fs ss ds) (o k n : Int32) :
    Cx G l y_C_shadow b_C_shadow 4 none { frames := 8, cells := 3, slots := 18, locals := 133 } V [.ref a0, .int o, .int k, .int n] (fun rv V' => rv = none ∧ (n = -1 ∨ (∃ i : Nat, i < ne ∧ n = nI i)) ∧ ∃ on kn : Nat, on ≤ 5 ∧ kn ≤ 2 ∧ o = nI on ∧ k = nI kn ∧ CV G V' a0 m0 dy qs hs lv he ne ow ki ed md ak sk fk ln po cs nk kf fa ff fs (upd ss (on * 3 + kn) n) (upd ds (on * 3 + kn) 0) ∧ OUT V V') (fun E V' => V' = V ∧ ((E = "java/util/NoSuchElementException" ∧ ¬ n = -1 ∧ (n < 0 ∨ nI ne ≤ n)) ∨ (E = "java/lang/IllegalArgumentException" ∧ (n = -1 ∨ (∃ i : Nat, i < ne ∧ n = nI i)) ∧ ((o < 0 ∨ 5 < o) ∨ (k < 0 ∨ 2 < k))))) := by
  have hcv := h
  obtain ⟨aE, aK, fA, r0, r1, fb, fl, sh, df, dE, dK, vA, ea, oA, cA, fK, vK, mcE, mcK, h0, hE, hLE, hKV, hLK, h6, h7, hR0, hR1, h10, h11, h12, h13, h14, hm9, hne, hnk, hok, hki, hhe⟩ := h
  refine (k_C_shadow G l htr V a0 aE aK fA r0 r1 fb fl sh df (nI m0) dy qs hs lv he ne ea oA cA ow ki ed md ak sk fk ln po cs hE dE mcE hne hLE ss ds o k n h0 h12 h13).mono (fun rv V1 hR => ?_) (fun E V1 hT => ?_)
  · obtain ⟨rfl, e0, on, kn, e1, e2, e3, e4, rfl⟩ := hR
    exact ⟨rfl, e0, on, kn, e1, e2, e3, e4, ⟨aE, aK, fA, r0, r1, fb, fl, sh, df, dE, dK, vA, ea, oA, cA, fK, vK, mcE, mcK, h0, hE, hLE, hKV, hLK, h6, h7, hR0, hR1, h10, h11, (uV_ne (by omega)).trans (uV_self _ _ _ _), uV_self _ _ _ _, h14, hm9, hne, hnk, hok, hki, hhe⟩, (fun k i hk => by rw [uV_ne (by omega)]; rw [uV_ne (by omega)])⟩
  · exact hT

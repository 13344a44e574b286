set_option maxHeartbeats 4000000 in
set_option maxRecDepth 100000 in
theorem k_L_today (G : Gl) (l : Launch) (htr : l.stackTraces = false) (V : Vw) (a0 aE aK fA r0 r1 fb fl sh df : Nat) (mo dy qs hs lv he : Int32) (p0 : Int32) {Rt : Option Value → Vw → Prop} {Th : String → Vw → Prop} (hM : Cx G l y_C_today b_C_today 2 none { frames := 7, cells := 1, slots := 6, locals := 112 } V [.ref a0, .int p0] Rt Th) (hTh : ∀ E V', Th E V' → E = "java/lang/IllegalArgumentException") (hRt : ∀ r V', Rt r V' → r = none) (h0 : V 0 0 = some (a0, oC mo aE aK fA r0 r1 fb fl sh df dy qs hs lv he)) :
    Cw G l y_L_today b_L_today 3 (some .int) [(0, 5, 8, 13)] { frames := 8, cells := 1, slots := 6, locals := 133 } V [.ref a0, .int p0] (fun rv V' => (rv = some (.int 0) ∧ Rt none V') ∨ (rv = some (.int 1) ∧ Th "java/lang/IllegalArgumentException" V')) := by
  refine Cw.of htr (by decide) (Nat.le_of_ble_eq_true rfl) ?_
  intro p e s m args below meth c ls F hr htab hS hl
  obtain ⟨hx, hb, hml, hown, hts, hK, hlk, -⟩ := id F
  have hl : lv_has ls 3 [(0, .ref a0), (1, .int p0)] := hl
  refine lv_aload_n hx hb d_L_today_0 rfl (lv_at hl 0 rfl) ?_
  refine lv_iload_n hx hb d_L_today_1 rfl (lv_at hl 1 rfl) ?_
  refine r_xcallV (k := 0) (i := 0) (q := ("RuleClasses", T_C, 15)) (fs := [.int mo, .ref aE, .ref aK, .ref fA, .ref r0, .ref r1, .ref fb, .ref fl, .ref sh, .ref df, .int dy, .int qs, .int hs, .int lv, .int he]) (As := [.int p0]) (rest := []) F hS c_L_7 hM rfl h0 rfl hl.1 rfl (Nat.le_of_ble_eq_true rfl) d_L_today_2 ⟨Nat.le_of_ble_eq_true rfl, Nat.le_of_ble_eq_true rfl⟩ ⟨Nat.le_of_ble_eq_true rfl, Nat.le_of_ble_eq_true rfl⟩ (fun q9 E9 ce V1 H locs hT hS hce => ?_) (fun rv V1 H locs hR hS => ?_)
  · rcases hTh _ _ hT with rfl
    · refine r_catch (x := (0, 5, 8, 13)) F htab [] [] rfl (fun _ h => absurd h List.not_mem_nil) (by decide) (by decide) m_191 (by decide +kernel) hce ?_
      refine lv_astore_n (lv' := [(2, .ref q9), (0, .ref a0), (1, .int p0)]) hx hb d_L_today_8 rfl hl (by decide) rfl (fun ls hl => ?_)
      refine lv_iconst (v := 1) hx hb d_L_today_9 (by decide) ?_
      exact m_reti F hr hS (Nat.le_of_ble_eq_true rfl) (Nat.le_of_ble_eq_true rfl) (Or.inr (⟨rfl, hT⟩)) d_L_today_10
  obtain rfl := hRt _ _ hR
  refine W.eq (g2 := F0 m 5 ls []) rfl ?_
  refine lv_goto (tgt := 11) hx hb d_L_today_5 (by decide) ?_
  refine lv_iconst (v := 0) hx hb d_L_today_11 (by decide) ?_
  exact m_reti F hr hS (Nat.le_of_ble_eq_true rfl) (Nat.le_of_ble_eq_true rfl) (Or.inl ⟨rfl, hR⟩) d_L_today_12
set_option maxHeartbeats 4000000 in
set_option maxRecDepth 100000 in
theorem k_L_rule (G : Gl) (l : Launch) (htr : l.stackTraces = false) (V : Vw) (a0 aE aK fA r0 r1 fb fl sh df : Nat) (mo dy qs hs lv he : Int32) (p0 p1 p2 : Int32) {Rt : Option Value → Vw → Prop} {Th : String → Vw → Prop} (hM : Cx G l y_C_rule b_C_rule 4 (Option.some Jvm.ClassFile.FieldType.int) { frames := 8, cells := 7, slots := 96, locals := 171 } V [.ref a0, .int p0, .int p1, .int p2] Rt Th) (hTh : ∀ E V', Th E V' → E = "java/lang/IllegalArgumentException" ∨ E = "java/lang/UnsupportedOperationException") (ou : Nat) (g9 : Nat → Int64) (hRt : ∀ r V', Rt r V' → ∃ v : Int32, r = some (.int v) ∧ V' 50 0 = some (ou, aL G 1 g9)) (h0 : V 0 0 = some (a0, oC mo aE aK fA r0 r1 fb fl sh df dy qs hs lv he)) :
    Cw G l y_L_rule b_L_rule 6 (some .int) [(0, 12, 15, 13), (0, 12, 19, 19)] { frames := 9, cells := 7, slots := 96, locals := 194 } V [.ref a0, .int p0, .int p1, .int p2, .ref ou] (fun rv V' => (rv = some (.int 0) ∧ ∃ (v : Int32) (V1 : Vw), Rt (some (.int v)) V1 ∧ V' = uV V1 50 0 (ou, aL G 1 (vp_updL g9 0 v.toInt64))) ∨ (rv = some (.int 1) ∧ Th "java/lang/IllegalArgumentException" V') ∨ (rv = some (.int 2) ∧ Th "java/lang/UnsupportedOperationException" V')) := by
  refine Cw.of htr (by decide) (Nat.le_of_ble_eq_true rfl) ?_
  intro p e s m args below meth c ls F hr htab hS hl
  obtain ⟨hx, hb, hml, hown, hts, hK, hlk, -⟩ := id F
  have hl : lv_has ls 6 [(0, .ref a0), (1, .int p0), (2, .int p1), (3, .int p2), (4, .ref ou)] := hl
  refine lv_aload hx hb d_L_rule_0 (lv_at hl 4 rfl) ?_
  refine lv_iconst (v := 0) hx hb d_L_rule_2 (by decide) ?_
  refine lv_aload_n hx hb d_L_rule_3 rfl (lv_at hl 0 rfl) ?_
  refine lv_iload_n hx hb d_L_rule_4 rfl (lv_at hl 1 rfl) ?_
  refine lv_iload_n hx hb d_L_rule_5 rfl (lv_at hl 2 rfl) ?_
  refine lv_iload_n hx hb d_L_rule_6 rfl (lv_at hl 3 rfl) ?_
  refine r_xcallV (k := 0) (i := 0) (q := ("RuleClasses", T_C, 15)) (fs := [.int mo, .ref aE, .ref aK, .ref fA, .ref r0, .ref r1, .ref fb, .ref fl, .ref sh, .ref df, .int dy, .int qs, .int hs, .int lv, .int he]) (As := [.int p0, .int p1, .int p2]) (rest := [.int 0, .ref ou]) F hS c_L_15 hM rfl h0 rfl hl.1 rfl (Nat.le_of_ble_eq_true rfl) d_L_rule_7 ⟨Nat.le_of_ble_eq_true rfl, Nat.le_of_ble_eq_true rfl⟩ ⟨Nat.le_of_ble_eq_true rfl, Nat.le_of_ble_eq_true rfl⟩ (fun q9 E9 ce V1 H locs hT hS hce => ?_) (fun rv V1 H locs hR hS => ?_)
  · rcases hTh _ _ hT with rfl | rfl
    · refine r_catch (x := (0, 12, 15, 13)) F htab [] [(0, 12, 19, 19)] rfl (fun _ h => absurd h List.not_mem_nil) (by decide) (by decide) m_191 (by decide +kernel) hce ?_
      refine lv_astore (lv' := [(5, .ref q9), (0, .ref a0), (1, .int p0), (2, .int p1), (3, .int p2), (4, .ref ou)]) hx hb d_L_rule_15 hl (by decide) rfl (fun ls hl => ?_)
      refine lv_iconst (v := 1) hx hb d_L_rule_17 (by decide) ?_
      exact m_reti F hr hS (Nat.le_of_ble_eq_true rfl) (Nat.le_of_ble_eq_true rfl) (Or.inr (Or.inl ⟨rfl, hT⟩)) d_L_rule_18
    · refine r_catch (x := (0, 12, 19, 19)) F htab [(0, 12, 15, 13)] [] rfl (List.forall_mem_cons.mpr ⟨⟨by decide, "java/lang/IllegalArgumentException", m_191, by decide, by decide, by decide⟩, fun _ h => absurd h List.not_mem_nil⟩) (by decide) (by decide) m_276 (by decide +kernel) hce ?_
      refine lv_astore (lv' := [(5, .ref q9), (0, .ref a0), (1, .int p0), (2, .int p1), (3, .int p2), (4, .ref ou)]) hx hb d_L_rule_19 hl (by decide) rfl (fun ls hl => ?_)
      refine lv_iconst (v := 2) hx hb d_L_rule_21 (by decide) ?_
      exact m_reti F hr hS (Nat.le_of_ble_eq_true rfl) (Nat.le_of_ble_eq_true rfl) (Or.inr (Or.inr (⟨rfl, hT⟩))) d_L_rule_22
  obtain ⟨v, rfl, h50⟩ := hRt _ _ hR
  refine W.eq (g2 := F0 m 10 ls [.int v, .int 0, .ref ou]) rfl ?_
  refine lv_i2l (v := v.toInt64) hx hb d_L_rule_10 rfl ?_
  refine r_last (k := 50) (i := 0) F hS h50 (vp_in_nI (n := 0) (by decide) (by decide)) d_L_rule_11 (fun H locs hS => ?_)
  rw [show (0 : Int32).toNatClampNeg = 0 from rfl] at hS
  have hS : HS G s (uV V1 50 0 (ou, aL G 1 (vp_updL g9 0 v.toInt64))) H _ := hS
  refine lv_goto (tgt := 23) hx hb d_L_rule_12 (by decide) ?_
  refine lv_iconst (v := 0) hx hb d_L_rule_23 (by decide) ?_
  exact m_reti F hr hS (Nat.le_of_ble_eq_true rfl) (Nat.le_of_ble_eq_true rfl) (Or.inl ⟨rfl, v, V1, hR, rfl⟩) d_L_rule_24
set_option maxHeartbeats 4000000 in
set_option maxRecDepth 100000 in
theorem k_L_op (G : Gl) (l : Launch) (htr : l.stackTraces = false) (V : Vw) (a0 aE aK fA r0 r1 fb fl sh df : Nat) (mo dy qs hs lv he : Int32) (p0 p1 p2 : Int32) {Rt : Option Value → Vw → Prop} {Th : String → Vw → Prop} (hM : Cx G l y_C_op b_C_op 5 (Option.some Jvm.ClassFile.FieldType.int) { frames := 8, cells := 5, slots := 30, locals := 132 } V [.ref a0, .int p0, .int p1, .int p2] Rt Th) (hTh : ∀ E V', Th E V' → E = "java/util/NoSuchElementException" ∨ E = "java/lang/IllegalArgumentException" ∨ E = "java/lang/IllegalStateException" ∨ E = "java/lang/UnsupportedOperationException") (ou : Nat) (g9 : Nat → Int64) (hRt : ∀ r V', Rt r V' → ∃ v : Int32, r = some (.int v) ∧ V' 50 0 = some (ou, aL G 1 g9)) (h0 : V 0 0 = some (a0, oC mo aE aK fA r0 r1 fb fl sh df dy qs hs lv he)) :
    Cw G l y_L_op b_L_op 6 (some .int) [(0, 12, 15, 24), (0, 12, 19, 13), (0, 12, 23, 26), (0, 12, 27, 19)] { frames := 9, cells := 5, slots := 30, locals := 156 } V [.ref a0, .int p0, .int p1, .int p2, .ref ou] (fun rv V' => (rv = some (.int 0) ∧ ∃ (v : Int32) (V1 : Vw), Rt (some (.int v)) V1 ∧ V' = uV V1 50 0 (ou, aL G 1 (vp_updL g9 0 v.toInt64))) ∨ (rv = some (.int 1) ∧ Th "java/util/NoSuchElementException" V') ∨ (rv = some (.int 2) ∧ Th "java/lang/IllegalArgumentException" V') ∨ (rv = some (.int 3) ∧ Th "java/lang/IllegalStateException" V') ∨ (rv = some (.int 4) ∧ Th "java/lang/UnsupportedOperationException" V')) := by
  refine Cw.of htr (by decide) (Nat.le_of_ble_eq_true rfl) ?_
  intro p e s m args below meth c ls F hr htab hS hl
  obtain ⟨hx, hb, hml, hown, hts, hK, hlk, -⟩ := id F
  have hl : lv_has ls 6 [(0, .ref a0), (1, .int p0), (2, .int p1), (3, .int p2), (4, .ref ou)] := hl
  refine lv_aload hx hb d_L_op_0 (lv_at hl 4 rfl) ?_
  refine lv_iconst (v := 0) hx hb d_L_op_2 (by decide) ?_
  refine lv_aload_n hx hb d_L_op_3 rfl (lv_at hl 0 rfl) ?_
  refine lv_iload_n hx hb d_L_op_4 rfl (lv_at hl 1 rfl) ?_
  refine lv_iload_n hx hb d_L_op_5 rfl (lv_at hl 2 rfl) ?_
  refine lv_iload_n hx hb d_L_op_6 rfl (lv_at hl 3 rfl) ?_
  refine r_xcallV (k := 0) (i := 0) (q := ("RuleClasses", T_C, 15)) (fs := [.int mo, .ref aE, .ref aK, .ref fA, .ref r0, .ref r1, .ref fb, .ref fl, .ref sh, .ref df, .int dy, .int qs, .int hs, .int lv, .int he]) (As := [.int p0, .int p1, .int p2]) (rest := [.int 0, .ref ou]) F hS c_L_21 hM rfl h0 rfl hl.1 rfl (Nat.le_of_ble_eq_true rfl) d_L_op_7 ⟨Nat.le_of_ble_eq_true rfl, Nat.le_of_ble_eq_true rfl⟩ ⟨Nat.le_of_ble_eq_true rfl, Nat.le_of_ble_eq_true rfl⟩ (fun q9 E9 ce V1 H locs hT hS hce => ?_) (fun rv V1 H locs hR hS => ?_)
  · rcases hTh _ _ hT with rfl | rfl | rfl | rfl
    · refine r_catch (x := (0, 12, 15, 24)) F htab [] [(0, 12, 19, 13), (0, 12, 23, 26), (0, 12, 27, 19)] rfl (fun _ h => absurd h List.not_mem_nil) (by decide) (by decide) m_401 (by decide +kernel) hce ?_
      refine lv_astore (lv' := [(5, .ref q9), (0, .ref a0), (1, .int p0), (2, .int p1), (3, .int p2), (4, .ref ou)]) hx hb d_L_op_15 hl (by decide) rfl (fun ls hl => ?_)
      refine lv_iconst (v := 1) hx hb d_L_op_17 (by decide) ?_
      exact m_reti F hr hS (Nat.le_of_ble_eq_true rfl) (Nat.le_of_ble_eq_true rfl) (Or.inr (Or.inl ⟨rfl, hT⟩)) d_L_op_18
    · refine r_catch (x := (0, 12, 19, 13)) F htab [(0, 12, 15, 24)] [(0, 12, 23, 26), (0, 12, 27, 19)] rfl (List.forall_mem_cons.mpr ⟨⟨by decide, "java/util/NoSuchElementException", m_401, by decide, by decide, by decide⟩, fun _ h => absurd h List.not_mem_nil⟩) (by decide) (by decide) m_191 (by decide +kernel) hce ?_
      refine lv_astore (lv' := [(5, .ref q9), (0, .ref a0), (1, .int p0), (2, .int p1), (3, .int p2), (4, .ref ou)]) hx hb d_L_op_19 hl (by decide) rfl (fun ls hl => ?_)
      refine lv_iconst (v := 2) hx hb d_L_op_21 (by decide) ?_
      exact m_reti F hr hS (Nat.le_of_ble_eq_true rfl) (Nat.le_of_ble_eq_true rfl) (Or.inr (Or.inr (Or.inl ⟨rfl, hT⟩))) d_L_op_22
    · refine r_catch (x := (0, 12, 23, 26)) F htab [(0, 12, 15, 24), (0, 12, 19, 13)] [(0, 12, 27, 19)] rfl (List.forall_mem_cons.mpr ⟨⟨by decide, "java/util/NoSuchElementException", m_401, by decide, by decide, by decide⟩, List.forall_mem_cons.mpr ⟨⟨by decide, "java/lang/IllegalArgumentException", m_191, by decide, by decide, by decide⟩, fun _ h => absurd h List.not_mem_nil⟩⟩) (by decide) (by decide) m_402 (by decide +kernel) hce ?_
      refine lv_astore (lv' := [(5, .ref q9), (0, .ref a0), (1, .int p0), (2, .int p1), (3, .int p2), (4, .ref ou)]) hx hb d_L_op_23 hl (by decide) rfl (fun ls hl => ?_)
      refine lv_iconst (v := 3) hx hb d_L_op_25 (by decide) ?_
      exact m_reti F hr hS (Nat.le_of_ble_eq_true rfl) (Nat.le_of_ble_eq_true rfl) (Or.inr (Or.inr (Or.inr (Or.inl ⟨rfl, hT⟩)))) d_L_op_26
    · refine r_catch (x := (0, 12, 27, 19)) F htab [(0, 12, 15, 24), (0, 12, 19, 13), (0, 12, 23, 26)] [] rfl (List.forall_mem_cons.mpr ⟨⟨by decide, "java/util/NoSuchElementException", m_401, by decide, by decide, by decide⟩, List.forall_mem_cons.mpr ⟨⟨by decide, "java/lang/IllegalArgumentException", m_191, by decide, by decide, by decide⟩, List.forall_mem_cons.mpr ⟨⟨by decide, "java/lang/IllegalStateException", m_402, by decide, by decide, by decide⟩, fun _ h => absurd h List.not_mem_nil⟩⟩⟩) (by decide) (by decide) m_276 (by decide +kernel) hce ?_
      refine lv_astore (lv' := [(5, .ref q9), (0, .ref a0), (1, .int p0), (2, .int p1), (3, .int p2), (4, .ref ou)]) hx hb d_L_op_27 hl (by decide) rfl (fun ls hl => ?_)
      refine lv_iconst (v := 4) hx hb d_L_op_29 (by decide) ?_
      exact m_reti F hr hS (Nat.le_of_ble_eq_true rfl) (Nat.le_of_ble_eq_true rfl) (Or.inr (Or.inr (Or.inr (Or.inr (⟨rfl, hT⟩))))) d_L_op_30
  obtain ⟨v, rfl, h50⟩ := hRt _ _ hR
  refine W.eq (g2 := F0 m 10 ls [.int v, .int 0, .ref ou]) rfl ?_
  refine lv_i2l (v := v.toInt64) hx hb d_L_op_10 rfl ?_
  refine r_last (k := 50) (i := 0) F hS h50 (vp_in_nI (n := 0) (by decide) (by decide)) d_L_op_11 (fun H locs hS => ?_)
  rw [show (0 : Int32).toNatClampNeg = 0 from rfl] at hS
  have hS : HS G s (uV V1 50 0 (ou, aL G 1 (vp_updL g9 0 v.toInt64))) H _ := hS
  refine lv_goto (tgt := 31) hx hb d_L_op_12 (by decide) ?_
  refine lv_iconst (v := 0) hx hb d_L_op_31 (by decide) ?_
  exact m_reti F hr hS (Nat.le_of_ble_eq_true rfl) (Nat.le_of_ble_eq_true rfl) (Or.inl ⟨rfl, v, V1, hR, rfl⟩) d_L_op_32
set_option maxHeartbeats 4000000 in
set_option maxRecDepth 100000 in
theorem k_L_make (G : Gl) (l : Launch) (htr : l.stackTraces = false) (V : Vw) (a0 aE aK fA r0 r1 fb fl sh df : Nat) (mo dy qs hs lv he : Int32) (p0 : Int32) {Rt : Option Value → Vw → Prop} {Th : String → Vw → Prop} (hM : Cx G l y_C_make b_C_make 3 (Option.some Jvm.ClassFile.FieldType.int) { frames := 8, cells := 2, slots := 12, locals := 132 } V [.ref a0, .int p0] Rt Th) (hTh : ∀ E V', Th E V' → E = "java/util/NoSuchElementException" ∨ E = "java/lang/IllegalStateException") (ou : Nat) (g9 : Nat → Int64) (hRt : ∀ r V', Rt r V' → ∃ v : Int32, r = some (.int v) ∧ V' 50 0 = some (ou, aL G 1 g9)) (h0 : V 0 0 = some (a0, oC mo aE aK fA r0 r1 fb fl sh df dy qs hs lv he)) :
    Cw G l y_L_make b_L_make 4 (some .int) [(0, 9, 12, 24), (0, 9, 15, 26)] { frames := 9, cells := 2, slots := 12, locals := 154 } V [.ref a0, .int p0, .ref ou] (fun rv V' => (rv = some (.int 0) ∧ ∃ (v : Int32) (V1 : Vw), Rt (some (.int v)) V1 ∧ V' = uV V1 50 0 (ou, aL G 1 (vp_updL g9 0 v.toInt64))) ∨ (rv = some (.int 1) ∧ Th "java/util/NoSuchElementException" V') ∨ (rv = some (.int 2) ∧ Th "java/lang/IllegalStateException" V')) := by
  refine Cw.of htr (by decide) (Nat.le_of_ble_eq_true rfl) ?_
  intro p e s m args below meth c ls F hr htab hS hl
  obtain ⟨hx, hb, hml, hown, hts, hK, hlk, -⟩ := id F
  have hl : lv_has ls 4 [(0, .ref a0), (1, .int p0), (2, .ref ou)] := hl
  refine lv_aload_n hx hb d_L_make_0 rfl (lv_at hl 2 rfl) ?_
  refine lv_iconst (v := 0) hx hb d_L_make_1 (by decide) ?_
  refine lv_aload_n hx hb d_L_make_2 rfl (lv_at hl 0 rfl) ?_
  refine lv_iload_n hx hb d_L_make_3 rfl (lv_at hl 1 rfl) ?_
  refine r_xcallV (k := 0) (i := 0) (q := ("RuleClasses", T_C, 15)) (fs := [.int mo, .ref aE, .ref aK, .ref fA, .ref r0, .ref r1, .ref fb, .ref fl, .ref sh, .ref df, .int dy, .int qs, .int hs, .int lv, .int he]) (As := [.int p0]) (rest := [.int 0, .ref ou]) F hS c_L_28 hM rfl h0 rfl hl.1 rfl (Nat.le_of_ble_eq_true rfl) d_L_make_4 ⟨Nat.le_of_ble_eq_true rfl, Nat.le_of_ble_eq_true rfl⟩ ⟨Nat.le_of_ble_eq_true rfl, Nat.le_of_ble_eq_true rfl⟩ (fun q9 E9 ce V1 H locs hT hS hce => ?_) (fun rv V1 H locs hR hS => ?_)
  · rcases hTh _ _ hT with rfl | rfl
    · refine r_catch (x := (0, 9, 12, 24)) F htab [] [(0, 9, 15, 26)] rfl (fun _ h => absurd h List.not_mem_nil) (by decide) (by decide) m_401 (by decide +kernel) hce ?_
      refine lv_astore_n (lv' := [(3, .ref q9), (0, .ref a0), (1, .int p0), (2, .ref ou)]) hx hb d_L_make_12 rfl hl (by decide) rfl (fun ls hl => ?_)
      refine lv_iconst (v := 1) hx hb d_L_make_13 (by decide) ?_
      exact m_reti F hr hS (Nat.le_of_ble_eq_true rfl) (Nat.le_of_ble_eq_true rfl) (Or.inr (Or.inl ⟨rfl, hT⟩)) d_L_make_14
    · refine r_catch (x := (0, 9, 15, 26)) F htab [(0, 9, 12, 24)] [] rfl (List.forall_mem_cons.mpr ⟨⟨by decide, "java/util/NoSuchElementException", m_401, by decide, by decide, by decide⟩, fun _ h => absurd h List.not_mem_nil⟩) (by decide) (by decide) m_402 (by decide +kernel) hce ?_
      refine lv_astore_n (lv' := [(3, .ref q9), (0, .ref a0), (1, .int p0), (2, .ref ou)]) hx hb d_L_make_15 rfl hl (by decide) rfl (fun ls hl => ?_)
      refine lv_iconst (v := 2) hx hb d_L_make_16 (by decide) ?_
      exact m_reti F hr hS (Nat.le_of_ble_eq_true rfl) (Nat.le_of_ble_eq_true rfl) (Or.inr (Or.inr (⟨rfl, hT⟩))) d_L_make_17
  obtain ⟨v, rfl, h50⟩ := hRt _ _ hR
  refine W.eq (g2 := F0 m 7 ls [.int v, .int 0, .ref ou]) rfl ?_
  refine lv_i2l (v := v.toInt64) hx hb d_L_make_7 rfl ?_
  refine r_last (k := 50) (i := 0) F hS h50 (vp_in_nI (n := 0) (by decide) (by decide)) d_L_make_8 (fun H locs hS => ?_)
  rw [show (0 : Int32).toNatClampNeg = 0 from rfl] at hS
  have hS : HS G s (uV V1 50 0 (ou, aL G 1 (vp_updL g9 0 v.toInt64))) H _ := hS
  refine lv_goto (tgt := 18) hx hb d_L_make_9 (by decide) ?_
  refine lv_iconst (v := 0) hx hb d_L_make_18 (by decide) ?_
  exact m_reti F hr hS (Nat.le_of_ble_eq_true rfl) (Nat.le_of_ble_eq_true rfl) (Or.inl ⟨rfl, v, V1, hR, rfl⟩) d_L_make_19
set_option maxHeartbeats 4000000 in
set_option maxRecDepth 100000 in
theorem k_L_fact (G : Gl) (l : Launch) (htr : l.stackTraces = false) (V : Vw) (a0 aE aK fA r0 r1 fb fl sh df : Nat) (mo dy qs hs lv he : Int32) (p0 p1 : Int32) {Rt : Option Value → Vw → Prop} {Th : String → Vw → Prop} (hM : Cx G l y_C_fact b_C_fact 3 none { frames := 7, cells := 2, slots := 12, locals := 112 } V [.ref a0, .int p0, .int p1] Rt Th) (hTh : ∀ E V', Th E V' → E = "java/lang/IllegalArgumentException") (hRt : ∀ r V', Rt r V' → r = none) (h0 : V 0 0 = some (a0, oC mo aE aK fA r0 r1 fb fl sh df dy qs hs lv he)) :
    Cw G l y_L_fact b_L_fact 4 (some .int) [(0, 6, 9, 13)] { frames := 8, cells := 2, slots := 12, locals := 134 } V [.ref a0, .int p0, .int p1] (fun rv V' => (rv = some (.int 0) ∧ Rt none V') ∨ (rv = some (.int 1) ∧ Th "java/lang/IllegalArgumentException" V')) := by
  refine Cw.of htr (by decide) (Nat.le_of_ble_eq_true rfl) ?_
  intro p e s m args below meth c ls F hr htab hS hl
  obtain ⟨hx, hb, hml, hown, hts, hK, hlk, -⟩ := id F
  have hl : lv_has ls 4 [(0, .ref a0), (1, .int p0), (2, .int p1)] := hl
  refine lv_aload_n hx hb d_L_fact_0 rfl (lv_at hl 0 rfl) ?_
  refine lv_iload_n hx hb d_L_fact_1 rfl (lv_at hl 1 rfl) ?_
  refine lv_iload_n hx hb d_L_fact_2 rfl (lv_at hl 2 rfl) ?_
  refine r_xcallV (k := 0) (i := 0) (q := ("RuleClasses", T_C, 15)) (fs := [.int mo, .ref aE, .ref aK, .ref fA, .ref r0, .ref r1, .ref fb, .ref fl, .ref sh, .ref df, .int dy, .int qs, .int hs, .int lv, .int he]) (As := [.int p0, .int p1]) (rest := []) F hS c_L_32 hM rfl h0 rfl hl.1 rfl (Nat.le_of_ble_eq_true rfl) d_L_fact_3 ⟨Nat.le_of_ble_eq_true rfl, Nat.le_of_ble_eq_true rfl⟩ ⟨Nat.le_of_ble_eq_true rfl, Nat.le_of_ble_eq_true rfl⟩ (fun q9 E9 ce V1 H locs hT hS hce => ?_) (fun rv V1 H locs hR hS => ?_)
  · rcases hTh _ _ hT with rfl
    · refine r_catch (x := (0, 6, 9, 13)) F htab [] [] rfl (fun _ h => absurd h List.not_mem_nil) (by decide) (by decide) m_191 (by decide +kernel) hce ?_
      refine lv_astore_n (lv' := [(3, .ref q9), (0, .ref a0), (1, .int p0), (2, .int p1)]) hx hb d_L_fact_9 rfl hl (by decide) rfl (fun ls hl => ?_)
      refine lv_iconst (v := 1) hx hb d_L_fact_10 (by decide) ?_
      exact m_reti F hr hS (Nat.le_of_ble_eq_true rfl) (Nat.le_of_ble_eq_true rfl) (Or.inr (⟨rfl, hT⟩)) d_L_fact_11
  obtain rfl := hRt _ _ hR
  refine W.eq (g2 := F0 m 6 ls []) rfl ?_
  refine lv_goto (tgt := 12) hx hb d_L_fact_6 (by decide) ?_
  refine lv_iconst (v := 0) hx hb d_L_fact_12 (by decide) ?_
  exact m_reti F hr hS (Nat.le_of_ble_eq_true rfl) (Nat.le_of_ble_eq_true rfl) (Or.inl ⟨rfl, hR⟩) d_L_fact_13
set_option maxHeartbeats 4000000 in
set_option maxRecDepth 100000 in
theorem k_L_ask (G : Gl) (l : Launch) (htr : l.stackTraces = false) (V : Vw) (a0 aE aK fA r0 r1 fb fl sh df : Nat) (mo dy qs hs lv he : Int32) (p0 p1 : Int32) {Rt : Option Value → Vw → Prop} {Th : String → Vw → Prop} (hM : Cx G l y_C_ask b_C_ask 4 (Option.some Jvm.ClassFile.FieldType.int) { frames := 8, cells := 2, slots := 12, locals := 141 } V [.ref a0, .int p0, .int p1] Rt Th) (hTh : ∀ E V', Th E V' → E = "java/lang/IllegalArgumentException") (ou : Nat) (g9 : Nat → Int64) (hRt : ∀ r V', Rt r V' → ∃ v : Int32, r = some (.int v) ∧ V' 50 0 = some (ou, aL G 1 g9)) (h0 : V 0 0 = some (a0, oC mo aE aK fA r0 r1 fb fl sh df dy qs hs lv he)) :
    Cw G l y_L_ask b_L_ask 5 (some .int) [(0, 10, 13, 13)] { frames := 9, cells := 2, slots := 12, locals := 164 } V [.ref a0, .int p0, .int p1, .ref ou] (fun rv V' => (rv = some (.int 0) ∧ ∃ (v : Int32) (V1 : Vw), Rt (some (.int v)) V1 ∧ V' = uV V1 50 0 (ou, aL G 1 (vp_updL g9 0 v.toInt64))) ∨ (rv = some (.int 1) ∧ Th "java/lang/IllegalArgumentException" V')) := by
  refine Cw.of htr (by decide) (Nat.le_of_ble_eq_true rfl) ?_
  intro p e s m args below meth c ls F hr htab hS hl
  obtain ⟨hx, hb, hml, hown, hts, hK, hlk, -⟩ := id F
  have hl : lv_has ls 5 [(0, .ref a0), (1, .int p0), (2, .int p1), (3, .ref ou)] := hl
  refine lv_aload_n hx hb d_L_ask_0 rfl (lv_at hl 3 rfl) ?_
  refine lv_iconst (v := 0) hx hb d_L_ask_1 (by decide) ?_
  refine lv_aload_n hx hb d_L_ask_2 rfl (lv_at hl 0 rfl) ?_
  refine lv_iload_n hx hb d_L_ask_3 rfl (lv_at hl 1 rfl) ?_
  refine lv_iload_n hx hb d_L_ask_4 rfl (lv_at hl 2 rfl) ?_
  refine r_xcallV (k := 0) (i := 0) (q := ("RuleClasses", T_C, 15)) (fs := [.int mo, .ref aE, .ref aK, .ref fA, .ref r0, .ref r1, .ref fb, .ref fl, .ref sh, .ref df, .int dy, .int qs, .int hs, .int lv, .int he]) (As := [.int p0, .int p1]) (rest := [.int 0, .ref ou]) F hS c_L_36 hM rfl h0 rfl hl.1 rfl (Nat.le_of_ble_eq_true rfl) d_L_ask_5 ⟨Nat.le_of_ble_eq_true rfl, Nat.le_of_ble_eq_true rfl⟩ ⟨Nat.le_of_ble_eq_true rfl, Nat.le_of_ble_eq_true rfl⟩ (fun q9 E9 ce V1 H locs hT hS hce => ?_) (fun rv V1 H locs hR hS => ?_)
  · rcases hTh _ _ hT with rfl
    · refine r_catch (x := (0, 10, 13, 13)) F htab [] [] rfl (fun _ h => absurd h List.not_mem_nil) (by decide) (by decide) m_191 (by decide +kernel) hce ?_
      refine lv_astore (lv' := [(4, .ref q9), (0, .ref a0), (1, .int p0), (2, .int p1), (3, .ref ou)]) hx hb d_L_ask_13 hl (by decide) rfl (fun ls hl => ?_)
      refine lv_iconst (v := 1) hx hb d_L_ask_15 (by decide) ?_
      exact m_reti F hr hS (Nat.le_of_ble_eq_true rfl) (Nat.le_of_ble_eq_true rfl) (Or.inr (⟨rfl, hT⟩)) d_L_ask_16
  obtain ⟨v, rfl, h50⟩ := hRt _ _ hR
  refine W.eq (g2 := F0 m 8 ls [.int v, .int 0, .ref ou]) rfl ?_
  refine lv_i2l (v := v.toInt64) hx hb d_L_ask_8 rfl ?_
  refine r_last (k := 50) (i := 0) F hS h50 (vp_in_nI (n := 0) (by decide) (by decide)) d_L_ask_9 (fun H locs hS => ?_)
  rw [show (0 : Int32).toNatClampNeg = 0 from rfl] at hS
  have hS : HS G s (uV V1 50 0 (ou, aL G 1 (vp_updL g9 0 v.toInt64))) H _ := hS
  refine lv_goto (tgt := 17) hx hb d_L_ask_10 (by decide) ?_
  refine lv_iconst (v := 0) hx hb d_L_ask_17 (by decide) ?_
  exact m_reti F hr hS (Nat.le_of_ble_eq_true rfl) (Nat.le_of_ble_eq_true rfl) (Or.inl ⟨rfl, v, V1, hR, rfl⟩) d_L_ask_18
set_option maxHeartbeats 4000000 in
set_option maxRecDepth 100000 in
theorem k_L_fallback (G : Gl) (l : Launch) (htr : l.stackTraces = false) (V : Vw) (a0 aE aK fA r0 r1 fb fl sh df : Nat) (mo dy qs hs lv he : Int32) (p0 p1 : Int32) {Rt : Option Value → Vw → Prop} {Th : String → Vw → Prop} (hM : Cx G l y_C_fallback b_C_fallback 3 none { frames := 7, cells := 2, slots := 12, locals := 112 } V [.ref a0, .int p0, .int p1] Rt Th) (hTh : ∀ E V', Th E V' → E = "java/lang/IllegalArgumentException") (hRt : ∀ r V', Rt r V' → r = none) (h0 : V 0 0 = some (a0, oC mo aE aK fA r0 r1 fb fl sh df dy qs hs lv he)) :
    Cw G l y_L_fallback b_L_fallback 4 (some .int) [(0, 6, 9, 13)] { frames := 8, cells := 2, slots := 12, locals := 134 } V [.ref a0, .int p0, .int p1] (fun rv V' => (rv = some (.int 0) ∧ Rt none V') ∨ (rv = some (.int 1) ∧ Th "java/lang/IllegalArgumentException" V')) := by
  refine Cw.of htr (by decide) (Nat.le_of_ble_eq_true rfl) ?_
  intro p e s m args below meth c ls F hr htab hS hl
  obtain ⟨hx, hb, hml, hown, hts, hK, hlk, -⟩ := id F
  have hl : lv_has ls 4 [(0, .ref a0), (1, .int p0), (2, .int p1)] := hl
  refine lv_aload_n hx hb d_L_fallback_0 rfl (lv_at hl 0 rfl) ?_
  refine lv_iload_n hx hb d_L_fallback_1 rfl (lv_at hl 1 rfl) ?_
  refine lv_iload_n hx hb d_L_fallback_2 rfl (lv_at hl 2 rfl) ?_
  refine r_xcallV (k := 0) (i := 0) (q := ("RuleClasses", T_C, 15)) (fs := [.int mo, .ref aE, .ref aK, .ref fA, .ref r0, .ref r1, .ref fb, .ref fl, .ref sh, .ref df, .int dy, .int qs, .int hs, .int lv, .int he]) (As := [.int p0, .int p1]) (rest := []) F hS c_L_40 hM rfl h0 rfl hl.1 rfl (Nat.le_of_ble_eq_true rfl) d_L_fallback_3 ⟨Nat.le_of_ble_eq_true rfl, Nat.le_of_ble_eq_true rfl⟩ ⟨Nat.le_of_ble_eq_true rfl, Nat.le_of_ble_eq_true rfl⟩ (fun q9 E9 ce V1 H locs hT hS hce => ?_) (fun rv V1 H locs hR hS => ?_)
  · rcases hTh _ _ hT with rfl
    · refine r_catch (x := (0, 6, 9, 13)) F htab [] [] rfl (fun _ h => absurd h List.not_mem_nil) (by decide) (by decide) m_191 (by decide +kernel) hce ?_
      refine lv_astore_n (lv' := [(3, .ref q9), (0, .ref a0), (1, .int p0), (2, .int p1)]) hx hb d_L_fallback_9 rfl hl (by decide) rfl (fun ls hl => ?_)
      refine lv_iconst (v := 1) hx hb d_L_fallback_10 (by decide) ?_
      exact m_reti F hr hS (Nat.le_of_ble_eq_true rfl) (Nat.le_of_ble_eq_true rfl) (Or.inr (⟨rfl, hT⟩)) d_L_fallback_11
  obtain rfl := hRt _ _ hR
  refine W.eq (g2 := F0 m 6 ls []) rfl ?_
  refine lv_goto (tgt := 12) hx hb d_L_fallback_6 (by decide) ?_
  refine lv_iconst (v := 0) hx hb d_L_fallback_12 (by decide) ?_
  exact m_reti F hr hS (Nat.le_of_ble_eq_true rfl) (Nat.le_of_ble_eq_true rfl) (Or.inl ⟨rfl, hR⟩) d_L_fallback_13
set_option maxHeartbeats 4000000 in
set_option maxRecDepth 100000 in
theorem k_L_edition (G : Gl) (l : Launch) (htr : l.stackTraces = false) (V : Vw) (a0 aE aK fA r0 r1 fb fl sh df : Nat) (mo dy qs hs lv he : Int32) (p0 p1 p2 : Int32) {Rt : Option Value → Vw → Prop} {Th : String → Vw → Prop} (hM : Cx G l y_C_edition b_C_edition 4 (Option.some Jvm.ClassFile.FieldType.int) { frames := 8, cells := 3, slots := 18, locals := 133 } V [.ref a0, .int p0, .int p1, .int p2] Rt Th) (hTh : ∀ E V', Th E V' → E = "java/lang/IllegalArgumentException") (ou : Nat) (g9 : Nat → Int64) (hRt : ∀ r V', Rt r V' → ∃ v : Int32, r = some (.int v) ∧ V' 50 0 = some (ou, aL G 1 g9)) (h0 : V 0 0 = some (a0, oC mo aE aK fA r0 r1 fb fl sh df dy qs hs lv he)) :
    Cw G l y_L_edition b_L_edition 6 (some .int) [(0, 12, 15, 13)] { frames := 9, cells := 3, slots := 18, locals := 156 } V [.ref a0, .int p0, .int p1, .int p2, .ref ou] (fun rv V' => (rv = some (.int 0) ∧ ∃ (v : Int32) (V1 : Vw), Rt (some (.int v)) V1 ∧ V' = uV V1 50 0 (ou, aL G 1 (vp_updL g9 0 v.toInt64))) ∨ (rv = some (.int 1) ∧ Th "java/lang/IllegalArgumentException" V')) := by
  refine Cw.of htr (by decide) (Nat.le_of_ble_eq_true rfl) ?_
  intro p e s m args below meth c ls F hr htab hS hl
  obtain ⟨hx, hb, hml, hown, hts, hK, hlk, -⟩ := id F
  have hl : lv_has ls 6 [(0, .ref a0), (1, .int p0), (2, .int p1), (3, .int p2), (4, .ref ou)] := hl
  refine lv_aload hx hb d_L_edition_0 (lv_at hl 4 rfl) ?_
  refine lv_iconst (v := 0) hx hb d_L_edition_2 (by decide) ?_
  refine lv_aload_n hx hb d_L_edition_3 rfl (lv_at hl 0 rfl) ?_
  refine lv_iload_n hx hb d_L_edition_4 rfl (lv_at hl 1 rfl) ?_
  refine lv_iload_n hx hb d_L_edition_5 rfl (lv_at hl 2 rfl) ?_
  refine lv_iload_n hx hb d_L_edition_6 rfl (lv_at hl 3 rfl) ?_
  refine r_xcallV (k := 0) (i := 0) (q := ("RuleClasses", T_C, 15)) (fs := [.int mo, .ref aE, .ref aK, .ref fA, .ref r0, .ref r1, .ref fb, .ref fl, .ref sh, .ref df, .int dy, .int qs, .int hs, .int lv, .int he]) (As := [.int p0, .int p1, .int p2]) (rest := [.int 0, .ref ou]) F hS c_L_43 hM rfl h0 rfl hl.1 rfl (Nat.le_of_ble_eq_true rfl) d_L_edition_7 ⟨Nat.le_of_ble_eq_true rfl, Nat.le_of_ble_eq_true rfl⟩ ⟨Nat.le_of_ble_eq_true rfl, Nat.le_of_ble_eq_true rfl⟩ (fun q9 E9 ce V1 H locs hT hS hce => ?_) (fun rv V1 H locs hR hS => ?_)
  · rcases hTh _ _ hT with rfl
    · refine r_catch (x := (0, 12, 15, 13)) F htab [] [] rfl (fun _ h => absurd h List.not_mem_nil) (by decide) (by decide) m_191 (by decide +kernel) hce ?_
      refine lv_astore (lv' := [(5, .ref q9), (0, .ref a0), (1, .int p0), (2, .int p1), (3, .int p2), (4, .ref ou)]) hx hb d_L_edition_15 hl (by decide) rfl (fun ls hl => ?_)
      refine lv_iconst (v := 1) hx hb d_L_edition_17 (by decide) ?_
      exact m_reti F hr hS (Nat.le_of_ble_eq_true rfl) (Nat.le_of_ble_eq_true rfl) (Or.inr (⟨rfl, hT⟩)) d_L_edition_18
  obtain ⟨v, rfl, h50⟩ := hRt _ _ hR
  refine W.eq (g2 := F0 m 10 ls [.int v, .int 0, .ref ou]) rfl ?_
  refine lv_i2l (v := v.toInt64) hx hb d_L_edition_10 rfl ?_
  refine r_last (k := 50) (i := 0) F hS h50 (vp_in_nI (n := 0) (by decide) (by decide)) d_L_edition_11 (fun H locs hS => ?_)
  rw [show (0 : Int32).toNatClampNeg = 0 from rfl] at hS
  have hS : HS G s (uV V1 50 0 (ou, aL G 1 (vp_updL g9 0 v.toInt64))) H _ := hS
  refine lv_goto (tgt := 19) hx hb d_L_edition_12 (by decide) ?_
  refine lv_iconst (v := 0) hx hb d_L_edition_19 (by decide) ?_
  exact m_reti F hr hS (Nat.le_of_ble_eq_true rfl) (Nat.le_of_ble_eq_true rfl) (Or.inl ⟨rfl, v, V1, hR, rfl⟩) d_L_edition_20
set_option maxHeartbeats 4000000 in
set_option maxRecDepth 100000 in
theorem k_L_failed (G : Gl) (l : Launch) (htr : l.stackTraces = false) (V : Vw) (a0 aE aK fA r0 r1 fb fl sh df : Nat) (mo dy qs hs lv he : Int32) (p0 p1 : Int32) {Rt : Option Value → Vw → Prop} {Th : String → Vw → Prop} (hM : Cx G l y_C_failed b_C_failed 3 (Option.some Jvm.ClassFile.FieldType.int) { frames := 7, cells := 2, slots := 12, locals := 112 } V [.ref a0, .int p0, .int p1] Rt Th) (hTh : ∀ E V', Th E V' → E = "java/lang/IllegalArgumentException") (ou : Nat) (g9 : Nat → Int64) (hRt : ∀ r V', Rt r V' → ∃ v : Int32, r = some (.int v) ∧ V' 50 0 = some (ou, aL G 1 g9)) (h0 : V 0 0 = some (a0, oC mo aE aK fA r0 r1 fb fl sh df dy qs hs lv he)) :
    Cw G l y_L_failed b_L_failed 5 (some .int) [(0, 10, 13, 13)] { frames := 8, cells := 2, slots := 12, locals := 134 } V [.ref a0, .int p0, .int p1, .ref ou] (fun rv V' => (rv = some (.int 0) ∧ ∃ (v : Int32) (V1 : Vw), Rt (some (.int v)) V1 ∧ V' = uV V1 50 0 (ou, aL G 1 (vp_updL g9 0 v.toInt64))) ∨ (rv = some (.int 1) ∧ Th "java/lang/IllegalArgumentException" V')) := by
  refine Cw.of htr (by decide) (Nat.le_of_ble_eq_true rfl) ?_
  intro p e s m args below meth c ls F hr htab hS hl
  obtain ⟨hx, hb, hml, hown, hts, hK, hlk, -⟩ := id F
  have hl : lv_has ls 5 [(0, .ref a0), (1, .int p0), (2, .int p1), (3, .ref ou)] := hl
  refine lv_aload_n hx hb d_L_failed_0 rfl (lv_at hl 3 rfl) ?_
  refine lv_iconst (v := 0) hx hb d_L_failed_1 (by decide) ?_
  refine lv_aload_n hx hb d_L_failed_2 rfl (lv_at hl 0 rfl) ?_
  refine lv_iload_n hx hb d_L_failed_3 rfl (lv_at hl 1 rfl) ?_
  refine lv_iload_n hx hb d_L_failed_4 rfl (lv_at hl 2 rfl) ?_
  refine r_xcallV (k := 0) (i := 0) (q := ("RuleClasses", T_C, 15)) (fs := [.int mo, .ref aE, .ref aK, .ref fA, .ref r0, .ref r1, .ref fb, .ref fl, .ref sh, .ref df, .int dy, .int qs, .int hs, .int lv, .int he]) (As := [.int p0, .int p1]) (rest := [.int 0, .ref ou]) F hS c_L_46 hM rfl h0 rfl hl.1 rfl (Nat.le_of_ble_eq_true rfl) d_L_failed_5 ⟨Nat.le_of_ble_eq_true rfl, Nat.le_of_ble_eq_true rfl⟩ ⟨Nat.le_of_ble_eq_true rfl, Nat.le_of_ble_eq_true rfl⟩ (fun q9 E9 ce V1 H locs hT hS hce => ?_) (fun rv V1 H locs hR hS => ?_)
  · rcases hTh _ _ hT with rfl
    · refine r_catch (x := (0, 10, 13, 13)) F htab [] [] rfl (fun _ h => absurd h List.not_mem_nil) (by decide) (by decide) m_191 (by decide +kernel) hce ?_
      refine lv_astore (lv' := [(4, .ref q9), (0, .ref a0), (1, .int p0), (2, .int p1), (3, .ref ou)]) hx hb d_L_failed_13 hl (by decide) rfl (fun ls hl => ?_)
      refine lv_iconst (v := 1) hx hb d_L_failed_15 (by decide) ?_
      exact m_reti F hr hS (Nat.le_of_ble_eq_true rfl) (Nat.le_of_ble_eq_true rfl) (Or.inr (⟨rfl, hT⟩)) d_L_failed_16
  obtain ⟨v, rfl, h50⟩ := hRt _ _ hR
  refine W.eq (g2 := F0 m 8 ls [.int v, .int 0, .ref ou]) rfl ?_
  refine lv_i2l (v := v.toInt64) hx hb d_L_failed_8 rfl ?_
  refine r_last (k := 50) (i := 0) F hS h50 (vp_in_nI (n := 0) (by decide) (by decide)) d_L_failed_9 (fun H locs hS => ?_)
  rw [show (0 : Int32).toNatClampNeg = 0 from rfl] at hS
  have hS : HS G s (uV V1 50 0 (ou, aL G 1 (vp_updL g9 0 v.toInt64))) H _ := hS
  refine lv_goto (tgt := 17) hx hb d_L_failed_10 (by decide) ?_
  refine lv_iconst (v := 0) hx hb d_L_failed_17 (by decide) ?_
  exact m_reti F hr hS (Nat.le_of_ble_eq_true rfl) (Nat.le_of_ble_eq_true rfl) (Or.inl ⟨rfl, v, V1, hR, rfl⟩) d_L_failed_18
set_option maxHeartbeats 4000000 in
set_option maxRecDepth 100000 in
theorem k_L_handle (G : Gl) (l : Launch) (htr : l.stackTraces = false) (V : Vw) (a0 aE aK fA r0 r1 fb fl sh df : Nat) (mo dy qs hs lv he : Int32) (p0 : Int32) {Rt : Option Value → Vw → Prop} {Th : String → Vw → Prop} (hM : Cx G l y_C_handle b_C_handle 2 (Option.some Jvm.ClassFile.FieldType.int) { frames := 8, cells := 2, slots := 12, locals := 132 } V [.ref a0, .int p0] Rt Th) (hTh : ∀ E V', Th E V' → E = "java/util/NoSuchElementException" ∨ E = "java/lang/IllegalStateException" ∨ E = "java/lang/UnsupportedOperationException") (ou : Nat) (g9 : Nat → Int64) (hRt : ∀ r V', Rt r V' → ∃ v : Int32, r = some (.int v) ∧ V' 50 0 = some (ou, aL G 1 g9)) (h0 : V 0 0 = some (a0, oC mo aE aK fA r0 r1 fb fl sh df dy qs hs lv he)) :
    Cw G l y_L_handle b_L_handle 4 (some .int) [(0, 9, 12, 24), (0, 9, 15, 26), (0, 9, 18, 19)] { frames := 9, cells := 2, slots := 12, locals := 153 } V [.ref a0, .int p0, .ref ou] (fun rv V' => (rv = some (.int 0) ∧ ∃ (v : Int32) (V1 : Vw), Rt (some (.int v)) V1 ∧ V' = uV V1 50 0 (ou, aL G 1 (vp_updL g9 0 v.toInt64))) ∨ (rv = some (.int 1) ∧ Th "java/util/NoSuchElementException" V') ∨ (rv = some (.int 2) ∧ Th "java/lang/IllegalStateException" V') ∨ (rv = some (.int 3) ∧ Th "java/lang/UnsupportedOperationException" V')) := by
  refine Cw.of htr (by decide) (Nat.le_of_ble_eq_true rfl) ?_
  intro p e s m args below meth c ls F hr htab hS hl
  obtain ⟨hx, hb, hml, hown, hts, hK, hlk, -⟩ := id F
  have hl : lv_has ls 4 [(0, .ref a0), (1, .int p0), (2, .ref ou)] := hl
  refine lv_aload_n hx hb d_L_handle_0 rfl (lv_at hl 2 rfl) ?_
  refine lv_iconst (v := 0) hx hb d_L_handle_1 (by decide) ?_
  refine lv_aload_n hx hb d_L_handle_2 rfl (lv_at hl 0 rfl) ?_
  refine lv_iload_n hx hb d_L_handle_3 rfl (lv_at hl 1 rfl) ?_
  refine r_xcallV (k := 0) (i := 0) (q := ("RuleClasses", T_C, 15)) (fs := [.int mo, .ref aE, .ref aK, .ref fA, .ref r0, .ref r1, .ref fb, .ref fl, .ref sh, .ref df, .int dy, .int qs, .int hs, .int lv, .int he]) (As := [.int p0]) (rest := [.int 0, .ref ou]) F hS c_L_49 hM rfl h0 rfl hl.1 rfl (Nat.le_of_ble_eq_true rfl) d_L_handle_4 ⟨Nat.le_of_ble_eq_true rfl, Nat.le_of_ble_eq_true rfl⟩ ⟨Nat.le_of_ble_eq_true rfl, Nat.le_of_ble_eq_true rfl⟩ (fun q9 E9 ce V1 H locs hT hS hce => ?_) (fun rv V1 H locs hR hS => ?_)
  · rcases hTh _ _ hT with rfl | rfl | rfl
    · refine r_catch (x := (0, 9, 12, 24)) F htab [] [(0, 9, 15, 26), (0, 9, 18, 19)] rfl (fun _ h => absurd h List.not_mem_nil) (by decide) (by decide) m_401 (by decide +kernel) hce ?_
      refine lv_astore_n (lv' := [(3, .ref q9), (0, .ref a0), (1, .int p0), (2, .ref ou)]) hx hb d_L_handle_12 rfl hl (by decide) rfl (fun ls hl => ?_)
      refine lv_iconst (v := 1) hx hb d_L_handle_13 (by decide) ?_
      exact m_reti F hr hS (Nat.le_of_ble_eq_true rfl) (Nat.le_of_ble_eq_true rfl) (Or.inr (Or.inl ⟨rfl, hT⟩)) d_L_handle_14
    · refine r_catch (x := (0, 9, 15, 26)) F htab [(0, 9, 12, 24)] [(0, 9, 18, 19)] rfl (List.forall_mem_cons.mpr ⟨⟨by decide, "java/util/NoSuchElementException", m_401, by decide, by decide, by decide⟩, fun _ h => absurd h List.not_mem_nil⟩) (by decide) (by decide) m_402 (by decide +kernel) hce ?_
      refine lv_astore_n (lv' := [(3, .ref q9), (0, .ref a0), (1, .int p0), (2, .ref ou)]) hx hb d_L_handle_15 rfl hl (by decide) rfl (fun ls hl => ?_)
      refine lv_iconst (v := 2) hx hb d_L_handle_16 (by decide) ?_
      exact m_reti F hr hS (Nat.le_of_ble_eq_true rfl) (Nat.le_of_ble_eq_true rfl) (Or.inr (Or.inr (Or.inl ⟨rfl, hT⟩))) d_L_handle_17
    · refine r_catch (x := (0, 9, 18, 19)) F htab [(0, 9, 12, 24), (0, 9, 15, 26)] [] rfl (List.forall_mem_cons.mpr ⟨⟨by decide, "java/util/NoSuchElementException", m_401, by decide, by decide, by decide⟩, List.forall_mem_cons.mpr ⟨⟨by decide, "java/lang/IllegalStateException", m_402, by decide, by decide, by decide⟩, fun _ h => absurd h List.not_mem_nil⟩⟩) (by decide) (by decide) m_276 (by decide +kernel) hce ?_
      refine lv_astore_n (lv' := [(3, .ref q9), (0, .ref a0), (1, .int p0), (2, .ref ou)]) hx hb d_L_handle_18 rfl hl (by decide) rfl (fun ls hl => ?_)
      refine lv_iconst (v := 3) hx hb d_L_handle_19 (by decide) ?_
      exact m_reti F hr hS (Nat.le_of_ble_eq_true rfl) (Nat.le_of_ble_eq_true rfl) (Or.inr (Or.inr (Or.inr (⟨rfl, hT⟩)))) d_L_handle_20
  obtain ⟨v, rfl, h50⟩ := hRt _ _ hR
  refine W.eq (g2 := F0 m 7 ls [.int v, .int 0, .ref ou]) rfl ?_
  refine lv_i2l (v := v.toInt64) hx hb d_L_handle_7 rfl ?_
  refine r_last (k := 50) (i := 0) F hS h50 (vp_in_nI (n := 0) (by decide) (by decide)) d_L_handle_8 (fun H locs hS => ?_)
  rw [show (0 : Int32).toNatClampNeg = 0 from rfl] at hS
  have hS : HS G s (uV V1 50 0 (ou, aL G 1 (vp_updL g9 0 v.toInt64))) H _ := hS
  refine lv_goto (tgt := 21) hx hb d_L_handle_9 (by decide) ?_
  refine lv_iconst (v := 0) hx hb d_L_handle_21 (by decide) ?_
  exact m_reti F hr hS (Nat.le_of_ble_eq_true rfl) (Nat.le_of_ble_eq_true rfl) (Or.inl ⟨rfl, v, V1, hR, rfl⟩) d_L_handle_22
set_option maxHeartbeats 4000000 in
set_option maxRecDepth 100000 in
theorem k_L_by (G : Gl) (l : Launch) (htr : l.stackTraces = false) (V : Vw) (a0 aE aK fA r0 r1 fb fl sh df : Nat) (mo dy qs hs lv he : Int32) (p0 : Int32) {Rt : Option Value → Vw → Prop} {Th : String → Vw → Prop} (hM : Cx G l y_C_by b_C_by 3 (Option.some Jvm.ClassFile.FieldType.int) { frames := 8, cells := 2, slots := 12, locals := 132 } V [.ref a0, .int p0] Rt Th) (hTh : ∀ E V', Th E V' → E = "java/lang/IllegalArgumentException" ∨ E = "java/lang/IllegalStateException") (ou : Nat) (g9 : Nat → Int64) (hRt : ∀ r V', Rt r V' → ∃ v : Int32, r = some (.int v) ∧ V' 50 0 = some (ou, aL G 1 g9)) (h0 : V 0 0 = some (a0, oC mo aE aK fA r0 r1 fb fl sh df dy qs hs lv he)) :
    Cw G l y_L_by b_L_by 4 (some .int) [(0, 9, 12, 13), (0, 9, 15, 26)] { frames := 9, cells := 2, slots := 12, locals := 154 } V [.ref a0, .int p0, .ref ou] (fun rv V' => (rv = some (.int 0) ∧ ∃ (v : Int32) (V1 : Vw), Rt (some (.int v)) V1 ∧ V' = uV V1 50 0 (ou, aL G 1 (vp_updL g9 0 v.toInt64))) ∨ (rv = some (.int 1) ∧ Th "java/lang/IllegalArgumentException" V') ∨ (rv = some (.int 2) ∧ Th "java/lang/IllegalStateException" V')) := by
  refine Cw.of htr (by decide) (Nat.le_of_ble_eq_true rfl) ?_
  intro p e s m args below meth c ls F hr htab hS hl
  obtain ⟨hx, hb, hml, hown, hts, hK, hlk, -⟩ := id F
  have hl : lv_has ls 4 [(0, .ref a0), (1, .int p0), (2, .ref ou)] := hl
  refine lv_aload_n hx hb d_L_by_0 rfl (lv_at hl 2 rfl) ?_
  refine lv_iconst (v := 0) hx hb d_L_by_1 (by decide) ?_
  refine lv_aload_n hx hb d_L_by_2 rfl (lv_at hl 0 rfl) ?_
  refine lv_iload_n hx hb d_L_by_3 rfl (lv_at hl 1 rfl) ?_
  refine r_xcallV (k := 0) (i := 0) (q := ("RuleClasses", T_C, 15)) (fs := [.int mo, .ref aE, .ref aK, .ref fA, .ref r0, .ref r1, .ref fb, .ref fl, .ref sh, .ref df, .int dy, .int qs, .int hs, .int lv, .int he]) (As := [.int p0]) (rest := [.int 0, .ref ou]) F hS c_L_52 hM rfl h0 rfl hl.1 rfl (Nat.le_of_ble_eq_true rfl) d_L_by_4 ⟨Nat.le_of_ble_eq_true rfl, Nat.le_of_ble_eq_true rfl⟩ ⟨Nat.le_of_ble_eq_true rfl, Nat.le_of_ble_eq_true rfl⟩ (fun q9 E9 ce V1 H locs hT hS hce => ?_) (fun rv V1 H locs hR hS => ?_)
  · rcases hTh _ _ hT with rfl | rfl
    · refine r_catch (x := (0, 9, 12, 13)) F htab [] [(0, 9, 15, 26)] rfl (fun _ h => absurd h List.not_mem_nil) (by decide) (by decide) m_191 (by decide +kernel) hce ?_
      refine lv_astore_n (lv' := [(3, .ref q9), (0, .ref a0), (1, .int p0), (2, .ref ou)]) hx hb d_L_by_12 rfl hl (by decide) rfl (fun ls hl => ?_)
      refine lv_iconst (v := 1) hx hb d_L_by_13 (by decide) ?_
      exact m_reti F hr hS (Nat.le_of_ble_eq_true rfl) (Nat.le_of_ble_eq_true rfl) (Or.inr (Or.inl ⟨rfl, hT⟩)) d_L_by_14
    · refine r_catch (x := (0, 9, 15, 26)) F htab [(0, 9, 12, 13)] [] rfl (List.forall_mem_cons.mpr ⟨⟨by decide, "java/lang/IllegalArgumentException", m_191, by decide, by decide, by decide⟩, fun _ h => absurd h List.not_mem_nil⟩) (by decide) (by decide) m_402 (by decide +kernel) hce ?_
      refine lv_astore_n (lv' := [(3, .ref q9), (0, .ref a0), (1, .int p0), (2, .ref ou)]) hx hb d_L_by_15 rfl hl (by decide) rfl (fun ls hl => ?_)
      refine lv_iconst (v := 2) hx hb d_L_by_16 (by decide) ?_
      exact m_reti F hr hS (Nat.le_of_ble_eq_true rfl) (Nat.le_of_ble_eq_true rfl) (Or.inr (Or.inr (⟨rfl, hT⟩))) d_L_by_17
  obtain ⟨v, rfl, h50⟩ := hRt _ _ hR
  refine W.eq (g2 := F0 m 7 ls [.int v, .int 0, .ref ou]) rfl ?_
  refine lv_i2l (v := v.toInt64) hx hb d_L_by_7 rfl ?_
  refine r_last (k := 50) (i := 0) F hS h50 (vp_in_nI (n := 0) (by decide) (by decide)) d_L_by_8 (fun H locs hS => ?_)
  rw [show (0 : Int32).toNatClampNeg = 0 from rfl] at hS
  have hS : HS G s (uV V1 50 0 (ou, aL G 1 (vp_updL g9 0 v.toInt64))) H _ := hS
  refine lv_goto (tgt := 18) hx hb d_L_by_9 (by decide) ?_
  refine lv_iconst (v := 0) hx hb d_L_by_18 (by decide) ?_
  exact m_reti F hr hS (Nat.le_of_ble_eq_true rfl) (Nat.le_of_ble_eq_true rfl) (Or.inl ⟨rfl, v, V1, hR, rfl⟩) d_L_by_19
set_option maxHeartbeats 4000000 in
set_option maxRecDepth 100000 in
theorem k_L_keep (G : Gl) (l : Launch) (htr : l.stackTraces = false) (V : Vw) (a0 aE aK fA r0 r1 fb fl sh df : Nat) (mo dy qs hs lv he : Int32) (p0 : Int32) {Rt : Option Value → Vw → Prop} {Th : String → Vw → Prop} (hM : Cx G l y_C_keep b_C_keep 1 (Option.some Jvm.ClassFile.FieldType.int) { frames := 7, cells := 3, slots := 45, locals := 171 } V [.ref a0] Rt Th) (hTh : ∀ E V', Th E V' → E = "java/lang/UnsupportedOperationException") (ou : Nat) (g9 : Nat → Int64) (hRt : ∀ r V', Rt r V' → ∃ v : Int32, r = some (.int v) ∧ V' 50 0 = some (ou, aL G 1 g9)) (h0 : V 0 0 = some (a0, oC mo aE aK fA r0 r1 fb fl sh df dy qs hs lv he)) :
    Cw G l y_L_keep b_L_keep 3 (some .int) [(0, 8, 11, 19)] { frames := 8, cells := 3, slots := 45, locals := 191 } V [.ref a0, .ref ou] (fun rv V' => (rv = some (.int 0) ∧ ∃ (v : Int32) (V1 : Vw), Rt (some (.int v)) V1 ∧ V' = uV V1 50 0 (ou, aL G 1 (vp_updL g9 0 v.toInt64))) ∨ (rv = some (.int 1) ∧ Th "java/lang/UnsupportedOperationException" V')) := by
  refine Cw.of htr (by decide) (Nat.le_of_ble_eq_true rfl) ?_
  intro p e s m args below meth c ls F hr htab hS hl
  obtain ⟨hx, hb, hml, hown, hts, hK, hlk, -⟩ := id F
  have hl : lv_has ls 3 [(0, .ref a0), (1, .ref ou)] := hl
  refine lv_aload_n hx hb d_L_keep_0 rfl (lv_at hl 1 rfl) ?_
  refine lv_iconst (v := 0) hx hb d_L_keep_1 (by decide) ?_
  refine lv_aload_n hx hb d_L_keep_2 rfl (lv_at hl 0 rfl) ?_
  refine r_xcallV (k := 0) (i := 0) (q := ("RuleClasses", T_C, 15)) (fs := [.int mo, .ref aE, .ref aK, .ref fA, .ref r0, .ref r1, .ref fb, .ref fl, .ref sh, .ref df, .int dy, .int qs, .int hs, .int lv, .int he]) (As := []) (rest := [.int 0, .ref ou]) F hS c_L_55 hM rfl h0 rfl hl.1 rfl (Nat.le_of_ble_eq_true rfl) d_L_keep_3 ⟨Nat.le_of_ble_eq_true rfl, Nat.le_of_ble_eq_true rfl⟩ ⟨Nat.le_of_ble_eq_true rfl, Nat.le_of_ble_eq_true rfl⟩ (fun q9 E9 ce V1 H locs hT hS hce => ?_) (fun rv V1 H locs hR hS => ?_)
  · rcases hTh _ _ hT with rfl
    · refine r_catch (x := (0, 8, 11, 19)) F htab [] [] rfl (fun _ h => absurd h List.not_mem_nil) (by decide) (by decide) m_276 (by decide +kernel) hce ?_
      refine lv_astore_n (lv' := [(2, .ref q9), (0, .ref a0), (1, .ref ou)]) hx hb d_L_keep_11 rfl hl (by decide) rfl (fun ls hl => ?_)
      refine lv_iconst (v := 1) hx hb d_L_keep_12 (by decide) ?_
      exact m_reti F hr hS (Nat.le_of_ble_eq_true rfl) (Nat.le_of_ble_eq_true rfl) (Or.inr (⟨rfl, hT⟩)) d_L_keep_13
  obtain ⟨v, rfl, h50⟩ := hRt _ _ hR
  refine W.eq (g2 := F0 m 6 ls [.int v, .int 0, .ref ou]) rfl ?_
  refine lv_i2l (v := v.toInt64) hx hb d_L_keep_6 rfl ?_
  refine r_last (k := 50) (i := 0) F hS h50 (vp_in_nI (n := 0) (by decide) (by decide)) d_L_keep_7 (fun H locs hS => ?_)
  rw [show (0 : Int32).toNatClampNeg = 0 from rfl] at hS
  have hS : HS G s (uV V1 50 0 (ou, aL G 1 (vp_updL g9 0 v.toInt64))) H _ := hS
  refine lv_goto (tgt := 14) hx hb d_L_keep_8 (by decide) ?_
  refine lv_iconst (v := 0) hx hb d_L_keep_14 (by decide) ?_
  exact m_reti F hr hS (Nat.le_of_ble_eq_true rfl) (Nat.le_of_ble_eq_true rfl) (Or.inl ⟨rfl, v, V1, hR, rfl⟩) d_L_keep_15
set_option maxHeartbeats 4000000 in
set_option maxRecDepth 100000 in
theorem k_L_compare (G : Gl) (l : Launch) (htr : l.stackTraces = false) (V : Vw) (a0 aE aK fA r0 r1 fb fl sh df : Nat) (mo dy qs hs lv he : Int32) (p0 p1 : Int32) {Rt : Option Value → Vw → Prop} {Th : String → Vw → Prop} (hM : Cx G l y_C_compare b_C_compare 7 (Option.some Jvm.ClassFile.FieldType.int) { frames := 8, cells := 2, slots := 12, locals := 132 } V [.ref a0, .int p0, .int p1] Rt Th) (hTh : ∀ E V', Th E V' → E = "java/util/NoSuchElementException") (ou : Nat) (g9 : Nat → Int64) (hRt : ∀ r V', Rt r V' → ∃ v : Int32, r = some (.int v) ∧ V' 50 0 = some (ou, aL G 1 g9)) (h0 : V 0 0 = some (a0, oC mo aE aK fA r0 r1 fb fl sh df dy qs hs lv he)) :
    Cw G l y_L_compare b_L_compare 5 (some .int) [(0, 10, 13, 24)] { frames := 9, cells := 2, slots := 12, locals := 158 } V [.ref a0, .int p0, .int p1, .ref ou] (fun rv V' => (rv = some (.int 0) ∧ ∃ (v : Int32) (V1 : Vw), Rt (some (.int v)) V1 ∧ V' = uV V1 50 0 (ou, aL G 1 (vp_updL g9 0 v.toInt64))) ∨ (rv = some (.int 1) ∧ Th "java/util/NoSuchElementException" V')) := by
  refine Cw.of htr (by decide) (Nat.le_of_ble_eq_true rfl) ?_
  intro p e s m args below meth c ls F hr htab hS hl
  obtain ⟨hx, hb, hml, hown, hts, hK, hlk, -⟩ := id F
  have hl : lv_has ls 5 [(0, .ref a0), (1, .int p0), (2, .int p1), (3, .ref ou)] := hl
  refine lv_aload_n hx hb d_L_compare_0 rfl (lv_at hl 3 rfl) ?_
  refine lv_iconst (v := 0) hx hb d_L_compare_1 (by decide) ?_
  refine lv_aload_n hx hb d_L_compare_2 rfl (lv_at hl 0 rfl) ?_
  refine lv_iload_n hx hb d_L_compare_3 rfl (lv_at hl 1 rfl) ?_
  refine lv_iload_n hx hb d_L_compare_4 rfl (lv_at hl 2 rfl) ?_
  refine r_xcallV (k := 0) (i := 0) (q := ("RuleClasses", T_C, 15)) (fs := [.int mo, .ref aE, .ref aK, .ref fA, .ref r0, .ref r1, .ref fb, .ref fl, .ref sh, .ref df, .int dy, .int qs, .int hs, .int lv, .int he]) (As := [.int p0, .int p1]) (rest := [.int 0, .ref ou]) F hS c_L_59 hM rfl h0 rfl hl.1 rfl (Nat.le_of_ble_eq_true rfl) d_L_compare_5 ⟨Nat.le_of_ble_eq_true rfl, Nat.le_of_ble_eq_true rfl⟩ ⟨Nat.le_of_ble_eq_true rfl, Nat.le_of_ble_eq_true rfl⟩ (fun q9 E9 ce V1 H locs hT hS hce => ?_) (fun rv V1 H locs hR hS => ?_)
  · rcases hTh _ _ hT with rfl
    · refine r_catch (x := (0, 10, 13, 24)) F htab [] [] rfl (fun _ h => absurd h List.not_mem_nil) (by decide) (by decide) m_401 (by decide +kernel) hce ?_
      refine lv_astore (lv' := [(4, .ref q9), (0, .ref a0), (1, .int p0), (2, .int p1), (3, .ref ou)]) hx hb d_L_compare_13 hl (by decide) rfl (fun ls hl => ?_)
      refine lv_iconst (v := 1) hx hb d_L_compare_15 (by decide) ?_
      exact m_reti F hr hS (Nat.le_of_ble_eq_true rfl) (Nat.le_of_ble_eq_true rfl) (Or.inr (⟨rfl, hT⟩)) d_L_compare_16
  obtain ⟨v, rfl, h50⟩ := hRt _ _ hR
  refine W.eq (g2 := F0 m 8 ls [.int v, .int 0, .ref ou]) rfl ?_
  refine lv_i2l (v := v.toInt64) hx hb d_L_compare_8 rfl ?_
  refine r_last (k := 50) (i := 0) F hS h50 (vp_in_nI (n := 0) (by decide) (by decide)) d_L_compare_9 (fun H locs hS => ?_)
  rw [show (0 : Int32).toNatClampNeg = 0 from rfl] at hS
  have hS : HS G s (uV V1 50 0 (ou, aL G 1 (vp_updL g9 0 v.toInt64))) H _ := hS
  refine lv_goto (tgt := 17) hx hb d_L_compare_10 (by decide) ?_
  refine lv_iconst (v := 0) hx hb d_L_compare_17 (by decide) ?_
  exact m_reti F hr hS (Nat.le_of_ble_eq_true rfl) (Nat.le_of_ble_eq_true rfl) (Or.inl ⟨rfl, v, V1, hR, rfl⟩) d_L_compare_18
set_option maxHeartbeats 4000000 in
set_option maxRecDepth 100000 in
theorem k_L_same (G : Gl) (l : Launch) (htr : l.stackTraces = false) (V : Vw) (a0 aE aK fA r0 r1 fb fl sh df : Nat) (mo dy qs hs lv he : Int32) (p0 p1 : Int32) {Rt : Option Value → Vw → Prop} {Th : String → Vw → Prop} (hM : Cx G l y_C_same b_C_same 5 (Option.some Jvm.ClassFile.FieldType.boolean) { frames := 8, cells := 2, slots := 12, locals := 132 } V [.ref a0, .int p0, .int p1] Rt Th) (hTh : ∀ E V', Th E V' → E = "java/util/NoSuchElementException") (ou : Nat) (g9 : Nat → Int64) (hRt : ∀ r V', Rt r V' → ∃ v : Int32, r = some (.int v) ∧ V' 50 0 = some (ou, aL G 1 g9)) (h0 : V 0 0 = some (a0, oC mo aE aK fA r0 r1 fb fl sh df dy qs hs lv he)) :
    Cw G l y_L_same b_L_same 5 (some .int) [(0, 17, 20, 24)] { frames := 9, cells := 2, slots := 12, locals := 156 } V [.ref a0, .int p0, .int p1, .ref ou] (fun rv V' => (rv = some (.int 0) ∧ ∃ (v : Int32) (V1 : Vw), Rt (some (.int v)) V1 ∧ V' = uV V1 50 0 (ou, aL G 1 (vp_updL g9 0 (if v = 0 then 0 else 1)))) ∨ (rv = some (.int 1) ∧ Th "java/util/NoSuchElementException" V')) := by
  refine Cw.of htr (by decide) (Nat.le_of_ble_eq_true rfl) ?_
  intro p e s m args below meth c ls F hr htab hS hl
  obtain ⟨hx, hb, hml, hown, hts, hK, hlk, -⟩ := id F
  have hl : lv_has ls 5 [(0, .ref a0), (1, .int p0), (2, .int p1), (3, .ref ou)] := hl
  refine lv_aload_n hx hb d_L_same_0 rfl (lv_at hl 3 rfl) ?_
  refine lv_iconst (v := 0) hx hb d_L_same_1 (by decide) ?_
  refine lv_aload_n hx hb d_L_same_2 rfl (lv_at hl 0 rfl) ?_
  refine lv_iload_n hx hb d_L_same_3 rfl (lv_at hl 1 rfl) ?_
  refine lv_iload_n hx hb d_L_same_4 rfl (lv_at hl 2 rfl) ?_
  refine r_xcallV (k := 0) (i := 0) (q := ("RuleClasses", T_C, 15)) (fs := [.int mo, .ref aE, .ref aK, .ref fA, .ref r0, .ref r1, .ref fb, .ref fl, .ref sh, .ref df, .int dy, .int qs, .int hs, .int lv, .int he]) (As := [.int p0, .int p1]) (rest := [.int 0, .ref ou]) F hS c_L_62 hM rfl h0 rfl hl.1 rfl (Nat.le_of_ble_eq_true rfl) d_L_same_5 ⟨Nat.le_of_ble_eq_true rfl, Nat.le_of_ble_eq_true rfl⟩ ⟨Nat.le_of_ble_eq_true rfl, Nat.le_of_ble_eq_true rfl⟩ (fun q9 E9 ce V1 H locs hT hS hce => ?_) (fun rv V1 H locs hR hS => ?_)
  · rcases hTh _ _ hT with rfl
    · refine r_catch (x := (0, 17, 20, 24)) F htab [] [] rfl (fun _ h => absurd h List.not_mem_nil) (by decide) (by decide) m_401 (by decide +kernel) hce ?_
      refine lv_astore (lv' := [(4, .ref q9), (0, .ref a0), (1, .int p0), (2, .int p1), (3, .ref ou)]) hx hb d_L_same_20 hl (by decide) rfl (fun ls hl => ?_)
      refine lv_iconst (v := 1) hx hb d_L_same_22 (by decide) ?_
      exact m_reti F hr hS (Nat.le_of_ble_eq_true rfl) (Nat.le_of_ble_eq_true rfl) (Or.inr (⟨rfl, hT⟩)) d_L_same_23
  obtain ⟨v, rfl, h50⟩ := hRt _ _ hR
  refine W.eq (g2 := F0 m 8 ls [.int v, .int 0, .ref ou]) rfl ?_
  refine lv_if_eq (tgt := 15) hx hb d_L_same_8 (by decide) (fun c_8 => ?_) (fun c_8 => ?_)
  · refine lv_lconst (v := 0) hx hb d_L_same_15 (by decide) ?_
    refine r_last (k := 50) (i := 0) F hS h50 (vp_in_nI (n := 0) (by decide) (by decide)) d_L_same_16 (fun H locs hS => ?_)
    rw [show (0 : Int32).toNatClampNeg = 0 from rfl] at hS
    have hS : HS G s (uV V1 50 0 (ou, aL G 1 (vp_updL g9 0 0))) H _ := hS
    refine lv_goto (tgt := 24) hx hb d_L_same_17 (by decide) ?_
    refine lv_iconst (v := 0) hx hb d_L_same_24 (by decide) ?_
    exact m_reti F hr hS (Nat.le_of_ble_eq_true rfl) (Nat.le_of_ble_eq_true rfl) (Or.inl ⟨rfl, v, V1, hR, by rw [if_pos c_8]⟩) d_L_same_25
  · refine lv_lconst (v := 1) hx hb d_L_same_11 (by decide) ?_
    refine lv_goto (tgt := 16) hx hb d_L_same_12 (by decide) ?_
    refine r_last (k := 50) (i := 0) F hS h50 (vp_in_nI (n := 0) (by decide) (by decide)) d_L_same_16 (fun H locs hS => ?_)
    rw [show (0 : Int32).toNatClampNeg = 0 from rfl] at hS
    have hS : HS G s (uV V1 50 0 (ou, aL G 1 (vp_updL g9 0 1))) H _ := hS
    refine lv_goto (tgt := 24) hx hb d_L_same_17 (by decide) ?_
    refine lv_iconst (v := 0) hx hb d_L_same_24 (by decide) ?_
    exact m_reti F hr hS (Nat.le_of_ble_eq_true rfl) (Nat.le_of_ble_eq_true rfl) (Or.inl ⟨rfl, v, V1, hR, by rw [if_neg c_8]⟩) d_L_same_25
set_option maxHeartbeats 4000000 in
set_option maxRecDepth 100000 in
theorem k_L_shadow (G : Gl) (l : Launch) (htr : l.stackTraces = false) (V : Vw) (a0 aE aK fA r0 r1 fb fl sh df : Nat) (mo dy qs hs lv he : Int32) (p0 p1 p2 : Int32) {Rt : Option Value → Vw → Prop} {Th : String → Vw → Prop} (hM : Cx G l y_C_shadow b_C_shadow 4 none { frames := 8, cells := 3, slots := 18, locals := 133 } V [.ref a0, .int p0, .int p1, .int p2] Rt Th) (hTh : ∀ E V', Th E V' → E = "java/util/NoSuchElementException" ∨ E = "java/lang/IllegalArgumentException") (hRt : ∀ r V', Rt r V' → r = none) (h0 : V 0 0 = some (a0, oC mo aE aK fA r0 r1 fb fl sh df dy qs hs lv he)) :
    Cw G l y_L_shadow b_L_shadow 5 (some .int) [(0, 7, 10, 24), (0, 7, 14, 13)] { frames := 9, cells := 3, slots := 18, locals := 156 } V [.ref a0, .int p0, .int p1, .int p2] (fun rv V' => (rv = some (.int 0) ∧ Rt none V') ∨ (rv = some (.int 1) ∧ Th "java/util/NoSuchElementException" V') ∨ (rv = some (.int 2) ∧ Th "java/lang/IllegalArgumentException" V')) := by
  refine Cw.of htr (by decide) (Nat.le_of_ble_eq_true rfl) ?_
  intro p e s m args below meth c ls F hr htab hS hl
  obtain ⟨hx, hb, hml, hown, hts, hK, hlk, -⟩ := id F
  have hl : lv_has ls 5 [(0, .ref a0), (1, .int p0), (2, .int p1), (3, .int p2)] := hl
  refine lv_aload_n hx hb d_L_shadow_0 rfl (lv_at hl 0 rfl) ?_
  refine lv_iload_n hx hb d_L_shadow_1 rfl (lv_at hl 1 rfl) ?_
  refine lv_iload_n hx hb d_L_shadow_2 rfl (lv_at hl 2 rfl) ?_
  refine lv_iload_n hx hb d_L_shadow_3 rfl (lv_at hl 3 rfl) ?_
  refine r_xcallV (k := 0) (i := 0) (q := ("RuleClasses", T_C, 15)) (fs := [.int mo, .ref aE, .ref aK, .ref fA, .ref r0, .ref r1, .ref fb, .ref fl, .ref sh, .ref df, .int dy, .int qs, .int hs, .int lv, .int he]) (As := [.int p0, .int p1, .int p2]) (rest := []) F hS c_L_66 hM rfl h0 rfl hl.1 rfl (Nat.le_of_ble_eq_true rfl) d_L_shadow_4 ⟨Nat.le_of_ble_eq_true rfl, Nat.le_of_ble_eq_true rfl⟩ ⟨Nat.le_of_ble_eq_true rfl, Nat.le_of_ble_eq_true rfl⟩ (fun q9 E9 ce V1 H locs hT hS hce => ?_) (fun rv V1 H locs hR hS => ?_)
  · rcases hTh _ _ hT with rfl | rfl
    · refine r_catch (x := (0, 7, 10, 24)) F htab [] [(0, 7, 14, 13)] rfl (fun _ h => absurd h List.not_mem_nil) (by decide) (by decide) m_401 (by decide +kernel) hce ?_
      refine lv_astore (lv' := [(4, .ref q9), (0, .ref a0), (1, .int p0), (2, .int p1), (3, .int p2)]) hx hb d_L_shadow_10 hl (by decide) rfl (fun ls hl => ?_)
      refine lv_iconst (v := 1) hx hb d_L_shadow_12 (by decide) ?_
      exact m_reti F hr hS (Nat.le_of_ble_eq_true rfl) (Nat.le_of_ble_eq_true rfl) (Or.inr (Or.inl ⟨rfl, hT⟩)) d_L_shadow_13
    · refine r_catch (x := (0, 7, 14, 13)) F htab [(0, 7, 10, 24)] [] rfl (List.forall_mem_cons.mpr ⟨⟨by decide, "java/util/NoSuchElementException", m_401, by decide, by decide, by decide⟩, fun _ h => absurd h List.not_mem_nil⟩) (by decide) (by decide) m_191 (by decide +kernel) hce ?_
      refine lv_astore (lv' := [(4, .ref q9), (0, .ref a0), (1, .int p0), (2, .int p1), (3, .int p2)]) hx hb d_L_shadow_14 hl (by decide) rfl (fun ls hl => ?_)
      refine lv_iconst (v := 2) hx hb d_L_shadow_16 (by decide) ?_
      exact m_reti F hr hS (Nat.le_of_ble_eq_true rfl) (Nat.le_of_ble_eq_true rfl) (Or.inr (Or.inr (⟨rfl, hT⟩))) d_L_shadow_17
  obtain rfl := hRt _ _ hR
  refine W.eq (g2 := F0 m 7 ls []) rfl ?_
  refine lv_goto (tgt := 18) hx hb d_L_shadow_7 (by decide) ?_
  refine lv_iconst (v := 0) hx hb d_L_shadow_18 (by decide) ?_
  exact m_reti F hr hS (Nat.le_of_ble_eq_true rfl) (Nat.le_of_ble_eq_true rfl) (Or.inl ⟨rfl, hR⟩) d_L_shadow_19
set_option maxHeartbeats 4000000 in
set_option maxRecDepth 100000 in
theorem k_L_otherwise (G : Gl) (l : Launch) (htr : l.stackTraces = false) (V : Vw) (a0 aE aK fA r0 r1 fb fl sh df : Nat) (mo dy qs hs lv he : Int32) (p0 p1 : Int32) {Rt : Option Value → Vw → Prop} {Th : String → Vw → Prop} (hM : Cx G l y_C_otherwise b_C_otherwise 3 (Option.some Jvm.ClassFile.FieldType.int) { frames := 8, cells := 2, slots := 12, locals := 133 } V [.ref a0, .int p0, .int p1] Rt Th) (hTh : ∀ E V', Th E V' → E = "java/lang/IllegalArgumentException") (ou : Nat) (g9 : Nat → Int64) (hRt : ∀ r V', Rt r V' → ∃ v : Int32, r = some (.int v) ∧ V' 50 0 = some (ou, aL G 1 g9)) (h0 : V 0 0 = some (a0, oC mo aE aK fA r0 r1 fb fl sh df dy qs hs lv he)) :
    Cw G l y_L_otherwise b_L_otherwise 5 (some .int) [(0, 10, 13, 13)] { frames := 9, cells := 2, slots := 12, locals := 155 } V [.ref a0, .int p0, .int p1, .ref ou] (fun rv V' => (rv = some (.int 0) ∧ ∃ (v : Int32) (V1 : Vw), Rt (some (.int v)) V1 ∧ V' = uV V1 50 0 (ou, aL G 1 (vp_updL g9 0 v.toInt64))) ∨ (rv = some (.int 1) ∧ Th "java/lang/IllegalArgumentException" V')) := by
  refine Cw.of htr (by decide) (Nat.le_of_ble_eq_true rfl) ?_
  intro p e s m args below meth c ls F hr htab hS hl
  obtain ⟨hx, hb, hml, hown, hts, hK, hlk, -⟩ := id F
  have hl : lv_has ls 5 [(0, .ref a0), (1, .int p0), (2, .int p1), (3, .ref ou)] := hl
  refine lv_aload_n hx hb d_L_otherwise_0 rfl (lv_at hl 3 rfl) ?_
  refine lv_iconst (v := 0) hx hb d_L_otherwise_1 (by decide) ?_
  refine lv_aload_n hx hb d_L_otherwise_2 rfl (lv_at hl 0 rfl) ?_
  refine lv_iload_n hx hb d_L_otherwise_3 rfl (lv_at hl 1 rfl) ?_
  refine lv_iload_n hx hb d_L_otherwise_4 rfl (lv_at hl 2 rfl) ?_
  refine r_xcallV (k := 0) (i := 0) (q := ("RuleClasses", T_C, 15)) (fs := [.int mo, .ref aE, .ref aK, .ref fA, .ref r0, .ref r1, .ref fb, .ref fl, .ref sh, .ref df, .int dy, .int qs, .int hs, .int lv, .int he]) (As := [.int p0, .int p1]) (rest := [.int 0, .ref ou]) F hS c_L_70 hM rfl h0 rfl hl.1 rfl (Nat.le_of_ble_eq_true rfl) d_L_otherwise_5 ⟨Nat.le_of_ble_eq_true rfl, Nat.le_of_ble_eq_true rfl⟩ ⟨Nat.le_of_ble_eq_true rfl, Nat.le_of_ble_eq_true rfl⟩ (fun q9 E9 ce V1 H locs hT hS hce => ?_) (fun rv V1 H locs hR hS => ?_)
  · rcases hTh _ _ hT with rfl
    · refine r_catch (x := (0, 10, 13, 13)) F htab [] [] rfl (fun _ h => absurd h List.not_mem_nil) (by decide) (by decide) m_191 (by decide +kernel) hce ?_
      refine lv_astore (lv' := [(4, .ref q9), (0, .ref a0), (1, .int p0), (2, .int p1), (3, .ref ou)]) hx hb d_L_otherwise_13 hl (by decide) rfl (fun ls hl => ?_)
      refine lv_iconst (v := 1) hx hb d_L_otherwise_15 (by decide) ?_
      exact m_reti F hr hS (Nat.le_of_ble_eq_true rfl) (Nat.le_of_ble_eq_true rfl) (Or.inr (⟨rfl, hT⟩)) d_L_otherwise_16
  obtain ⟨v, rfl, h50⟩ := hRt _ _ hR
  refine W.eq (g2 := F0 m 8 ls [.int v, .int 0, .ref ou]) rfl ?_
  refine lv_i2l (v := v.toInt64) hx hb d_L_otherwise_8 rfl ?_
  refine r_last (k := 50) (i := 0) F hS h50 (vp_in_nI (n := 0) (by decide) (by decide)) d_L_otherwise_9 (fun H locs hS => ?_)
  rw [show (0 : Int32).toNatClampNeg = 0 from rfl] at hS
  have hS : HS G s (uV V1 50 0 (ou, aL G 1 (vp_updL g9 0 v.toInt64))) H _ := hS
  refine lv_goto (tgt := 17) hx hb d_L_otherwise_10 (by decide) ?_
  refine lv_iconst (v := 0) hx hb d_L_otherwise_17 (by decide) ?_
  exact m_reti F hr hS (Nat.le_of_ble_eq_true rfl) (Nat.le_of_ble_eq_true rfl) (Or.inl ⟨rfl, v, V1, hR, rfl⟩) d_L_otherwise_18
set_option maxHeartbeats 4000000 in
set_option maxRecDepth 100000 in
theorem k_L_divide (G : Gl) (l : Launch) (htr : l.stackTraces = false) (V : Vw) (a0 aE aK fA r0 r1 fb fl sh df : Nat) (mo dy qs hs lv he : Int32) (p0 p1 : Int32) {Rt : Option Value → Vw → Prop} {Th : String → Vw → Prop} (hM : Cx G l y_C_divide b_C_divide 3 (Option.some Jvm.ClassFile.FieldType.int) { frames := 6, cells := 1, slots := 6, locals := 90 } V [.ref a0, .int p0, .int p1] Rt Th) (hTh : ∀ E V', Th E V' → E = "java/lang/ArithmeticException") (ou : Nat) (g9 : Nat → Int64) (hRt : ∀ r V', Rt r V' → ∃ v : Int32, r = some (.int v) ∧ V' 50 0 = some (ou, aL G 1 g9)) (h0 : V 0 0 = some (a0, oC mo aE aK fA r0 r1 fb fl sh df dy qs hs lv he)) :
    Cw G l y_L_divide b_L_divide 5 (some .int) [(0, 10, 13, 76)] { frames := 7, cells := 1, slots := 6, locals := 112 } V [.ref a0, .int p0, .int p1, .ref ou] (fun rv V' => (rv = some (.int 0) ∧ ∃ (v : Int32) (V1 : Vw), Rt (some (.int v)) V1 ∧ V' = uV V1 50 0 (ou, aL G 1 (vp_updL g9 0 v.toInt64))) ∨ (rv = some (.int 1) ∧ Th "java/lang/ArithmeticException" V')) := by
  refine Cw.of htr (by decide) (Nat.le_of_ble_eq_true rfl) ?_
  intro p e s m args below meth c ls F hr htab hS hl
  obtain ⟨hx, hb, hml, hown, hts, hK, hlk, -⟩ := id F
  have hl : lv_has ls 5 [(0, .ref a0), (1, .int p0), (2, .int p1), (3, .ref ou)] := hl
  refine lv_aload_n hx hb d_L_divide_0 rfl (lv_at hl 3 rfl) ?_
  refine lv_iconst (v := 0) hx hb d_L_divide_1 (by decide) ?_
  refine lv_aload_n hx hb d_L_divide_2 rfl (lv_at hl 0 rfl) ?_
  refine lv_iload_n hx hb d_L_divide_3 rfl (lv_at hl 1 rfl) ?_
  refine lv_iload_n hx hb d_L_divide_4 rfl (lv_at hl 2 rfl) ?_
  refine r_xcallV (k := 0) (i := 0) (q := ("RuleClasses", T_C, 15)) (fs := [.int mo, .ref aE, .ref aK, .ref fA, .ref r0, .ref r1, .ref fb, .ref fl, .ref sh, .ref df, .int dy, .int qs, .int hs, .int lv, .int he]) (As := [.int p0, .int p1]) (rest := [.int 0, .ref ou]) F hS c_L_73 hM rfl h0 rfl hl.1 rfl (Nat.le_of_ble_eq_true rfl) d_L_divide_5 ⟨Nat.le_of_ble_eq_true rfl, Nat.le_of_ble_eq_true rfl⟩ ⟨Nat.le_of_ble_eq_true rfl, Nat.le_of_ble_eq_true rfl⟩ (fun q9 E9 ce V1 H locs hT hS hce => ?_) (fun rv V1 H locs hR hS => ?_)
  · rcases hTh _ _ hT with rfl
    · refine r_catch (x := (0, 10, 13, 76)) F htab [] [] rfl (fun _ h => absurd h List.not_mem_nil) (by decide) (by decide) m_630 (by decide +kernel) hce ?_
      refine lv_astore (lv' := [(4, .ref q9), (0, .ref a0), (1, .int p0), (2, .int p1), (3, .ref ou)]) hx hb d_L_divide_13 hl (by decide) rfl (fun ls hl => ?_)
      refine lv_iconst (v := 1) hx hb d_L_divide_15 (by decide) ?_
      exact m_reti F hr hS (Nat.le_of_ble_eq_true rfl) (Nat.le_of_ble_eq_true rfl) (Or.inr (⟨rfl, hT⟩)) d_L_divide_16
  obtain ⟨v, rfl, h50⟩ := hRt _ _ hR
  refine W.eq (g2 := F0 m 8 ls [.int v, .int 0, .ref ou]) rfl ?_
  refine lv_i2l (v := v.toInt64) hx hb d_L_divide_8 rfl ?_
  refine r_last (k := 50) (i := 0) F hS h50 (vp_in_nI (n := 0) (by decide) (by decide)) d_L_divide_9 (fun H locs hS => ?_)
  rw [show (0 : Int32).toNatClampNeg = 0 from rfl] at hS
  have hS : HS G s (uV V1 50 0 (ou, aL G 1 (vp_updL g9 0 v.toInt64))) H _ := hS
  refine lv_goto (tgt := 17) hx hb d_L_divide_10 (by decide) ?_
  refine lv_iconst (v := 0) hx hb d_L_divide_17 (by decide) ?_
  exact m_reti F hr hS (Nat.le_of_ble_eq_true rfl) (Nat.le_of_ble_eq_true rfl) (Or.inl ⟨rfl, v, V1, hR, rfl⟩) d_L_divide_18
set_option maxHeartbeats 4000000 in
set_option maxRecDepth 100000 in
theorem k_L_told (G : Gl) (l : Launch) (htr : l.stackTraces = false) (V : Vw) (a0 aE aK fA r0 r1 fb fl sh df : Nat) (mo dy qs hs lv he : Int32) (p0 p1 : Int32) {Rt : Option Value → Vw → Prop} {Th : String → Vw → Prop} (hM : Cx G l y_C_told b_C_told 4 (Option.some Jvm.ClassFile.FieldType.int) { frames := 8, cells := 2, slots := 12, locals := 132 } V [.ref a0, .int p0, .int p1] Rt Th) (hTh : ∀ E V', Th E V' → E = "java/util/NoSuchElementException" ∨ E = "java/lang/IllegalArgumentException") (ou : Nat) (g9 : Nat → Int64) (hRt : ∀ r V', Rt r V' → ∃ v : Int32, r = some (.int v) ∧ V' 50 0 = some (ou, aL G 1 g9)) (h0 : V 0 0 = some (a0, oC mo aE aK fA r0 r1 fb fl sh df dy qs hs lv he)) :
    Cw G l y_L_told b_L_told 5 (some .int) [(0, 10, 13, 24), (0, 10, 17, 13)] { frames := 9, cells := 2, slots := 12, locals := 155 } V [.ref a0, .int p0, .int p1, .ref ou] (fun rv V' => (rv = some (.int 0) ∧ ∃ (v : Int32) (V1 : Vw), Rt (some (.int v)) V1 ∧ V' = uV V1 50 0 (ou, aL G 1 (vp_updL g9 0 v.toInt64))) ∨ (rv = some (.int 1) ∧ Th "java/util/NoSuchElementException" V') ∨ (rv = some (.int 2) ∧ Th "java/lang/IllegalArgumentException" V')) := by
  refine Cw.of htr (by decide) (Nat.le_of_ble_eq_true rfl) ?_
  intro p e s m args below meth c ls F hr htab hS hl
  obtain ⟨hx, hb, hml, hown, hts, hK, hlk, -⟩ := id F
  have hl : lv_has ls 5 [(0, .ref a0), (1, .int p0), (2, .int p1), (3, .ref ou)] := hl
  refine lv_aload_n hx hb d_L_told_0 rfl (lv_at hl 3 rfl) ?_
  refine lv_iconst (v := 0) hx hb d_L_told_1 (by decide) ?_
  refine lv_aload_n hx hb d_L_told_2 rfl (lv_at hl 0 rfl) ?_
  refine lv_iload_n hx hb d_L_told_3 rfl (lv_at hl 1 rfl) ?_
  refine lv_iload_n hx hb d_L_told_4 rfl (lv_at hl 2 rfl) ?_
  refine r_xcallV (k := 0) (i := 0) (q := ("RuleClasses", T_C, 15)) (fs := [.int mo, .ref aE, .ref aK, .ref fA, .ref r0, .ref r1, .ref fb, .ref fl, .ref sh, .ref df, .int dy, .int qs, .int hs, .int lv, .int he]) (As := [.int p0, .int p1]) (rest := [.int 0, .ref ou]) F hS c_L_78 hM rfl h0 rfl hl.1 rfl (Nat.le_of_ble_eq_true rfl) d_L_told_5 ⟨Nat.le_of_ble_eq_true rfl, Nat.le_of_ble_eq_true rfl⟩ ⟨Nat.le_of_ble_eq_true rfl, Nat.le_of_ble_eq_true rfl⟩ (fun q9 E9 ce V1 H locs hT hS hce => ?_) (fun rv V1 H locs hR hS => ?_)
  · rcases hTh _ _ hT with rfl | rfl
    · refine r_catch (x := (0, 10, 13, 24)) F htab [] [(0, 10, 17, 13)] rfl (fun _ h => absurd h List.not_mem_nil) (by decide) (by decide) m_401 (by decide +kernel) hce ?_
      refine lv_astore (lv' := [(4, .ref q9), (0, .ref a0), (1, .int p0), (2, .int p1), (3, .ref ou)]) hx hb d_L_told_13 hl (by decide) rfl (fun ls hl => ?_)
      refine lv_iconst (v := 1) hx hb d_L_told_15 (by decide) ?_
      exact m_reti F hr hS (Nat.le_of_ble_eq_true rfl) (Nat.le_of_ble_eq_true rfl) (Or.inr (Or.inl ⟨rfl, hT⟩)) d_L_told_16
    · refine r_catch (x := (0, 10, 17, 13)) F htab [(0, 10, 13, 24)] [] rfl (List.forall_mem_cons.mpr ⟨⟨by decide, "java/util/NoSuchElementException", m_401, by decide, by decide, by decide⟩, fun _ h => absurd h List.not_mem_nil⟩) (by decide) (by decide) m_191 (by decide +kernel) hce ?_
      refine lv_astore (lv' := [(4, .ref q9), (0, .ref a0), (1, .int p0), (2, .int p1), (3, .ref ou)]) hx hb d_L_told_17 hl (by decide) rfl (fun ls hl => ?_)
      refine lv_iconst (v := 2) hx hb d_L_told_19 (by decide) ?_
      exact m_reti F hr hS (Nat.le_of_ble_eq_true rfl) (Nat.le_of_ble_eq_true rfl) (Or.inr (Or.inr (⟨rfl, hT⟩))) d_L_told_20
  obtain ⟨v, rfl, h50⟩ := hRt _ _ hR
  refine W.eq (g2 := F0 m 8 ls [.int v, .int 0, .ref ou]) rfl ?_
  refine lv_i2l (v := v.toInt64) hx hb d_L_told_8 rfl ?_
  refine r_last (k := 50) (i := 0) F hS h50 (vp_in_nI (n := 0) (by decide) (by decide)) d_L_told_9 (fun H locs hS => ?_)
  rw [show (0 : Int32).toNatClampNeg = 0 from rfl] at hS
  have hS : HS G s (uV V1 50 0 (ou, aL G 1 (vp_updL g9 0 v.toInt64))) H _ := hS
  refine lv_goto (tgt := 21) hx hb d_L_told_10 (by decide) ?_
  refine lv_iconst (v := 0) hx hb d_L_told_21 (by decide) ?_
  exact m_reti F hr hS (Nat.le_of_ble_eq_true rfl) (Nat.le_of_ble_eq_true rfl) (Or.inl ⟨rfl, v, V1, hR, rfl⟩) d_L_told_22

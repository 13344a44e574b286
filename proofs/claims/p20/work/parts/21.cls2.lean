set_option maxHeartbeats 4000000 in
set_option maxRecDepth 100000 in
theorem k_C_rule (G : Gl) (l : Launch) (htr : l.stackTraces = false) (V : Vw) (a0 aE aK fA r0 r1 fb fl sh df : Nat) (mo dy qs hs lv he : Int32) (ne : Nat) (ea oA cA : Nat → Nat) (ow ki ed md ak sk fk : Nat → Int32) (ln : Nat → Nat) (po cs : Nat → Nat → Int32) (hE : EV G V ne ea oA cA ow ki ed md ak sk fk ln po cs) (dE : Nat) (mcE : Int32) (hne : ne ≤ 24) (hLE : LV G V 0 aE dE ne ea mcE) (h14 : V 14 0 = none) (o k d : Int32) (h0 : V 0 0 = some (a0, oC mo aE aK fA r0 r1 fb fl sh df dy qs hs lv he)) :
    Cx G l y_C_rule b_C_rule 4 (Option.some Jvm.ClassFile.FieldType.int) { frames := 8, cells := 7, slots := 96, locals := 171 } V [.ref a0, .int o, .int k, .int d] (fun rv V' => rv = some (.int (nI ne)) ∧ ne < 24 ∧ (0 ≤ d ∧ d ≤ 1000) ∧ ∃ on kn qe oN cN q N : Nat, on ≤ 5 ∧ kn ≤ 2 ∧ o = nI on ∧ k = nI kn ∧ ne + 1 ≤ N ∧ N ≤ 36 ∧ V' = uV (uV (uV (uV (uV V 2 ne (oN, aI G 16 (fun _ => 0))) 3 ne (cN, aI G 16 (fun _ => 0))) 1 ne (qe, oE (nI on) (nI kn) d oN cN 0 0 0 0 0)) 9 0 (q, aQ G N (lF (ne + 1) (va_up ea ne qe)))) 8 0 (aE, oAl q (nI (ne + 1)) (mcE + 1))) (fun E V' => V' = V ∧ ((E = "java/lang/IllegalArgumentException" ∧ (((o < 0 ∨ 5 < o) ∨ (k < 0 ∨ 2 < k)) ∨ (d < 0 ∨ 1000 < d))) ∨ (E = "java/lang/UnsupportedOperationException" ∧ 24 ≤ ne ∧ (0 ≤ d ∧ d ≤ 1000) ∧ ∃ on kn : Nat, on ≤ 5 ∧ kn ≤ 2 ∧ o = nI on ∧ k = nI kn))) := by
  refine Cx.of htr (by decide) (Nat.le_of_ble_eq_true rfl) ?_
  intro p e s m args below meth c ls F hr hex hS hl
  obtain ⟨hx, hb, hml, hown, hts, hK, hlk, -⟩ := id F
  have hl : lv_has ls 4 [(0, .ref a0), (1, .int o), (2, .int k), (3, .int d)] := hl
  refine lv_iload_n hx hb d_C_rule_0 rfl (lv_at hl 1 rfl) ?_
  refine lv_iload_n hx hb d_C_rule_1 rfl (lv_at hl 2 rfl) ?_
  refine r_xcallS (As := [.int o, .int k]) (rest := []) F hS c_C_74 (k_C_requireOwnerAndKind G l htr V o k) rfl hl.1 rfl (Nat.le_of_ble_eq_true rfl) d_C_rule_2 ⟨Nat.le_of_ble_eq_true rfl, Nat.le_of_ble_eq_true rfl⟩ ⟨Nat.le_of_ble_eq_true rfl, Nat.le_of_ble_eq_true rfl⟩ (fun q9 E9 ce V1 H locs hT hS hce => ?_) (fun rv V1 H locs hR hS => ?_)
  · obtain ⟨rfl, hV, hbad⟩ := hT
    rw [hV] at hS
    exact x_out F hex hS hce ⟨rfl, Or.inl ⟨rfl, Or.inl hbad⟩⟩ (Nat.le_of_ble_eq_true rfl) (Nat.le_of_ble_eq_true rfl)
  obtain ⟨rfl, hV, on, kn, hon, hkn, rfl, rfl⟩ := hR
  rw [hV] at hS
  refine W.eq (g2 := F0 m 5 ls []) rfl ?_
  refine lv_iload_n hx hb d_C_rule_5 rfl (lv_at hl 3 rfl) ?_
  refine lv_iconst (v := 0) hx hb d_C_rule_6 (by decide) ?_
  refine lv_sipush (v := 1000) hx hb d_C_rule_7 (by decide) ?_
  refine r_xcallS (As := [.int d, .int 0, .int 1000]) (rest := []) F hS c_C_67 (k_C_requireRange G l htr V d 0 1000) rfl hl.1 rfl (Nat.le_of_ble_eq_true rfl) d_C_rule_10 ⟨Nat.le_of_ble_eq_true rfl, Nat.le_of_ble_eq_true rfl⟩ ⟨Nat.le_of_ble_eq_true rfl, Nat.le_of_ble_eq_true rfl⟩ (fun q9 E9 ce V1 H locs hT hS hce => ?_) (fun rv V1 H locs hR hS => ?_)
  · obtain ⟨rfl, hV, hbad⟩ := hT
    rw [hV] at hS
    exact x_out F hex hS hce ⟨rfl, Or.inl ⟨rfl, Or.inr hbad⟩⟩ (Nat.le_of_ble_eq_true rfl) (Nat.le_of_ble_eq_true rfl)
  obtain ⟨rfl, hV, hlo, hhi⟩ := hR
  rw [hV] at hS
  have hd := And.intro hlo hhi
  refine W.eq (g2 := F0 m 13 ls []) rfl ?_
  refine lv_aload_n hx hb d_C_rule_13 rfl (lv_at hl 0 rfl) ?_
  refine r_get (k := 0) (i := 0) F hS f_C_10.get h0 rfl d_C_rule_14 ?_
  refine r_callV (k := 8) (i := 0) (q := ("java/util/ArrayList", T_A, 3)) (fs := [.int mcE, .ref dE, .int (nI ne)]) (As := []) (rest := []) F hS c_C_78 (k_A_size G l htr V 0 aE dE ne mcE hLE.1) rfl hLE.1 rfl hl.1 rfl (Nat.le_of_ble_eq_true rfl) d_C_rule_17 ⟨Nat.le_of_ble_eq_true rfl, Nat.le_of_ble_eq_true rfl⟩ ⟨Nat.le_of_ble_eq_true rfl, Nat.le_of_ble_eq_true rfl⟩ (fun rv V1 H locs hR hS => ?_)
  obtain ⟨rfl, hV⟩ := hR
  rw [hV] at hS
  refine W.eq (g2 := F0 m 20 ls [.int (nI ne)]) rfl ?_
  refine lv_bipush (v := 24) hx hb d_C_rule_20 (by decide) ?_
  refine lv_icmp_lt (tgt := 35) hx hb d_C_rule_22 (by decide) (fun c_22 => ?_) (fun c_22 => ?_)
  · have h24 : ne < 24 := (nI_ltI (by omega) (by decide)).mp (show nI ne < nI 24 from c_22)
    refine lv_aload_n hx hb d_C_rule_35 rfl (lv_at hl 0 rfl) ?_
    refine r_get (k := 0) (i := 0) F hS f_C_10.get h0 rfl d_C_rule_36 ?_
    refine r_new F hS 1 ne (ci := 2) (N := 10) rfl uw_E ty_E tyk_E m_180 m_300 m_14 (fs := [.int 0, .int 0, .int 0, .null, .null, .int 0, .int 0, .int 0, .int 0, .int 0]) (by decide) (Nat.le_of_ble_eq_true rfl) (Nat.le_of_ble_eq_true rfl) d_C_rule_39 (fun qe H hS => ?_)
    have hS : HS G s (uV V 1 ne (qe, .inr (2, [.int 0, .int 0, .int 0, .null, .null, .int 0, .int 0, .int 0, .int 0, .int 0]))) H _ := hS
    refine lv_dup hx hb d_C_rule_42 rfl ?_
    refine lv_iload_n hx hb d_C_rule_43 rfl (lv_at hl 1 rfl) ?_
    refine lv_iload_n hx hb d_C_rule_44 rfl (lv_at hl 2 rfl) ?_
    refine lv_iload_n hx hb d_C_rule_45 rfl (lv_at hl 3 rfl) ?_
    refine r_callI (b := qe) (As := [.int (nI on), .int (nI kn), .int d]) (rest := [.ref qe, .ref aE]) F hS c_C_91 (k_E_init G l htr (uV V 1 ne (qe, .inr (2, [.int 0, .int 0, .int 0, .null, .null, .int 0, .int 0, .int 0, .int 0, .int 0]))) ne qe (nI on) (nI kn) d (uV_self _ _ _ _)) rfl hl.1 rfl (Nat.le_of_ble_eq_true rfl) d_C_rule_46 ⟨Nat.le_of_ble_eq_true rfl, Nat.le_of_ble_eq_true rfl⟩ ⟨Nat.le_of_ble_eq_true rfl, Nat.le_of_ble_eq_true rfl⟩ (fun rv V1 H locs hR hS => ?_)
    obtain ⟨rfl, oN, cN, rfl⟩ := hR
    rw [uV_cm (k := 1) (k2 := 2) _ _ _ (by omega), uV_cm (k := 1) (k2 := 3) _ _ _ (by omega), uV_uV] at hS
    refine W.eq (g2 := F0 m 49 ls [.ref qe, .ref aE]) rfl ?_
    refine r_callV (k := 8) (i := 0) (q := ("java/util/ArrayList", T_A, 3)) (fs := [.int mcE, .ref dE, .int (nI ne)]) (As := [.ref qe]) (rest := []) F hS c_C_93 (k_A_add G l htr (uV (uV (uV V 2 ne (oN, aI G 16 (fun _ => 0))) 3 ne (cN, aI G 16 (fun _ => 0))) 1 ne (qe, oE (nI on) (nI kn) d oN cN 0 0 0 0 0)) 0 aE dE ne 2 ea mcE ec_E (fun j hj => ⟨1, j, _, by decide, ((uV_ne (by omega)).trans ((uV_ne (by omega)).trans ((uV_ne (by omega)).trans (hE j hj).1)))⟩) h14 hne qe 1 ne _ (by decide) (uV_self _ _ _ _) hLE.2 hLE.1) rfl hLE.1 rfl hl.1 rfl (Nat.le_of_ble_eq_true rfl) d_C_rule_49 ⟨Nat.le_of_ble_eq_true rfl, Nat.le_of_ble_eq_true rfl⟩ ⟨Nat.le_of_ble_eq_true rfl, Nat.le_of_ble_eq_true rfl⟩ (fun rv V1 H locs hR hS => ?_)
    obtain ⟨rfl, q, N, hN1, hN2, rfl⟩ := hR
    refine W.eq (g2 := F0 m 52 ls [.int 1]) rfl ?_
    refine lv_pop hx hb d_C_rule_52 rfl ?_
    refine lv_aload_n hx hb d_C_rule_53 rfl (lv_at hl 0 rfl) ?_
    refine r_get (k := 0) (i := 0) F hS f_C_10.get h0 rfl d_C_rule_54 ?_
    refine r_callV (k := 8) (i := 0) (q := ("java/util/ArrayList", T_A, 3)) (fs := [.int (mcE + 1), .ref q, .int (nI (ne + 1))]) (As := []) (rest := []) F hS c_C_78 (k_A_size G l htr (uV (uV (uV (uV (uV V 2 ne (oN, aI G 16 (fun _ => 0))) 3 ne (cN, aI G 16 (fun _ => 0))) 1 ne (qe, oE (nI on) (nI kn) d oN cN 0 0 0 0 0)) 9 0 (q, aQ G N (lF (ne + 1) (va_up ea ne qe)))) 8 0 (aE, oAl q (nI (ne + 1)) (mcE + 1))) 0 aE q (ne + 1) (mcE + 1) (uV_self _ _ _ _)) rfl (uV_self _ _ _ _) rfl hl.1 rfl (Nat.le_of_ble_eq_true rfl) d_C_rule_57 ⟨Nat.le_of_ble_eq_true rfl, Nat.le_of_ble_eq_true rfl⟩ ⟨Nat.le_of_ble_eq_true rfl, Nat.le_of_ble_eq_true rfl⟩ (fun rv V1 H locs hR hS => ?_)
    obtain ⟨rfl, hV⟩ := hR
    rw [hV] at hS
    refine W.eq (g2 := F0 m 60 ls [.int (nI (ne + 1))]) rfl ?_
    refine lv_iconst (v := 1) hx hb d_C_rule_60 (by decide) ?_
    refine lv_isub hx hb d_C_rule_61 ?_
    rw [nI_pred]
    exact vx_ret (m_reti F hr hS (Nat.le_of_ble_eq_true rfl) (Nat.le_of_ble_eq_true rfl) ⟨rfl, h24, hd, on, kn, qe, oN, cN, q, N, hon, hkn, rfl, rfl, hN1, hN2, rfl⟩ d_C_rule_62)
  · exact r_throw F hex hS tw_UnsupportedOperationException (List.mem_of_getElem? (i := 1) rfl) hl.1 d_C_rule_25 d_C_rule_28 d_C_rule_29 d_C_rule_31 d_C_rule_34 (Nat.le_of_ble_eq_true rfl) (Nat.le_of_ble_eq_true rfl) (Nat.le_of_ble_eq_true rfl) (Nat.le_of_ble_eq_true rfl) (Nat.le_of_ble_eq_true rfl) (Nat.le_of_ble_eq_true rfl) (⟨rfl, Or.inr ⟨rfl, (nI_leI (by decide) (by omega)).mp (show nI 24 ≤ nI ne from Int32.not_lt.mp c_22), hd, on, kn, hon, hkn, rfl, rfl⟩⟩)
set_option maxHeartbeats 4000000 in
set_option maxRecDepth 100000 in
theorem k_C_keep (G : Gl) (l : Launch) (htr : l.stackTraces = false) (V : Vw) (a0 aE aK fA r0 r1 fb fl sh df : Nat) (mo dy qs hs lv he : Int32) (nk dK : Nat) (fK vK : Nat → Nat) (kf : Nat → Nat → Int32) (mcK : Int32) (hnk : nk ≤ 8) (hKV : KV G V nk fK vK kf) (hLK : LV G V 1 aK dK nk fK mcK) (h15 : V 14 1 = none) (vA : Nat) (fa : Nat → Int32) (h0 : V 0 0 = some (a0, oC mo aE aK fA r0 r1 fb fl sh df dy qs hs lv he)) (h6 : V 6 0 = some (fA, oF vA)) (h7 : V 7 0 = some (vA, aI G 8 fa)) :
    Cx G l y_C_keep b_C_keep 1 (Option.some Jvm.ClassFile.FieldType.int) { frames := 7, cells := 3, slots := 45, locals := 171 } V [.ref a0] (fun rv V' => rv = some (.int (nI (nk + 1))) ∧ nk < 8 ∧ ∃ fB vB q N : Nat, nk + 1 ≤ N ∧ N ≤ 36 ∧ V' = uV (uV (uV (uV V 7 (nk + 1) (vB, aI G 8 (va_cpy fa (fun _ => 0) 0 0 8))) 6 (nk + 1) (fB, oF vB)) 9 1 (q, aQ G N (lF (nk + 1) (va_up fK nk fB)))) 8 1 (aK, oAl q (nI (nk + 1)) (mcK + 1))) (fun E V' => E = "java/lang/UnsupportedOperationException" ∧ V' = V ∧ 8 ≤ nk) := by
  refine Cx.of htr (by decide) (Nat.le_of_ble_eq_true rfl) ?_
  intro p e s m args below meth c ls F hr hex hS hl
  obtain ⟨hx, hb, hml, hown, hts, hK, hlk, -⟩ := id F
  have hl : lv_has ls 1 [(0, .ref a0)] := hl
  refine lv_aload_n hx hb d_C_keep_0 rfl (lv_at hl 0 rfl) ?_
  refine r_get (k := 0) (i := 0) F hS f_C_16.get h0 rfl d_C_keep_1 ?_
  refine r_callV (k := 8) (i := 1) (q := ("java/util/ArrayList", T_A, 3)) (fs := [.int mcK, .ref dK, .int (nI nk)]) (As := []) (rest := []) F hS c_C_78 (k_A_size G l htr V 1 aK dK nk mcK hLK.1) rfl hLK.1 rfl hl.1 rfl (Nat.le_of_ble_eq_true rfl) d_C_keep_4 ⟨Nat.le_of_ble_eq_true rfl, Nat.le_of_ble_eq_true rfl⟩ ⟨Nat.le_of_ble_eq_true rfl, Nat.le_of_ble_eq_true rfl⟩ (fun rv V1 H locs hR hS => ?_)
  obtain ⟨rfl, hV⟩ := hR
  rw [hV] at hS
  refine W.eq (g2 := F0 m 7 ls [.int (nI nk)]) rfl ?_
  refine lv_bipush (v := 8) hx hb d_C_keep_7 (by decide) ?_
  refine lv_icmp_lt (tgt := 22) hx hb d_C_keep_9 (by decide) (fun c_9 => ?_) (fun c_9 => ?_)
  · have h8 : nk < 8 := (nI_ltI (by omega) (by decide)).mp (show nI nk < nI 8 from c_9)
    refine lv_aload_n hx hb d_C_keep_22 rfl (lv_at hl 0 rfl) ?_
    refine r_get (k := 0) (i := 0) F hS f_C_16.get h0 rfl d_C_keep_23 ?_
    refine lv_aload_n hx hb d_C_keep_26 rfl (lv_at hl 0 rfl) ?_
    refine r_get (k := 0) (i := 0) F hS f_C_22.get h0 rfl d_C_keep_27 ?_
    refine r_callV (k := 6) (i := 0) (q := ("RuleClasses$Facts", T_F, 1)) (fs := [.ref vA]) (As := []) (rest := [.ref aK]) F hS c_C_184 (k_F_copy G l htr V nk fA vA fa h6 h7) rfl h6 rfl hl.1 rfl (Nat.le_of_ble_eq_true rfl) d_C_keep_30 ⟨Nat.le_of_ble_eq_true rfl, Nat.le_of_ble_eq_true rfl⟩ ⟨Nat.le_of_ble_eq_true rfl, Nat.le_of_ble_eq_true rfl⟩ (fun rv V1 H locs hR hS => ?_)
    obtain ⟨fB, vB, rfl, rfl⟩ := hR
    refine W.eq (g2 := F0 m 33 ls [.ref fB, .ref aK]) rfl ?_
    refine r_callV (k := 8) (i := 1) (q := ("java/util/ArrayList", T_A, 3)) (fs := [.int mcK, .ref dK, .int (nI nk)]) (As := [.ref fB]) (rest := []) F hS c_C_93 (k_A_add G l htr (uV (uV V 7 (nk + 1) (vB, aI G 8 (va_cpy fa (fun _ => 0) 0 0 8))) 6 (nk + 1) (fB, oF vB)) 1 aK dK nk 3 fK mcK ec_F (fun j hj => ⟨6, j + 1, _, by decide, (uV_ne (by omega)).trans ((uV_ne (by omega)).trans (hKV j hj).1)⟩) h15 (by omega) fB 6 (nk + 1) _ (by decide) (uV_self _ _ _ _) hLK.2 hLK.1) rfl hLK.1 rfl hl.1 rfl (Nat.le_of_ble_eq_true rfl) d_C_keep_33 ⟨Nat.le_of_ble_eq_true rfl, Nat.le_of_ble_eq_true rfl⟩ ⟨Nat.le_of_ble_eq_true rfl, Nat.le_of_ble_eq_true rfl⟩ (fun rv V1 H locs hR hS => ?_)
    obtain ⟨rfl, q, N, hN1, hN2, rfl⟩ := hR
    refine W.eq (g2 := F0 m 36 ls [.int 1]) rfl ?_
    refine lv_pop hx hb d_C_keep_36 rfl ?_
    refine lv_aload_n hx hb d_C_keep_37 rfl (lv_at hl 0 rfl) ?_
    refine r_get (k := 0) (i := 0) F hS f_C_16.get h0 rfl d_C_keep_38 ?_
    refine r_callV (k := 8) (i := 1) (q := ("java/util/ArrayList", T_A, 3)) (fs := [.int (mcK + 1), .ref q, .int (nI (nk + 1))]) (As := []) (rest := []) F hS c_C_78 (k_A_size G l htr (uV (uV (uV (uV V 7 (nk + 1) (vB, aI G 8 (va_cpy fa (fun _ => 0) 0 0 8))) 6 (nk + 1) (fB, oF vB)) 9 1 (q, aQ G N (lF (nk + 1) (va_up fK nk fB)))) 8 1 (aK, oAl q (nI (nk + 1)) (mcK + 1))) 1 aK q (nk + 1) (mcK + 1) (uV_self _ _ _ _)) rfl (uV_self _ _ _ _) rfl hl.1 rfl (Nat.le_of_ble_eq_true rfl) d_C_keep_41 ⟨Nat.le_of_ble_eq_true rfl, Nat.le_of_ble_eq_true rfl⟩ ⟨Nat.le_of_ble_eq_true rfl, Nat.le_of_ble_eq_true rfl⟩ (fun rv V1 H locs hR hS => ?_)
    obtain ⟨rfl, hV⟩ := hR
    rw [hV] at hS
    refine W.eq (g2 := F0 m 44 ls [.int (nI (nk + 1))]) rfl ?_
    exact vx_ret (m_reti F hr hS (Nat.le_of_ble_eq_true rfl) (Nat.le_of_ble_eq_true rfl) ⟨rfl, h8, fB, vB, q, N, hN1, hN2, rfl⟩ d_C_keep_44)
  · exact r_throw F hex hS tw_UnsupportedOperationException (List.mem_of_getElem? (i := 8) rfl) hl.1 d_C_keep_12 d_C_keep_15 d_C_keep_16 d_C_keep_18 d_C_keep_21 (Nat.le_of_ble_eq_true rfl) (Nat.le_of_ble_eq_true rfl) (Nat.le_of_ble_eq_true rfl) (Nat.le_of_ble_eq_true rfl) (Nat.le_of_ble_eq_true rfl) (Nat.le_of_ble_eq_true rfl) (⟨rfl, rfl, (nI_leI (by decide) (by omega)).mp (show nI 8 ≤ nI nk from Int32.not_lt.mp c_9)⟩)
set_option maxHeartbeats 4000000 in
set_option maxRecDepth 100000 in
theorem lp_C_countingEdition (G : Gl) (l : Launch) (htr : l.stackTraces = false) (V : Vw) (a0 aE aK fA r0 r1 fb fl sh df : Nat) (mo dy qs hs lv he : Int32) (ne : Nat) (ea oA cA : Nat → Nat) (ow ki ed md ak sk fk : Nat → Int32) (ln : Nat → Nat) (po cs : Nat → Nat → Int32) (hE : EV G V ne ea oA cA ow ki ed md ak sk fk ln po cs) (dE : Nat) (mcE : Int32) (hne : ne ≤ 24) (hLE : LV G V 0 aE dE ne ea mcE) (o k d : Int32) (h0 : V 0 0 = some (a0, oC mo aE aK fA r0 r1 fb fl sh df dy qs hs lv he)) {Rt : Option Value → Vw → Prop} {p : Program} {e : Env} {s : State} {m : MethodId} {args : Array Value} {below : List Frame} {meth : Method} {c : Code} (F : Bd G p l s m args meth c b_C_countingEdition 8 "RuleClasses") (hr : meth.sig.returnType = (Option.some Jvm.ClassFile.FieldType.int)) (hq : Rt (some (.int (pCnt ow ki ed md o k d ne).1)) V) :
    ∀ (n j : Nat), j + n = ne → ∀ (H : Heap) (locs : List Loc) (ls : Array Slot), HS G s V H locs → lv_has ls 8 [(0, .ref a0), (1, .int o), (2, .int k), (3, .int d), (4, .int ((pCnt ow ki ed md o k d j).1)), (5, .int ((pCnt ow ki ed md o k d j).2)), (6, .int (nI j))] →
      W p l e ({ frames := 3, cells := 0, slots := 0, locals := 64 } : Room) s m args below meth c H locs 0 0 (MQ below (QcC G Rt) args s ({ frames := 3, cells := 0, slots := 0, locals := 64 } : Room).cells ({ frames := 3, cells := 0, slots := 0, locals := 64 } : Room).slots (aB G)) (F0 m 9 ls []) := by
  obtain ⟨hx, hb, hml, hown, hts, hK, hlk, -⟩ := id F
  intro n
  induction n with
  | zero =>
    intro j hjn H locs ls hS hl
    obtain rfl : ne = j := by omega
    refine lv_iload hx hb d_C_countingEdition_9 (lv_at hl 6 rfl) ?_
    refine lv_aload_n hx hb d_C_countingEdition_11 rfl (lv_at hl 0 rfl) ?_
    refine r_get (k := 0) (i := 0) F hS f_C_10.get h0 rfl d_C_countingEdition_12 ?_
    refine r_callV (k := 8) (i := 0) (q := ("java/util/ArrayList", T_A, 3)) (fs := [.int mcE, .ref dE, .int (nI ne)]) (As := []) (rest := [.int (nI ne)]) F hS c_C_78 (k_A_size G l htr V 0 aE dE ne mcE hLE.1) rfl hLE.1 rfl hl.1 rfl (Nat.le_of_ble_eq_true rfl) d_C_countingEdition_15 ⟨Nat.le_of_ble_eq_true rfl, Nat.le_of_ble_eq_true rfl⟩ ⟨Nat.le_of_ble_eq_true rfl, Nat.le_of_ble_eq_true rfl⟩ (fun rv V1 H locs hR hS => ?_)
    obtain ⟨rfl, hV⟩ := hR
    rw [hV] at hS
    refine W.eq (g2 := F0 m 18 ls [.int (nI ne), .int (nI ne)]) rfl ?_
    refine lv_icmp_ge (tgt := 73) hx hb d_C_countingEdition_18 (by decide) (fun c_18 => ?_) (fun c_18 => absurd (nI_le (by omega) (by omega)) c_18)
    refine lv_iload hx hb d_C_countingEdition_73 (lv_at hl 4 rfl) ?_
    exact m_reti F hr hS (Nat.le_of_ble_eq_true rfl) (Nat.le_of_ble_eq_true rfl) hq d_C_countingEdition_75
  | succ n ih =>
    intro j hjn H locs ls hS hl
    have hj : j < ne := by omega
    refine lv_iload hx hb d_C_countingEdition_9 (lv_at hl 6 rfl) ?_
    refine lv_aload_n hx hb d_C_countingEdition_11 rfl (lv_at hl 0 rfl) ?_
    refine r_get (k := 0) (i := 0) F hS f_C_10.get h0 rfl d_C_countingEdition_12 ?_
    refine r_callV (k := 8) (i := 0) (q := ("java/util/ArrayList", T_A, 3)) (fs := [.int mcE, .ref dE, .int (nI ne)]) (As := []) (rest := [.int (nI j)]) F hS c_C_78 (k_A_size G l htr V 0 aE dE ne mcE hLE.1) rfl hLE.1 rfl hl.1 rfl (Nat.le_of_ble_eq_true rfl) d_C_countingEdition_15 ⟨Nat.le_of_ble_eq_true rfl, Nat.le_of_ble_eq_true rfl⟩ ⟨Nat.le_of_ble_eq_true rfl, Nat.le_of_ble_eq_true rfl⟩ (fun rv V1 H locs hR hS => ?_)
    obtain ⟨rfl, hV⟩ := hR
    rw [hV] at hS
    refine W.eq (g2 := F0 m 18 ls [.int (nI ne), .int (nI j)]) rfl ?_
    refine lv_icmp_ge (tgt := 73) hx hb d_C_countingEdition_18 (by decide) (fun c_18 => absurd c_18 (nI_ge (by omega) (by omega))) (fun c_18 => ?_)
    refine lv_aload_n hx hb d_C_countingEdition_21 rfl (lv_at hl 0 rfl) ?_
    refine r_get (k := 0) (i := 0) F hS f_C_10.get h0 rfl d_C_countingEdition_22 ?_
    refine lv_iload hx hb d_C_countingEdition_25 (lv_at hl 6 rfl) ?_
    obtain ⟨cap, hcap0, hcap1, hcap2, hc9⟩ : ∃ cap : Nat, 0 < cap ∧ ne ≤ cap ∧ cap ≤ 36 ∧ V 9 0 = some (dE, aQ G cap (lF ne ea)) := hLE.2.resolve_left (fun z => by have z1 := z.1; omega)
    refine r_callV (k := 8) (i := 0) (q := ("java/util/ArrayList", T_A, 3)) (fs := [.int mcE, .ref dE, .int (nI ne)]) (As := [.int (nI j)]) (rest := []) F hS c_C_144 (k_A_get G l htr V 0 aE dE ne cap j ea mcE hj hcap1 hcap2 hLE.1 hc9) rfl hLE.1 rfl hl.1 rfl (Nat.le_of_ble_eq_true rfl) d_C_countingEdition_27 ⟨Nat.le_of_ble_eq_true rfl, Nat.le_of_ble_eq_true rfl⟩ ⟨Nat.le_of_ble_eq_true rfl, Nat.le_of_ble_eq_true rfl⟩ (fun rv V1 H locs hR hS => ?_)
    obtain ⟨rfl, hV⟩ := hR
    rw [hV] at hS
    refine W.eq (g2 := F0 m 30 ls [.ref (ea j)]) rfl ?_
    refine r_cast (k := 1) (i := j) F hS (q := ("RuleClasses$Edition", T_E, 10)) (fs := [.int (ow j), .int (ki j), .int (ed j), .ref (oA j), .ref (cA j), .int (nI (ln j)), .int (md j), .int (ak j), .int (sk j), .int (fk j)]) rfl (hE j hj).1 m_180 d_C_countingEdition_30 ?_
    refine lv_astore (lv' := [(7, .ref (ea j)), (0, .ref a0), (1, .int o), (2, .int k), (3, .int d), (4, .int ((pCnt ow ki ed md o k d j).1)), (5, .int ((pCnt ow ki ed md o k d j).2)), (6, .int (nI j))]) hx hb d_C_countingEdition_33 hl (by decide) rfl (fun ls hl => ?_)
    refine lv_aload hx hb d_C_countingEdition_35 (lv_at hl 0 rfl) ?_
    refine lv_iload_n hx hb d_C_countingEdition_37 rfl (lv_at hl 2 rfl) ?_
    refine lv_iload_n hx hb d_C_countingEdition_38 rfl (lv_at hl 3 rfl) ?_
    refine lv_iload_n hx hb d_C_countingEdition_39 rfl (lv_at hl 4 rfl) ?_
    refine r_callV (k := 1) (i := j) (q := ("RuleClasses$Edition", T_E, 10)) (fs := [.int (ow j), .int (ki j), .int (ed j), .ref (oA j), .ref (cA j), .int (nI (ln j)), .int (md j), .int (ak j), .int (sk j), .int (fk j)]) (As := [.int o, .int k, .int d]) (rest := []) F hS c_C_225 (k_E_countsFor G l htr V j (ea j) (oA j) (cA j) (ow j) (ki j) (ed j) (md j) (ak j) (sk j) (fk j) (ln j) o k d (hE j hj).1) rfl (hE j hj).1 rfl hl.1 rfl (Nat.le_of_ble_eq_true rfl) d_C_countingEdition_40 ⟨Nat.le_of_ble_eq_true rfl, Nat.le_of_ble_eq_true rfl⟩ ⟨Nat.le_of_ble_eq_true rfl, Nat.le_of_ble_eq_true rfl⟩ (fun rv V1 H locs hR hS => ?_)
    obtain ⟨rfl, hV⟩ := hR
    rw [hV] at hS
    refine W.eq (g2 := F0 m 43 ls [.int (if ¬ md j = 0 ∧ ow j = o ∧ ki j = k ∧ ed j ≤ d then (1 : Int32) else 0)]) rfl ?_
    refine lv_if_eq (tgt := 67) hx hb d_C_countingEdition_43 (by decide) (fun c_43 => ?_) (fun c_43 => ?_)
    · have hcf : ¬ (¬ md j = 0 ∧ ow j = o ∧ ki j = k ∧ ed j ≤ d) := fun z => by rw [if_pos z] at c_43; exact absurd c_43 (by decide)
      refine lv_iinc (v := (nI (j + 1))) (lv' := [(6, .int (nI (j + 1))), (7, .ref (ea j)), (0, .ref a0), (1, .int o), (2, .int k), (3, .int d), (4, .int ((pCnt ow ki ed md o k d j).1)), (5, .int ((pCnt ow ki ed md o k d j).2))]) hx hb d_C_countingEdition_67 hl (k := 7) rfl (nI_1 j) (by decide) rfl (fun ls hl => ?_)
      refine lv_goto (tgt := 9) hx hb d_C_countingEdition_70 (by decide) ?_
      have hp := (show pCnt ow ki ed md o k d (j + 1) = pCnt ow ki ed md o k d j from if_neg (fun z => hcf z.1))
      exact ih (j + 1) (by omega) _ _ _ hS (by rw [hp]; exact lv_sub hl [2, 3, 4, 5, 6, 7, 0] rfl)
    · have hcf : ¬ md j = 0 ∧ ow j = o ∧ ki j = k ∧ ed j ≤ d := by
        by_cases z : ¬ md j = 0 ∧ ow j = o ∧ ki j = k ∧ ed j ≤ d
        · exact z
        · rw [if_neg z] at c_43
          exact absurd rfl c_43
      refine lv_aload hx hb d_C_countingEdition_46 (lv_at hl 0 rfl) ?_
      refine r_get (k := 1) (i := j) F hS f_C_229 (hE j hj).1 rfl d_C_countingEdition_48 ?_
      refine lv_iload hx hb d_C_countingEdition_51 (lv_at hl 6 rfl) ?_
      refine lv_icmp_lt (tgt := 67) hx hb d_C_countingEdition_53 (by decide) (fun c_53 => ?_) (fun c_53 => ?_)
      · refine lv_iinc (v := (nI (j + 1))) (lv' := [(6, .int (nI (j + 1))), (7, .ref (ea j)), (0, .ref a0), (1, .int o), (2, .int k), (3, .int d), (4, .int ((pCnt ow ki ed md o k d j).1)), (5, .int ((pCnt ow ki ed md o k d j).2))]) hx hb d_C_countingEdition_67 hl (k := 7) rfl (nI_1 j) (by decide) rfl (fun ls hl => ?_)
        refine lv_goto (tgt := 9) hx hb d_C_countingEdition_70 (by decide) ?_
        have hp := (show pCnt ow ki ed md o k d (j + 1) = pCnt ow ki ed md o k d j from if_neg (fun z => absurd c_53 (Int32.not_lt.mpr z.2)))
        exact ih (j + 1) (by omega) _ _ _ hS (by rw [hp]; exact lv_sub hl [2, 3, 4, 5, 6, 7, 0] rfl)
      · refine lv_iload hx hb d_C_countingEdition_56 (lv_at hl 7 rfl) ?_
        refine lv_istore (lv' := [(4, .int (nI j)), (7, .ref (ea j)), (0, .ref a0), (1, .int o), (2, .int k), (3, .int d), (5, .int ((pCnt ow ki ed md o k d j).2)), (6, .int (nI j))]) hx hb d_C_countingEdition_58 hl (by decide) rfl (fun ls hl => ?_)
        refine lv_aload hx hb d_C_countingEdition_60 (lv_at hl 1 rfl) ?_
        refine r_get (k := 1) (i := j) F hS f_C_229 (hE j hj).1 rfl d_C_countingEdition_62 ?_
        refine lv_istore (lv' := [(5, .int (ed j)), (4, .int (nI j)), (7, .ref (ea j)), (0, .ref a0), (1, .int o), (2, .int k), (3, .int d), (6, .int (nI j))]) hx hb d_C_countingEdition_65 hl (by decide) rfl (fun ls hl => ?_)
        refine lv_iinc (v := (nI (j + 1))) (lv' := [(6, .int (nI (j + 1))), (5, .int (ed j)), (4, .int (nI j)), (7, .ref (ea j)), (0, .ref a0), (1, .int o), (2, .int k), (3, .int d)]) hx hb d_C_countingEdition_67 hl (k := 7) rfl (nI_1 j) (by decide) rfl (fun ls hl => ?_)
        refine lv_goto (tgt := 9) hx hb d_C_countingEdition_70 (by decide) ?_
        have hp := (show pCnt ow ki ed md o k d (j + 1) = (nI j, ed j) from if_pos ⟨hcf, Int32.not_lt.mp c_53⟩)
        exact ih (j + 1) (by omega) _ _ _ hS (by rw [hp]; exact lv_sub hl [4, 5, 6, 7, 2, 1, 0] rfl)
set_option maxHeartbeats 4000000 in
set_option maxRecDepth 100000 in
theorem k_C_countingEdition (G : Gl) (l : Launch) (htr : l.stackTraces = false) (V : Vw) (a0 aE aK fA r0 r1 fb fl sh df : Nat) (mo dy qs hs lv he : Int32) (ne : Nat) (ea oA cA : Nat → Nat) (ow ki ed md ak sk fk : Nat → Int32) (ln : Nat → Nat) (po cs : Nat → Nat → Int32) (hE : EV G V ne ea oA cA ow ki ed md ak sk fk ln po cs) (dE : Nat) (mcE : Int32) (hne : ne ≤ 24) (hLE : LV G V 0 aE dE ne ea mcE) (o k d : Int32) (h0 : V 0 0 = some (a0, oC mo aE aK fA r0 r1 fb fl sh df dy qs hs lv he)) :
    Cm G l y_C_countingEdition b_C_countingEdition 8 (Option.some Jvm.ClassFile.FieldType.int) { frames := 3, cells := 0, slots := 0, locals := 64 } V [.ref a0, .int o, .int k, .int d] (fun rv V' => rv = some (.int (pCnt ow ki ed md o k d ne).1) ∧ V' = V) := by
  refine Cm.of htr (by decide) (Nat.le_of_ble_eq_true rfl) ?_
  intro p e s m args below meth c ls F hr hnm hS hl
  obtain ⟨hx, hb, hml, hown, hts, hK, hlk, -⟩ := id F
  have hl : lv_has ls 8 [(0, .ref a0), (1, .int o), (2, .int k), (3, .int d)] := hl
  refine lv_iconst (v := (-1)) hx hb d_C_countingEdition_0 (by decide) ?_
  refine lv_istore (lv' := [(4, .int (-1)), (0, .ref a0), (1, .int o), (2, .int k), (3, .int d)]) hx hb d_C_countingEdition_1 hl (by decide) rfl (fun ls hl => ?_)
  refine lv_iconst (v := 0) hx hb d_C_countingEdition_3 (by decide) ?_
  refine lv_istore (lv' := [(5, .int 0), (4, .int (-1)), (0, .ref a0), (1, .int o), (2, .int k), (3, .int d)]) hx hb d_C_countingEdition_4 hl (by decide) rfl (fun ls hl => ?_)
  refine lv_iconst (v := 0) hx hb d_C_countingEdition_6 (by decide) ?_
  refine lv_istore (lv' := [(6, .int 0), (5, .int 0), (4, .int (-1)), (0, .ref a0), (1, .int o), (2, .int k), (3, .int d)]) hx hb d_C_countingEdition_7 hl (by decide) rfl (fun ls hl => ?_)
  exact lp_C_countingEdition G l htr V a0 aE aK fA r0 r1 fb fl sh df mo dy qs hs lv he ne ea oA cA ow ki ed md ak sk fk ln po cs hE dE mcE hne hLE o k d h0 F hr ⟨rfl, rfl⟩ ne 0 (by omega) _ _ _ hS (lv_sub hl [3, 4, 5, 6, 2, 1, 0] rfl)
set_option maxHeartbeats 4000000 in
set_option maxRecDepth 100000 in
theorem k_C_edition (G : Gl) (l : Launch) (htr : l.stackTraces = false) (V : Vw) (a0 aE aK fA r0 r1 fb fl sh df : Nat) (mo dy qs hs lv he : Int32) (ne : Nat) (ea oA cA : Nat → Nat) (ow ki ed md ak sk fk : Nat → Int32) (ln : Nat → Nat) (po cs : Nat → Nat → Int32) (hE : EV G V ne ea oA cA ow ki ed md ak sk fk ln po cs) (dE : Nat) (mcE : Int32) (hne : ne ≤ 24) (hLE : LV G V 0 aE dE ne ea mcE) (o k d : Int32) (h0 : V 0 0 = some (a0, oC mo aE aK fA r0 r1 fb fl sh df dy qs hs lv he)) :
    Cx G l y_C_edition b_C_edition 4 (Option.some Jvm.ClassFile.FieldType.int) { frames := 8, cells := 3, slots := 18, locals := 133 } V [.ref a0, .int o, .int k, .int d] (fun rv V' => V' = V ∧ (0 ≤ d ∧ d ≤ 1000) ∧ ∃ on kn : Nat, on ≤ 5 ∧ kn ≤ 2 ∧ o = nI on ∧ k = nI kn ∧ rv = some (.int (pCnt ow ki ed md (nI on) (nI kn) d ne).1)) (fun E V' => E = "java/lang/IllegalArgumentException" ∧ V' = V ∧ (((o < 0 ∨ 5 < o) ∨ (k < 0 ∨ 2 < k)) ∨ (d < 0 ∨ 1000 < d))) := by
  refine Cx.of htr (by decide) (Nat.le_of_ble_eq_true rfl) ?_
  intro p e s m args below meth c ls F hr hex hS hl
  obtain ⟨hx, hb, hml, hown, hts, hK, hlk, -⟩ := id F
  have hl : lv_has ls 4 [(0, .ref a0), (1, .int o), (2, .int k), (3, .int d)] := hl
  refine lv_iload_n hx hb d_C_edition_0 rfl (lv_at hl 1 rfl) ?_
  refine lv_iload_n hx hb d_C_edition_1 rfl (lv_at hl 2 rfl) ?_
  refine r_xcallS (As := [.int o, .int k]) (rest := []) F hS c_C_74 (k_C_requireOwnerAndKind G l htr V o k) rfl hl.1 rfl (Nat.le_of_ble_eq_true rfl) d_C_edition_2 ⟨Nat.le_of_ble_eq_true rfl, Nat.le_of_ble_eq_true rfl⟩ ⟨Nat.le_of_ble_eq_true rfl, Nat.le_of_ble_eq_true rfl⟩ (fun q9 E9 ce V1 H locs hT hS hce => ?_) (fun rv V1 H locs hR hS => ?_)
  · obtain ⟨rfl, hV, hbad⟩ := hT
    rw [hV] at hS
    exact x_out F hex hS hce ⟨rfl, rfl, Or.inl hbad⟩ (Nat.le_of_ble_eq_true rfl) (Nat.le_of_ble_eq_true rfl)
  obtain ⟨rfl, hV, on, kn, hon, hkn, rfl, rfl⟩ := hR
  rw [hV] at hS
  refine W.eq (g2 := F0 m 5 ls []) rfl ?_
  refine lv_iload_n hx hb d_C_edition_5 rfl (lv_at hl 3 rfl) ?_
  refine lv_iconst (v := 0) hx hb d_C_edition_6 (by decide) ?_
  refine lv_sipush (v := 1000) hx hb d_C_edition_7 (by decide) ?_
  refine r_xcallS (As := [.int d, .int 0, .int 1000]) (rest := []) F hS c_C_67 (k_C_requireRange G l htr V d 0 1000) rfl hl.1 rfl (Nat.le_of_ble_eq_true rfl) d_C_edition_10 ⟨Nat.le_of_ble_eq_true rfl, Nat.le_of_ble_eq_true rfl⟩ ⟨Nat.le_of_ble_eq_true rfl, Nat.le_of_ble_eq_true rfl⟩ (fun q9 E9 ce V1 H locs hT hS hce => ?_) (fun rv V1 H locs hR hS => ?_)
  · obtain ⟨rfl, hV, hbad⟩ := hT
    rw [hV] at hS
    exact x_out F hex hS hce ⟨rfl, rfl, Or.inr hbad⟩ (Nat.le_of_ble_eq_true rfl) (Nat.le_of_ble_eq_true rfl)
  obtain ⟨rfl, hV, hlo, hhi⟩ := hR
  rw [hV] at hS
  refine W.eq (g2 := F0 m 13 ls []) rfl ?_
  refine lv_aload_n hx hb d_C_edition_13 rfl (lv_at hl 0 rfl) ?_
  refine lv_iload_n hx hb d_C_edition_14 rfl (lv_at hl 1 rfl) ?_
  refine lv_iload_n hx hb d_C_edition_15 rfl (lv_at hl 2 rfl) ?_
  refine lv_iload_n hx hb d_C_edition_16 rfl (lv_at hl 3 rfl) ?_
  refine r_callV (k := 0) (i := 0) (q := ("RuleClasses", T_C, 15)) (fs := [.int mo, .ref aE, .ref aK, .ref fA, .ref r0, .ref r1, .ref fb, .ref fl, .ref sh, .ref df, .int dy, .int qs, .int hs, .int lv, .int he]) (As := [.int (nI on), .int (nI kn), .int d]) (rest := []) F hS c_C_137 (k_C_countingEdition G l htr V a0 aE aK fA r0 r1 fb fl sh df mo dy qs hs lv he ne ea oA cA ow ki ed md ak sk fk ln po cs hE dE mcE hne hLE (nI on) (nI kn) d h0) rfl h0 rfl hl.1 rfl (Nat.le_of_ble_eq_true rfl) d_C_edition_17 ⟨Nat.le_of_ble_eq_true rfl, Nat.le_of_ble_eq_true rfl⟩ ⟨Nat.le_of_ble_eq_true rfl, Nat.le_of_ble_eq_true rfl⟩ (fun rv V1 H locs hR hS => ?_)
  obtain ⟨rfl, hV⟩ := hR
  rw [hV] at hS
  refine W.eq (g2 := F0 m 20 ls [.int ((pCnt ow ki ed md (nI on) (nI kn) d ne).1)]) rfl ?_
  exact vx_ret (m_reti F hr hS (Nat.le_of_ble_eq_true rfl) (Nat.le_of_ble_eq_true rfl) ⟨rfl, ⟨hlo, hhi⟩, on, kn, hon, hkn, rfl, rfl, rfl⟩ d_C_edition_20)
set_option maxHeartbeats 4000000 in
set_option maxRecDepth 100000 in
theorem lp_C_madeEditions (G : Gl) (l : Launch) (htr : l.stackTraces = false) (V : Vw) (a0 aE aK fA r0 r1 fb fl sh df : Nat) (mo dy qs hs lv he : Int32) (ne : Nat) (ea oA cA : Nat → Nat) (ow ki ed md ak sk fk : Nat → Int32) (ln : Nat → Nat) (po cs : Nat → Nat → Int32) (hE : EV G V ne ea oA cA ow ki ed md ak sk fk ln po cs) (dE : Nat) (mcE : Int32) (hne : ne ≤ 24) (hLE : LV G V 0 aE dE ne ea mcE) (h0 : V 0 0 = some (a0, oC mo aE aK fA r0 r1 fb fl sh df dy qs hs lv he)) {Rt : Option Value → Vw → Prop} {p : Program} {e : Env} {s : State} {m : MethodId} {args : Array Value} {below : List Frame} {meth : Method} {c : Code} (F : Bd G p l s m args meth c b_C_madeEditions 3 "RuleClasses") (hr : meth.sig.returnType = (Option.some Jvm.ClassFile.FieldType.int)) (hq : Rt (some (.int (pMade md ne))) V) :
    ∀ (n j : Nat), j + n = ne → ∀ (H : Heap) (locs : List Loc) (ls : Array Slot), HS G s V H locs → lv_has ls 3 [(0, .ref a0), (1, .int (pMade md j)), (2, .int (nI j))] →
      W p l e ({ frames := 3, cells := 0, slots := 0, locals := 64 } : Room) s m args below meth c H locs 0 0 (MQ below (QcC G Rt) args s ({ frames := 3, cells := 0, slots := 0, locals := 64 } : Room).cells ({ frames := 3, cells := 0, slots := 0, locals := 64 } : Room).slots (aB G)) (F0 m 4 ls []) := by
  obtain ⟨hx, hb, hml, hown, hts, hK, hlk, -⟩ := id F
  intro n
  induction n with
  | zero =>
    intro j hjn H locs ls hS hl
    obtain rfl : ne = j := by omega
    refine lv_iload_n hx hb d_C_madeEditions_4 rfl (lv_at hl 2 rfl) ?_
    refine lv_aload_n hx hb d_C_madeEditions_5 rfl (lv_at hl 0 rfl) ?_
    refine r_get (k := 0) (i := 0) F hS f_C_10.get h0 rfl d_C_madeEditions_6 ?_
    refine r_callV (k := 8) (i := 0) (q := ("java/util/ArrayList", T_A, 3)) (fs := [.int mcE, .ref dE, .int (nI ne)]) (As := []) (rest := [.int (nI ne)]) F hS c_C_78 (k_A_size G l htr V 0 aE dE ne mcE hLE.1) rfl hLE.1 rfl hl.1 rfl (Nat.le_of_ble_eq_true rfl) d_C_madeEditions_9 ⟨Nat.le_of_ble_eq_true rfl, Nat.le_of_ble_eq_true rfl⟩ ⟨Nat.le_of_ble_eq_true rfl, Nat.le_of_ble_eq_true rfl⟩ (fun rv V1 H locs hR hS => ?_)
    obtain ⟨rfl, hV⟩ := hR
    rw [hV] at hS
    refine W.eq (g2 := F0 m 12 ls [.int (nI ne), .int (nI ne)]) rfl ?_
    refine lv_icmp_ge (tgt := 41) hx hb d_C_madeEditions_12 (by decide) (fun c_12 => ?_) (fun c_12 => absurd (nI_le (by omega) (by omega)) c_12)
    refine lv_iload_n hx hb d_C_madeEditions_41 rfl (lv_at hl 1 rfl) ?_
    exact m_reti F hr hS (Nat.le_of_ble_eq_true rfl) (Nat.le_of_ble_eq_true rfl) hq d_C_madeEditions_42
  | succ n ih =>
    intro j hjn H locs ls hS hl
    have hj : j < ne := by omega
    refine lv_iload_n hx hb d_C_madeEditions_4 rfl (lv_at hl 2 rfl) ?_
    refine lv_aload_n hx hb d_C_madeEditions_5 rfl (lv_at hl 0 rfl) ?_
    refine r_get (k := 0) (i := 0) F hS f_C_10.get h0 rfl d_C_madeEditions_6 ?_
    refine r_callV (k := 8) (i := 0) (q := ("java/util/ArrayList", T_A, 3)) (fs := [.int mcE, .ref dE, .int (nI ne)]) (As := []) (rest := [.int (nI j)]) F hS c_C_78 (k_A_size G l htr V 0 aE dE ne mcE hLE.1) rfl hLE.1 rfl hl.1 rfl (Nat.le_of_ble_eq_true rfl) d_C_madeEditions_9 ⟨Nat.le_of_ble_eq_true rfl, Nat.le_of_ble_eq_true rfl⟩ ⟨Nat.le_of_ble_eq_true rfl, Nat.le_of_ble_eq_true rfl⟩ (fun rv V1 H locs hR hS => ?_)
    obtain ⟨rfl, hV⟩ := hR
    rw [hV] at hS
    refine W.eq (g2 := F0 m 12 ls [.int (nI ne), .int (nI j)]) rfl ?_
    refine lv_icmp_ge (tgt := 41) hx hb d_C_madeEditions_12 (by decide) (fun c_12 => absurd c_12 (nI_ge (by omega) (by omega))) (fun c_12 => ?_)
    refine lv_aload_n hx hb d_C_madeEditions_15 rfl (lv_at hl 0 rfl) ?_
    refine r_get (k := 0) (i := 0) F hS f_C_10.get h0 rfl d_C_madeEditions_16 ?_
    refine lv_iload_n hx hb d_C_madeEditions_19 rfl (lv_at hl 2 rfl) ?_
    obtain ⟨cap, hcap0, hcap1, hcap2, hc9⟩ : ∃ cap : Nat, 0 < cap ∧ ne ≤ cap ∧ cap ≤ 36 ∧ V 9 0 = some (dE, aQ G cap (lF ne ea)) := hLE.2.resolve_left (fun z => by have z1 := z.1; omega)
    refine r_callV (k := 8) (i := 0) (q := ("java/util/ArrayList", T_A, 3)) (fs := [.int mcE, .ref dE, .int (nI ne)]) (As := [.int (nI j)]) (rest := []) F hS c_C_144 (k_A_get G l htr V 0 aE dE ne cap j ea mcE hj hcap1 hcap2 hLE.1 hc9) rfl hLE.1 rfl hl.1 rfl (Nat.le_of_ble_eq_true rfl) d_C_madeEditions_20 ⟨Nat.le_of_ble_eq_true rfl, Nat.le_of_ble_eq_true rfl⟩ ⟨Nat.le_of_ble_eq_true rfl, Nat.le_of_ble_eq_true rfl⟩ (fun rv V1 H locs hR hS => ?_)
    obtain ⟨rfl, hV⟩ := hR
    rw [hV] at hS
    refine W.eq (g2 := F0 m 23 ls [.ref (ea j)]) rfl ?_
    refine r_cast (k := 1) (i := j) F hS (q := ("RuleClasses$Edition", T_E, 10)) (fs := [.int (ow j), .int (ki j), .int (ed j), .ref (oA j), .ref (cA j), .int (nI (ln j)), .int (md j), .int (ak j), .int (sk j), .int (fk j)]) rfl (hE j hj).1 m_180 d_C_madeEditions_23 ?_
    refine r_get (k := 1) (i := j) F hS f_C_127.get (hE j hj).1 rfl d_C_madeEditions_26 ?_
    refine lv_if_eq (tgt := 35) hx hb d_C_madeEditions_29 (by decide) (fun c_29 => ?_) (fun c_29 => ?_)
    · refine lv_iinc (v := (nI (j + 1))) (lv' := [(2, .int (nI (j + 1))), (0, .ref a0), (1, .int (pMade md j))]) hx hb d_C_madeEditions_35 hl (k := 2) rfl (nI_1 j) (by decide) rfl (fun ls hl => ?_)
      refine lv_goto (tgt := 4) hx hb d_C_madeEditions_38 (by decide) ?_
      have hp := (show pMade md (j + 1) = pMade md j from if_pos c_29)
      exact ih (j + 1) (by omega) _ _ _ hS (by rw [hp]; exact lv_sub hl [1, 2, 0] rfl)
    · refine lv_iinc (v := ((pMade md j) + 1)) (lv' := [(1, .int ((pMade md j) + 1)), (0, .ref a0), (2, .int (nI j))]) hx hb d_C_madeEditions_32 hl (k := 1) rfl (by rfl) (by decide) rfl (fun ls hl => ?_)
      refine lv_iinc (v := (nI (j + 1))) (lv' := [(2, .int (nI (j + 1))), (1, .int ((pMade md j) + 1)), (0, .ref a0)]) hx hb d_C_madeEditions_35 hl (k := 2) rfl (nI_1 j) (by decide) rfl (fun ls hl => ?_)
      refine lv_goto (tgt := 4) hx hb d_C_madeEditions_38 (by decide) ?_
      have hp := (show pMade md (j + 1) = pMade md j + 1 from if_neg c_29)
      exact ih (j + 1) (by omega) _ _ _ hS (by rw [hp]; exact lv_sub hl [2, 1, 0] rfl)
set_option maxHeartbeats 4000000 in
set_option maxRecDepth 100000 in
theorem k_C_madeEditions (G : Gl) (l : Launch) (htr : l.stackTraces = false) (V : Vw) (a0 aE aK fA r0 r1 fb fl sh df : Nat) (mo dy qs hs lv he : Int32) (ne : Nat) (ea oA cA : Nat → Nat) (ow ki ed md ak sk fk : Nat → Int32) (ln : Nat → Nat) (po cs : Nat → Nat → Int32) (hE : EV G V ne ea oA cA ow ki ed md ak sk fk ln po cs) (dE : Nat) (mcE : Int32) (hne : ne ≤ 24) (hLE : LV G V 0 aE dE ne ea mcE) (h0 : V 0 0 = some (a0, oC mo aE aK fA r0 r1 fb fl sh df dy qs hs lv he)) :
    Cm G l y_C_madeEditions b_C_madeEditions 3 (Option.some Jvm.ClassFile.FieldType.int) { frames := 3, cells := 0, slots := 0, locals := 64 } V [.ref a0] (fun rv V' => rv = some (.int (pMade md ne)) ∧ V' = V) := by
  refine Cm.of htr (by decide) (Nat.le_of_ble_eq_true rfl) ?_
  intro p e s m args below meth c ls F hr hnm hS hl
  obtain ⟨hx, hb, hml, hown, hts, hK, hlk, -⟩ := id F
  have hl : lv_has ls 3 [(0, .ref a0)] := hl
  refine lv_iconst (v := 0) hx hb d_C_madeEditions_0 (by decide) ?_
  refine lv_istore_n (lv' := [(1, .int 0), (0, .ref a0)]) hx hb d_C_madeEditions_1 rfl hl (by decide) rfl (fun ls hl => ?_)
  refine lv_iconst (v := 0) hx hb d_C_madeEditions_2 (by decide) ?_
  refine lv_istore_n (lv' := [(2, .int 0), (1, .int 0), (0, .ref a0)]) hx hb d_C_madeEditions_3 rfl hl (by decide) rfl (fun ls hl => ?_)
  exact lp_C_madeEditions G l htr V a0 aE aK fA r0 r1 fb fl sh df mo dy qs hs lv he ne ea oA cA ow ki ed md ak sk fk ln po cs hE dE mcE hne hLE h0 F hr ⟨rfl, rfl⟩ ne 0 (by omega) _ _ _ hS (lv_sub hl [2, 1, 0] rfl)
set_option maxHeartbeats 4000000 in
set_option maxRecDepth 100000 in
theorem lp_C_failedQuestions (G : Gl) (l : Launch) (htr : l.stackTraces = false) (V : Vw) (a0 aE aK fA r0 r1 fb fl sh df : Nat) (mo dy qs hs lv he : Int32) (fs : Nat → Int32) (h0 : V 0 0 = some (a0, oC mo aE aK fA r0 r1 fb fl sh df dy qs hs lv he)) (h11 : V 11 0 = some (fl, aI G 36 fs)) {Rt : Option Value → Vw → Prop} {p : Program} {e : Env} {s : State} {m : MethodId} {args : Array Value} {below : List Frame} {meth : Method} {c : Code} (F : Bd G p l s m args meth c b_C_failedQuestions 3 "RuleClasses") (hr : meth.sig.returnType = (Option.some Jvm.ClassFile.FieldType.int)) (hq : Rt (some (.int (pSum fs 36))) V) :
    ∀ (n j : Nat), j + n = 36 → ∀ (H : Heap) (locs : List Loc) (ls : Array Slot), HS G s V H locs → lv_has ls 3 [(0, .ref a0), (1, .int (pSum fs j)), (2, .int (nI j))] →
      W p l e ({ frames := 0, cells := 0, slots := 0, locals := 0 } : Room) s m args below meth c H locs 0 0 (MQ below (QcC G Rt) args s ({ frames := 0, cells := 0, slots := 0, locals := 0 } : Room).cells ({ frames := 0, cells := 0, slots := 0, locals := 0 } : Room).slots (aB G)) (F0 m 4 ls []) := by
  obtain ⟨hx, hb, hml, hown, hts, hK, hlk, -⟩ := id F
  intro n
  induction n with
  | zero =>
    intro j hjn H locs ls hS hl
    obtain rfl : 36 = j := by omega
    refine lv_iload_n hx hb d_C_failedQuestions_4 rfl (lv_at hl 2 rfl) ?_
    refine lv_aload_n hx hb d_C_failedQuestions_5 rfl (lv_at hl 0 rfl) ?_
    refine r_get (k := 0) (i := 0) F hS f_C_30.get h0 rfl d_C_failedQuestions_6 ?_
    refine r_alen (k := 11) (i := 0) (t := 0) (n := 0) F hS h11 (by decide) (v := 36) rfl d_C_failedQuestions_9 ?_
    refine lv_icmp_ge (tgt := 28) hx hb d_C_failedQuestions_10 (by decide) (fun c_10 => ?_) (fun c_10 => absurd (by decide) c_10)
    refine lv_iload_n hx hb d_C_failedQuestions_28 rfl (lv_at hl 1 rfl) ?_
    exact m_reti F hr hS (Nat.le_of_ble_eq_true rfl) (Nat.le_of_ble_eq_true rfl) hq d_C_failedQuestions_29
  | succ n ih =>
    intro j hjn H locs ls hS hl
    have hj : j < 36 := by omega
    refine lv_iload_n hx hb d_C_failedQuestions_4 rfl (lv_at hl 2 rfl) ?_
    refine lv_aload_n hx hb d_C_failedQuestions_5 rfl (lv_at hl 0 rfl) ?_
    refine r_get (k := 0) (i := 0) F hS f_C_30.get h0 rfl d_C_failedQuestions_6 ?_
    refine r_alen (k := 11) (i := 0) (t := 0) (n := 0) F hS h11 (by decide) (v := 36) rfl d_C_failedQuestions_9 ?_
    refine lv_icmp_ge (tgt := 28) hx hb d_C_failedQuestions_10 (by decide) (fun c_10 => absurd c_10 (nI_ge (b := 36) (by omega) (by omega))) (fun c_10 => ?_)
    refine lv_iload_n hx hb d_C_failedQuestions_13 rfl (lv_at hl 1 rfl) ?_
    refine lv_aload_n hx hb d_C_failedQuestions_14 rfl (lv_at hl 0 rfl) ?_
    refine r_get (k := 0) (i := 0) F hS f_C_30.get h0 rfl d_C_failedQuestions_15 ?_
    refine lv_iload_n hx hb d_C_failedQuestions_18 rfl (lv_at hl 2 rfl) ?_
    refine r_iald (k := 11) (i := 0) F hS h11 (vp_in_nI (by omega) (by decide)) d_C_failedQuestions_19 ?_
    rw [nI_clamp (by omega)]
    refine lv_iadd hx hb d_C_failedQuestions_20 ?_
    refine lv_istore_n (lv' := [(1, .int ((pSum fs j) + (fs j))), (0, .ref a0), (2, .int (nI j))]) hx hb d_C_failedQuestions_21 rfl hl (by decide) rfl (fun ls hl => ?_)
    refine lv_iinc (v := (nI (j + 1))) (lv' := [(2, .int (nI (j + 1))), (1, .int ((pSum fs j) + (fs j))), (0, .ref a0)]) hx hb d_C_failedQuestions_22 hl (k := 2) rfl (nI_1 j) (by decide) rfl (fun ls hl => ?_)
    refine lv_goto (tgt := 4) hx hb d_C_failedQuestions_25 (by decide) ?_
    have hp := (show pSum fs (j + 1) = pSum fs j + fs j from rfl)
    exact ih (j + 1) (by omega) _ _ _ hS (by rw [hp]; exact lv_sub hl [2, 1, 0] rfl)
set_option maxHeartbeats 4000000 in
set_option maxRecDepth 100000 in
theorem k_C_failedQuestions (G : Gl) (l : Launch) (htr : l.stackTraces = false) (V : Vw) (a0 aE aK fA r0 r1 fb fl sh df : Nat) (mo dy qs hs lv he : Int32) (fs : Nat → Int32) (h0 : V 0 0 = some (a0, oC mo aE aK fA r0 r1 fb fl sh df dy qs hs lv he)) (h11 : V 11 0 = some (fl, aI G 36 fs)) :
    Cm G l y_C_failedQuestions b_C_failedQuestions 3 (Option.some Jvm.ClassFile.FieldType.int) { frames := 0, cells := 0, slots := 0, locals := 0 } V [.ref a0] (fun rv V' => rv = some (.int (pSum fs 36)) ∧ V' = V) := by
  refine Cm.of htr (by decide) (Nat.le_of_ble_eq_true rfl) ?_
  intro p e s m args below meth c ls F hr hnm hS hl
  obtain ⟨hx, hb, hml, hown, hts, hK, hlk, -⟩ := id F
  have hl : lv_has ls 3 [(0, .ref a0)] := hl
  refine lv_iconst (v := 0) hx hb d_C_failedQuestions_0 (by decide) ?_
  refine lv_istore_n (lv' := [(1, .int 0), (0, .ref a0)]) hx hb d_C_failedQuestions_1 rfl hl (by decide) rfl (fun ls hl => ?_)
  refine lv_iconst (v := 0) hx hb d_C_failedQuestions_2 (by decide) ?_
  refine lv_istore_n (lv' := [(2, .int 0), (1, .int 0), (0, .ref a0)]) hx hb d_C_failedQuestions_3 rfl hl (by decide) rfl (fun ls hl => ?_)
  exact lp_C_failedQuestions G l htr V a0 aE aK fA r0 r1 fb fl sh df mo dy qs hs lv he fs h0 h11 F hr ⟨rfl, rfl⟩ 36 0 (by omega) _ _ _ hS (lv_sub hl [2, 1, 0] rfl)
set_option maxHeartbeats 4000000 in
set_option maxRecDepth 100000 in
theorem k_C_count_in (G : Gl) (l : Launch) (htr : l.stackTraces = false) (V : Vw) (a0 aE aK fA r0 r1 fb fl sh df : Nat) (mo dy qs hs lv he : Int32) (ne : Nat) (ea oA cA : Nat → Nat) (ow ki ed md ak sk fk : Nat → Int32) (ln : Nat → Nat) (po cs : Nat → Nat → Int32) (hE : EV G V ne ea oA cA ow ki ed md ak sk fk ln po cs) (dE : Nat) (mcE : Int32) (hne : ne ≤ 24) (hLE : LV G V 0 aE dE ne ea mcE) (nk dK : Nat) (fK vK : Nat → Nat) (kf : Nat → Nat → Int32) (mcK : Int32) (hnk : nk ≤ 8) (hKV : KV G V nk fK vK kf) (hLK : LV G V 1 aK dK nk fK mcK) (fs : Nat → Int32) (t : Nat) (ht : t ≤ 7) (h0 : V 0 0 = some (a0, oC mo aE aK fA r0 r1 fb fl sh df dy qs hs lv he)) (h11 : V 11 0 = some (fl, aI G 36 fs)) :
    Cm G l y_C_count b_C_count 2 (Option.some Jvm.ClassFile.FieldType.int) { frames := 4, cells := 0, slots := 0, locals := 86 } V [.ref a0, .int (nI t)] (fun rv V' => rv = some (.int (pCount t ne md qs fs nk hs dy mo)) ∧ V' = V) := by
  refine Cm.of htr (by decide) (Nat.le_of_ble_eq_true rfl) ?_
  intro p e s m args below meth c ls F hr hnm hS hl
  obtain ⟨hx, hb, hml, hown, hts, hK, hlk, -⟩ := id F
  have hl : lv_has ls 2 [(0, .ref a0), (1, .int (nI t))] := hl
  refine lv_iload_n hx hb d_C_count_0 rfl (lv_at hl 1 rfl) ?_
  rcases (show t = 0 ∨ t = 1 ∨ t = 2 ∨ t = 3 ∨ t = 4 ∨ t = 5 ∨ t = 6 ∨ t = 7 by omega) with rfl | rfl | rfl | rfl | rfl | rfl | rfl | rfl
  · refine lv_tableIn (tgt := 48) (off := 47) hx hb d_C_count_1 (by decide) (by decide) (by decide) (by decide) ?_
    refine lv_aload_n hx hb d_C_count_48 rfl (lv_at hl 0 rfl) ?_
    refine r_get (k := 0) (i := 0) F hS f_C_10.get h0 rfl d_C_count_49 ?_
    refine r_callV (k := 8) (i := 0) (q := ("java/util/ArrayList", T_A, 3)) (fs := [.int mcE, .ref dE, .int (nI ne)]) (As := []) (rest := []) F hS c_C_78 (k_A_size G l htr V 0 aE dE ne mcE hLE.1) rfl hLE.1 rfl hl.1 rfl (Nat.le_of_ble_eq_true rfl) d_C_count_52 ⟨Nat.le_of_ble_eq_true rfl, Nat.le_of_ble_eq_true rfl⟩ ⟨Nat.le_of_ble_eq_true rfl, Nat.le_of_ble_eq_true rfl⟩ (fun rv V1 H locs hR hS => ?_)
    obtain ⟨rfl, hV⟩ := hR
    rw [hV] at hS
    refine W.eq (g2 := F0 m 55 ls [.int (nI ne)]) rfl ?_
    exact m_reti F hr hS (Nat.le_of_ble_eq_true rfl) (Nat.le_of_ble_eq_true rfl) ⟨rfl, rfl⟩ d_C_count_55
  · refine lv_tableIn (tgt := 56) (off := 55) hx hb d_C_count_1 (by decide) (by decide) (by decide) (by decide) ?_
    refine lv_aload_n hx hb d_C_count_56 rfl (lv_at hl 0 rfl) ?_
    refine r_callV (k := 0) (i := 0) (q := ("RuleClasses", T_C, 15)) (fs := [.int mo, .ref aE, .ref aK, .ref fA, .ref r0, .ref r1, .ref fb, .ref fl, .ref sh, .ref df, .int dy, .int qs, .int hs, .int lv, .int he]) (As := []) (rest := []) F hS c_C_207 (k_C_madeEditions G l htr V a0 aE aK fA r0 r1 fb fl sh df mo dy qs hs lv he ne ea oA cA ow ki ed md ak sk fk ln po cs hE dE mcE hne hLE h0) rfl h0 rfl hl.1 rfl (Nat.le_of_ble_eq_true rfl) d_C_count_57 ⟨Nat.le_of_ble_eq_true rfl, Nat.le_of_ble_eq_true rfl⟩ ⟨Nat.le_of_ble_eq_true rfl, Nat.le_of_ble_eq_true rfl⟩ (fun rv V1 H locs hR hS => ?_)
    obtain ⟨rfl, hV⟩ := hR
    rw [hV] at hS
    refine W.eq (g2 := F0 m 60 ls [.int (pMade md ne)]) rfl ?_
    exact m_reti F hr hS (Nat.le_of_ble_eq_true rfl) (Nat.le_of_ble_eq_true rfl) ⟨rfl, rfl⟩ d_C_count_60
  · refine lv_tableIn (tgt := 61) (off := 60) hx hb d_C_count_1 (by decide) (by decide) (by decide) (by decide) ?_
    refine lv_aload_n hx hb d_C_count_61 rfl (lv_at hl 0 rfl) ?_
    refine r_get (k := 0) (i := 0) F hS f_C_134.get h0 rfl d_C_count_62 ?_
    exact m_reti F hr hS (Nat.le_of_ble_eq_true rfl) (Nat.le_of_ble_eq_true rfl) ⟨rfl, rfl⟩ d_C_count_65
  · refine lv_tableIn (tgt := 66) (off := 65) hx hb d_C_count_1 (by decide) (by decide) (by decide) (by decide) ?_
    refine lv_aload_n hx hb d_C_count_66 rfl (lv_at hl 0 rfl) ?_
    refine r_callV (k := 0) (i := 0) (q := ("RuleClasses", T_C, 15)) (fs := [.int mo, .ref aE, .ref aK, .ref fA, .ref r0, .ref r1, .ref fb, .ref fl, .ref sh, .ref df, .int dy, .int qs, .int hs, .int lv, .int he]) (As := []) (rest := []) F hS c_C_210 (k_C_failedQuestions G l htr V a0 aE aK fA r0 r1 fb fl sh df mo dy qs hs lv he fs h0 h11) rfl h0 rfl hl.1 rfl (Nat.le_of_ble_eq_true rfl) d_C_count_67 ⟨Nat.le_of_ble_eq_true rfl, Nat.le_of_ble_eq_true rfl⟩ ⟨Nat.le_of_ble_eq_true rfl, Nat.le_of_ble_eq_true rfl⟩ (fun rv V1 H locs hR hS => ?_)
    obtain ⟨rfl, hV⟩ := hR
    rw [hV] at hS
    refine W.eq (g2 := F0 m 70 ls [.int (pSum fs 36)]) rfl ?_
    exact m_reti F hr hS (Nat.le_of_ble_eq_true rfl) (Nat.le_of_ble_eq_true rfl) ⟨rfl, rfl⟩ d_C_count_70
  · refine lv_tableIn (tgt := 71) (off := 70) hx hb d_C_count_1 (by decide) (by decide) (by decide) (by decide) ?_
    refine lv_aload_n hx hb d_C_count_71 rfl (lv_at hl 0 rfl) ?_
    refine r_get (k := 0) (i := 0) F hS f_C_16.get h0 rfl d_C_count_72 ?_
    refine r_callV (k := 8) (i := 1) (q := ("java/util/ArrayList", T_A, 3)) (fs := [.int mcK, .ref dK, .int (nI nk)]) (As := []) (rest := []) F hS c_C_78 (k_A_size G l htr V 1 aK dK nk mcK hLK.1) rfl hLK.1 rfl hl.1 rfl (Nat.le_of_ble_eq_true rfl) d_C_count_75 ⟨Nat.le_of_ble_eq_true rfl, Nat.le_of_ble_eq_true rfl⟩ ⟨Nat.le_of_ble_eq_true rfl, Nat.le_of_ble_eq_true rfl⟩ (fun rv V1 H locs hR hS => ?_)
    obtain ⟨rfl, hV⟩ := hR
    rw [hV] at hS
    refine W.eq (g2 := F0 m 78 ls [.int (nI nk)]) rfl ?_
    exact m_reti F hr hS (Nat.le_of_ble_eq_true rfl) (Nat.le_of_ble_eq_true rfl) ⟨rfl, rfl⟩ d_C_count_78
  · refine lv_tableIn (tgt := 79) (off := 78) hx hb d_C_count_1 (by decide) (by decide) (by decide) (by decide) ?_
    refine lv_aload_n hx hb d_C_count_79 rfl (lv_at hl 0 rfl) ?_
    refine r_get (k := 0) (i := 0) F hS f_C_166.get h0 rfl d_C_count_80 ?_
    exact m_reti F hr hS (Nat.le_of_ble_eq_true rfl) (Nat.le_of_ble_eq_true rfl) ⟨rfl, rfl⟩ d_C_count_83
  · refine lv_tableIn (tgt := 84) (off := 83) hx hb d_C_count_1 (by decide) (by decide) (by decide) (by decide) ?_
    refine lv_aload_n hx hb d_C_count_84 rfl (lv_at hl 0 rfl) ?_
    refine r_get (k := 0) (i := 0) F hS f_C_64.get h0 rfl d_C_count_85 ?_
    exact m_reti F hr hS (Nat.le_of_ble_eq_true rfl) (Nat.le_of_ble_eq_true rfl) ⟨rfl, rfl⟩ d_C_count_88
  · refine lv_tableIn (tgt := 89) (off := 88) hx hb d_C_count_1 (by decide) (by decide) (by decide) (by decide) ?_
    refine lv_aload_n hx hb d_C_count_89 rfl (lv_at hl 0 rfl) ?_
    refine r_get (k := 0) (i := 0) F hS f_C_48.get h0 rfl d_C_count_90 ?_
    exact m_reti F hr hS (Nat.le_of_ble_eq_true rfl) (Nat.le_of_ble_eq_true rfl) ⟨rfl, rfl⟩ d_C_count_93
set_option maxHeartbeats 4000000 in
set_option maxRecDepth 100000 in
theorem k_C_count_out (G : Gl) (l : Launch) (htr : l.stackTraces = false) (V : Vw) (a0 : Nat) (w : Int32) (hw : w < 0 ∨ 7 < w)  :
    Cm G l y_C_count b_C_count 2 (Option.some Jvm.ClassFile.FieldType.int) { frames := 0, cells := 0, slots := 0, locals := 0 } V [.ref a0, .int w] (fun rv V' => rv = some (.int (-1)) ∧ V' = V) := by
  refine Cm.of htr (by decide) (Nat.le_of_ble_eq_true rfl) ?_
  intro p e s m args below meth c ls F hr hnm hS hl
  obtain ⟨hx, hb, hml, hown, hts, hK, hlk, -⟩ := id F
  have hl : lv_has ls 2 [(0, .ref a0), (1, .int w)] := hl
  refine lv_iload_n hx hb d_C_count_0 rfl (lv_at hl 1 rfl) ?_
  refine lv_tableOut (tgt := 94) hx hb d_C_count_1 (hw.imp (fun z => Int32.lt_iff_toInt_lt.mp z) (fun z => (show (7 : Int32).toInt < w.toInt from Int32.lt_iff_toInt_lt.mp z))) (by decide) ?_
  refine lv_iconst (v := (-1)) hx hb d_C_count_94 (by decide) ?_
  exact m_reti F hr hS (Nat.le_of_ble_eq_true rfl) (Nat.le_of_ble_eq_true rfl) ⟨rfl, rfl⟩ d_C_count_95
set_option maxHeartbeats 4000000 in
set_option maxRecDepth 100000 in
theorem k_C_runShadow (G : Gl) (l : Launch) (htr : l.stackTraces = false) (V : Vw) (a0 aE aK fA r0 r1 fb fl sh df : Nat) (mo dy qs hs lv he : Int32) (ne : Nat) (ea oA cA : Nat → Nat) (ow ki ed md ak sk fk : Nat → Int32) (ln : Nat → Nat) (po cs : Nat → Nat → Int32) (hE : EV G V ne ea oA cA ow ki ed md ak sk fk ln po cs) (dE : Nat) (mcE : Int32) (hne : ne ≤ 24) (hLE : LV G V 0 aE dE ne ea mcE) (hok : ∀ i, i < ne → okCode (ln i) (po i) (cs i)) (s0 : Nat) (nx oc an st : Int32) (h9 : Nat) (f0 : Nat → Int32) (m0 : Nat) (hh : h9 ≤ 8) (hm9 : m0 ≤ 1000) (vA : Nat) (fa : Nat → Int32) (s1 : Nat) (nx1 oc1 an1 st1 : Int32) (h19 : Nat) (f1 : Nat → Int32) (hh1 : h19 ≤ 8) (ss ds : Nat → Int32) (pn : Nat) (hpn : pn < 18) (h0 : V 0 0 = some (a0, oC mo aE aK fA r0 r1 fb fl sh df dy qs hs lv he)) (h4 : V 4 0 = some (r0, oU s0 (nI m0) (nI h9) nx oc an st)) (h5 : V 5 0 = some (s0, aI G 8 f0)) (h6 : V 6 0 = some (fA, oF vA)) (h7 : V 7 0 = some (vA, aI G 8 fa)) (h41 : V 4 1 = some (r1, oU s1 (nI m0) (nI h19) nx1 oc1 an1 st1)) (h51 : V 5 1 = some (s1, aI G 8 f1)) (h12 : V 12 0 = some (sh, aI G 18 ss)) (h13 : V 13 0 = some (df, aI G 18 ds)) :
    Cm G l y_C_runShadow b_C_runShadow 3 none { frames := 5, cells := 0, slots := 0, locals := 119 } V [.ref a0, .int (nI pn)] (fun rv V' => rv = none ∧ V' = shV G V ne ss ds pn df r1 s1 m0 ln po cs fa ak f1 oc an) := by
  refine Cm.of htr (by decide) (Nat.le_of_ble_eq_true rfl) ?_
  intro p e s m args below meth c ls F hr hnm hS hl
  obtain ⟨hx, hb, hml, hown, hts, hK, hlk, -⟩ := id F
  have hl : lv_has ls 3 [(0, .ref a0), (1, .int (nI pn))] := hl
  refine lv_aload_n hx hb d_C_runShadow_0 rfl (lv_at hl 0 rfl) ?_
  refine r_get (k := 0) (i := 0) F hS f_C_33.get h0 rfl d_C_runShadow_1 ?_
  refine lv_iload_n hx hb d_C_runShadow_4 rfl (lv_at hl 1 rfl) ?_
  refine r_iald (k := 12) (i := 0) F hS h12 (vp_in_nI hpn (by decide)) d_C_runShadow_5 ?_
  rw [nI_clamp (by omega)]
  refine lv_istore_n (lv' := [(2, .int (ss pn)), (0, .ref a0), (1, .int (nI pn))]) hx hb d_C_runShadow_6 rfl hl (by decide) rfl (fun ls hl => ?_)
  refine lv_iload_n hx hb d_C_runShadow_7 rfl (lv_at hl 0 rfl) ?_
  refine lv_if_lt (tgt := 22) hx hb d_C_runShadow_8 (by decide) (fun c_8 => ?_) (fun c_8 => ?_)
  · exact m_retv F hr hS (Nat.le_of_ble_eq_true rfl) (Nat.le_of_ble_eq_true rfl) ⟨rfl, (if_pos (Or.inl c_8)).symm⟩ d_C_runShadow_22
  · refine lv_iload_n hx hb d_C_runShadow_11 rfl (lv_at hl 0 rfl) ?_
    refine lv_aload_n hx hb d_C_runShadow_12 rfl (lv_at hl 1 rfl) ?_
    refine r_get (k := 0) (i := 0) F hS f_C_10.get h0 rfl d_C_runShadow_13 ?_
    refine r_callV (k := 8) (i := 0) (q := ("java/util/ArrayList", T_A, 3)) (fs := [.int mcE, .ref dE, .int (nI ne)]) (As := []) (rest := [.int (ss pn)]) F hS c_C_78 (k_A_size G l htr V 0 aE dE ne mcE hLE.1) rfl hLE.1 rfl hl.1 rfl (Nat.le_of_ble_eq_true rfl) d_C_runShadow_16 ⟨Nat.le_of_ble_eq_true rfl, Nat.le_of_ble_eq_true rfl⟩ ⟨Nat.le_of_ble_eq_true rfl, Nat.le_of_ble_eq_true rfl⟩ (fun rv V1 H locs hR hS => ?_)
    obtain ⟨rfl, hV⟩ := hR
    rw [hV] at hS
    refine W.eq (g2 := F0 m 19 ls [.int (nI ne), .int (ss pn)]) rfl ?_
    refine lv_icmp_lt (tgt := 23) hx hb d_C_runShadow_19 (by decide) (fun c_19 => ?_) (fun c_19 => ?_)
    · obtain ⟨i, hi1, ei⟩ := nI_of c_8
      have hi0 : i < ne := (nI_ltI hi1 (by omega)).mp (by rw [← ei]; exact c_19)
      have ej : (ss pn).toNatClampNeg = i := by rw [ei]; exact nI_clamp (by omega)
      have hi : (ss pn).toNatClampNeg < ne := by rw [ej]; exact hi0
      have ess : ss pn = nI (ss pn).toNatClampNeg := by rw [ej]; exact ei
      have hne0 : ¬ (ss pn < 0 ∨ nI ne ≤ ss pn) := fun z => z.elim c_8 (fun z => absurd c_19 (Int32.not_lt.mpr z))
      obtain ⟨cap, hcap0, hcap1, hcap2, hc9⟩ : ∃ cap : Nat, 0 < cap ∧ ne ≤ cap ∧ cap ≤ 36 ∧ V 9 0 = some (dE, aQ G cap (lF ne ea)) := hLE.2.resolve_left (fun z => by have z1 := z.1; omega)
      refine lv_aload_n hx hb d_C_runShadow_23 rfl (lv_at hl 1 rfl) ?_
      refine r_get (k := 0) (i := 0) F hS f_C_61.get h0 rfl d_C_runShadow_24 ?_
      refine lv_aload_n hx hb d_C_runShadow_27 rfl (lv_at hl 1 rfl) ?_
      refine r_get (k := 0) (i := 0) F hS f_C_10.get h0 rfl d_C_runShadow_28 ?_
      refine lv_iload_n hx hb d_C_runShadow_31 rfl (lv_at hl 0 rfl) ?_
      rw [show Value.int (ss pn) = Value.int (nI (ss pn).toNatClampNeg) from congrArg Value.int ess]
      refine r_callV (k := 8) (i := 0) (q := ("java/util/ArrayList", T_A, 3)) (fs := [.int mcE, .ref dE, .int (nI ne)]) (As := [.int (nI (ss pn).toNatClampNeg)]) (rest := [.ref r1]) F hS c_C_144 (k_A_get G l htr V 0 aE dE ne cap (ss pn).toNatClampNeg ea mcE hi hcap1 hcap2 hLE.1 hc9) rfl hLE.1 rfl hl.1 rfl (Nat.le_of_ble_eq_true rfl) d_C_runShadow_32 ⟨Nat.le_of_ble_eq_true rfl, Nat.le_of_ble_eq_true rfl⟩ ⟨Nat.le_of_ble_eq_true rfl, Nat.le_of_ble_eq_true rfl⟩ (fun rv V1 H locs hR hS => ?_)
      obtain ⟨rfl, hV⟩ := hR
      rw [hV] at hS
      refine W.eq (g2 := F0 m 35 ls [.ref (ea (ss pn).toNatClampNeg), .ref r1]) rfl ?_
      refine r_cast (k := 1) (i := ((ss pn).toNatClampNeg)) F hS (q := ("RuleClasses$Edition", T_E, 10)) (fs := [.int (ow (ss pn).toNatClampNeg), .int (ki (ss pn).toNatClampNeg), .int (ed (ss pn).toNatClampNeg), .ref (oA (ss pn).toNatClampNeg), .ref (cA (ss pn).toNatClampNeg), .int (nI (ln (ss pn).toNatClampNeg)), .int (md (ss pn).toNatClampNeg), .int (ak (ss pn).toNatClampNeg), .int (sk (ss pn).toNatClampNeg), .int (fk (ss pn).toNatClampNeg)]) rfl (hE _ hi).1 m_180 d_C_runShadow_35 ?_
      refine lv_aload_n hx hb d_C_runShadow_38 rfl (lv_at hl 1 rfl) ?_
      refine r_get (k := 0) (i := 0) F hS f_C_22.get h0 rfl d_C_runShadow_39 ?_
      refine r_callV (k := 4) (i := 1) (q := ("RuleClasses$Run", T_U, 7)) (fs := [.int (nI m0), .ref s1, .int (nI h19), .int nx1, .int oc1, .int an1, .int st1]) (As := [.ref (ea (ss pn).toNatClampNeg), .ref fA]) (rest := []) F hS c_C_120 (k_U_start G l htr V 1 r1 s1 nx1 oc1 an1 st1 h19 f1 m0 hh1 hm9 (ss pn).toNatClampNeg 0 (ea (ss pn).toNatClampNeg) (oA (ss pn).toNatClampNeg) (cA (ss pn).toNatClampNeg) fA vA (ow (ss pn).toNatClampNeg) (ki (ss pn).toNatClampNeg) (ed (ss pn).toNatClampNeg) (md (ss pn).toNatClampNeg) (ak (ss pn).toNatClampNeg) (sk (ss pn).toNatClampNeg) (fk (ss pn).toNatClampNeg) (ln (ss pn).toNatClampNeg) (po (ss pn).toNatClampNeg) (cs (ss pn).toNatClampNeg) fa (hok _ hi) h41 h51 (hE _ hi).1 (hE _ hi).2.1 (hE _ hi).2.2 h6 h7) rfl h41 rfl hl.1 rfl (Nat.le_of_ble_eq_true rfl) d_C_runShadow_42 ⟨Nat.le_of_ble_eq_true rfl, Nat.le_of_ble_eq_true rfl⟩ ⟨Nat.le_of_ble_eq_true rfl, Nat.le_of_ble_eq_true rfl⟩ (fun rv V1 H locs hR hS => ?_)
      obtain ⟨rfl, rfl⟩ := hR
      refine W.eq (g2 := F0 m 45 ls []) rfl ?_
      refine lv_aload_n hx hb d_C_runShadow_45 rfl (lv_at hl 1 rfl) ?_
      refine r_get (k := 0) (i := 0) F hS f_C_57.get ((uR_o (by decide) (by decide)).trans h0) rfl d_C_runShadow_46 ?_
      refine lv_aload_n hx hb d_C_runShadow_49 rfl (lv_at hl 1 rfl) ?_
      refine r_get (k := 0) (i := 0) F hS f_C_61.get ((uR_o (by decide) (by decide)).trans h0) rfl d_C_runShadow_50 ?_
      refine r_callV (k := 4) (i := 0) (q := ("RuleClasses$Run", T_U, 7)) (fs := [.int (nI m0), .ref s0, .int (nI h9), .int nx, .int oc, .int an, .int st]) (As := [.ref r1]) (rest := []) F hS c_C_188 (k_U_endedLike G l htr (uRr G V 1 r1 s1 m0 (pRun (ln (ss pn).toNatClampNeg) (po (ss pn).toNatClampNeg) (cs (ss pn).toNatClampNeg) fa (ak (ss pn).toNatClampNeg) m0 0 0 0 0 f1)) 0 1 r0 r1 s0 s1 (nI m0) nx oc an st (nI h9) (nI m0) (nI (pRun (ln (ss pn).toNatClampNeg) (po (ss pn).toNatClampNeg) (cs (ss pn).toNatClampNeg) fa (ak (ss pn).toNatClampNeg) m0 0 0 0 0 f1).2.1) (pRun (ln (ss pn).toNatClampNeg) (po (ss pn).toNatClampNeg) (cs (ss pn).toNatClampNeg) fa (ak (ss pn).toNatClampNeg) m0 0 0 0 0 f1).2.2.1 (pRun (ln (ss pn).toNatClampNeg) (po (ss pn).toNatClampNeg) (cs (ss pn).toNatClampNeg) fa (ak (ss pn).toNatClampNeg) m0 0 0 0 0 f1).1 (pRun (ln (ss pn).toNatClampNeg) (po (ss pn).toNatClampNeg) (cs (ss pn).toNatClampNeg) fa (ak (ss pn).toNatClampNeg) m0 0 0 0 0 f1).2.2.2.1 (pRun (ln (ss pn).toNatClampNeg) (po (ss pn).toNatClampNeg) (cs (ss pn).toNatClampNeg) fa (ak (ss pn).toNatClampNeg) m0 0 0 0 0 f1).2.2.2.2.1 ((uR_ob (by decide)).trans h4) uR_4) rfl ((uR_ob (by decide)).trans h4) rfl hl.1 rfl (Nat.le_of_ble_eq_true rfl) d_C_runShadow_53 ⟨Nat.le_of_ble_eq_true rfl, Nat.le_of_ble_eq_true rfl⟩ ⟨Nat.le_of_ble_eq_true rfl, Nat.le_of_ble_eq_true rfl⟩ (fun rv V1 H locs hR hS => ?_)
      obtain ⟨rfl, hV⟩ := hR
      rw [hV] at hS
      refine W.eq (g2 := F0 m 56 ls [.int (if oc = (pRun (ln (ss pn).toNatClampNeg) (po (ss pn).toNatClampNeg) (cs (ss pn).toNatClampNeg) fa (ak (ss pn).toNatClampNeg) m0 0 0 0 0 f1).1 ∧ an = (pRun (ln (ss pn).toNatClampNeg) (po (ss pn).toNatClampNeg) (cs (ss pn).toNatClampNeg) fa (ak (ss pn).toNatClampNeg) m0 0 0 0 0 f1).2.2.2.1 then 1 else 0)]) rfl ?_
      refine lv_if_ne (tgt := 69) hx hb d_C_runShadow_56 (by decide) (fun c_56 => ?_) (fun c_56 => ?_)
      · have hEq : (oc = (pRun (ln (ss pn).toNatClampNeg) (po (ss pn).toNatClampNeg) (cs (ss pn).toNatClampNeg) fa (ak (ss pn).toNatClampNeg) m0 0 0 0 0 f1).1 ∧ an = (pRun (ln (ss pn).toNatClampNeg) (po (ss pn).toNatClampNeg) (cs (ss pn).toNatClampNeg) fa (ak (ss pn).toNatClampNeg) m0 0 0 0 0 f1).2.2.2.1) := by
          by_cases z : (oc = (pRun (ln (ss pn).toNatClampNeg) (po (ss pn).toNatClampNeg) (cs (ss pn).toNatClampNeg) fa (ak (ss pn).toNatClampNeg) m0 0 0 0 0 f1).1 ∧ an = (pRun (ln (ss pn).toNatClampNeg) (po (ss pn).toNatClampNeg) (cs (ss pn).toNatClampNeg) fa (ak (ss pn).toNatClampNeg) m0 0 0 0 0 f1).2.2.2.1)
          · exact z
          · rw [if_neg z] at c_56
            exact absurd rfl c_56
        exact m_retv F hr hS (Nat.le_of_ble_eq_true rfl) (Nat.le_of_ble_eq_true rfl) ⟨rfl, ((if_neg hne0).trans (if_pos hEq)).symm⟩ d_C_runShadow_69
      · have hNe : ¬ (oc = (pRun (ln (ss pn).toNatClampNeg) (po (ss pn).toNatClampNeg) (cs (ss pn).toNatClampNeg) fa (ak (ss pn).toNatClampNeg) m0 0 0 0 0 f1).1 ∧ an = (pRun (ln (ss pn).toNatClampNeg) (po (ss pn).toNatClampNeg) (cs (ss pn).toNatClampNeg) fa (ak (ss pn).toNatClampNeg) m0 0 0 0 0 f1).2.2.2.1) := fun z => by rw [if_pos z] at c_56; exact absurd c_56 (by decide)
        refine lv_aload_n hx hb d_C_runShadow_59 rfl (lv_at hl 1 rfl) ?_
        refine r_get (k := 0) (i := 0) F hS f_C_36.get ((uR_o (by decide) (by decide)).trans h0) rfl d_C_runShadow_60 ?_
        refine lv_iload_n hx hb d_C_runShadow_63 rfl (lv_at hl 2 rfl) ?_
        refine lv_dup2_11 hx hb d_C_runShadow_64 rfl rfl ?_
        refine r_iald (k := 13) (i := 0) F hS ((uR_o (by decide) (by decide)).trans h13) (vp_in_nI hpn (by decide)) d_C_runShadow_65 ?_
        rw [nI_clamp (by omega)]
        refine lv_iconst (v := 1) hx hb d_C_runShadow_66 (by decide) ?_
        refine lv_iadd hx hb d_C_runShadow_67 ?_
        refine r_iast (k := 13) (i := 0) F hS ((uR_o (by decide) (by decide)).trans h13) (vp_in_nI hpn (by decide)) d_C_runShadow_68 (fun H locs hS => ?_)
        rw [nI_clamp (by omega)] at hS
        have hS : HS G s (uV (uRr G V 1 r1 s1 m0 (pRun (ln (ss pn).toNatClampNeg) (po (ss pn).toNatClampNeg) (cs (ss pn).toNatClampNeg) fa (ak (ss pn).toNatClampNeg) m0 0 0 0 0 f1)) 13 0 (df, aI G 18 (upd ds pn ((ds pn) + 1)))) H _ := hS
        exact m_retv F hr hS (Nat.le_of_ble_eq_true rfl) (Nat.le_of_ble_eq_true rfl) ⟨rfl, ((if_neg hne0).trans (if_neg hNe)).symm⟩ d_C_runShadow_69
    · exact m_retv F hr hS (Nat.le_of_ble_eq_true rfl) (Nat.le_of_ble_eq_true rfl) ⟨rfl, (if_pos (Or.inr (Int32.not_lt.mp c_19))).symm⟩ d_C_runShadow_22
set_option maxHeartbeats 4000000 in
set_option maxRecDepth 100000 in
theorem k_C_ask_none (G : Gl) (l : Launch) (htr : l.stackTraces = false) (V : Vw) (a0 aE aK fA r0 r1 fb fl sh df : Nat) (mo dy qs hs lv he : Int32) (ne : Nat) (ea oA cA : Nat → Nat) (ow ki ed md ak sk fk : Nat → Int32) (ln : Nat → Nat) (po cs : Nat → Nat → Int32) (hE : EV G V ne ea oA cA ow ki ed md ak sk fk ln po cs) (dE : Nat) (mcE : Int32) (hne : ne ≤ 24) (hLE : LV G V 0 aE dE ne ea mcE) (hok : ∀ i, i < ne → okCode (ln i) (po i) (cs i)) (s0 : Nat) (nx oc an st : Int32) (h9 : Nat) (f0 : Nat → Int32) (m0 : Nat) (hh : h9 ≤ 8) (hm9 : m0 ≤ 1000) (vA : Nat) (fa : Nat → Int32) (s1 : Nat) (nx1 oc1 an1 st1 : Int32) (h19 : Nat) (f1 : Nat → Int32) (hh1 : h19 ≤ 8) (ss ds : Nat → Int32) (ff fs : Nat → Int32) (on kn : Nat) (hon : on ≤ 5) (hkn : kn ≤ 2) (hc : (pCnt ow ki ed md (nI on) (nI kn) dy ne).1 = -1) (h0 : V 0 0 = some (a0, oC mo aE aK fA r0 r1 fb fl sh df dy qs hs lv he)) (h4 : V 4 0 = some (r0, oU s0 (nI m0) (nI h9) nx oc an st)) (h5 : V 5 0 = some (s0, aI G 8 f0)) (h6 : V 6 0 = some (fA, oF vA)) (h7 : V 7 0 = some (vA, aI G 8 fa)) (h41 : V 4 1 = some (r1, oU s1 (nI m0) (nI h19) nx1 oc1 an1 st1)) (h51 : V 5 1 = some (s1, aI G 8 f1)) (h12 : V 12 0 = some (sh, aI G 18 ss)) (h13 : V 13 0 = some (df, aI G 18 ds)) (h10 : V 10 0 = some (fb, aI G 3 ff)) (h11 : V 11 0 = some (fl, aI G 36 fs)) :
    Cx G l y_C_ask b_C_ask 4 (Option.some Jvm.ClassFile.FieldType.int) { frames := 8, cells := 2, slots := 12, locals := 141 } V [.ref a0, .int (nI on), .int (nI kn)] (fun rv V' => rv = some (.int (ff kn)) ∧ V' = uV (shV G (uR G (uV V 0 0 (a0, oC mo aE aK fA r0 r1 fb fl sh df dy (qs + 1) hs 0 he)) 0 r0 s0 (nI m0) 0 0 0 0 0 f0) ne ss ds (on * 3 + kn) df r1 s1 m0 ln po cs fa ak f1 0 0) 11 0 (fl, aI G 36 (upd fs (on * 6 + 0) (fs (on * 6 + 0) + 1)))) (fun E V' => False) := by
  refine Cx.of htr (by decide) (Nat.le_of_ble_eq_true rfl) ?_
  intro p e s m args below meth c ls F hr hex hS hl
  obtain ⟨hx, hb, hml, hown, hts, hK, hlk, -⟩ := id F
  have hl : lv_has ls 4 [(0, .ref a0), (1, .int (nI on)), (2, .int (nI kn))] := hl
  refine lv_iload_n hx hb d_C_ask_0 rfl (lv_at hl 1 rfl) ?_
  refine lv_iload_n hx hb d_C_ask_1 rfl (lv_at hl 2 rfl) ?_
  refine r_xcallS (As := [.int (nI on), .int (nI kn)]) (rest := []) F hS c_C_74 (k_C_requireOwnerAndKind G l htr V (nI on) (nI kn)) rfl hl.1 rfl (Nat.le_of_ble_eq_true rfl) d_C_ask_2 ⟨Nat.le_of_ble_eq_true rfl, Nat.le_of_ble_eq_true rfl⟩ ⟨Nat.le_of_ble_eq_true rfl, Nat.le_of_ble_eq_true rfl⟩ (fun q9 E9 ce V1 H locs hT hS hce => ?_) (fun rv V1 H locs hR hS => ?_)
  · obtain ⟨rfl, hV, hbad⟩ := hT
    exact absurd hbad (ok_own hon hkn)
  obtain ⟨rfl, hV, -⟩ := hR
  rw [hV] at hS
  refine W.eq (g2 := F0 m 5 ls []) rfl ?_
  refine lv_aload_n hx hb d_C_ask_5 rfl (lv_at hl 0 rfl) ?_
  refine r_callV (k := 0) (i := 0) (q := ("RuleClasses", T_C, 15)) (fs := [.int mo, .ref aE, .ref aK, .ref fA, .ref r0, .ref r1, .ref fb, .ref fl, .ref sh, .ref df, .int dy, .int qs, .int hs, .int lv, .int he]) (As := []) (rest := []) F hS c_C_71 (k_C_endHandle G l htr V a0 aE aK fA r0 r1 fb fl sh df mo dy qs hs lv he h0) rfl h0 rfl hl.1 rfl (Nat.le_of_ble_eq_true rfl) d_C_ask_6 ⟨Nat.le_of_ble_eq_true rfl, Nat.le_of_ble_eq_true rfl⟩ ⟨Nat.le_of_ble_eq_true rfl, Nat.le_of_ble_eq_true rfl⟩ (fun rv V1 H locs hR hS => ?_)
  obtain ⟨rfl, rfl⟩ := hR
  refine W.eq (g2 := F0 m 9 ls []) rfl ?_
  refine lv_aload_n hx hb d_C_ask_9 rfl (lv_at hl 0 rfl) ?_
  refine lv_dup hx hb d_C_ask_10 rfl ?_
  refine r_get (k := 0) (i := 0) F hS f_C_134.get (uV_self _ _ _ _) rfl d_C_ask_11 ?_
  refine lv_iconst (v := 1) hx hb d_C_ask_14 (by decide) ?_
  refine lv_iadd hx hb d_C_ask_15 ?_
  refine r_put (k := 0) (i := 0) F hS f_C_134 ct_C (uV_self _ _ _ _) rfl rfl (Nat.le_of_ble_eq_true rfl) d_C_ask_16 (fun H locs hS => ?_)
  have hS : HS G s (uV (uV V 0 0 (a0, oC mo aE aK fA r0 r1 fb fl sh df dy qs hs 0 he)) 0 0 (a0, oC mo aE aK fA r0 r1 fb fl sh df dy (qs + 1) hs 0 he)) H _ := hS
  rw [uV_uV] at hS
  refine lv_aload_n hx hb d_C_ask_19 rfl (lv_at hl 0 rfl) ?_
  refine lv_iload_n hx hb d_C_ask_20 rfl (lv_at hl 1 rfl) ?_
  refine lv_iload_n hx hb d_C_ask_21 rfl (lv_at hl 2 rfl) ?_
  refine lv_aload_n hx hb d_C_ask_22 rfl (lv_at hl 0 rfl) ?_
  refine r_get (k := 0) (i := 0) F hS f_C_64.get (uV_self _ _ _ _) rfl d_C_ask_23 ?_
  refine r_callV (k := 0) (i := 0) (q := ("RuleClasses", T_C, 15)) (fs := [.int mo, .ref aE, .ref aK, .ref fA, .ref r0, .ref r1, .ref fb, .ref fl, .ref sh, .ref df, .int dy, .int (qs + 1), .int hs, .int 0, .int he]) (As := [.int (nI on), .int (nI kn), .int dy]) (rest := []) F hS c_C_137 (k_C_countingEdition G l htr (uV V 0 0 (a0, oC mo aE aK fA r0 r1 fb fl sh df dy (qs + 1) hs 0 he)) a0 aE aK fA r0 r1 fb fl sh df mo dy (qs + 1) hs 0 he ne ea oA cA ow ki ed md ak sk fk ln po cs hE dE mcE hne hLE (nI on) (nI kn) dy (uV_self _ _ _ _)) rfl (uV_self _ _ _ _) rfl hl.1 rfl (Nat.le_of_ble_eq_true rfl) d_C_ask_26 ⟨Nat.le_of_ble_eq_true rfl, Nat.le_of_ble_eq_true rfl⟩ ⟨Nat.le_of_ble_eq_true rfl, Nat.le_of_ble_eq_true rfl⟩ (fun rv V1 H locs hR hS => ?_)
  obtain ⟨rfl, hV⟩ := hR
  rw [hV] at hS
  rw [hc]
  refine W.eq (g2 := F0 m 29 ls [.int (-1)]) rfl ?_
  refine lv_istore_n (lv' := [(3, .int (-1)), (0, .ref a0), (1, .int (nI on)), (2, .int (nI kn))]) hx hb d_C_ask_29 rfl hl (by decide) rfl (fun ls hl => ?_)
  refine lv_iload_n hx hb d_C_ask_30 rfl (lv_at hl 0 rfl) ?_
  refine lv_iconst (v := (-1)) hx hb d_C_ask_31 (by decide) ?_
  refine lv_icmp_ne (tgt := 45) hx hb d_C_ask_32 (by decide) (fun c_32 => absurd rfl c_32) (fun c_32 => ?_)
  refine lv_aload_n hx hb d_C_ask_35 rfl (lv_at hl 1 rfl) ?_
  refine r_get (k := 0) (i := 0) F hS f_C_57.get (uV_self _ _ _ _) rfl d_C_ask_36 ?_
  refine r_callV (k := 4) (i := 0) (q := ("RuleClasses$Run", T_U, 7)) (fs := [.int (nI m0), .ref s0, .int (nI h9), .int nx, .int oc, .int an, .int st]) (As := []) (rest := []) F hS c_C_141 (k_U_startNothing G l htr (uV V 0 0 (a0, oC mo aE aK fA r0 r1 fb fl sh df dy (qs + 1) hs 0 he)) 0 r0 s0 m0 nx oc an st h9 f0 hh h4 h5) rfl h4 rfl hl.1 rfl (Nat.le_of_ble_eq_true rfl) d_C_ask_39 ⟨Nat.le_of_ble_eq_true rfl, Nat.le_of_ble_eq_true rfl⟩ ⟨Nat.le_of_ble_eq_true rfl, Nat.le_of_ble_eq_true rfl⟩ (fun rv V1 H locs hR hS => ?_)
  obtain ⟨rfl, rfl⟩ := hR
  refine W.eq (g2 := F0 m 42 ls []) rfl ?_
  refine lv_goto (tgt := 67) hx hb d_C_ask_42 (by decide) ?_
  refine lv_aload_n hx hb d_C_ask_67 rfl (lv_at hl 1 rfl) ?_
  refine lv_iload_n hx hb d_C_ask_68 rfl (lv_at hl 2 rfl) ?_
  refine lv_iload_n hx hb d_C_ask_69 rfl (lv_at hl 3 rfl) ?_
  refine r_callS (As := [.int (nI on), .int (nI kn)]) (rest := [.ref a0]) F hS c_C_148 (k_C_place G l htr (uR G (uV V 0 0 (a0, oC mo aE aK fA r0 r1 fb fl sh df dy (qs + 1) hs 0 he)) 0 r0 s0 (nI m0) 0 0 0 0 0 f0) on kn) rfl hl.1 rfl (Nat.le_of_ble_eq_true rfl) d_C_ask_70 ⟨Nat.le_of_ble_eq_true rfl, Nat.le_of_ble_eq_true rfl⟩ ⟨Nat.le_of_ble_eq_true rfl, Nat.le_of_ble_eq_true rfl⟩ (fun rv V1 H locs hR hS => ?_)
  obtain ⟨rfl, hV⟩ := hR
  rw [hV] at hS
  refine W.eq (g2 := F0 m 73 ls [.int (nI (on * 3 + kn)), .ref a0]) rfl ?_
  refine r_callV (k := 0) (i := 0) (q := ("RuleClasses", T_C, 15)) (fs := [.int mo, .ref aE, .ref aK, .ref fA, .ref r0, .ref r1, .ref fb, .ref fl, .ref sh, .ref df, .int dy, .int (qs + 1), .int hs, .int 0, .int he]) (As := [.int (nI (on * 3 + kn))]) (rest := []) F hS c_C_151 (k_C_runShadow G l htr (uR G (uV V 0 0 (a0, oC mo aE aK fA r0 r1 fb fl sh df dy (qs + 1) hs 0 he)) 0 r0 s0 (nI m0) 0 0 0 0 0 f0) a0 aE aK fA r0 r1 fb fl sh df mo dy (qs + 1) hs 0 he ne ea oA cA ow ki ed md ak sk fk ln po cs (fun j hj => ⟨((uR_o (by decide) (by decide)).trans (hE j hj).1), ((uR_o (by decide) (by decide)).trans (hE j hj).2.1), ((uR_o (by decide) (by decide)).trans (hE j hj).2.2)⟩) dE mcE hne ⟨((uR_o (by decide) (by decide)).trans hLE.1), hLE.2⟩ hok s0 0 0 0 0 0 f0 m0 (by decide) hm9 vA fa s1 nx1 oc1 an1 st1 h19 f1 hh1 ss ds (on * 3 + kn) (by omega) ((uR_o (by decide) (by decide)).trans (uV_self _ _ _ _)) uR_4 uR_5 ((uR_o (by decide) (by decide)).trans h6) ((uR_o (by decide) (by decide)).trans h7) ((uR_ob (by decide)).trans h41) ((uR_ob (by decide)).trans h51) ((uR_o (by decide) (by decide)).trans h12) ((uR_o (by decide) (by decide)).trans h13)) rfl ((uR_o (by decide) (by decide)).trans (uV_self _ _ _ _)) rfl hl.1 rfl (Nat.le_of_ble_eq_true rfl) d_C_ask_73 ⟨Nat.le_of_ble_eq_true rfl, Nat.le_of_ble_eq_true rfl⟩ ⟨Nat.le_of_ble_eq_true rfl, Nat.le_of_ble_eq_true rfl⟩ (fun rv V1 H locs hR hS => ?_)
  obtain ⟨rfl, rfl⟩ := hR
  refine W.eq (g2 := F0 m 76 ls []) rfl ?_
  refine lv_iload_n hx hb d_C_ask_76 rfl (lv_at hl 0 rfl) ?_
  refine lv_iconst (v := (-1)) hx hb d_C_ask_77 (by decide) ?_
  refine lv_icmp_eq (tgt := 99) hx hb d_C_ask_78 (by decide) (fun c_78 => ?_) (fun c_78 => absurd rfl c_78)
  refine lv_aload_n hx hb d_C_ask_99 rfl (lv_at hl 1 rfl) ?_
  refine r_get (k := 0) (i := 0) F hS f_C_57.get ((shV_o (by decide) (by decide) (by decide)).trans ((uR_o (by decide) (by decide)).trans (uV_self _ _ _ _))) rfl d_C_ask_100 ?_
  refine r_get (k := 4) (i := 0) F hS f_C_124.get ((shV_0 (by decide)).trans uR_4) rfl d_C_ask_103 ?_
  refine lv_bipush (v := 6) hx hb d_C_ask_106 (by decide) ?_
  refine lv_icmp_ne (tgt := 119) hx hb d_C_ask_108 (by decide) (fun c_108 => ?_) (fun c_108 => absurd c_108 (by decide))
  refine lv_aload_n hx hb d_C_ask_119 rfl (lv_at hl 1 rfl) ?_
  refine r_get (k := 0) (i := 0) F hS f_C_30.get ((shV_o (by decide) (by decide) (by decide)).trans ((uR_o (by decide) (by decide)).trans (uV_self _ _ _ _))) rfl d_C_ask_120 ?_
  refine lv_iload_n hx hb d_C_ask_123 rfl (lv_at hl 2 rfl) ?_
  refine lv_bipush (v := 6) hx hb d_C_ask_124 (by decide) ?_
  refine lv_imul hx hb d_C_ask_126 ?_
  refine lv_aload_n hx hb d_C_ask_127 rfl (lv_at hl 1 rfl) ?_
  refine r_get (k := 0) (i := 0) F hS f_C_57.get ((shV_o (by decide) (by decide) (by decide)).trans ((uR_o (by decide) (by decide)).trans (uV_self _ _ _ _))) rfl d_C_ask_128 ?_
  refine r_get (k := 4) (i := 0) F hS f_C_124.get ((shV_0 (by decide)).trans uR_4) rfl d_C_ask_131 ?_
  refine lv_iadd hx hb d_C_ask_134 ?_
  rw [show nI on * 6 + (0 : Int32) = nI (on * 6 + 0) from nI_ma on 6 0]
  refine lv_dup2_11 hx hb d_C_ask_135 rfl rfl ?_
  refine r_iald (k := 11) (i := 0) F hS ((shV_o (by decide) (by decide) (by decide)).trans ((uR_o (by decide) (by decide)).trans h11)) (vp_in_nI (by omega) (by decide)) d_C_ask_136 ?_
  rw [nI_clamp (by omega)]
  refine lv_iconst (v := 1) hx hb d_C_ask_137 (by decide) ?_
  refine lv_iadd hx hb d_C_ask_138 ?_
  refine r_iast (k := 11) (i := 0) F hS ((shV_o (by decide) (by decide) (by decide)).trans ((uR_o (by decide) (by decide)).trans h11)) (vp_in_nI (by omega) (by decide)) d_C_ask_139 (fun H locs hS => ?_)
  rw [nI_clamp (by omega)] at hS
  have hS : HS G s (uV (shV G (uR G (uV V 0 0 (a0, oC mo aE aK fA r0 r1 fb fl sh df dy (qs + 1) hs 0 he)) 0 r0 s0 (nI m0) 0 0 0 0 0 f0) ne ss ds (on * 3 + kn) df r1 s1 m0 ln po cs fa ak f1 0 0) 11 0 (fl, aI G 36 (upd fs (on * 6 + 0) ((fs (on * 6 + 0)) + 1)))) H _ := hS
  refine lv_aload_n hx hb d_C_ask_140 rfl (lv_at hl 1 rfl) ?_
  refine r_get (k := 0) (i := 0) F hS f_C_26.get ((shV_o (by decide) (by decide) (by decide)).trans ((uR_o (by decide) (by decide)).trans (uV_self _ _ _ _))) rfl d_C_ask_141 ?_
  refine lv_iload_n hx hb d_C_ask_144 rfl (lv_at hl 3 rfl) ?_
  refine r_iald (k := 10) (i := 0) F hS ((shV_o (by decide) (by decide) (by decide)).trans ((uR_o (by decide) (by decide)).trans h10)) (vp_in_nI (by omega) (by decide)) d_C_ask_145 ?_
  rw [nI_clamp (by omega)]
  exact vx_ret (m_reti F hr hS (Nat.le_of_ble_eq_true rfl) (Nat.le_of_ble_eq_true rfl) ⟨rfl, rfl⟩ d_C_ask_146)
set_option maxHeartbeats 4000000 in
set_option maxRecDepth 100000 in
theorem k_C_ask_some (G : Gl) (l : Launch) (htr : l.stackTraces = false) (V : Vw) (a0 aE aK fA r0 r1 fb fl sh df : Nat) (mo dy qs hs lv he : Int32) (ne : Nat) (ea oA cA : Nat → Nat) (ow ki ed md ak sk fk : Nat → Int32) (ln : Nat → Nat) (po cs : Nat → Nat → Int32) (hE : EV G V ne ea oA cA ow ki ed md ak sk fk ln po cs) (dE : Nat) (mcE : Int32) (hne : ne ≤ 24) (hLE : LV G V 0 aE dE ne ea mcE) (hok : ∀ i, i < ne → okCode (ln i) (po i) (cs i)) (s0 : Nat) (nx oc an st : Int32) (h9 : Nat) (f0 : Nat → Int32) (m0 : Nat) (hh : h9 ≤ 8) (hm9 : m0 ≤ 1000) (vA : Nat) (fa : Nat → Int32) (s1 : Nat) (nx1 oc1 an1 st1 : Int32) (h19 : Nat) (f1 : Nat → Int32) (hh1 : h19 ≤ 8) (ss ds : Nat → Int32) (ff fs : Nat → Int32) (on kn : Nat) (hon : on ≤ 5) (hkn : kn ≤ 2) (i : Nat) (hi : i < ne) (hc : (pCnt ow ki ed md (nI on) (nI kn) dy ne).1 = nI i) (h0 : V 0 0 = some (a0, oC mo aE aK fA r0 r1 fb fl sh df dy qs hs lv he)) (h4 : V 4 0 = some (r0, oU s0 (nI m0) (nI h9) nx oc an st)) (h5 : V 5 0 = some (s0, aI G 8 f0)) (h6 : V 6 0 = some (fA, oF vA)) (h7 : V 7 0 = some (vA, aI G 8 fa)) (h41 : V 4 1 = some (r1, oU s1 (nI m0) (nI h19) nx1 oc1 an1 st1)) (h51 : V 5 1 = some (s1, aI G 8 f1)) (h12 : V 12 0 = some (sh, aI G 18 ss)) (h13 : V 13 0 = some (df, aI G 18 ds)) (h10 : V 10 0 = some (fb, aI G 3 ff)) (h11 : V 11 0 = some (fl, aI G 36 fs)) :
    Cx G l y_C_ask b_C_ask 4 (Option.some Jvm.ClassFile.FieldType.int) { frames := 8, cells := 2, slots := 12, locals := 141 } V [.ref a0, .int (nI on), .int (nI kn)] (fun rv V' => ((pRun (ln i) (po i) (cs i) fa (ak i) m0 0 0 0 0 f0).1 = 6 ∧ rv = some (.int (pRun (ln i) (po i) (cs i) fa (ak i) m0 0 0 0 0 f0).2.2.2.1) ∧ V' = uV (shV G (uR G (uV V 0 0 (a0, oC mo aE aK fA r0 r1 fb fl sh df dy (qs + 1) hs 0 he)) 0 r0 s0 (nI m0) (pRun (ln i) (po i) (cs i) fa (ak i) m0 0 0 0 0 f0).2.1 (pRun (ln i) (po i) (cs i) fa (ak i) m0 0 0 0 0 f0).2.2.1 (pRun (ln i) (po i) (cs i) fa (ak i) m0 0 0 0 0 f0).1 (pRun (ln i) (po i) (cs i) fa (ak i) m0 0 0 0 0 f0).2.2.2.1 (pRun (ln i) (po i) (cs i) fa (ak i) m0 0 0 0 0 f0).2.2.2.2.1 (pRun (ln i) (po i) (cs i) fa (ak i) m0 0 0 0 0 f0).2.2.2.2.2) ne ss ds (on * 3 + kn) df r1 s1 m0 ln po cs fa ak f1 (pRun (ln i) (po i) (cs i) fa (ak i) m0 0 0 0 0 f0).1 (pRun (ln i) (po i) (cs i) fa (ak i) m0 0 0 0 0 f0).2.2.2.1) 1 i ((ea i), oE (ow i) (ki i) (ed i) (oA i) (cA i) (nI (ln i)) (md i) (ak i + 1) (sk i + (pRun (ln i) (po i) (cs i) fa (ak i) m0 0 0 0 0 f0).2.2.2.2.1) (if (pRun (ln i) (po i) (cs i) fa (ak i) m0 0 0 0 0 f0).1 = 6 then fk i else fk i + 1))) ∨ ∃ c : Nat, c ≤ 5 ∧ (pRun (ln i) (po i) (cs i) fa (ak i) m0 0 0 0 0 f0).1 = nI c ∧ rv = some (.int (ff kn)) ∧ V' = uV (uV (shV G (uR G (uV V 0 0 (a0, oC mo aE aK fA r0 r1 fb fl sh df dy (qs + 1) hs 0 he)) 0 r0 s0 (nI m0) (pRun (ln i) (po i) (cs i) fa (ak i) m0 0 0 0 0 f0).2.1 (pRun (ln i) (po i) (cs i) fa (ak i) m0 0 0 0 0 f0).2.2.1 (pRun (ln i) (po i) (cs i) fa (ak i) m0 0 0 0 0 f0).1 (pRun (ln i) (po i) (cs i) fa (ak i) m0 0 0 0 0 f0).2.2.2.1 (pRun (ln i) (po i) (cs i) fa (ak i) m0 0 0 0 0 f0).2.2.2.2.1 (pRun (ln i) (po i) (cs i) fa (ak i) m0 0 0 0 0 f0).2.2.2.2.2) ne ss ds (on * 3 + kn) df r1 s1 m0 ln po cs fa ak f1 (pRun (ln i) (po i) (cs i) fa (ak i) m0 0 0 0 0 f0).1 (pRun (ln i) (po i) (cs i) fa (ak i) m0 0 0 0 0 f0).2.2.2.1) 1 i ((ea i), oE (ow i) (ki i) (ed i) (oA i) (cA i) (nI (ln i)) (md i) (ak i + 1) (sk i + (pRun (ln i) (po i) (cs i) fa (ak i) m0 0 0 0 0 f0).2.2.2.2.1) (if (pRun (ln i) (po i) (cs i) fa (ak i) m0 0 0 0 0 f0).1 = 6 then fk i else fk i + 1))) 11 0 (fl, aI G 36 (upd fs (on * 6 + c) (fs (on * 6 + c) + 1)))) (fun E V' => False) := by
  refine Cx.of htr (by decide) (Nat.le_of_ble_eq_true rfl) ?_
  intro p e s m args below meth c ls F hr hex hS hl
  obtain ⟨hx, hb, hml, hown, hts, hK, hlk, -⟩ := id F
  have hl : lv_has ls 4 [(0, .ref a0), (1, .int (nI on)), (2, .int (nI kn))] := hl
  refine lv_iload_n hx hb d_C_ask_0 rfl (lv_at hl 1 rfl) ?_
  refine lv_iload_n hx hb d_C_ask_1 rfl (lv_at hl 2 rfl) ?_
  refine r_xcallS (As := [.int (nI on), .int (nI kn)]) (rest := []) F hS c_C_74 (k_C_requireOwnerAndKind G l htr V (nI on) (nI kn)) rfl hl.1 rfl (Nat.le_of_ble_eq_true rfl) d_C_ask_2 ⟨Nat.le_of_ble_eq_true rfl, Nat.le_of_ble_eq_true rfl⟩ ⟨Nat.le_of_ble_eq_true rfl, Nat.le_of_ble_eq_true rfl⟩ (fun q9 E9 ce V1 H locs hT hS hce => ?_) (fun rv V1 H locs hR hS => ?_)
  · obtain ⟨rfl, hV, hbad⟩ := hT
    exact absurd hbad (ok_own hon hkn)
  obtain ⟨rfl, hV, -⟩ := hR
  rw [hV] at hS
  refine W.eq (g2 := F0 m 5 ls []) rfl ?_
  refine lv_aload_n hx hb d_C_ask_5 rfl (lv_at hl 0 rfl) ?_
  refine r_callV (k := 0) (i := 0) (q := ("RuleClasses", T_C, 15)) (fs := [.int mo, .ref aE, .ref aK, .ref fA, .ref r0, .ref r1, .ref fb, .ref fl, .ref sh, .ref df, .int dy, .int qs, .int hs, .int lv, .int he]) (As := []) (rest := []) F hS c_C_71 (k_C_endHandle G l htr V a0 aE aK fA r0 r1 fb fl sh df mo dy qs hs lv he h0) rfl h0 rfl hl.1 rfl (Nat.le_of_ble_eq_true rfl) d_C_ask_6 ⟨Nat.le_of_ble_eq_true rfl, Nat.le_of_ble_eq_true rfl⟩ ⟨Nat.le_of_ble_eq_true rfl, Nat.le_of_ble_eq_true rfl⟩ (fun rv V1 H locs hR hS => ?_)
  obtain ⟨rfl, rfl⟩ := hR
  refine W.eq (g2 := F0 m 9 ls []) rfl ?_
  refine lv_aload_n hx hb d_C_ask_9 rfl (lv_at hl 0 rfl) ?_
  refine lv_dup hx hb d_C_ask_10 rfl ?_
  refine r_get (k := 0) (i := 0) F hS f_C_134.get (uV_self _ _ _ _) rfl d_C_ask_11 ?_
  refine lv_iconst (v := 1) hx hb d_C_ask_14 (by decide) ?_
  refine lv_iadd hx hb d_C_ask_15 ?_
  refine r_put (k := 0) (i := 0) F hS f_C_134 ct_C (uV_self _ _ _ _) rfl rfl (Nat.le_of_ble_eq_true rfl) d_C_ask_16 (fun H locs hS => ?_)
  have hS : HS G s (uV (uV V 0 0 (a0, oC mo aE aK fA r0 r1 fb fl sh df dy qs hs 0 he)) 0 0 (a0, oC mo aE aK fA r0 r1 fb fl sh df dy (qs + 1) hs 0 he)) H _ := hS
  rw [uV_uV] at hS
  refine lv_aload_n hx hb d_C_ask_19 rfl (lv_at hl 0 rfl) ?_
  refine lv_iload_n hx hb d_C_ask_20 rfl (lv_at hl 1 rfl) ?_
  refine lv_iload_n hx hb d_C_ask_21 rfl (lv_at hl 2 rfl) ?_
  refine lv_aload_n hx hb d_C_ask_22 rfl (lv_at hl 0 rfl) ?_
  refine r_get (k := 0) (i := 0) F hS f_C_64.get (uV_self _ _ _ _) rfl d_C_ask_23 ?_
  refine r_callV (k := 0) (i := 0) (q := ("RuleClasses", T_C, 15)) (fs := [.int mo, .ref aE, .ref aK, .ref fA, .ref r0, .ref r1, .ref fb, .ref fl, .ref sh, .ref df, .int dy, .int (qs + 1), .int hs, .int 0, .int he]) (As := [.int (nI on), .int (nI kn), .int dy]) (rest := []) F hS c_C_137 (k_C_countingEdition G l htr (uV V 0 0 (a0, oC mo aE aK fA r0 r1 fb fl sh df dy (qs + 1) hs 0 he)) a0 aE aK fA r0 r1 fb fl sh df mo dy (qs + 1) hs 0 he ne ea oA cA ow ki ed md ak sk fk ln po cs hE dE mcE hne hLE (nI on) (nI kn) dy (uV_self _ _ _ _)) rfl (uV_self _ _ _ _) rfl hl.1 rfl (Nat.le_of_ble_eq_true rfl) d_C_ask_26 ⟨Nat.le_of_ble_eq_true rfl, Nat.le_of_ble_eq_true rfl⟩ ⟨Nat.le_of_ble_eq_true rfl, Nat.le_of_ble_eq_true rfl⟩ (fun rv V1 H locs hR hS => ?_)
  obtain ⟨rfl, hV⟩ := hR
  rw [hV] at hS
  rw [hc]
  refine W.eq (g2 := F0 m 29 ls [.int (nI i)]) rfl ?_
  refine lv_istore_n (lv' := [(3, .int (nI i)), (0, .ref a0), (1, .int (nI on)), (2, .int (nI kn))]) hx hb d_C_ask_29 rfl hl (by decide) rfl (fun ls hl => ?_)
  refine lv_iload_n hx hb d_C_ask_30 rfl (lv_at hl 0 rfl) ?_
  refine lv_iconst (v := (-1)) hx hb d_C_ask_31 (by decide) ?_
  refine lv_icmp_ne (tgt := 45) hx hb d_C_ask_32 (by decide) (fun c_32 => ?_) (fun c_32 => absurd c_32 (nI_nm1 (by omega)))
  refine lv_aload_n hx hb d_C_ask_45 rfl (lv_at hl 1 rfl) ?_
  refine r_get (k := 0) (i := 0) F hS f_C_57.get (uV_self _ _ _ _) rfl d_C_ask_46 ?_
  refine lv_aload_n hx hb d_C_ask_49 rfl (lv_at hl 1 rfl) ?_
  refine r_get (k := 0) (i := 0) F hS f_C_10.get (uV_self _ _ _ _) rfl d_C_ask_50 ?_
  refine lv_iload_n hx hb d_C_ask_53 rfl (lv_at hl 0 rfl) ?_
  obtain ⟨cap, hcap0, hcap1, hcap2, hc9⟩ : ∃ cap : Nat, 0 < cap ∧ ne ≤ cap ∧ cap ≤ 36 ∧ V 9 0 = some (dE, aQ G cap (lF ne ea)) := hLE.2.resolve_left (fun z => by have z1 := z.1; omega)
  refine r_callV (k := 8) (i := 0) (q := ("java/util/ArrayList", T_A, 3)) (fs := [.int mcE, .ref dE, .int (nI ne)]) (As := [.int (nI i)]) (rest := [.ref r0]) F hS c_C_144 (k_A_get G l htr (uV V 0 0 (a0, oC mo aE aK fA r0 r1 fb fl sh df dy (qs + 1) hs 0 he)) 0 aE dE ne cap i ea mcE hi hcap1 hcap2 hLE.1 hc9) rfl hLE.1 rfl hl.1 rfl (Nat.le_of_ble_eq_true rfl) d_C_ask_54 ⟨Nat.le_of_ble_eq_true rfl, Nat.le_of_ble_eq_true rfl⟩ ⟨Nat.le_of_ble_eq_true rfl, Nat.le_of_ble_eq_true rfl⟩ (fun rv V1 H locs hR hS => ?_)
  obtain ⟨rfl, hV⟩ := hR
  rw [hV] at hS
  refine W.eq (g2 := F0 m 57 ls [.ref (ea i), .ref r0]) rfl ?_
  refine r_cast (k := 1) (i := i) F hS (q := ("RuleClasses$Edition", T_E, 10)) (fs := [.int (ow i), .int (ki i), .int (ed i), .ref (oA i), .ref (cA i), .int (nI (ln i)), .int (md i), .int (ak i), .int (sk i), .int (fk i)]) rfl (hE i hi).1 m_180 d_C_ask_57 ?_
  refine lv_aload_n hx hb d_C_ask_60 rfl (lv_at hl 1 rfl) ?_
  refine r_get (k := 0) (i := 0) F hS f_C_22.get (uV_self _ _ _ _) rfl d_C_ask_61 ?_
  refine r_callV (k := 4) (i := 0) (q := ("RuleClasses$Run", T_U, 7)) (fs := [.int (nI m0), .ref s0, .int (nI h9), .int nx, .int oc, .int an, .int st]) (As := [.ref (ea i), .ref fA]) (rest := []) F hS c_C_120 (k_U_start G l htr (uV V 0 0 (a0, oC mo aE aK fA r0 r1 fb fl sh df dy (qs + 1) hs 0 he)) 0 r0 s0 nx oc an st h9 f0 m0 hh hm9 i 0 (ea i) (oA i) (cA i) fA vA (ow i) (ki i) (ed i) (md i) (ak i) (sk i) (fk i) (ln i) (po i) (cs i) fa (hok i hi) h4 h5 (hE i hi).1 (hE i hi).2.1 (hE i hi).2.2 h6 h7) rfl h4 rfl hl.1 rfl (Nat.le_of_ble_eq_true rfl) d_C_ask_64 ⟨Nat.le_of_ble_eq_true rfl, Nat.le_of_ble_eq_true rfl⟩ ⟨Nat.le_of_ble_eq_true rfl, Nat.le_of_ble_eq_true rfl⟩ (fun rv V1 H locs hR hS => ?_)
  obtain ⟨rfl, rfl⟩ := hR
  refine W.eq (g2 := F0 m 67 ls []) rfl ?_
  refine lv_aload_n hx hb d_C_ask_67 rfl (lv_at hl 1 rfl) ?_
  refine lv_iload_n hx hb d_C_ask_68 rfl (lv_at hl 2 rfl) ?_
  refine lv_iload_n hx hb d_C_ask_69 rfl (lv_at hl 3 rfl) ?_
  refine r_callS (As := [.int (nI on), .int (nI kn)]) (rest := [.ref a0]) F hS c_C_148 (k_C_place G l htr (uR G (uV V 0 0 (a0, oC mo aE aK fA r0 r1 fb fl sh df dy (qs + 1) hs 0 he)) 0 r0 s0 (nI m0) (pRun (ln i) (po i) (cs i) fa (ak i) m0 0 0 0 0 f0).2.1 (pRun (ln i) (po i) (cs i) fa (ak i) m0 0 0 0 0 f0).2.2.1 (pRun (ln i) (po i) (cs i) fa (ak i) m0 0 0 0 0 f0).1 (pRun (ln i) (po i) (cs i) fa (ak i) m0 0 0 0 0 f0).2.2.2.1 (pRun (ln i) (po i) (cs i) fa (ak i) m0 0 0 0 0 f0).2.2.2.2.1 (pRun (ln i) (po i) (cs i) fa (ak i) m0 0 0 0 0 f0).2.2.2.2.2) on kn) rfl hl.1 rfl (Nat.le_of_ble_eq_true rfl) d_C_ask_70 ⟨Nat.le_of_ble_eq_true rfl, Nat.le_of_ble_eq_true rfl⟩ ⟨Nat.le_of_ble_eq_true rfl, Nat.le_of_ble_eq_true rfl⟩ (fun rv V1 H locs hR hS => ?_)
  obtain ⟨rfl, hV⟩ := hR
  rw [hV] at hS
  refine W.eq (g2 := F0 m 73 ls [.int (nI (on * 3 + kn)), .ref a0]) rfl ?_
  refine r_callV (k := 0) (i := 0) (q := ("RuleClasses", T_C, 15)) (fs := [.int mo, .ref aE, .ref aK, .ref fA, .ref r0, .ref r1, .ref fb, .ref fl, .ref sh, .ref df, .int dy, .int (qs + 1), .int hs, .int 0, .int he]) (As := [.int (nI (on * 3 + kn))]) (rest := []) F hS c_C_151 (k_C_runShadow G l htr (uR G (uV V 0 0 (a0, oC mo aE aK fA r0 r1 fb fl sh df dy (qs + 1) hs 0 he)) 0 r0 s0 (nI m0) (pRun (ln i) (po i) (cs i) fa (ak i) m0 0 0 0 0 f0).2.1 (pRun (ln i) (po i) (cs i) fa (ak i) m0 0 0 0 0 f0).2.2.1 (pRun (ln i) (po i) (cs i) fa (ak i) m0 0 0 0 0 f0).1 (pRun (ln i) (po i) (cs i) fa (ak i) m0 0 0 0 0 f0).2.2.2.1 (pRun (ln i) (po i) (cs i) fa (ak i) m0 0 0 0 0 f0).2.2.2.2.1 (pRun (ln i) (po i) (cs i) fa (ak i) m0 0 0 0 0 f0).2.2.2.2.2) a0 aE aK fA r0 r1 fb fl sh df mo dy (qs + 1) hs 0 he ne ea oA cA ow ki ed md ak sk fk ln po cs (fun j hj => ⟨((uR_o (by decide) (by decide)).trans (hE j hj).1), ((uR_o (by decide) (by decide)).trans (hE j hj).2.1), ((uR_o (by decide) (by decide)).trans (hE j hj).2.2)⟩) dE mcE hne ⟨((uR_o (by decide) (by decide)).trans hLE.1), hLE.2⟩ hok s0 ((pRun (ln i) (po i) (cs i) fa (ak i) m0 0 0 0 0 f0).2.2.1) ((pRun (ln i) (po i) (cs i) fa (ak i) m0 0 0 0 0 f0).1) ((pRun (ln i) (po i) (cs i) fa (ak i) m0 0 0 0 0 f0).2.2.2.1) ((pRun (ln i) (po i) (cs i) fa (ak i) m0 0 0 0 0 f0).2.2.2.2.1) ((pRun (ln i) (po i) (cs i) fa (ak i) m0 0 0 0 0 f0).2.1) ((pRun (ln i) (po i) (cs i) fa (ak i) m0 0 0 0 0 f0).2.2.2.2.2) m0 (pRun_h (by decide)) hm9 vA fa s1 nx1 oc1 an1 st1 h19 f1 hh1 ss ds (on * 3 + kn) (by omega) ((uR_o (by decide) (by decide)).trans (uV_self _ _ _ _)) uR_4 uR_5 ((uR_o (by decide) (by decide)).trans h6) ((uR_o (by decide) (by decide)).trans h7) ((uR_ob (by decide)).trans h41) ((uR_ob (by decide)).trans h51) ((uR_o (by decide) (by decide)).trans h12) ((uR_o (by decide) (by decide)).trans h13)) rfl ((uR_o (by decide) (by decide)).trans (uV_self _ _ _ _)) rfl hl.1 rfl (Nat.le_of_ble_eq_true rfl) d_C_ask_73 ⟨Nat.le_of_ble_eq_true rfl, Nat.le_of_ble_eq_true rfl⟩ ⟨Nat.le_of_ble_eq_true rfl, Nat.le_of_ble_eq_true rfl⟩ (fun rv V1 H locs hR hS => ?_)
  obtain ⟨rfl, rfl⟩ := hR
  refine W.eq (g2 := F0 m 76 ls []) rfl ?_
  refine lv_iload_n hx hb d_C_ask_76 rfl (lv_at hl 0 rfl) ?_
  refine lv_iconst (v := (-1)) hx hb d_C_ask_77 (by decide) ?_
  refine lv_icmp_eq (tgt := 99) hx hb d_C_ask_78 (by decide) (fun c_78 => absurd c_78 (nI_nm1 (by omega))) (fun c_78 => ?_)
  refine lv_aload_n hx hb d_C_ask_81 rfl (lv_at hl 1 rfl) ?_
  refine r_get (k := 0) (i := 0) F hS f_C_10.get ((shV_o (by decide) (by decide) (by decide)).trans ((uR_o (by decide) (by decide)).trans (uV_self _ _ _ _))) rfl d_C_ask_82 ?_
  refine lv_iload_n hx hb d_C_ask_85 rfl (lv_at hl 0 rfl) ?_
  refine r_callV (k := 8) (i := 0) (q := ("java/util/ArrayList", T_A, 3)) (fs := [.int mcE, .ref dE, .int (nI ne)]) (As := [.int (nI i)]) (rest := []) F hS c_C_144 (k_A_get G l htr (shV G (uR G (uV V 0 0 (a0, oC mo aE aK fA r0 r1 fb fl sh df dy (qs + 1) hs 0 he)) 0 r0 s0 (nI m0) (pRun (ln i) (po i) (cs i) fa (ak i) m0 0 0 0 0 f0).2.1 (pRun (ln i) (po i) (cs i) fa (ak i) m0 0 0 0 0 f0).2.2.1 (pRun (ln i) (po i) (cs i) fa (ak i) m0 0 0 0 0 f0).1 (pRun (ln i) (po i) (cs i) fa (ak i) m0 0 0 0 0 f0).2.2.2.1 (pRun (ln i) (po i) (cs i) fa (ak i) m0 0 0 0 0 f0).2.2.2.2.1 (pRun (ln i) (po i) (cs i) fa (ak i) m0 0 0 0 0 f0).2.2.2.2.2) ne ss ds (on * 3 + kn) df r1 s1 m0 ln po cs fa ak f1 ((pRun (ln i) (po i) (cs i) fa (ak i) m0 0 0 0 0 f0).1) ((pRun (ln i) (po i) (cs i) fa (ak i) m0 0 0 0 0 f0).2.2.2.1)) 0 aE dE ne cap i ea mcE hi hcap1 hcap2 ((shV_o (by decide) (by decide) (by decide)).trans ((uR_o (by decide) (by decide)).trans hLE.1)) ((shV_o (by decide) (by decide) (by decide)).trans ((uR_o (by decide) (by decide)).trans hc9))) rfl ((shV_o (by decide) (by decide) (by decide)).trans ((uR_o (by decide) (by decide)).trans hLE.1)) rfl hl.1 rfl (Nat.le_of_ble_eq_true rfl) d_C_ask_86 ⟨Nat.le_of_ble_eq_true rfl, Nat.le_of_ble_eq_true rfl⟩ ⟨Nat.le_of_ble_eq_true rfl, Nat.le_of_ble_eq_true rfl⟩ (fun rv V1 H locs hR hS => ?_)
  obtain ⟨rfl, hV⟩ := hR
  rw [hV] at hS
  refine W.eq (g2 := F0 m 89 ls [.ref (ea i)]) rfl ?_
  refine r_cast (k := 1) (i := i) F hS (q := ("RuleClasses$Edition", T_E, 10)) (fs := [.int (ow i), .int (ki i), .int (ed i), .ref (oA i), .ref (cA i), .int (nI (ln i)), .int (md i), .int (ak i), .int (sk i), .int (fk i)]) rfl ((shV_o (by decide) (by decide) (by decide)).trans ((uR_o (by decide) (by decide)).trans ((hE i hi).1))) m_180 d_C_ask_89 ?_
  refine lv_aload_n hx hb d_C_ask_92 rfl (lv_at hl 1 rfl) ?_
  refine r_get (k := 0) (i := 0) F hS f_C_57.get ((shV_o (by decide) (by decide) (by decide)).trans ((uR_o (by decide) (by decide)).trans (uV_self _ _ _ _))) rfl d_C_ask_93 ?_
  refine r_callV (k := 1) (i := i) (q := ("RuleClasses$Edition", T_E, 10)) (fs := [.int (ow i), .int (ki i), .int (ed i), .ref (oA i), .ref (cA i), .int (nI (ln i)), .int (md i), .int (ak i), .int (sk i), .int (fk i)]) (As := [.ref r0]) (rest := []) F hS c_C_154 (k_E_noteQuestion G l htr (shV G (uR G (uV V 0 0 (a0, oC mo aE aK fA r0 r1 fb fl sh df dy (qs + 1) hs 0 he)) 0 r0 s0 (nI m0) (pRun (ln i) (po i) (cs i) fa (ak i) m0 0 0 0 0 f0).2.1 (pRun (ln i) (po i) (cs i) fa (ak i) m0 0 0 0 0 f0).2.2.1 (pRun (ln i) (po i) (cs i) fa (ak i) m0 0 0 0 0 f0).1 (pRun (ln i) (po i) (cs i) fa (ak i) m0 0 0 0 0 f0).2.2.2.1 (pRun (ln i) (po i) (cs i) fa (ak i) m0 0 0 0 0 f0).2.2.2.2.1 (pRun (ln i) (po i) (cs i) fa (ak i) m0 0 0 0 0 f0).2.2.2.2.2) ne ss ds (on * 3 + kn) df r1 s1 m0 ln po cs fa ak f1 ((pRun (ln i) (po i) (cs i) fa (ak i) m0 0 0 0 0 f0).1) ((pRun (ln i) (po i) (cs i) fa (ak i) m0 0 0 0 0 f0).2.2.2.1)) i (ea i) (oA i) (cA i) (ow i) (ki i) (ed i) (md i) (ak i) (sk i) (fk i) (ln i) 0 r0 s0 (nI m0) (nI (pRun (ln i) (po i) (cs i) fa (ak i) m0 0 0 0 0 f0).2.1) (pRun (ln i) (po i) (cs i) fa (ak i) m0 0 0 0 0 f0).2.2.1 (pRun (ln i) (po i) (cs i) fa (ak i) m0 0 0 0 0 f0).1 (pRun (ln i) (po i) (cs i) fa (ak i) m0 0 0 0 0 f0).2.2.2.1 (pRun (ln i) (po i) (cs i) fa (ak i) m0 0 0 0 0 f0).2.2.2.2.1 ((shV_o (by decide) (by decide) (by decide)).trans ((uR_o (by decide) (by decide)).trans ((hE i hi).1))) ((shV_0 (by decide)).trans uR_4)) rfl ((shV_o (by decide) (by decide) (by decide)).trans ((uR_o (by decide) (by decide)).trans ((hE i hi).1))) rfl hl.1 rfl (Nat.le_of_ble_eq_true rfl) d_C_ask_96 ⟨Nat.le_of_ble_eq_true rfl, Nat.le_of_ble_eq_true rfl⟩ ⟨Nat.le_of_ble_eq_true rfl, Nat.le_of_ble_eq_true rfl⟩ (fun rv V1 H locs hR hS => ?_)
  obtain ⟨rfl, rfl⟩ := hR
  refine W.eq (g2 := F0 m 99 ls []) rfl ?_
  refine lv_aload_n hx hb d_C_ask_99 rfl (lv_at hl 1 rfl) ?_
  refine r_get (k := 0) (i := 0) F hS f_C_57.get ((shV_o (by decide) (by decide) (by decide)).trans ((uR_o (by decide) (by decide)).trans (uV_self _ _ _ _))) rfl d_C_ask_100 ?_
  refine r_get (k := 4) (i := 0) F hS f_C_124.get ((shV_0 (by decide)).trans uR_4) rfl d_C_ask_103 ?_
  refine lv_bipush (v := 6) hx hb d_C_ask_106 (by decide) ?_
  refine lv_icmp_ne (tgt := 119) hx hb d_C_ask_108 (by decide) (fun c_108 => ?_) (fun c_108 => ?_)
  · obtain ⟨c, hc6, ec⟩ : ∃ c : Nat, c ≤ 6 ∧ (pRun (ln i) (po i) (cs i) fa (ak i) m0 0 0 0 0 f0).1 = nI c := pRun_in _ _ _ _ _ _ _ _ _ _ _
    have hc5 : c ≤ 5 := by
      rcases Nat.lt_or_eq_of_le hc6 with z | z
      · omega
      · exact absurd (ec.trans (by rw [z]; rfl)) c_108
    refine lv_aload_n hx hb d_C_ask_119 rfl (lv_at hl 1 rfl) ?_
    refine r_get (k := 0) (i := 0) F hS f_C_30.get ((shV_o (by decide) (by decide) (by decide)).trans ((uR_o (by decide) (by decide)).trans (uV_self _ _ _ _))) rfl d_C_ask_120 ?_
    refine lv_iload_n hx hb d_C_ask_123 rfl (lv_at hl 2 rfl) ?_
    refine lv_bipush (v := 6) hx hb d_C_ask_124 (by decide) ?_
    refine lv_imul hx hb d_C_ask_126 ?_
    refine lv_aload_n hx hb d_C_ask_127 rfl (lv_at hl 1 rfl) ?_
    refine r_get (k := 0) (i := 0) F hS f_C_57.get ((shV_o (by decide) (by decide) (by decide)).trans ((uR_o (by decide) (by decide)).trans (uV_self _ _ _ _))) rfl d_C_ask_128 ?_
    refine r_get (k := 4) (i := 0) F hS f_C_124.get ((shV_0 (by decide)).trans uR_4) rfl d_C_ask_131 ?_
    refine lv_iadd hx hb d_C_ask_134 ?_
    rw [show nI on * 6 + (pRun (ln i) (po i) (cs i) fa (ak i) m0 0 0 0 0 f0).1 = nI (on * 6 + c) from by rw [ec]; exact nI_ma on 6 c]
    refine lv_dup2_11 hx hb d_C_ask_135 rfl rfl ?_
    refine r_iald (k := 11) (i := 0) F hS ((shV_o (by decide) (by decide) (by decide)).trans ((uR_o (by decide) (by decide)).trans h11)) (vp_in_nI (by omega) (by decide)) d_C_ask_136 ?_
    rw [nI_clamp (by omega)]
    refine lv_iconst (v := 1) hx hb d_C_ask_137 (by decide) ?_
    refine lv_iadd hx hb d_C_ask_138 ?_
    refine r_iast (k := 11) (i := 0) F hS ((shV_o (by decide) (by decide) (by decide)).trans ((uR_o (by decide) (by decide)).trans h11)) (vp_in_nI (by omega) (by decide)) d_C_ask_139 (fun H locs hS => ?_)
    rw [nI_clamp (by omega)] at hS
    have hS : HS G s (uV (uV (shV G (uR G (uV V 0 0 (a0, oC mo aE aK fA r0 r1 fb fl sh df dy (qs + 1) hs 0 he)) 0 r0 s0 (nI m0) (pRun (ln i) (po i) (cs i) fa (ak i) m0 0 0 0 0 f0).2.1 (pRun (ln i) (po i) (cs i) fa (ak i) m0 0 0 0 0 f0).2.2.1 (pRun (ln i) (po i) (cs i) fa (ak i) m0 0 0 0 0 f0).1 (pRun (ln i) (po i) (cs i) fa (ak i) m0 0 0 0 0 f0).2.2.2.1 (pRun (ln i) (po i) (cs i) fa (ak i) m0 0 0 0 0 f0).2.2.2.2.1 (pRun (ln i) (po i) (cs i) fa (ak i) m0 0 0 0 0 f0).2.2.2.2.2) ne ss ds (on * 3 + kn) df r1 s1 m0 ln po cs fa ak f1 (pRun (ln i) (po i) (cs i) fa (ak i) m0 0 0 0 0 f0).1 (pRun (ln i) (po i) (cs i) fa (ak i) m0 0 0 0 0 f0).2.2.2.1) 1 i ((ea i), oE (ow i) (ki i) (ed i) (oA i) (cA i) (nI (ln i)) (md i) (ak i + 1) (sk i + (pRun (ln i) (po i) (cs i) fa (ak i) m0 0 0 0 0 f0).2.2.2.2.1) (if (pRun (ln i) (po i) (cs i) fa (ak i) m0 0 0 0 0 f0).1 = 6 then fk i else fk i + 1))) 11 0 (fl, aI G 36 (upd fs (on * 6 + c) ((fs (on * 6 + c)) + 1)))) H _ := hS
    refine lv_aload_n hx hb d_C_ask_140 rfl (lv_at hl 1 rfl) ?_
    refine r_get (k := 0) (i := 0) F hS f_C_26.get ((shV_o (by decide) (by decide) (by decide)).trans ((uR_o (by decide) (by decide)).trans (uV_self _ _ _ _))) rfl d_C_ask_141 ?_
    refine lv_iload_n hx hb d_C_ask_144 rfl (lv_at hl 3 rfl) ?_
    refine r_iald (k := 10) (i := 0) F hS ((shV_o (by decide) (by decide) (by decide)).trans ((uR_o (by decide) (by decide)).trans h10)) (vp_in_nI (by omega) (by decide)) d_C_ask_145 ?_
    rw [nI_clamp (by omega)]
    exact vx_ret (m_reti F hr hS (Nat.le_of_ble_eq_true rfl) (Nat.le_of_ble_eq_true rfl) (Or.inr ⟨c, hc5, ec, rfl, rfl⟩) d_C_ask_146)
  · refine lv_aload_n hx hb d_C_ask_111 rfl (lv_at hl 1 rfl) ?_
    refine r_get (k := 0) (i := 0) F hS f_C_57.get ((shV_o (by decide) (by decide) (by decide)).trans ((uR_o (by decide) (by decide)).trans (uV_self _ _ _ _))) rfl d_C_ask_112 ?_
    refine r_get (k := 4) (i := 0) F hS f_C_158.get ((shV_0 (by decide)).trans uR_4) rfl d_C_ask_115 ?_
    exact vx_ret (m_reti F hr hS (Nat.le_of_ble_eq_true rfl) (Nat.le_of_ble_eq_true rfl) (Or.inl ⟨c_108, rfl, rfl⟩) d_C_ask_118)
set_option maxHeartbeats 4000000 in
set_option maxRecDepth 100000 in
theorem k_C_ask_bad (G : Gl) (l : Launch) (htr : l.stackTraces = false) (V : Vw) (a0 : Nat) (o k : Int32) (hbk : ((o < 0 ∨ 5 < o) ∨ (k < 0 ∨ 2 < k)))  :
    Cx G l y_C_ask b_C_ask 4 (Option.some Jvm.ClassFile.FieldType.int) { frames := 8, cells := 2, slots := 12, locals := 141 } V [.ref a0, .int o, .int k] (fun rv V' => False) (fun E V' => E = "java/lang/IllegalArgumentException" ∧ V' = V) := by
  refine Cx.of htr (by decide) (Nat.le_of_ble_eq_true rfl) ?_
  intro p e s m args below meth c ls F hr hex hS hl
  obtain ⟨hx, hb, hml, hown, hts, hK, hlk, -⟩ := id F
  have hl : lv_has ls 4 [(0, .ref a0), (1, .int o), (2, .int k)] := hl
  refine lv_iload_n hx hb d_C_ask_0 rfl (lv_at hl 1 rfl) ?_
  refine lv_iload_n hx hb d_C_ask_1 rfl (lv_at hl 2 rfl) ?_
  refine r_xcallS (As := [.int o, .int k]) (rest := []) F hS c_C_74 (k_C_requireOwnerAndKind G l htr V o k) rfl hl.1 rfl (Nat.le_of_ble_eq_true rfl) d_C_ask_2 ⟨Nat.le_of_ble_eq_true rfl, Nat.le_of_ble_eq_true rfl⟩ ⟨Nat.le_of_ble_eq_true rfl, Nat.le_of_ble_eq_true rfl⟩ (fun q9 E9 ce V1 H locs hT hS hce => ?_) (fun rv V1 H locs hR hS => ?_)
  · obtain ⟨rfl, hV, hbad⟩ := hT
    rw [hV] at hS
    exact x_out F hex hS hce ⟨rfl, rfl⟩ (Nat.le_of_ble_eq_true rfl) (Nat.le_of_ble_eq_true rfl)
  obtain ⟨rfl, hV, on, kn, hon, hkn, rfl, rfl⟩ := hR
  exact absurd hbk (ok_own hon hkn)

set_option maxHeartbeats 4000000 in
set_option maxRecDepth 100000 in
theorem k_U_take (G : Gl) (l : Launch) (htr : l.stackTraces = false) (V : Vw) (b r sA : Nat) (mo nx oc an st : Int32) (h : Nat) (f : Nat → Int32) (hh : h ≤ 8) (h4 : V 4 b = some (r, oU sA mo (nI h) nx oc an st)) (h5 : V 5 b = some (sA, aI G 8 f)) :
    Cm G l y_U_take b_U_take 1 (Option.some Jvm.ClassFile.FieldType.int) { frames := 0, cells := 0, slots := 0, locals := 0 } V [.ref r] (fun rv V' => rv = some (.int (pTake h f)) ∧ V' = uR G V b r sA mo (h - 1) nx oc an st f) := by
  refine Cm.of htr (by decide) (Nat.le_of_ble_eq_true rfl) ?_
  intro p e s m args below meth c ls F hr hnm hS hl
  obtain ⟨hx, hb, hml, hown, hts, hK, hlk, -⟩ := id F
  have hl : lv_has ls 1 [(0, .ref r)] := hl
  refine lv_aload_n hx hb d_U_take_0 rfl (lv_at hl 0 rfl) ?_
  refine r_get (k := 4) (i := b) F hS f_U_32.get h4 rfl d_U_take_1 ?_
  refine lv_if_gt (tgt := 9) hx hb d_U_take_4 (by decide) (fun c_4 => ?_) (fun c_4 => ?_)
  · have h0 : 0 < h := (nI_0lt (by omega)).mp c_4
    refine lv_aload_n hx hb d_U_take_9 rfl (lv_at hl 0 rfl) ?_
    refine lv_dup hx hb d_U_take_10 rfl ?_
    refine r_get (k := 4) (i := b) F hS f_U_32.get h4 rfl d_U_take_11 ?_
    refine lv_iconst (v := 1) hx hb d_U_take_14 (by decide) ?_
    refine lv_isub hx hb d_U_take_15 ?_
    rw [nI_m1 h0]
    refine r_put (k := 4) (i := b) F hS f_U_32 ct_U h4 rfl rfl (Nat.le_of_ble_eq_true rfl) d_U_take_16 (fun H locs hS => ?_)
    have hS : HS G s (uV V 4 b (r, oU sA mo (nI (h - 1)) nx oc an st)) H _ := hS
    refine lv_aload_n hx hb d_U_take_19 rfl (lv_at hl 0 rfl) ?_
    refine r_get (k := 4) (i := b) F hS f_U_9.get (uV_self _ _ _ _) rfl d_U_take_20 ?_
    refine lv_aload_n hx hb d_U_take_23 rfl (lv_at hl 0 rfl) ?_
    refine r_get (k := 4) (i := b) F hS f_U_32.get (uV_self _ _ _ _) rfl d_U_take_24 ?_
    refine r_iald (k := 5) (i := b) F hS h5 (vp_in_nI (by omega) (by decide)) d_U_take_27 ?_
    rw [nI_clamp (by omega)]
    exact m_reti F hr hS (Nat.le_of_ble_eq_true rfl) (Nat.le_of_ble_eq_true rfl) ⟨by rw [pTake, if_neg (by omega)], uR_of4 h5⟩ d_U_take_28
  · have h0 : h = 0 := by
      rcases Nat.eq_zero_or_pos h with q | q
      · exact q
      · exact absurd ((nI_0lt (by omega)).mpr q) c_4
    subst h0
    refine lv_iconst (v := 0) hx hb d_U_take_7 (by decide) ?_
    exact m_reti F hr hS (Nat.le_of_ble_eq_true rfl) (Nat.le_of_ble_eq_true rfl) ⟨rfl, (uR_id h4 h5).symm⟩ d_U_take_8
set_option maxHeartbeats 4000000 in
set_option maxRecDepth 100000 in
theorem k_U_put (G : Gl) (l : Launch) (htr : l.stackTraces = false) (V : Vw) (b r sA : Nat) (mo nx oc an st : Int32) (h : Nat) (f : Nat → Int32) (hh : h ≤ 8) (v : Int64) (h4 : V 4 b = some (r, oU sA mo (nI h) nx oc an st)) (h5 : V 5 b = some (sA, aI G 8 f)) :
    Cm G l y_U_put b_U_put 3 (Option.some Jvm.ClassFile.FieldType.int) { frames := 0, cells := 0, slots := 0, locals := 0 } V [.ref r, .long v] (fun rv V' => rv = some (.int (pPut v h f).1) ∧ V' = uR G V b r sA mo (pPut v h f).2.1 nx oc an st (pPut v h f).2.2) := by
  refine Cm.of htr (by decide) (Nat.le_of_ble_eq_true rfl) ?_
  intro p e s m args below meth c ls F hr hnm hS hl
  obtain ⟨hx, hb, hml, hown, hts, hK, hlk, -⟩ := id F
  have hl : lv_has ls 3 [(0, .ref r), (1, .long v)] := hl
  refine lv_lload_n hx hb d_U_put_0 rfl (lv_at hl 1 rfl) ?_
  refine lv_ldc2 (v := (-1000000000)) hx hb hown (hts _ m_491) d_U_put_1 ?_
  refine W.lcmp hx hb d_U_put_4 ?_
  refine lv_if_lt (tgt := 16) hx hb d_U_put_5 (by decide) (fun c_5 => ?_) (fun c_5 => ?_)
  · have hp : pPut v h f = (5, h, f) := if_pos (Or.inl ((lg_cmp_lt _ _).mp c_5))
    refine lv_iconst (v := 5) hx hb d_U_put_16 (by decide) ?_
    exact m_reti F hr hS (Nat.le_of_ble_eq_true rfl) (Nat.le_of_ble_eq_true rfl) (by rw [hp]; exact ⟨rfl, (uR_id h4 h5).symm⟩) d_U_put_17
  · refine lv_lload_n hx hb d_U_put_8 rfl (lv_at hl 1 rfl) ?_
    refine lv_ldc2 (v := 1000000000) hx hb hown (hts _ m_492) d_U_put_9 ?_
    refine W.lcmp hx hb d_U_put_12 ?_
    refine lv_if_le (tgt := 18) hx hb d_U_put_13 (by decide) (fun c_13 => ?_) (fun c_13 => ?_)
    · have hp0 : ¬ (v < -1000000000 ∨ 1000000000 < v) := fun z => z.elim (fun z => c_5 ((lg_cmp_lt _ _).mpr z)) (fun z => absurd ((lg_cmp_le _ _).mp c_13) (Int64.not_le.mpr z))
      refine lv_aload_n hx hb d_U_put_18 rfl (lv_at hl 0 rfl) ?_
      refine r_get (k := 4) (i := b) F hS f_U_32.get h4 rfl d_U_put_19 ?_
      refine lv_bipush (v := 8) hx hb d_U_put_22 (by decide) ?_
      refine lv_icmp_lt (tgt := 29) hx hb d_U_put_24 (by decide) (fun c_24 => ?_) (fun c_24 => ?_)
      · have h8 : h < 8 := (nI_ltI (by omega) (by decide)).mp (show nI h < nI 8 from c_24)
        have hp : pPut v h f = (7, h + 1, upd f h v.toInt32) := (if_neg hp0).trans (if_neg (by omega))
        refine lv_aload_n hx hb d_U_put_29 rfl (lv_at hl 0 rfl) ?_
        refine r_get (k := 4) (i := b) F hS f_U_9.get h4 rfl d_U_put_30 ?_
        refine lv_aload_n hx hb d_U_put_33 rfl (lv_at hl 0 rfl) ?_
        refine r_get (k := 4) (i := b) F hS f_U_32.get h4 rfl d_U_put_34 ?_
        refine lv_lload_n hx hb d_U_put_37 rfl (lv_at hl 1 rfl) ?_
        refine lv_l2i (v := v.toInt32) hx hb d_U_put_38 rfl ?_
        refine r_iast (k := 5) (i := b) F hS h5 (vp_in_nI (by omega) (by decide)) d_U_put_39 (fun H locs hS => ?_)
        rw [nI_clamp (by omega)] at hS
        have hS : HS G s (uV V 5 b (sA, aI G 8 (upd f h v.toInt32))) H _ := hS
        refine lv_aload_n hx hb d_U_put_40 rfl (lv_at hl 0 rfl) ?_
        refine lv_dup hx hb d_U_put_41 rfl ?_
        refine r_get (k := 4) (i := b) F hS f_U_32.get h4 rfl d_U_put_42 ?_
        refine lv_iconst (v := 1) hx hb d_U_put_45 (by decide) ?_
        refine lv_iadd hx hb d_U_put_46 ?_
        rw [nI_1]
        refine r_put (k := 4) (i := b) F hS f_U_32 ct_U h4 rfl rfl (Nat.le_of_ble_eq_true rfl) d_U_put_47 (fun H locs hS => ?_)
        have hS : HS G s (uV (uV V 5 b (sA, aI G 8 (upd f h v.toInt32))) 4 b (r, oU sA mo (nI (h + 1)) nx oc an st)) H _ := hS
        refine lv_bipush (v := 7) hx hb d_U_put_50 (by decide) ?_
        exact m_reti F hr hS (Nat.le_of_ble_eq_true rfl) (Nat.le_of_ble_eq_true rfl) (by rw [hp]; exact ⟨rfl, rfl⟩) d_U_put_52
      · have h8 : ¬ h < 8 := fun z => c_24 (show nI h < nI 8 from nI_lt z (by decide))
        have hp : pPut v h f = (3, h, f) := (if_neg hp0).trans (if_pos (by omega))
        refine lv_iconst (v := 3) hx hb d_U_put_27 (by decide) ?_
        exact m_reti F hr hS (Nat.le_of_ble_eq_true rfl) (Nat.le_of_ble_eq_true rfl) (by rw [hp]; exact ⟨rfl, (uR_id h4 h5).symm⟩) d_U_put_28
    · have hp : pPut v h f = (5, h, f) := if_pos (Or.inr (Int64.not_le.mp (fun z => c_13 ((lg_cmp_le _ _).mpr z))))
      refine lv_iconst (v := 5) hx hb d_U_put_16 (by decide) ?_
      exact m_reti F hr hS (Nat.le_of_ble_eq_true rfl) (Nat.le_of_ble_eq_true rfl) (by rw [hp]; exact ⟨rfl, (uR_id h4 h5).symm⟩) d_U_put_17
set_option maxHeartbeats 4000000 in
set_option maxRecDepth 100000 in
theorem k_U_needed (G : Gl) (l : Launch) (htr : l.stackTraces = false) (V : Vw) (o : Nat) (ho : o ≤ 10)  :
    Cm G l y_U_needed b_U_needed 1 (Option.some Jvm.ClassFile.FieldType.int) { frames := 0, cells := 0, slots := 0, locals := 0 } V [.int (nI o)] (fun rv V' => rv = some (.int (nI (pNeed o))) ∧ V' = V) := by
  refine Cm.of htr (by decide) (Nat.le_of_ble_eq_true rfl) ?_
  intro p e s m args below meth c ls F hr hnm hS hl
  obtain ⟨hx, hb, hml, hown, hts, hK, hlk, -⟩ := id F
  have hl : lv_has ls 1 [(0, .int (nI o))] := hl
  refine lv_iload_n hx hb d_U_needed_0 rfl (lv_at hl 0 rfl) ?_
  rcases (show o = 0 ∨ o = 1 ∨ o = 2 ∨ o = 3 ∨ o = 4 ∨ o = 5 ∨ o = 6 ∨ o = 7 ∨ o = 8 ∨ o = 9 ∨ o = 10 by omega) with rfl | rfl | rfl | rfl | rfl | rfl | rfl | rfl | rfl | rfl | rfl
  · refine lv_tableIn (tgt := 60) (off := 59) hx hb d_U_needed_1 (by decide) (by decide) (by decide) (by decide) ?_
    refine lv_iconst (v := 0) hx hb d_U_needed_60 (by decide) ?_
    exact m_reti F hr hS (Nat.le_of_ble_eq_true rfl) (Nat.le_of_ble_eq_true rfl) ⟨rfl, rfl⟩ d_U_needed_61
  · refine lv_tableIn (tgt := 60) (off := 59) hx hb d_U_needed_1 (by decide) (by decide) (by decide) (by decide) ?_
    refine lv_iconst (v := 0) hx hb d_U_needed_60 (by decide) ?_
    exact m_reti F hr hS (Nat.le_of_ble_eq_true rfl) (Nat.le_of_ble_eq_true rfl) ⟨rfl, rfl⟩ d_U_needed_61
  · refine lv_tableIn (tgt := 64) (off := 63) hx hb d_U_needed_1 (by decide) (by decide) (by decide) (by decide) ?_
    refine lv_iconst (v := 2) hx hb d_U_needed_64 (by decide) ?_
    exact m_reti F hr hS (Nat.le_of_ble_eq_true rfl) (Nat.le_of_ble_eq_true rfl) ⟨rfl, rfl⟩ d_U_needed_65
  · refine lv_tableIn (tgt := 64) (off := 63) hx hb d_U_needed_1 (by decide) (by decide) (by decide) (by decide) ?_
    refine lv_iconst (v := 2) hx hb d_U_needed_64 (by decide) ?_
    exact m_reti F hr hS (Nat.le_of_ble_eq_true rfl) (Nat.le_of_ble_eq_true rfl) ⟨rfl, rfl⟩ d_U_needed_65
  · refine lv_tableIn (tgt := 64) (off := 63) hx hb d_U_needed_1 (by decide) (by decide) (by decide) (by decide) ?_
    refine lv_iconst (v := 2) hx hb d_U_needed_64 (by decide) ?_
    exact m_reti F hr hS (Nat.le_of_ble_eq_true rfl) (Nat.le_of_ble_eq_true rfl) ⟨rfl, rfl⟩ d_U_needed_65
  · refine lv_tableIn (tgt := 64) (off := 63) hx hb d_U_needed_1 (by decide) (by decide) (by decide) (by decide) ?_
    refine lv_iconst (v := 2) hx hb d_U_needed_64 (by decide) ?_
    exact m_reti F hr hS (Nat.le_of_ble_eq_true rfl) (Nat.le_of_ble_eq_true rfl) ⟨rfl, rfl⟩ d_U_needed_65
  · refine lv_tableIn (tgt := 64) (off := 63) hx hb d_U_needed_1 (by decide) (by decide) (by decide) (by decide) ?_
    refine lv_iconst (v := 2) hx hb d_U_needed_64 (by decide) ?_
    exact m_reti F hr hS (Nat.le_of_ble_eq_true rfl) (Nat.le_of_ble_eq_true rfl) ⟨rfl, rfl⟩ d_U_needed_65
  · refine lv_tableIn (tgt := 62) (off := 61) hx hb d_U_needed_1 (by decide) (by decide) (by decide) (by decide) ?_
    refine lv_iconst (v := 1) hx hb d_U_needed_62 (by decide) ?_
    exact m_reti F hr hS (Nat.le_of_ble_eq_true rfl) (Nat.le_of_ble_eq_true rfl) ⟨rfl, rfl⟩ d_U_needed_63
  · refine lv_tableIn (tgt := 62) (off := 61) hx hb d_U_needed_1 (by decide) (by decide) (by decide) (by decide) ?_
    refine lv_iconst (v := 1) hx hb d_U_needed_62 (by decide) ?_
    exact m_reti F hr hS (Nat.le_of_ble_eq_true rfl) (Nat.le_of_ble_eq_true rfl) ⟨rfl, rfl⟩ d_U_needed_63
  · refine lv_tableIn (tgt := 62) (off := 61) hx hb d_U_needed_1 (by decide) (by decide) (by decide) (by decide) ?_
    refine lv_iconst (v := 1) hx hb d_U_needed_62 (by decide) ?_
    exact m_reti F hr hS (Nat.le_of_ble_eq_true rfl) (Nat.le_of_ble_eq_true rfl) ⟨rfl, rfl⟩ d_U_needed_63
  · refine lv_tableIn (tgt := 60) (off := 59) hx hb d_U_needed_1 (by decide) (by decide) (by decide) (by decide) ?_
    refine lv_iconst (v := 0) hx hb d_U_needed_60 (by decide) ?_
    exact m_reti F hr hS (Nat.le_of_ble_eq_true rfl) (Nat.le_of_ble_eq_true rfl) ⟨rfl, rfl⟩ d_U_needed_61
set_option maxHeartbeats 4000000 in
set_option maxRecDepth 100000 in
theorem k_U_clear (G : Gl) (l : Launch) (htr : l.stackTraces = false) (V : Vw) (b r sA : Nat) (mo nx oc an st : Int32) (h : Nat) (f : Nat → Int32) (hh : h ≤ 8) (h4 : V 4 b = some (r, oU sA mo (nI h) nx oc an st)) (h5 : V 5 b = some (sA, aI G 8 f)) :
    Cm G l y_U_clear b_U_clear 1 none { frames := 0, cells := 0, slots := 0, locals := 0 } V [.ref r] (fun rv V' => rv = none ∧ V' = uR G V b r sA mo 0 0 oc 0 0 f) := by
  refine Cm.of htr (by decide) (Nat.le_of_ble_eq_true rfl) ?_
  intro p e s m args below meth c ls F hr hnm hS hl
  obtain ⟨hx, hb, hml, hown, hts, hK, hlk, -⟩ := id F
  have hl : lv_has ls 1 [(0, .ref r)] := hl
  refine lv_aload_n hx hb d_U_clear_0 rfl (lv_at hl 0 rfl) ?_
  refine lv_iconst (v := 0) hx hb d_U_clear_1 (by decide) ?_
  refine r_put (k := 4) (i := b) F hS f_U_32 ct_U h4 rfl rfl (Nat.le_of_ble_eq_true rfl) d_U_clear_2 (fun H locs hS => ?_)
  have hS : HS G s (uV V 4 b (r, oU sA mo 0 nx oc an st)) H _ := hS
  refine lv_aload_n hx hb d_U_clear_5 rfl (lv_at hl 0 rfl) ?_
  refine lv_iconst (v := 0) hx hb d_U_clear_6 (by decide) ?_
  refine r_put (k := 4) (i := b) F hS f_U_35 ct_U (uV_self _ _ _ _) rfl rfl (Nat.le_of_ble_eq_true rfl) d_U_clear_7 (fun H locs hS => ?_)
  have hS : HS G s (uV (uV V 4 b (r, oU sA mo 0 nx oc an st)) 4 b (r, oU sA mo 0 0 oc an st)) H _ := hS
  refine lv_aload_n hx hb d_U_clear_10 rfl (lv_at hl 0 rfl) ?_
  refine lv_iconst (v := 0) hx hb d_U_clear_11 (by decide) ?_
  refine r_put (k := 4) (i := b) F hS f_U_38 ct_U (uV_self _ _ _ _) rfl rfl (Nat.le_of_ble_eq_true rfl) d_U_clear_12 (fun H locs hS => ?_)
  have hS : HS G s (uV (uV (uV V 4 b (r, oU sA mo 0 nx oc an st)) 4 b (r, oU sA mo 0 0 oc an st)) 4 b (r, oU sA mo 0 0 oc an 0)) H _ := hS
  refine lv_aload_n hx hb d_U_clear_15 rfl (lv_at hl 0 rfl) ?_
  refine lv_iconst (v := 0) hx hb d_U_clear_16 (by decide) ?_
  refine r_put (k := 4) (i := b) F hS f_U_29 ct_U (uV_self _ _ _ _) rfl rfl (Nat.le_of_ble_eq_true rfl) d_U_clear_17 (fun H locs hS => ?_)
  have hS : HS G s (uV (uV (uV (uV V 4 b (r, oU sA mo 0 nx oc an st)) 4 b (r, oU sA mo 0 0 oc an st)) 4 b (r, oU sA mo 0 0 oc an 0)) 4 b (r, oU sA mo 0 0 oc 0 0)) H _ := hS
  exact m_retv F hr hS (Nat.le_of_ble_eq_true rfl) (Nat.le_of_ble_eq_true rfl) ⟨rfl, by rw [uV_uV, uV_uV, uV_uV]; exact uR_of4 h5⟩ d_U_clear_20
set_option maxHeartbeats 4000000 in
set_option maxRecDepth 100000 in
theorem k_U_join (G : Gl) (l : Launch) (htr : l.stackTraces = false) (V : Vw) (b r sA : Nat) (mo nx oc an st : Int32) (h : Nat) (f : Nat → Int32) (o : Nat) (hh : h ≤ 8) (h2 : 2 ≤ h) (ho : 2 ≤ o) (ho6 : o ≤ 6) (h4 : V 4 b = some (r, oU sA mo (nI h) nx oc an st)) (h5 : V 5 b = some (sA, aI G 8 f)) :
    Cm G l y_U_join b_U_join 6 (Option.some Jvm.ClassFile.FieldType.int) { frames := 1, cells := 0, slots := 0, locals := 22 } V [.ref r, .int (nI o)] (fun rv V' => rv = some (.int (pJoin o h f).1) ∧ V' = uR G V b r sA mo (pJoin o h f).2.1 nx oc an st (pJoin o h f).2.2) := by
  refine Cm.of htr (by decide) (Nat.le_of_ble_eq_true rfl) ?_
  intro p e s m args below meth c ls F hr hnm hS hl
  obtain ⟨hx, hb, hml, hown, hts, hK, hlk, -⟩ := id F
  have hl : lv_has ls 6 [(0, .ref r), (1, .int (nI o))] := hl
  refine lv_aload_n hx hb d_U_join_0 rfl (lv_at hl 0 rfl) ?_
  refine r_callV (k := 4) (i := b) (q := ("RuleClasses$Run", T_U, 7)) (fs := [.int mo, .ref sA, .int (nI h), .int nx, .int oc, .int an, .int st]) (As := []) (rest := []) F hS c_U_72 (k_U_take G l htr V b r sA mo nx oc an st h f hh h4 h5) rfl h4 rfl hl.1 rfl (Nat.le_of_ble_eq_true rfl) d_U_join_1 ⟨Nat.le_of_ble_eq_true rfl, Nat.le_of_ble_eq_true rfl⟩ ⟨Nat.le_of_ble_eq_true rfl, Nat.le_of_ble_eq_true rfl⟩ (fun rv V1 H locs hR hS => ?_)
  obtain ⟨rfl, rfl⟩ := hR
  rw [show pTake h f = f (h - 1) from if_neg (by omega)]
  refine W.eq (g2 := F0 m 4 ls [.int (f (h - 1))]) rfl ?_
  refine lv_i2l (v := (f (h - 1)).toInt64) hx hb d_U_join_4 rfl ?_
  refine lv_lstore_n (lv' := [(2, .long ((f (h - 1)).toInt64)), (0, .ref r), (1, .int (nI o))]) hx hb d_U_join_5 rfl hl (by decide) rfl (fun ls hl => ?_)
  refine lv_aload_n hx hb d_U_join_6 rfl (lv_at hl 1 rfl) ?_
  refine r_callV (k := 4) (i := b) (q := ("RuleClasses$Run", T_U, 7)) (fs := [.int mo, .ref sA, .int (nI (h - 1)), .int nx, .int oc, .int an, .int st]) (As := []) (rest := []) F hS c_U_72 (k_U_take G l htr (uR G V b r sA mo (h - 1) nx oc an st f) b r sA mo nx oc an st (h - 1) f (by omega) uR_4 uR_5) rfl uR_4 rfl hl.1 rfl (Nat.le_of_ble_eq_true rfl) d_U_join_7 ⟨Nat.le_of_ble_eq_true rfl, Nat.le_of_ble_eq_true rfl⟩ ⟨Nat.le_of_ble_eq_true rfl, Nat.le_of_ble_eq_true rfl⟩ (fun rv V1 H locs hR hS => ?_)
  obtain ⟨rfl, rfl⟩ := hR
  rw [uR_uR] at hS
  rw [show pTake (h - 1) f = f (h - 2) from if_neg (by omega)]
  have hS : HS G s (uR G V b r sA mo (h - 2) nx oc an st f) H locs := hS
  refine W.eq (g2 := F0 m 10 ls [.int (f (h - 2))]) rfl ?_
  refine lv_i2l (v := (f (h - 2)).toInt64) hx hb d_U_join_10 rfl ?_
  refine lv_lstore (lv' := [(4, .long ((f (h - 2)).toInt64)), (2, .long ((f (h - 1)).toInt64)), (0, .ref r), (1, .int (nI o))]) hx hb d_U_join_11 hl (by decide) rfl (fun ls hl => ?_)
  refine lv_iload_n hx hb d_U_join_13 rfl (lv_at hl 3 rfl) ?_
  rcases (show o = 2 ∨ o = 3 ∨ o = 4 ∨ o = 5 ∨ o = 6 by omega) with rfl | rfl | rfl | rfl | rfl
  · refine lv_tableIn (tgt := 48) (off := 34) hx hb d_U_join_14 (by decide) (by decide) (by decide) (by decide) ?_
    refine lv_aload_n hx hb d_U_join_48 rfl (lv_at hl 2 rfl) ?_
    refine lv_lload hx hb d_U_join_49 (lv_at hl 0 rfl) ?_
    refine lv_lload_n hx hb d_U_join_51 rfl (lv_at hl 1 rfl) ?_
    refine lv_ladd hx hb d_U_join_52 ?_
    refine r_callV (k := 4) (i := b) (q := ("RuleClasses$Run", T_U, 7)) (fs := [.int mo, .ref sA, .int (nI (h - 2)), .int nx, .int oc, .int an, .int st]) (As := [.long (((f (h - 2)).toInt64) + ((f (h - 1)).toInt64))]) (rest := []) F hS c_U_60 (k_U_put G l htr (uR G V b r sA mo (h - 2) nx oc an st f) b r sA mo nx oc an st (h - 2) f (by omega) (((f (h - 2)).toInt64) + ((f (h - 1)).toInt64)) uR_4 uR_5) rfl uR_4 rfl hl.1 rfl (Nat.le_of_ble_eq_true rfl) d_U_join_53 ⟨Nat.le_of_ble_eq_true rfl, Nat.le_of_ble_eq_true rfl⟩ ⟨Nat.le_of_ble_eq_true rfl, Nat.le_of_ble_eq_true rfl⟩ (fun rv V1 H locs hR hS => ?_)
    obtain ⟨rfl, rfl⟩ := hR
    rw [uR_uR] at hS
    refine W.eq (g2 := F0 m 56 ls [.int ((pPut (((f (h - 2)).toInt64) + ((f (h - 1)).toInt64)) (h - 2) f).1)]) rfl ?_
    exact m_reti F hr hS (Nat.le_of_ble_eq_true rfl) (Nat.le_of_ble_eq_true rfl) ⟨rfl, rfl⟩ d_U_join_56
  · refine lv_tableIn (tgt := 57) (off := 43) hx hb d_U_join_14 (by decide) (by decide) (by decide) (by decide) ?_
    refine lv_aload_n hx hb d_U_join_57 rfl (lv_at hl 2 rfl) ?_
    refine lv_lload hx hb d_U_join_58 (lv_at hl 0 rfl) ?_
    refine lv_lload_n hx hb d_U_join_60 rfl (lv_at hl 1 rfl) ?_
    refine lv_lsub hx hb d_U_join_61 ?_
    refine r_callV (k := 4) (i := b) (q := ("RuleClasses$Run", T_U, 7)) (fs := [.int mo, .ref sA, .int (nI (h - 2)), .int nx, .int oc, .int an, .int st]) (As := [.long (((f (h - 2)).toInt64) - ((f (h - 1)).toInt64))]) (rest := []) F hS c_U_60 (k_U_put G l htr (uR G V b r sA mo (h - 2) nx oc an st f) b r sA mo nx oc an st (h - 2) f (by omega) (((f (h - 2)).toInt64) - ((f (h - 1)).toInt64)) uR_4 uR_5) rfl uR_4 rfl hl.1 rfl (Nat.le_of_ble_eq_true rfl) d_U_join_62 ⟨Nat.le_of_ble_eq_true rfl, Nat.le_of_ble_eq_true rfl⟩ ⟨Nat.le_of_ble_eq_true rfl, Nat.le_of_ble_eq_true rfl⟩ (fun rv V1 H locs hR hS => ?_)
    obtain ⟨rfl, rfl⟩ := hR
    rw [uR_uR] at hS
    refine W.eq (g2 := F0 m 65 ls [.int ((pPut (((f (h - 2)).toInt64) - ((f (h - 1)).toInt64)) (h - 2) f).1)]) rfl ?_
    exact m_reti F hr hS (Nat.le_of_ble_eq_true rfl) (Nat.le_of_ble_eq_true rfl) ⟨rfl, rfl⟩ d_U_join_65
  · refine lv_tableIn (tgt := 66) (off := 52) hx hb d_U_join_14 (by decide) (by decide) (by decide) (by decide) ?_
    refine lv_aload_n hx hb d_U_join_66 rfl (lv_at hl 2 rfl) ?_
    refine lv_lload hx hb d_U_join_67 (lv_at hl 0 rfl) ?_
    refine lv_lload_n hx hb d_U_join_69 rfl (lv_at hl 1 rfl) ?_
    refine lv_lmul hx hb d_U_join_70 ?_
    refine r_callV (k := 4) (i := b) (q := ("RuleClasses$Run", T_U, 7)) (fs := [.int mo, .ref sA, .int (nI (h - 2)), .int nx, .int oc, .int an, .int st]) (As := [.long (((f (h - 2)).toInt64) * ((f (h - 1)).toInt64))]) (rest := []) F hS c_U_60 (k_U_put G l htr (uR G V b r sA mo (h - 2) nx oc an st f) b r sA mo nx oc an st (h - 2) f (by omega) (((f (h - 2)).toInt64) * ((f (h - 1)).toInt64)) uR_4 uR_5) rfl uR_4 rfl hl.1 rfl (Nat.le_of_ble_eq_true rfl) d_U_join_71 ⟨Nat.le_of_ble_eq_true rfl, Nat.le_of_ble_eq_true rfl⟩ ⟨Nat.le_of_ble_eq_true rfl, Nat.le_of_ble_eq_true rfl⟩ (fun rv V1 H locs hR hS => ?_)
    obtain ⟨rfl, rfl⟩ := hR
    rw [uR_uR] at hS
    refine W.eq (g2 := F0 m 74 ls [.int ((pPut (((f (h - 2)).toInt64) * ((f (h - 1)).toInt64)) (h - 2) f).1)]) rfl ?_
    exact m_reti F hr hS (Nat.le_of_ble_eq_true rfl) (Nat.le_of_ble_eq_true rfl) ⟨rfl, rfl⟩ d_U_join_74
  · refine lv_tableIn (tgt := 75) (off := 61) hx hb d_U_join_14 (by decide) (by decide) (by decide) (by decide) ?_
    refine lv_lload_n hx hb d_U_join_75 rfl (lv_at hl 1 rfl) ?_
    refine lv_lconst (v := 0) hx hb d_U_join_76 (by decide) ?_
    refine W.lcmp hx hb d_U_join_77 ?_
    refine lv_if_ne (tgt := 85) hx hb d_U_join_78 (by decide) (fun c_78 => ?_) (fun c_78 => ?_)
    · have hne : ¬ (f (h - 1)).toInt64 = 0 := fun z => c_78 ((lg_cmp_eq _ _).mpr z)
      have hp : pJoin 5 h f = pPut ((f (h - 2)).toInt64 / (f (h - 1)).toInt64) (h - 2) f := if_neg hne
      refine lv_aload_n hx hb d_U_join_85 rfl (lv_at hl 2 rfl) ?_
      refine lv_lload hx hb d_U_join_86 (lv_at hl 0 rfl) ?_
      refine lv_lload_n hx hb d_U_join_88 rfl (lv_at hl 1 rfl) ?_
      refine lv_ldiv hx hb d_U_join_89 hne ?_
      refine r_callV (k := 4) (i := b) (q := ("RuleClasses$Run", T_U, 7)) (fs := [.int mo, .ref sA, .int (nI (h - 2)), .int nx, .int oc, .int an, .int st]) (As := [.long (((f (h - 2)).toInt64) / ((f (h - 1)).toInt64))]) (rest := []) F hS c_U_60 (k_U_put G l htr (uR G V b r sA mo (h - 2) nx oc an st f) b r sA mo nx oc an st (h - 2) f (by omega) (((f (h - 2)).toInt64) / ((f (h - 1)).toInt64)) uR_4 uR_5) rfl uR_4 rfl hl.1 rfl (Nat.le_of_ble_eq_true rfl) d_U_join_90 ⟨Nat.le_of_ble_eq_true rfl, Nat.le_of_ble_eq_true rfl⟩ ⟨Nat.le_of_ble_eq_true rfl, Nat.le_of_ble_eq_true rfl⟩ (fun rv V1 H locs hR hS => ?_)
      obtain ⟨rfl, rfl⟩ := hR
      rw [uR_uR] at hS
      refine W.eq (g2 := F0 m 93 ls [.int ((pPut (((f (h - 2)).toInt64) / ((f (h - 1)).toInt64)) (h - 2) f).1)]) rfl ?_
      exact m_reti F hr hS (Nat.le_of_ble_eq_true rfl) (Nat.le_of_ble_eq_true rfl) (by rw [hp]; exact ⟨rfl, rfl⟩) d_U_join_93
    · have hp : pJoin 5 h f = (2, h - 2, f) := if_pos ((lg_cmp_eq _ _).mp c_78)
      refine lv_iconst (v := 2) hx hb d_U_join_81 (by decide) ?_
      refine lv_goto (tgt := 93) hx hb d_U_join_82 (by decide) ?_
      exact m_reti F hr hS (Nat.le_of_ble_eq_true rfl) (Nat.le_of_ble_eq_true rfl) (by rw [hp]; exact ⟨rfl, rfl⟩) d_U_join_93
  · refine lv_tableIn (tgt := 94) (off := 80) hx hb d_U_join_14 (by decide) (by decide) (by decide) (by decide) ?_
    refine lv_aload_n hx hb d_U_join_94 rfl (lv_at hl 2 rfl) ?_
    refine lv_lload hx hb d_U_join_95 (lv_at hl 0 rfl) ?_
    refine lv_lload_n hx hb d_U_join_97 rfl (lv_at hl 1 rfl) ?_
    refine W.lcmp hx hb d_U_join_98 ?_
    refine lv_if_ge (tgt := 106) hx hb d_U_join_99 (by decide) (fun c_99 => ?_) (fun c_99 => ?_)
    · have hp : pJoin 6 h f = pPut 0 (h - 2) f := by
        show pPut (if (f (h - 2)).toInt64 < (f (h - 1)).toInt64 then 1 else 0) (h - 2) f = _
        rw [if_neg (Int64.not_lt.mpr ((lg_cmp_ge _ _).mp c_99))]
      refine lv_lconst (v := 0) hx hb d_U_join_106 (by decide) ?_
      refine r_callV (k := 4) (i := b) (q := ("RuleClasses$Run", T_U, 7)) (fs := [.int mo, .ref sA, .int (nI (h - 2)), .int nx, .int oc, .int an, .int st]) (As := [.long 0]) (rest := []) F hS c_U_60 (k_U_put G l htr (uR G V b r sA mo (h - 2) nx oc an st f) b r sA mo nx oc an st (h - 2) f (by omega) 0 uR_4 uR_5) rfl uR_4 rfl hl.1 rfl (Nat.le_of_ble_eq_true rfl) d_U_join_107 ⟨Nat.le_of_ble_eq_true rfl, Nat.le_of_ble_eq_true rfl⟩ ⟨Nat.le_of_ble_eq_true rfl, Nat.le_of_ble_eq_true rfl⟩ (fun rv V1 H locs hR hS => ?_)
      obtain ⟨rfl, rfl⟩ := hR
      rw [uR_uR] at hS
      refine W.eq (g2 := F0 m 110 ls [.int ((pPut 0 (h - 2) f).1)]) rfl ?_
      exact m_reti F hr hS (Nat.le_of_ble_eq_true rfl) (Nat.le_of_ble_eq_true rfl) (by rw [hp]; exact ⟨rfl, rfl⟩) d_U_join_110
    · have hp : pJoin 6 h f = pPut 1 (h - 2) f := by
        show pPut (if (f (h - 2)).toInt64 < (f (h - 1)).toInt64 then 1 else 0) (h - 2) f = _
        rw [if_pos (Int64.not_le.mp (fun z => c_99 ((lg_cmp_ge _ _).mpr z)))]
      refine lv_lconst (v := 1) hx hb d_U_join_102 (by decide) ?_
      refine lv_goto (tgt := 107) hx hb d_U_join_103 (by decide) ?_
      refine r_callV (k := 4) (i := b) (q := ("RuleClasses$Run", T_U, 7)) (fs := [.int mo, .ref sA, .int (nI (h - 2)), .int nx, .int oc, .int an, .int st]) (As := [.long 1]) (rest := []) F hS c_U_60 (k_U_put G l htr (uR G V b r sA mo (h - 2) nx oc an st f) b r sA mo nx oc an st (h - 2) f (by omega) 1 uR_4 uR_5) rfl uR_4 rfl hl.1 rfl (Nat.le_of_ble_eq_true rfl) d_U_join_107 ⟨Nat.le_of_ble_eq_true rfl, Nat.le_of_ble_eq_true rfl⟩ ⟨Nat.le_of_ble_eq_true rfl, Nat.le_of_ble_eq_true rfl⟩ (fun rv V1 H locs hR hS => ?_)
      obtain ⟨rfl, rfl⟩ := hR
      rw [uR_uR] at hS
      refine W.eq (g2 := F0 m 110 ls [.int ((pPut 1 (h - 2) f).1)]) rfl ?_
      exact m_reti F hr hS (Nat.le_of_ble_eq_true rfl) (Nat.le_of_ble_eq_true rfl) (by rw [hp]; exact ⟨rfl, rfl⟩) d_U_join_110
set_option maxHeartbeats 4000000 in
set_option maxRecDepth 100000 in
theorem k_U_step (G : Gl) (l : Launch) (htr : l.stackTraces = false) (V : Vw) (b r sA : Nat) (mo nx oc an st : Int32) (h : Nat) (f : Nat → Int32)  (i j ea oA cA fA vA : Nat) (ow ki dy ln md ak sk fk : Int32) (po cs fa : Nat → Int32) (now o : Nat) (hh : h ≤ 8) (hnow : now < 16) (ho : o ≤ 10) (hop : po now = nI o) (hc1 : o = 1 → ∃ c, c < 8 ∧ cs now = nI c) (h4 : V 4 b = some (r, oU sA mo (nI h) nx oc an st)) (h5 : V 5 b = some (sA, aI G 8 f)) (h1 : V 1 i = some (ea, oE ow ki dy oA cA ln md ak sk fk)) (h2 : V 2 i = some (oA, aI G 16 po)) (h3 : V 3 i = some (cA, aI G 16 cs)) (h6 : V 6 j = some (fA, oF vA)) (h7 : V 7 j = some (vA, aI G 8 fa)) :
    Cm G l y_U_step b_U_step 6 (Option.some Jvm.ClassFile.FieldType.int) { frames := 2, cells := 0, slots := 0, locals := 47 } V [.ref r, .ref ea, .int (nI now), .ref fA] (fun rv V' => rv = some (.int (pStep o (cs now) fa ak h nx an f).1) ∧ V' = uR G V b r sA mo (pStep o (cs now) fa ak h nx an f).2.1 (pStep o (cs now) fa ak h nx an f).2.2.1 oc (pStep o (cs now) fa ak h nx an f).2.2.2.1 st (pStep o (cs now) fa ak h nx an f).2.2.2.2) := by
  refine Cm.of htr (by decide) (Nat.le_of_ble_eq_true rfl) ?_
  intro p e s m args below meth c ls F hr hnm hS hl
  obtain ⟨hx, hb, hml, hown, hts, hK, hlk, -⟩ := id F
  have hl : lv_has ls 6 [(0, .ref r), (1, .ref ea), (2, .int (nI now)), (3, .ref fA)] := hl
  refine lv_aload_n hx hb d_U_step_0 rfl (lv_at hl 1 rfl) ?_
  refine r_get (k := 1) (i := i) F hS f_U_50 h1 rfl d_U_step_1 ?_
  refine lv_iload_n hx hb d_U_step_4 rfl (lv_at hl 2 rfl) ?_
  refine r_iald (k := 2) (i := i) F hS h2 (vp_in_nI hnow (by decide)) d_U_step_5 ?_
  rw [nI_clamp (by omega)]
  rw [hop]
  refine lv_istore (lv' := [(4, .int (nI o)), (0, .ref r), (1, .ref ea), (2, .int (nI now)), (3, .ref fA)]) hx hb d_U_step_6 hl (by decide) rfl (fun ls hl => ?_)
  refine lv_aload_n hx hb d_U_step_8 rfl (lv_at hl 2 rfl) ?_
  refine r_get (k := 1) (i := i) F hS f_U_53 h1 rfl d_U_step_9 ?_
  refine lv_iload_n hx hb d_U_step_12 rfl (lv_at hl 3 rfl) ?_
  refine r_iald (k := 3) (i := i) F hS h3 (vp_in_nI hnow (by decide)) d_U_step_13 ?_
  rw [nI_clamp (by omega)]
  refine lv_istore (lv' := [(5, .int (cs now)), (4, .int (nI o)), (0, .ref r), (1, .ref ea), (2, .int (nI now)), (3, .ref fA)]) hx hb d_U_step_14 hl (by decide) rfl (fun ls hl => ?_)
  refine lv_aload_n hx hb d_U_step_16 rfl (lv_at hl 2 rfl) ?_
  refine r_get (k := 4) (i := b) F hS f_U_32.get h4 rfl d_U_step_17 ?_
  refine lv_iload hx hb d_U_step_20 (lv_at hl 1 rfl) ?_
  refine r_callS (As := [.int (nI o)]) (rest := [.int (nI h)]) F hS c_U_56 (k_U_needed G l htr V o ho) rfl hl.1 rfl (Nat.le_of_ble_eq_true rfl) d_U_step_22 ⟨Nat.le_of_ble_eq_true rfl, Nat.le_of_ble_eq_true rfl⟩ ⟨Nat.le_of_ble_eq_true rfl, Nat.le_of_ble_eq_true rfl⟩ (fun rv V1 H locs hR hS => ?_)
  obtain ⟨rfl, hV⟩ := hR
  rw [hV] at hS
  refine W.eq (g2 := F0 m 25 ls [.int (nI (pNeed o)), .int (nI h)]) rfl ?_
  refine lv_icmp_ge (tgt := 30) hx hb d_U_step_25 (by decide) (fun c_25 => ?_) (fun c_25 => ?_)
  · have hn : pNeed o ≤ h := (nI_leI (pNeed_lt o) (by omega)).mp c_25
    have hs0 : ¬ h < pNeed o := by omega
    refine lv_iload hx hb d_U_step_30 (lv_at hl 1 rfl) ?_
    rcases (show o = 0 ∨ o = 1 ∨ o = 2 ∨ o = 3 ∨ o = 4 ∨ o = 5 ∨ o = 6 ∨ o = 7 ∨ o = 8 ∨ o = 9 ∨ o = 10 by omega) with rfl | rfl | rfl | rfl | rfl | rfl | rfl | rfl | rfl | rfl | rfl
    · refine lv_tableIn (tgt := 92) (off := 60) hx hb d_U_step_32 (by decide) (by decide) (by decide) (by decide) ?_
      have hp : pStep 0 (cs now) fa ak h nx an f = ((pPut ((cs now).toInt64) h f).1, (pPut ((cs now).toInt64) h f).2.1, nx, an, (pPut ((cs now).toInt64) h f).2.2) := if_neg hs0
      refine lv_aload_n hx hb d_U_step_92 rfl (lv_at hl 2 rfl) ?_
      refine lv_iload hx hb d_U_step_93 (lv_at hl 0 rfl) ?_
      refine lv_i2l (v := (cs now).toInt64) hx hb d_U_step_95 rfl ?_
      refine r_callV (k := 4) (i := b) (q := ("RuleClasses$Run", T_U, 7)) (fs := [.int mo, .ref sA, .int (nI h), .int nx, .int oc, .int an, .int st]) (As := [.long ((cs now).toInt64)]) (rest := []) F hS c_U_60 (k_U_put G l htr V b r sA mo nx oc an st h f hh ((cs now).toInt64) h4 h5) rfl h4 rfl hl.1 rfl (Nat.le_of_ble_eq_true rfl) d_U_step_96 ⟨Nat.le_of_ble_eq_true rfl, Nat.le_of_ble_eq_true rfl⟩ ⟨Nat.le_of_ble_eq_true rfl, Nat.le_of_ble_eq_true rfl⟩ (fun rv V1 H locs hR hS => ?_)
      obtain ⟨rfl, rfl⟩ := hR
      refine W.eq (g2 := F0 m 99 ls [.int ((pPut ((cs now).toInt64) h f).1)]) rfl ?_
      exact m_reti F hr hS (Nat.le_of_ble_eq_true rfl) (Nat.le_of_ble_eq_true rfl) (by rw [hp]; exact ⟨rfl, rfl⟩) d_U_step_99
    · refine lv_tableIn (tgt := 100) (off := 68) hx hb d_U_step_32 (by decide) (by decide) (by decide) (by decide) ?_
      have hp : pStep 1 (cs now) fa ak h nx an f = ((pPut ((fa (cs now).toNatClampNeg).toInt64) h f).1, (pPut ((fa (cs now).toNatClampNeg).toInt64) h f).2.1, nx, an, (pPut ((fa (cs now).toNatClampNeg).toInt64) h f).2.2) := if_neg hs0
      obtain ⟨c1, hc8, hcn⟩ := hc1 rfl
      refine lv_aload_n hx hb d_U_step_100 rfl (lv_at hl 2 rfl) ?_
      refine lv_aload_n hx hb d_U_step_101 rfl (lv_at hl 5 rfl) ?_
      refine r_get (k := 6) (i := j) F hS f_U_64 h6 rfl d_U_step_102 ?_
      refine lv_iload hx hb d_U_step_105 (lv_at hl 0 rfl) ?_
      refine r_iald (k := 7) (i := j) F hS h7 (by rw [hcn]; exact vp_in_nI hc8 (by decide)) d_U_step_107 ?_
      refine lv_i2l (v := (fa (cs now).toNatClampNeg).toInt64) hx hb d_U_step_108 rfl ?_
      refine r_callV (k := 4) (i := b) (q := ("RuleClasses$Run", T_U, 7)) (fs := [.int mo, .ref sA, .int (nI h), .int nx, .int oc, .int an, .int st]) (As := [.long ((fa (cs now).toNatClampNeg).toInt64)]) (rest := []) F hS c_U_60 (k_U_put G l htr V b r sA mo nx oc an st h f hh ((fa (cs now).toNatClampNeg).toInt64) h4 h5) rfl h4 rfl hl.1 rfl (Nat.le_of_ble_eq_true rfl) d_U_step_109 ⟨Nat.le_of_ble_eq_true rfl, Nat.le_of_ble_eq_true rfl⟩ ⟨Nat.le_of_ble_eq_true rfl, Nat.le_of_ble_eq_true rfl⟩ (fun rv V1 H locs hR hS => ?_)
      obtain ⟨rfl, rfl⟩ := hR
      refine W.eq (g2 := F0 m 112 ls [.int ((pPut ((fa (cs now).toNatClampNeg).toInt64) h f).1)]) rfl ?_
      exact m_reti F hr hS (Nat.le_of_ble_eq_true rfl) (Nat.le_of_ble_eq_true rfl) (by rw [hp]; exact ⟨rfl, rfl⟩) d_U_step_112
    · refine lv_tableIn (tgt := 167) (off := 135) hx hb d_U_step_32 (by decide) (by decide) (by decide) (by decide) ?_
      have hp : pStep 2 (cs now) fa ak h nx an f = ((pJoin 2 h f).1, (pJoin 2 h f).2.1, nx, an, (pJoin 2 h f).2.2) := if_neg hs0
      refine lv_aload_n hx hb d_U_step_167 rfl (lv_at hl 2 rfl) ?_
      refine lv_iload hx hb d_U_step_168 (lv_at hl 1 rfl) ?_
      refine r_callV (k := 4) (i := b) (q := ("RuleClasses$Run", T_U, 7)) (fs := [.int mo, .ref sA, .int (nI h), .int nx, .int oc, .int an, .int st]) (As := [.int (nI 2)]) (rest := []) F hS c_U_76 (k_U_join G l htr V b r sA mo nx oc an st h f 2 hh hn (by decide) (by decide) h4 h5) rfl h4 rfl hl.1 rfl (Nat.le_of_ble_eq_true rfl) d_U_step_170 ⟨Nat.le_of_ble_eq_true rfl, Nat.le_of_ble_eq_true rfl⟩ ⟨Nat.le_of_ble_eq_true rfl, Nat.le_of_ble_eq_true rfl⟩ (fun rv V1 H locs hR hS => ?_)
      obtain ⟨rfl, rfl⟩ := hR
      refine W.eq (g2 := F0 m 173 ls [.int ((pJoin 2 h f).1)]) rfl ?_
      exact m_reti F hr hS (Nat.le_of_ble_eq_true rfl) (Nat.le_of_ble_eq_true rfl) (by rw [hp]; exact ⟨rfl, rfl⟩) d_U_step_173
    · refine lv_tableIn (tgt := 167) (off := 135) hx hb d_U_step_32 (by decide) (by decide) (by decide) (by decide) ?_
      have hp : pStep 3 (cs now) fa ak h nx an f = ((pJoin 3 h f).1, (pJoin 3 h f).2.1, nx, an, (pJoin 3 h f).2.2) := if_neg hs0
      refine lv_aload_n hx hb d_U_step_167 rfl (lv_at hl 2 rfl) ?_
      refine lv_iload hx hb d_U_step_168 (lv_at hl 1 rfl) ?_
      refine r_callV (k := 4) (i := b) (q := ("RuleClasses$Run", T_U, 7)) (fs := [.int mo, .ref sA, .int (nI h), .int nx, .int oc, .int an, .int st]) (As := [.int (nI 3)]) (rest := []) F hS c_U_76 (k_U_join G l htr V b r sA mo nx oc an st h f 3 hh hn (by decide) (by decide) h4 h5) rfl h4 rfl hl.1 rfl (Nat.le_of_ble_eq_true rfl) d_U_step_170 ⟨Nat.le_of_ble_eq_true rfl, Nat.le_of_ble_eq_true rfl⟩ ⟨Nat.le_of_ble_eq_true rfl, Nat.le_of_ble_eq_true rfl⟩ (fun rv V1 H locs hR hS => ?_)
      obtain ⟨rfl, rfl⟩ := hR
      refine W.eq (g2 := F0 m 173 ls [.int ((pJoin 3 h f).1)]) rfl ?_
      exact m_reti F hr hS (Nat.le_of_ble_eq_true rfl) (Nat.le_of_ble_eq_true rfl) (by rw [hp]; exact ⟨rfl, rfl⟩) d_U_step_173
    · refine lv_tableIn (tgt := 167) (off := 135) hx hb d_U_step_32 (by decide) (by decide) (by decide) (by decide) ?_
      have hp : pStep 4 (cs now) fa ak h nx an f = ((pJoin 4 h f).1, (pJoin 4 h f).2.1, nx, an, (pJoin 4 h f).2.2) := if_neg hs0
      refine lv_aload_n hx hb d_U_step_167 rfl (lv_at hl 2 rfl) ?_
      refine lv_iload hx hb d_U_step_168 (lv_at hl 1 rfl) ?_
      refine r_callV (k := 4) (i := b) (q := ("RuleClasses$Run", T_U, 7)) (fs := [.int mo, .ref sA, .int (nI h), .int nx, .int oc, .int an, .int st]) (As := [.int (nI 4)]) (rest := []) F hS c_U_76 (k_U_join G l htr V b r sA mo nx oc an st h f 4 hh hn (by decide) (by decide) h4 h5) rfl h4 rfl hl.1 rfl (Nat.le_of_ble_eq_true rfl) d_U_step_170 ⟨Nat.le_of_ble_eq_true rfl, Nat.le_of_ble_eq_true rfl⟩ ⟨Nat.le_of_ble_eq_true rfl, Nat.le_of_ble_eq_true rfl⟩ (fun rv V1 H locs hR hS => ?_)
      obtain ⟨rfl, rfl⟩ := hR
      refine W.eq (g2 := F0 m 173 ls [.int ((pJoin 4 h f).1)]) rfl ?_
      exact m_reti F hr hS (Nat.le_of_ble_eq_true rfl) (Nat.le_of_ble_eq_true rfl) (by rw [hp]; exact ⟨rfl, rfl⟩) d_U_step_173
    · refine lv_tableIn (tgt := 167) (off := 135) hx hb d_U_step_32 (by decide) (by decide) (by decide) (by decide) ?_
      have hp : pStep 5 (cs now) fa ak h nx an f = ((pJoin 5 h f).1, (pJoin 5 h f).2.1, nx, an, (pJoin 5 h f).2.2) := if_neg hs0
      refine lv_aload_n hx hb d_U_step_167 rfl (lv_at hl 2 rfl) ?_
      refine lv_iload hx hb d_U_step_168 (lv_at hl 1 rfl) ?_
      refine r_callV (k := 4) (i := b) (q := ("RuleClasses$Run", T_U, 7)) (fs := [.int mo, .ref sA, .int (nI h), .int nx, .int oc, .int an, .int st]) (As := [.int (nI 5)]) (rest := []) F hS c_U_76 (k_U_join G l htr V b r sA mo nx oc an st h f 5 hh hn (by decide) (by decide) h4 h5) rfl h4 rfl hl.1 rfl (Nat.le_of_ble_eq_true rfl) d_U_step_170 ⟨Nat.le_of_ble_eq_true rfl, Nat.le_of_ble_eq_true rfl⟩ ⟨Nat.le_of_ble_eq_true rfl, Nat.le_of_ble_eq_true rfl⟩ (fun rv V1 H locs hR hS => ?_)
      obtain ⟨rfl, rfl⟩ := hR
      refine W.eq (g2 := F0 m 173 ls [.int ((pJoin 5 h f).1)]) rfl ?_
      exact m_reti F hr hS (Nat.le_of_ble_eq_true rfl) (Nat.le_of_ble_eq_true rfl) (by rw [hp]; exact ⟨rfl, rfl⟩) d_U_step_173
    · refine lv_tableIn (tgt := 167) (off := 135) hx hb d_U_step_32 (by decide) (by decide) (by decide) (by decide) ?_
      have hp : pStep 6 (cs now) fa ak h nx an f = ((pJoin 6 h f).1, (pJoin 6 h f).2.1, nx, an, (pJoin 6 h f).2.2) := if_neg hs0
      refine lv_aload_n hx hb d_U_step_167 rfl (lv_at hl 2 rfl) ?_
      refine lv_iload hx hb d_U_step_168 (lv_at hl 1 rfl) ?_
      refine r_callV (k := 4) (i := b) (q := ("RuleClasses$Run", T_U, 7)) (fs := [.int mo, .ref sA, .int (nI h), .int nx, .int oc, .int an, .int st]) (As := [.int (nI 6)]) (rest := []) F hS c_U_76 (k_U_join G l htr V b r sA mo nx oc an st h f 6 hh hn (by decide) (by decide) h4 h5) rfl h4 rfl hl.1 rfl (Nat.le_of_ble_eq_true rfl) d_U_step_170 ⟨Nat.le_of_ble_eq_true rfl, Nat.le_of_ble_eq_true rfl⟩ ⟨Nat.le_of_ble_eq_true rfl, Nat.le_of_ble_eq_true rfl⟩ (fun rv V1 H locs hR hS => ?_)
      obtain ⟨rfl, rfl⟩ := hR
      refine W.eq (g2 := F0 m 173 ls [.int ((pJoin 6 h f).1)]) rfl ?_
      exact m_reti F hr hS (Nat.le_of_ble_eq_true rfl) (Nat.le_of_ble_eq_true rfl) (by rw [hp]; exact ⟨rfl, rfl⟩) d_U_step_173
    · refine lv_tableIn (tgt := 113) (off := 81) hx hb d_U_step_32 (by decide) (by decide) (by decide) (by decide) ?_
      have hp : pStep 7 (cs now) fa ak h nx an f = ((pPut ((f (h - 1)).toInt64) h f).1, (pPut ((f (h - 1)).toInt64) h f).2.1, nx, an, (pPut ((f (h - 1)).toInt64) h f).2.2) := if_neg hs0
      have h1n : 1 ≤ h := hn
      refine lv_aload_n hx hb d_U_step_113 rfl (lv_at hl 2 rfl) ?_
      refine lv_aload_n hx hb d_U_step_114 rfl (lv_at hl 2 rfl) ?_
      refine r_get (k := 4) (i := b) F hS f_U_9.get h4 rfl d_U_step_115 ?_
      refine lv_aload_n hx hb d_U_step_118 rfl (lv_at hl 2 rfl) ?_
      refine r_get (k := 4) (i := b) F hS f_U_32.get h4 rfl d_U_step_119 ?_
      refine lv_iconst (v := 1) hx hb d_U_step_122 (by decide) ?_
      refine lv_isub hx hb d_U_step_123 ?_
      rw [nI_m1 h1n]
      refine r_iald (k := 5) (i := b) F hS h5 (vp_in_nI (by omega) (by decide)) d_U_step_124 ?_
      rw [nI_clamp (by omega)]
      refine lv_i2l (v := (f (h - 1)).toInt64) hx hb d_U_step_125 rfl ?_
      refine r_callV (k := 4) (i := b) (q := ("RuleClasses$Run", T_U, 7)) (fs := [.int mo, .ref sA, .int (nI h), .int nx, .int oc, .int an, .int st]) (As := [.long ((f (h - 1)).toInt64)]) (rest := []) F hS c_U_60 (k_U_put G l htr V b r sA mo nx oc an st h f hh ((f (h - 1)).toInt64) h4 h5) rfl h4 rfl hl.1 rfl (Nat.le_of_ble_eq_true rfl) d_U_step_126 ⟨Nat.le_of_ble_eq_true rfl, Nat.le_of_ble_eq_true rfl⟩ ⟨Nat.le_of_ble_eq_true rfl, Nat.le_of_ble_eq_true rfl⟩ (fun rv V1 H locs hR hS => ?_)
      obtain ⟨rfl, rfl⟩ := hR
      refine W.eq (g2 := F0 m 129 ls [.int ((pPut ((f (h - 1)).toInt64) h f).1)]) rfl ?_
      exact m_reti F hr hS (Nat.le_of_ble_eq_true rfl) (Nat.le_of_ble_eq_true rfl) (by rw [hp]; exact ⟨rfl, rfl⟩) d_U_step_129
    · refine lv_tableIn (tgt := 140) (off := 108) hx hb d_U_step_32 (by decide) (by decide) (by decide) (by decide) ?_
      have hp : pStep 8 (cs now) fa ak h nx an f = (7, h - 1, (if f (h - 1) = 0 then cs now else nx), an, f) := if_neg hs0
      have h1n : 1 ≤ h := hn
      refine lv_aload_n hx hb d_U_step_140 rfl (lv_at hl 2 rfl) ?_
      refine r_callV (k := 4) (i := b) (q := ("RuleClasses$Run", T_U, 7)) (fs := [.int mo, .ref sA, .int (nI h), .int nx, .int oc, .int an, .int st]) (As := []) (rest := []) F hS c_U_72 (k_U_take G l htr V b r sA mo nx oc an st h f hh h4 h5) rfl h4 rfl hl.1 rfl (Nat.le_of_ble_eq_true rfl) d_U_step_141 ⟨Nat.le_of_ble_eq_true rfl, Nat.le_of_ble_eq_true rfl⟩ ⟨Nat.le_of_ble_eq_true rfl, Nat.le_of_ble_eq_true rfl⟩ (fun rv V1 H locs hR hS => ?_)
      obtain ⟨rfl, rfl⟩ := hR
      rw [show pTake h f = f (h - 1) from if_neg (by omega)]
      refine W.eq (g2 := F0 m 144 ls [.int (f (h - 1))]) rfl ?_
      refine lv_if_ne (tgt := 153) hx hb d_U_step_144 (by decide) (fun c_144 => ?_) (fun c_144 => ?_)
      · rw [if_neg c_144] at hp
        refine lv_bipush (v := 7) hx hb d_U_step_153 (by decide) ?_
        exact m_reti F hr hS (Nat.le_of_ble_eq_true rfl) (Nat.le_of_ble_eq_true rfl) (by rw [hp]; exact ⟨rfl, rfl⟩) d_U_step_155
      · rw [if_pos c_144] at hp
        refine lv_aload_n hx hb d_U_step_147 rfl (lv_at hl 2 rfl) ?_
        refine lv_iload hx hb d_U_step_148 (lv_at hl 0 rfl) ?_
        refine r_put (k := 4) (i := b) F hS f_U_35 ct_U uR_4 rfl rfl (Nat.le_of_ble_eq_true rfl) d_U_step_150 (fun H locs hS => ?_)
        have hS : HS G s (uV (uR G V b r sA mo (h - 1) nx oc an st f) 4 b (r, oU sA mo (nI (h - 1)) (cs now) oc an st)) H _ := hS
        refine lv_bipush (v := 7) hx hb d_U_step_153 (by decide) ?_
        exact m_reti F hr hS (Nat.le_of_ble_eq_true rfl) (Nat.le_of_ble_eq_true rfl) (by rw [hp]; exact ⟨rfl, uR_put4⟩) d_U_step_155
    · refine lv_tableIn (tgt := 156) (off := 124) hx hb d_U_step_32 (by decide) (by decide) (by decide) (by decide) ?_
      have hp : pStep 9 (cs now) fa ak h nx an f = (6, h - 1, nx, f (h - 1), f) := if_neg hs0
      have h1n : 1 ≤ h := hn
      refine lv_aload_n hx hb d_U_step_156 rfl (lv_at hl 2 rfl) ?_
      refine lv_aload_n hx hb d_U_step_157 rfl (lv_at hl 2 rfl) ?_
      refine r_callV (k := 4) (i := b) (q := ("RuleClasses$Run", T_U, 7)) (fs := [.int mo, .ref sA, .int (nI h), .int nx, .int oc, .int an, .int st]) (As := []) (rest := [.ref r]) F hS c_U_72 (k_U_take G l htr V b r sA mo nx oc an st h f hh h4 h5) rfl h4 rfl hl.1 rfl (Nat.le_of_ble_eq_true rfl) d_U_step_158 ⟨Nat.le_of_ble_eq_true rfl, Nat.le_of_ble_eq_true rfl⟩ ⟨Nat.le_of_ble_eq_true rfl, Nat.le_of_ble_eq_true rfl⟩ (fun rv V1 H locs hR hS => ?_)
      obtain ⟨rfl, rfl⟩ := hR
      rw [show pTake h f = f (h - 1) from if_neg (by omega)]
      refine W.eq (g2 := F0 m 161 ls [.int (f (h - 1)), .ref r]) rfl ?_
      refine r_put (k := 4) (i := b) F hS f_U_29 ct_U uR_4 rfl rfl (Nat.le_of_ble_eq_true rfl) d_U_step_161 (fun H locs hS => ?_)
      have hS : HS G s (uV (uR G V b r sA mo (h - 1) nx oc an st f) 4 b (r, oU sA mo (nI (h - 1)) nx oc (f (h - 1)) st)) H _ := hS
      refine lv_bipush (v := 6) hx hb d_U_step_164 (by decide) ?_
      exact m_reti F hr hS (Nat.le_of_ble_eq_true rfl) (Nat.le_of_ble_eq_true rfl) (by rw [hp]; exact ⟨rfl, uR_put4⟩) d_U_step_166
    · refine lv_tableIn (tgt := 130) (off := 98) hx hb d_U_step_32 (by decide) (by decide) (by decide) (by decide) ?_
      have hp : pStep 10 (cs now) fa ak h nx an f = ((pPut ak.toInt64 h f).1, (pPut ak.toInt64 h f).2.1, nx, an, (pPut ak.toInt64 h f).2.2) := if_neg hs0
      refine lv_aload_n hx hb d_U_step_130 rfl (lv_at hl 2 rfl) ?_
      refine lv_aload_n hx hb d_U_step_131 rfl (lv_at hl 3 rfl) ?_
      refine r_get (k := 1) (i := i) F hS f_U_69.get h1 rfl d_U_step_132 ?_
      refine lv_i2l (v := ak.toInt64) hx hb d_U_step_135 rfl ?_
      refine r_callV (k := 4) (i := b) (q := ("RuleClasses$Run", T_U, 7)) (fs := [.int mo, .ref sA, .int (nI h), .int nx, .int oc, .int an, .int st]) (As := [.long ak.toInt64]) (rest := []) F hS c_U_60 (k_U_put G l htr V b r sA mo nx oc an st h f hh ak.toInt64 h4 h5) rfl h4 rfl hl.1 rfl (Nat.le_of_ble_eq_true rfl) d_U_step_136 ⟨Nat.le_of_ble_eq_true rfl, Nat.le_of_ble_eq_true rfl⟩ ⟨Nat.le_of_ble_eq_true rfl, Nat.le_of_ble_eq_true rfl⟩ (fun rv V1 H locs hR hS => ?_)
      obtain ⟨rfl, rfl⟩ := hR
      refine W.eq (g2 := F0 m 139 ls [.int ((pPut ak.toInt64 h f).1)]) rfl ?_
      exact m_reti F hr hS (Nat.le_of_ble_eq_true rfl) (Nat.le_of_ble_eq_true rfl) (by rw [hp]; exact ⟨rfl, rfl⟩) d_U_step_139
  · have hp : pStep o (cs now) fa ak h nx an f = (3, h, nx, an, f) := if_pos (Nat.not_le.mp (fun z => c_25 (nI_le z (by omega))))
    refine lv_iconst (v := 3) hx hb d_U_step_28 (by decide) ?_
    exact m_reti F hr hS (Nat.le_of_ble_eq_true rfl) (Nat.le_of_ble_eq_true rfl) (by rw [hp]; exact ⟨rfl, (uR_id h4 h5).symm⟩) d_U_step_29
set_option maxHeartbeats 4000000 in
set_option maxRecDepth 100000 in
theorem lp_U_outcomeOf (G : Gl) (l : Launch) (htr : l.stackTraces = false) (V : Vw) (b r sA : Nat) (mo oc : Int32) (i j ea oA cA fA vA : Nat) (ow ki dy md ak sk fk : Int32) (ln : Nat) (po cs fa : Nat → Int32) (hok : okCode ln po cs) (h1 : V 1 i = some (ea, oE ow ki dy oA cA (nI ln) md ak sk fk)) (h2 : V 2 i = some (oA, aI G 16 po)) (h3 : V 3 i = some (cA, aI G 16 cs)) (h6 : V 6 j = some (fA, oF vA)) (h7 : V 7 j = some (vA, aI G 8 fa)) {Rt : Option Value → Vw → Prop} {p : Program} {e : Env} {s : State} {m : MethodId} {args : Array Value} {below : List Frame} {meth : Method} {c : Code} (F : Bd G p l s m args meth c b_U_outcomeOf 6 "RuleClasses$Run") (hr : meth.sig.returnType = some .int) :
    ∀ (n : Nat), n ≤ 1000 → ∀ (h : Nat) (nx an st : Int32) (f : Nat → Int32) (H : Heap) (locs : List Loc) (ls : Array Slot), h ≤ 8 → Rt (some (.int (pRun ln po cs fa ak n h nx an st f).1)) (uR G V b r sA mo (pRun ln po cs fa ak n h nx an st f).2.1 (pRun ln po cs fa ak n h nx an st f).2.2.1 oc (pRun ln po cs fa ak n h nx an st f).2.2.2.1 (pRun ln po cs fa ak n h nx an st f).2.2.2.2.1 (pRun ln po cs fa ak n h nx an st f).2.2.2.2.2) → HS G s (uR G V b r sA mo h nx oc an st f) H locs → lv_has ls 6 [(0, .ref r), (1, .ref ea), (2, .ref fA), (3, .int (nI n))] →
      W p l e ({ frames := 3, cells := 0, slots := 0, locals := 72 } : Room) s m args below meth c H locs 0 0 (MQ below (QcC G Rt) args s ({ frames := 3, cells := 0, slots := 0, locals := 72 } : Room).cells ({ frames := 3, cells := 0, slots := 0, locals := 72 } : Room).slots (aB G)) (F0 m 5 ls []) := by
  have hln := hok.1
  obtain ⟨hx, hb, hml, hown, hts, hK, hlk, -⟩ := id F
  intro n
  induction n with
  | zero =>
    intro hn9 h nx an st f H locs ls hh hq hS hl
    refine lv_iload_n hx hb d_U_outcomeOf_5 rfl (lv_at hl 3 rfl) ?_
    refine lv_if_le (tgt := 81) hx hb d_U_outcomeOf_6 (by decide) (fun c_6 => ?_) (fun c_6 => absurd (by decide) c_6)
    refine lv_iconst (v := 1) hx hb d_U_outcomeOf_81 (by decide) ?_
    exact m_reti F hr hS (Nat.le_of_ble_eq_true rfl) (Nat.le_of_ble_eq_true rfl) hq d_U_outcomeOf_82
  | succ n ih =>
    intro hn9 h nx an st f H locs ls hh hq hS hl
    refine lv_iload_n hx hb d_U_outcomeOf_5 rfl (lv_at hl 3 rfl) ?_
    refine lv_if_le (tgt := 81) hx hb d_U_outcomeOf_6 (by decide) (fun c_6 => absurd c_6 (nI_nle (Nat.succ_pos n) (by omega))) (fun c_6 => ?_)
    refine lv_aload_n hx hb d_U_outcomeOf_9 rfl (lv_at hl 0 rfl) ?_
    refine r_get (k := 4) (i := b) F hS f_U_35.get uR_4 rfl d_U_outcomeOf_10 ?_
    refine lv_if_lt (tgt := 27) hx hb d_U_outcomeOf_13 (by decide) (fun c_13 => ?_) (fun c_13 => ?_)
    · have hp : pRun ln po cs fa ak (n + 1) h nx an st f = (4, h, nx, an, st, f) := if_pos (Or.inl c_13)
      rw [hp] at hq
      refine lv_iconst (v := 4) hx hb d_U_outcomeOf_27 (by decide) ?_
      exact m_reti F hr hS (Nat.le_of_ble_eq_true rfl) (Nat.le_of_ble_eq_true rfl) hq d_U_outcomeOf_28
    · refine lv_aload_n hx hb d_U_outcomeOf_16 rfl (lv_at hl 0 rfl) ?_
      refine r_get (k := 4) (i := b) F hS f_U_35.get uR_4 rfl d_U_outcomeOf_17 ?_
      refine lv_aload_n hx hb d_U_outcomeOf_20 rfl (lv_at hl 1 rfl) ?_
      refine r_get (k := 1) (i := i) F hS f_U_41.get ((uR_o (by decide) (by decide)).trans h1) rfl d_U_outcomeOf_21 ?_
      refine lv_icmp_lt (tgt := 29) hx hb d_U_outcomeOf_24 (by decide) (fun c_24 => ?_) (fun c_24 => ?_)
      · have hn0 : ¬ (nx < 0 ∨ nI ln ≤ nx) := fun z => z.elim c_13 (fun z => absurd c_24 (Int32.not_lt.mpr z))
        obtain ⟨j0, hj0, ej0⟩ : ∃ j0, j0 < ln ∧ nx = nI j0 := by
          obtain ⟨j0, hj1, hj2⟩ := nI_of c_13
          exact ⟨j0, (nI_ltI hj1 (by omega)).mp (by rw [← hj2]; exact c_24), hj2⟩
        have ej : nx.toNatClampNeg = j0 := by rw [ej0]; exact nI_clamp (by omega)
        obtain ⟨o, ho, hop0, hc10⟩ := hok.2 j0 hj0
        have hop : po nx.toNatClampNeg = nI o := by rw [ej]; exact hop0
        have hc1 : o = 1 → ∃ c, c < 8 ∧ cs nx.toNatClampNeg = nI c := by rw [ej]; exact hc10
        have hnow : nx.toNatClampNeg < 16 := by omega
        have eo : (po nx.toNatClampNeg).toNatClampNeg = o := by rw [hop]; exact nI_clamp (by omega)
        have enx : nx = nI nx.toNatClampNeg := by rw [ej]; exact ej0
        refine lv_aload_n hx hb d_U_outcomeOf_29 rfl (lv_at hl 0 rfl) ?_
        refine lv_dup hx hb d_U_outcomeOf_30 rfl ?_
        refine r_get (k := 4) (i := b) F hS f_U_38.get uR_4 rfl d_U_outcomeOf_31 ?_
        refine lv_iconst (v := 1) hx hb d_U_outcomeOf_34 (by decide) ?_
        refine lv_iadd hx hb d_U_outcomeOf_35 ?_
        refine r_put (k := 4) (i := b) F hS f_U_38 ct_U uR_4 rfl rfl (Nat.le_of_ble_eq_true rfl) d_U_outcomeOf_36 (fun H locs hS => ?_)
        have hS : HS G s (uV (uR G V b r sA mo h nx oc an st f) 4 b (r, oU sA mo (nI h) nx oc an (st + 1))) H _ := hS
        refine lv_aload_n hx hb d_U_outcomeOf_39 rfl (lv_at hl 0 rfl) ?_
        refine r_get (k := 4) (i := b) F hS f_U_35.get (uV_self _ _ _ _) rfl d_U_outcomeOf_40 ?_
        refine lv_istore (lv' := [(4, .int nx), (0, .ref r), (1, .ref ea), (2, .ref fA), (3, .int (nI (n + 1)))]) hx hb d_U_outcomeOf_43 hl (by decide) rfl (fun ls hl => ?_)
        refine lv_aload_n hx hb d_U_outcomeOf_45 rfl (lv_at hl 1 rfl) ?_
        refine lv_dup hx hb d_U_outcomeOf_46 rfl ?_
        refine r_get (k := 4) (i := b) F hS f_U_35.get (uV_self _ _ _ _) rfl d_U_outcomeOf_47 ?_
        refine lv_iconst (v := 1) hx hb d_U_outcomeOf_50 (by decide) ?_
        refine lv_iadd hx hb d_U_outcomeOf_51 ?_
        refine r_put (k := 4) (i := b) F hS f_U_35 ct_U (uV_self _ _ _ _) rfl rfl (Nat.le_of_ble_eq_true rfl) d_U_outcomeOf_52 (fun H locs hS => ?_)
        have hS : HS G s (uV (uV (uR G V b r sA mo h nx oc an st f) 4 b (r, oU sA mo (nI h) nx oc an (st + 1))) 4 b (r, oU sA mo (nI h) (nx + 1) oc an (st + 1))) H _ := hS
        refine lv_aload_n hx hb d_U_outcomeOf_55 rfl (lv_at hl 1 rfl) ?_
        refine lv_aload_n hx hb d_U_outcomeOf_56 rfl (lv_at hl 2 rfl) ?_
        refine lv_iload hx hb d_U_outcomeOf_57 (lv_at hl 0 rfl) ?_
        refine lv_aload_n hx hb d_U_outcomeOf_59 rfl (lv_at hl 3 rfl) ?_
        rw [uR_put4, uR_put4] at hS
        rw [show Value.int nx = Value.int (nI nx.toNatClampNeg) from congrArg Value.int enx]
        refine r_callV (k := 4) (i := b) (q := ("RuleClasses$Run", T_U, 7)) (fs := [.int mo, .ref sA, .int (nI h), .int (nx + 1), .int oc, .int an, .int (st + 1)]) (As := [.ref ea, .int (nI nx.toNatClampNeg), .ref fA]) (rest := []) F hS c_U_46 (k_U_step G l htr (uR G V b r sA mo h (nx + 1) oc an (st + 1) f) b r sA mo (nx + 1) oc an (st + 1) h f i j ea oA cA fA vA ow ki dy (nI ln) md ak sk fk po cs fa nx.toNatClampNeg o hh hnow ho hop hc1 uR_4 uR_5 ((uR_o (by decide) (by decide)).trans h1) ((uR_o (by decide) (by decide)).trans h2) ((uR_o (by decide) (by decide)).trans h3) ((uR_o (by decide) (by decide)).trans h6) ((uR_o (by decide) (by decide)).trans h7)) rfl uR_4 rfl hl.1 rfl (Nat.le_of_ble_eq_true rfl) d_U_outcomeOf_60 ⟨Nat.le_of_ble_eq_true rfl, Nat.le_of_ble_eq_true rfl⟩ ⟨Nat.le_of_ble_eq_true rfl, Nat.le_of_ble_eq_true rfl⟩ (fun rv V1 H locs hR hS => ?_)
        obtain ⟨rfl, rfl⟩ := hR
        rw [uR_uR] at hS
        refine W.eq (g2 := F0 m 63 ls [.int ((pStep o (cs nx.toNatClampNeg) fa ak h (nx + 1) an f).1)]) rfl ?_
        refine lv_istore (lv' := [(5, .int ((pStep o (cs nx.toNatClampNeg) fa ak h (nx + 1) an f).1)), (4, .int nx), (0, .ref r), (1, .ref ea), (2, .ref fA), (3, .int (nI (n + 1)))]) hx hb d_U_outcomeOf_63 hl (by decide) rfl (fun ls hl => ?_)
        refine lv_iload hx hb d_U_outcomeOf_65 (lv_at hl 0 rfl) ?_
        refine lv_bipush (v := 7) hx hb d_U_outcomeOf_67 (by decide) ?_
        refine lv_icmp_eq (tgt := 75) hx hb d_U_outcomeOf_69 (by decide) (fun c_69 => ?_) (fun c_69 => ?_)
        · have hp : pRun ln po cs fa ak (n + 1) h nx an st f = pRun ln po cs fa ak n (pStep o (cs nx.toNatClampNeg) fa ak h (nx + 1) an f).2.1 (pStep o (cs nx.toNatClampNeg) fa ak h (nx + 1) an f).2.2.1 (pStep o (cs nx.toNatClampNeg) fa ak h (nx + 1) an f).2.2.2.1 (st + 1) (pStep o (cs nx.toNatClampNeg) fa ak h (nx + 1) an f).2.2.2.2 := by
            show (if nx < 0 ∨ nI ln ≤ nx then _ else _) = _
            rw [if_neg hn0, eo, if_pos c_69]
          rw [hp] at hq
          refine lv_iinc (v := (nI n)) (lv' := [(3, .int (nI n)), (5, .int ((pStep o (cs nx.toNatClampNeg) fa ak h (nx + 1) an f).1)), (4, .int nx), (0, .ref r), (1, .ref ea), (2, .ref fA)]) hx hb d_U_outcomeOf_75 hl (k := 5) rfl (pk_m1 n) (by decide) rfl (fun ls hl => ?_)
          refine lv_goto (tgt := 5) hx hb d_U_outcomeOf_78 (by decide) ?_
          exact ih (by omega) _ _ _ _ _ _ _ _ (pStep_h hh) hq hS (lv_sub hl [3, 4, 5, 0] rfl)
        · have hp : pRun ln po cs fa ak (n + 1) h nx an st f = ((pStep o (cs nx.toNatClampNeg) fa ak h (nx + 1) an f).1, (pStep o (cs nx.toNatClampNeg) fa ak h (nx + 1) an f).2.1, (pStep o (cs nx.toNatClampNeg) fa ak h (nx + 1) an f).2.2.1, (pStep o (cs nx.toNatClampNeg) fa ak h (nx + 1) an f).2.2.2.1, st + 1, (pStep o (cs nx.toNatClampNeg) fa ak h (nx + 1) an f).2.2.2.2) := by
            show (if nx < 0 ∨ nI ln ≤ nx then _ else _) = _
            rw [if_neg hn0, eo, if_neg c_69]
          rw [hp] at hq
          refine lv_iload hx hb d_U_outcomeOf_72 (lv_at hl 0 rfl) ?_
          exact m_reti F hr hS (Nat.le_of_ble_eq_true rfl) (Nat.le_of_ble_eq_true rfl) hq d_U_outcomeOf_74
      · have hp : pRun ln po cs fa ak (n + 1) h nx an st f = (4, h, nx, an, st, f) := if_pos (Or.inr (Int32.not_lt.mp c_24))
        rw [hp] at hq
        refine lv_iconst (v := 4) hx hb d_U_outcomeOf_27 (by decide) ?_
        exact m_reti F hr hS (Nat.le_of_ble_eq_true rfl) (Nat.le_of_ble_eq_true rfl) hq d_U_outcomeOf_28
set_option maxHeartbeats 4000000 in
set_option maxRecDepth 100000 in
theorem k_U_outcomeOf (G : Gl) (l : Launch) (htr : l.stackTraces = false) (V : Vw) (b r sA : Nat) (nx oc an st : Int32) (h : Nat) (f : Nat → Int32) (n : Nat) (hh : h ≤ 8) (hn9 : n ≤ 1000) (i j ea oA cA fA vA : Nat) (ow ki dy md ak sk fk : Int32) (ln : Nat) (po cs fa : Nat → Int32) (hok : okCode ln po cs) (h4 : V 4 b = some (r, oU sA (nI n) (nI h) nx oc an st)) (h5 : V 5 b = some (sA, aI G 8 f)) (h1 : V 1 i = some (ea, oE ow ki dy oA cA (nI ln) md ak sk fk)) (h2 : V 2 i = some (oA, aI G 16 po)) (h3 : V 3 i = some (cA, aI G 16 cs)) (h6 : V 6 j = some (fA, oF vA)) (h7 : V 7 j = some (vA, aI G 8 fa)) :
    Cm G l y_U_outcomeOf b_U_outcomeOf 6 (Option.some Jvm.ClassFile.FieldType.int) { frames := 3, cells := 0, slots := 0, locals := 72 } V [.ref r, .ref ea, .ref fA] (fun rv V' => rv = some (.int (pRun ln po cs fa ak n h nx an st f).1) ∧ V' = uR G V b r sA (nI n) (pRun ln po cs fa ak n h nx an st f).2.1 (pRun ln po cs fa ak n h nx an st f).2.2.1 oc (pRun ln po cs fa ak n h nx an st f).2.2.2.1 (pRun ln po cs fa ak n h nx an st f).2.2.2.2.1 (pRun ln po cs fa ak n h nx an st f).2.2.2.2.2) := by
  refine Cm.of htr (by decide) (Nat.le_of_ble_eq_true rfl) ?_
  intro p e s m args below meth c ls F hr hnm hS hl
  obtain ⟨hx, hb, hml, hown, hts, hK, hlk, -⟩ := id F
  have hl : lv_has ls 6 [(0, .ref r), (1, .ref ea), (2, .ref fA)] := hl
  refine lv_aload_n hx hb d_U_outcomeOf_0 rfl (lv_at hl 0 rfl) ?_
  refine r_get (k := 4) (i := b) F hS f_U_15.get h4 rfl d_U_outcomeOf_1 ?_
  refine lv_istore_n (lv' := [(3, .int (nI n)), (0, .ref r), (1, .ref ea), (2, .ref fA)]) hx hb d_U_outcomeOf_4 rfl hl (by decide) rfl (fun ls hl => ?_)
  rw [← uR_id h4 h5] at hS
  refine lp_U_outcomeOf G l htr V b r sA (nI n) oc i j ea oA cA fA vA ow ki dy md ak sk fk ln po cs fa hok h1 h2 h3 h6 h7 F hr n hn9 h nx an st f _ _ _ hh ?_ hS (lv_sub hl [1, 2, 3, 0] rfl)
  exact ⟨rfl, rfl⟩
set_option maxHeartbeats 4000000 in
set_option maxRecDepth 100000 in
theorem k_U_start (G : Gl) (l : Launch) (htr : l.stackTraces = false) (V : Vw) (b r sA : Nat) (nx oc an st : Int32) (h : Nat) (f : Nat → Int32) (n : Nat) (hh : h ≤ 8) (hn9 : n ≤ 1000) (i j ea oA cA fA vA : Nat) (ow ki dy md ak sk fk : Int32) (ln : Nat) (po cs fa : Nat → Int32) (hok : okCode ln po cs) (h4 : V 4 b = some (r, oU sA (nI n) (nI h) nx oc an st)) (h5 : V 5 b = some (sA, aI G 8 f)) (h1 : V 1 i = some (ea, oE ow ki dy oA cA (nI ln) md ak sk fk)) (h2 : V 2 i = some (oA, aI G 16 po)) (h3 : V 3 i = some (cA, aI G 16 cs)) (h6 : V 6 j = some (fA, oF vA)) (h7 : V 7 j = some (vA, aI G 8 fa)) :
    Cm G l y_U_start b_U_start 3 none { frames := 4, cells := 0, slots := 0, locals := 97 } V [.ref r, .ref ea, .ref fA] (fun rv V' => rv = none ∧ V' = uR G V b r sA (nI n) (pRun ln po cs fa ak n 0 0 0 0 f).2.1 (pRun ln po cs fa ak n 0 0 0 0 f).2.2.1 (pRun ln po cs fa ak n 0 0 0 0 f).1 (pRun ln po cs fa ak n 0 0 0 0 f).2.2.2.1 (pRun ln po cs fa ak n 0 0 0 0 f).2.2.2.2.1 (pRun ln po cs fa ak n 0 0 0 0 f).2.2.2.2.2) := by
  refine Cm.of htr (by decide) (Nat.le_of_ble_eq_true rfl) ?_
  intro p e s m args below meth c ls F hr hnm hS hl
  obtain ⟨hx, hb, hml, hown, hts, hK, hlk, -⟩ := id F
  have hl : lv_has ls 3 [(0, .ref r), (1, .ref ea), (2, .ref fA)] := hl
  refine lv_aload_n hx hb d_U_start_0 rfl (lv_at hl 0 rfl) ?_
  refine r_callV (k := 4) (i := b) (q := ("RuleClasses$Run", T_U, 7)) (fs := [.int (nI n), .ref sA, .int (nI h), .int nx, .int oc, .int an, .int st]) (As := []) (rest := []) F hS c_U_19 (k_U_clear G l htr V b r sA (nI n) nx oc an st h f hh h4 h5) rfl h4 rfl hl.1 rfl (Nat.le_of_ble_eq_true rfl) d_U_start_1 ⟨Nat.le_of_ble_eq_true rfl, Nat.le_of_ble_eq_true rfl⟩ ⟨Nat.le_of_ble_eq_true rfl, Nat.le_of_ble_eq_true rfl⟩ (fun rv V1 H locs hR hS => ?_)
  obtain ⟨rfl, rfl⟩ := hR
  refine W.eq (g2 := F0 m 4 ls []) rfl ?_
  refine lv_aload_n hx hb d_U_start_4 rfl (lv_at hl 0 rfl) ?_
  refine lv_aload_n hx hb d_U_start_5 rfl (lv_at hl 0 rfl) ?_
  refine lv_aload_n hx hb d_U_start_6 rfl (lv_at hl 1 rfl) ?_
  refine lv_aload_n hx hb d_U_start_7 rfl (lv_at hl 2 rfl) ?_
  refine r_callV (k := 4) (i := b) (q := ("RuleClasses$Run", T_U, 7)) (fs := [.int (nI n), .ref sA, .int (nI 0), .int 0, .int oc, .int 0, .int 0]) (As := [.ref ea, .ref fA]) (rest := [.ref r]) F hS c_U_25 (k_U_outcomeOf G l htr (uR G V b r sA (nI n) 0 0 oc 0 0 f) b r sA 0 oc 0 0 0 f n (by decide) hn9 i j ea oA cA fA vA ow ki dy md ak sk fk ln po cs fa hok uR_4 uR_5 ((uR_o (by decide) (by decide)).trans h1) ((uR_o (by decide) (by decide)).trans h2) ((uR_o (by decide) (by decide)).trans h3) ((uR_o (by decide) (by decide)).trans h6) ((uR_o (by decide) (by decide)).trans h7)) rfl uR_4 rfl hl.1 rfl (Nat.le_of_ble_eq_true rfl) d_U_start_8 ⟨Nat.le_of_ble_eq_true rfl, Nat.le_of_ble_eq_true rfl⟩ ⟨Nat.le_of_ble_eq_true rfl, Nat.le_of_ble_eq_true rfl⟩ (fun rv V1 H locs hR hS => ?_)
  obtain ⟨rfl, rfl⟩ := hR
  rw [uR_uR] at hS
  refine W.eq (g2 := F0 m 11 ls [.int ((pRun ln po cs fa ak n 0 0 0 0 f).1), .ref r]) rfl ?_
  refine r_put (k := 4) (i := b) F hS f_U_22 ct_U uR_4 rfl rfl (Nat.le_of_ble_eq_true rfl) d_U_start_11 (fun H locs hS => ?_)
  have hS : HS G s (uV (uR G V b r sA (nI n) ((pRun ln po cs fa ak n 0 0 0 0 f).2.1) ((pRun ln po cs fa ak n 0 0 0 0 f).2.2.1) oc ((pRun ln po cs fa ak n 0 0 0 0 f).2.2.2.1) ((pRun ln po cs fa ak n 0 0 0 0 f).2.2.2.2.1) ((pRun ln po cs fa ak n 0 0 0 0 f).2.2.2.2.2)) 4 b (r, oU sA (nI n) (nI ((pRun ln po cs fa ak n 0 0 0 0 f).2.1)) ((pRun ln po cs fa ak n 0 0 0 0 f).2.2.1) ((pRun ln po cs fa ak n 0 0 0 0 f).1) ((pRun ln po cs fa ak n 0 0 0 0 f).2.2.2.1) ((pRun ln po cs fa ak n 0 0 0 0 f).2.2.2.2.1))) H _ := hS
  exact m_retv F hr hS (Nat.le_of_ble_eq_true rfl) (Nat.le_of_ble_eq_true rfl) ⟨rfl, uR_put4⟩ d_U_start_14
set_option maxHeartbeats 4000000 in
set_option maxRecDepth 100000 in
theorem k_U_startNothing (G : Gl) (l : Launch) (htr : l.stackTraces = false) (V : Vw) (b r sA : Nat) (n : Nat) (nx oc an st : Int32) (h : Nat) (f : Nat → Int32) (hh : h ≤ 8) (h4 : V 4 b = some (r, oU sA (nI n) (nI h) nx oc an st)) (h5 : V 5 b = some (sA, aI G 8 f)) :
    Cm G l y_U_startNothing b_U_startNothing 1 none { frames := 1, cells := 0, slots := 0, locals := 20 } V [.ref r] (fun rv V' => rv = none ∧ V' = uR G V b r sA (nI n) 0 0 0 0 0 f) := by
  refine Cm.of htr (by decide) (Nat.le_of_ble_eq_true rfl) ?_
  intro p e s m args below meth c ls F hr hnm hS hl
  obtain ⟨hx, hb, hml, hown, hts, hK, hlk, -⟩ := id F
  have hl : lv_has ls 1 [(0, .ref r)] := hl
  refine lv_aload_n hx hb d_U_startNothing_0 rfl (lv_at hl 0 rfl) ?_
  refine r_callV (k := 4) (i := b) (q := ("RuleClasses$Run", T_U, 7)) (fs := [.int (nI n), .ref sA, .int (nI h), .int nx, .int oc, .int an, .int st]) (As := []) (rest := []) F hS c_U_19 (k_U_clear G l htr V b r sA (nI n) nx oc an st h f hh h4 h5) rfl h4 rfl hl.1 rfl (Nat.le_of_ble_eq_true rfl) d_U_startNothing_1 ⟨Nat.le_of_ble_eq_true rfl, Nat.le_of_ble_eq_true rfl⟩ ⟨Nat.le_of_ble_eq_true rfl, Nat.le_of_ble_eq_true rfl⟩ (fun rv V1 H locs hR hS => ?_)
  obtain ⟨rfl, rfl⟩ := hR
  refine W.eq (g2 := F0 m 4 ls []) rfl ?_
  refine lv_aload_n hx hb d_U_startNothing_4 rfl (lv_at hl 0 rfl) ?_
  refine lv_iconst (v := 0) hx hb d_U_startNothing_5 (by decide) ?_
  refine r_put (k := 4) (i := b) F hS f_U_22 ct_U uR_4 rfl rfl (Nat.le_of_ble_eq_true rfl) d_U_startNothing_6 (fun H locs hS => ?_)
  have hS : HS G s (uV (uR G V b r sA (nI n) 0 0 oc 0 0 f) 4 b (r, oU sA (nI n) (nI 0) 0 0 0 0)) H _ := hS
  exact m_retv F hr hS (Nat.le_of_ble_eq_true rfl) (Nat.le_of_ble_eq_true rfl) ⟨rfl, uR_put4⟩ d_U_startNothing_9
set_option maxHeartbeats 4000000 in
set_option maxRecDepth 100000 in
theorem k_U_endedLike (G : Gl) (l : Launch) (htr : l.stackTraces = false) (V : Vw) (b b2 r r2 sA sA2 : Nat) (mo nx oc an st hx0 mo2 h2 nx2 oc2 an2 st2 : Int32) (h4 : V 4 b = some (r, oU sA mo hx0 nx oc an st)) (h5 : V 4 b2 = some (r2, oU sA2 mo2 h2 nx2 oc2 an2 st2)) :
    Cm G l y_U_endedLike b_U_endedLike 2 (Option.some Jvm.ClassFile.FieldType.boolean) { frames := 0, cells := 0, slots := 0, locals := 0 } V [.ref r, .ref r2] (fun rv V' => rv = some (.int (if oc = oc2 ∧ an = an2 then 1 else 0)) ∧ V' = V) := by
  refine Cm.of htr (by decide) (Nat.le_of_ble_eq_true rfl) ?_
  intro p e s m args below meth c ls F hr hnm hS hl
  obtain ⟨hx, hb, hml, hown, hts, hK, hlk, -⟩ := id F
  have hl : lv_has ls 2 [(0, .ref r), (1, .ref r2)] := hl
  refine lv_aload_n hx hb d_U_endedLike_0 rfl (lv_at hl 0 rfl) ?_
  refine r_get (k := 4) (i := b) F hS f_U_22.get h4 rfl d_U_endedLike_1 ?_
  refine lv_aload_n hx hb d_U_endedLike_4 rfl (lv_at hl 1 rfl) ?_
  refine r_get (k := 4) (i := b2) F hS f_U_22.get h5 rfl d_U_endedLike_5 ?_
  refine lv_icmp_ne (tgt := 26) hx hb d_U_endedLike_8 (by decide) (fun c_8 => ?_) (fun c_8 => ?_)
  · refine lv_iconst (v := 0) hx hb d_U_endedLike_26 (by decide) ?_
    exact m_retz F hr hS (Nat.le_of_ble_eq_true rfl) (Nat.le_of_ble_eq_true rfl) rfl ⟨by rw [if_neg (fun z => c_8 z.1)], rfl⟩ d_U_endedLike_27
  · refine lv_aload_n hx hb d_U_endedLike_11 rfl (lv_at hl 0 rfl) ?_
    refine r_get (k := 4) (i := b) F hS f_U_29.get h4 rfl d_U_endedLike_12 ?_
    refine lv_aload_n hx hb d_U_endedLike_15 rfl (lv_at hl 1 rfl) ?_
    refine r_get (k := 4) (i := b2) F hS f_U_29.get h5 rfl d_U_endedLike_16 ?_
    refine lv_icmp_ne (tgt := 26) hx hb d_U_endedLike_19 (by decide) (fun c_19 => ?_) (fun c_19 => ?_)
    · refine lv_iconst (v := 0) hx hb d_U_endedLike_26 (by decide) ?_
      exact m_retz F hr hS (Nat.le_of_ble_eq_true rfl) (Nat.le_of_ble_eq_true rfl) rfl ⟨by rw [if_neg (fun z => c_19 z.2)], rfl⟩ d_U_endedLike_27
    · refine lv_iconst (v := 1) hx hb d_U_endedLike_22 (by decide) ?_
      refine lv_goto (tgt := 27) hx hb d_U_endedLike_23 (by decide) ?_
      exact m_retz F hr hS (Nat.le_of_ble_eq_true rfl) (Nat.le_of_ble_eq_true rfl) rfl ⟨by rw [if_pos ⟨c_8, c_19⟩], rfl⟩ d_U_endedLike_27

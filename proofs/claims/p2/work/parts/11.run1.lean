set_option maxHeartbeats 4000000 in
set_option maxRecDepth 100000 in
theorem k_U_take (G : Gl) (l : Launch) (htr : l.stackTraces = false) (V : Vw) (b r sA : Nat) (mo nx oc an st : Int32) (h : Nat) (f : Nat → Int32) (hh : h ≤ 8) (h4 : V 4 b = some (r, oU sA mo (nI h) nx oc an st)) (h5 : V 5 b = some (sA, aI G 8 f)) :
    Cm G l y_U_take b_U_take 1 (Option.some Jvm.ClassFile.FieldType.int) { frames := 0, cells := 0, slots := 0, locals := 0 } V [.ref r] (fun rv V' => rv = some (.int (pTake h f)) ∧ V' = uR G V b r sA mo (h - 1) nx oc an st f) := by
  refine Cm.of htr (by decide) (Nat.le_of_ble_eq_true rfl) ?_
  intro p e s m args below meth c ls F hr hnm hS hl
  obtain ⟨hx, hb, hml, hown, hts, hK, hlk, -⟩ := id F
  have hl : lv_has ls 1 [(0, .ref r)] := hl
  refine lv_aload_n hx hb d_U_take_0 rfl (lv_at hl 0 rfl) ?_
  refine r_get (k := 4) (i := b) F hS f_U_32.get h4 rfl d_U_take_1 ?_
  refine lv_if_gt (tgt := 9) hx hb d_U_take_4 (by decide) (fun c_4 => ?_) (fun c_4 => ?_)
  · have h0 : 0 < h := (nI_0lt (by omega)).mp c_4
    refine lv_aload_n hx hb d_U_take_9 rfl (lv_at hl 0 rfl) ?_
    refine lv_dup hx hb d_U_take_10 rfl ?_
    refine r_get (k := 4) (i := b) F hS f_U_32.get h4 rfl d_U_take_11 ?_
    refine lv_iconst (v := 1) hx hb d_U_take_14 (by decide) ?_
    refine lv_isub hx hb d_U_take_15 ?_
    rw [nI_m1 h0]
    refine r_put (k := 4) (i := b) F hS f_U_32 ct_U h4 rfl rfl (Nat.le_of_ble_eq_true rfl) d_U_take_16 (fun H locs hS => ?_)
    have hS : HS G s (uV V 4 b (r, oU sA mo (nI (h - 1)) nx oc an st)) H locs := hS
    refine lv_aload_n hx hb d_U_take_19 rfl (lv_at hl 0 rfl) ?_
    refine r_get (k := 4) (i := b) F hS f_U_9.get (uV_self _ _ _ _) rfl d_U_take_20 ?_
    refine lv_aload_n hx hb d_U_take_23 rfl (lv_at hl 0 rfl) ?_
    refine r_get (k := 4) (i := b) F hS f_U_32.get (uV_self _ _ _ _) rfl d_U_take_24 ?_
    refine r_iald (k := 5) (i := b) F hS h5 (vp_in_nI (by omega) (by decide)) d_U_take_27 ?_
    rw [nI_clamp (by omega)]
    exact m_reti F hr hS (Nat.le_of_ble_eq_true rfl) (Nat.le_of_ble_eq_true rfl) ⟨by rw [pTake, if_neg (by omega)], uR_of4 h5⟩ d_U_take_28
  · have h0 : h = 0 := by
      rcases Nat.eq_zero_or_pos h with q | q
      · exact q
      · exact absurd ((nI_0lt (by omega)).mpr q) c_4
    subst h0
    refine lv_iconst (v := 0) hx hb d_U_take_7 (by decide) ?_
    exact m_reti F hr hS (Nat.le_of_ble_eq_true rfl) (Nat.le_of_ble_eq_true rfl) ⟨rfl, (uR_id h4 h5).symm⟩ d_U_take_8
set_option maxHeartbeats 4000000 in
set_option maxRecDepth 100000 in
theorem k_U_put (G : Gl) (l : Launch) (htr : l.stackTraces = false) (V : Vw) (b r sA : Nat) (mo nx oc an st : Int32) (h : Nat) (f : Nat → Int32) (hh : h ≤ 8) (v : Int64) (h4 : V 4 b = some (r, oU sA mo (nI h) nx oc an st)) (h5 : V 5 b = some (sA, aI G 8 f)) :
    Cm G l y_U_put b_U_put 3 (Option.some Jvm.ClassFile.FieldType.int) { frames := 0, cells := 0, slots := 0, locals := 0 } V [.ref r, .long v] (fun rv V' => rv = some (.int (pPut v h f).1) ∧ V' = uR G V b r sA mo (pPut v h f).2.1 nx oc an st (pPut v h f).2.2) := by
  refine Cm.of htr (by decide) (Nat.le_of_ble_eq_true rfl) ?_
  intro p e s m args below meth c ls F hr hnm hS hl
  obtain ⟨hx, hb, hml, hown, hts, hK, hlk, -⟩ := id F
  have hl : lv_has ls 3 [(0, .ref r), (1, .long v)] := hl
  refine lv_lload_n hx hb d_U_put_0 rfl (lv_at hl 1 rfl) ?_
  refine lv_ldc2 (v := (-1000000000)) hx hb hown (hts _ m_491) d_U_put_1 ?_
  refine W.lcmp hx hb d_U_put_4 ?_
  refine lv_if_lt (tgt := 16) hx hb d_U_put_5 (by decide) (fun c_5 => ?_) (fun c_5 => ?_)
  · have hp : pPut v h f = (5, h, f) := if_pos (Or.inl ((lg_cmp_lt _ _).mp c_5))
    refine lv_iconst (v := 5) hx hb d_U_put_16 (by decide) ?_
    exact m_reti F hr hS (Nat.le_of_ble_eq_true rfl) (Nat.le_of_ble_eq_true rfl) (by rw [hp]; exact ⟨rfl, (uR_id h4 h5).symm⟩) d_U_put_17
  · refine lv_lload_n hx hb d_U_put_8 rfl (lv_at hl 1 rfl) ?_
    refine lv_ldc2 (v := 1000000000) hx hb hown (hts _ m_492) d_U_put_9 ?_
    refine W.lcmp hx hb d_U_put_12 ?_
    refine lv_if_le (tgt := 18) hx hb d_U_put_13 (by decide) (fun c_13 => ?_) (fun c_13 => ?_)
    · have hp0 : ¬ (v < -1000000000 ∨ 1000000000 < v) := fun z => z.elim (fun z => c_5 ((lg_cmp_lt _ _).mpr z)) (fun z => absurd ((lg_cmp_le _ _).mp c_13) (Int64.not_le.mpr z))
      refine lv_aload_n hx hb d_U_put_18 rfl (lv_at hl 0 rfl) ?_
      refine r_get (k := 4) (i := b) F hS f_U_32.get h4 rfl d_U_put_19 ?_
      refine lv_bipush (v := 8) hx hb d_U_put_22 (by decide) ?_
      refine lv_icmp_lt (tgt := 29) hx hb d_U_put_24 (by decide) (fun c_24 => ?_) (fun c_24 => ?_)
      · have h8 : h < 8 := (nI_ltI (by omega) (by decide)).mp (show nI h < nI 8 from c_24)
        have hp : pPut v h f = (7, h + 1, upd f h v.toInt32) := (if_neg hp0).trans (if_neg (by omega))
        refine lv_aload_n hx hb d_U_put_29 rfl (lv_at hl 0 rfl) ?_
        refine r_get (k := 4) (i := b) F hS f_U_9.get h4 rfl d_U_put_30 ?_
        refine lv_aload_n hx hb d_U_put_33 rfl (lv_at hl 0 rfl) ?_
        refine r_get (k := 4) (i := b) F hS f_U_32.get h4 rfl d_U_put_34 ?_
        refine lv_lload_n hx hb d_U_put_37 rfl (lv_at hl 1 rfl) ?_
        refine lv_l2i (v := v.toInt32) hx hb d_U_put_38 rfl ?_
        refine r_iast (k := 5) (i := b) F hS h5 (vp_in_nI (by omega) (by decide)) d_U_put_39 (fun H locs hS => ?_)
        rw [nI_clamp (by omega)] at hS
        have hS : HS G s (uV V 5 b (sA, aI G 8 (upd f h v.toInt32))) H locs := hS
        refine lv_aload_n hx hb d_U_put_40 rfl (lv_at hl 0 rfl) ?_
        refine lv_dup hx hb d_U_put_41 rfl ?_
        refine r_get (k := 4) (i := b) F hS f_U_32.get h4 rfl d_U_put_42 ?_
        refine lv_iconst (v := 1) hx hb d_U_put_45 (by decide) ?_
        refine lv_iadd hx hb d_U_put_46 ?_
        rw [nI_1]
        refine r_put (k := 4) (i := b) F hS f_U_32 ct_U h4 rfl rfl (Nat.le_of_ble_eq_true rfl) d_U_put_47 (fun H locs hS => ?_)
        have hS : HS G s (uV (uV V 5 b (sA, aI G 8 (upd f h v.toInt32))) 4 b (r, oU sA mo (nI (h + 1)) nx oc an st)) H locs := hS
        refine lv_bipush (v := 7) hx hb d_U_put_50 (by decide) ?_
        exact m_reti F hr hS (Nat.le_of_ble_eq_true rfl) (Nat.le_of_ble_eq_true rfl) (by rw [hp]; exact ⟨rfl, rfl⟩) d_U_put_52
      · have h8 : ¬ h < 8 := fun z => c_24 (show nI h < nI 8 from nI_lt z (by decide))
        have hp : pPut v h f = (3, h, f) := (if_neg hp0).trans (if_pos (by omega))
        refine lv_iconst (v := 3) hx hb d_U_put_27 (by decide) ?_
        exact m_reti F hr hS (Nat.le_of_ble_eq_true rfl) (Nat.le_of_ble_eq_true rfl) (by rw [hp]; exact ⟨rfl, (uR_id h4 h5).symm⟩) d_U_put_28
    · have hp : pPut v h f = (5, h, f) := if_pos (Or.inr (Int64.not_le.mp (fun z => c_13 ((lg_cmp_le _ _).mpr z))))
      refine lv_iconst (v := 5) hx hb d_U_put_16 (by decide) ?_
      exact m_reti F hr hS (Nat.le_of_ble_eq_true rfl) (Nat.le_of_ble_eq_true rfl) (by rw [hp]; exact ⟨rfl, (uR_id h4 h5).symm⟩) d_U_put_17
set_option maxHeartbeats 4000000 in
set_option maxRecDepth 100000 in
theorem k_U_needed (G : Gl) (l : Launch) (htr : l.stackTraces = false) (V : Vw) (o : Nat) (ho : o ≤ 10)  :
    Cm G l y_U_needed b_U_needed 1 (Option.some Jvm.ClassFile.FieldType.int) { frames := 0, cells := 0, slots := 0, locals := 0 } V [.int (nI o)] (fun rv V' => rv = some (.int (nI (pNeed o))) ∧ V' = V) := by
  refine Cm.of htr (by decide) (Nat.le_of_ble_eq_true rfl) ?_
  intro p e s m args below meth c ls F hr hnm hS hl
  obtain ⟨hx, hb, hml, hown, hts, hK, hlk, -⟩ := id F
  have hl : lv_has ls 1 [(0, .int (nI o))] := hl
  refine lv_iload_n hx hb d_U_needed_0 rfl (lv_at hl 0 rfl) ?_
  rcases (show o = 0 ∨ o = 1 ∨ o = 2 ∨ o = 3 ∨ o = 4 ∨ o = 5 ∨ o = 6 ∨ o = 7 ∨ o = 8 ∨ o = 9 ∨ o = 10 by omega) with rfl | rfl | rfl | rfl | rfl | rfl | rfl | rfl | rfl | rfl | rfl
  · refine lv_tableIn (tgt := 60) (off := 59) hx hb d_U_needed_1 (by decide) (by decide) (by decide) (by decide) ?_
    refine lv_iconst (v := 0) hx hb d_U_needed_60 (by decide) ?_
    exact m_reti F hr hS (Nat.le_of_ble_eq_true rfl) (Nat.le_of_ble_eq_true rfl) ⟨rfl, rfl⟩ d_U_needed_61
  · refine lv_tableIn (tgt := 60) (off := 59) hx hb d_U_needed_1 (by decide) (by decide) (by decide) (by decide) ?_
    refine lv_iconst (v := 0) hx hb d_U_needed_60 (by decide) ?_
    exact m_reti F hr hS (Nat.le_of_ble_eq_true rfl) (Nat.le_of_ble_eq_true rfl) ⟨rfl, rfl⟩ d_U_needed_61
  · refine lv_tableIn (tgt := 64) (off := 63) hx hb d_U_needed_1 (by decide) (by decide) (by decide) (by decide) ?_
    refine lv_iconst (v := 2) hx hb d_U_needed_64 (by decide) ?_
    exact m_reti F hr hS (Nat.le_of_ble_eq_true rfl) (Nat.le_of_ble_eq_true rfl) ⟨rfl, rfl⟩ d_U_needed_65
  · refine lv_tableIn (tgt := 64) (off := 63) hx hb d_U_needed_1 (by decide) (by decide) (by decide) (by decide) ?_
    refine lv_iconst (v := 2) hx hb d_U_needed_64 (by decide) ?_
    exact m_reti F hr hS (Nat.le_of_ble_eq_true rfl) (Nat.le_of_ble_eq_true rfl) ⟨rfl, rfl⟩ d_U_needed_65
  · refine lv_tableIn (tgt := 64) (off := 63) hx hb d_U_needed_1 (by decide) (by decide) (by decide) (by decide) ?_
    refine lv_iconst (v := 2) hx hb d_U_needed_64 (by decide) ?_
    exact m_reti F hr hS (Nat.le_of_ble_eq_true rfl) (Nat.le_of_ble_eq_true rfl) ⟨rfl, rfl⟩ d_U_needed_65
  · refine lv_tableIn (tgt := 64) (off := 63) hx hb d_U_needed_1 (by decide) (by decide) (by decide) (by decide) ?_
    refine lv_iconst (v := 2) hx hb d_U_needed_64 (by decide) ?_
    exact m_reti F hr hS (Nat.le_of_ble_eq_true rfl) (Nat.le_of_ble_eq_true rfl) ⟨rfl, rfl⟩ d_U_needed_65
  · refine lv_tableIn (tgt := 64) (off := 63) hx hb d_U_needed_1 (by decide) (by decide) (by decide) (by decide) ?_
    refine lv_iconst (v := 2) hx hb d_U_needed_64 (by decide) ?_
    exact m_reti F hr hS (Nat.le_of_ble_eq_true rfl) (Nat.le_of_ble_eq_true rfl) ⟨rfl, rfl⟩ d_U_needed_65
  · refine lv_tableIn (tgt := 62) (off := 61) hx hb d_U_needed_1 (by decide) (by decide) (by decide) (by decide) ?_
    refine lv_iconst (v := 1) hx hb d_U_needed_62 (by decide) ?_
    exact m_reti F hr hS (Nat.le_of_ble_eq_true rfl) (Nat.le_of_ble_eq_true rfl) ⟨rfl, rfl⟩ d_U_needed_63
  · refine lv_tableIn (tgt := 62) (off := 61) hx hb d_U_needed_1 (by decide) (by decide) (by decide) (by decide) ?_
    refine lv_iconst (v := 1) hx hb d_U_needed_62 (by decide) ?_
    exact m_reti F hr hS (Nat.le_of_ble_eq_true rfl) (Nat.le_of_ble_eq_true rfl) ⟨rfl, rfl⟩ d_U_needed_63
  · refine lv_tableIn (tgt := 62) (off := 61) hx hb d_U_needed_1 (by decide) (by decide) (by decide) (by decide) ?_
    refine lv_iconst (v := 1) hx hb d_U_needed_62 (by decide) ?_
    exact m_reti F hr hS (Nat.le_of_ble_eq_true rfl) (Nat.le_of_ble_eq_true rfl) ⟨rfl, rfl⟩ d_U_needed_63
  · refine lv_tableIn (tgt := 60) (off := 59) hx hb d_U_needed_1 (by decide) (by decide) (by decide) (by decide) ?_
    refine lv_iconst (v := 0) hx hb d_U_needed_60 (by decide) ?_
    exact m_reti F hr hS (Nat.le_of_ble_eq_true rfl) (Nat.le_of_ble_eq_true rfl) ⟨rfl, rfl⟩ d_U_needed_61
set_option maxHeartbeats 4000000 in
set_option maxRecDepth 100000 in
theorem k_U_clear (G : Gl) (l : Launch) (htr : l.stackTraces = false) (V : Vw) (b r sA : Nat) (mo nx oc an st : Int32) (h : Nat) (f : Nat → Int32) (hh : h ≤ 8) (h4 : V 4 b = some (r, oU sA mo (nI h) nx oc an st)) (h5 : V 5 b = some (sA, aI G 8 f)) :
    Cm G l y_U_clear b_U_clear 1 none { frames := 0, cells := 0, slots := 0, locals := 0 } V [.ref r] (fun rv V' => rv = none ∧ V' = uR G V b r sA mo 0 0 oc 0 0 f) := by
  refine Cm.of htr (by decide) (Nat.le_of_ble_eq_true rfl) ?_
  intro p e s m args below meth c ls F hr hnm hS hl
  obtain ⟨hx, hb, hml, hown, hts, hK, hlk, -⟩ := id F
  have hl : lv_has ls 1 [(0, .ref r)] := hl
  refine lv_aload_n hx hb d_U_clear_0 rfl (lv_at hl 0 rfl) ?_
  refine lv_iconst (v := 0) hx hb d_U_clear_1 (by decide) ?_
  refine r_put (k := 4) (i := b) F hS f_U_32 ct_U h4 rfl rfl (Nat.le_of_ble_eq_true rfl) d_U_clear_2 (fun H locs hS => ?_)
  have hS : HS G s (uV V 4 b (r, oU sA mo 0 nx oc an st)) H locs := hS
  refine lv_aload_n hx hb d_U_clear_5 rfl (lv_at hl 0 rfl) ?_
  refine lv_iconst (v := 0) hx hb d_U_clear_6 (by decide) ?_
  refine r_put (k := 4) (i := b) F hS f_U_35 ct_U (uV_self _ _ _ _) rfl rfl (Nat.le_of_ble_eq_true rfl) d_U_clear_7 (fun H locs hS => ?_)
  have hS : HS G s (uV (uV V 4 b (r, oU sA mo 0 nx oc an st)) 4 b (r, oU sA mo 0 0 oc an st)) H locs := hS
  refine lv_aload_n hx hb d_U_clear_10 rfl (lv_at hl 0 rfl) ?_
  refine lv_iconst (v := 0) hx hb d_U_clear_11 (by decide) ?_
  refine r_put (k := 4) (i := b) F hS f_U_38 ct_U (uV_self _ _ _ _) rfl rfl (Nat.le_of_ble_eq_true rfl) d_U_clear_12 (fun H locs hS => ?_)
  have hS : HS G s (uV (uV (uV V 4 b (r, oU sA mo 0 nx oc an st)) 4 b (r, oU sA mo 0 0 oc an st)) 4 b (r, oU sA mo 0 0 oc an 0)) H locs := hS
  refine lv_aload_n hx hb d_U_clear_15 rfl (lv_at hl 0 rfl) ?_
  refine lv_iconst (v := 0) hx hb d_U_clear_16 (by decide) ?_
  refine r_put (k := 4) (i := b) F hS f_U_29 ct_U (uV_self _ _ _ _) rfl rfl (Nat.le_of_ble_eq_true rfl) d_U_clear_17 (fun H locs hS => ?_)
  have hS : HS G s (uV (uV (uV (uV V 4 b (r, oU sA mo 0 nx oc an st)) 4 b (r, oU sA mo 0 0 oc an st)) 4 b (r, oU sA mo 0 0 oc an 0)) 4 b (r, oU sA mo 0 0 oc 0 0)) H locs := hS
  exact m_retv F hr hS (Nat.le_of_ble_eq_true rfl) (Nat.le_of_ble_eq_true rfl) ⟨rfl, by rw [uV_uV, uV_uV, uV_uV]; exact uR_of4 h5⟩ d_U_clear_20

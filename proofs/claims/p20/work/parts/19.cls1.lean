set_option maxHeartbeats 4000000 in
set_option maxRecDepth 100000 in
theorem k_C_requireRange (G : Gl) (l : Launch) (htr : l.stackTraces = false) (V : Vw) (n lo hi : Int32)  :
    Cx G l y_C_requireRange b_C_requireRange 3 none { frames := 6, cells := 1, slots := 6, locals := 90 } V [.int n, .int lo, .int hi] (fun rv V' => rv = none ∧ V' = V ∧ lo ≤ n ∧ n ≤ hi) (fun E V' => E = "java/lang/IllegalArgumentException" ∧ V' = V ∧ (n < lo ∨ hi < n)) := by
  refine Cx.of htr (by decide) (Nat.le_of_ble_eq_true rfl) ?_
  intro p e s m args below meth c ls F hr hex hS hl
  obtain ⟨hx, hb, hml, hown, hts, hK, hlk, -⟩ := id F
  have hl : lv_has ls 3 [(0, .int n), (1, .int lo), (2, .int hi)] := hl
  refine lv_iload_n hx hb d_C_requireRange_0 rfl (lv_at hl 0 rfl) ?_
  refine lv_iload_n hx hb d_C_requireRange_1 rfl (lv_at hl 1 rfl) ?_
  refine lv_icmp_lt (tgt := 10) hx hb d_C_requireRange_2 (by decide) (fun c_2 => ?_) (fun c_2 => ?_)
  · exact r_throw F hex hS tw_IllegalArgumentException (List.mem_of_getElem? (i := 0) rfl) hl.1 d_C_requireRange_10 d_C_requireRange_13 d_C_requireRange_14 d_C_requireRange_16 d_C_requireRange_19 (Nat.le_of_ble_eq_true rfl) (Nat.le_of_ble_eq_true rfl) (Nat.le_of_ble_eq_true rfl) (Nat.le_of_ble_eq_true rfl) (Nat.le_of_ble_eq_true rfl) (Nat.le_of_ble_eq_true rfl) (⟨rfl, rfl, Or.inl c_2⟩)
  · refine lv_iload_n hx hb d_C_requireRange_5 rfl (lv_at hl 0 rfl) ?_
    refine lv_iload_n hx hb d_C_requireRange_6 rfl (lv_at hl 2 rfl) ?_
    refine lv_icmp_le (tgt := 20) hx hb d_C_requireRange_7 (by decide) (fun c_7 => ?_) (fun c_7 => ?_)
    · exact vx_ret (m_retv F hr hS (Nat.le_of_ble_eq_true rfl) (Nat.le_of_ble_eq_true rfl) ⟨rfl, rfl, Int32.not_lt.mp c_2, c_7⟩ d_C_requireRange_20)
    · exact r_throw F hex hS tw_IllegalArgumentException (List.mem_of_getElem? (i := 0) rfl) hl.1 d_C_requireRange_10 d_C_requireRange_13 d_C_requireRange_14 d_C_requireRange_16 d_C_requireRange_19 (Nat.le_of_ble_eq_true rfl) (Nat.le_of_ble_eq_true rfl) (Nat.le_of_ble_eq_true rfl) (Nat.le_of_ble_eq_true rfl) (Nat.le_of_ble_eq_true rfl) (Nat.le_of_ble_eq_true rfl) (⟨rfl, rfl, Or.inr (Int32.not_le.mp c_7)⟩)
set_option maxHeartbeats 4000000 in
set_option maxRecDepth 100000 in
theorem k_C_requireOwnerAndKind (G : Gl) (l : Launch) (htr : l.stackTraces = false) (V : Vw) (o k : Int32)  :
    Cx G l y_C_requireOwnerAndKind b_C_requireOwnerAndKind 2 none { frames := 7, cells := 2, slots := 12, locals := 112 } V [.int o, .int k] (fun rv V' => rv = none ∧ V' = V ∧ ∃ on kn : Nat, on ≤ 5 ∧ kn ≤ 2 ∧ o = nI on ∧ k = nI kn) (fun E V' => E = "java/lang/IllegalArgumentException" ∧ V' = V ∧ ((o < 0 ∨ 5 < o) ∨ (k < 0 ∨ 2 < k))) := by
  refine Cx.of htr (by decide) (Nat.le_of_ble_eq_true rfl) ?_
  intro p e s m args below meth c ls F hr hex hS hl
  obtain ⟨hx, hb, hml, hown, hts, hK, hlk, -⟩ := id F
  have hl : lv_has ls 2 [(0, .int o), (1, .int k)] := hl
  refine lv_iload_n hx hb d_C_requireOwnerAndKind_0 rfl (lv_at hl 0 rfl) ?_
  refine lv_iconst (v := 0) hx hb d_C_requireOwnerAndKind_1 (by decide) ?_
  refine lv_iconst (v := 5) hx hb d_C_requireOwnerAndKind_2 (by decide) ?_
  refine r_xcallS (As := [.int o, .int 0, .int 5]) (rest := []) F hS c_C_67 (k_C_requireRange G l htr V o 0 5) rfl hl.1 rfl (Nat.le_of_ble_eq_true rfl) d_C_requireOwnerAndKind_3 ⟨Nat.le_of_ble_eq_true rfl, Nat.le_of_ble_eq_true rfl⟩ ⟨Nat.le_of_ble_eq_true rfl, Nat.le_of_ble_eq_true rfl⟩ (fun q9 E9 ce V1 H locs hT hS hce => ?_) (fun rv V1 H locs hR hS => ?_)
  · obtain ⟨rfl, hV, hbad⟩ := hT
    rw [hV] at hS
    exact x_out F hex hS hce ⟨rfl, rfl, Or.inl hbad⟩ (Nat.le_of_ble_eq_true rfl) (Nat.le_of_ble_eq_true rfl)
  obtain ⟨rfl, hV, hlo, hhi⟩ := hR
  rw [hV] at hS
  obtain ⟨on, hon, rfl⟩ := nI_of2 (M := 5) (n := 5) (by decide) (Int32.not_lt.mpr hlo) hhi
  refine W.eq (g2 := F0 m 6 ls []) rfl ?_
  refine lv_iload_n hx hb d_C_requireOwnerAndKind_6 rfl (lv_at hl 1 rfl) ?_
  refine lv_iconst (v := 0) hx hb d_C_requireOwnerAndKind_7 (by decide) ?_
  refine lv_iconst (v := 2) hx hb d_C_requireOwnerAndKind_8 (by decide) ?_
  refine r_xcallS (As := [.int k, .int 0, .int 2]) (rest := []) F hS c_C_67 (k_C_requireRange G l htr V k 0 2) rfl hl.1 rfl (Nat.le_of_ble_eq_true rfl) d_C_requireOwnerAndKind_9 ⟨Nat.le_of_ble_eq_true rfl, Nat.le_of_ble_eq_true rfl⟩ ⟨Nat.le_of_ble_eq_true rfl, Nat.le_of_ble_eq_true rfl⟩ (fun q9 E9 ce V1 H locs hT hS hce => ?_) (fun rv V1 H locs hR hS => ?_)
  · obtain ⟨rfl, hV, hbad⟩ := hT
    rw [hV] at hS
    exact x_out F hex hS hce ⟨rfl, rfl, Or.inr hbad⟩ (Nat.le_of_ble_eq_true rfl) (Nat.le_of_ble_eq_true rfl)
  obtain ⟨rfl, hV, hlo, hhi⟩ := hR
  rw [hV] at hS
  obtain ⟨kn, hkn, rfl⟩ := nI_of2 (M := 2) (n := 2) (by decide) (Int32.not_lt.mpr hlo) hhi
  refine W.eq (g2 := F0 m 12 ls []) rfl ?_
  exact vx_ret (m_retv F hr hS (Nat.le_of_ble_eq_true rfl) (Nat.le_of_ble_eq_true rfl) ⟨rfl, rfl, on, kn, hon, hkn, rfl, rfl⟩ d_C_requireOwnerAndKind_12)
set_option maxHeartbeats 4000000 in
set_option maxRecDepth 100000 in
theorem k_C_leastConstant (G : Gl) (l : Launch) (htr : l.stackTraces = false) (V : Vw) (o : Int32)  :
    Cm G l y_C_leastConstant b_C_leastConstant 1 (Option.some Jvm.ClassFile.FieldType.int) { frames := 0, cells := 0, slots := 0, locals := 0 } V [.int o] (fun rv V' => rv = some (.int (pLs o)) ∧ V' = V) := by
  refine Cm.of htr (by decide) (Nat.le_of_ble_eq_true rfl) ?_
  intro p e s m args below meth c ls F hr hnm hS hl
  obtain ⟨hx, hb, hml, hown, hts, hK, hlk, -⟩ := id F
  have hl : lv_has ls 1 [(0, .int o)] := hl
  refine lv_iload_n hx hb d_C_leastConstant_0 rfl (lv_at hl 0 rfl) ?_
  refine lv_if_ne (tgt := 10) hx hb d_C_leastConstant_1 (by decide) (fun c_1 => ?_) (fun c_1 => ?_)
  · refine lv_iconst (v := 0) hx hb d_C_leastConstant_10 (by decide) ?_
    exact m_reti F hr hS (Nat.le_of_ble_eq_true rfl) (Nat.le_of_ble_eq_true rfl) ⟨by unfold pLs; rw [if_neg c_1], rfl⟩ d_C_leastConstant_11
  · refine lv_sipush (v := (-10000)) hx hb d_C_leastConstant_4 (by decide) ?_
    refine lv_goto (tgt := 11) hx hb d_C_leastConstant_7 (by decide) ?_
    exact m_reti F hr hS (Nat.le_of_ble_eq_true rfl) (Nat.le_of_ble_eq_true rfl) ⟨by unfold pLs; rw [if_pos c_1], rfl⟩ d_C_leastConstant_11
set_option maxHeartbeats 4000000 in
set_option maxRecDepth 100000 in
theorem k_C_greatestConstant (G : Gl) (l : Launch) (htr : l.stackTraces = false) (V : Vw) (o : Nat) (ho : o ≤ 10)  :
    Cm G l y_C_greatestConstant b_C_greatestConstant 1 (Option.some Jvm.ClassFile.FieldType.int) { frames := 0, cells := 0, slots := 0, locals := 0 } V [.int (nI o)] (fun rv V' => rv = some (.int (pGr o)) ∧ V' = V) := by
  refine Cm.of htr (by decide) (Nat.le_of_ble_eq_true rfl) ?_
  intro p e s m args below meth c ls F hr hnm hS hl
  obtain ⟨hx, hb, hml, hown, hts, hK, hlk, -⟩ := id F
  have hl : lv_has ls 1 [(0, .int (nI o))] := hl
  refine lv_iload_n hx hb d_C_greatestConstant_0 rfl (lv_at hl 0 rfl) ?_
  rcases (show o = 0 ∨ o = 1 ∨ o = 2 ∨ o = 3 ∨ o = 4 ∨ o = 5 ∨ o = 6 ∨ o = 7 ∨ o = 8 ∨ o = 9 ∨ o = 10 by omega) with rfl | rfl | rfl | rfl | rfl | rfl | rfl | rfl | rfl | rfl | rfl
  · refine lv_lookup (tgt := 36) (off := 35) hx hb d_C_greatestConstant_1 (by decide) (by decide) (by decide) ?_
    refine lv_sipush (v := 10000) hx hb d_C_greatestConstant_36 (by decide) ?_
    exact m_reti F hr hS (Nat.le_of_ble_eq_true rfl) (Nat.le_of_ble_eq_true rfl) ⟨rfl, rfl⟩ d_C_greatestConstant_39
  · refine lv_lookup (tgt := 40) (off := 39) hx hb d_C_greatestConstant_1 (by decide) (by decide) (by decide) ?_
    refine lv_bipush (v := 7) hx hb d_C_greatestConstant_40 (by decide) ?_
    exact m_reti F hr hS (Nat.le_of_ble_eq_true rfl) (Nat.le_of_ble_eq_true rfl) ⟨rfl, rfl⟩ d_C_greatestConstant_42
  · refine lv_lookup (tgt := 46) (off := 45) hx hb d_C_greatestConstant_1 (by decide) (by decide) (by decide) ?_
    refine lv_iconst (v := 0) hx hb d_C_greatestConstant_46 (by decide) ?_
    exact m_reti F hr hS (Nat.le_of_ble_eq_true rfl) (Nat.le_of_ble_eq_true rfl) ⟨rfl, rfl⟩ d_C_greatestConstant_47
  · refine lv_lookup (tgt := 46) (off := 45) hx hb d_C_greatestConstant_1 (by decide) (by decide) (by decide) ?_
    refine lv_iconst (v := 0) hx hb d_C_greatestConstant_46 (by decide) ?_
    exact m_reti F hr hS (Nat.le_of_ble_eq_true rfl) (Nat.le_of_ble_eq_true rfl) ⟨rfl, rfl⟩ d_C_greatestConstant_47
  · refine lv_lookup (tgt := 46) (off := 45) hx hb d_C_greatestConstant_1 (by decide) (by decide) (by decide) ?_
    refine lv_iconst (v := 0) hx hb d_C_greatestConstant_46 (by decide) ?_
    exact m_reti F hr hS (Nat.le_of_ble_eq_true rfl) (Nat.le_of_ble_eq_true rfl) ⟨rfl, rfl⟩ d_C_greatestConstant_47
  · refine lv_lookup (tgt := 46) (off := 45) hx hb d_C_greatestConstant_1 (by decide) (by decide) (by decide) ?_
    refine lv_iconst (v := 0) hx hb d_C_greatestConstant_46 (by decide) ?_
    exact m_reti F hr hS (Nat.le_of_ble_eq_true rfl) (Nat.le_of_ble_eq_true rfl) ⟨rfl, rfl⟩ d_C_greatestConstant_47
  · refine lv_lookup (tgt := 46) (off := 45) hx hb d_C_greatestConstant_1 (by decide) (by decide) (by decide) ?_
    refine lv_iconst (v := 0) hx hb d_C_greatestConstant_46 (by decide) ?_
    exact m_reti F hr hS (Nat.le_of_ble_eq_true rfl) (Nat.le_of_ble_eq_true rfl) ⟨rfl, rfl⟩ d_C_greatestConstant_47
  · refine lv_lookup (tgt := 46) (off := 45) hx hb d_C_greatestConstant_1 (by decide) (by decide) (by decide) ?_
    refine lv_iconst (v := 0) hx hb d_C_greatestConstant_46 (by decide) ?_
    exact m_reti F hr hS (Nat.le_of_ble_eq_true rfl) (Nat.le_of_ble_eq_true rfl) ⟨rfl, rfl⟩ d_C_greatestConstant_47
  · refine lv_lookup (tgt := 43) (off := 42) hx hb d_C_greatestConstant_1 (by decide) (by decide) (by decide) ?_
    refine lv_bipush (v := 15) hx hb d_C_greatestConstant_43 (by decide) ?_
    exact m_reti F hr hS (Nat.le_of_ble_eq_true rfl) (Nat.le_of_ble_eq_true rfl) ⟨rfl, rfl⟩ d_C_greatestConstant_45
  · refine lv_lookup (tgt := 46) (off := 45) hx hb d_C_greatestConstant_1 (by decide) (by decide) (by decide) ?_
    refine lv_iconst (v := 0) hx hb d_C_greatestConstant_46 (by decide) ?_
    exact m_reti F hr hS (Nat.le_of_ble_eq_true rfl) (Nat.le_of_ble_eq_true rfl) ⟨rfl, rfl⟩ d_C_greatestConstant_47
  · refine lv_lookup (tgt := 46) (off := 45) hx hb d_C_greatestConstant_1 (by decide) (by decide) (by decide) ?_
    refine lv_iconst (v := 0) hx hb d_C_greatestConstant_46 (by decide) ?_
    exact m_reti F hr hS (Nat.le_of_ble_eq_true rfl) (Nat.le_of_ble_eq_true rfl) ⟨rfl, rfl⟩ d_C_greatestConstant_47
set_option maxHeartbeats 4000000 in
set_option maxRecDepth 100000 in
theorem k_C_place (G : Gl) (l : Launch) (htr : l.stackTraces = false) (V : Vw) (o k : Nat)  :
    Cm G l y_C_place b_C_place 2 (Option.some Jvm.ClassFile.FieldType.int) { frames := 0, cells := 0, slots := 0, locals := 0 } V [.int (nI o), .int (nI k)] (fun rv V' => rv = some (.int (nI (o * 3 + k))) ∧ V' = V) := by
  refine Cm.of htr (by decide) (Nat.le_of_ble_eq_true rfl) ?_
  intro p e s m args below meth c ls F hr hnm hS hl
  obtain ⟨hx, hb, hml, hown, hts, hK, hlk, -⟩ := id F
  have hl : lv_has ls 2 [(0, .int (nI o)), (1, .int (nI k))] := hl
  refine lv_iload_n hx hb d_C_place_0 rfl (lv_at hl 0 rfl) ?_
  refine lv_iconst (v := 3) hx hb d_C_place_1 (by decide) ?_
  refine lv_imul hx hb d_C_place_2 ?_
  refine lv_iload_n hx hb d_C_place_3 rfl (lv_at hl 1 rfl) ?_
  refine lv_iadd hx hb d_C_place_4 ?_
  rw [show nI o * 3 + nI k = nI (o * 3 + k) from nI_ma o 3 k]
  exact m_reti F hr hS (Nat.le_of_ble_eq_true rfl) (Nat.le_of_ble_eq_true rfl) ⟨rfl, rfl⟩ d_C_place_5
set_option maxHeartbeats 4000000 in
set_option maxRecDepth 100000 in
theorem k_C_endHandle (G : Gl) (l : Launch) (htr : l.stackTraces = false) (V : Vw) (a0 aE aK fA r0 r1 fb fl sh df : Nat) (mo dy qs hs lv he : Int32) (h0 : V 0 0 = some (a0, oC mo aE aK fA r0 r1 fb fl sh df dy qs hs lv he)) :
    Cm G l y_C_endHandle b_C_endHandle 1 none { frames := 0, cells := 0, slots := 0, locals := 0 } V [.ref a0] (fun rv V' => rv = none ∧ V' = uV V 0 0 (a0, oC mo aE aK fA r0 r1 fb fl sh df dy qs hs 0 he)) := by
  refine Cm.of htr (by decide) (Nat.le_of_ble_eq_true rfl) ?_
  intro p e s m args below meth c ls F hr hnm hS hl
  obtain ⟨hx, hb, hml, hown, hts, hK, hlk, -⟩ := id F
  have hl : lv_has ls 1 [(0, .ref a0)] := hl
  refine lv_aload_n hx hb d_C_endHandle_0 rfl (lv_at hl 0 rfl) ?_
  refine lv_iconst (v := 0) hx hb d_C_endHandle_1 (by decide) ?_
  refine r_put (k := 0) (i := 0) F hS f_C_171 ct_C h0 rfl rfl (Nat.le_of_ble_eq_true rfl) d_C_endHandle_2 (fun H locs hS => ?_)
  have hS : HS G s (uV V 0 0 (a0, oC mo aE aK fA r0 r1 fb fl sh df dy qs hs 0 he)) H _ := hS
  exact m_retv F hr hS (Nat.le_of_ble_eq_true rfl) (Nat.le_of_ble_eq_true rfl) ⟨rfl, rfl⟩ d_C_endHandle_5
set_option maxHeartbeats 4000000 in
set_option maxRecDepth 100000 in
theorem k_C_today (G : Gl) (l : Launch) (htr : l.stackTraces = false) (V : Vw) (a0 aE aK fA r0 r1 fb fl sh df : Nat) (mo dy qs hs lv he : Int32) (d : Int32) (h0 : V 0 0 = some (a0, oC mo aE aK fA r0 r1 fb fl sh df dy qs hs lv he)) :
    Cx G l y_C_today b_C_today 2 none { frames := 7, cells := 1, slots := 6, locals := 112 } V [.ref a0, .int d] (fun rv V' => rv = none ∧ dy ≤ d ∧ d ≤ 1000 ∧ V' = uV V 0 0 (a0, oC mo aE aK fA r0 r1 fb fl sh df d qs hs 0 he)) (fun E V' => E = "java/lang/IllegalArgumentException" ∧ V' = V ∧ (d < dy ∨ 1000 < d)) := by
  refine Cx.of htr (by decide) (Nat.le_of_ble_eq_true rfl) ?_
  intro p e s m args below meth c ls F hr hex hS hl
  obtain ⟨hx, hb, hml, hown, hts, hK, hlk, -⟩ := id F
  have hl : lv_has ls 2 [(0, .ref a0), (1, .int d)] := hl
  refine lv_iload_n hx hb d_C_today_0 rfl (lv_at hl 1 rfl) ?_
  refine lv_aload_n hx hb d_C_today_1 rfl (lv_at hl 0 rfl) ?_
  refine r_get (k := 0) (i := 0) F hS f_C_64.get h0 rfl d_C_today_2 ?_
  refine lv_sipush (v := 1000) hx hb d_C_today_5 (by decide) ?_
  refine r_xcallS (As := [.int d, .int dy, .int 1000]) (rest := []) F hS c_C_67 (k_C_requireRange G l htr V d dy 1000) rfl hl.1 rfl (Nat.le_of_ble_eq_true rfl) d_C_today_8 ⟨Nat.le_of_ble_eq_true rfl, Nat.le_of_ble_eq_true rfl⟩ ⟨Nat.le_of_ble_eq_true rfl, Nat.le_of_ble_eq_true rfl⟩ (fun q9 E9 ce V1 H locs hT hS hce => ?_) (fun rv V1 H locs hR hS => ?_)
  · obtain ⟨rfl, hV, hbad⟩ := hT
    rw [hV] at hS
    exact x_out F hex hS hce ⟨rfl, rfl, hbad⟩ (Nat.le_of_ble_eq_true rfl) (Nat.le_of_ble_eq_true rfl)
  obtain ⟨rfl, hV, hlo, hhi⟩ := hR
  rw [hV] at hS
  refine W.eq (g2 := F0 m 11 ls []) rfl ?_
  refine lv_aload_n hx hb d_C_today_11 rfl (lv_at hl 0 rfl) ?_
  refine r_callV (k := 0) (i := 0) (q := ("RuleClasses", T_C, 15)) (fs := [.int mo, .ref aE, .ref aK, .ref fA, .ref r0, .ref r1, .ref fb, .ref fl, .ref sh, .ref df, .int dy, .int qs, .int hs, .int lv, .int he]) (As := []) (rest := []) F hS c_C_71 (k_C_endHandle G l htr V a0 aE aK fA r0 r1 fb fl sh df mo dy qs hs lv he h0) rfl h0 rfl hl.1 rfl (Nat.le_of_ble_eq_true rfl) d_C_today_12 ⟨Nat.le_of_ble_eq_true rfl, Nat.le_of_ble_eq_true rfl⟩ ⟨Nat.le_of_ble_eq_true rfl, Nat.le_of_ble_eq_true rfl⟩ (fun rv V1 H locs hR hS => ?_)
  obtain ⟨rfl, rfl⟩ := hR
  refine W.eq (g2 := F0 m 15 ls []) rfl ?_
  refine lv_aload_n hx hb d_C_today_15 rfl (lv_at hl 0 rfl) ?_
  refine lv_iload_n hx hb d_C_today_16 rfl (lv_at hl 1 rfl) ?_
  refine r_put (k := 0) (i := 0) F hS f_C_64 ct_C (uV_self _ _ _ _) rfl rfl (Nat.le_of_ble_eq_true rfl) d_C_today_17 (fun H locs hS => ?_)
  have hS : HS G s (uV (uV V 0 0 (a0, oC mo aE aK fA r0 r1 fb fl sh df dy qs hs 0 he)) 0 0 (a0, oC mo aE aK fA r0 r1 fb fl sh df d qs hs 0 he)) H _ := hS
  exact vx_ret (m_retv F hr hS (Nat.le_of_ble_eq_true rfl) (Nat.le_of_ble_eq_true rfl) ⟨rfl, hlo, hhi, by rw [uV_uV]⟩ d_C_today_20)
set_option maxHeartbeats 4000000 in
set_option maxRecDepth 100000 in
theorem k_C_fact (G : Gl) (l : Launch) (htr : l.stackTraces = false) (V : Vw) (a0 aE aK fA r0 r1 fb fl sh df : Nat) (mo dy qs hs lv he : Int32) (vA : Nat) (fa : Nat → Int32) (n v : Int32) (h0 : V 0 0 = some (a0, oC mo aE aK fA r0 r1 fb fl sh df dy qs hs lv he)) (h6 : V 6 0 = some (fA, oF vA)) (h7 : V 7 0 = some (vA, aI G 8 fa)) :
    Cx G l y_C_fact b_C_fact 3 none { frames := 7, cells := 2, slots := 12, locals := 112 } V [.ref a0, .int n, .int v] (fun rv V' => rv = none ∧ ∃ j : Nat, j ≤ 7 ∧ n = nI j ∧ -10000 ≤ v ∧ v ≤ 10000 ∧ V' = uV V 7 0 (vA, aI G 8 (upd fa j v))) (fun E V' => E = "java/lang/IllegalArgumentException" ∧ V' = V ∧ ((n < 0 ∨ 7 < n) ∨ (v < -10000 ∨ 10000 < v))) := by
  refine Cx.of htr (by decide) (Nat.le_of_ble_eq_true rfl) ?_
  intro p e s m args below meth c ls F hr hex hS hl
  obtain ⟨hx, hb, hml, hown, hts, hK, hlk, -⟩ := id F
  have hl : lv_has ls 3 [(0, .ref a0), (1, .int n), (2, .int v)] := hl
  refine lv_iload_n hx hb d_C_fact_0 rfl (lv_at hl 1 rfl) ?_
  refine lv_iconst (v := 0) hx hb d_C_fact_1 (by decide) ?_
  refine lv_bipush (v := 7) hx hb d_C_fact_2 (by decide) ?_
  refine r_xcallS (As := [.int n, .int 0, .int 7]) (rest := []) F hS c_C_67 (k_C_requireRange G l htr V n 0 7) rfl hl.1 rfl (Nat.le_of_ble_eq_true rfl) d_C_fact_4 ⟨Nat.le_of_ble_eq_true rfl, Nat.le_of_ble_eq_true rfl⟩ ⟨Nat.le_of_ble_eq_true rfl, Nat.le_of_ble_eq_true rfl⟩ (fun q9 E9 ce V1 H locs hT hS hce => ?_) (fun rv V1 H locs hR hS => ?_)
  · obtain ⟨rfl, hV, hbad⟩ := hT
    rw [hV] at hS
    exact x_out F hex hS hce ⟨rfl, rfl, Or.inl hbad⟩ (Nat.le_of_ble_eq_true rfl) (Nat.le_of_ble_eq_true rfl)
  obtain ⟨rfl, hV, hlo, hhi⟩ := hR
  rw [hV] at hS
  obtain ⟨jn, hjn, rfl⟩ := nI_of2 (M := 7) (n := 7) (by decide) (Int32.not_lt.mpr hlo) hhi
  refine W.eq (g2 := F0 m 7 ls []) rfl ?_
  refine lv_iload_n hx hb d_C_fact_7 rfl (lv_at hl 2 rfl) ?_
  refine lv_sipush (v := (-10000)) hx hb d_C_fact_8 (by decide) ?_
  refine lv_sipush (v := 10000) hx hb d_C_fact_11 (by decide) ?_
  refine r_xcallS (As := [.int v, .int (-10000), .int 10000]) (rest := []) F hS c_C_67 (k_C_requireRange G l htr V v (-10000) 10000) rfl hl.1 rfl (Nat.le_of_ble_eq_true rfl) d_C_fact_14 ⟨Nat.le_of_ble_eq_true rfl, Nat.le_of_ble_eq_true rfl⟩ ⟨Nat.le_of_ble_eq_true rfl, Nat.le_of_ble_eq_true rfl⟩ (fun q9 E9 ce V1 H locs hT hS hce => ?_) (fun rv V1 H locs hR hS => ?_)
  · obtain ⟨rfl, hV, hbad⟩ := hT
    rw [hV] at hS
    exact x_out F hex hS hce ⟨rfl, rfl, Or.inr hbad⟩ (Nat.le_of_ble_eq_true rfl) (Nat.le_of_ble_eq_true rfl)
  obtain ⟨rfl, hV, hlo, hhi⟩ := hR
  rw [hV] at hS
  have hlo2 := hlo
  have hhi2 := hhi
  refine W.eq (g2 := F0 m 17 ls []) rfl ?_
  refine lv_aload_n hx hb d_C_fact_17 rfl (lv_at hl 0 rfl) ?_
  refine r_get (k := 0) (i := 0) F hS f_C_22.get h0 rfl d_C_fact_18 ?_
  refine r_get (k := 6) (i := 0) F hS f_C_131 h6 rfl d_C_fact_21 ?_
  refine lv_iload_n hx hb d_C_fact_24 rfl (lv_at hl 1 rfl) ?_
  refine lv_iload_n hx hb d_C_fact_25 rfl (lv_at hl 2 rfl) ?_
  refine r_iast (k := 7) (i := 0) F hS h7 (vp_in_nI (by omega) (by decide)) d_C_fact_26 (fun H locs hS => ?_)
  rw [nI_clamp (by omega)] at hS
  have hS : HS G s (uV V 7 0 (vA, aI G 8 (upd fa jn v))) H _ := hS
  exact vx_ret (m_retv F hr hS (Nat.le_of_ble_eq_true rfl) (Nat.le_of_ble_eq_true rfl) ⟨rfl, jn, hjn, rfl, hlo, hhi, rfl⟩ d_C_fact_27)
set_option maxHeartbeats 4000000 in
set_option maxRecDepth 100000 in
theorem k_C_fallback (G : Gl) (l : Launch) (htr : l.stackTraces = false) (V : Vw) (a0 aE aK fA r0 r1 fb fl sh df : Nat) (mo dy qs hs lv he : Int32) (ff : Nat → Int32) (k v : Int32) (h0 : V 0 0 = some (a0, oC mo aE aK fA r0 r1 fb fl sh df dy qs hs lv he)) (h10 : V 10 0 = some (fb, aI G 3 ff)) :
    Cx G l y_C_fallback b_C_fallback 3 none { frames := 7, cells := 2, slots := 12, locals := 112 } V [.ref a0, .int k, .int v] (fun rv V' => rv = none ∧ ∃ j : Nat, j ≤ 2 ∧ k = nI j ∧ -10000 ≤ v ∧ v ≤ 10000 ∧ V' = uV V 10 0 (fb, aI G 3 (upd ff j v))) (fun E V' => E = "java/lang/IllegalArgumentException" ∧ V' = V ∧ ((k < 0 ∨ 2 < k) ∨ (v < -10000 ∨ 10000 < v))) := by
  refine Cx.of htr (by decide) (Nat.le_of_ble_eq_true rfl) ?_
  intro p e s m args below meth c ls F hr hex hS hl
  obtain ⟨hx, hb, hml, hown, hts, hK, hlk, -⟩ := id F
  have hl : lv_has ls 3 [(0, .ref a0), (1, .int k), (2, .int v)] := hl
  refine lv_iload_n hx hb d_C_fallback_0 rfl (lv_at hl 1 rfl) ?_
  refine lv_iconst (v := 0) hx hb d_C_fallback_1 (by decide) ?_
  refine lv_iconst (v := 2) hx hb d_C_fallback_2 (by decide) ?_
  refine r_xcallS (As := [.int k, .int 0, .int 2]) (rest := []) F hS c_C_67 (k_C_requireRange G l htr V k 0 2) rfl hl.1 rfl (Nat.le_of_ble_eq_true rfl) d_C_fallback_3 ⟨Nat.le_of_ble_eq_true rfl, Nat.le_of_ble_eq_true rfl⟩ ⟨Nat.le_of_ble_eq_true rfl, Nat.le_of_ble_eq_true rfl⟩ (fun q9 E9 ce V1 H locs hT hS hce => ?_) (fun rv V1 H locs hR hS => ?_)
  · obtain ⟨rfl, hV, hbad⟩ := hT
    rw [hV] at hS
    exact x_out F hex hS hce ⟨rfl, rfl, Or.inl hbad⟩ (Nat.le_of_ble_eq_true rfl) (Nat.le_of_ble_eq_true rfl)
  obtain ⟨rfl, hV, hlo, hhi⟩ := hR
  rw [hV] at hS
  obtain ⟨kn, hkn, rfl⟩ := nI_of2 (M := 2) (n := 2) (by decide) (Int32.not_lt.mpr hlo) hhi
  refine W.eq (g2 := F0 m 6 ls []) rfl ?_
  refine lv_iload_n hx hb d_C_fallback_6 rfl (lv_at hl 2 rfl) ?_
  refine lv_sipush (v := (-10000)) hx hb d_C_fallback_7 (by decide) ?_
  refine lv_sipush (v := 10000) hx hb d_C_fallback_10 (by decide) ?_
  refine r_xcallS (As := [.int v, .int (-10000), .int 10000]) (rest := []) F hS c_C_67 (k_C_requireRange G l htr V v (-10000) 10000) rfl hl.1 rfl (Nat.le_of_ble_eq_true rfl) d_C_fallback_13 ⟨Nat.le_of_ble_eq_true rfl, Nat.le_of_ble_eq_true rfl⟩ ⟨Nat.le_of_ble_eq_true rfl, Nat.le_of_ble_eq_true rfl⟩ (fun q9 E9 ce V1 H locs hT hS hce => ?_) (fun rv V1 H locs hR hS => ?_)
  · obtain ⟨rfl, hV, hbad⟩ := hT
    rw [hV] at hS
    exact x_out F hex hS hce ⟨rfl, rfl, Or.inr hbad⟩ (Nat.le_of_ble_eq_true rfl) (Nat.le_of_ble_eq_true rfl)
  obtain ⟨rfl, hV, hlo, hhi⟩ := hR
  rw [hV] at hS
  refine W.eq (g2 := F0 m 16 ls []) rfl ?_
  refine lv_aload_n hx hb d_C_fallback_16 rfl (lv_at hl 0 rfl) ?_
  refine r_get (k := 0) (i := 0) F hS f_C_26.get h0 rfl d_C_fallback_17 ?_
  refine lv_iload_n hx hb d_C_fallback_20 rfl (lv_at hl 1 rfl) ?_
  refine lv_iload_n hx hb d_C_fallback_21 rfl (lv_at hl 2 rfl) ?_
  refine r_iast (k := 10) (i := 0) F hS h10 (vp_in_nI (by omega) (by decide)) d_C_fallback_22 (fun H locs hS => ?_)
  rw [nI_clamp (by omega)] at hS
  have hS : HS G s (uV V 10 0 (fb, aI G 3 (upd ff kn v))) H _ := hS
  exact vx_ret (m_retv F hr hS (Nat.le_of_ble_eq_true rfl) (Nat.le_of_ble_eq_true rfl) ⟨rfl, kn, hkn, rfl, hlo, hhi, rfl⟩ d_C_fallback_23)
set_option maxHeartbeats 4000000 in
set_option maxRecDepth 100000 in
theorem k_C_failed (G : Gl) (l : Launch) (htr : l.stackTraces = false) (V : Vw) (a0 aE aK fA r0 r1 fb fl sh df : Nat) (mo dy qs hs lv he : Int32) (fs : Nat → Int32) (o w : Int32) (h0 : V 0 0 = some (a0, oC mo aE aK fA r0 r1 fb fl sh df dy qs hs lv he)) (h11 : V 11 0 = some (fl, aI G 36 fs)) :
    Cx G l y_C_failed b_C_failed 3 (Option.some Jvm.ClassFile.FieldType.int) { frames := 7, cells := 2, slots := 12, locals := 112 } V [.ref a0, .int o, .int w] (fun rv V' => V' = V ∧ ∃ on wn : Nat, on ≤ 5 ∧ wn ≤ 5 ∧ o = nI on ∧ w = nI wn ∧ rv = some (.int (fs (on * 6 + wn)))) (fun E V' => E = "java/lang/IllegalArgumentException" ∧ V' = V ∧ ((o < 0 ∨ 5 < o) ∨ (w < 0 ∨ 5 < w))) := by
  refine Cx.of htr (by decide) (Nat.le_of_ble_eq_true rfl) ?_
  intro p e s m args below meth c ls F hr hex hS hl
  obtain ⟨hx, hb, hml, hown, hts, hK, hlk, -⟩ := id F
  have hl : lv_has ls 3 [(0, .ref a0), (1, .int o), (2, .int w)] := hl
  refine lv_iload_n hx hb d_C_failed_0 rfl (lv_at hl 1 rfl) ?_
  refine lv_iconst (v := 0) hx hb d_C_failed_1 (by decide) ?_
  refine lv_iconst (v := 5) hx hb d_C_failed_2 (by decide) ?_
  refine r_xcallS (As := [.int o, .int 0, .int 5]) (rest := []) F hS c_C_67 (k_C_requireRange G l htr V o 0 5) rfl hl.1 rfl (Nat.le_of_ble_eq_true rfl) d_C_failed_3 ⟨Nat.le_of_ble_eq_true rfl, Nat.le_of_ble_eq_true rfl⟩ ⟨Nat.le_of_ble_eq_true rfl, Nat.le_of_ble_eq_true rfl⟩ (fun q9 E9 ce V1 H locs hT hS hce => ?_) (fun rv V1 H locs hR hS => ?_)
  · obtain ⟨rfl, hV, hbad⟩ := hT
    rw [hV] at hS
    exact x_out F hex hS hce ⟨rfl, rfl, Or.inl hbad⟩ (Nat.le_of_ble_eq_true rfl) (Nat.le_of_ble_eq_true rfl)
  obtain ⟨rfl, hV, hlo, hhi⟩ := hR
  rw [hV] at hS
  obtain ⟨on, hon, rfl⟩ := nI_of2 (M := 5) (n := 5) (by decide) (Int32.not_lt.mpr hlo) hhi
  refine W.eq (g2 := F0 m 6 ls []) rfl ?_
  refine lv_iload_n hx hb d_C_failed_6 rfl (lv_at hl 2 rfl) ?_
  refine lv_iconst (v := 0) hx hb d_C_failed_7 (by decide) ?_
  refine lv_iconst (v := 5) hx hb d_C_failed_8 (by decide) ?_
  refine r_xcallS (As := [.int w, .int 0, .int 5]) (rest := []) F hS c_C_67 (k_C_requireRange G l htr V w 0 5) rfl hl.1 rfl (Nat.le_of_ble_eq_true rfl) d_C_failed_9 ⟨Nat.le_of_ble_eq_true rfl, Nat.le_of_ble_eq_true rfl⟩ ⟨Nat.le_of_ble_eq_true rfl, Nat.le_of_ble_eq_true rfl⟩ (fun q9 E9 ce V1 H locs hT hS hce => ?_) (fun rv V1 H locs hR hS => ?_)
  · obtain ⟨rfl, hV, hbad⟩ := hT
    rw [hV] at hS
    exact x_out F hex hS hce ⟨rfl, rfl, Or.inr hbad⟩ (Nat.le_of_ble_eq_true rfl) (Nat.le_of_ble_eq_true rfl)
  obtain ⟨rfl, hV, hlo, hhi⟩ := hR
  rw [hV] at hS
  obtain ⟨wn, hwn, rfl⟩ := nI_of2 (M := 5) (n := 5) (by decide) (Int32.not_lt.mpr hlo) hhi
  refine W.eq (g2 := F0 m 12 ls []) rfl ?_
  refine lv_aload_n hx hb d_C_failed_12 rfl (lv_at hl 0 rfl) ?_
  refine r_get (k := 0) (i := 0) F hS f_C_30.get h0 rfl d_C_failed_13 ?_
  refine lv_iload_n hx hb d_C_failed_16 rfl (lv_at hl 1 rfl) ?_
  refine lv_bipush (v := 6) hx hb d_C_failed_17 (by decide) ?_
  refine lv_imul hx hb d_C_failed_19 ?_
  refine lv_iload_n hx hb d_C_failed_20 rfl (lv_at hl 2 rfl) ?_
  refine lv_iadd hx hb d_C_failed_21 ?_
  rw [show nI on * 6 + nI wn = nI (on * 6 + wn) from nI_ma on 6 wn]
  refine r_iald (k := 11) (i := 0) F hS h11 (vp_in_nI (by omega) (by decide)) d_C_failed_22 ?_
  rw [nI_clamp (by omega)]
  exact vx_ret (m_reti F hr hS (Nat.le_of_ble_eq_true rfl) (Nat.le_of_ble_eq_true rfl) ⟨rfl, on, wn, hon, hwn, rfl, rfl, rfl⟩ d_C_failed_23)
set_option maxHeartbeats 4000000 in
set_option maxRecDepth 100000 in
theorem k_C_divide (G : Gl) (l : Launch) (htr : l.stackTraces = false) (V : Vw) (a0 : Nat) (x y : Int32)  :
    Cx G l y_C_divide b_C_divide 3 (Option.some Jvm.ClassFile.FieldType.int) { frames := 6, cells := 1, slots := 6, locals := 90 } V [.ref a0, .int x, .int y] (fun rv V' => rv = some (.int (x / y)) ∧ V' = V ∧ y ≠ 0) (fun E V' => E = "java/lang/ArithmeticException" ∧ V' = V ∧ y = 0) := by
  refine Cx.of htr (by decide) (Nat.le_of_ble_eq_true rfl) ?_
  intro p e s m args below meth c ls F hr hex hS hl
  obtain ⟨hx, hb, hml, hown, hts, hK, hlk, -⟩ := id F
  have hl : lv_has ls 3 [(0, .ref a0), (1, .int x), (2, .int y)] := hl
  refine lv_iload_n hx hb d_C_divide_0 rfl (lv_at hl 2 rfl) ?_
  refine lv_if_ne (tgt := 14) hx hb d_C_divide_1 (by decide) (fun c_1 => ?_) (fun c_1 => ?_)
  · refine lv_iload_n hx hb d_C_divide_14 rfl (lv_at hl 1 rfl) ?_
    refine lv_iload_n hx hb d_C_divide_15 rfl (lv_at hl 2 rfl) ?_
    refine lv_idiv hx hb d_C_divide_16 c_1 ?_
    exact vx_ret (m_reti F hr hS (Nat.le_of_ble_eq_true rfl) (Nat.le_of_ble_eq_true rfl) ⟨rfl, rfl, c_1⟩ d_C_divide_17)
  · exact r_throw F hex hS tw_ArithmeticException (List.mem_of_getElem? (i := 9) rfl) hl.1 d_C_divide_4 d_C_divide_7 d_C_divide_8 d_C_divide_10 d_C_divide_13 (Nat.le_of_ble_eq_true rfl) (Nat.le_of_ble_eq_true rfl) (Nat.le_of_ble_eq_true rfl) (Nat.le_of_ble_eq_true rfl) (Nat.le_of_ble_eq_true rfl) (Nat.le_of_ble_eq_true rfl) (⟨rfl, rfl, c_1⟩)
set_option maxHeartbeats 4000000 in
set_option maxRecDepth 100000 in
theorem k_C_otherwise (G : Gl) (l : Launch) (htr : l.stackTraces = false) (V : Vw) (a0 aE aK fA r0 r1 fb fl sh df : Nat) (mo dy qs hs lv he : Int32) (ds : Nat → Int32) (o k : Int32) (h0 : V 0 0 = some (a0, oC mo aE aK fA r0 r1 fb fl sh df dy qs hs lv he)) (h13 : V 13 0 = some (df, aI G 18 ds)) :
    Cx G l y_C_otherwise b_C_otherwise 3 (Option.some Jvm.ClassFile.FieldType.int) { frames := 8, cells := 2, slots := 12, locals := 133 } V [.ref a0, .int o, .int k] (fun rv V' => V' = V ∧ ∃ on kn : Nat, on ≤ 5 ∧ kn ≤ 2 ∧ o = nI on ∧ k = nI kn ∧ rv = some (.int (ds (on * 3 + kn)))) (fun E V' => E = "java/lang/IllegalArgumentException" ∧ V' = V ∧ ((o < 0 ∨ 5 < o) ∨ (k < 0 ∨ 2 < k))) := by
  refine Cx.of htr (by decide) (Nat.le_of_ble_eq_true rfl) ?_
  intro p e s m args below meth c ls F hr hex hS hl
  obtain ⟨hx, hb, hml, hown, hts, hK, hlk, -⟩ := id F
  have hl : lv_has ls 3 [(0, .ref a0), (1, .int o), (2, .int k)] := hl
  refine lv_iload_n hx hb d_C_otherwise_0 rfl (lv_at hl 1 rfl) ?_
  refine lv_iload_n hx hb d_C_otherwise_1 rfl (lv_at hl 2 rfl) ?_
  refine r_xcallS (As := [.int o, .int k]) (rest := []) F hS c_C_74 (k_C_requireOwnerAndKind G l htr V o k) rfl hl.1 rfl (Nat.le_of_ble_eq_true rfl) d_C_otherwise_2 ⟨Nat.le_of_ble_eq_true rfl, Nat.le_of_ble_eq_true rfl⟩ ⟨Nat.le_of_ble_eq_true rfl, Nat.le_of_ble_eq_true rfl⟩ (fun q9 E9 ce V1 H locs hT hS hce => ?_) (fun rv V1 H locs hR hS => ?_)
  · obtain ⟨rfl, hV, hbad⟩ := hT
    rw [hV] at hS
    exact x_out F hex hS hce ⟨rfl, rfl, hbad⟩ (Nat.le_of_ble_eq_true rfl) (Nat.le_of_ble_eq_true rfl)
  obtain ⟨rfl, hV, on, kn, hon, hkn, rfl, rfl⟩ := hR
  rw [hV] at hS
  refine W.eq (g2 := F0 m 5 ls []) rfl ?_
  refine lv_aload_n hx hb d_C_otherwise_5 rfl (lv_at hl 0 rfl) ?_
  refine r_get (k := 0) (i := 0) F hS f_C_36.get h0 rfl d_C_otherwise_6 ?_
  refine lv_iload_n hx hb d_C_otherwise_9 rfl (lv_at hl 1 rfl) ?_
  refine lv_iload_n hx hb d_C_otherwise_10 rfl (lv_at hl 2 rfl) ?_
  refine r_callS (As := [.int (nI on), .int (nI kn)]) (rest := [.ref df]) F hS c_C_148 (k_C_place G l htr V on kn) rfl hl.1 rfl (Nat.le_of_ble_eq_true rfl) d_C_otherwise_11 ⟨Nat.le_of_ble_eq_true rfl, Nat.le_of_ble_eq_true rfl⟩ ⟨Nat.le_of_ble_eq_true rfl, Nat.le_of_ble_eq_true rfl⟩ (fun rv V1 H locs hR hS => ?_)
  obtain ⟨rfl, hV⟩ := hR
  rw [hV] at hS
  refine W.eq (g2 := F0 m 14 ls [.int (nI (on * 3 + kn)), .ref df]) rfl ?_
  refine r_iald (k := 13) (i := 0) F hS h13 (vp_in_nI (by omega) (by decide)) d_C_otherwise_14 ?_
  rw [nI_clamp (by omega)]
  exact vx_ret (m_reti F hr hS (Nat.le_of_ble_eq_true rfl) (Nat.le_of_ble_eq_true rfl) ⟨rfl, on, kn, hon, hkn, rfl, rfl, rfl⟩ d_C_otherwise_15)
set_option maxHeartbeats 4000000 in
set_option maxRecDepth 100000 in
theorem k_C_requireEdition (G : Gl) (l : Launch) (htr : l.stackTraces = false) (V : Vw) (a0 aE aK fA r0 r1 fb fl sh df : Nat) (mo dy qs hs lv he : Int32) (dE ne : Nat) (ea : Nat → Nat) (mcE n : Int32) (hne : ne ≤ 24) (hLE : LV G V 0 aE dE ne ea mcE) (h0 : V 0 0 = some (a0, oC mo aE aK fA r0 r1 fb fl sh df dy qs hs lv he)) :
    Cx G l y_C_requireEdition b_C_requireEdition 2 none { frames := 6, cells := 1, slots := 6, locals := 90 } V [.ref a0, .int n] (fun rv V' => rv = none ∧ V' = V ∧ ∃ i : Nat, i < ne ∧ n = nI i) (fun E V' => E = "java/util/NoSuchElementException" ∧ V' = V ∧ (n < 0 ∨ nI ne ≤ n)) := by
  refine Cx.of htr (by decide) (Nat.le_of_ble_eq_true rfl) ?_
  intro p e s m args below meth c ls F hr hex hS hl
  obtain ⟨hx, hb, hml, hown, hts, hK, hlk, -⟩ := id F
  have hl : lv_has ls 2 [(0, .ref a0), (1, .int n)] := hl
  refine lv_iload_n hx hb d_C_requireEdition_0 rfl (lv_at hl 1 rfl) ?_
  refine lv_if_lt (tgt := 15) hx hb d_C_requireEdition_1 (by decide) (fun c_1 => ?_) (fun c_1 => ?_)
  · exact r_throwN F hex hS tw_NoSuchElementException (List.mem_of_getElem? (i := 2) rfl) hl.1 d_C_requireEdition_15 d_C_requireEdition_18 d_C_requireEdition_19 d_C_requireEdition_21 d_C_requireEdition_24 (Nat.le_of_ble_eq_true rfl) (Nat.le_of_ble_eq_true rfl) (Nat.le_of_ble_eq_true rfl) (Nat.le_of_ble_eq_true rfl) (Nat.le_of_ble_eq_true rfl) (Nat.le_of_ble_eq_true rfl) (⟨rfl, rfl, Or.inl c_1⟩)
  · refine lv_iload_n hx hb d_C_requireEdition_4 rfl (lv_at hl 1 rfl) ?_
    refine lv_aload_n hx hb d_C_requireEdition_5 rfl (lv_at hl 0 rfl) ?_
    refine r_get (k := 0) (i := 0) F hS f_C_10.get h0 rfl d_C_requireEdition_6 ?_
    refine r_callV (k := 8) (i := 0) (q := ("java/util/ArrayList", T_A, 3)) (fs := [.int mcE, .ref dE, .int (nI ne)]) (As := []) (rest := [.int n]) F hS c_C_78 (k_A_size G l htr V 0 aE dE ne mcE hLE.1) rfl hLE.1 rfl hl.1 rfl (Nat.le_of_ble_eq_true rfl) d_C_requireEdition_9 ⟨Nat.le_of_ble_eq_true rfl, Nat.le_of_ble_eq_true rfl⟩ ⟨Nat.le_of_ble_eq_true rfl, Nat.le_of_ble_eq_true rfl⟩ (fun rv V1 H locs hR hS => ?_)
    obtain ⟨rfl, hV⟩ := hR
    rw [hV] at hS
    refine W.eq (g2 := F0 m 12 ls [.int (nI ne), .int n]) rfl ?_
    refine lv_icmp_lt (tgt := 25) hx hb d_C_requireEdition_12 (by decide) (fun c_12 => ?_) (fun c_12 => ?_)
    · obtain ⟨i, hi1, rfl⟩ := nI_of c_1
      exact vx_ret (m_retv F hr hS (Nat.le_of_ble_eq_true rfl) (Nat.le_of_ble_eq_true rfl) ⟨rfl, rfl, i, (nI_ltI hi1 (by omega)).mp c_12, rfl⟩ d_C_requireEdition_25)
    · exact r_throwN F hex hS tw_NoSuchElementException (List.mem_of_getElem? (i := 2) rfl) hl.1 d_C_requireEdition_15 d_C_requireEdition_18 d_C_requireEdition_19 d_C_requireEdition_21 d_C_requireEdition_24 (Nat.le_of_ble_eq_true rfl) (Nat.le_of_ble_eq_true rfl) (Nat.le_of_ble_eq_true rfl) (Nat.le_of_ble_eq_true rfl) (Nat.le_of_ble_eq_true rfl) (Nat.le_of_ble_eq_true rfl) (⟨rfl, rfl, Or.inr (Int32.not_lt.mp c_12)⟩)
set_option maxHeartbeats 4000000 in
set_option maxRecDepth 100000 in
theorem k_C_editionAt (G : Gl) (l : Launch) (htr : l.stackTraces = false) (V : Vw) (a0 aE aK fA r0 r1 fb fl sh df : Nat) (mo dy qs hs lv he : Int32) (ne : Nat) (ea oA cA : Nat → Nat) (ow ki ed md ak sk fk : Nat → Int32) (ln : Nat → Nat) (po cs : Nat → Nat → Int32) (hE : EV G V ne ea oA cA ow ki ed md ak sk fk ln po cs) (dE : Nat) (mcE : Int32) (hne : ne ≤ 24) (hLE : LV G V 0 aE dE ne ea mcE) (n : Int32) (h0 : V 0 0 = some (a0, oC mo aE aK fA r0 r1 fb fl sh df dy qs hs lv he)) :
    Cx G l y_C_editionAt b_C_editionAt 2 (Option.some (Jvm.ClassFile.FieldType.object "RuleClasses$Edition")) { frames := 7, cells := 1, slots := 6, locals := 111 } V [.ref a0, .int n] (fun rv V' => V' = V ∧ ∃ i : Nat, i < ne ∧ n = nI i ∧ rv = some (.ref (ea i))) (fun E V' => E = "java/util/NoSuchElementException" ∧ V' = V ∧ (n < 0 ∨ nI ne ≤ n)) := by
  refine Cx.of htr (by decide) (Nat.le_of_ble_eq_true rfl) ?_
  intro p e s m args below meth c ls F hr hex hS hl
  obtain ⟨hx, hb, hml, hown, hts, hK, hlk, -⟩ := id F
  have hl : lv_has ls 2 [(0, .ref a0), (1, .int n)] := hl
  refine lv_aload_n hx hb d_C_editionAt_0 rfl (lv_at hl 0 rfl) ?_
  refine lv_iload_n hx hb d_C_editionAt_1 rfl (lv_at hl 1 rfl) ?_
  refine r_xcallV (k := 0) (i := 0) (q := ("RuleClasses", T_C, 15)) (fs := [.int mo, .ref aE, .ref aK, .ref fA, .ref r0, .ref r1, .ref fb, .ref fl, .ref sh, .ref df, .int dy, .int qs, .int hs, .int lv, .int he]) (As := [.int n]) (rest := []) F hS c_C_196 (k_C_requireEdition G l htr V a0 aE aK fA r0 r1 fb fl sh df mo dy qs hs lv he dE ne ea mcE n hne hLE h0) rfl h0 rfl hl.1 rfl (Nat.le_of_ble_eq_true rfl) d_C_editionAt_2 ⟨Nat.le_of_ble_eq_true rfl, Nat.le_of_ble_eq_true rfl⟩ ⟨Nat.le_of_ble_eq_true rfl, Nat.le_of_ble_eq_true rfl⟩ (fun q9 E9 ce V1 H locs hT hS hce => ?_) (fun rv V1 H locs hR hS => ?_)
  · obtain ⟨rfl, hV, hbad⟩ := hT
    rw [hV] at hS
    exact x_out F hex hS hce ⟨rfl, rfl, hbad⟩ (Nat.le_of_ble_eq_true rfl) (Nat.le_of_ble_eq_true rfl)
  obtain ⟨rfl, hV, i, hi, rfl⟩ := hR
  rw [hV] at hS
  refine W.eq (g2 := F0 m 5 ls []) rfl ?_
  refine lv_aload_n hx hb d_C_editionAt_5 rfl (lv_at hl 0 rfl) ?_
  refine r_get (k := 0) (i := 0) F hS f_C_10.get h0 rfl d_C_editionAt_6 ?_
  refine lv_iload_n hx hb d_C_editionAt_9 rfl (lv_at hl 1 rfl) ?_
  obtain ⟨cap, hcap0, hcap1, hcap2, hc9⟩ : ∃ cap : Nat, 0 < cap ∧ ne ≤ cap ∧ cap ≤ 36 ∧ V 9 0 = some (dE, aQ G cap (lF ne ea)) := hLE.2.resolve_left (fun z => by have z1 := z.1; omega)
  refine r_callV (k := 8) (i := 0) (q := ("java/util/ArrayList", T_A, 3)) (fs := [.int mcE, .ref dE, .int (nI ne)]) (As := [.int (nI i)]) (rest := []) F hS c_C_144 (k_A_get G l htr V 0 aE dE ne cap i ea mcE hi hcap1 hcap2 hLE.1 hc9) rfl hLE.1 rfl hl.1 rfl (Nat.le_of_ble_eq_true rfl) d_C_editionAt_10 ⟨Nat.le_of_ble_eq_true rfl, Nat.le_of_ble_eq_true rfl⟩ ⟨Nat.le_of_ble_eq_true rfl, Nat.le_of_ble_eq_true rfl⟩ (fun rv V1 H locs hR hS => ?_)
  obtain ⟨rfl, hV⟩ := hR
  rw [hV] at hS
  refine W.eq (g2 := F0 m 13 ls [.ref (ea i)]) rfl ?_
  refine r_cast (k := 1) (i := i) F hS (q := ("RuleClasses$Edition", T_E, 10)) (fs := [.int (ow i), .int (ki i), .int (ed i), .ref (oA i), .ref (cA i), .int (nI (ln i)), .int (md i), .int (ak i), .int (sk i), .int (fk i)]) rfl (hE i hi).1 m_180 d_C_editionAt_13 ?_
  exact vx_ret (m_reta F hr (Or.inl ⟨_, rfl⟩) hS (Nat.le_of_ble_eq_true rfl) (Nat.le_of_ble_eq_true rfl) (Or.inr ⟨_, rfl⟩) ⟨rfl, i, hi, rfl, rfl⟩ d_C_editionAt_16)
set_option maxHeartbeats 4000000 in
set_option maxRecDepth 100000 in
theorem k_C_requireNotMade (G : Gl) (l : Launch) (htr : l.stackTraces = false) (V : Vw) (i : Nat) (ne : Nat) (ea oA cA : Nat → Nat) (ow ki ed md ak sk fk : Nat → Int32) (ln : Nat → Nat) (po cs : Nat → Nat → Int32) (hE : EV G V ne ea oA cA ow ki ed md ak sk fk ln po cs) (hi : i < ne)  :
    Cx G l y_C_requireNotMade b_C_requireNotMade 1 none { frames := 6, cells := 1, slots := 6, locals := 90 } V [.ref (ea i)] (fun rv V' => rv = none ∧ V' = V ∧ md i = 0) (fun E V' => E = "java/lang/IllegalStateException" ∧ V' = V ∧ md i ≠ 0) := by
  refine Cx.of htr (by decide) (Nat.le_of_ble_eq_true rfl) ?_
  intro p e s m args below meth c ls F hr hex hS hl
  obtain ⟨hx, hb, hml, hown, hts, hK, hlk, -⟩ := id F
  have hl : lv_has ls 1 [(0, .ref (ea i))] := hl
  refine lv_aload_n hx hb d_C_requireNotMade_0 rfl (lv_at hl 0 rfl) ?_
  refine r_get (k := 1) (i := i) F hS f_C_127.get (hE i hi).1 rfl d_C_requireNotMade_1 ?_
  refine lv_if_eq (tgt := 17) hx hb d_C_requireNotMade_4 (by decide) (fun c_4 => ?_) (fun c_4 => ?_)
  · exact vx_ret (m_retv F hr hS (Nat.le_of_ble_eq_true rfl) (Nat.le_of_ble_eq_true rfl) ⟨rfl, rfl, c_4⟩ d_C_requireNotMade_17)
  · exact r_throw F hex hS tw_IllegalStateException (List.mem_of_getElem? (i := 3) rfl) hl.1 d_C_requireNotMade_7 d_C_requireNotMade_10 d_C_requireNotMade_11 d_C_requireNotMade_13 d_C_requireNotMade_16 (Nat.le_of_ble_eq_true rfl) (Nat.le_of_ble_eq_true rfl) (Nat.le_of_ble_eq_true rfl) (Nat.le_of_ble_eq_true rfl) (Nat.le_of_ble_eq_true rfl) (Nat.le_of_ble_eq_true rfl) (⟨rfl, rfl, c_4⟩)
set_option maxHeartbeats 4000000 in
set_option maxRecDepth 100000 in
theorem k_C_told (G : Gl) (l : Launch) (htr : l.stackTraces = false) (V : Vw) (a0 aE aK fA r0 r1 fb fl sh df : Nat) (mo dy qs hs lv he : Int32) (ne : Nat) (ea oA cA : Nat → Nat) (ow ki ed md ak sk fk : Nat → Int32) (ln : Nat → Nat) (po cs : Nat → Nat → Int32) (hE : EV G V ne ea oA cA ow ki ed md ak sk fk ln po cs) (dE : Nat) (mcE : Int32) (hne : ne ≤ 24) (hLE : LV G V 0 aE dE ne ea mcE) (n t : Int32) (h0 : V 0 0 = some (a0, oC mo aE aK fA r0 r1 fb fl sh df dy qs hs lv he)) :
    Cx G l y_C_told b_C_told 4 (Option.some Jvm.ClassFile.FieldType.int) { frames := 8, cells := 2, slots := 12, locals := 132 } V [.ref a0, .int n, .int t] (fun rv V' => V' = V ∧ ∃ i tn : Nat, i < ne ∧ n = nI i ∧ tn ≤ 7 ∧ t = nI tn ∧ rv = some (.int (pTell tn (ow i) (ki i) (ed i) (nI (ln i)) (md i) (ak i) (sk i) (fk i)))) (fun E V' => V' = V ∧ ((E = "java/util/NoSuchElementException" ∧ (n < 0 ∨ nI ne ≤ n)) ∨ (E = "java/lang/IllegalArgumentException" ∧ (∃ i : Nat, i < ne ∧ n = nI i) ∧ (t < 0 ∨ 7 < t)))) := by
  refine Cx.of htr (by decide) (Nat.le_of_ble_eq_true rfl) ?_
  intro p e s m args below meth c ls F hr hex hS hl
  obtain ⟨hx, hb, hml, hown, hts, hK, hlk, -⟩ := id F
  have hl : lv_has ls 4 [(0, .ref a0), (1, .int n), (2, .int t)] := hl
  refine lv_aload_n hx hb d_C_told_0 rfl (lv_at hl 0 rfl) ?_
  refine lv_iload_n hx hb d_C_told_1 rfl (lv_at hl 1 rfl) ?_
  refine r_xcallV (k := 0) (i := 0) (q := ("RuleClasses", T_C, 15)) (fs := [.int mo, .ref aE, .ref aK, .ref fA, .ref r0, .ref r1, .ref fb, .ref fl, .ref sh, .ref df, .int dy, .int qs, .int hs, .int lv, .int he]) (As := [.int n]) (rest := []) F hS c_C_97 (k_C_editionAt G l htr V a0 aE aK fA r0 r1 fb fl sh df mo dy qs hs lv he ne ea oA cA ow ki ed md ak sk fk ln po cs hE dE mcE hne hLE n h0) rfl h0 rfl hl.1 rfl (Nat.le_of_ble_eq_true rfl) d_C_told_2 ⟨Nat.le_of_ble_eq_true rfl, Nat.le_of_ble_eq_true rfl⟩ ⟨Nat.le_of_ble_eq_true rfl, Nat.le_of_ble_eq_true rfl⟩ (fun q9 E9 ce V1 H locs hT hS hce => ?_) (fun rv V1 H locs hR hS => ?_)
  · obtain ⟨rfl, hV, hbad⟩ := hT
    rw [hV] at hS
    exact x_out F hex hS hce ⟨rfl, Or.inl ⟨rfl, hbad⟩⟩ (Nat.le_of_ble_eq_true rfl) (Nat.le_of_ble_eq_true rfl)
  obtain ⟨hV, i, hi, rfl, rfl⟩ := hR
  rw [hV] at hS
  refine W.eq (g2 := F0 m 5 ls [.ref (ea i)]) rfl ?_
  refine lv_astore_n (lv' := [(3, .ref (ea i)), (0, .ref a0), (1, .int (nI i)), (2, .int t)]) hx hb d_C_told_5 rfl hl (by decide) rfl (fun ls hl => ?_)
  refine lv_iload_n hx hb d_C_told_6 rfl (lv_at hl 3 rfl) ?_
  refine lv_iconst (v := 0) hx hb d_C_told_7 (by decide) ?_
  refine lv_bipush (v := 7) hx hb d_C_told_8 (by decide) ?_
  refine r_xcallS (As := [.int t, .int 0, .int 7]) (rest := []) F hS c_C_67 (k_C_requireRange G l htr V t 0 7) rfl hl.1 rfl (Nat.le_of_ble_eq_true rfl) d_C_told_10 ⟨Nat.le_of_ble_eq_true rfl, Nat.le_of_ble_eq_true rfl⟩ ⟨Nat.le_of_ble_eq_true rfl, Nat.le_of_ble_eq_true rfl⟩ (fun q9 E9 ce V1 H locs hT hS hce => ?_) (fun rv V1 H locs hR hS => ?_)
  · obtain ⟨rfl, hV, hbad⟩ := hT
    rw [hV] at hS
    exact x_out F hex hS hce ⟨rfl, Or.inr ⟨rfl, ⟨i, hi, rfl⟩, hbad⟩⟩ (Nat.le_of_ble_eq_true rfl) (Nat.le_of_ble_eq_true rfl)
  obtain ⟨rfl, hV, hlo, hhi⟩ := hR
  rw [hV] at hS
  obtain ⟨tn, htn, rfl⟩ := nI_of2 (M := 7) (n := 7) (by decide) (Int32.not_lt.mpr hlo) hhi
  refine W.eq (g2 := F0 m 13 ls []) rfl ?_
  refine lv_aload_n hx hb d_C_told_13 rfl (lv_at hl 0 rfl) ?_
  refine lv_iload_n hx hb d_C_told_14 rfl (lv_at hl 3 rfl) ?_
  refine r_callV (k := 1) (i := i) (q := ("RuleClasses$Edition", T_E, 10)) (fs := [.int (ow i), .int (ki i), .int (ed i), .ref (oA i), .ref (cA i), .int (nI (ln i)), .int (md i), .int (ak i), .int (sk i), .int (fk i)]) (As := [.int (nI tn)]) (rest := []) F hS c_C_204 (k_E_tell G l htr V i (ea i) (oA i) (cA i) (ow i) (ki i) (ed i) (md i) (ak i) (sk i) (fk i) (ln i) tn htn (hE i hi).1) rfl (hE i hi).1 rfl hl.1 rfl (Nat.le_of_ble_eq_true rfl) d_C_told_15 ⟨Nat.le_of_ble_eq_true rfl, Nat.le_of_ble_eq_true rfl⟩ ⟨Nat.le_of_ble_eq_true rfl, Nat.le_of_ble_eq_true rfl⟩ (fun rv V1 H locs hR hS => ?_)
  obtain ⟨rfl, hV⟩ := hR
  rw [hV] at hS
  refine W.eq (g2 := F0 m 18 ls [.int (pTell tn (ow i) (ki i) (ed i) (nI (ln i)) (md i) (ak i) (sk i) (fk i))]) rfl ?_
  exact vx_ret (m_reti F hr hS (Nat.le_of_ble_eq_true rfl) (Nat.le_of_ble_eq_true rfl) ⟨rfl, i, tn, hi, rfl, htn, rfl, rfl⟩ d_C_told_18)
set_option maxHeartbeats 4000000 in
set_option maxRecDepth 100000 in
theorem k_C_same (G : Gl) (l : Launch) (htr : l.stackTraces = false) (V : Vw) (a0 aE aK fA r0 r1 fb fl sh df : Nat) (mo dy qs hs lv he : Int32) (ne : Nat) (ea oA cA : Nat → Nat) (ow ki ed md ak sk fk : Nat → Int32) (ln : Nat → Nat) (po cs : Nat → Nat → Int32) (hE : EV G V ne ea oA cA ow ki ed md ak sk fk ln po cs) (dE : Nat) (mcE : Int32) (hne : ne ≤ 24) (hLE : LV G V 0 aE dE ne ea mcE) (hok : ∀ i, i < ne → okCode (ln i) (po i) (cs i)) (n n2 : Int32) (h0 : V 0 0 = some (a0, oC mo aE aK fA r0 r1 fb fl sh df dy qs hs lv he)) :
    Cx G l y_C_same b_C_same 5 (Option.some Jvm.ClassFile.FieldType.boolean) { frames := 8, cells := 2, slots := 12, locals := 132 } V [.ref a0, .int n, .int n2] (fun rv V' => V' = V ∧ ∃ i i2 : Nat, i < ne ∧ i2 < ne ∧ n = nI i ∧ n2 = nI i2 ∧ rv = some (.int (@ite Int32 (ln i = ln i2 ∧ (∀ a, a < ln i → po i a = po i2 a ∧ cs i a = cs i2 a)) (Classical.propDecidable _) 1 0))) (fun E V' => E = "java/util/NoSuchElementException" ∧ V' = V ∧ ((n < 0 ∨ nI ne ≤ n) ∨ (n2 < 0 ∨ nI ne ≤ n2))) := by
  refine Cx.of htr (by decide) (Nat.le_of_ble_eq_true rfl) ?_
  intro p e s m args below meth c ls F hr hex hS hl
  obtain ⟨hx, hb, hml, hown, hts, hK, hlk, -⟩ := id F
  have hl : lv_has ls 5 [(0, .ref a0), (1, .int n), (2, .int n2)] := hl
  refine lv_aload_n hx hb d_C_same_0 rfl (lv_at hl 0 rfl) ?_
  refine lv_iload_n hx hb d_C_same_1 rfl (lv_at hl 1 rfl) ?_
  refine r_xcallV (k := 0) (i := 0) (q := ("RuleClasses", T_C, 15)) (fs := [.int mo, .ref aE, .ref aK, .ref fA, .ref r0, .ref r1, .ref fb, .ref fl, .ref sh, .ref df, .int dy, .int qs, .int hs, .int lv, .int he]) (As := [.int n]) (rest := []) F hS c_C_97 (k_C_editionAt G l htr V a0 aE aK fA r0 r1 fb fl sh df mo dy qs hs lv he ne ea oA cA ow ki ed md ak sk fk ln po cs hE dE mcE hne hLE n h0) rfl h0 rfl hl.1 rfl (Nat.le_of_ble_eq_true rfl) d_C_same_2 ⟨Nat.le_of_ble_eq_true rfl, Nat.le_of_ble_eq_true rfl⟩ ⟨Nat.le_of_ble_eq_true rfl, Nat.le_of_ble_eq_true rfl⟩ (fun q9 E9 ce V1 H locs hT hS hce => ?_) (fun rv V1 H locs hR hS => ?_)
  · obtain ⟨rfl, hV, hbad⟩ := hT
    rw [hV] at hS
    exact x_out F hex hS hce ⟨rfl, rfl, Or.inl hbad⟩ (Nat.le_of_ble_eq_true rfl) (Nat.le_of_ble_eq_true rfl)
  obtain ⟨hV, i, hi, rfl, rfl⟩ := hR
  rw [hV] at hS
  refine W.eq (g2 := F0 m 5 ls [.ref (ea i)]) rfl ?_
  refine lv_astore_n (lv' := [(3, .ref (ea i)), (0, .ref a0), (1, .int (nI i)), (2, .int n2)]) hx hb d_C_same_5 rfl hl (by decide) rfl (fun ls hl => ?_)
  refine lv_aload_n hx hb d_C_same_6 rfl (lv_at hl 1 rfl) ?_
  refine lv_iload_n hx hb d_C_same_7 rfl (lv_at hl 3 rfl) ?_
  refine r_xcallV (k := 0) (i := 0) (q := ("RuleClasses", T_C, 15)) (fs := [.int mo, .ref aE, .ref aK, .ref fA, .ref r0, .ref r1, .ref fb, .ref fl, .ref sh, .ref df, .int dy, .int qs, .int hs, .int lv, .int he]) (As := [.int n2]) (rest := []) F hS c_C_97 (k_C_editionAt G l htr V a0 aE aK fA r0 r1 fb fl sh df mo dy qs hs lv he ne ea oA cA ow ki ed md ak sk fk ln po cs hE dE mcE hne hLE n2 h0) rfl h0 rfl hl.1 rfl (Nat.le_of_ble_eq_true rfl) d_C_same_8 ⟨Nat.le_of_ble_eq_true rfl, Nat.le_of_ble_eq_true rfl⟩ ⟨Nat.le_of_ble_eq_true rfl, Nat.le_of_ble_eq_true rfl⟩ (fun q9 E9 ce V1 H locs hT hS hce => ?_) (fun rv V1 H locs hR hS => ?_)
  · obtain ⟨rfl, hV, hbad⟩ := hT
    rw [hV] at hS
    exact x_out F hex hS hce ⟨rfl, rfl, Or.inr hbad⟩ (Nat.le_of_ble_eq_true rfl) (Nat.le_of_ble_eq_true rfl)
  obtain ⟨hV, i2, hi2, rfl, rfl⟩ := hR
  rw [hV] at hS
  refine W.eq (g2 := F0 m 11 ls [.ref (ea i2)]) rfl ?_
  refine lv_astore (lv' := [(4, .ref (ea i2)), (3, .ref (ea i)), (0, .ref a0), (1, .int (nI i)), (2, .int (nI i2))]) hx hb d_C_same_11 hl (by decide) rfl (fun ls hl => ?_)
  refine lv_aload_n hx hb d_C_same_13 rfl (lv_at hl 1 rfl) ?_
  refine lv_aload hx hb d_C_same_14 (lv_at hl 0 rfl) ?_
  refine r_callV (k := 1) (i := i) (q := ("RuleClasses$Edition", T_E, 10)) (fs := [.int (ow i), .int (ki i), .int (ed i), .ref (oA i), .ref (cA i), .int (nI (ln i)), .int (md i), .int (ak i), .int (sk i), .int (fk i)]) (As := [.ref (ea i2)]) (rest := []) F hS c_C_192 (k_E_hasCodeOf G l htr V i (ea i) (oA i) (cA i) (ow i) (ki i) (ed i) (md i) (ak i) (sk i) (fk i) (ln i) (po i) (cs i) i2 (ea i2) (oA i2) (cA i2) (ow i2) (ki i2) (ed i2) (md i2) (ak i2) (sk i2) (fk i2) (po i2) (cs i2) (ln i2) (hok i hi).1 (hok i2 hi2).1 (hE i hi).1 (hE i hi).2.1 (hE i hi).2.2 (hE i2 hi2).1 (hE i2 hi2).2.1 (hE i2 hi2).2.2) rfl (hE i hi).1 rfl hl.1 rfl (Nat.le_of_ble_eq_true rfl) d_C_same_16 ⟨Nat.le_of_ble_eq_true rfl, Nat.le_of_ble_eq_true rfl⟩ ⟨Nat.le_of_ble_eq_true rfl, Nat.le_of_ble_eq_true rfl⟩ (fun rv V1 H locs hR hS => ?_)
  obtain ⟨rfl, hV⟩ := hR
  rw [hV] at hS
  refine W.eq (g2 := F0 m 19 ls [.int (@ite Int32 (ln i = ln i2 ∧ (∀ a, a < ln i → po i a = po i2 a ∧ cs i a = cs i2 a)) (Classical.propDecidable _) 1 0)]) rfl ?_
  exact vx_ret (m_retz F hr hS (Nat.le_of_ble_eq_true rfl) (Nat.le_of_ble_eq_true rfl) (by split <;> rfl) ⟨rfl, i, i2, hi, hi2, rfl, rfl, rfl⟩ d_C_same_19)
set_option maxHeartbeats 4000000 in
set_option maxRecDepth 100000 in
theorem k_C_op (G : Gl) (l : Launch) (htr : l.stackTraces = false) (V : Vw) (a0 aE aK fA r0 r1 fb fl sh df : Nat) (mo dy qs hs lv he : Int32) (ne : Nat) (ea oA cA : Nat → Nat) (ow ki ed md ak sk fk : Nat → Int32) (ln : Nat → Nat) (po cs : Nat → Nat → Int32) (hE : EV G V ne ea oA cA ow ki ed md ak sk fk ln po cs) (dE : Nat) (mcE : Int32) (hne : ne ≤ 24) (hLE : LV G V 0 aE dE ne ea mcE) (hok : ∀ i, i < ne → okCode (ln i) (po i) (cs i)) (n op cn : Int32) (h0 : V 0 0 = some (a0, oC mo aE aK fA r0 r1 fb fl sh df dy qs hs lv he)) :
    Cx G l y_C_op b_C_op 5 (Option.some Jvm.ClassFile.FieldType.int) { frames := 8, cells := 5, slots := 30, locals := 132 } V [.ref a0, .int n, .int op, .int cn] (fun rv V' => ∃ i on : Nat, i < ne ∧ n = nI i ∧ on ≤ 10 ∧ op = nI on ∧ (pLs (nI on) ≤ cn ∧ cn ≤ pGr on) ∧ md i = 0 ∧ ln i < 16 ∧ rv = some (.int (nI (ln i + 1))) ∧ V' = uV (uV (uV V 2 i ((oA i), aI G 16 (upd (po i) (ln i) (nI on)))) 3 i ((cA i), aI G 16 (upd (cs i) (ln i) cn))) 1 i ((ea i), oE (ow i) (ki i) (ed i) (oA i) (cA i) (nI (ln i + 1)) (md i) (ak i) (sk i) (fk i))) (fun E V' => V' = V ∧ ((E = "java/util/NoSuchElementException" ∧ (n < 0 ∨ nI ne ≤ n)) ∨ ∃ i : Nat, i < ne ∧ n = nI i ∧ ((E = "java/lang/IllegalArgumentException" ∧ (op < 0 ∨ 10 < op)) ∨ ∃ on : Nat, on ≤ 10 ∧ op = nI on ∧ ((E = "java/lang/IllegalArgumentException" ∧ (cn < pLs (nI on) ∨ pGr on < cn)) ∨ ((pLs (nI on) ≤ cn ∧ cn ≤ pGr on) ∧ ((E = "java/lang/IllegalStateException" ∧ md i ≠ 0) ∨ (md i = 0 ∧ E = "java/lang/UnsupportedOperationException" ∧ 16 ≤ ln i))))))) := by
  refine Cx.of htr (by decide) (Nat.le_of_ble_eq_true rfl) ?_
  intro p e s m args below meth c ls F hr hex hS hl
  obtain ⟨hx, hb, hml, hown, hts, hK, hlk, -⟩ := id F
  have hl : lv_has ls 5 [(0, .ref a0), (1, .int n), (2, .int op), (3, .int cn)] := hl
  refine lv_aload_n hx hb d_C_op_0 rfl (lv_at hl 0 rfl) ?_
  refine lv_iload_n hx hb d_C_op_1 rfl (lv_at hl 1 rfl) ?_
  refine r_xcallV (k := 0) (i := 0) (q := ("RuleClasses", T_C, 15)) (fs := [.int mo, .ref aE, .ref aK, .ref fA, .ref r0, .ref r1, .ref fb, .ref fl, .ref sh, .ref df, .int dy, .int qs, .int hs, .int lv, .int he]) (As := [.int n]) (rest := []) F hS c_C_97 (k_C_editionAt G l htr V a0 aE aK fA r0 r1 fb fl sh df mo dy qs hs lv he ne ea oA cA ow ki ed md ak sk fk ln po cs hE dE mcE hne hLE n h0) rfl h0 rfl hl.1 rfl (Nat.le_of_ble_eq_true rfl) d_C_op_2 ⟨Nat.le_of_ble_eq_true rfl, Nat.le_of_ble_eq_true rfl⟩ ⟨Nat.le_of_ble_eq_true rfl, Nat.le_of_ble_eq_true rfl⟩ (fun q9 E9 ce V1 H locs hT hS hce => ?_) (fun rv V1 H locs hR hS => ?_)
  · obtain ⟨rfl, hV, hbad⟩ := hT
    rw [hV] at hS
    exact x_out F hex hS hce ⟨rfl, Or.inl ⟨rfl, hbad⟩⟩ (Nat.le_of_ble_eq_true rfl) (Nat.le_of_ble_eq_true rfl)
  obtain ⟨hV, i, hi, rfl, rfl⟩ := hR
  rw [hV] at hS
  refine W.eq (g2 := F0 m 5 ls [.ref (ea i)]) rfl ?_
  refine lv_astore (lv' := [(4, .ref (ea i)), (0, .ref a0), (1, .int (nI i)), (2, .int op), (3, .int cn)]) hx hb d_C_op_5 hl (by decide) rfl (fun ls hl => ?_)
  refine lv_iload_n hx hb d_C_op_7 rfl (lv_at hl 3 rfl) ?_
  refine lv_iconst (v := 0) hx hb d_C_op_8 (by decide) ?_
  refine lv_bipush (v := 10) hx hb d_C_op_9 (by decide) ?_
  refine r_xcallS (As := [.int op, .int 0, .int 10]) (rest := []) F hS c_C_67 (k_C_requireRange G l htr V op 0 10) rfl hl.1 rfl (Nat.le_of_ble_eq_true rfl) d_C_op_11 ⟨Nat.le_of_ble_eq_true rfl, Nat.le_of_ble_eq_true rfl⟩ ⟨Nat.le_of_ble_eq_true rfl, Nat.le_of_ble_eq_true rfl⟩ (fun q9 E9 ce V1 H locs hT hS hce => ?_) (fun rv V1 H locs hR hS => ?_)
  · obtain ⟨rfl, hV, hbad⟩ := hT
    rw [hV] at hS
    exact x_out F hex hS hce ⟨rfl, Or.inr ⟨i, hi, rfl, Or.inl ⟨rfl, hbad⟩⟩⟩ (Nat.le_of_ble_eq_true rfl) (Nat.le_of_ble_eq_true rfl)
  obtain ⟨rfl, hV, hlo, hhi⟩ := hR
  rw [hV] at hS
  obtain ⟨on, hon, rfl⟩ := nI_of2 (M := 10) (n := 10) (by decide) (Int32.not_lt.mpr hlo) hhi
  refine W.eq (g2 := F0 m 14 ls []) rfl ?_
  refine lv_iload_n hx hb d_C_op_14 rfl (lv_at hl 4 rfl) ?_
  refine lv_iload_n hx hb d_C_op_15 rfl (lv_at hl 3 rfl) ?_
  refine r_callS (As := [.int (nI on)]) (rest := [.int cn]) F hS c_C_101 (k_C_leastConstant G l htr V (nI on)) rfl hl.1 rfl (Nat.le_of_ble_eq_true rfl) d_C_op_16 ⟨Nat.le_of_ble_eq_true rfl, Nat.le_of_ble_eq_true rfl⟩ ⟨Nat.le_of_ble_eq_true rfl, Nat.le_of_ble_eq_true rfl⟩ (fun rv V1 H locs hR hS => ?_)
  obtain ⟨rfl, hV⟩ := hR
  rw [hV] at hS
  refine W.eq (g2 := F0 m 19 ls [.int (pLs (nI on)), .int cn]) rfl ?_
  refine lv_iload_n hx hb d_C_op_19 rfl (lv_at hl 3 rfl) ?_
  refine r_callS (As := [.int (nI on)]) (rest := [.int (pLs (nI on)), .int cn]) F hS c_C_105 (k_C_greatestConstant G l htr V on hon) rfl hl.1 rfl (Nat.le_of_ble_eq_true rfl) d_C_op_20 ⟨Nat.le_of_ble_eq_true rfl, Nat.le_of_ble_eq_true rfl⟩ ⟨Nat.le_of_ble_eq_true rfl, Nat.le_of_ble_eq_true rfl⟩ (fun rv V1 H locs hR hS => ?_)
  obtain ⟨rfl, hV⟩ := hR
  rw [hV] at hS
  refine W.eq (g2 := F0 m 23 ls [.int (pGr on), .int (pLs (nI on)), .int cn]) rfl ?_
  refine r_xcallS (As := [.int cn, .int (pLs (nI on)), .int (pGr on)]) (rest := []) F hS c_C_67 (k_C_requireRange G l htr V cn (pLs (nI on)) (pGr on)) rfl hl.1 rfl (Nat.le_of_ble_eq_true rfl) d_C_op_23 ⟨Nat.le_of_ble_eq_true rfl, Nat.le_of_ble_eq_true rfl⟩ ⟨Nat.le_of_ble_eq_true rfl, Nat.le_of_ble_eq_true rfl⟩ (fun q9 E9 ce V1 H locs hT hS hce => ?_) (fun rv V1 H locs hR hS => ?_)
  · obtain ⟨rfl, hV, hbad⟩ := hT
    rw [hV] at hS
    exact x_out F hex hS hce ⟨rfl, Or.inr ⟨i, hi, rfl, Or.inr ⟨on, hon, rfl, Or.inl ⟨rfl, hbad⟩⟩⟩⟩ (Nat.le_of_ble_eq_true rfl) (Nat.le_of_ble_eq_true rfl)
  obtain ⟨rfl, hV, hlo, hhi⟩ := hR
  rw [hV] at hS
  have hcn := And.intro hlo hhi
  refine W.eq (g2 := F0 m 26 ls []) rfl ?_
  refine lv_aload hx hb d_C_op_26 (lv_at hl 0 rfl) ?_
  refine r_xcallS (As := [.ref (ea i)]) (rest := []) F hS c_C_108 (k_C_requireNotMade G l htr V i ne ea oA cA ow ki ed md ak sk fk ln po cs hE hi) rfl hl.1 rfl (Nat.le_of_ble_eq_true rfl) d_C_op_28 ⟨Nat.le_of_ble_eq_true rfl, Nat.le_of_ble_eq_true rfl⟩ ⟨Nat.le_of_ble_eq_true rfl, Nat.le_of_ble_eq_true rfl⟩ (fun q9 E9 ce V1 H locs hT hS hce => ?_) (fun rv V1 H locs hR hS => ?_)
  · obtain ⟨rfl, hV, hbad⟩ := hT
    rw [hV] at hS
    exact x_out F hex hS hce ⟨rfl, Or.inr ⟨i, hi, rfl, Or.inr ⟨on, hon, rfl, Or.inr ⟨hcn, Or.inl ⟨rfl, hbad⟩⟩⟩⟩⟩ (Nat.le_of_ble_eq_true rfl) (Nat.le_of_ble_eq_true rfl)
  obtain ⟨rfl, hV, hmd⟩ := hR
  rw [hV] at hS
  refine W.eq (g2 := F0 m 31 ls []) rfl ?_
  refine lv_aload hx hb d_C_op_31 (lv_at hl 0 rfl) ?_
  refine r_get (k := 1) (i := i) F hS f_C_112.get (hE i hi).1 rfl d_C_op_33 ?_
  refine lv_bipush (v := 16) hx hb d_C_op_36 (by decide) ?_
  refine lv_icmp_lt (tgt := 51) hx hb d_C_op_38 (by decide) (fun c_38 => ?_) (fun c_38 => ?_)
  · have hl16 : ln i < 16 := (nI_ltI (by have := (hok i hi).1; omega) (by decide)).mp (show nI (ln i) < nI 16 from c_38)
    refine lv_aload hx hb d_C_op_51 (lv_at hl 0 rfl) ?_
    refine lv_iload_n hx hb d_C_op_53 rfl (lv_at hl 3 rfl) ?_
    refine lv_iload_n hx hb d_C_op_54 rfl (lv_at hl 4 rfl) ?_
    refine r_callV (k := 1) (i := i) (q := ("RuleClasses$Edition", T_E, 10)) (fs := [.int (ow i), .int (ki i), .int (ed i), .ref (oA i), .ref (cA i), .int (nI (ln i)), .int (md i), .int (ak i), .int (sk i), .int (fk i)]) (As := [.int (nI on), .int cn]) (rest := []) F hS c_C_117 (k_E_append G l htr V i (ea i) (oA i) (cA i) (ow i) (ki i) (ed i) (md i) (ak i) (sk i) (fk i) (ln i) (po i) (cs i) (nI on) cn hl16 (hE i hi).1 (hE i hi).2.1 (hE i hi).2.2) rfl (hE i hi).1 rfl hl.1 rfl (Nat.le_of_ble_eq_true rfl) d_C_op_55 ⟨Nat.le_of_ble_eq_true rfl, Nat.le_of_ble_eq_true rfl⟩ ⟨Nat.le_of_ble_eq_true rfl, Nat.le_of_ble_eq_true rfl⟩ (fun rv V1 H locs hR hS => ?_)
    obtain ⟨rfl, rfl⟩ := hR
    refine W.eq (g2 := F0 m 58 ls []) rfl ?_
    refine lv_aload hx hb d_C_op_58 (lv_at hl 0 rfl) ?_
    refine r_get (k := 1) (i := i) F hS f_C_112.get (uV_self _ _ _ _) rfl d_C_op_60 ?_
    exact vx_ret (m_reti F hr hS (Nat.le_of_ble_eq_true rfl) (Nat.le_of_ble_eq_true rfl) ⟨i, on, hi, rfl, hon, rfl, hcn, hmd, hl16, rfl, rfl⟩ d_C_op_63)
  · exact r_throw F hex hS tw_UnsupportedOperationException (List.mem_of_getElem? (i := 4) rfl) hl.1 d_C_op_41 d_C_op_44 d_C_op_45 d_C_op_47 d_C_op_50 (Nat.le_of_ble_eq_true rfl) (Nat.le_of_ble_eq_true rfl) (Nat.le_of_ble_eq_true rfl) (Nat.le_of_ble_eq_true rfl) (Nat.le_of_ble_eq_true rfl) (Nat.le_of_ble_eq_true rfl) (⟨rfl, Or.inr ⟨i, hi, rfl, Or.inr ⟨on, hon, rfl, Or.inr ⟨hcn, Or.inr ⟨hmd, rfl, (nI_leI (by decide) (by have := (hok i hi).1; omega)).mp (show nI 16 ≤ nI (ln i) from Int32.not_lt.mp c_38)⟩⟩⟩⟩⟩)
set_option maxHeartbeats 4000000 in
set_option maxRecDepth 100000 in
theorem k_C_make (G : Gl) (l : Launch) (htr : l.stackTraces = false) (V : Vw) (a0 aE aK fA r0 r1 fb fl sh df : Nat) (mo dy qs hs lv he : Int32) (ne : Nat) (ea oA cA : Nat → Nat) (ow ki ed md ak sk fk : Nat → Int32) (ln : Nat → Nat) (po cs : Nat → Nat → Int32) (hE : EV G V ne ea oA cA ow ki ed md ak sk fk ln po cs) (dE : Nat) (mcE : Int32) (hne : ne ≤ 24) (hLE : LV G V 0 aE dE ne ea mcE) (hok : ∀ i, i < ne → okCode (ln i) (po i) (cs i)) (s0 : Nat) (nx oc an st : Int32) (h9 : Nat) (f0 : Nat → Int32) (m0 : Nat) (hh : h9 ≤ 8) (hm9 : m0 ≤ 1000) (vA : Nat) (fa : Nat → Int32) (n : Int32) (h0 : V 0 0 = some (a0, oC mo aE aK fA r0 r1 fb fl sh df dy qs hs lv he)) (h4 : V 4 0 = some (r0, oU s0 (nI m0) (nI h9) nx oc an st)) (h5 : V 5 0 = some (s0, aI G 8 f0)) (h6 : V 6 0 = some (fA, oF vA)) (h7 : V 7 0 = some (vA, aI G 8 fa)) :
    Cx G l y_C_make b_C_make 3 (Option.some Jvm.ClassFile.FieldType.int) { frames := 8, cells := 2, slots := 12, locals := 132 } V [.ref a0, .int n] (fun rv V' => ∃ i : Nat, i < ne ∧ n = nI i ∧ md i = 0 ∧ (((pRun (ln i) (po i) (cs i) fa (ak i) m0 0 0 0 0 f0).1 = 6 ∧ rv = some (.int 0) ∧ V' = uV (uR G (uV V 0 0 (a0, oC mo aE aK fA r0 r1 fb fl sh df dy qs hs 0 he)) 0 r0 s0 (nI m0) (pRun (ln i) (po i) (cs i) fa (ak i) m0 0 0 0 0 f0).2.1 (pRun (ln i) (po i) (cs i) fa (ak i) m0 0 0 0 0 f0).2.2.1 (pRun (ln i) (po i) (cs i) fa (ak i) m0 0 0 0 0 f0).1 (pRun (ln i) (po i) (cs i) fa (ak i) m0 0 0 0 0 f0).2.2.2.1 (pRun (ln i) (po i) (cs i) fa (ak i) m0 0 0 0 0 f0).2.2.2.2.1 (pRun (ln i) (po i) (cs i) fa (ak i) m0 0 0 0 0 f0).2.2.2.2.2) 1 i ((ea i), oE (ow i) (ki i) (ed i) (oA i) (cA i) (nI (ln i)) 1 (ak i) (sk i) (fk i))) ∨ (¬ (pRun (ln i) (po i) (cs i) fa (ak i) m0 0 0 0 0 f0).1 = 6 ∧ rv = some (.int (-(pRun (ln i) (po i) (cs i) fa (ak i) m0 0 0 0 0 f0).1)) ∧ V' = (uR G (uV V 0 0 (a0, oC mo aE aK fA r0 r1 fb fl sh df dy qs hs 0 he)) 0 r0 s0 (nI m0) (pRun (ln i) (po i) (cs i) fa (ak i) m0 0 0 0 0 f0).2.1 (pRun (ln i) (po i) (cs i) fa (ak i) m0 0 0 0 0 f0).2.2.1 (pRun (ln i) (po i) (cs i) fa (ak i) m0 0 0 0 0 f0).1 (pRun (ln i) (po i) (cs i) fa (ak i) m0 0 0 0 0 f0).2.2.2.1 (pRun (ln i) (po i) (cs i) fa (ak i) m0 0 0 0 0 f0).2.2.2.2.1 (pRun (ln i) (po i) (cs i) fa (ak i) m0 0 0 0 0 f0).2.2.2.2.2)))) (fun E V' => V' = V ∧ ((E = "java/util/NoSuchElementException" ∧ (n < 0 ∨ nI ne ≤ n)) ∨ (E = "java/lang/IllegalStateException" ∧ ∃ i : Nat, i < ne ∧ n = nI i ∧ md i ≠ 0))) := by
  refine Cx.of htr (by decide) (Nat.le_of_ble_eq_true rfl) ?_
  intro p e s m args below meth c ls F hr hex hS hl
  obtain ⟨hx, hb, hml, hown, hts, hK, hlk, -⟩ := id F
  have hl : lv_has ls 3 [(0, .ref a0), (1, .int n)] := hl
  refine lv_aload_n hx hb d_C_make_0 rfl (lv_at hl 0 rfl) ?_
  refine lv_iload_n hx hb d_C_make_1 rfl (lv_at hl 1 rfl) ?_
  refine r_xcallV (k := 0) (i := 0) (q := ("RuleClasses", T_C, 15)) (fs := [.int mo, .ref aE, .ref aK, .ref fA, .ref r0, .ref r1, .ref fb, .ref fl, .ref sh, .ref df, .int dy, .int qs, .int hs, .int lv, .int he]) (As := [.int n]) (rest := []) F hS c_C_97 (k_C_editionAt G l htr V a0 aE aK fA r0 r1 fb fl sh df mo dy qs hs lv he ne ea oA cA ow ki ed md ak sk fk ln po cs hE dE mcE hne hLE n h0) rfl h0 rfl hl.1 rfl (Nat.le_of_ble_eq_true rfl) d_C_make_2 ⟨Nat.le_of_ble_eq_true rfl, Nat.le_of_ble_eq_true rfl⟩ ⟨Nat.le_of_ble_eq_true rfl, Nat.le_of_ble_eq_true rfl⟩ (fun q9 E9 ce V1 H locs hT hS hce => ?_) (fun rv V1 H locs hR hS => ?_)
  · obtain ⟨rfl, hV, hbad⟩ := hT
    rw [hV] at hS
    exact x_out F hex hS hce ⟨rfl, Or.inl ⟨rfl, hbad⟩⟩ (Nat.le_of_ble_eq_true rfl) (Nat.le_of_ble_eq_true rfl)
  obtain ⟨hV, i, hi, rfl, rfl⟩ := hR
  rw [hV] at hS
  refine W.eq (g2 := F0 m 5 ls [.ref (ea i)]) rfl ?_
  refine lv_astore_n (lv' := [(2, .ref (ea i)), (0, .ref a0), (1, .int (nI i))]) hx hb d_C_make_5 rfl hl (by decide) rfl (fun ls hl => ?_)
  refine lv_aload_n hx hb d_C_make_6 rfl (lv_at hl 0 rfl) ?_
  refine r_xcallS (As := [.ref (ea i)]) (rest := []) F hS c_C_108 (k_C_requireNotMade G l htr V i ne ea oA cA ow ki ed md ak sk fk ln po cs hE hi) rfl hl.1 rfl (Nat.le_of_ble_eq_true rfl) d_C_make_7 ⟨Nat.le_of_ble_eq_true rfl, Nat.le_of_ble_eq_true rfl⟩ ⟨Nat.le_of_ble_eq_true rfl, Nat.le_of_ble_eq_true rfl⟩ (fun q9 E9 ce V1 H locs hT hS hce => ?_) (fun rv V1 H locs hR hS => ?_)
  · obtain ⟨rfl, hV, hbad⟩ := hT
    rw [hV] at hS
    exact x_out F hex hS hce ⟨rfl, Or.inr ⟨rfl, i, hi, rfl, hbad⟩⟩ (Nat.le_of_ble_eq_true rfl) (Nat.le_of_ble_eq_true rfl)
  obtain ⟨rfl, hV, hmd⟩ := hR
  rw [hV] at hS
  refine W.eq (g2 := F0 m 10 ls []) rfl ?_
  refine lv_aload_n hx hb d_C_make_10 rfl (lv_at hl 1 rfl) ?_
  refine r_callV (k := 0) (i := 0) (q := ("RuleClasses", T_C, 15)) (fs := [.int mo, .ref aE, .ref aK, .ref fA, .ref r0, .ref r1, .ref fb, .ref fl, .ref sh, .ref df, .int dy, .int qs, .int hs, .int lv, .int he]) (As := []) (rest := []) F hS c_C_71 (k_C_endHandle G l htr V a0 aE aK fA r0 r1 fb fl sh df mo dy qs hs lv he h0) rfl h0 rfl hl.1 rfl (Nat.le_of_ble_eq_true rfl) d_C_make_11 ⟨Nat.le_of_ble_eq_true rfl, Nat.le_of_ble_eq_true rfl⟩ ⟨Nat.le_of_ble_eq_true rfl, Nat.le_of_ble_eq_true rfl⟩ (fun rv V1 H locs hR hS => ?_)
  obtain ⟨rfl, rfl⟩ := hR
  refine W.eq (g2 := F0 m 14 ls []) rfl ?_
  refine lv_aload_n hx hb d_C_make_14 rfl (lv_at hl 1 rfl) ?_
  refine r_get (k := 0) (i := 0) F hS f_C_57.get (uV_self _ _ _ _) rfl d_C_make_15 ?_
  refine lv_aload_n hx hb d_C_make_18 rfl (lv_at hl 0 rfl) ?_
  refine lv_aload_n hx hb d_C_make_19 rfl (lv_at hl 1 rfl) ?_
  refine r_get (k := 0) (i := 0) F hS f_C_22.get (uV_self _ _ _ _) rfl d_C_make_20 ?_
  refine r_callV (k := 4) (i := 0) (q := ("RuleClasses$Run", T_U, 7)) (fs := [.int (nI m0), .ref s0, .int (nI h9), .int nx, .int oc, .int an, .int st]) (As := [.ref (ea i), .ref fA]) (rest := []) F hS c_C_120 (k_U_start G l htr (uV V 0 0 (a0, oC mo aE aK fA r0 r1 fb fl sh df dy qs hs 0 he)) 0 r0 s0 nx oc an st h9 f0 m0 hh hm9 i 0 (ea i) (oA i) (cA i) fA vA (ow i) (ki i) (ed i) (md i) (ak i) (sk i) (fk i) (ln i) (po i) (cs i) fa (hok i hi) h4 h5 (hE i hi).1 (hE i hi).2.1 (hE i hi).2.2 h6 h7) rfl h4 rfl hl.1 rfl (Nat.le_of_ble_eq_true rfl) d_C_make_23 ⟨Nat.le_of_ble_eq_true rfl, Nat.le_of_ble_eq_true rfl⟩ ⟨Nat.le_of_ble_eq_true rfl, Nat.le_of_ble_eq_true rfl⟩ (fun rv V1 H locs hR hS => ?_)
  obtain ⟨rfl, rfl⟩ := hR
  refine W.eq (g2 := F0 m 26 ls []) rfl ?_
  refine lv_aload_n hx hb d_C_make_26 rfl (lv_at hl 1 rfl) ?_
  refine r_get (k := 0) (i := 0) F hS f_C_57.get ((uR_o (by decide) (by decide)).trans (uV_self _ _ _ _)) rfl d_C_make_27 ?_
  refine r_get (k := 4) (i := 0) F hS f_C_124.get uR_4 rfl d_C_make_30 ?_
  refine lv_bipush (v := 6) hx hb d_C_make_33 (by decide) ?_
  refine lv_icmp_eq (tgt := 47) hx hb d_C_make_35 (by decide) (fun c_35 => ?_) (fun c_35 => ?_)
  · refine lv_aload_n hx hb d_C_make_47 rfl (lv_at hl 0 rfl) ?_
    refine lv_iconst (v := 1) hx hb d_C_make_48 (by decide) ?_
    refine r_put (k := 1) (i := i) F hS f_C_127 ct_E ((uR_o (by decide) (by decide)).trans (hE i hi).1) rfl rfl (Nat.le_of_ble_eq_true rfl) d_C_make_49 (fun H locs hS => ?_)
    have hS : HS G s (uV (uR G (uV V 0 0 (a0, oC mo aE aK fA r0 r1 fb fl sh df dy qs hs 0 he)) 0 r0 s0 (nI m0) (pRun (ln i) (po i) (cs i) fa (ak i) m0 0 0 0 0 f0).2.1 (pRun (ln i) (po i) (cs i) fa (ak i) m0 0 0 0 0 f0).2.2.1 (pRun (ln i) (po i) (cs i) fa (ak i) m0 0 0 0 0 f0).1 (pRun (ln i) (po i) (cs i) fa (ak i) m0 0 0 0 0 f0).2.2.2.1 (pRun (ln i) (po i) (cs i) fa (ak i) m0 0 0 0 0 f0).2.2.2.2.1 (pRun (ln i) (po i) (cs i) fa (ak i) m0 0 0 0 0 f0).2.2.2.2.2) 1 i ((ea i), oE (ow i) (ki i) (ed i) (oA i) (cA i) (nI (ln i)) 1 (ak i) (sk i) (fk i))) H _ := hS
    refine lv_iconst (v := 0) hx hb d_C_make_52 (by decide) ?_
    exact vx_ret (m_reti F hr hS (Nat.le_of_ble_eq_true rfl) (Nat.le_of_ble_eq_true rfl) ⟨i, hi, rfl, hmd, Or.inl ⟨c_35, rfl, rfl⟩⟩ d_C_make_53)
  · refine lv_aload_n hx hb d_C_make_38 rfl (lv_at hl 1 rfl) ?_
    refine r_get (k := 0) (i := 0) F hS f_C_57.get ((uR_o (by decide) (by decide)).trans (uV_self _ _ _ _)) rfl d_C_make_39 ?_
    refine r_get (k := 4) (i := 0) F hS f_C_124.get uR_4 rfl d_C_make_42 ?_
    refine lv_ineg hx hb d_C_make_45 ?_
    exact vx_ret (m_reti F hr hS (Nat.le_of_ble_eq_true rfl) (Nat.le_of_ble_eq_true rfl) ⟨i, hi, rfl, hmd, Or.inr ⟨c_35, rfl, rfl⟩⟩ d_C_make_46)
set_option maxHeartbeats 4000000 in
set_option maxRecDepth 100000 in
theorem k_C_handle (G : Gl) (l : Launch) (htr : l.stackTraces = false) (V : Vw) (a0 aE aK fA r0 r1 fb fl sh df : Nat) (mo dy qs hs lv he : Int32) (ne : Nat) (ea oA cA : Nat → Nat) (ow ki ed md ak sk fk : Nat → Int32) (ln : Nat → Nat) (po cs : Nat → Nat → Int32) (hE : EV G V ne ea oA cA ow ki ed md ak sk fk ln po cs) (dE : Nat) (mcE : Int32) (hne : ne ≤ 24) (hLE : LV G V 0 aE dE ne ea mcE) (n : Int32) (h0 : V 0 0 = some (a0, oC mo aE aK fA r0 r1 fb fl sh df dy qs hs lv he)) :
    Cx G l y_C_handle b_C_handle 2 (Option.some Jvm.ClassFile.FieldType.int) { frames := 8, cells := 2, slots := 12, locals := 132 } V [.ref a0, .int n] (fun rv V' => ∃ i : Nat, i < ne ∧ n = nI i ∧ ¬ md i = 0 ∧ hs < 10000 ∧ rv = some (.int (hs + 1)) ∧ V' = uV V 0 0 (a0, oC mo aE aK fA r0 r1 fb fl sh df dy qs (hs + 1) (hs + 1) (nI i))) (fun E V' => V' = V ∧ ((E = "java/util/NoSuchElementException" ∧ (n < 0 ∨ nI ne ≤ n)) ∨ ∃ i : Nat, i < ne ∧ n = nI i ∧ ((E = "java/lang/IllegalStateException" ∧ md i = 0) ∨ (E = "java/lang/UnsupportedOperationException" ∧ ¬ md i = 0 ∧ 10000 ≤ hs)))) := by
  refine Cx.of htr (by decide) (Nat.le_of_ble_eq_true rfl) ?_
  intro p e s m args below meth c ls F hr hex hS hl
  obtain ⟨hx, hb, hml, hown, hts, hK, hlk, -⟩ := id F
  have hl : lv_has ls 2 [(0, .ref a0), (1, .int n)] := hl
  refine lv_aload_n hx hb d_C_handle_0 rfl (lv_at hl 0 rfl) ?_
  refine lv_iload_n hx hb d_C_handle_1 rfl (lv_at hl 1 rfl) ?_
  refine r_xcallV (k := 0) (i := 0) (q := ("RuleClasses", T_C, 15)) (fs := [.int mo, .ref aE, .ref aK, .ref fA, .ref r0, .ref r1, .ref fb, .ref fl, .ref sh, .ref df, .int dy, .int qs, .int hs, .int lv, .int he]) (As := [.int n]) (rest := []) F hS c_C_97 (k_C_editionAt G l htr V a0 aE aK fA r0 r1 fb fl sh df mo dy qs hs lv he ne ea oA cA ow ki ed md ak sk fk ln po cs hE dE mcE hne hLE n h0) rfl h0 rfl hl.1 rfl (Nat.le_of_ble_eq_true rfl) d_C_handle_2 ⟨Nat.le_of_ble_eq_true rfl, Nat.le_of_ble_eq_true rfl⟩ ⟨Nat.le_of_ble_eq_true rfl, Nat.le_of_ble_eq_true rfl⟩ (fun q9 E9 ce V1 H locs hT hS hce => ?_) (fun rv V1 H locs hR hS => ?_)
  · obtain ⟨rfl, hV, hbad⟩ := hT
    rw [hV] at hS
    exact x_out F hex hS hce ⟨rfl, Or.inl ⟨rfl, hbad⟩⟩ (Nat.le_of_ble_eq_true rfl) (Nat.le_of_ble_eq_true rfl)
  obtain ⟨hV, i, hi, rfl, rfl⟩ := hR
  rw [hV] at hS
  refine W.eq (g2 := F0 m 5 ls [.ref (ea i)]) rfl ?_
  refine r_get (k := 1) (i := i) F hS f_C_127.get (hE i hi).1 rfl d_C_handle_5 ?_
  refine lv_if_ne (tgt := 21) hx hb d_C_handle_8 (by decide) (fun c_8 => ?_) (fun c_8 => ?_)
  · refine lv_aload_n hx hb d_C_handle_21 rfl (lv_at hl 0 rfl) ?_
    refine r_get (k := 0) (i := 0) F hS f_C_166.get h0 rfl d_C_handle_22 ?_
    refine lv_sipush (v := 10000) hx hb d_C_handle_25 (by decide) ?_
    refine lv_icmp_lt (tgt := 41) hx hb d_C_handle_28 (by decide) (fun c_28 => ?_) (fun c_28 => ?_)
    · refine lv_aload_n hx hb d_C_handle_41 rfl (lv_at hl 0 rfl) ?_
      refine lv_dup hx hb d_C_handle_42 rfl ?_
      refine r_get (k := 0) (i := 0) F hS f_C_166.get h0 rfl d_C_handle_43 ?_
      refine lv_iconst (v := 1) hx hb d_C_handle_46 (by decide) ?_
      refine lv_iadd hx hb d_C_handle_47 ?_
      refine r_put (k := 0) (i := 0) F hS f_C_166 ct_C h0 rfl rfl (Nat.le_of_ble_eq_true rfl) d_C_handle_48 (fun H locs hS => ?_)
      have hS : HS G s (uV V 0 0 (a0, oC mo aE aK fA r0 r1 fb fl sh df dy qs (hs + 1) lv he)) H _ := hS
      refine lv_aload_n hx hb d_C_handle_51 rfl (lv_at hl 0 rfl) ?_
      refine lv_aload_n hx hb d_C_handle_52 rfl (lv_at hl 0 rfl) ?_
      refine r_get (k := 0) (i := 0) F hS f_C_166.get (uV_self _ _ _ _) rfl d_C_handle_53 ?_
      refine r_put (k := 0) (i := 0) F hS f_C_171 ct_C (uV_self _ _ _ _) rfl rfl (Nat.le_of_ble_eq_true rfl) d_C_handle_56 (fun H locs hS => ?_)
      have hS : HS G s (uV (uV V 0 0 (a0, oC mo aE aK fA r0 r1 fb fl sh df dy qs (hs + 1) lv he)) 0 0 (a0, oC mo aE aK fA r0 r1 fb fl sh df dy qs (hs + 1) (hs + 1) he)) H _ := hS
      refine lv_aload_n hx hb d_C_handle_59 rfl (lv_at hl 0 rfl) ?_
      refine lv_iload_n hx hb d_C_handle_60 rfl (lv_at hl 1 rfl) ?_
      refine r_put (k := 0) (i := 0) F hS f_C_174 ct_C (uV_self _ _ _ _) rfl rfl (Nat.le_of_ble_eq_true rfl) d_C_handle_61 (fun H locs hS => ?_)
      have hS : HS G s (uV (uV (uV V 0 0 (a0, oC mo aE aK fA r0 r1 fb fl sh df dy qs (hs + 1) lv he)) 0 0 (a0, oC mo aE aK fA r0 r1 fb fl sh df dy qs (hs + 1) (hs + 1) he)) 0 0 (a0, oC mo aE aK fA r0 r1 fb fl sh df dy qs (hs + 1) (hs + 1) (nI i))) H _ := hS
      refine lv_aload_n hx hb d_C_handle_64 rfl (lv_at hl 0 rfl) ?_
      refine r_get (k := 0) (i := 0) F hS f_C_166.get (uV_self _ _ _ _) rfl d_C_handle_65 ?_
      exact vx_ret (m_reti F hr hS (Nat.le_of_ble_eq_true rfl) (Nat.le_of_ble_eq_true rfl) ⟨i, hi, rfl, c_8, c_28, rfl, by rw [uV_uV, uV_uV]⟩ d_C_handle_68)
    · exact r_throw F hex hS tw_UnsupportedOperationException (List.mem_of_getElem? (i := 6) rfl) hl.1 d_C_handle_31 d_C_handle_34 d_C_handle_35 d_C_handle_37 d_C_handle_40 (Nat.le_of_ble_eq_true rfl) (Nat.le_of_ble_eq_true rfl) (Nat.le_of_ble_eq_true rfl) (Nat.le_of_ble_eq_true rfl) (Nat.le_of_ble_eq_true rfl) (Nat.le_of_ble_eq_true rfl) (⟨rfl, Or.inr ⟨i, hi, rfl, Or.inr ⟨rfl, c_8, Int32.not_lt.mp c_28⟩⟩⟩)
  · exact r_throw F hex hS tw_IllegalStateException (List.mem_of_getElem? (i := 5) rfl) hl.1 d_C_handle_11 d_C_handle_14 d_C_handle_15 d_C_handle_17 d_C_handle_20 (Nat.le_of_ble_eq_true rfl) (Nat.le_of_ble_eq_true rfl) (Nat.le_of_ble_eq_true rfl) (Nat.le_of_ble_eq_true rfl) (Nat.le_of_ble_eq_true rfl) (Nat.le_of_ble_eq_true rfl) (⟨rfl, Or.inr ⟨i, hi, rfl, Or.inl ⟨rfl, c_8⟩⟩⟩)
set_option maxHeartbeats 4000000 in
set_option maxRecDepth 100000 in
theorem k_C_by (G : Gl) (l : Launch) (htr : l.stackTraces = false) (V : Vw) (a0 aE aK fA r0 r1 fb fl sh df : Nat) (mo dy qs hs lv he : Int32) (ne : Nat) (ea oA cA : Nat → Nat) (ow ki ed md ak sk fk : Nat → Int32) (ln : Nat → Nat) (po cs : Nat → Nat → Int32) (hE : EV G V ne ea oA cA ow ki ed md ak sk fk ln po cs) (dE : Nat) (mcE : Int32) (hne : ne ≤ 24) (hLE : LV G V 0 aE dE ne ea mcE) (hok : ∀ i, i < ne → okCode (ln i) (po i) (cs i)) (s0 : Nat) (nx oc an st : Int32) (h9 : Nat) (f0 : Nat → Int32) (m0 : Nat) (hh : h9 ≤ 8) (hm9 : m0 ≤ 1000) (vA : Nat) (fa : Nat → Int32) (ff : Nat → Int32) (n : Int32) (hhe : ¬ lv = 0 → ∃ i : Nat, i < ne ∧ he = nI i) (hki : ∀ i, i < ne → ∃ k : Nat, k ≤ 2 ∧ ki i = nI k) (h0 : V 0 0 = some (a0, oC mo aE aK fA r0 r1 fb fl sh df dy qs hs lv he)) (h4 : V 4 0 = some (r0, oU s0 (nI m0) (nI h9) nx oc an st)) (h5 : V 5 0 = some (s0, aI G 8 f0)) (h6 : V 6 0 = some (fA, oF vA)) (h7 : V 7 0 = some (vA, aI G 8 fa)) (h10 : V 10 0 = some (fb, aI G 3 ff)) :
    Cx G l y_C_by b_C_by 3 (Option.some Jvm.ClassFile.FieldType.int) { frames := 8, cells := 2, slots := 12, locals := 132 } V [.ref a0, .int n] (fun rv V' => 1 ≤ n ∧ n ≤ hs ∧ n = lv ∧ ∃ i : Nat, i < ne ∧ he = nI i ∧ V' = (uR G V 0 r0 s0 (nI m0) (pRun (ln i) (po i) (cs i) fa (ak i) m0 0 0 0 0 f0).2.1 (pRun (ln i) (po i) (cs i) fa (ak i) m0 0 0 0 0 f0).2.2.1 (pRun (ln i) (po i) (cs i) fa (ak i) m0 0 0 0 0 f0).1 (pRun (ln i) (po i) (cs i) fa (ak i) m0 0 0 0 0 f0).2.2.2.1 (pRun (ln i) (po i) (cs i) fa (ak i) m0 0 0 0 0 f0).2.2.2.2.1 (pRun (ln i) (po i) (cs i) fa (ak i) m0 0 0 0 0 f0).2.2.2.2.2) ∧ rv = some (.int (if (pRun (ln i) (po i) (cs i) fa (ak i) m0 0 0 0 0 f0).1 = 6 then (pRun (ln i) (po i) (cs i) fa (ak i) m0 0 0 0 0 f0).2.2.2.1 else ff (ki i).toNatClampNeg))) (fun E V' => V' = V ∧ ((E = "java/lang/IllegalArgumentException" ∧ (n < 1 ∨ hs < n)) ∨ (E = "java/lang/IllegalStateException" ∧ 1 ≤ n ∧ n ≤ hs ∧ ¬ n = lv))) := by
  refine Cx.of htr (by decide) (Nat.le_of_ble_eq_true rfl) ?_
  intro p e s m args below meth c ls F hr hex hS hl
  obtain ⟨hx, hb, hml, hown, hts, hK, hlk, -⟩ := id F
  have hl : lv_has ls 3 [(0, .ref a0), (1, .int n)] := hl
  refine lv_iload_n hx hb d_C_by_0 rfl (lv_at hl 1 rfl) ?_
  refine lv_iconst (v := 1) hx hb d_C_by_1 (by decide) ?_
  refine lv_aload_n hx hb d_C_by_2 rfl (lv_at hl 0 rfl) ?_
  refine r_get (k := 0) (i := 0) F hS f_C_166.get h0 rfl d_C_by_3 ?_
  refine r_xcallS (As := [.int n, .int 1, .int hs]) (rest := []) F hS c_C_67 (k_C_requireRange G l htr V n 1 hs) rfl hl.1 rfl (Nat.le_of_ble_eq_true rfl) d_C_by_6 ⟨Nat.le_of_ble_eq_true rfl, Nat.le_of_ble_eq_true rfl⟩ ⟨Nat.le_of_ble_eq_true rfl, Nat.le_of_ble_eq_true rfl⟩ (fun q9 E9 ce V1 H locs hT hS hce => ?_) (fun rv V1 H locs hR hS => ?_)
  · obtain ⟨rfl, hV, hbad⟩ := hT
    rw [hV] at hS
    exact x_out F hex hS hce ⟨rfl, Or.inl ⟨rfl, hbad⟩⟩ (Nat.le_of_ble_eq_true rfl) (Nat.le_of_ble_eq_true rfl)
  obtain ⟨rfl, hV, hlo, hhi⟩ := hR
  rw [hV] at hS
  refine W.eq (g2 := F0 m 9 ls []) rfl ?_
  refine lv_iload_n hx hb d_C_by_9 rfl (lv_at hl 1 rfl) ?_
  refine lv_aload_n hx hb d_C_by_10 rfl (lv_at hl 0 rfl) ?_
  refine r_get (k := 0) (i := 0) F hS f_C_171.get h0 rfl d_C_by_11 ?_
  refine lv_icmp_eq (tgt := 27) hx hb d_C_by_14 (by decide) (fun c_14 => ?_) (fun c_14 => ?_)
  · refine lv_aload_n hx hb d_C_by_27 rfl (lv_at hl 0 rfl) ?_
    refine lv_aload_n hx hb d_C_by_28 rfl (lv_at hl 0 rfl) ?_
    refine r_get (k := 0) (i := 0) F hS f_C_174.get h0 rfl d_C_by_29 ?_
    refine r_xcallV (k := 0) (i := 0) (q := ("RuleClasses", T_C, 15)) (fs := [.int mo, .ref aE, .ref aK, .ref fA, .ref r0, .ref r1, .ref fb, .ref fl, .ref sh, .ref df, .int dy, .int qs, .int hs, .int lv, .int he]) (As := [.int he]) (rest := []) F hS c_C_97 (k_C_editionAt G l htr V a0 aE aK fA r0 r1 fb fl sh df mo dy qs hs lv he ne ea oA cA ow ki ed md ak sk fk ln po cs hE dE mcE hne hLE he h0) rfl h0 rfl hl.1 rfl (Nat.le_of_ble_eq_true rfl) d_C_by_32 ⟨Nat.le_of_ble_eq_true rfl, Nat.le_of_ble_eq_true rfl⟩ ⟨Nat.le_of_ble_eq_true rfl, Nat.le_of_ble_eq_true rfl⟩ (fun q9 E9 ce V1 H locs hT hS hce => ?_) (fun rv V1 H locs hR hS => ?_)
    · obtain ⟨rfl, hV, hbad⟩ := hT
      obtain ⟨i, hi, rfl⟩ := hhe (fun z => absurd hlo (by rw [c_14, z]; decide))
      rcases hbad with hbad | hbad
      · exact absurd hbad (nI_pos (by omega))
      · exact absurd hbad (nI_ge hi (by omega))
    obtain ⟨hV, i, hi, ehe, rfl⟩ := hR
    rw [hV] at hS
    refine W.eq (g2 := F0 m 35 ls [.ref (ea i)]) rfl ?_
    refine lv_astore_n (lv' := [(2, .ref (ea i)), (0, .ref a0), (1, .int n)]) hx hb d_C_by_35 rfl hl (by decide) rfl (fun ls hl => ?_)
    refine lv_aload_n hx hb d_C_by_36 rfl (lv_at hl 1 rfl) ?_
    refine r_get (k := 0) (i := 0) F hS f_C_57.get h0 rfl d_C_by_37 ?_
    refine lv_aload_n hx hb d_C_by_40 rfl (lv_at hl 0 rfl) ?_
    refine lv_aload_n hx hb d_C_by_41 rfl (lv_at hl 1 rfl) ?_
    refine r_get (k := 0) (i := 0) F hS f_C_22.get h0 rfl d_C_by_42 ?_
    refine r_callV (k := 4) (i := 0) (q := ("RuleClasses$Run", T_U, 7)) (fs := [.int (nI m0), .ref s0, .int (nI h9), .int nx, .int oc, .int an, .int st]) (As := [.ref (ea i), .ref fA]) (rest := []) F hS c_C_120 (k_U_start G l htr V 0 r0 s0 nx oc an st h9 f0 m0 hh hm9 i 0 (ea i) (oA i) (cA i) fA vA (ow i) (ki i) (ed i) (md i) (ak i) (sk i) (fk i) (ln i) (po i) (cs i) fa (hok i hi) h4 h5 (hE i hi).1 (hE i hi).2.1 (hE i hi).2.2 h6 h7) rfl h4 rfl hl.1 rfl (Nat.le_of_ble_eq_true rfl) d_C_by_45 ⟨Nat.le_of_ble_eq_true rfl, Nat.le_of_ble_eq_true rfl⟩ ⟨Nat.le_of_ble_eq_true rfl, Nat.le_of_ble_eq_true rfl⟩ (fun rv V1 H locs hR hS => ?_)
    obtain ⟨rfl, rfl⟩ := hR
    refine W.eq (g2 := F0 m 48 ls []) rfl ?_
    refine lv_aload_n hx hb d_C_by_48 rfl (lv_at hl 1 rfl) ?_
    refine r_get (k := 0) (i := 0) F hS f_C_57.get ((uR_o (by decide) (by decide)).trans h0) rfl d_C_by_49 ?_
    refine r_get (k := 4) (i := 0) F hS f_C_124.get uR_4 rfl d_C_by_52 ?_
    refine lv_bipush (v := 6) hx hb d_C_by_55 (by decide) ?_
    refine lv_icmp_ne (tgt := 70) hx hb d_C_by_57 (by decide) (fun c_57 => ?_) (fun c_57 => ?_)
    · refine lv_aload_n hx hb d_C_by_70 rfl (lv_at hl 1 rfl) ?_
      refine r_get (k := 0) (i := 0) F hS f_C_26.get ((uR_o (by decide) (by decide)).trans h0) rfl d_C_by_71 ?_
      refine lv_aload_n hx hb d_C_by_74 rfl (lv_at hl 0 rfl) ?_
      refine r_get (k := 1) (i := i) F hS f_C_179 ((uR_o (by decide) (by decide)).trans (hE i hi).1) rfl d_C_by_75 ?_
      refine r_iald (k := 10) (i := 0) F hS ((uR_o (by decide) (by decide)).trans h10) (by obtain ⟨k9, hk9, e9⟩ := hki i hi; rw [e9]; exact vp_in_nI (by omega) (by decide)) d_C_by_78 ?_
      exact vx_ret (m_reti F hr hS (Nat.le_of_ble_eq_true rfl) (Nat.le_of_ble_eq_true rfl) ⟨hlo, hhi, c_14, i, hi, ehe, rfl, by rw [if_neg c_57]⟩ d_C_by_79)
    · refine lv_aload_n hx hb d_C_by_60 rfl (lv_at hl 1 rfl) ?_
      refine r_get (k := 0) (i := 0) F hS f_C_57.get ((uR_o (by decide) (by decide)).trans h0) rfl d_C_by_61 ?_
      refine r_get (k := 4) (i := 0) F hS f_C_158.get uR_4 rfl d_C_by_64 ?_
      refine lv_goto (tgt := 79) hx hb d_C_by_67 (by decide) ?_
      exact vx_ret (m_reti F hr hS (Nat.le_of_ble_eq_true rfl) (Nat.le_of_ble_eq_true rfl) ⟨hlo, hhi, c_14, i, hi, ehe, rfl, by rw [if_pos c_57]⟩ d_C_by_79)
  · exact r_throw F hex hS tw_IllegalStateException (List.mem_of_getElem? (i := 7) rfl) hl.1 d_C_by_17 d_C_by_20 d_C_by_21 d_C_by_23 d_C_by_26 (Nat.le_of_ble_eq_true rfl) (Nat.le_of_ble_eq_true rfl) (Nat.le_of_ble_eq_true rfl) (Nat.le_of_ble_eq_true rfl) (Nat.le_of_ble_eq_true rfl) (Nat.le_of_ble_eq_true rfl) (⟨rfl, Or.inr ⟨rfl, hlo, hhi, c_14⟩⟩)
set_option maxHeartbeats 4000000 in
set_option maxRecDepth 100000 in
theorem k_C_shadow (G : Gl) (l : Launch) (htr : l.stackTraces = false) (V : Vw) (a0 aE aK fA r0 r1 fb fl sh df : Nat) (mo dy qs hs lv he : Int32) (ne : Nat) (ea oA cA : Nat → Nat) (ow ki ed md ak sk fk : Nat → Int32) (ln : Nat → Nat) (po cs : Nat → Nat → Int32) (hE : EV G V ne ea oA cA ow ki ed md ak sk fk ln po cs) (dE : Nat) (mcE : Int32) (hne : ne ≤ 24) (hLE : LV G V 0 aE dE ne ea mcE) (ss ds : Nat → Int32) (o k n : Int32) (h0 : V 0 0 = some (a0, oC mo aE aK fA r0 r1 fb fl sh df dy qs hs lv he)) (h12 : V 12 0 = some (sh, aI G 18 ss)) (h13 : V 13 0 = some (df, aI G 18 ds)) :
    Cx G l y_C_shadow b_C_shadow 4 none { frames := 8, cells := 3, slots := 18, locals := 133 } V [.ref a0, .int o, .int k, .int n] (fun rv V' => rv = none ∧ (n = -1 ∨ (∃ i : Nat, i < ne ∧ n = nI i)) ∧ ∃ on kn : Nat, on ≤ 5 ∧ kn ≤ 2 ∧ o = nI on ∧ k = nI kn ∧ V' = uV (uV V 12 0 (sh, aI G 18 (upd ss (on * 3 + kn) n))) 13 0 (df, aI G 18 (upd ds (on * 3 + kn) 0))) (fun E V' => V' = V ∧ ((E = "java/util/NoSuchElementException" ∧ ¬ n = -1 ∧ (n < 0 ∨ nI ne ≤ n)) ∨ (E = "java/lang/IllegalArgumentException" ∧ (n = -1 ∨ (∃ i : Nat, i < ne ∧ n = nI i)) ∧ ((o < 0 ∨ 5 < o) ∨ (k < 0 ∨ 2 < k))))) := by
  refine Cx.of htr (by decide) (Nat.le_of_ble_eq_true rfl) ?_
  intro p e s m args below meth c ls F hr hex hS hl
  obtain ⟨hx, hb, hml, hown, hts, hK, hlk, -⟩ := id F
  have hl : lv_has ls 4 [(0, .ref a0), (1, .int o), (2, .int k), (3, .int n)] := hl
  refine lv_iload_n hx hb d_C_shadow_0 rfl (lv_at hl 3 rfl) ?_
  refine lv_iconst (v := (-1)) hx hb d_C_shadow_1 (by decide) ?_
  refine lv_icmp_eq (tgt := 10) hx hb d_C_shadow_2 (by decide) (fun c_2 => ?_) (fun c_2 => ?_)
  · refine lv_iload_n hx hb d_C_shadow_10 rfl (lv_at hl 1 rfl) ?_
    refine lv_iload_n hx hb d_C_shadow_11 rfl (lv_at hl 2 rfl) ?_
    refine r_xcallS (As := [.int o, .int k]) (rest := []) F hS c_C_74 (k_C_requireOwnerAndKind G l htr V o k) rfl hl.1 rfl (Nat.le_of_ble_eq_true rfl) d_C_shadow_12 ⟨Nat.le_of_ble_eq_true rfl, Nat.le_of_ble_eq_true rfl⟩ ⟨Nat.le_of_ble_eq_true rfl, Nat.le_of_ble_eq_true rfl⟩ (fun q9 E9 ce V1 H locs hT hS hce => ?_) (fun rv V1 H locs hR hS => ?_)
    · obtain ⟨rfl, hV, hbad⟩ := hT
      rw [hV] at hS
      exact x_out F hex hS hce ⟨rfl, Or.inr ⟨rfl, (Or.inl c_2), hbad⟩⟩ (Nat.le_of_ble_eq_true rfl) (Nat.le_of_ble_eq_true rfl)
    obtain ⟨rfl, hV, on, kn, hon, hkn, rfl, rfl⟩ := hR
    rw [hV] at hS
    refine W.eq (g2 := F0 m 15 ls []) rfl ?_
    refine lv_aload_n hx hb d_C_shadow_15 rfl (lv_at hl 0 rfl) ?_
    refine r_get (k := 0) (i := 0) F hS f_C_33.get h0 rfl d_C_shadow_16 ?_
    refine lv_iload_n hx hb d_C_shadow_19 rfl (lv_at hl 1 rfl) ?_
    refine lv_iload_n hx hb d_C_shadow_20 rfl (lv_at hl 2 rfl) ?_
    refine r_callS (As := [.int (nI on), .int (nI kn)]) (rest := [.ref sh]) F hS c_C_148 (k_C_place G l htr V on kn) rfl hl.1 rfl (Nat.le_of_ble_eq_true rfl) d_C_shadow_21 ⟨Nat.le_of_ble_eq_true rfl, Nat.le_of_ble_eq_true rfl⟩ ⟨Nat.le_of_ble_eq_true rfl, Nat.le_of_ble_eq_true rfl⟩ (fun rv V1 H locs hR hS => ?_)
    obtain ⟨rfl, hV⟩ := hR
    rw [hV] at hS
    refine W.eq (g2 := F0 m 24 ls [.int (nI (on * 3 + kn)), .ref sh]) rfl ?_
    refine lv_iload_n hx hb d_C_shadow_24 rfl (lv_at hl 3 rfl) ?_
    refine r_iast (k := 12) (i := 0) F hS h12 (vp_in_nI (by omega) (by decide)) d_C_shadow_25 (fun H locs hS => ?_)
    rw [nI_clamp (by omega)] at hS
    have hS : HS G s (uV V 12 0 (sh, aI G 18 (upd ss (on * 3 + kn) n))) H _ := hS
    refine lv_aload_n hx hb d_C_shadow_26 rfl (lv_at hl 0 rfl) ?_
    refine r_get (k := 0) (i := 0) F hS f_C_36.get h0 rfl d_C_shadow_27 ?_
    refine lv_iload_n hx hb d_C_shadow_30 rfl (lv_at hl 1 rfl) ?_
    refine lv_iload_n hx hb d_C_shadow_31 rfl (lv_at hl 2 rfl) ?_
    refine r_callS (As := [.int (nI on), .int (nI kn)]) (rest := [.ref df]) F hS c_C_148 (k_C_place G l htr (uV V 12 0 (sh, aI G 18 (upd ss (on * 3 + kn) n))) on kn) rfl hl.1 rfl (Nat.le_of_ble_eq_true rfl) d_C_shadow_32 ⟨Nat.le_of_ble_eq_true rfl, Nat.le_of_ble_eq_true rfl⟩ ⟨Nat.le_of_ble_eq_true rfl, Nat.le_of_ble_eq_true rfl⟩ (fun rv V1 H locs hR hS => ?_)
    obtain ⟨rfl, hV⟩ := hR
    rw [hV] at hS
    refine W.eq (g2 := F0 m 35 ls [.int (nI (on * 3 + kn)), .ref df]) rfl ?_
    refine lv_iconst (v := 0) hx hb d_C_shadow_35 (by decide) ?_
    refine r_iast (k := 13) (i := 0) F hS h13 (vp_in_nI (by omega) (by decide)) d_C_shadow_36 (fun H locs hS => ?_)
    rw [nI_clamp (by omega)] at hS
    have hS : HS G s (uV (uV V 12 0 (sh, aI G 18 (upd ss (on * 3 + kn) n))) 13 0 (df, aI G 18 (upd ds (on * 3 + kn) 0))) H _ := hS
    exact vx_ret (m_retv F hr hS (Nat.le_of_ble_eq_true rfl) (Nat.le_of_ble_eq_true rfl) ⟨rfl, (Or.inl c_2), on, kn, hon, hkn, rfl, rfl, rfl⟩ d_C_shadow_37)
  · refine lv_aload_n hx hb d_C_shadow_5 rfl (lv_at hl 0 rfl) ?_
    refine lv_iload_n hx hb d_C_shadow_6 rfl (lv_at hl 3 rfl) ?_
    refine r_xcallV (k := 0) (i := 0) (q := ("RuleClasses", T_C, 15)) (fs := [.int mo, .ref aE, .ref aK, .ref fA, .ref r0, .ref r1, .ref fb, .ref fl, .ref sh, .ref df, .int dy, .int qs, .int hs, .int lv, .int he]) (As := [.int n]) (rest := []) F hS c_C_196 (k_C_requireEdition G l htr V a0 aE aK fA r0 r1 fb fl sh df mo dy qs hs lv he dE ne ea mcE n hne hLE h0) rfl h0 rfl hl.1 rfl (Nat.le_of_ble_eq_true rfl) d_C_shadow_7 ⟨Nat.le_of_ble_eq_true rfl, Nat.le_of_ble_eq_true rfl⟩ ⟨Nat.le_of_ble_eq_true rfl, Nat.le_of_ble_eq_true rfl⟩ (fun q9 E9 ce V1 H locs hT hS hce => ?_) (fun rv V1 H locs hR hS => ?_)
    · obtain ⟨rfl, hV, hbad⟩ := hT
      rw [hV] at hS
      exact x_out F hex hS hce ⟨rfl, Or.inl ⟨rfl, c_2, hbad⟩⟩ (Nat.le_of_ble_eq_true rfl) (Nat.le_of_ble_eq_true rfl)
    obtain ⟨rfl, hV, i, hi, rfl⟩ := hR
    rw [hV] at hS
    refine W.eq (g2 := F0 m 10 ls []) rfl ?_
    refine lv_iload_n hx hb d_C_shadow_10 rfl (lv_at hl 1 rfl) ?_
    refine lv_iload_n hx hb d_C_shadow_11 rfl (lv_at hl 2 rfl) ?_
    refine r_xcallS (As := [.int o, .int k]) (rest := []) F hS c_C_74 (k_C_requireOwnerAndKind G l htr V o k) rfl hl.1 rfl (Nat.le_of_ble_eq_true rfl) d_C_shadow_12 ⟨Nat.le_of_ble_eq_true rfl, Nat.le_of_ble_eq_true rfl⟩ ⟨Nat.le_of_ble_eq_true rfl, Nat.le_of_ble_eq_true rfl⟩ (fun q9 E9 ce V1 H locs hT hS hce => ?_) (fun rv V1 H locs hR hS => ?_)
    · obtain ⟨rfl, hV, hbad⟩ := hT
      rw [hV] at hS
      exact x_out F hex hS hce ⟨rfl, Or.inr ⟨rfl, (Or.inr ⟨i, hi, rfl⟩), hbad⟩⟩ (Nat.le_of_ble_eq_true rfl) (Nat.le_of_ble_eq_true rfl)
    obtain ⟨rfl, hV, on, kn, hon, hkn, rfl, rfl⟩ := hR
    rw [hV] at hS
    refine W.eq (g2 := F0 m 15 ls []) rfl ?_
    refine lv_aload_n hx hb d_C_shadow_15 rfl (lv_at hl 0 rfl) ?_
    refine r_get (k := 0) (i := 0) F hS f_C_33.get h0 rfl d_C_shadow_16 ?_
    refine lv_iload_n hx hb d_C_shadow_19 rfl (lv_at hl 1 rfl) ?_
    refine lv_iload_n hx hb d_C_shadow_20 rfl (lv_at hl 2 rfl) ?_
    refine r_callS (As := [.int (nI on), .int (nI kn)]) (rest := [.ref sh]) F hS c_C_148 (k_C_place G l htr V on kn) rfl hl.1 rfl (Nat.le_of_ble_eq_true rfl) d_C_shadow_21 ⟨Nat.le_of_ble_eq_true rfl, Nat.le_of_ble_eq_true rfl⟩ ⟨Nat.le_of_ble_eq_true rfl, Nat.le_of_ble_eq_true rfl⟩ (fun rv V1 H locs hR hS => ?_)
    obtain ⟨rfl, hV⟩ := hR
    rw [hV] at hS
    refine W.eq (g2 := F0 m 24 ls [.int (nI (on * 3 + kn)), .ref sh]) rfl ?_
    refine lv_iload_n hx hb d_C_shadow_24 rfl (lv_at hl 3 rfl) ?_
    refine r_iast (k := 12) (i := 0) F hS h12 (vp_in_nI (by omega) (by decide)) d_C_shadow_25 (fun H locs hS => ?_)
    rw [nI_clamp (by omega)] at hS
    have hS : HS G s (uV V 12 0 (sh, aI G 18 (upd ss (on * 3 + kn) (nI i)))) H _ := hS
    refine lv_aload_n hx hb d_C_shadow_26 rfl (lv_at hl 0 rfl) ?_
    refine r_get (k := 0) (i := 0) F hS f_C_36.get h0 rfl d_C_shadow_27 ?_
    refine lv_iload_n hx hb d_C_shadow_30 rfl (lv_at hl 1 rfl) ?_
    refine lv_iload_n hx hb d_C_shadow_31 rfl (lv_at hl 2 rfl) ?_
    refine r_callS (As := [.int (nI on), .int (nI kn)]) (rest := [.ref df]) F hS c_C_148 (k_C_place G l htr (uV V 12 0 (sh, aI G 18 (upd ss (on * 3 + kn) (nI i)))) on kn) rfl hl.1 rfl (Nat.le_of_ble_eq_true rfl) d_C_shadow_32 ⟨Nat.le_of_ble_eq_true rfl, Nat.le_of_ble_eq_true rfl⟩ ⟨Nat.le_of_ble_eq_true rfl, Nat.le_of_ble_eq_true rfl⟩ (fun rv V1 H locs hR hS => ?_)
    obtain ⟨rfl, hV⟩ := hR
    rw [hV] at hS
    refine W.eq (g2 := F0 m 35 ls [.int (nI (on * 3 + kn)), .ref df]) rfl ?_
    refine lv_iconst (v := 0) hx hb d_C_shadow_35 (by decide) ?_
    refine r_iast (k := 13) (i := 0) F hS h13 (vp_in_nI (by omega) (by decide)) d_C_shadow_36 (fun H locs hS => ?_)
    rw [nI_clamp (by omega)] at hS
    have hS : HS G s (uV (uV V 12 0 (sh, aI G 18 (upd ss (on * 3 + kn) (nI i)))) 13 0 (df, aI G 18 (upd ds (on * 3 + kn) 0))) H _ := hS
    exact vx_ret (m_retv F hr hS (Nat.le_of_ble_eq_true rfl) (Nat.le_of_ble_eq_true rfl) ⟨rfl, (Or.inr ⟨i, hi, rfl⟩), on, kn, hon, hkn, rfl, rfl, rfl⟩ d_C_shadow_37)

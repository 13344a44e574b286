set_option maxHeartbeats 4000000 in
set_option maxRecDepth 100000 in
theorem k_M_within (G : Gl) (l : Launch) (htr : l.stackTraces = false) (V : Vw) (x a b : Int32)  :
    Cm G l y_M_within b_M_within 3 (Option.some Jvm.ClassFile.FieldType.boolean) { frames := 0, cells := 0, slots := 0, locals := 0 } V [.int x, .int a, .int b] (fun rv V' => V' = V ∧ ∃ z : Int32, rv = some (.int z) ∧ bv z (a ≤ x ∧ x ≤ b)) := by
  refine Cm.of htr (by decide) (Nat.le_of_ble_eq_true rfl) ?_
  intro p e s m args below meth c ls F hr hnm hS hl
  obtain ⟨hx, hb, hml, hown, hts, hK, hlk, -⟩ := id F
  have hl : lv_has ls 3 [(0, .int x), (1, .int a), (2, .int b)] := hl
  refine lv_iload_n hx hb d_M_within_0 rfl (lv_at hl 0 rfl) ?_
  refine lv_iload_n hx hb d_M_within_1 rfl (lv_at hl 1 rfl) ?_
  refine lv_icmp_lt (tgt := 14) hx hb d_M_within_2 (by decide) (fun c_2 => ?_) (fun c_2 => ?_)
  · refine lv_iconst (v := 0) hx hb d_M_within_14 (by decide) ?_
    exact m_retz F hr hS (Nat.le_of_ble_eq_true rfl) (Nat.le_of_ble_eq_true rfl) rfl ⟨rfl, _, rfl, Or.inr ⟨rfl, fun z => absurd c_2 (Int32.not_lt.mpr z.1)⟩⟩ d_M_within_15
  · refine lv_iload_n hx hb d_M_within_5 rfl (lv_at hl 0 rfl) ?_
    refine lv_iload_n hx hb d_M_within_6 rfl (lv_at hl 2 rfl) ?_
    refine lv_icmp_gt (tgt := 14) hx hb d_M_within_7 (by decide) (fun c_7 => ?_) (fun c_7 => ?_)
    · refine lv_iconst (v := 0) hx hb d_M_within_14 (by decide) ?_
      exact m_retz F hr hS (Nat.le_of_ble_eq_true rfl) (Nat.le_of_ble_eq_true rfl) rfl ⟨rfl, _, rfl, Or.inr ⟨rfl, fun z => absurd c_7 (Int32.not_lt.mpr z.2)⟩⟩ d_M_within_15
    · refine lv_iconst (v := 1) hx hb d_M_within_10 (by decide) ?_
      refine lv_goto (tgt := 15) hx hb d_M_within_11 (by decide) ?_
      exact m_retz F hr hS (Nat.le_of_ble_eq_true rfl) (Nat.le_of_ble_eq_true rfl) rfl ⟨rfl, _, rfl, Or.inl ⟨rfl, Int32.not_lt.mp c_2, Int32.not_lt.mp c_7⟩⟩ d_M_within_15
set_option maxHeartbeats 4000000 in
set_option maxRecDepth 100000 in
theorem k_M_isEdition (G : Gl) (l : Launch) (htr : l.stackTraces = false) (V : Vw) (a1 : Nat) (A : Nat → Nat) (m0 ne nk : Nat) (dy th qs hs hd : Int32) (pu st nx : Int32) (an : Int64) (hne : ne ≤ 24) (n : Int32) (h20 : V 20 0 = some (a1, oM A (nI m0) (nI ne) dy th qs (nI nk) hs hd pu st nx an)) :
    Cm G l y_M_isEdition b_M_isEdition 2 (Option.some Jvm.ClassFile.FieldType.boolean) { frames := 1, cells := 0, slots := 0, locals := 22 } V [.ref a1, .int n] (fun rv V' => V' = V ∧ ∃ z : Int32, rv = some (.int z) ∧ bv z (∃ i : Nat, i < ne ∧ n = nI i)) := by
  refine Cm.of htr (by decide) (Nat.le_of_ble_eq_true rfl) ?_
  intro p e s m args below meth c ls F hr hnm hS hl
  obtain ⟨hx, hb, hml, hown, hts, hK, hlk, -⟩ := id F
  have hl : lv_has ls 2 [(0, .ref a1), (1, .int n)] := hl
  refine lv_iload_n hx hb d_M_isEdition_0 rfl (lv_at hl 1 rfl) ?_
  refine lv_iconst (v := 0) hx hb d_M_isEdition_1 (by decide) ?_
  refine lv_aload_n hx hb d_M_isEdition_2 rfl (lv_at hl 0 rfl) ?_
  refine r_get (k := 20) (i := 0) F hS f_M_76.get h20 rfl d_M_isEdition_3 ?_
  refine lv_iconst (v := 1) hx hb d_M_isEdition_6 (by decide) ?_
  refine lv_isub hx hb d_M_isEdition_7 ?_
  refine r_callS (As := [.int n, .int 0, .int ((nI ne) - 1)]) (rest := []) F hS c_M_79 (k_M_within G l htr V n 0 ((nI ne) - 1)) rfl hl.1 rfl (Nat.le_of_ble_eq_true rfl) d_M_isEdition_8 ⟨Nat.le_of_ble_eq_true rfl, Nat.le_of_ble_eq_true rfl⟩ ⟨Nat.le_of_ble_eq_true rfl, Nat.le_of_ble_eq_true rfl⟩ (fun rv V1 H locs hR hS => ?_)
  obtain ⟨hV, bz_8, rfl, hz_8⟩ := hR
  rw [hV] at hS
  refine W.eq (g2 := F0 m 11 ls [.int bz_8]) rfl ?_
  exact m_retz F hr hS (Nat.le_of_ble_eq_true rfl) (Nat.le_of_ble_eq_true rfl) hz_8.nar ⟨rfl, _, rfl, hz_8.iff (ed_iff hne)⟩ d_M_isEdition_11
set_option maxHeartbeats 4000000 in
set_option maxRecDepth 100000 in
theorem k_M_isPlace (G : Gl) (l : Launch) (htr : l.stackTraces = false) (V : Vw) (o k : Int32)  :
    Cm G l y_M_isPlace b_M_isPlace 2 (Option.some Jvm.ClassFile.FieldType.boolean) { frames := 1, cells := 0, slots := 0, locals := 22 } V [.int o, .int k] (fun rv V' => V' = V ∧ ∃ z : Int32, rv = some (.int z) ∧ bv z (∃ on kn : Nat, on ≤ 5 ∧ kn ≤ 2 ∧ o = nI on ∧ k = nI kn)) := by
  refine Cm.of htr (by decide) (Nat.le_of_ble_eq_true rfl) ?_
  intro p e s m args below meth c ls F hr hnm hS hl
  obtain ⟨hx, hb, hml, hown, hts, hK, hlk, -⟩ := id F
  have hl : lv_has ls 2 [(0, .int o), (1, .int k)] := hl
  refine lv_iload_n hx hb d_M_isPlace_0 rfl (lv_at hl 0 rfl) ?_
  refine lv_iconst (v := 0) hx hb d_M_isPlace_1 (by decide) ?_
  refine lv_iconst (v := 5) hx hb d_M_isPlace_2 (by decide) ?_
  refine r_callS (As := [.int o, .int 0, .int 5]) (rest := []) F hS c_M_79 (k_M_within G l htr V o 0 5) rfl hl.1 rfl (Nat.le_of_ble_eq_true rfl) d_M_isPlace_3 ⟨Nat.le_of_ble_eq_true rfl, Nat.le_of_ble_eq_true rfl⟩ ⟨Nat.le_of_ble_eq_true rfl, Nat.le_of_ble_eq_true rfl⟩ (fun rv V1 H locs hR hS => ?_)
  obtain ⟨hV, bz_3, rfl, hz_3⟩ := hR
  rw [hV] at hS
  refine W.eq (g2 := F0 m 6 ls [.int bz_3]) rfl ?_
  refine lv_if_eq (tgt := 22) hx hb d_M_isPlace_6 (by decide) (fun c_6 => ?_) (fun c_6 => ?_)
  · refine lv_iconst (v := 0) hx hb d_M_isPlace_22 (by decide) ?_
    exact m_retz F hr hS (Nat.le_of_ble_eq_true rfl) (Nat.le_of_ble_eq_true rfl) rfl ⟨rfl, _, rfl, Or.inr ⟨rfl, fun z => hz_3.f c_6 (pl_iff.mpr z).1⟩⟩ d_M_isPlace_23
  · refine lv_iload_n hx hb d_M_isPlace_9 rfl (lv_at hl 1 rfl) ?_
    refine lv_iconst (v := 0) hx hb d_M_isPlace_10 (by decide) ?_
    refine lv_iconst (v := 2) hx hb d_M_isPlace_11 (by decide) ?_
    refine r_callS (As := [.int k, .int 0, .int 2]) (rest := []) F hS c_M_79 (k_M_within G l htr V k 0 2) rfl hl.1 rfl (Nat.le_of_ble_eq_true rfl) d_M_isPlace_12 ⟨Nat.le_of_ble_eq_true rfl, Nat.le_of_ble_eq_true rfl⟩ ⟨Nat.le_of_ble_eq_true rfl, Nat.le_of_ble_eq_true rfl⟩ (fun rv V1 H locs hR hS => ?_)
    obtain ⟨hV, bz_12, rfl, hz_12⟩ := hR
    rw [hV] at hS
    refine W.eq (g2 := F0 m 15 ls [.int bz_12]) rfl ?_
    refine lv_if_eq (tgt := 22) hx hb d_M_isPlace_15 (by decide) (fun c_15 => ?_) (fun c_15 => ?_)
    · refine lv_iconst (v := 0) hx hb d_M_isPlace_22 (by decide) ?_
      exact m_retz F hr hS (Nat.le_of_ble_eq_true rfl) (Nat.le_of_ble_eq_true rfl) rfl ⟨rfl, _, rfl, Or.inr ⟨rfl, fun z => hz_12.f c_15 (pl_iff.mpr z).2⟩⟩ d_M_isPlace_23
    · refine lv_iconst (v := 1) hx hb d_M_isPlace_18 (by decide) ?_
      refine lv_goto (tgt := 23) hx hb d_M_isPlace_19 (by decide) ?_
      exact m_retz F hr hS (Nat.le_of_ble_eq_true rfl) (Nat.le_of_ble_eq_true rfl) rfl ⟨rfl, _, rfl, Or.inl ⟨rfl, pl_iff.mp ⟨hz_3.t c_6, hz_12.t c_15⟩⟩⟩ d_M_isPlace_23
set_option maxHeartbeats 4000000 in
set_option maxRecDepth 100000 in
theorem k_M_today (G : Gl) (l : Launch) (htr : l.stackTraces = false) (V : Vw) (a1 : Nat) (A : Nat → Nat) (m0 ne nk : Nat) (dy th qs hs hd : Int32) (mow mki med mmd mak msk mfk mmn mpo mcs fa mkf ff fs mss mot : Nat → Int32) (hne : ne ≤ 24) (hW : MW G V a1 A (nI m0) (nI ne) dy th qs (nI nk) hs hd mow mki med mmd mak msk mfk mmn mpo mcs fa mkf ff fs mss mot) (d : Int32)  :
    Cm G l y_M_today b_M_today 2 none { frames := 1, cells := 0, slots := 0, locals := 22 } V [.ref a1, .int d] (fun rv V' => rv = none ∧ ((((0 ≤ d ∧ d ≤ 1000) ∧ dy ≤ d) ∧ MW G V' a1 A (nI m0) (nI ne) d 0 qs (nI nk) hs (-1) mow mki med mmd mak msk mfk mmn mpo mcs fa mkf ff fs mss mot ∧ INN V V') ∨ (¬ ((0 ≤ d ∧ d ≤ 1000) ∧ dy ≤ d) ∧ MW G V' a1 A (nI m0) (nI ne) dy 1 qs (nI nk) hs hd mow mki med mmd mak msk mfk mmn mpo mcs fa mkf ff fs mss mot ∧ INN V V'))) := by
  refine Cm.of htr (by decide) (Nat.le_of_ble_eq_true rfl) ?_
  intro p e s m args below meth c ls F hr hnm hS hl
  obtain ⟨hx, hb, hml, hown, hts, hK, hlk, -⟩ := id F
  have hl : lv_has ls 2 [(0, .ref a1), (1, .int d)] := hl
  obtain ⟨pu, st, nx, an, g, gv, h20, h21, h22, h23, h24, h25, h26, h27, h28, h29, h30, h31, h32, h33, h34, h35, h36, h37, h38⟩ := hW
  refine lv_aload_n hx hb d_M_today_0 rfl (lv_at hl 0 rfl) ?_
  refine lv_iload_n hx hb d_M_today_1 rfl (lv_at hl 1 rfl) ?_
  refine lv_iconst (v := 0) hx hb d_M_today_2 (by decide) ?_
  refine lv_sipush (v := 1000) hx hb d_M_today_3 (by decide) ?_
  refine r_callS (As := [.int d, .int 0, .int 1000]) (rest := [.ref a1]) F hS c_M_79 (k_M_within G l htr V d 0 1000) rfl hl.1 rfl (Nat.le_of_ble_eq_true rfl) d_M_today_6 ⟨Nat.le_of_ble_eq_true rfl, Nat.le_of_ble_eq_true rfl⟩ ⟨Nat.le_of_ble_eq_true rfl, Nat.le_of_ble_eq_true rfl⟩ (fun rv V1 H locs hR hS => ?_)
  obtain ⟨hV, bz_6, rfl, hz_6⟩ := hR
  rw [hV] at hS
  refine W.eq (g2 := F0 m 9 ls [.int bz_6, .ref a1]) rfl ?_
  refine lv_if_eq (tgt := 24) hx hb d_M_today_9 (by decide) (fun c_9 => ?_) (fun c_9 => ?_)
  · refine lv_iconst (v := 1) hx hb d_M_today_24 (by decide) ?_
    refine r_put (k := 20) (i := 0) F hS f_M_73 ct_M h20 rfl rfl (Nat.le_of_ble_eq_true rfl) d_M_today_25 (fun H locs hS => ?_)
    have hS : HS G s (uV V 20 0 (a1, oM A (nI m0) (nI ne) dy 1 qs (nI nk) hs hd pu st nx an)) H _ := hS
    refine lv_aload_n hx hb d_M_today_28 rfl (lv_at hl 0 rfl) ?_
    refine r_get (k := 20) (i := 0) F hS f_M_73.get (uV_self V 20 0 (a1, oM A (nI m0) (nI ne) dy 1 qs (nI nk) hs hd pu st nx an)) rfl d_M_today_29 ?_
    refine lv_if_eq (tgt := 36) hx hb d_M_today_32 (by decide) (fun z => absurd z (by decide)) (fun _ => ?_)
    exact m_retv F hr hS (Nat.le_of_ble_eq_true rfl) (Nat.le_of_ble_eq_true rfl) ⟨rfl, Or.inr ⟨fun z => hz_6.f c_9 z.1, ⟨pu, st, nx, an, g, gv, rfl, h21, h22, h23, h24, h25, h26, h27, h28, h29, h30, h31, h32, h33, h34, h35, h36, h37, h38⟩, (by repeat' first | exact INN.rf | refine INN.u ?_ (by decide) (by decide))⟩⟩ d_M_today_35
  · refine lv_iload_n hx hb d_M_today_12 rfl (lv_at hl 1 rfl) ?_
    refine lv_aload_n hx hb d_M_today_13 rfl (lv_at hl 0 rfl) ?_
    refine r_get (k := 20) (i := 0) F hS f_M_83.get h20 rfl d_M_today_14 ?_
    refine lv_icmp_lt (tgt := 24) hx hb d_M_today_17 (by decide) (fun c_17 => ?_) (fun c_17 => ?_)
    · refine lv_iconst (v := 1) hx hb d_M_today_24 (by decide) ?_
      refine r_put (k := 20) (i := 0) F hS f_M_73 ct_M h20 rfl rfl (Nat.le_of_ble_eq_true rfl) d_M_today_25 (fun H locs hS => ?_)
      have hS : HS G s (uV V 20 0 (a1, oM A (nI m0) (nI ne) dy 1 qs (nI nk) hs hd pu st nx an)) H _ := hS
      refine lv_aload_n hx hb d_M_today_28 rfl (lv_at hl 0 rfl) ?_
      refine r_get (k := 20) (i := 0) F hS f_M_73.get (uV_self V 20 0 (a1, oM A (nI m0) (nI ne) dy 1 qs (nI nk) hs hd pu st nx an)) rfl d_M_today_29 ?_
      refine lv_if_eq (tgt := 36) hx hb d_M_today_32 (by decide) (fun z => absurd z (by decide)) (fun _ => ?_)
      exact m_retv F hr hS (Nat.le_of_ble_eq_true rfl) (Nat.le_of_ble_eq_true rfl) ⟨rfl, Or.inr ⟨fun z => absurd c_17 (Int32.not_lt.mpr z.2), ⟨pu, st, nx, an, g, gv, rfl, h21, h22, h23, h24, h25, h26, h27, h28, h29, h30, h31, h32, h33, h34, h35, h36, h37, h38⟩, (by repeat' first | exact INN.rf | refine INN.u ?_ (by decide) (by decide))⟩⟩ d_M_today_35
    · refine lv_iconst (v := 0) hx hb d_M_today_20 (by decide) ?_
      refine lv_goto (tgt := 25) hx hb d_M_today_21 (by decide) ?_
      refine r_put (k := 20) (i := 0) F hS f_M_73 ct_M h20 rfl rfl (Nat.le_of_ble_eq_true rfl) d_M_today_25 (fun H locs hS => ?_)
      have hS : HS G s (uV V 20 0 (a1, oM A (nI m0) (nI ne) dy 0 qs (nI nk) hs hd pu st nx an)) H _ := hS
      refine lv_aload_n hx hb d_M_today_28 rfl (lv_at hl 0 rfl) ?_
      refine r_get (k := 20) (i := 0) F hS f_M_73.get (uV_self V 20 0 (a1, oM A (nI m0) (nI ne) dy 0 qs (nI nk) hs hd pu st nx an)) rfl d_M_today_29 ?_
      refine lv_if_eq (tgt := 36) hx hb d_M_today_32 (by decide) (fun _ => ?_) (fun z => absurd z (by decide))
      refine lv_aload_n hx hb d_M_today_36 rfl (lv_at hl 0 rfl) ?_
      refine lv_iload_n hx hb d_M_today_37 rfl (lv_at hl 1 rfl) ?_
      refine r_put (k := 20) (i := 0) F hS f_M_83 ct_M (uV_self V 20 0 (a1, oM A (nI m0) (nI ne) dy 0 qs (nI nk) hs hd pu st nx an)) rfl rfl (Nat.le_of_ble_eq_true rfl) d_M_today_38 (fun H locs hS => ?_)
      rw [uV_uV] at hS
      have hS : HS G s (uV V 20 0 (a1, oM A (nI m0) (nI ne) d 0 qs (nI nk) hs hd pu st nx an)) H _ := hS
      refine lv_aload_n hx hb d_M_today_41 rfl (lv_at hl 0 rfl) ?_
      refine lv_iconst (v := (-1)) hx hb d_M_today_42 (by decide) ?_
      refine r_put (k := 20) (i := 0) F hS f_M_9 ct_M (uV_self V 20 0 (a1, oM A (nI m0) (nI ne) d 0 qs (nI nk) hs hd pu st nx an)) rfl rfl (Nat.le_of_ble_eq_true rfl) d_M_today_43 (fun H locs hS => ?_)
      rw [uV_uV] at hS
      have hS : HS G s (uV V 20 0 (a1, oM A (nI m0) (nI ne) d 0 qs (nI nk) hs (-1) pu st nx an)) H _ := hS
      exact m_retv F hr hS (Nat.le_of_ble_eq_true rfl) (Nat.le_of_ble_eq_true rfl) ⟨rfl, Or.inl ⟨⟨hz_6.t c_9, Int32.not_lt.mp c_17⟩, ⟨pu, st, nx, an, g, gv, rfl, h21, h22, h23, h24, h25, h26, h27, h28, h29, h30, h31, h32, h33, h34, h35, h36, h37, h38⟩, (by repeat' first | exact INN.rf | refine INN.u ?_ (by decide) (by decide))⟩⟩ d_M_today_46
set_option maxHeartbeats 4000000 in
set_option maxRecDepth 100000 in
theorem k_M_rule (G : Gl) (l : Launch) (htr : l.stackTraces = false) (V : Vw) (a1 : Nat) (A : Nat → Nat) (m0 ne nk : Nat) (dy th qs hs hd : Int32) (mow mki med mmd mak msk mfk mmn mpo mcs fa mkf ff fs mss mot : Nat → Int32) (hne : ne ≤ 24) (hW : MW G V a1 A (nI m0) (nI ne) dy th qs (nI nk) hs hd mow mki med mmd mak msk mfk mmn mpo mcs fa mkf ff fs mss mot) (o k d : Int32)  :
    Cm G l y_M_rule b_M_rule 4 (Option.some Jvm.ClassFile.FieldType.int) { frames := 2, cells := 0, slots := 0, locals := 43 } V [.ref a1, .int o, .int k, .int d] (fun rv V' => (¬ ((∃ on kn : Nat, on ≤ 5 ∧ kn ≤ 2 ∧ o = nI on ∧ k = nI kn) ∧ (0 ≤ d ∧ d ≤ 1000)) ∧ rv = some (.int 0) ∧ MW G V' a1 A (nI m0) (nI ne) dy 1 qs (nI nk) hs hd mow mki med mmd mak msk mfk mmn mpo mcs fa mkf ff fs mss mot ∧ INN V V') ∨ (((∃ on kn : Nat, on ≤ 5 ∧ kn ≤ 2 ∧ o = nI on ∧ k = nI kn) ∧ (0 ≤ d ∧ d ≤ 1000)) ∧ ne = 24 ∧ rv = some (.int 0) ∧ MW G V' a1 A (nI m0) (nI ne) dy 2 qs (nI nk) hs hd mow mki med mmd mak msk mfk mmn mpo mcs fa mkf ff fs mss mot ∧ INN V V') ∨ (((∃ on kn : Nat, on ≤ 5 ∧ kn ≤ 2 ∧ o = nI on ∧ k = nI kn) ∧ (0 ≤ d ∧ d ≤ 1000)) ∧ ne < 24 ∧ rv = some (.int (nI ne)) ∧ MW G V' a1 A (nI m0) (nI (ne + 1)) dy 0 qs (nI nk) hs hd (upd mow ne o) (upd mki ne k) (upd med ne d) mmd mak msk mfk mmn mpo mcs fa mkf ff fs mss mot ∧ INN V V')) := by
  refine Cm.of htr (by decide) (Nat.le_of_ble_eq_true rfl) ?_
  intro p e s m args below meth c ls F hr hnm hS hl
  obtain ⟨hx, hb, hml, hown, hts, hK, hlk, -⟩ := id F
  have hl : lv_has ls 4 [(0, .ref a1), (1, .int o), (2, .int k), (3, .int d)] := hl
  obtain ⟨pu, st, nx, an, g, gv, h20, h21, h22, h23, h24, h25, h26, h27, h28, h29, h30, h31, h32, h33, h34, h35, h36, h37, h38⟩ := hW
  refine lv_aload_n hx hb d_M_rule_0 rfl (lv_at hl 0 rfl) ?_
  refine lv_iload_n hx hb d_M_rule_1 rfl (lv_at hl 1 rfl) ?_
  refine lv_iload_n hx hb d_M_rule_2 rfl (lv_at hl 2 rfl) ?_
  refine r_callS (As := [.int o, .int k]) (rest := [.ref a1]) F hS c_M_86 (k_M_isPlace G l htr V o k) rfl hl.1 rfl (Nat.le_of_ble_eq_true rfl) d_M_rule_3 ⟨Nat.le_of_ble_eq_true rfl, Nat.le_of_ble_eq_true rfl⟩ ⟨Nat.le_of_ble_eq_true rfl, Nat.le_of_ble_eq_true rfl⟩ (fun rv V1 H locs hR hS => ?_)
  obtain ⟨hV, bz_3, rfl, hz_3⟩ := hR
  rw [hV] at hS
  refine W.eq (g2 := F0 m 6 ls [.int bz_3, .ref a1]) rfl ?_
  refine lv_if_eq (tgt := 20) hx hb d_M_rule_6 (by decide) (fun c_6 => ?_) (fun c_6 => ?_)
  · refine lv_iconst (v := 1) hx hb d_M_rule_20 (by decide) ?_
    refine lv_goto (tgt := 38) hx hb d_M_rule_21 (by decide) ?_
    refine r_put (k := 20) (i := 0) F hS f_M_73 ct_M h20 rfl rfl (Nat.le_of_ble_eq_true rfl) d_M_rule_38 (fun H locs hS => ?_)
    have hS : HS G s (uV V 20 0 (a1, oM A (nI m0) (nI ne) dy 1 qs (nI nk) hs hd pu st nx an)) H _ := hS
    refine lv_aload_n hx hb d_M_rule_41 rfl (lv_at hl 0 rfl) ?_
    refine r_get (k := 20) (i := 0) F hS f_M_73.get (uV_self V 20 0 (a1, oM A (nI m0) (nI ne) dy 1 qs (nI nk) hs hd pu st nx an)) rfl d_M_rule_42 ?_
    refine lv_if_eq (tgt := 50) hx hb d_M_rule_45 (by decide) (fun z => absurd z (by decide)) (fun _ => ?_)
    refine lv_iconst (v := 0) hx hb d_M_rule_48 (by decide) ?_
    exact m_reti F hr hS (Nat.le_of_ble_eq_true rfl) (Nat.le_of_ble_eq_true rfl) (Or.inl ⟨fun z => hz_3.f c_6 z.1, rfl, ⟨pu, st, nx, an, g, gv, rfl, h21, h22, h23, h24, h25, h26, h27, h28, h29, h30, h31, h32, h33, h34, h35, h36, h37, h38⟩, (by repeat' first | exact INN.rf | refine INN.u ?_ (by decide) (by decide))⟩) d_M_rule_49
  · refine lv_iload_n hx hb d_M_rule_9 rfl (lv_at hl 3 rfl) ?_
    refine lv_iconst (v := 0) hx hb d_M_rule_10 (by decide) ?_
    refine lv_sipush (v := 1000) hx hb d_M_rule_11 (by decide) ?_
    refine r_callS (As := [.int d, .int 0, .int 1000]) (rest := [.ref a1]) F hS c_M_79 (k_M_within G l htr V d 0 1000) rfl hl.1 rfl (Nat.le_of_ble_eq_true rfl) d_M_rule_14 ⟨Nat.le_of_ble_eq_true rfl, Nat.le_of_ble_eq_true rfl⟩ ⟨Nat.le_of_ble_eq_true rfl, Nat.le_of_ble_eq_true rfl⟩ (fun rv V1 H locs hR hS => ?_)
    obtain ⟨hV, bz_14, rfl, hz_14⟩ := hR
    rw [hV] at hS
    refine W.eq (g2 := F0 m 17 ls [.int bz_14, .ref a1]) rfl ?_
    refine lv_if_ne (tgt := 24) hx hb d_M_rule_17 (by decide) (fun c_17 => ?_) (fun c_17 => ?_)
    · refine lv_aload_n hx hb d_M_rule_24 rfl (lv_at hl 0 rfl) ?_
      refine r_get (k := 20) (i := 0) F hS f_M_76.get h20 rfl d_M_rule_25 ?_
      refine lv_bipush (v := 24) hx hb d_M_rule_28 (by decide) ?_
      refine lv_icmp_ne (tgt := 37) hx hb d_M_rule_30 (by decide) (fun c_30 => ?_) (fun c_30 => ?_)
      · have hn24 : ne < 24 := Nat.lt_of_le_of_ne hne (fun z => c_30 (congrArg nI z))
        refine lv_iconst (v := 0) hx hb d_M_rule_37 (by decide) ?_
        refine r_put (k := 20) (i := 0) F hS f_M_73 ct_M h20 rfl rfl (Nat.le_of_ble_eq_true rfl) d_M_rule_38 (fun H locs hS => ?_)
        have hS : HS G s (uV V 20 0 (a1, oM A (nI m0) (nI ne) dy 0 qs (nI nk) hs hd pu st nx an)) H _ := hS
        refine lv_aload_n hx hb d_M_rule_41 rfl (lv_at hl 0 rfl) ?_
        refine r_get (k := 20) (i := 0) F hS f_M_73.get (uV_self V 20 0 (a1, oM A (nI m0) (nI ne) dy 0 qs (nI nk) hs hd pu st nx an)) rfl d_M_rule_42 ?_
        refine lv_if_eq (tgt := 50) hx hb d_M_rule_45 (by decide) (fun _ => ?_) (fun z => absurd z (by decide))
        refine lv_aload_n hx hb d_M_rule_50 rfl (lv_at hl 0 rfl) ?_
        refine r_get (k := 20) (i := 0) F hS f_M_13.get (uV_self V 20 0 (a1, oM A (nI m0) (nI ne) dy 0 qs (nI nk) hs hd pu st nx an)) rfl d_M_rule_51 ?_
        refine lv_aload_n hx hb d_M_rule_54 rfl (lv_at hl 0 rfl) ?_
        refine r_get (k := 20) (i := 0) F hS f_M_76.get (uV_self V 20 0 (a1, oM A (nI m0) (nI ne) dy 0 qs (nI nk) hs hd pu st nx an)) rfl d_M_rule_55 ?_
        refine lv_iload_n hx hb d_M_rule_58 rfl (lv_at hl 1 rfl) ?_
        refine r_iast (k := 21) (i := 0) F hS h21 (vp_in_nI hn24 (by decide)) d_M_rule_59 (fun H locs hS => ?_)
        rw [nI_clamp (by omega)] at hS
        have hS : HS G s (uV (uV V 20 0 (a1, oM A (nI m0) (nI ne) dy 0 qs (nI nk) hs hd pu st nx an)) 21 0 ((A 21), aI G 24 (upd mow ne o))) H _ := hS
        refine lv_aload_n hx hb d_M_rule_60 rfl (lv_at hl 0 rfl) ?_
        refine r_get (k := 20) (i := 0) F hS f_M_17.get (uV_self V 20 0 (a1, oM A (nI m0) (nI ne) dy 0 qs (nI nk) hs hd pu st nx an)) rfl d_M_rule_61 ?_
        refine lv_aload_n hx hb d_M_rule_64 rfl (lv_at hl 0 rfl) ?_
        refine r_get (k := 20) (i := 0) F hS f_M_76.get (uV_self V 20 0 (a1, oM A (nI m0) (nI ne) dy 0 qs (nI nk) hs hd pu st nx an)) rfl d_M_rule_65 ?_
        refine lv_iload_n hx hb d_M_rule_68 rfl (lv_at hl 2 rfl) ?_
        refine r_iast (k := 22) (i := 0) F hS h22 (vp_in_nI hn24 (by decide)) d_M_rule_69 (fun H locs hS => ?_)
        rw [nI_clamp (by omega)] at hS
        have hS : HS G s (uV (uV (uV V 20 0 (a1, oM A (nI m0) (nI ne) dy 0 qs (nI nk) hs hd pu st nx an)) 21 0 ((A 21), aI G 24 (upd mow ne o))) 22 0 ((A 22), aI G 24 (upd mki ne k))) H _ := hS
        refine lv_aload_n hx hb d_M_rule_70 rfl (lv_at hl 0 rfl) ?_
        refine r_get (k := 20) (i := 0) F hS f_M_20.get (uV_self V 20 0 (a1, oM A (nI m0) (nI ne) dy 0 qs (nI nk) hs hd pu st nx an)) rfl d_M_rule_71 ?_
        refine lv_aload_n hx hb d_M_rule_74 rfl (lv_at hl 0 rfl) ?_
        refine r_get (k := 20) (i := 0) F hS f_M_76.get (uV_self V 20 0 (a1, oM A (nI m0) (nI ne) dy 0 qs (nI nk) hs hd pu st nx an)) rfl d_M_rule_75 ?_
        refine lv_iload_n hx hb d_M_rule_78 rfl (lv_at hl 3 rfl) ?_
        refine r_iast (k := 23) (i := 0) F hS h23 (vp_in_nI hn24 (by decide)) d_M_rule_79 (fun H locs hS => ?_)
        rw [nI_clamp (by omega)] at hS
        have hS : HS G s (uV (uV (uV (uV V 20 0 (a1, oM A (nI m0) (nI ne) dy 0 qs (nI nk) hs hd pu st nx an)) 21 0 ((A 21), aI G 24 (upd mow ne o))) 22 0 ((A 22), aI G 24 (upd mki ne k))) 23 0 ((A 23), aI G 24 (upd med ne d))) H _ := hS
        refine lv_aload_n hx hb d_M_rule_80 rfl (lv_at hl 0 rfl) ?_
        refine lv_dup hx hb d_M_rule_81 rfl ?_
        refine r_get (k := 20) (i := 0) F hS f_M_76.get (uV_self V 20 0 (a1, oM A (nI m0) (nI ne) dy 0 qs (nI nk) hs hd pu st nx an)) rfl d_M_rule_82 ?_
        refine lv_iconst (v := 1) hx hb d_M_rule_85 (by decide) ?_
        refine lv_iadd hx hb d_M_rule_86 ?_
        rw [nI_1]
        refine r_put (k := 20) (i := 0) F hS f_M_76 ct_M (uV_self V 20 0 (a1, oM A (nI m0) (nI ne) dy 0 qs (nI nk) hs hd pu st nx an)) rfl rfl (Nat.le_of_ble_eq_true rfl) d_M_rule_87 (fun H locs hS => ?_)
        have hS : HS G s (uV (uV (uV (uV (uV V 20 0 (a1, oM A (nI m0) (nI ne) dy 0 qs (nI nk) hs hd pu st nx an)) 21 0 ((A 21), aI G 24 (upd mow ne o))) 22 0 ((A 22), aI G 24 (upd mki ne k))) 23 0 ((A 23), aI G 24 (upd med ne d))) 20 0 (a1, oM A (nI m0) (nI (ne + 1)) dy 0 qs (nI nk) hs hd pu st nx an)) H _ := hS
        refine lv_aload_n hx hb d_M_rule_90 rfl (lv_at hl 0 rfl) ?_
        refine r_get (k := 20) (i := 0) F hS f_M_76.get (uV_self (uV (uV (uV (uV V 20 0 (a1, oM A (nI m0) (nI ne) dy 0 qs (nI nk) hs hd pu st nx an)) 21 0 ((A 21), aI G 24 (upd mow ne o))) 22 0 ((A 22), aI G 24 (upd mki ne k))) 23 0 ((A 23), aI G 24 (upd med ne d))) 20 0 (a1, oM A (nI m0) (nI (ne + 1)) dy 0 qs (nI nk) hs hd pu st nx an)) rfl d_M_rule_91 ?_
        refine lv_iconst (v := 1) hx hb d_M_rule_94 (by decide) ?_
        refine lv_isub hx hb d_M_rule_95 ?_
        rw [nI_pred]
        exact m_reti F hr hS (Nat.le_of_ble_eq_true rfl) (Nat.le_of_ble_eq_true rfl) (Or.inr (Or.inr ⟨⟨hz_3.t c_6, hz_14.t c_17⟩, hn24, rfl, ⟨pu, st, nx, an, g, gv, rfl, rfl, rfl, rfl, h24, h25, h26, h27, h28, h29, h30, h31, h32, h33, h34, h35, h36, h37, h38⟩, (by repeat' first | exact INN.rf | refine INN.u ?_ (by decide) (by decide))⟩)) d_M_rule_96
      · have hn24 : ne = 24 := (nI_eq (by omega) (by decide)).mp (show nI ne = nI 24 from c_30)
        refine lv_iconst (v := 2) hx hb d_M_rule_33 (by decide) ?_
        refine lv_goto (tgt := 38) hx hb d_M_rule_34 (by decide) ?_
        refine r_put (k := 20) (i := 0) F hS f_M_73 ct_M h20 rfl rfl (Nat.le_of_ble_eq_true rfl) d_M_rule_38 (fun H locs hS => ?_)
        have hS : HS G s (uV V 20 0 (a1, oM A (nI m0) (nI ne) dy 2 qs (nI nk) hs hd pu st nx an)) H _ := hS
        refine lv_aload_n hx hb d_M_rule_41 rfl (lv_at hl 0 rfl) ?_
        refine r_get (k := 20) (i := 0) F hS f_M_73.get (uV_self V 20 0 (a1, oM A (nI m0) (nI ne) dy 2 qs (nI nk) hs hd pu st nx an)) rfl d_M_rule_42 ?_
        refine lv_if_eq (tgt := 50) hx hb d_M_rule_45 (by decide) (fun z => absurd z (by decide)) (fun _ => ?_)
        refine lv_iconst (v := 0) hx hb d_M_rule_48 (by decide) ?_
        exact m_reti F hr hS (Nat.le_of_ble_eq_true rfl) (Nat.le_of_ble_eq_true rfl) (Or.inr (Or.inl ⟨⟨hz_3.t c_6, hz_14.t c_17⟩, hn24, rfl, ⟨pu, st, nx, an, g, gv, rfl, h21, h22, h23, h24, h25, h26, h27, h28, h29, h30, h31, h32, h33, h34, h35, h36, h37, h38⟩, (by repeat' first | exact INN.rf | refine INN.u ?_ (by decide) (by decide))⟩)) d_M_rule_49
    · refine lv_iconst (v := 1) hx hb d_M_rule_20 (by decide) ?_
      refine lv_goto (tgt := 38) hx hb d_M_rule_21 (by decide) ?_
      refine r_put (k := 20) (i := 0) F hS f_M_73 ct_M h20 rfl rfl (Nat.le_of_ble_eq_true rfl) d_M_rule_38 (fun H locs hS => ?_)
      have hS : HS G s (uV V 20 0 (a1, oM A (nI m0) (nI ne) dy 1 qs (nI nk) hs hd pu st nx an)) H _ := hS
      refine lv_aload_n hx hb d_M_rule_41 rfl (lv_at hl 0 rfl) ?_
      refine r_get (k := 20) (i := 0) F hS f_M_73.get (uV_self V 20 0 (a1, oM A (nI m0) (nI ne) dy 1 qs (nI nk) hs hd pu st nx an)) rfl d_M_rule_42 ?_
      refine lv_if_eq (tgt := 50) hx hb d_M_rule_45 (by decide) (fun z => absurd z (by decide)) (fun _ => ?_)
      refine lv_iconst (v := 0) hx hb d_M_rule_48 (by decide) ?_
      exact m_reti F hr hS (Nat.le_of_ble_eq_true rfl) (Nat.le_of_ble_eq_true rfl) (Or.inl ⟨fun z => hz_14.f c_17 z.2, rfl, ⟨pu, st, nx, an, g, gv, rfl, h21, h22, h23, h24, h25, h26, h27, h28, h29, h30, h31, h32, h33, h34, h35, h36, h37, h38⟩, (by repeat' first | exact INN.rf | refine INN.u ?_ (by decide) (by decide))⟩) d_M_rule_49
set_option maxHeartbeats 4000000 in
set_option maxRecDepth 100000 in
theorem k_M_isConstant (G : Gl) (l : Launch) (htr : l.stackTraces = false) (V : Vw) (on : Nat) (cn : Int32) (hon : on ≤ 10)  :
    Cm G l y_M_isConstant b_M_isConstant 2 (Option.some Jvm.ClassFile.FieldType.boolean) { frames := 1, cells := 0, slots := 0, locals := 22 } V [.int (nI on), .int cn] (fun rv V' => V' = V ∧ ∃ z : Int32, rv = some (.int z) ∧ bv z (pLs (nI on) ≤ cn ∧ cn ≤ pGr on)) := by
  refine Cm.of htr (by decide) (Nat.le_of_ble_eq_true rfl) ?_
  intro p e s m args below meth c ls F hr hnm hS hl
  obtain ⟨hx, hb, hml, hown, hts, hK, hlk, -⟩ := id F
  have hl : lv_has ls 2 [(0, .int (nI on)), (1, .int cn)] := hl
  rcases (show on = 0 ∨ on = 1 ∨ on = 2 ∨ on = 3 ∨ on = 4 ∨ on = 5 ∨ on = 6 ∨ on = 7 ∨ on = 8 ∨ on = 9 ∨ on = 10 by omega) with rfl | rfl | rfl | rfl | rfl | rfl | rfl | rfl | rfl | rfl | rfl
  · refine lv_iload_n hx hb d_M_isConstant_0 rfl (lv_at hl 0 rfl) ?_
    refine lv_if_ne (tgt := 15) hx hb d_M_isConstant_1 (by decide) (fun z => absurd z (by decide)) (fun _ => ?_)
    refine lv_iload_n hx hb d_M_isConstant_4 rfl (lv_at hl 1 rfl) ?_
    refine lv_sipush (v := (-10000)) hx hb d_M_isConstant_5 (by decide) ?_
    refine lv_sipush (v := 10000) hx hb d_M_isConstant_8 (by decide) ?_
    refine r_callS (As := [.int cn, .int (-10000), .int 10000]) (rest := []) F hS c_M_79 (k_M_within G l htr V cn (-10000) 10000) rfl hl.1 rfl (Nat.le_of_ble_eq_true rfl) d_M_isConstant_11 ⟨Nat.le_of_ble_eq_true rfl, Nat.le_of_ble_eq_true rfl⟩ ⟨Nat.le_of_ble_eq_true rfl, Nat.le_of_ble_eq_true rfl⟩ (fun rv V1 H locs hR hS => ?_)
    obtain ⟨hV, bz_11, rfl, hz_11⟩ := hR
    rw [hV] at hS
    refine W.eq (g2 := F0 m 14 ls [.int bz_11]) rfl ?_
    have e1 : pLs (nI 0) = -10000 := by decide
    have e2 : pGr 0 = 10000 := by decide
    exact m_retz F hr hS (Nat.le_of_ble_eq_true rfl) (Nat.le_of_ble_eq_true rfl) hz_11.nar ⟨rfl, _, rfl, by rw [e1, e2]; exact hz_11⟩ d_M_isConstant_14
  · refine lv_iload_n hx hb d_M_isConstant_0 rfl (lv_at hl 0 rfl) ?_
    refine lv_if_ne (tgt := 15) hx hb d_M_isConstant_1 (by decide) (fun _ => ?_) (fun z => absurd z (by decide))
    refine lv_iload_n hx hb d_M_isConstant_15 rfl (lv_at hl 0 rfl) ?_
    refine lv_iconst (v := 1) hx hb d_M_isConstant_16 (by decide) ?_
    refine lv_icmp_ne (tgt := 30) hx hb d_M_isConstant_17 (by decide) (fun z => absurd z (by decide)) (fun _ => ?_)
    refine lv_iload_n hx hb d_M_isConstant_20 rfl (lv_at hl 1 rfl) ?_
    refine lv_iconst (v := 0) hx hb d_M_isConstant_21 (by decide) ?_
    refine lv_bipush (v := 7) hx hb d_M_isConstant_22 (by decide) ?_
    refine r_callS (As := [.int cn, .int 0, .int 7]) (rest := []) F hS c_M_79 (k_M_within G l htr V cn 0 7) rfl hl.1 rfl (Nat.le_of_ble_eq_true rfl) d_M_isConstant_24 ⟨Nat.le_of_ble_eq_true rfl, Nat.le_of_ble_eq_true rfl⟩ ⟨Nat.le_of_ble_eq_true rfl, Nat.le_of_ble_eq_true rfl⟩ (fun rv V1 H locs hR hS => ?_)
    obtain ⟨hV, bz_24, rfl, hz_24⟩ := hR
    rw [hV] at hS
    refine W.eq (g2 := F0 m 27 ls [.int bz_24]) rfl ?_
    refine lv_goto (tgt := 55) hx hb d_M_isConstant_27 (by decide) ?_
    have e1 : pLs (nI 1) = 0 := by decide
    have e2 : pGr 1 = 7 := by decide
    exact m_retz F hr hS (Nat.le_of_ble_eq_true rfl) (Nat.le_of_ble_eq_true rfl) hz_24.nar ⟨rfl, _, rfl, by rw [e1, e2]; exact hz_24⟩ d_M_isConstant_55
  · refine lv_iload_n hx hb d_M_isConstant_0 rfl (lv_at hl 0 rfl) ?_
    refine lv_if_ne (tgt := 15) hx hb d_M_isConstant_1 (by decide) (fun _ => ?_) (fun z => absurd z (by decide))
    refine lv_iload_n hx hb d_M_isConstant_15 rfl (lv_at hl 0 rfl) ?_
    refine lv_iconst (v := 1) hx hb d_M_isConstant_16 (by decide) ?_
    refine lv_icmp_ne (tgt := 30) hx hb d_M_isConstant_17 (by decide) (fun _ => ?_) (fun z => absurd z (by decide))
    refine lv_iload_n hx hb d_M_isConstant_30 rfl (lv_at hl 0 rfl) ?_
    refine lv_bipush (v := 8) hx hb d_M_isConstant_31 (by decide) ?_
    refine lv_icmp_ne (tgt := 46) hx hb d_M_isConstant_33 (by decide) (fun _ => ?_) (fun z => absurd z (by decide))
    refine lv_iload_n hx hb d_M_isConstant_46 rfl (lv_at hl 1 rfl) ?_
    refine lv_if_ne (tgt := 54) hx hb d_M_isConstant_47 (by decide) (fun c_47 => ?_) (fun c_47 => ?_)
    · refine lv_iconst (v := 0) hx hb d_M_isConstant_54 (by decide) ?_
      have e1 : pLs (nI 2) = 0 := by decide
      have e2 : pGr 2 = 0 := by decide
      exact m_retz F hr hS (Nat.le_of_ble_eq_true rfl) (Nat.le_of_ble_eq_true rfl) rfl ⟨rfl, _, rfl, Or.inr ⟨rfl, by rw [e1, e2]; exact fun z => c_47 (Int32.le_antisymm z.2 z.1)⟩⟩ d_M_isConstant_55
    · refine lv_iconst (v := 1) hx hb d_M_isConstant_50 (by decide) ?_
      refine lv_goto (tgt := 55) hx hb d_M_isConstant_51 (by decide) ?_
      have e1 : pLs (nI 2) = 0 := by decide
      have e2 : pGr 2 = 0 := by decide
      exact m_retz F hr hS (Nat.le_of_ble_eq_true rfl) (Nat.le_of_ble_eq_true rfl) rfl ⟨rfl, _, rfl, Or.inl ⟨rfl, by rw [e1, e2, c_47]; exact ⟨by decide, by decide⟩⟩⟩ d_M_isConstant_55
  · refine lv_iload_n hx hb d_M_isConstant_0 rfl (lv_at hl 0 rfl) ?_
    refine lv_if_ne (tgt := 15) hx hb d_M_isConstant_1 (by decide) (fun _ => ?_) (fun z => absurd z (by decide))
    refine lv_iload_n hx hb d_M_isConstant_15 rfl (lv_at hl 0 rfl) ?_
    refine lv_iconst (v := 1) hx hb d_M_isConstant_16 (by decide) ?_
    refine lv_icmp_ne (tgt := 30) hx hb d_M_isConstant_17 (by decide) (fun _ => ?_) (fun z => absurd z (by decide))
    refine lv_iload_n hx hb d_M_isConstant_30 rfl (lv_at hl 0 rfl) ?_
    refine lv_bipush (v := 8) hx hb d_M_isConstant_31 (by decide) ?_
    refine lv_icmp_ne (tgt := 46) hx hb d_M_isConstant_33 (by decide) (fun _ => ?_) (fun z => absurd z (by decide))
    refine lv_iload_n hx hb d_M_isConstant_46 rfl (lv_at hl 1 rfl) ?_
    refine lv_if_ne (tgt := 54) hx hb d_M_isConstant_47 (by decide) (fun c_47 => ?_) (fun c_47 => ?_)
    · refine lv_iconst (v := 0) hx hb d_M_isConstant_54 (by decide) ?_
      have e1 : pLs (nI 3) = 0 := by decide
      have e2 : pGr 3 = 0 := by decide
      exact m_retz F hr hS (Nat.le_of_ble_eq_true rfl) (Nat.le_of_ble_eq_true rfl) rfl ⟨rfl, _, rfl, Or.inr ⟨rfl, by rw [e1, e2]; exact fun z => c_47 (Int32.le_antisymm z.2 z.1)⟩⟩ d_M_isConstant_55
    · refine lv_iconst (v := 1) hx hb d_M_isConstant_50 (by decide) ?_
      refine lv_goto (tgt := 55) hx hb d_M_isConstant_51 (by decide) ?_
      have e1 : pLs (nI 3) = 0 := by decide
      have e2 : pGr 3 = 0 := by decide
      exact m_retz F hr hS (Nat.le_of_ble_eq_true rfl) (Nat.le_of_ble_eq_true rfl) rfl ⟨rfl, _, rfl, Or.inl ⟨rfl, by rw [e1, e2, c_47]; exact ⟨by decide, by decide⟩⟩⟩ d_M_isConstant_55
  · refine lv_iload_n hx hb d_M_isConstant_0 rfl (lv_at hl 0 rfl) ?_
    refine lv_if_ne (tgt := 15) hx hb d_M_isConstant_1 (by decide) (fun _ => ?_) (fun z => absurd z (by decide))
    refine lv_iload_n hx hb d_M_isConstant_15 rfl (lv_at hl 0 rfl) ?_
    refine lv_iconst (v := 1) hx hb d_M_isConstant_16 (by decide) ?_
    refine lv_icmp_ne (tgt := 30) hx hb d_M_isConstant_17 (by decide) (fun _ => ?_) (fun z => absurd z (by decide))
    refine lv_iload_n hx hb d_M_isConstant_30 rfl (lv_at hl 0 rfl) ?_
    refine lv_bipush (v := 8) hx hb d_M_isConstant_31 (by decide) ?_
    refine lv_icmp_ne (tgt := 46) hx hb d_M_isConstant_33 (by decide) (fun _ => ?_) (fun z => absurd z (by decide))
    refine lv_iload_n hx hb d_M_isConstant_46 rfl (lv_at hl 1 rfl) ?_
    refine lv_if_ne (tgt := 54) hx hb d_M_isConstant_47 (by decide) (fun c_47 => ?_) (fun c_47 => ?_)
    · refine lv_iconst (v := 0) hx hb d_M_isConstant_54 (by decide) ?_
      have e1 : pLs (nI 4) = 0 := by decide
      have e2 : pGr 4 = 0 := by decide
      exact m_retz F hr hS (Nat.le_of_ble_eq_true rfl) (Nat.le_of_ble_eq_true rfl) rfl ⟨rfl, _, rfl, Or.inr ⟨rfl, by rw [e1, e2]; exact fun z => c_47 (Int32.le_antisymm z.2 z.1)⟩⟩ d_M_isConstant_55
    · refine lv_iconst (v := 1) hx hb d_M_isConstant_50 (by decide) ?_
      refine lv_goto (tgt := 55) hx hb d_M_isConstant_51 (by decide) ?_
      have e1 : pLs (nI 4) = 0 := by decide
      have e2 : pGr 4 = 0 := by decide
      exact m_retz F hr hS (Nat.le_of_ble_eq_true rfl) (Nat.le_of_ble_eq_true rfl) rfl ⟨rfl, _, rfl, Or.inl ⟨rfl, by rw [e1, e2, c_47]; exact ⟨by decide, by decide⟩⟩⟩ d_M_isConstant_55
  · refine lv_iload_n hx hb d_M_isConstant_0 rfl (lv_at hl 0 rfl) ?_
    refine lv_if_ne (tgt := 15) hx hb d_M_isConstant_1 (by decide) (fun _ => ?_) (fun z => absurd z (by decide))
    refine lv_iload_n hx hb d_M_isConstant_15 rfl (lv_at hl 0 rfl) ?_
    refine lv_iconst (v := 1) hx hb d_M_isConstant_16 (by decide) ?_
    refine lv_icmp_ne (tgt := 30) hx hb d_M_isConstant_17 (by decide) (fun _ => ?_) (fun z => absurd z (by decide))
    refine lv_iload_n hx hb d_M_isConstant_30 rfl (lv_at hl 0 rfl) ?_
    refine lv_bipush (v := 8) hx hb d_M_isConstant_31 (by decide) ?_
    refine lv_icmp_ne (tgt := 46) hx hb d_M_isConstant_33 (by decide) (fun _ => ?_) (fun z => absurd z (by decide))
    refine lv_iload_n hx hb d_M_isConstant_46 rfl (lv_at hl 1 rfl) ?_
    refine lv_if_ne (tgt := 54) hx hb d_M_isConstant_47 (by decide) (fun c_47 => ?_) (fun c_47 => ?_)
    · refine lv_iconst (v := 0) hx hb d_M_isConstant_54 (by decide) ?_
      have e1 : pLs (nI 5) = 0 := by decide
      have e2 : pGr 5 = 0 := by decide
      exact m_retz F hr hS (Nat.le_of_ble_eq_true rfl) (Nat.le_of_ble_eq_true rfl) rfl ⟨rfl, _, rfl, Or.inr ⟨rfl, by rw [e1, e2]; exact fun z => c_47 (Int32.le_antisymm z.2 z.1)⟩⟩ d_M_isConstant_55
    · refine lv_iconst (v := 1) hx hb d_M_isConstant_50 (by decide) ?_
      refine lv_goto (tgt := 55) hx hb d_M_isConstant_51 (by decide) ?_
      have e1 : pLs (nI 5) = 0 := by decide
      have e2 : pGr 5 = 0 := by decide
      exact m_retz F hr hS (Nat.le_of_ble_eq_true rfl) (Nat.le_of_ble_eq_true rfl) rfl ⟨rfl, _, rfl, Or.inl ⟨rfl, by rw [e1, e2, c_47]; exact ⟨by decide, by decide⟩⟩⟩ d_M_isConstant_55
  · refine lv_iload_n hx hb d_M_isConstant_0 rfl (lv_at hl 0 rfl) ?_
    refine lv_if_ne (tgt := 15) hx hb d_M_isConstant_1 (by decide) (fun _ => ?_) (fun z => absurd z (by decide))
    refine lv_iload_n hx hb d_M_isConstant_15 rfl (lv_at hl 0 rfl) ?_
    refine lv_iconst (v := 1) hx hb d_M_isConstant_16 (by decide) ?_
    refine lv_icmp_ne (tgt := 30) hx hb d_M_isConstant_17 (by decide) (fun _ => ?_) (fun z => absurd z (by decide))
    refine lv_iload_n hx hb d_M_isConstant_30 rfl (lv_at hl 0 rfl) ?_
    refine lv_bipush (v := 8) hx hb d_M_isConstant_31 (by decide) ?_
    refine lv_icmp_ne (tgt := 46) hx hb d_M_isConstant_33 (by decide) (fun _ => ?_) (fun z => absurd z (by decide))
    refine lv_iload_n hx hb d_M_isConstant_46 rfl (lv_at hl 1 rfl) ?_
    refine lv_if_ne (tgt := 54) hx hb d_M_isConstant_47 (by decide) (fun c_47 => ?_) (fun c_47 => ?_)
    · refine lv_iconst (v := 0) hx hb d_M_isConstant_54 (by decide) ?_
      have e1 : pLs (nI 6) = 0 := by decide
      have e2 : pGr 6 = 0 := by decide
      exact m_retz F hr hS (Nat.le_of_ble_eq_true rfl) (Nat.le_of_ble_eq_true rfl) rfl ⟨rfl, _, rfl, Or.inr ⟨rfl, by rw [e1, e2]; exact fun z => c_47 (Int32.le_antisymm z.2 z.1)⟩⟩ d_M_isConstant_55
    · refine lv_iconst (v := 1) hx hb d_M_isConstant_50 (by decide) ?_
      refine lv_goto (tgt := 55) hx hb d_M_isConstant_51 (by decide) ?_
      have e1 : pLs (nI 6) = 0 := by decide
      have e2 : pGr 6 = 0 := by decide
      exact m_retz F hr hS (Nat.le_of_ble_eq_true rfl) (Nat.le_of_ble_eq_true rfl) rfl ⟨rfl, _, rfl, Or.inl ⟨rfl, by rw [e1, e2, c_47]; exact ⟨by decide, by decide⟩⟩⟩ d_M_isConstant_55
  · refine lv_iload_n hx hb d_M_isConstant_0 rfl (lv_at hl 0 rfl) ?_
    refine lv_if_ne (tgt := 15) hx hb d_M_isConstant_1 (by decide) (fun _ => ?_) (fun z => absurd z (by decide))
    refine lv_iload_n hx hb d_M_isConstant_15 rfl (lv_at hl 0 rfl) ?_
    refine lv_iconst (v := 1) hx hb d_M_isConstant_16 (by decide) ?_
    refine lv_icmp_ne (tgt := 30) hx hb d_M_isConstant_17 (by decide) (fun _ => ?_) (fun z => absurd z (by decide))
    refine lv_iload_n hx hb d_M_isConstant_30 rfl (lv_at hl 0 rfl) ?_
    refine lv_bipush (v := 8) hx hb d_M_isConstant_31 (by decide) ?_
    refine lv_icmp_ne (tgt := 46) hx hb d_M_isConstant_33 (by decide) (fun _ => ?_) (fun z => absurd z (by decide))
    refine lv_iload_n hx hb d_M_isConstant_46 rfl (lv_at hl 1 rfl) ?_
    refine lv_if_ne (tgt := 54) hx hb d_M_isConstant_47 (by decide) (fun c_47 => ?_) (fun c_47 => ?_)
    · refine lv_iconst (v := 0) hx hb d_M_isConstant_54 (by decide) ?_
      have e1 : pLs (nI 7) = 0 := by decide
      have e2 : pGr 7 = 0 := by decide
      exact m_retz F hr hS (Nat.le_of_ble_eq_true rfl) (Nat.le_of_ble_eq_true rfl) rfl ⟨rfl, _, rfl, Or.inr ⟨rfl, by rw [e1, e2]; exact fun z => c_47 (Int32.le_antisymm z.2 z.1)⟩⟩ d_M_isConstant_55
    · refine lv_iconst (v := 1) hx hb d_M_isConstant_50 (by decide) ?_
      refine lv_goto (tgt := 55) hx hb d_M_isConstant_51 (by decide) ?_
      have e1 : pLs (nI 7) = 0 := by decide
      have e2 : pGr 7 = 0 := by decide
      exact m_retz F hr hS (Nat.le_of_ble_eq_true rfl) (Nat.le_of_ble_eq_true rfl) rfl ⟨rfl, _, rfl, Or.inl ⟨rfl, by rw [e1, e2, c_47]; exact ⟨by decide, by decide⟩⟩⟩ d_M_isConstant_55
  · refine lv_iload_n hx hb d_M_isConstant_0 rfl (lv_at hl 0 rfl) ?_
    refine lv_if_ne (tgt := 15) hx hb d_M_isConstant_1 (by decide) (fun _ => ?_) (fun z => absurd z (by decide))
    refine lv_iload_n hx hb d_M_isConstant_15 rfl (lv_at hl 0 rfl) ?_
    refine lv_iconst (v := 1) hx hb d_M_isConstant_16 (by decide) ?_
    refine lv_icmp_ne (tgt := 30) hx hb d_M_isConstant_17 (by decide) (fun _ => ?_) (fun z => absurd z (by decide))
    refine lv_iload_n hx hb d_M_isConstant_30 rfl (lv_at hl 0 rfl) ?_
    refine lv_bipush (v := 8) hx hb d_M_isConstant_31 (by decide) ?_
    refine lv_icmp_ne (tgt := 46) hx hb d_M_isConstant_33 (by decide) (fun z => absurd z (by decide)) (fun _ => ?_)
    refine lv_iload_n hx hb d_M_isConstant_36 rfl (lv_at hl 1 rfl) ?_
    refine lv_iconst (v := 0) hx hb d_M_isConstant_37 (by decide) ?_
    refine lv_bipush (v := 15) hx hb d_M_isConstant_38 (by decide) ?_
    refine r_callS (As := [.int cn, .int 0, .int 15]) (rest := []) F hS c_M_79 (k_M_within G l htr V cn 0 15) rfl hl.1 rfl (Nat.le_of_ble_eq_true rfl) d_M_isConstant_40 ⟨Nat.le_of_ble_eq_true rfl, Nat.le_of_ble_eq_true rfl⟩ ⟨Nat.le_of_ble_eq_true rfl, Nat.le_of_ble_eq_true rfl⟩ (fun rv V1 H locs hR hS => ?_)
    obtain ⟨hV, bz_40, rfl, hz_40⟩ := hR
    rw [hV] at hS
    refine W.eq (g2 := F0 m 43 ls [.int bz_40]) rfl ?_
    refine lv_goto (tgt := 55) hx hb d_M_isConstant_43 (by decide) ?_
    have e1 : pLs (nI 8) = 0 := by decide
    have e2 : pGr 8 = 15 := by decide
    exact m_retz F hr hS (Nat.le_of_ble_eq_true rfl) (Nat.le_of_ble_eq_true rfl) hz_40.nar ⟨rfl, _, rfl, by rw [e1, e2]; exact hz_40⟩ d_M_isConstant_55
  · refine lv_iload_n hx hb d_M_isConstant_0 rfl (lv_at hl 0 rfl) ?_
    refine lv_if_ne (tgt := 15) hx hb d_M_isConstant_1 (by decide) (fun _ => ?_) (fun z => absurd z (by decide))
    refine lv_iload_n hx hb d_M_isConstant_15 rfl (lv_at hl 0 rfl) ?_
    refine lv_iconst (v := 1) hx hb d_M_isConstant_16 (by decide) ?_
    refine lv_icmp_ne (tgt := 30) hx hb d_M_isConstant_17 (by decide) (fun _ => ?_) (fun z => absurd z (by decide))
    refine lv_iload_n hx hb d_M_isConstant_30 rfl (lv_at hl 0 rfl) ?_
    refine lv_bipush (v := 8) hx hb d_M_isConstant_31 (by decide) ?_
    refine lv_icmp_ne (tgt := 46) hx hb d_M_isConstant_33 (by decide) (fun _ => ?_) (fun z => absurd z (by decide))
    refine lv_iload_n hx hb d_M_isConstant_46 rfl (lv_at hl 1 rfl) ?_
    refine lv_if_ne (tgt := 54) hx hb d_M_isConstant_47 (by decide) (fun c_47 => ?_) (fun c_47 => ?_)
    · refine lv_iconst (v := 0) hx hb d_M_isConstant_54 (by decide) ?_
      have e1 : pLs (nI 9) = 0 := by decide
      have e2 : pGr 9 = 0 := by decide
      exact m_retz F hr hS (Nat.le_of_ble_eq_true rfl) (Nat.le_of_ble_eq_true rfl) rfl ⟨rfl, _, rfl, Or.inr ⟨rfl, by rw [e1, e2]; exact fun z => c_47 (Int32.le_antisymm z.2 z.1)⟩⟩ d_M_isConstant_55
    · refine lv_iconst (v := 1) hx hb d_M_isConstant_50 (by decide) ?_
      refine lv_goto (tgt := 55) hx hb d_M_isConstant_51 (by decide) ?_
      have e1 : pLs (nI 9) = 0 := by decide
      have e2 : pGr 9 = 0 := by decide
      exact m_retz F hr hS (Nat.le_of_ble_eq_true rfl) (Nat.le_of_ble_eq_true rfl) rfl ⟨rfl, _, rfl, Or.inl ⟨rfl, by rw [e1, e2, c_47]; exact ⟨by decide, by decide⟩⟩⟩ d_M_isConstant_55
  · refine lv_iload_n hx hb d_M_isConstant_0 rfl (lv_at hl 0 rfl) ?_
    refine lv_if_ne (tgt := 15) hx hb d_M_isConstant_1 (by decide) (fun _ => ?_) (fun z => absurd z (by decide))
    refine lv_iload_n hx hb d_M_isConstant_15 rfl (lv_at hl 0 rfl) ?_
    refine lv_iconst (v := 1) hx hb d_M_isConstant_16 (by decide) ?_
    refine lv_icmp_ne (tgt := 30) hx hb d_M_isConstant_17 (by decide) (fun _ => ?_) (fun z => absurd z (by decide))
    refine lv_iload_n hx hb d_M_isConstant_30 rfl (lv_at hl 0 rfl) ?_
    refine lv_bipush (v := 8) hx hb d_M_isConstant_31 (by decide) ?_
    refine lv_icmp_ne (tgt := 46) hx hb d_M_isConstant_33 (by decide) (fun _ => ?_) (fun z => absurd z (by decide))
    refine lv_iload_n hx hb d_M_isConstant_46 rfl (lv_at hl 1 rfl) ?_
    refine lv_if_ne (tgt := 54) hx hb d_M_isConstant_47 (by decide) (fun c_47 => ?_) (fun c_47 => ?_)
    · refine lv_iconst (v := 0) hx hb d_M_isConstant_54 (by decide) ?_
      have e1 : pLs (nI 10) = 0 := by decide
      have e2 : pGr 10 = 0 := by decide
      exact m_retz F hr hS (Nat.le_of_ble_eq_true rfl) (Nat.le_of_ble_eq_true rfl) rfl ⟨rfl, _, rfl, Or.inr ⟨rfl, by rw [e1, e2]; exact fun z => c_47 (Int32.le_antisymm z.2 z.1)⟩⟩ d_M_isConstant_55
    · refine lv_iconst (v := 1) hx hb d_M_isConstant_50 (by decide) ?_
      refine lv_goto (tgt := 55) hx hb d_M_isConstant_51 (by decide) ?_
      have e1 : pLs (nI 10) = 0 := by decide
      have e2 : pGr 10 = 0 := by decide
      exact m_retz F hr hS (Nat.le_of_ble_eq_true rfl) (Nat.le_of_ble_eq_true rfl) rfl ⟨rfl, _, rfl, Or.inl ⟨rfl, by rw [e1, e2, c_47]; exact ⟨by decide, by decide⟩⟩⟩ d_M_isConstant_55
set_option maxHeartbeats 4000000 in
set_option maxRecDepth 100000 in
theorem k_M_op (G : Gl) (l : Launch) (htr : l.stackTraces = false) (V : Vw) (a1 : Nat) (A : Nat → Nat) (m0 ne nk : Nat) (dy th qs hs hd : Int32) (mow mki med mmd mak msk mfk mmn mpo mcs fa mkf ff fs mss mot : Nat → Int32) (hne : ne ≤ 24) (hW : MW G V a1 A (nI m0) (nI ne) dy th qs (nI nk) hs hd mow mki med mmd mak msk mfk mmn mpo mcs fa mkf ff fs mss mot) (n op cn : Int32) (ln : Nat → Nat) (po cs : Nat → Nat → Int32) (hCD : CD ne mmn mpo mcs ln po cs)  :
    Cm G l y_M_op b_M_op 4 (Option.some Jvm.ClassFile.FieldType.int) { frames := 2, cells := 0, slots := 0, locals := 43 } V [.ref a1, .int n, .int op, .int cn] (fun rv V' => (¬ (∃ i : Nat, i < ne ∧ n = nI i) ∧ rv = some (.int 0) ∧ MW G V' a1 A (nI m0) (nI ne) dy 1 qs (nI nk) hs hd mow mki med mmd mak msk mfk mmn mpo mcs fa mkf ff fs mss mot ∧ INN V V') ∨ ∃ i : Nat, i < ne ∧ n = nI i ∧ ((¬ (∃ on : Nat, on ≤ 10 ∧ op = nI on ∧ (pLs (nI on) ≤ cn ∧ cn ≤ pGr on)) ∧ rv = some (.int 0) ∧ MW G V' a1 A (nI m0) (nI ne) dy 2 qs (nI nk) hs hd mow mki med mmd mak msk mfk mmn mpo mcs fa mkf ff fs mss mot ∧ INN V V') ∨ ∃ on : Nat, on ≤ 10 ∧ op = nI on ∧ (pLs (nI on) ≤ cn ∧ cn ≤ pGr on) ∧ ((¬ mmd i = 0 ∧ rv = some (.int 0) ∧ MW G V' a1 A (nI m0) (nI ne) dy 3 qs (nI nk) hs hd mow mki med mmd mak msk mfk mmn mpo mcs fa mkf ff fs mss mot ∧ INN V V') ∨ (mmd i = 0 ∧ ln i = 16 ∧ rv = some (.int 0) ∧ MW G V' a1 A (nI m0) (nI ne) dy 4 qs (nI nk) hs hd mow mki med mmd mak msk mfk mmn mpo mcs fa mkf ff fs mss mot ∧ INN V V') ∨ (mmd i = 0 ∧ ln i < 16 ∧ rv = some (.int (nI (ln i + 1))) ∧ MW G V' a1 A (nI m0) (nI ne) dy 0 qs (nI nk) hs hd mow mki med mmd mak msk mfk (upd mmn i (nI (ln i + 1))) (upd mpo (16 * i + ln i) (nI on)) (upd mcs (16 * i + ln i) cn) fa mkf ff fs mss mot ∧ INN V V')))) := by
  refine Cm.of htr (by decide) (Nat.le_of_ble_eq_true rfl) ?_
  intro p e s m args below meth c ls F hr hnm hS hl
  obtain ⟨hx, hb, hml, hown, hts, hK, hlk, -⟩ := id F
  have hl : lv_has ls 4 [(0, .ref a1), (1, .int n), (2, .int op), (3, .int cn)] := hl
  obtain ⟨pu, st, nx, an, g, gv, h20, h21, h22, h23, h24, h25, h26, h27, h28, h29, h30, h31, h32, h33, h34, h35, h36, h37, h38⟩ := hW
  refine lv_aload_n hx hb d_M_op_0 rfl (lv_at hl 0 rfl) ?_
  refine lv_aload_n hx hb d_M_op_1 rfl (lv_at hl 0 rfl) ?_
  refine lv_iload_n hx hb d_M_op_2 rfl (lv_at hl 1 rfl) ?_
  refine r_callV (k := 20) (i := 0) (q := ("RuleClassesModel", T_M, 30)) (fs := [.int (nI m0), .int (nI ne), .int dy, .int th, .int qs, .int (nI nk), .int hs, .int hd, .ref (A 21), .ref (A 22), .ref (A 23), .ref (A 24), .ref (A 25), .ref (A 26), .ref (A 27), .ref (A 28), .ref (A 29), .ref (A 30), .ref (A 31), .ref (A 32), .ref (A 33), .ref (A 34), .ref (A 35), .ref (A 36), .ref (A 37), .int pu, .int st, .int nx, .long an, .ref (A 38)]) (As := [.int n]) (rest := [.ref a1]) F hS c_M_90 (k_M_isEdition G l htr V a1 A m0 ne nk dy th qs hs hd pu st nx an hne n h20) rfl h20 rfl hl.1 rfl (Nat.le_of_ble_eq_true rfl) d_M_op_3 ⟨Nat.le_of_ble_eq_true rfl, Nat.le_of_ble_eq_true rfl⟩ ⟨Nat.le_of_ble_eq_true rfl, Nat.le_of_ble_eq_true rfl⟩ (fun rv V1 H locs hR hS => ?_)
  obtain ⟨hV, bz_3, rfl, hz_3⟩ := hR
  rw [hV] at hS
  refine W.eq (g2 := F0 m 6 ls [.int bz_3, .ref a1]) rfl ?_
  refine lv_if_ne (tgt := 13) hx hb d_M_op_6 (by decide) (fun c_6 => ?_) (fun c_6 => ?_)
  · obtain ⟨i, hi, rfl⟩ := hz_3.t c_6
    have hl16 := (hCD i hi).2.1.1
    refine lv_iload_n hx hb d_M_op_13 rfl (lv_at hl 2 rfl) ?_
    refine lv_iconst (v := 0) hx hb d_M_op_14 (by decide) ?_
    refine lv_bipush (v := 10) hx hb d_M_op_15 (by decide) ?_
    refine r_callS (As := [.int op, .int 0, .int 10]) (rest := [.ref a1]) F hS c_M_79 (k_M_within G l htr V op 0 10) rfl hl.1 rfl (Nat.le_of_ble_eq_true rfl) d_M_op_17 ⟨Nat.le_of_ble_eq_true rfl, Nat.le_of_ble_eq_true rfl⟩ ⟨Nat.le_of_ble_eq_true rfl, Nat.le_of_ble_eq_true rfl⟩ (fun rv V1 H locs hR hS => ?_)
    obtain ⟨hV, bz_17, rfl, hz_17⟩ := hR
    rw [hV] at hS
    refine W.eq (g2 := F0 m 20 ls [.int bz_17, .ref a1]) rfl ?_
    refine lv_if_eq (tgt := 31) hx hb d_M_op_20 (by decide) (fun c_20 => ?_) (fun c_20 => ?_)
    · refine lv_iconst (v := 2) hx hb d_M_op_31 (by decide) ?_
      refine lv_goto (tgt := 64) hx hb d_M_op_32 (by decide) ?_
      refine r_put (k := 20) (i := 0) F hS f_M_73 ct_M h20 rfl rfl (Nat.le_of_ble_eq_true rfl) d_M_op_64 (fun H locs hS => ?_)
      have hS : HS G s (uV V 20 0 (a1, oM A (nI m0) (nI ne) dy 2 qs (nI nk) hs hd pu st nx an)) H _ := hS
      refine lv_aload_n hx hb d_M_op_67 rfl (lv_at hl 0 rfl) ?_
      refine r_get (k := 20) (i := 0) F hS f_M_73.get (uV_self V 20 0 (a1, oM A (nI m0) (nI ne) dy 2 qs (nI nk) hs hd pu st nx an)) rfl d_M_op_68 ?_
      refine lv_if_eq (tgt := 76) hx hb d_M_op_71 (by decide) (fun z => absurd z (by decide)) (fun _ => ?_)
      refine lv_iconst (v := 0) hx hb d_M_op_74 (by decide) ?_
      exact m_reti F hr hS (Nat.le_of_ble_eq_true rfl) (Nat.le_of_ble_eq_true rfl) (Or.inr ⟨i, hi, rfl, Or.inl ⟨no_op1 (hz_17.f c_20), rfl, ⟨pu, st, nx, an, g, gv, rfl, h21, h22, h23, h24, h25, h26, h27, h28, h29, h30, h31, h32, h33, h34, h35, h36, h37, h38⟩, (by repeat' first | exact INN.rf | refine INN.u ?_ (by decide) (by decide))⟩⟩) d_M_op_75
    · obtain ⟨on, hon, rfl⟩ := (in_iff (n := 10) (by decide)).mp (hz_17.t c_20)
      refine lv_iload_n hx hb d_M_op_23 rfl (lv_at hl 2 rfl) ?_
      refine lv_iload_n hx hb d_M_op_24 rfl (lv_at hl 3 rfl) ?_
      refine r_callS (As := [.int (nI on), .int cn]) (rest := [.ref a1]) F hS c_M_94 (k_M_isConstant G l htr V on cn hon) rfl hl.1 rfl (Nat.le_of_ble_eq_true rfl) d_M_op_25 ⟨Nat.le_of_ble_eq_true rfl, Nat.le_of_ble_eq_true rfl⟩ ⟨Nat.le_of_ble_eq_true rfl, Nat.le_of_ble_eq_true rfl⟩ (fun rv V1 H locs hR hS => ?_)
      obtain ⟨hV, bz_25, rfl, hz_25⟩ := hR
      rw [hV] at hS
      refine W.eq (g2 := F0 m 28 ls [.int bz_25, .ref a1]) rfl ?_
      refine lv_if_ne (tgt := 35) hx hb d_M_op_28 (by decide) (fun c_28 => ?_) (fun c_28 => ?_)
      · refine lv_aload_n hx hb d_M_op_35 rfl (lv_at hl 0 rfl) ?_
        refine r_get (k := 20) (i := 0) F hS f_M_23.get h20 rfl d_M_op_36 ?_
        refine lv_iload_n hx hb d_M_op_39 rfl (lv_at hl 1 rfl) ?_
        refine r_zald (k := 24) (i := 0) F hS h24 (vp_in_nI (by omega) (by decide)) d_M_op_40 ?_
        rw [nI_clamp (by omega)]
        refine lv_if_eq (tgt := 48) hx hb d_M_op_41 (by decide) (fun c_41 => ?_) (fun c_41 => ?_)
        · refine lv_aload_n hx hb d_M_op_48 rfl (lv_at hl 0 rfl) ?_
          refine r_get (k := 20) (i := 0) F hS f_M_36.get h20 rfl d_M_op_49 ?_
          refine lv_iload_n hx hb d_M_op_52 rfl (lv_at hl 1 rfl) ?_
          refine r_iald (k := 28) (i := 0) F hS h28 (vp_in_nI (by omega) (by decide)) d_M_op_53 ?_
          rw [nI_clamp (by omega), (hCD i hi).1]
          refine lv_bipush (v := 16) hx hb d_M_op_54 (by decide) ?_
          refine lv_icmp_ne (tgt := 63) hx hb d_M_op_56 (by decide) (fun c_56 => ?_) (fun c_56 => ?_)
          · have hl9 : ln i < 16 := Nat.lt_of_le_of_ne hl16 (fun z => c_56 (congrArg nI z))
            refine lv_iconst (v := 0) hx hb d_M_op_63 (by decide) ?_
            refine r_put (k := 20) (i := 0) F hS f_M_73 ct_M h20 rfl rfl (Nat.le_of_ble_eq_true rfl) d_M_op_64 (fun H locs hS => ?_)
            have hS : HS G s (uV V 20 0 (a1, oM A (nI m0) (nI ne) dy 0 qs (nI nk) hs hd pu st nx an)) H _ := hS
            refine lv_aload_n hx hb d_M_op_67 rfl (lv_at hl 0 rfl) ?_
            refine r_get (k := 20) (i := 0) F hS f_M_73.get (uV_self V 20 0 (a1, oM A (nI m0) (nI ne) dy 0 qs (nI nk) hs hd pu st nx an)) rfl d_M_op_68 ?_
            refine lv_if_eq (tgt := 76) hx hb d_M_op_71 (by decide) (fun _ => ?_) (fun z => absurd z (by decide))
            refine lv_aload_n hx hb d_M_op_76 rfl (lv_at hl 0 rfl) ?_
            refine r_get (k := 20) (i := 0) F hS f_M_39.get (uV_self V 20 0 (a1, oM A (nI m0) (nI ne) dy 0 qs (nI nk) hs hd pu st nx an)) rfl d_M_op_77 ?_
            refine lv_bipush (v := 16) hx hb d_M_op_80 (by decide) ?_
            refine lv_iload_n hx hb d_M_op_82 rfl (lv_at hl 1 rfl) ?_
            refine lv_imul hx hb d_M_op_83 ?_
            refine lv_aload_n hx hb d_M_op_84 rfl (lv_at hl 0 rfl) ?_
            refine r_get (k := 20) (i := 0) F hS f_M_36.get (uV_self V 20 0 (a1, oM A (nI m0) (nI ne) dy 0 qs (nI nk) hs hd pu st nx an)) rfl d_M_op_85 ?_
            refine lv_iload_n hx hb d_M_op_88 rfl (lv_at hl 1 rfl) ?_
            refine r_iald (k := 28) (i := 0) F hS h28 (vp_in_nI (by omega) (by decide)) d_M_op_89 ?_
            rw [nI_clamp (by omega), (hCD i hi).1]
            refine lv_iadd hx hb d_M_op_90 ?_
            refine lv_iload_n hx hb d_M_op_91 rfl (lv_at hl 2 rfl) ?_
            rw [show (16 : Int32) * nI i + nI (ln i) = nI (16 * i + ln i) from nI_ma 16 i (ln i)]
            refine r_iast (k := 29) (i := 0) F hS h29 (vp_in_nI (by omega) (by decide)) d_M_op_92 (fun H locs hS => ?_)
            rw [nI_clamp (by omega)] at hS
            have hS : HS G s (uV (uV V 20 0 (a1, oM A (nI m0) (nI ne) dy 0 qs (nI nk) hs hd pu st nx an)) 29 0 ((A 29), aI G 384 (upd mpo (16 * i + ln i) (nI on)))) H _ := hS
            refine lv_aload_n hx hb d_M_op_93 rfl (lv_at hl 0 rfl) ?_
            refine r_get (k := 20) (i := 0) F hS f_M_42.get (uV_self V 20 0 (a1, oM A (nI m0) (nI ne) dy 0 qs (nI nk) hs hd pu st nx an)) rfl d_M_op_94 ?_
            refine lv_bipush (v := 16) hx hb d_M_op_97 (by decide) ?_
            refine lv_iload_n hx hb d_M_op_99 rfl (lv_at hl 1 rfl) ?_
            refine lv_imul hx hb d_M_op_100 ?_
            refine lv_aload_n hx hb d_M_op_101 rfl (lv_at hl 0 rfl) ?_
            refine r_get (k := 20) (i := 0) F hS f_M_36.get (uV_self V 20 0 (a1, oM A (nI m0) (nI ne) dy 0 qs (nI nk) hs hd pu st nx an)) rfl d_M_op_102 ?_
            refine lv_iload_n hx hb d_M_op_105 rfl (lv_at hl 1 rfl) ?_
            refine r_iald (k := 28) (i := 0) F hS h28 (vp_in_nI (by omega) (by decide)) d_M_op_106 ?_
            rw [nI_clamp (by omega), (hCD i hi).1]
            refine lv_iadd hx hb d_M_op_107 ?_
            refine lv_iload_n hx hb d_M_op_108 rfl (lv_at hl 3 rfl) ?_
            rw [show (16 : Int32) * nI i + nI (ln i) = nI (16 * i + ln i) from nI_ma 16 i (ln i)]
            refine r_iast (k := 30) (i := 0) F hS h30 (vp_in_nI (by omega) (by decide)) d_M_op_109 (fun H locs hS => ?_)
            rw [nI_clamp (by omega)] at hS
            have hS : HS G s (uV (uV (uV V 20 0 (a1, oM A (nI m0) (nI ne) dy 0 qs (nI nk) hs hd pu st nx an)) 29 0 ((A 29), aI G 384 (upd mpo (16 * i + ln i) (nI on)))) 30 0 ((A 30), aI G 384 (upd mcs (16 * i + ln i) cn))) H _ := hS
            refine lv_aload_n hx hb d_M_op_110 rfl (lv_at hl 0 rfl) ?_
            refine r_get (k := 20) (i := 0) F hS f_M_36.get (uV_self V 20 0 (a1, oM A (nI m0) (nI ne) dy 0 qs (nI nk) hs hd pu st nx an)) rfl d_M_op_111 ?_
            refine lv_iload_n hx hb d_M_op_114 rfl (lv_at hl 1 rfl) ?_
            refine lv_dup2_11 hx hb d_M_op_115 rfl rfl ?_
            refine r_iald (k := 28) (i := 0) F hS h28 (vp_in_nI (by omega) (by decide)) d_M_op_116 ?_
            rw [nI_clamp (by omega), (hCD i hi).1]
            refine lv_iconst (v := 1) hx hb d_M_op_117 (by decide) ?_
            refine lv_iadd hx hb d_M_op_118 ?_
            rw [nI_1]
            refine r_iast (k := 28) (i := 0) F hS h28 (vp_in_nI (by omega) (by decide)) d_M_op_119 (fun H locs hS => ?_)
            rw [nI_clamp (by omega)] at hS
            have hS : HS G s (uV (uV (uV (uV V 20 0 (a1, oM A (nI m0) (nI ne) dy 0 qs (nI nk) hs hd pu st nx an)) 29 0 ((A 29), aI G 384 (upd mpo (16 * i + ln i) (nI on)))) 30 0 ((A 30), aI G 384 (upd mcs (16 * i + ln i) cn))) 28 0 ((A 28), aI G 24 (upd mmn i (nI (ln i + 1))))) H _ := hS
            refine lv_aload_n hx hb d_M_op_120 rfl (lv_at hl 0 rfl) ?_
            refine r_get (k := 20) (i := 0) F hS f_M_36.get (uV_self V 20 0 (a1, oM A (nI m0) (nI ne) dy 0 qs (nI nk) hs hd pu st nx an)) rfl d_M_op_121 ?_
            refine lv_iload_n hx hb d_M_op_124 rfl (lv_at hl 1 rfl) ?_
            refine r_iald (k := 28) (i := 0) F hS (uV_self (uV (uV (uV V 20 0 (a1, oM A (nI m0) (nI ne) dy 0 qs (nI nk) hs hd pu st nx an)) 29 0 ((A 29), aI G 384 (upd mpo (16 * i + ln i) (nI on)))) 30 0 ((A 30), aI G 384 (upd mcs (16 * i + ln i) cn))) 28 0 ((A 28), aI G 24 (upd mmn i (nI (ln i + 1))))) (vp_in_nI (by omega) (by decide)) d_M_op_125 ?_
            rw [nI_clamp (by omega), show upd mmn i (nI (ln i + 1)) i = nI (ln i + 1) from if_pos rfl]
            exact m_reti F hr hS (Nat.le_of_ble_eq_true rfl) (Nat.le_of_ble_eq_true rfl) (Or.inr ⟨i, hi, rfl, Or.inr ⟨on, hon, rfl, hz_25.t c_28, Or.inr (Or.inr ⟨c_41, hl9, rfl, ⟨pu, st, nx, an, g, gv, rfl, h21, h22, h23, h24, h25, h26, h27, rfl, rfl, rfl, h31, h32, h33, h34, h35, h36, h37, h38⟩, (by repeat' first | exact INN.rf | refine INN.u ?_ (by decide) (by decide))⟩)⟩⟩) d_M_op_126
          · have hl9 : ln i = 16 := (nI_eq (by omega) (by decide)).mp (show nI (ln i) = nI 16 from c_56)
            refine lv_iconst (v := 4) hx hb d_M_op_59 (by decide) ?_
            refine lv_goto (tgt := 64) hx hb d_M_op_60 (by decide) ?_
            refine r_put (k := 20) (i := 0) F hS f_M_73 ct_M h20 rfl rfl (Nat.le_of_ble_eq_true rfl) d_M_op_64 (fun H locs hS => ?_)
            have hS : HS G s (uV V 20 0 (a1, oM A (nI m0) (nI ne) dy 4 qs (nI nk) hs hd pu st nx an)) H _ := hS
            refine lv_aload_n hx hb d_M_op_67 rfl (lv_at hl 0 rfl) ?_
            refine r_get (k := 20) (i := 0) F hS f_M_73.get (uV_self V 20 0 (a1, oM A (nI m0) (nI ne) dy 4 qs (nI nk) hs hd pu st nx an)) rfl d_M_op_68 ?_
            refine lv_if_eq (tgt := 76) hx hb d_M_op_71 (by decide) (fun z => absurd z (by decide)) (fun _ => ?_)
            refine lv_iconst (v := 0) hx hb d_M_op_74 (by decide) ?_
            exact m_reti F hr hS (Nat.le_of_ble_eq_true rfl) (Nat.le_of_ble_eq_true rfl) (Or.inr ⟨i, hi, rfl, Or.inr ⟨on, hon, rfl, hz_25.t c_28, Or.inr (Or.inl ⟨c_41, hl9, rfl, ⟨pu, st, nx, an, g, gv, rfl, h21, h22, h23, h24, h25, h26, h27, h28, h29, h30, h31, h32, h33, h34, h35, h36, h37, h38⟩, (by repeat' first | exact INN.rf | refine INN.u ?_ (by decide) (by decide))⟩)⟩⟩) d_M_op_75
        · refine lv_iconst (v := 3) hx hb d_M_op_44 (by decide) ?_
          refine lv_goto (tgt := 64) hx hb d_M_op_45 (by decide) ?_
          refine r_put (k := 20) (i := 0) F hS f_M_73 ct_M h20 rfl rfl (Nat.le_of_ble_eq_true rfl) d_M_op_64 (fun H locs hS => ?_)
          have hS : HS G s (uV V 20 0 (a1, oM A (nI m0) (nI ne) dy 3 qs (nI nk) hs hd pu st nx an)) H _ := hS
          refine lv_aload_n hx hb d_M_op_67 rfl (lv_at hl 0 rfl) ?_
          refine r_get (k := 20) (i := 0) F hS f_M_73.get (uV_self V 20 0 (a1, oM A (nI m0) (nI ne) dy 3 qs (nI nk) hs hd pu st nx an)) rfl d_M_op_68 ?_
          refine lv_if_eq (tgt := 76) hx hb d_M_op_71 (by decide) (fun z => absurd z (by decide)) (fun _ => ?_)
          refine lv_iconst (v := 0) hx hb d_M_op_74 (by decide) ?_
          exact m_reti F hr hS (Nat.le_of_ble_eq_true rfl) (Nat.le_of_ble_eq_true rfl) (Or.inr ⟨i, hi, rfl, Or.inr ⟨on, hon, rfl, hz_25.t c_28, Or.inl ⟨c_41, rfl, ⟨pu, st, nx, an, g, gv, rfl, h21, h22, h23, h24, h25, h26, h27, h28, h29, h30, h31, h32, h33, h34, h35, h36, h37, h38⟩, (by repeat' first | exact INN.rf | refine INN.u ?_ (by decide) (by decide))⟩⟩⟩) d_M_op_75
      · refine lv_iconst (v := 2) hx hb d_M_op_31 (by decide) ?_
        refine lv_goto (tgt := 64) hx hb d_M_op_32 (by decide) ?_
        refine r_put (k := 20) (i := 0) F hS f_M_73 ct_M h20 rfl rfl (Nat.le_of_ble_eq_true rfl) d_M_op_64 (fun H locs hS => ?_)
        have hS : HS G s (uV V 20 0 (a1, oM A (nI m0) (nI ne) dy 2 qs (nI nk) hs hd pu st nx an)) H _ := hS
        refine lv_aload_n hx hb d_M_op_67 rfl (lv_at hl 0 rfl) ?_
        refine r_get (k := 20) (i := 0) F hS f_M_73.get (uV_self V 20 0 (a1, oM A (nI m0) (nI ne) dy 2 qs (nI nk) hs hd pu st nx an)) rfl d_M_op_68 ?_
        refine lv_if_eq (tgt := 76) hx hb d_M_op_71 (by decide) (fun z => absurd z (by decide)) (fun _ => ?_)
        refine lv_iconst (v := 0) hx hb d_M_op_74 (by decide) ?_
        exact m_reti F hr hS (Nat.le_of_ble_eq_true rfl) (Nat.le_of_ble_eq_true rfl) (Or.inr ⟨i, hi, rfl, Or.inl ⟨no_op2 hon (hz_25.f c_28), rfl, ⟨pu, st, nx, an, g, gv, rfl, h21, h22, h23, h24, h25, h26, h27, h28, h29, h30, h31, h32, h33, h34, h35, h36, h37, h38⟩, (by repeat' first | exact INN.rf | refine INN.u ?_ (by decide) (by decide))⟩⟩) d_M_op_75
  · refine lv_iconst (v := 1) hx hb d_M_op_9 (by decide) ?_
    refine lv_goto (tgt := 64) hx hb d_M_op_10 (by decide) ?_
    refine r_put (k := 20) (i := 0) F hS f_M_73 ct_M h20 rfl rfl (Nat.le_of_ble_eq_true rfl) d_M_op_64 (fun H locs hS => ?_)
    have hS : HS G s (uV V 20 0 (a1, oM A (nI m0) (nI ne) dy 1 qs (nI nk) hs hd pu st nx an)) H _ := hS
    refine lv_aload_n hx hb d_M_op_67 rfl (lv_at hl 0 rfl) ?_
    refine r_get (k := 20) (i := 0) F hS f_M_73.get (uV_self V 20 0 (a1, oM A (nI m0) (nI ne) dy 1 qs (nI nk) hs hd pu st nx an)) rfl d_M_op_68 ?_
    refine lv_if_eq (tgt := 76) hx hb d_M_op_71 (by decide) (fun z => absurd z (by decide)) (fun _ => ?_)
    refine lv_iconst (v := 0) hx hb d_M_op_74 (by decide) ?_
    exact m_reti F hr hS (Nat.le_of_ble_eq_true rfl) (Nat.le_of_ble_eq_true rfl) (Or.inl ⟨hz_3.f c_6, rfl, ⟨pu, st, nx, an, g, gv, rfl, h21, h22, h23, h24, h25, h26, h27, h28, h29, h30, h31, h32, h33, h34, h35, h36, h37, h38⟩, (by repeat' first | exact INN.rf | refine INN.u ?_ (by decide) (by decide))⟩) d_M_op_75
set_option maxHeartbeats 4000000 in
set_option maxRecDepth 100000 in
theorem k_M_takes (G : Gl) (l : Launch) (htr : l.stackTraces = false) (V : Vw) (o : Nat) (ho : o ≤ 10)  :
    Cm G l y_M_takes b_M_takes 1 (Option.some Jvm.ClassFile.FieldType.int) { frames := 0, cells := 0, slots := 0, locals := 0 } V [.int (nI o)] (fun rv V' => rv = some (.int (nI (pNeed o))) ∧ V' = V) := by
  refine Cm.of htr (by decide) (Nat.le_of_ble_eq_true rfl) ?_
  intro p e s m args below meth c ls F hr hnm hS hl
  obtain ⟨hx, hb, hml, hown, hts, hK, hlk, -⟩ := id F
  have hl : lv_has ls 1 [(0, .int (nI o))] := hl
  rcases (show o = 0 ∨ o = 1 ∨ o = 2 ∨ o = 3 ∨ o = 4 ∨ o = 5 ∨ o = 6 ∨ o = 7 ∨ o = 8 ∨ o = 9 ∨ o = 10 by omega) with rfl | rfl | rfl | rfl | rfl | rfl | rfl | rfl | rfl | rfl | rfl
  · refine lv_iload_n hx hb d_M_takes_0 rfl (lv_at hl 0 rfl) ?_
    refine lv_iconst (v := 2) hx hb d_M_takes_1 (by decide) ?_
    refine lv_icmp_lt (tgt := 15) hx hb d_M_takes_2 (by decide) (fun _ => ?_) (fun z => absurd z (by decide))
    refine lv_iload_n hx hb d_M_takes_15 rfl (lv_at hl 0 rfl) ?_
    refine lv_bipush (v := 7) hx hb d_M_takes_16 (by decide) ?_
    refine lv_icmp_lt (tgt := 31) hx hb d_M_takes_18 (by decide) (fun _ => ?_) (fun z => absurd z (by decide))
    refine lv_iconst (v := 0) hx hb d_M_takes_31 (by decide) ?_
    exact m_reti F hr hS (Nat.le_of_ble_eq_true rfl) (Nat.le_of_ble_eq_true rfl) ⟨rfl, rfl⟩ d_M_takes_32
  · refine lv_iload_n hx hb d_M_takes_0 rfl (lv_at hl 0 rfl) ?_
    refine lv_iconst (v := 2) hx hb d_M_takes_1 (by decide) ?_
    refine lv_icmp_lt (tgt := 15) hx hb d_M_takes_2 (by decide) (fun _ => ?_) (fun z => absurd z (by decide))
    refine lv_iload_n hx hb d_M_takes_15 rfl (lv_at hl 0 rfl) ?_
    refine lv_bipush (v := 7) hx hb d_M_takes_16 (by decide) ?_
    refine lv_icmp_lt (tgt := 31) hx hb d_M_takes_18 (by decide) (fun _ => ?_) (fun z => absurd z (by decide))
    refine lv_iconst (v := 0) hx hb d_M_takes_31 (by decide) ?_
    exact m_reti F hr hS (Nat.le_of_ble_eq_true rfl) (Nat.le_of_ble_eq_true rfl) ⟨rfl, rfl⟩ d_M_takes_32
  · refine lv_iload_n hx hb d_M_takes_0 rfl (lv_at hl 0 rfl) ?_
    refine lv_iconst (v := 2) hx hb d_M_takes_1 (by decide) ?_
    refine lv_icmp_lt (tgt := 15) hx hb d_M_takes_2 (by decide) (fun z => absurd z (by decide)) (fun _ => ?_)
    refine lv_iload_n hx hb d_M_takes_5 rfl (lv_at hl 0 rfl) ?_
    refine lv_bipush (v := 6) hx hb d_M_takes_6 (by decide) ?_
    refine lv_icmp_gt (tgt := 15) hx hb d_M_takes_8 (by decide) (fun z => absurd z (by decide)) (fun _ => ?_)
    refine lv_iconst (v := 2) hx hb d_M_takes_11 (by decide) ?_
    refine lv_goto (tgt := 32) hx hb d_M_takes_12 (by decide) ?_
    exact m_reti F hr hS (Nat.le_of_ble_eq_true rfl) (Nat.le_of_ble_eq_true rfl) ⟨rfl, rfl⟩ d_M_takes_32
  · refine lv_iload_n hx hb d_M_takes_0 rfl (lv_at hl 0 rfl) ?_
    refine lv_iconst (v := 2) hx hb d_M_takes_1 (by decide) ?_
    refine lv_icmp_lt (tgt := 15) hx hb d_M_takes_2 (by decide) (fun z => absurd z (by decide)) (fun _ => ?_)
    refine lv_iload_n hx hb d_M_takes_5 rfl (lv_at hl 0 rfl) ?_
    refine lv_bipush (v := 6) hx hb d_M_takes_6 (by decide) ?_
    refine lv_icmp_gt (tgt := 15) hx hb d_M_takes_8 (by decide) (fun z => absurd z (by decide)) (fun _ => ?_)
    refine lv_iconst (v := 2) hx hb d_M_takes_11 (by decide) ?_
    refine lv_goto (tgt := 32) hx hb d_M_takes_12 (by decide) ?_
    exact m_reti F hr hS (Nat.le_of_ble_eq_true rfl) (Nat.le_of_ble_eq_true rfl) ⟨rfl, rfl⟩ d_M_takes_32
  · refine lv_iload_n hx hb d_M_takes_0 rfl (lv_at hl 0 rfl) ?_
    refine lv_iconst (v := 2) hx hb d_M_takes_1 (by decide) ?_
    refine lv_icmp_lt (tgt := 15) hx hb d_M_takes_2 (by decide) (fun z => absurd z (by decide)) (fun _ => ?_)
    refine lv_iload_n hx hb d_M_takes_5 rfl (lv_at hl 0 rfl) ?_
    refine lv_bipush (v := 6) hx hb d_M_takes_6 (by decide) ?_
    refine lv_icmp_gt (tgt := 15) hx hb d_M_takes_8 (by decide) (fun z => absurd z (by decide)) (fun _ => ?_)
    refine lv_iconst (v := 2) hx hb d_M_takes_11 (by decide) ?_
    refine lv_goto (tgt := 32) hx hb d_M_takes_12 (by decide) ?_
    exact m_reti F hr hS (Nat.le_of_ble_eq_true rfl) (Nat.le_of_ble_eq_true rfl) ⟨rfl, rfl⟩ d_M_takes_32
  · refine lv_iload_n hx hb d_M_takes_0 rfl (lv_at hl 0 rfl) ?_
    refine lv_iconst (v := 2) hx hb d_M_takes_1 (by decide) ?_
    refine lv_icmp_lt (tgt := 15) hx hb d_M_takes_2 (by decide) (fun z => absurd z (by decide)) (fun _ => ?_)
    refine lv_iload_n hx hb d_M_takes_5 rfl (lv_at hl 0 rfl) ?_
    refine lv_bipush (v := 6) hx hb d_M_takes_6 (by decide) ?_
    refine lv_icmp_gt (tgt := 15) hx hb d_M_takes_8 (by decide) (fun z => absurd z (by decide)) (fun _ => ?_)
    refine lv_iconst (v := 2) hx hb d_M_takes_11 (by decide) ?_
    refine lv_goto (tgt := 32) hx hb d_M_takes_12 (by decide) ?_
    exact m_reti F hr hS (Nat.le_of_ble_eq_true rfl) (Nat.le_of_ble_eq_true rfl) ⟨rfl, rfl⟩ d_M_takes_32
  · refine lv_iload_n hx hb d_M_takes_0 rfl (lv_at hl 0 rfl) ?_
    refine lv_iconst (v := 2) hx hb d_M_takes_1 (by decide) ?_
    refine lv_icmp_lt (tgt := 15) hx hb d_M_takes_2 (by decide) (fun z => absurd z (by decide)) (fun _ => ?_)
    refine lv_iload_n hx hb d_M_takes_5 rfl (lv_at hl 0 rfl) ?_
    refine lv_bipush (v := 6) hx hb d_M_takes_6 (by decide) ?_
    refine lv_icmp_gt (tgt := 15) hx hb d_M_takes_8 (by decide) (fun z => absurd z (by decide)) (fun _ => ?_)
    refine lv_iconst (v := 2) hx hb d_M_takes_11 (by decide) ?_
    refine lv_goto (tgt := 32) hx hb d_M_takes_12 (by decide) ?_
    exact m_reti F hr hS (Nat.le_of_ble_eq_true rfl) (Nat.le_of_ble_eq_true rfl) ⟨rfl, rfl⟩ d_M_takes_32
  · refine lv_iload_n hx hb d_M_takes_0 rfl (lv_at hl 0 rfl) ?_
    refine lv_iconst (v := 2) hx hb d_M_takes_1 (by decide) ?_
    refine lv_icmp_lt (tgt := 15) hx hb d_M_takes_2 (by decide) (fun z => absurd z (by decide)) (fun _ => ?_)
    refine lv_iload_n hx hb d_M_takes_5 rfl (lv_at hl 0 rfl) ?_
    refine lv_bipush (v := 6) hx hb d_M_takes_6 (by decide) ?_
    refine lv_icmp_gt (tgt := 15) hx hb d_M_takes_8 (by decide) (fun _ => ?_) (fun z => absurd z (by decide))
    refine lv_iload_n hx hb d_M_takes_15 rfl (lv_at hl 0 rfl) ?_
    refine lv_bipush (v := 7) hx hb d_M_takes_16 (by decide) ?_
    refine lv_icmp_lt (tgt := 31) hx hb d_M_takes_18 (by decide) (fun z => absurd z (by decide)) (fun _ => ?_)
    refine lv_iload_n hx hb d_M_takes_21 rfl (lv_at hl 0 rfl) ?_
    refine lv_bipush (v := 9) hx hb d_M_takes_22 (by decide) ?_
    refine lv_icmp_gt (tgt := 31) hx hb d_M_takes_24 (by decide) (fun z => absurd z (by decide)) (fun _ => ?_)
    refine lv_iconst (v := 1) hx hb d_M_takes_27 (by decide) ?_
    refine lv_goto (tgt := 32) hx hb d_M_takes_28 (by decide) ?_
    exact m_reti F hr hS (Nat.le_of_ble_eq_true rfl) (Nat.le_of_ble_eq_true rfl) ⟨rfl, rfl⟩ d_M_takes_32
  · refine lv_iload_n hx hb d_M_takes_0 rfl (lv_at hl 0 rfl) ?_
    refine lv_iconst (v := 2) hx hb d_M_takes_1 (by decide) ?_
    refine lv_icmp_lt (tgt := 15) hx hb d_M_takes_2 (by decide) (fun z => absurd z (by decide)) (fun _ => ?_)
    refine lv_iload_n hx hb d_M_takes_5 rfl (lv_at hl 0 rfl) ?_
    refine lv_bipush (v := 6) hx hb d_M_takes_6 (by decide) ?_
    refine lv_icmp_gt (tgt := 15) hx hb d_M_takes_8 (by decide) (fun _ => ?_) (fun z => absurd z (by decide))
    refine lv_iload_n hx hb d_M_takes_15 rfl (lv_at hl 0 rfl) ?_
    refine lv_bipush (v := 7) hx hb d_M_takes_16 (by decide) ?_
    refine lv_icmp_lt (tgt := 31) hx hb d_M_takes_18 (by decide) (fun z => absurd z (by decide)) (fun _ => ?_)
    refine lv_iload_n hx hb d_M_takes_21 rfl (lv_at hl 0 rfl) ?_
    refine lv_bipush (v := 9) hx hb d_M_takes_22 (by decide) ?_
    refine lv_icmp_gt (tgt := 31) hx hb d_M_takes_24 (by decide) (fun z => absurd z (by decide)) (fun _ => ?_)
    refine lv_iconst (v := 1) hx hb d_M_takes_27 (by decide) ?_
    refine lv_goto (tgt := 32) hx hb d_M_takes_28 (by decide) ?_
    exact m_reti F hr hS (Nat.le_of_ble_eq_true rfl) (Nat.le_of_ble_eq_true rfl) ⟨rfl, rfl⟩ d_M_takes_32
  · refine lv_iload_n hx hb d_M_takes_0 rfl (lv_at hl 0 rfl) ?_
    refine lv_iconst (v := 2) hx hb d_M_takes_1 (by decide) ?_
    refine lv_icmp_lt (tgt := 15) hx hb d_M_takes_2 (by decide) (fun z => absurd z (by decide)) (fun _ => ?_)
    refine lv_iload_n hx hb d_M_takes_5 rfl (lv_at hl 0 rfl) ?_
    refine lv_bipush (v := 6) hx hb d_M_takes_6 (by decide) ?_
    refine lv_icmp_gt (tgt := 15) hx hb d_M_takes_8 (by decide) (fun _ => ?_) (fun z => absurd z (by decide))
    refine lv_iload_n hx hb d_M_takes_15 rfl (lv_at hl 0 rfl) ?_
    refine lv_bipush (v := 7) hx hb d_M_takes_16 (by decide) ?_
    refine lv_icmp_lt (tgt := 31) hx hb d_M_takes_18 (by decide) (fun z => absurd z (by decide)) (fun _ => ?_)
    refine lv_iload_n hx hb d_M_takes_21 rfl (lv_at hl 0 rfl) ?_
    refine lv_bipush (v := 9) hx hb d_M_takes_22 (by decide) ?_
    refine lv_icmp_gt (tgt := 31) hx hb d_M_takes_24 (by decide) (fun z => absurd z (by decide)) (fun _ => ?_)
    refine lv_iconst (v := 1) hx hb d_M_takes_27 (by decide) ?_
    refine lv_goto (tgt := 32) hx hb d_M_takes_28 (by decide) ?_
    exact m_reti F hr hS (Nat.le_of_ble_eq_true rfl) (Nat.le_of_ble_eq_true rfl) ⟨rfl, rfl⟩ d_M_takes_32
  · refine lv_iload_n hx hb d_M_takes_0 rfl (lv_at hl 0 rfl) ?_
    refine lv_iconst (v := 2) hx hb d_M_takes_1 (by decide) ?_
    refine lv_icmp_lt (tgt := 15) hx hb d_M_takes_2 (by decide) (fun z => absurd z (by decide)) (fun _ => ?_)
    refine lv_iload_n hx hb d_M_takes_5 rfl (lv_at hl 0 rfl) ?_
    refine lv_bipush (v := 6) hx hb d_M_takes_6 (by decide) ?_
    refine lv_icmp_gt (tgt := 15) hx hb d_M_takes_8 (by decide) (fun _ => ?_) (fun z => absurd z (by decide))
    refine lv_iload_n hx hb d_M_takes_15 rfl (lv_at hl 0 rfl) ?_
    refine lv_bipush (v := 7) hx hb d_M_takes_16 (by decide) ?_
    refine lv_icmp_lt (tgt := 31) hx hb d_M_takes_18 (by decide) (fun z => absurd z (by decide)) (fun _ => ?_)
    refine lv_iload_n hx hb d_M_takes_21 rfl (lv_at hl 0 rfl) ?_
    refine lv_bipush (v := 9) hx hb d_M_takes_22 (by decide) ?_
    refine lv_icmp_gt (tgt := 31) hx hb d_M_takes_24 (by decide) (fun _ => ?_) (fun z => absurd z (by decide))
    refine lv_iconst (v := 0) hx hb d_M_takes_31 (by decide) ?_
    exact m_reti F hr hS (Nat.le_of_ble_eq_true rfl) (Nat.le_of_ble_eq_true rfl) ⟨rfl, rfl⟩ d_M_takes_32
set_option maxHeartbeats 4000000 in
set_option maxRecDepth 100000 in
theorem k_M_valueOf (G : Gl) (l : Launch) (htr : l.stackTraces = false) (V : Vw) (a1 : Nat) (A : Nat → Nat) (m0 ne nk : Nat) (dy th qs hs hd : Int32) (pu st nx : Int32) (an : Int64) (mak gv : Nat → Int32) (i o : Nat) (cn : Int32) (lo up : Int64) (hi : i < 24) (ho : o ≤ 7 ∨ o = 10) (ho1 : o = 1 → ∃ c1 : Nat, c1 < 8 ∧ cn = nI c1) (ho5 : o = 5 → ¬ up = 0) (h20 : V 20 0 = some (a1, oM A (nI m0) (nI ne) dy th qs (nI nk) hs hd pu st nx an)) (h25 : V 25 0 = some ((A 25), aI G 24 mak)) (h38 : V 38 0 = some ((A 38), aI G 8 gv)) :
    Cm G l y_M_valueOf b_M_valueOf 8 (Option.some Jvm.ClassFile.FieldType.long) { frames := 0, cells := 0, slots := 0, locals := 0 } V [.ref a1, .int (nI i), .int (nI o), .int cn, .long lo, .long up] (fun rv V' => rv = some (.long (pVal o cn (gv cn.toNatClampNeg) lo up (mak i))) ∧ V' = V) := by
  refine Cm.of htr (by decide) (Nat.le_of_ble_eq_true rfl) ?_
  intro p e s m args below meth c ls F hr hnm hS hl
  obtain ⟨hx, hb, hml, hown, hts, hK, hlk, -⟩ := id F
  have hl : lv_has ls 8 [(0, .ref a1), (1, .int (nI i)), (2, .int (nI o)), (3, .int cn), (4, .long lo), (6, .long up)] := hl
  refine lv_iload_n hx hb d_M_valueOf_0 rfl (lv_at hl 2 rfl) ?_
  rcases (show o = 0 ∨ o = 1 ∨ o = 2 ∨ o = 3 ∨ o = 4 ∨ o = 5 ∨ o = 6 ∨ o = 7 ∨ o = 10 by (clear ho1; omega)) with rfl | rfl | rfl | rfl | rfl | rfl | rfl | rfl | rfl
  · refine lv_tableIn (tgt := 48) (off := 47) hx hb d_M_valueOf_1 (by decide) (by decide) (by decide) (by decide) ?_
    refine lv_iload_n hx hb d_M_valueOf_48 rfl (lv_at hl 3 rfl) ?_
    refine lv_i2l (v := cn.toInt64) hx hb d_M_valueOf_49 rfl ?_
    exact m_retl F hr hS (Nat.le_of_ble_eq_true rfl) (Nat.le_of_ble_eq_true rfl) ⟨rfl, rfl⟩ d_M_valueOf_50
  · refine lv_tableIn (tgt := 51) (off := 50) hx hb d_M_valueOf_1 (by decide) (by decide) (by decide) (by decide) ?_
    refine lv_aload_n hx hb d_M_valueOf_51 rfl (lv_at hl 0 rfl) ?_
    refine r_get (k := 20) (i := 0) F hS f_M_67.get h20 rfl d_M_valueOf_52 ?_
    refine lv_iload_n hx hb d_M_valueOf_55 rfl (lv_at hl 3 rfl) ?_
    refine r_iald (k := 38) (i := 0) F hS h38 (by obtain ⟨c1, hc8, hc9⟩ := ho1 rfl; rw [hc9]; exact vp_in_nI hc8 (by decide)) d_M_valueOf_56 ?_
    refine lv_i2l (v := (gv cn.toNatClampNeg).toInt64) hx hb d_M_valueOf_57 rfl ?_
    exact m_retl F hr hS (Nat.le_of_ble_eq_true rfl) (Nat.le_of_ble_eq_true rfl) ⟨rfl, rfl⟩ d_M_valueOf_58
  · refine lv_tableIn (tgt := 59) (off := 58) hx hb d_M_valueOf_1 (by decide) (by decide) (by decide) (by decide) ?_
    refine lv_lload hx hb d_M_valueOf_59 (lv_at hl 4 rfl) ?_
    refine lv_lload hx hb d_M_valueOf_61 (lv_at hl 5 rfl) ?_
    refine lv_ladd hx hb d_M_valueOf_63 ?_
    exact m_retl F hr hS (Nat.le_of_ble_eq_true rfl) (Nat.le_of_ble_eq_true rfl) ⟨rfl, rfl⟩ d_M_valueOf_64
  · refine lv_tableIn (tgt := 65) (off := 64) hx hb d_M_valueOf_1 (by decide) (by decide) (by decide) (by decide) ?_
    refine lv_lload hx hb d_M_valueOf_65 (lv_at hl 4 rfl) ?_
    refine lv_lload hx hb d_M_valueOf_67 (lv_at hl 5 rfl) ?_
    refine lv_lsub hx hb d_M_valueOf_69 ?_
    exact m_retl F hr hS (Nat.le_of_ble_eq_true rfl) (Nat.le_of_ble_eq_true rfl) ⟨rfl, rfl⟩ d_M_valueOf_70
  · refine lv_tableIn (tgt := 71) (off := 70) hx hb d_M_valueOf_1 (by decide) (by decide) (by decide) (by decide) ?_
    refine lv_lload hx hb d_M_valueOf_71 (lv_at hl 4 rfl) ?_
    refine lv_lload hx hb d_M_valueOf_73 (lv_at hl 5 rfl) ?_
    refine lv_lmul hx hb d_M_valueOf_75 ?_
    exact m_retl F hr hS (Nat.le_of_ble_eq_true rfl) (Nat.le_of_ble_eq_true rfl) ⟨rfl, rfl⟩ d_M_valueOf_76
  · refine lv_tableIn (tgt := 77) (off := 76) hx hb d_M_valueOf_1 (by decide) (by decide) (by decide) (by decide) ?_
    refine lv_lload hx hb d_M_valueOf_77 (lv_at hl 4 rfl) ?_
    refine lv_lload hx hb d_M_valueOf_79 (lv_at hl 5 rfl) ?_
    refine lv_ldiv hx hb d_M_valueOf_81 (ho5 rfl) ?_
    exact m_retl F hr hS (Nat.le_of_ble_eq_true rfl) (Nat.le_of_ble_eq_true rfl) ⟨rfl, rfl⟩ d_M_valueOf_82
  · refine lv_tableIn (tgt := 83) (off := 82) hx hb d_M_valueOf_1 (by decide) (by decide) (by decide) (by decide) ?_
    refine lv_lload hx hb d_M_valueOf_83 (lv_at hl 4 rfl) ?_
    refine lv_lload hx hb d_M_valueOf_85 (lv_at hl 5 rfl) ?_
    refine W.lcmp hx hb d_M_valueOf_87 ?_
    refine lv_if_ge (tgt := 95) hx hb d_M_valueOf_88 (by decide) (fun c_88 => ?_) (fun c_88 => ?_)
    · have hp : pVal 6 cn (gv cn.toNatClampNeg) lo up (mak i) = 0 := if_neg (Int64.not_lt.mpr ((lg_cmp_ge _ _).mp c_88))
      refine lv_lconst (v := 0) hx hb d_M_valueOf_95 (by decide) ?_
      exact m_retl F hr hS (Nat.le_of_ble_eq_true rfl) (Nat.le_of_ble_eq_true rfl) (by rw [hp]; exact ⟨rfl, rfl⟩) d_M_valueOf_96
    · have hp : pVal 6 cn (gv cn.toNatClampNeg) lo up (mak i) = 1 := if_pos (Int64.not_le.mp (fun z => c_88 ((lg_cmp_ge _ _).mpr z)))
      refine lv_lconst (v := 1) hx hb d_M_valueOf_91 (by decide) ?_
      refine lv_goto (tgt := 96) hx hb d_M_valueOf_92 (by decide) ?_
      exact m_retl F hr hS (Nat.le_of_ble_eq_true rfl) (Nat.le_of_ble_eq_true rfl) (by rw [hp]; exact ⟨rfl, rfl⟩) d_M_valueOf_96
  · refine lv_tableIn (tgt := 97) (off := 96) hx hb d_M_valueOf_1 (by decide) (by decide) (by decide) (by decide) ?_
    refine lv_lload hx hb d_M_valueOf_97 (lv_at hl 5 rfl) ?_
    exact m_retl F hr hS (Nat.le_of_ble_eq_true rfl) (Nat.le_of_ble_eq_true rfl) ⟨rfl, rfl⟩ d_M_valueOf_99
  · refine lv_tableOut (tgt := 100) hx hb d_M_valueOf_1 (by decide) (by decide) ?_
    refine lv_aload_n hx hb d_M_valueOf_100 rfl (lv_at hl 0 rfl) ?_
    refine r_get (k := 20) (i := 0) F hS f_M_27.get h20 rfl d_M_valueOf_101 ?_
    refine lv_iload_n hx hb d_M_valueOf_104 rfl (lv_at hl 1 rfl) ?_
    refine r_iald (k := 25) (i := 0) F hS h25 (vp_in_nI hi (by decide)) d_M_valueOf_105 ?_
    rw [nI_clamp (by omega)]
    refine lv_i2l (v := (mak i).toInt64) hx hb d_M_valueOf_106 rfl ?_
    exact m_retl F hr hS (Nat.le_of_ble_eq_true rfl) (Nat.le_of_ble_eq_true rfl) ⟨rfl, rfl⟩ d_M_valueOf_107
set_option maxHeartbeats 16000000 in
set_option maxRecDepth 100000 in
theorem k_M_step (G : Gl) (l : Launch) (htr : l.stackTraces = false) (V : Vw) (a1 : Nat) (A : Nat → Nat) (m0 ne nk : Nat) (dy th qs hs hd : Int32) (an : Int64) (mak mmn mpo mcs gv fa : Nat → Int32) (g : Nat → Int64) (f : Nat → Int32) (i h sn j o ln : Nat) (cn an9 : Int32) (hi : i < 24) (hh : h ≤ 8) (hsn : sn < m0) (hm : m0 ≤ 1000) (hj : j < ln) (hln : ln ≤ 16) (hmn : mmn i = nI ln) (ho : o ≤ 10) (hop : mpo (16 * i + j) = nI o) (hcn : mcs (16 * i + j) = cn) (hc1 : o = 1 → ∃ c1 : Nat, c1 < 8 ∧ cn = nI c1 ∧ gv c1 = fa c1) (hg : ∀ q, q < h → g q = (f q).toInt64) (h20 : V 20 0 = some (a1, oM A (nI m0) (nI ne) dy th qs (nI nk) hs hd (nI h) (nI sn) (nI j) an)) (h25 : V 25 0 = some ((A 25), aI G 24 mak)) (h28 : V 28 0 = some ((A 28), aI G 24 mmn)) (h29 : V 29 0 = some ((A 29), aI G 384 mpo)) (h30 : V 30 0 = some ((A 30), aI G 384 mcs)) (h37 : V 37 0 = some ((A 37), aL G 8 g)) (h38 : V 38 0 = some ((A 38), aI G 8 gv)) :
    Cm G l y_M_step b_M_step 10 (Option.some Jvm.ClassFile.FieldType.int) { frames := 1, cells := 0, slots := 0, locals := 27 } V [.ref a1, .int (nI i)] (fun rv V' => SP G V a1 A (nI m0) (nI ne) dy th qs (nI nk) hs hd (nI (sn + 1)) an (pStep o cn fa (mak i) h (nI (j + 1)) an9 f) rv V') := by
  refine Cm.of htr (by decide) (Nat.le_of_ble_eq_true rfl) ?_
  intro p e s m args below meth c ls F hr hnm hS hl
  obtain ⟨hx, hb, hml, hown, hts, hK, hlk, -⟩ := id F
  have hl : lv_has ls 10 [(0, .ref a1), (1, .int (nI i))] := hl
  refine lv_aload_n hx hb d_M_step_0 rfl (lv_at hl 0 rfl) ?_
  refine r_get (k := 20) (i := 0) F hS f_M_97.get h20 rfl d_M_step_1 ?_
  refine lv_aload_n hx hb d_M_step_4 rfl (lv_at hl 0 rfl) ?_
  refine r_get (k := 20) (i := 0) F hS f_M_70.get h20 rfl d_M_step_5 ?_
  refine lv_icmp_ne (tgt := 13) hx hb d_M_step_8 (by decide) (fun c_8 => ?_) (fun c_8 => absurd c_8 (fun z => absurd ((nI_eq (by omega) (by omega)).mp z) (by omega)))
  refine lv_aload_n hx hb d_M_step_13 rfl (lv_at hl 0 rfl) ?_
  refine r_get (k := 20) (i := 0) F hS f_M_100.get h20 rfl d_M_step_14 ?_
  refine lv_aload_n hx hb d_M_step_17 rfl (lv_at hl 0 rfl) ?_
  refine r_get (k := 20) (i := 0) F hS f_M_36.get h20 rfl d_M_step_18 ?_
  refine lv_iload_n hx hb d_M_step_21 rfl (lv_at hl 1 rfl) ?_
  refine r_iald (k := 28) (i := 0) F hS h28 (vp_in_nI hi (by decide)) d_M_step_22 ?_
  rw [nI_clamp (by omega), hmn]
  refine lv_icmp_lt (tgt := 28) hx hb d_M_step_23 (by decide) (fun c_23 => ?_) (fun c_23 => absurd (nI_lt hj (by omega)) c_23)
  refine lv_aload_n hx hb d_M_step_28 rfl (lv_at hl 0 rfl) ?_
  refine r_get (k := 20) (i := 0) F hS f_M_39.get h20 rfl d_M_step_29 ?_
  refine lv_bipush (v := 16) hx hb d_M_step_32 (by decide) ?_
  refine lv_iload_n hx hb d_M_step_34 rfl (lv_at hl 1 rfl) ?_
  refine lv_imul hx hb d_M_step_35 ?_
  refine lv_aload_n hx hb d_M_step_36 rfl (lv_at hl 0 rfl) ?_
  refine r_get (k := 20) (i := 0) F hS f_M_100.get h20 rfl d_M_step_37 ?_
  refine lv_iadd hx hb d_M_step_40 ?_
  rw [show (16 : Int32) * nI i + nI j = nI (16 * i + j) from nI_ma 16 i j]
  refine r_iald (k := 29) (i := 0) F hS h29 (vp_in_nI (by omega) (by decide)) d_M_step_41 ?_
  rw [nI_clamp (by omega), hop]
  refine lv_istore_n (lv' := [(2, .int (nI o)), (0, .ref a1), (1, .int (nI i))]) hx hb d_M_step_42 rfl hl (by decide) rfl (fun ls hl => ?_)
  refine lv_aload_n hx hb d_M_step_43 rfl (lv_at hl 1 rfl) ?_
  refine r_get (k := 20) (i := 0) F hS f_M_42.get h20 rfl d_M_step_44 ?_
  refine lv_bipush (v := 16) hx hb d_M_step_47 (by decide) ?_
  refine lv_iload_n hx hb d_M_step_49 rfl (lv_at hl 2 rfl) ?_
  refine lv_imul hx hb d_M_step_50 ?_
  refine lv_aload_n hx hb d_M_step_51 rfl (lv_at hl 1 rfl) ?_
  refine r_get (k := 20) (i := 0) F hS f_M_100.get h20 rfl d_M_step_52 ?_
  refine lv_iadd hx hb d_M_step_55 ?_
  rw [show (16 : Int32) * nI i + nI j = nI (16 * i + j) from nI_ma 16 i j]
  refine r_iald (k := 30) (i := 0) F hS h30 (vp_in_nI (by omega) (by decide)) d_M_step_56 ?_
  rw [nI_clamp (by omega), hcn]
  refine lv_istore_n (lv' := [(3, .int cn), (2, .int (nI o)), (0, .ref a1), (1, .int (nI i))]) hx hb d_M_step_57 rfl hl (by decide) rfl (fun ls hl => ?_)
  rcases (show o = 0 ∨ o = 1 ∨ o = 2 ∨ o = 3 ∨ o = 4 ∨ o = 5 ∨ o = 6 ∨ o = 7 ∨ o = 8 ∨ o = 9 ∨ o = 10 by omega) with rfl | rfl | rfl | rfl | rfl | rfl | rfl | rfl | rfl | rfl | rfl
  · refine lv_aload_n hx hb d_M_step_58 rfl (lv_at hl 2 rfl) ?_
    refine lv_dup hx hb d_M_step_59 rfl ?_
    refine r_get (k := 20) (i := 0) F hS f_M_97.get h20 rfl d_M_step_60 ?_
    refine lv_iconst (v := 1) hx hb d_M_step_63 (by decide) ?_
    refine lv_iadd hx hb d_M_step_64 ?_
    rw [nI_1]
    refine r_put (k := 20) (i := 0) F hS f_M_97 ct_M h20 rfl rfl (Nat.le_of_ble_eq_true rfl) d_M_step_65 (fun H locs hS => ?_)
    have hS : HS G s (uV V 20 0 (a1, oM A (nI m0) (nI ne) dy th qs (nI nk) hs hd (nI h) (nI (sn + 1)) (nI j) an)) H _ := hS
    refine lv_aload_n hx hb d_M_step_68 rfl (lv_at hl 2 rfl) ?_
    refine lv_dup hx hb d_M_step_69 rfl ?_
    refine r_get (k := 20) (i := 0) F hS f_M_100.get (uV_self V 20 0 (a1, oM A (nI m0) (nI ne) dy th qs (nI nk) hs hd (nI h) (nI (sn + 1)) (nI j) an)) rfl d_M_step_70 ?_
    refine lv_iconst (v := 1) hx hb d_M_step_73 (by decide) ?_
    refine lv_iadd hx hb d_M_step_74 ?_
    rw [nI_1]
    refine r_put (k := 20) (i := 0) F hS f_M_100 ct_M (uV_self V 20 0 (a1, oM A (nI m0) (nI ne) dy th qs (nI nk) hs hd (nI h) (nI (sn + 1)) (nI j) an)) rfl rfl (Nat.le_of_ble_eq_true rfl) d_M_step_75 (fun H locs hS => ?_)
    rw [uV_uV] at hS
    have hS : HS G s (uV V 20 0 (a1, oM A (nI m0) (nI ne) dy th qs (nI nk) hs hd (nI h) (nI (sn + 1)) (nI (j + 1)) an)) H _ := hS
    refine lv_aload_n hx hb d_M_step_78 rfl (lv_at hl 2 rfl) ?_
    refine r_get (k := 20) (i := 0) F hS f_M_103.get (uV_self V 20 0 (a1, oM A (nI m0) (nI ne) dy th qs (nI nk) hs hd (nI h) (nI (sn + 1)) (nI (j + 1)) an)) rfl d_M_step_79 ?_
    refine lv_iload_n hx hb d_M_step_82 rfl (lv_at hl 1 rfl) ?_
    refine r_callS (As := [.int (nI 0)]) (rest := [.int (nI h)]) F hS c_M_106 (k_M_takes G l htr (uV V 20 0 (a1, oM A (nI m0) (nI ne) dy th qs (nI nk) hs hd (nI h) (nI (sn + 1)) (nI (j + 1)) an)) 0 (by decide)) rfl hl.1 rfl (Nat.le_of_ble_eq_true rfl) d_M_step_83 ⟨Nat.le_of_ble_eq_true rfl, Nat.le_of_ble_eq_true rfl⟩ ⟨Nat.le_of_ble_eq_true rfl, Nat.le_of_ble_eq_true rfl⟩ (fun rv V1 H locs hR hS => ?_)
    obtain ⟨rfl, hV⟩ := hR
    rw [hV] at hS
    refine W.eq (g2 := F0 m 86 ls [.int 0, .int (nI h)]) rfl ?_
    have hs0 : ¬ h < pNeed 0 := Nat.not_lt.mpr (Nat.zero_le _)
    refine lv_icmp_ge (tgt := 91) hx hb d_M_step_86 (by decide) (fun c_86 => ?_) (fun c_86 => absurd (nI_pos' (by omega)) c_86)
    refine lv_iload_n hx hb d_M_step_91 rfl (lv_at hl 1 rfl) ?_
    refine r_callS (As := [.int (nI 0)]) (rest := []) F hS c_M_106 (k_M_takes G l htr (uV V 20 0 (a1, oM A (nI m0) (nI ne) dy th qs (nI nk) hs hd (nI h) (nI (sn + 1)) (nI (j + 1)) an)) 0 (by decide)) rfl hl.1 rfl (Nat.le_of_ble_eq_true rfl) d_M_step_92 ⟨Nat.le_of_ble_eq_true rfl, Nat.le_of_ble_eq_true rfl⟩ ⟨Nat.le_of_ble_eq_true rfl, Nat.le_of_ble_eq_true rfl⟩ (fun rv V1 H locs hR hS => ?_)
    obtain ⟨rfl, hV⟩ := hR
    rw [hV] at hS
    refine W.eq (g2 := F0 m 95 ls [.int 0]) rfl ?_
    refine lv_if_le (tgt := 112) hx hb d_M_step_95 (by decide) (fun _ => ?_) (fun z => absurd z (by decide))
    refine lv_lconst (v := 0) hx hb d_M_step_112 (by decide) ?_
    refine lv_lstore (lv' := [(4, .long 0), (3, .int cn), (2, .int (nI 0)), (0, .ref a1), (1, .int (nI i))]) hx hb d_M_step_113 hl (by decide) rfl (fun ls hl => ?_)
    refine lv_iload_n hx hb d_M_step_115 rfl (lv_at hl 2 rfl) ?_
    refine r_callS (As := [.int (nI 0)]) (rest := []) F hS c_M_106 (k_M_takes G l htr (uV V 20 0 (a1, oM A (nI m0) (nI ne) dy th qs (nI nk) hs hd (nI h) (nI (sn + 1)) (nI (j + 1)) an)) 0 (by decide)) rfl hl.1 rfl (Nat.le_of_ble_eq_true rfl) d_M_step_116 ⟨Nat.le_of_ble_eq_true rfl, Nat.le_of_ble_eq_true rfl⟩ ⟨Nat.le_of_ble_eq_true rfl, Nat.le_of_ble_eq_true rfl⟩ (fun rv V1 H locs hR hS => ?_)
    obtain ⟨rfl, hV⟩ := hR
    rw [hV] at hS
    refine W.eq (g2 := F0 m 119 ls [.int 0]) rfl ?_
    refine lv_iconst (v := 1) hx hb d_M_step_119 (by decide) ?_
    refine lv_icmp_le (tgt := 137) hx hb d_M_step_120 (by decide) (fun _ => ?_) (fun z => absurd z (by decide))
    refine lv_lconst (v := 0) hx hb d_M_step_137 (by decide) ?_
    refine lv_lstore (lv' := [(6, .long 0), (4, .long 0), (3, .int cn), (2, .int (nI 0)), (0, .ref a1), (1, .int (nI i))]) hx hb d_M_step_138 hl (by decide) rfl (fun ls hl => ?_)
    refine lv_iload_n hx hb d_M_step_140 rfl (lv_at hl 3 rfl) ?_
    refine lv_iconst (v := 5) hx hb d_M_step_141 (by decide) ?_
    refine lv_icmp_ne (tgt := 154) hx hb d_M_step_142 (by decide) (fun _ => ?_) (fun z => absurd z (by decide))
    refine lv_aload_n hx hb d_M_step_154 rfl (lv_at hl 4 rfl) ?_
    refine lv_dup hx hb d_M_step_155 rfl ?_
    refine r_get (k := 20) (i := 0) F hS f_M_103.get (uV_self V 20 0 (a1, oM A (nI m0) (nI ne) dy th qs (nI nk) hs hd (nI h) (nI (sn + 1)) (nI (j + 1)) an)) rfl d_M_step_156 ?_
    refine lv_iload_n hx hb d_M_step_159 rfl (lv_at hl 3 rfl) ?_
    refine lv_bipush (v := 7) hx hb d_M_step_160 (by decide) ?_
    refine lv_icmp_ne (tgt := 169) hx hb d_M_step_162 (by decide) (fun _ => ?_) (fun z => absurd z (by decide))
    refine lv_iload_n hx hb d_M_step_169 rfl (lv_at hl 3 rfl) ?_
    refine r_callS (As := [.int (nI 0)]) (rest := [.int (nI h), .ref a1]) F hS c_M_106 (k_M_takes G l htr (uV V 20 0 (a1, oM A (nI m0) (nI ne) dy th qs (nI nk) hs hd (nI h) (nI (sn + 1)) (nI (j + 1)) an)) 0 (by decide)) rfl hl.1 rfl (Nat.le_of_ble_eq_true rfl) d_M_step_170 ⟨Nat.le_of_ble_eq_true rfl, Nat.le_of_ble_eq_true rfl⟩ ⟨Nat.le_of_ble_eq_true rfl, Nat.le_of_ble_eq_true rfl⟩ (fun rv V1 H locs hR hS => ?_)
    obtain ⟨rfl, hV⟩ := hR
    rw [hV] at hS
    refine W.eq (g2 := F0 m 173 ls [.int 0, .int (nI h), .ref a1]) rfl ?_
    refine lv_isub hx hb d_M_step_173 ?_
    rw [show nI h - 0 = nI h from Int32.sub_zero _]
    refine r_put (k := 20) (i := 0) F hS f_M_103 ct_M (uV_self V 20 0 (a1, oM A (nI m0) (nI ne) dy th qs (nI nk) hs hd (nI h) (nI (sn + 1)) (nI (j + 1)) an)) rfl rfl (Nat.le_of_ble_eq_true rfl) d_M_step_174 (fun H locs hS => ?_)
    rw [uV_uV] at hS
    have hS : HS G s (uV V 20 0 (a1, oM A (nI m0) (nI ne) dy th qs (nI nk) hs hd (nI h) (nI (sn + 1)) (nI (j + 1)) an)) H _ := hS
    refine lv_iload_n hx hb d_M_step_177 rfl (lv_at hl 3 rfl) ?_
    refine lv_bipush (v := 9) hx hb d_M_step_178 (by decide) ?_
    refine lv_icmp_ne (tgt := 191) hx hb d_M_step_180 (by decide) (fun _ => ?_) (fun z => absurd z (by decide))
    refine lv_iload_n hx hb d_M_step_191 rfl (lv_at hl 3 rfl) ?_
    refine lv_bipush (v := 8) hx hb d_M_step_192 (by decide) ?_
    refine lv_icmp_ne (tgt := 211) hx hb d_M_step_194 (by decide) (fun _ => ?_) (fun z => absurd z (by decide))
    refine lv_aload_n hx hb d_M_step_211 rfl (lv_at hl 4 rfl) ?_
    refine lv_iload_n hx hb d_M_step_212 rfl (lv_at hl 5 rfl) ?_
    refine lv_iload_n hx hb d_M_step_213 rfl (lv_at hl 3 rfl) ?_
    refine lv_iload_n hx hb d_M_step_214 rfl (lv_at hl 2 rfl) ?_
    refine lv_lload hx hb d_M_step_215 (lv_at hl 0 rfl) ?_
    refine lv_lload hx hb d_M_step_217 (lv_at hl 1 rfl) ?_
    refine r_callV (k := 20) (i := 0) (q := ("RuleClassesModel", T_M, 30)) (fs := [.int (nI m0), .int (nI ne), .int dy, .int th, .int qs, .int (nI nk), .int hs, .int hd, .ref (A 21), .ref (A 22), .ref (A 23), .ref (A 24), .ref (A 25), .ref (A 26), .ref (A 27), .ref (A 28), .ref (A 29), .ref (A 30), .ref (A 31), .ref (A 32), .ref (A 33), .ref (A 34), .ref (A 35), .ref (A 36), .ref (A 37), .int (nI h), .int (nI (sn + 1)), .int (nI (j + 1)), .long an, .ref (A 38)]) (As := [.int (nI i), .int (nI 0), .int cn, .long 0, .long 0]) (rest := []) F hS c_M_114 (k_M_valueOf G l htr (uV V 20 0 (a1, oM A (nI m0) (nI ne) dy th qs (nI nk) hs hd (nI h) (nI (sn + 1)) (nI (j + 1)) an)) a1 A m0 ne nk dy th qs hs hd (nI h) (nI (sn + 1)) (nI (j + 1)) an mak gv i 0 cn 0 0 hi (by omega) (fun z => by obtain ⟨c9, a9, b9, _⟩ := hc1 z; exact ⟨c9, a9, b9⟩) (fun z => absurd z (by decide)) (uV_self V 20 0 (a1, oM A (nI m0) (nI ne) dy th qs (nI nk) hs hd (nI h) (nI (sn + 1)) (nI (j + 1)) an)) h25 h38) rfl (uV_self V 20 0 (a1, oM A (nI m0) (nI ne) dy th qs (nI nk) hs hd (nI h) (nI (sn + 1)) (nI (j + 1)) an)) rfl hl.1 rfl (Nat.le_of_ble_eq_true rfl) d_M_step_219 ⟨Nat.le_of_ble_eq_true rfl, Nat.le_of_ble_eq_true rfl⟩ ⟨Nat.le_of_ble_eq_true rfl, Nat.le_of_ble_eq_true rfl⟩ (fun rv V1 H locs hR hS => ?_)
    obtain ⟨rfl, hV⟩ := hR
    rw [hV] at hS
    have ev : pVal 0 cn (gv cn.toNatClampNeg) 0 0 (mak i) = cn.toInt64 := rfl
    obtain ⟨v, hv⟩ : ∃ v, v = pVal 0 cn (gv cn.toNatClampNeg) 0 0 (mak i) := ⟨_, rfl⟩
    rw [← hv]
    have hp0 : pStep 0 cn fa (mak i) h (nI (j + 1)) an9 f = ((pPut v (h) f).1, (pPut v (h) f).2.1, nI (j + 1), an9, (pPut v (h) f).2.2) := by
      rw [hv, ev]
      exact if_neg hs0
    refine W.eq (g2 := F0 m 222 ls [.long v]) rfl ?_
    refine lv_lstore (lv' := [(8, .long v), (6, .long 0), (4, .long 0), (3, .int cn), (2, .int (nI 0)), (0, .ref a1), (1, .int (nI i))]) hx hb d_M_step_222 hl (by decide) rfl (fun ls hl => ?_)
    refine lv_lload hx hb d_M_step_224 (lv_at hl 0 rfl) ?_
    refine lv_ldc2 (v := (-1000000000)) hx hb hown (hts _ m_809) d_M_step_226 ?_
    refine W.lcmp hx hb d_M_step_229 ?_
    refine lv_if_lt (tgt := 242) hx hb d_M_step_230 (by decide) (fun c_230 => ?_) (fun c_230 => ?_)
    · have hp : pStep 0 cn fa (mak i) h (nI (j + 1)) an9 f = (5, h, nI (j + 1), an9, f) := by
        rw [hp0, show pPut v (h) f = (5, h, f) from if_pos (Or.inl ((lg_cmp_lt _ _).mp c_230))]
      refine lv_iconst (v := 5) hx hb d_M_step_242 (by decide) ?_
      exact m_reti F hr hS (Nat.le_of_ble_eq_true rfl) (Nat.le_of_ble_eq_true rfl) (SP.bad hp (by decide) (by decide) (uM_of20 h37)) d_M_step_243
    · refine lv_lload hx hb d_M_step_233 (lv_at hl 0 rfl) ?_
      refine lv_ldc2 (v := 1000000000) hx hb hown (hts _ m_810) d_M_step_235 ?_
      refine W.lcmp hx hb d_M_step_238 ?_
      refine lv_if_le (tgt := 244) hx hb d_M_step_239 (by decide) (fun c_239 => ?_) (fun c_239 => ?_)
      · have hv9 : ¬ (v < -1000000000 ∨ 1000000000 < v) := fun z => z.elim (fun z => c_230 ((lg_cmp_lt _ _).mpr z)) (fun z => absurd ((lg_cmp_le _ _).mp c_239) (Int64.not_le.mpr z))
        refine lv_aload_n hx hb d_M_step_244 rfl (lv_at hl 5 rfl) ?_
        refine r_get (k := 20) (i := 0) F hS f_M_103.get (uV_self V 20 0 (a1, oM A (nI m0) (nI ne) dy th qs (nI nk) hs hd (nI h) (nI (sn + 1)) (nI (j + 1)) an)) rfl d_M_step_245 ?_
        refine lv_bipush (v := 8) hx hb d_M_step_248 (by decide) ?_
        refine lv_icmp_ne (tgt := 255) hx hb d_M_step_250 (by decide) (fun c_250 => ?_) (fun c_250 => ?_)
        · have h8 : h < 8 := Nat.lt_of_le_of_ne (by omega) (fun z => c_250 (congrArg nI z))
          have hp : pStep 0 cn fa (mak i) h (nI (j + 1)) an9 f = (7, h + 1, nI (j + 1), an9, upd f (h) v.toInt32) := by
            rw [hp0, show pPut v (h) f = (7, h + 1, upd f (h) v.toInt32) from (if_neg hv9).trans (if_neg (by omega))]
          refine lv_aload_n hx hb d_M_step_255 rfl (lv_at hl 5 rfl) ?_
          refine r_get (k := 20) (i := 0) F hS f_M_63.get (uV_self V 20 0 (a1, oM A (nI m0) (nI ne) dy th qs (nI nk) hs hd (nI h) (nI (sn + 1)) (nI (j + 1)) an)) rfl d_M_step_256 ?_
          refine lv_aload_n hx hb d_M_step_259 rfl (lv_at hl 5 rfl) ?_
          refine r_get (k := 20) (i := 0) F hS f_M_103.get (uV_self V 20 0 (a1, oM A (nI m0) (nI ne) dy th qs (nI nk) hs hd (nI h) (nI (sn + 1)) (nI (j + 1)) an)) rfl d_M_step_260 ?_
          refine lv_lload hx hb d_M_step_263 (lv_at hl 0 rfl) ?_
          refine r_last (k := 37) (i := 0) F hS h37 (vp_in_nI h8 (by decide)) d_M_step_265 (fun H locs hS => ?_)
          rw [nI_clamp (by omega)] at hS
          have hS : HS G s (uV (uV V 20 0 (a1, oM A (nI m0) (nI ne) dy th qs (nI nk) hs hd (nI h) (nI (sn + 1)) (nI (j + 1)) an)) 37 0 ((A 37), aL G 8 (vp_updL g h v))) H _ := hS
          refine lv_aload_n hx hb d_M_step_266 rfl (lv_at hl 5 rfl) ?_
          refine lv_dup hx hb d_M_step_267 rfl ?_
          refine r_get (k := 20) (i := 0) F hS f_M_103.get (uV_self V 20 0 (a1, oM A (nI m0) (nI ne) dy th qs (nI nk) hs hd (nI h) (nI (sn + 1)) (nI (j + 1)) an)) rfl d_M_step_268 ?_
          refine lv_iconst (v := 1) hx hb d_M_step_271 (by decide) ?_
          refine lv_iadd hx hb d_M_step_272 ?_
          rw [nI_1]
          refine r_put (k := 20) (i := 0) F hS f_M_103 ct_M (uV_self V 20 0 (a1, oM A (nI m0) (nI ne) dy th qs (nI nk) hs hd (nI h) (nI (sn + 1)) (nI (j + 1)) an)) rfl rfl (Nat.le_of_ble_eq_true rfl) d_M_step_273 (fun H locs hS => ?_)
          have hS : HS G s (uV (uV (uV V 20 0 (a1, oM A (nI m0) (nI ne) dy th qs (nI nk) hs hd (nI h) (nI (sn + 1)) (nI (j + 1)) an)) 37 0 ((A 37), aL G 8 (vp_updL g h v))) 20 0 (a1, oM A (nI m0) (nI ne) dy th qs (nI nk) hs hd (nI (h + 1)) (nI (sn + 1)) (nI (j + 1)) an)) H _ := hS
          refine lv_iconst (v := 0) hx hb d_M_step_276 (by decide) ?_
          exact m_reti F hr hS (Nat.le_of_ble_eq_true rfl) (Nat.le_of_ble_eq_true rfl) (SP.go hp (upL_ok hg (by omega) hv9) (uV3 (by decide))) d_M_step_277
        · have h8 : h = 8 := (nI_eq (by omega) (by decide)).mp (show nI (h) = nI 8 from c_250)
          have hp : pStep 0 cn fa (mak i) h (nI (j + 1)) an9 f = (3, h, nI (j + 1), an9, f) := by
            rw [hp0, show pPut v (h) f = (3, h, f) from (if_neg hv9).trans (if_pos (by omega))]
          refine lv_iconst (v := 3) hx hb d_M_step_253 (by decide) ?_
          exact m_reti F hr hS (Nat.le_of_ble_eq_true rfl) (Nat.le_of_ble_eq_true rfl) (SP.bad hp (by decide) (by decide) (uM_of20 h37)) d_M_step_254
      · have hp : pStep 0 cn fa (mak i) h (nI (j + 1)) an9 f = (5, h, nI (j + 1), an9, f) := by
          rw [hp0, show pPut v (h) f = (5, h, f) from if_pos (Or.inr (Int64.not_le.mp (fun z => c_239 ((lg_cmp_le _ _).mpr z))))]
        refine lv_iconst (v := 5) hx hb d_M_step_242 (by decide) ?_
        exact m_reti F hr hS (Nat.le_of_ble_eq_true rfl) (Nat.le_of_ble_eq_true rfl) (SP.bad hp (by decide) (by decide) (uM_of20 h37)) d_M_step_243
  · refine lv_aload_n hx hb d_M_step_58 rfl (lv_at hl 2 rfl) ?_
    refine lv_dup hx hb d_M_step_59 rfl ?_
    refine r_get (k := 20) (i := 0) F hS f_M_97.get h20 rfl d_M_step_60 ?_
    refine lv_iconst (v := 1) hx hb d_M_step_63 (by decide) ?_
    refine lv_iadd hx hb d_M_step_64 ?_
    rw [nI_1]
    refine r_put (k := 20) (i := 0) F hS f_M_97 ct_M h20 rfl rfl (Nat.le_of_ble_eq_true rfl) d_M_step_65 (fun H locs hS => ?_)
    have hS : HS G s (uV V 20 0 (a1, oM A (nI m0) (nI ne) dy th qs (nI nk) hs hd (nI h) (nI (sn + 1)) (nI j) an)) H _ := hS
    refine lv_aload_n hx hb d_M_step_68 rfl (lv_at hl 2 rfl) ?_
    refine lv_dup hx hb d_M_step_69 rfl ?_
    refine r_get (k := 20) (i := 0) F hS f_M_100.get (uV_self V 20 0 (a1, oM A (nI m0) (nI ne) dy th qs (nI nk) hs hd (nI h) (nI (sn + 1)) (nI j) an)) rfl d_M_step_70 ?_
    refine lv_iconst (v := 1) hx hb d_M_step_73 (by decide) ?_
    refine lv_iadd hx hb d_M_step_74 ?_
    rw [nI_1]
    refine r_put (k := 20) (i := 0) F hS f_M_100 ct_M (uV_self V 20 0 (a1, oM A (nI m0) (nI ne) dy th qs (nI nk) hs hd (nI h) (nI (sn + 1)) (nI j) an)) rfl rfl (Nat.le_of_ble_eq_true rfl) d_M_step_75 (fun H locs hS => ?_)
    rw [uV_uV] at hS
    have hS : HS G s (uV V 20 0 (a1, oM A (nI m0) (nI ne) dy th qs (nI nk) hs hd (nI h) (nI (sn + 1)) (nI (j + 1)) an)) H _ := hS
    refine lv_aload_n hx hb d_M_step_78 rfl (lv_at hl 2 rfl) ?_
    refine r_get (k := 20) (i := 0) F hS f_M_103.get (uV_self V 20 0 (a1, oM A (nI m0) (nI ne) dy th qs (nI nk) hs hd (nI h) (nI (sn + 1)) (nI (j + 1)) an)) rfl d_M_step_79 ?_
    refine lv_iload_n hx hb d_M_step_82 rfl (lv_at hl 1 rfl) ?_
    refine r_callS (As := [.int (nI 1)]) (rest := [.int (nI h)]) F hS c_M_106 (k_M_takes G l htr (uV V 20 0 (a1, oM A (nI m0) (nI ne) dy th qs (nI nk) hs hd (nI h) (nI (sn + 1)) (nI (j + 1)) an)) 1 (by decide)) rfl hl.1 rfl (Nat.le_of_ble_eq_true rfl) d_M_step_83 ⟨Nat.le_of_ble_eq_true rfl, Nat.le_of_ble_eq_true rfl⟩ ⟨Nat.le_of_ble_eq_true rfl, Nat.le_of_ble_eq_true rfl⟩ (fun rv V1 H locs hR hS => ?_)
    obtain ⟨rfl, hV⟩ := hR
    rw [hV] at hS
    refine W.eq (g2 := F0 m 86 ls [.int 0, .int (nI h)]) rfl ?_
    have hs0 : ¬ h < pNeed 1 := Nat.not_lt.mpr (Nat.zero_le _)
    refine lv_icmp_ge (tgt := 91) hx hb d_M_step_86 (by decide) (fun c_86 => ?_) (fun c_86 => absurd (nI_pos' (by omega)) c_86)
    refine lv_iload_n hx hb d_M_step_91 rfl (lv_at hl 1 rfl) ?_
    refine r_callS (As := [.int (nI 1)]) (rest := []) F hS c_M_106 (k_M_takes G l htr (uV V 20 0 (a1, oM A (nI m0) (nI ne) dy th qs (nI nk) hs hd (nI h) (nI (sn + 1)) (nI (j + 1)) an)) 1 (by decide)) rfl hl.1 rfl (Nat.le_of_ble_eq_true rfl) d_M_step_92 ⟨Nat.le_of_ble_eq_true rfl, Nat.le_of_ble_eq_true rfl⟩ ⟨Nat.le_of_ble_eq_true rfl, Nat.le_of_ble_eq_true rfl⟩ (fun rv V1 H locs hR hS => ?_)
    obtain ⟨rfl, hV⟩ := hR
    rw [hV] at hS
    refine W.eq (g2 := F0 m 95 ls [.int 0]) rfl ?_
    refine lv_if_le (tgt := 112) hx hb d_M_step_95 (by decide) (fun _ => ?_) (fun z => absurd z (by decide))
    refine lv_lconst (v := 0) hx hb d_M_step_112 (by decide) ?_
    refine lv_lstore (lv' := [(4, .long 0), (3, .int cn), (2, .int (nI 1)), (0, .ref a1), (1, .int (nI i))]) hx hb d_M_step_113 hl (by decide) rfl (fun ls hl => ?_)
    refine lv_iload_n hx hb d_M_step_115 rfl (lv_at hl 2 rfl) ?_
    refine r_callS (As := [.int (nI 1)]) (rest := []) F hS c_M_106 (k_M_takes G l htr (uV V 20 0 (a1, oM A (nI m0) (nI ne) dy th qs (nI nk) hs hd (nI h) (nI (sn + 1)) (nI (j + 1)) an)) 1 (by decide)) rfl hl.1 rfl (Nat.le_of_ble_eq_true rfl) d_M_step_116 ⟨Nat.le_of_ble_eq_true rfl, Nat.le_of_ble_eq_true rfl⟩ ⟨Nat.le_of_ble_eq_true rfl, Nat.le_of_ble_eq_true rfl⟩ (fun rv V1 H locs hR hS => ?_)
    obtain ⟨rfl, hV⟩ := hR
    rw [hV] at hS
    refine W.eq (g2 := F0 m 119 ls [.int 0]) rfl ?_
    refine lv_iconst (v := 1) hx hb d_M_step_119 (by decide) ?_
    refine lv_icmp_le (tgt := 137) hx hb d_M_step_120 (by decide) (fun _ => ?_) (fun z => absurd z (by decide))
    refine lv_lconst (v := 0) hx hb d_M_step_137 (by decide) ?_
    refine lv_lstore (lv' := [(6, .long 0), (4, .long 0), (3, .int cn), (2, .int (nI 1)), (0, .ref a1), (1, .int (nI i))]) hx hb d_M_step_138 hl (by decide) rfl (fun ls hl => ?_)
    refine lv_iload_n hx hb d_M_step_140 rfl (lv_at hl 3 rfl) ?_
    refine lv_iconst (v := 5) hx hb d_M_step_141 (by decide) ?_
    refine lv_icmp_ne (tgt := 154) hx hb d_M_step_142 (by decide) (fun _ => ?_) (fun z => absurd z (by decide))
    refine lv_aload_n hx hb d_M_step_154 rfl (lv_at hl 4 rfl) ?_
    refine lv_dup hx hb d_M_step_155 rfl ?_
    refine r_get (k := 20) (i := 0) F hS f_M_103.get (uV_self V 20 0 (a1, oM A (nI m0) (nI ne) dy th qs (nI nk) hs hd (nI h) (nI (sn + 1)) (nI (j + 1)) an)) rfl d_M_step_156 ?_
    refine lv_iload_n hx hb d_M_step_159 rfl (lv_at hl 3 rfl) ?_
    refine lv_bipush (v := 7) hx hb d_M_step_160 (by decide) ?_
    refine lv_icmp_ne (tgt := 169) hx hb d_M_step_162 (by decide) (fun _ => ?_) (fun z => absurd z (by decide))
    refine lv_iload_n hx hb d_M_step_169 rfl (lv_at hl 3 rfl) ?_
    refine r_callS (As := [.int (nI 1)]) (rest := [.int (nI h), .ref a1]) F hS c_M_106 (k_M_takes G l htr (uV V 20 0 (a1, oM A (nI m0) (nI ne) dy th qs (nI nk) hs hd (nI h) (nI (sn + 1)) (nI (j + 1)) an)) 1 (by decide)) rfl hl.1 rfl (Nat.le_of_ble_eq_true rfl) d_M_step_170 ⟨Nat.le_of_ble_eq_true rfl, Nat.le_of_ble_eq_true rfl⟩ ⟨Nat.le_of_ble_eq_true rfl, Nat.le_of_ble_eq_true rfl⟩ (fun rv V1 H locs hR hS => ?_)
    obtain ⟨rfl, hV⟩ := hR
    rw [hV] at hS
    refine W.eq (g2 := F0 m 173 ls [.int 0, .int (nI h), .ref a1]) rfl ?_
    refine lv_isub hx hb d_M_step_173 ?_
    rw [show nI h - 0 = nI h from Int32.sub_zero _]
    refine r_put (k := 20) (i := 0) F hS f_M_103 ct_M (uV_self V 20 0 (a1, oM A (nI m0) (nI ne) dy th qs (nI nk) hs hd (nI h) (nI (sn + 1)) (nI (j + 1)) an)) rfl rfl (Nat.le_of_ble_eq_true rfl) d_M_step_174 (fun H locs hS => ?_)
    rw [uV_uV] at hS
    have hS : HS G s (uV V 20 0 (a1, oM A (nI m0) (nI ne) dy th qs (nI nk) hs hd (nI h) (nI (sn + 1)) (nI (j + 1)) an)) H _ := hS
    refine lv_iload_n hx hb d_M_step_177 rfl (lv_at hl 3 rfl) ?_
    refine lv_bipush (v := 9) hx hb d_M_step_178 (by decide) ?_
    refine lv_icmp_ne (tgt := 191) hx hb d_M_step_180 (by decide) (fun _ => ?_) (fun z => absurd z (by decide))
    refine lv_iload_n hx hb d_M_step_191 rfl (lv_at hl 3 rfl) ?_
    refine lv_bipush (v := 8) hx hb d_M_step_192 (by decide) ?_
    refine lv_icmp_ne (tgt := 211) hx hb d_M_step_194 (by decide) (fun _ => ?_) (fun z => absurd z (by decide))
    refine lv_aload_n hx hb d_M_step_211 rfl (lv_at hl 4 rfl) ?_
    refine lv_iload_n hx hb d_M_step_212 rfl (lv_at hl 5 rfl) ?_
    refine lv_iload_n hx hb d_M_step_213 rfl (lv_at hl 3 rfl) ?_
    refine lv_iload_n hx hb d_M_step_214 rfl (lv_at hl 2 rfl) ?_
    refine lv_lload hx hb d_M_step_215 (lv_at hl 0 rfl) ?_
    refine lv_lload hx hb d_M_step_217 (lv_at hl 1 rfl) ?_
    refine r_callV (k := 20) (i := 0) (q := ("RuleClassesModel", T_M, 30)) (fs := [.int (nI m0), .int (nI ne), .int dy, .int th, .int qs, .int (nI nk), .int hs, .int hd, .ref (A 21), .ref (A 22), .ref (A 23), .ref (A 24), .ref (A 25), .ref (A 26), .ref (A 27), .ref (A 28), .ref (A 29), .ref (A 30), .ref (A 31), .ref (A 32), .ref (A 33), .ref (A 34), .ref (A 35), .ref (A 36), .ref (A 37), .int (nI h), .int (nI (sn + 1)), .int (nI (j + 1)), .long an, .ref (A 38)]) (As := [.int (nI i), .int (nI 1), .int cn, .long 0, .long 0]) (rest := []) F hS c_M_114 (k_M_valueOf G l htr (uV V 20 0 (a1, oM A (nI m0) (nI ne) dy th qs (nI nk) hs hd (nI h) (nI (sn + 1)) (nI (j + 1)) an)) a1 A m0 ne nk dy th qs hs hd (nI h) (nI (sn + 1)) (nI (j + 1)) an mak gv i 1 cn 0 0 hi (by omega) (fun z => by obtain ⟨c9, a9, b9, _⟩ := hc1 z; exact ⟨c9, a9, b9⟩) (fun z => absurd z (by decide)) (uV_self V 20 0 (a1, oM A (nI m0) (nI ne) dy th qs (nI nk) hs hd (nI h) (nI (sn + 1)) (nI (j + 1)) an)) h25 h38) rfl (uV_self V 20 0 (a1, oM A (nI m0) (nI ne) dy th qs (nI nk) hs hd (nI h) (nI (sn + 1)) (nI (j + 1)) an)) rfl hl.1 rfl (Nat.le_of_ble_eq_true rfl) d_M_step_219 ⟨Nat.le_of_ble_eq_true rfl, Nat.le_of_ble_eq_true rfl⟩ ⟨Nat.le_of_ble_eq_true rfl, Nat.le_of_ble_eq_true rfl⟩ (fun rv V1 H locs hR hS => ?_)
    obtain ⟨rfl, hV⟩ := hR
    rw [hV] at hS
    have ev : pVal 1 cn (gv cn.toNatClampNeg) 0 0 (mak i) = (fa cn.toNatClampNeg).toInt64 := by
      obtain ⟨c9, a9, b9, d9⟩ := hc1 rfl
      show (gv cn.toNatClampNeg).toInt64 = _
      rw [b9, nI_clamp (by omega), d9]
    obtain ⟨v, hv⟩ : ∃ v, v = pVal 1 cn (gv cn.toNatClampNeg) 0 0 (mak i) := ⟨_, rfl⟩
    rw [← hv]
    have hp0 : pStep 1 cn fa (mak i) h (nI (j + 1)) an9 f = ((pPut v (h) f).1, (pPut v (h) f).2.1, nI (j + 1), an9, (pPut v (h) f).2.2) := by
      rw [hv, ev]
      exact if_neg hs0
    refine W.eq (g2 := F0 m 222 ls [.long v]) rfl ?_
    refine lv_lstore (lv' := [(8, .long v), (6, .long 0), (4, .long 0), (3, .int cn), (2, .int (nI 1)), (0, .ref a1), (1, .int (nI i))]) hx hb d_M_step_222 hl (by decide) rfl (fun ls hl => ?_)
    refine lv_lload hx hb d_M_step_224 (lv_at hl 0 rfl) ?_
    refine lv_ldc2 (v := (-1000000000)) hx hb hown (hts _ m_809) d_M_step_226 ?_
    refine W.lcmp hx hb d_M_step_229 ?_
    refine lv_if_lt (tgt := 242) hx hb d_M_step_230 (by decide) (fun c_230 => ?_) (fun c_230 => ?_)
    · have hp : pStep 1 cn fa (mak i) h (nI (j + 1)) an9 f = (5, h, nI (j + 1), an9, f) := by
        rw [hp0, show pPut v (h) f = (5, h, f) from if_pos (Or.inl ((lg_cmp_lt _ _).mp c_230))]
      refine lv_iconst (v := 5) hx hb d_M_step_242 (by decide) ?_
      exact m_reti F hr hS (Nat.le_of_ble_eq_true rfl) (Nat.le_of_ble_eq_true rfl) (SP.bad hp (by decide) (by decide) (uM_of20 h37)) d_M_step_243
    · refine lv_lload hx hb d_M_step_233 (lv_at hl 0 rfl) ?_
      refine lv_ldc2 (v := 1000000000) hx hb hown (hts _ m_810) d_M_step_235 ?_
      refine W.lcmp hx hb d_M_step_238 ?_
      refine lv_if_le (tgt := 244) hx hb d_M_step_239 (by decide) (fun c_239 => ?_) (fun c_239 => ?_)
      · have hv9 : ¬ (v < -1000000000 ∨ 1000000000 < v) := fun z => z.elim (fun z => c_230 ((lg_cmp_lt _ _).mpr z)) (fun z => absurd ((lg_cmp_le _ _).mp c_239) (Int64.not_le.mpr z))
        refine lv_aload_n hx hb d_M_step_244 rfl (lv_at hl 5 rfl) ?_
        refine r_get (k := 20) (i := 0) F hS f_M_103.get (uV_self V 20 0 (a1, oM A (nI m0) (nI ne) dy th qs (nI nk) hs hd (nI h) (nI (sn + 1)) (nI (j + 1)) an)) rfl d_M_step_245 ?_
        refine lv_bipush (v := 8) hx hb d_M_step_248 (by decide) ?_
        refine lv_icmp_ne (tgt := 255) hx hb d_M_step_250 (by decide) (fun c_250 => ?_) (fun c_250 => ?_)
        · have h8 : h < 8 := Nat.lt_of_le_of_ne (by omega) (fun z => c_250 (congrArg nI z))
          have hp : pStep 1 cn fa (mak i) h (nI (j + 1)) an9 f = (7, h + 1, nI (j + 1), an9, upd f (h) v.toInt32) := by
            rw [hp0, show pPut v (h) f = (7, h + 1, upd f (h) v.toInt32) from (if_neg hv9).trans (if_neg (by omega))]
          refine lv_aload_n hx hb d_M_step_255 rfl (lv_at hl 5 rfl) ?_
          refine r_get (k := 20) (i := 0) F hS f_M_63.get (uV_self V 20 0 (a1, oM A (nI m0) (nI ne) dy th qs (nI nk) hs hd (nI h) (nI (sn + 1)) (nI (j + 1)) an)) rfl d_M_step_256 ?_
          refine lv_aload_n hx hb d_M_step_259 rfl (lv_at hl 5 rfl) ?_
          refine r_get (k := 20) (i := 0) F hS f_M_103.get (uV_self V 20 0 (a1, oM A (nI m0) (nI ne) dy th qs (nI nk) hs hd (nI h) (nI (sn + 1)) (nI (j + 1)) an)) rfl d_M_step_260 ?_
          refine lv_lload hx hb d_M_step_263 (lv_at hl 0 rfl) ?_
          refine r_last (k := 37) (i := 0) F hS h37 (vp_in_nI h8 (by decide)) d_M_step_265 (fun H locs hS => ?_)
          rw [nI_clamp (by omega)] at hS
          have hS : HS G s (uV (uV V 20 0 (a1, oM A (nI m0) (nI ne) dy th qs (nI nk) hs hd (nI h) (nI (sn + 1)) (nI (j + 1)) an)) 37 0 ((A 37), aL G 8 (vp_updL g h v))) H _ := hS
          refine lv_aload_n hx hb d_M_step_266 rfl (lv_at hl 5 rfl) ?_
          refine lv_dup hx hb d_M_step_267 rfl ?_
          refine r_get (k := 20) (i := 0) F hS f_M_103.get (uV_self V 20 0 (a1, oM A (nI m0) (nI ne) dy th qs (nI nk) hs hd (nI h) (nI (sn + 1)) (nI (j + 1)) an)) rfl d_M_step_268 ?_
          refine lv_iconst (v := 1) hx hb d_M_step_271 (by decide) ?_
          refine lv_iadd hx hb d_M_step_272 ?_
          rw [nI_1]
          refine r_put (k := 20) (i := 0) F hS f_M_103 ct_M (uV_self V 20 0 (a1, oM A (nI m0) (nI ne) dy th qs (nI nk) hs hd (nI h) (nI (sn + 1)) (nI (j + 1)) an)) rfl rfl (Nat.le_of_ble_eq_true rfl) d_M_step_273 (fun H locs hS => ?_)
          have hS : HS G s (uV (uV (uV V 20 0 (a1, oM A (nI m0) (nI ne) dy th qs (nI nk) hs hd (nI h) (nI (sn + 1)) (nI (j + 1)) an)) 37 0 ((A 37), aL G 8 (vp_updL g h v))) 20 0 (a1, oM A (nI m0) (nI ne) dy th qs (nI nk) hs hd (nI (h + 1)) (nI (sn + 1)) (nI (j + 1)) an)) H _ := hS
          refine lv_iconst (v := 0) hx hb d_M_step_276 (by decide) ?_
          exact m_reti F hr hS (Nat.le_of_ble_eq_true rfl) (Nat.le_of_ble_eq_true rfl) (SP.go hp (upL_ok hg (by omega) hv9) (uV3 (by decide))) d_M_step_277
        · have h8 : h = 8 := (nI_eq (by omega) (by decide)).mp (show nI (h) = nI 8 from c_250)
          have hp : pStep 1 cn fa (mak i) h (nI (j + 1)) an9 f = (3, h, nI (j + 1), an9, f) := by
            rw [hp0, show pPut v (h) f = (3, h, f) from (if_neg hv9).trans (if_pos (by omega))]
          refine lv_iconst (v := 3) hx hb d_M_step_253 (by decide) ?_
          exact m_reti F hr hS (Nat.le_of_ble_eq_true rfl) (Nat.le_of_ble_eq_true rfl) (SP.bad hp (by decide) (by decide) (uM_of20 h37)) d_M_step_254
      · have hp : pStep 1 cn fa (mak i) h (nI (j + 1)) an9 f = (5, h, nI (j + 1), an9, f) := by
          rw [hp0, show pPut v (h) f = (5, h, f) from if_pos (Or.inr (Int64.not_le.mp (fun z => c_239 ((lg_cmp_le _ _).mpr z))))]
        refine lv_iconst (v := 5) hx hb d_M_step_242 (by decide) ?_
        exact m_reti F hr hS (Nat.le_of_ble_eq_true rfl) (Nat.le_of_ble_eq_true rfl) (SP.bad hp (by decide) (by decide) (uM_of20 h37)) d_M_step_243
  · refine lv_aload_n hx hb d_M_step_58 rfl (lv_at hl 2 rfl) ?_
    refine lv_dup hx hb d_M_step_59 rfl ?_
    refine r_get (k := 20) (i := 0) F hS f_M_97.get h20 rfl d_M_step_60 ?_
    refine lv_iconst (v := 1) hx hb d_M_step_63 (by decide) ?_
    refine lv_iadd hx hb d_M_step_64 ?_
    rw [nI_1]
    refine r_put (k := 20) (i := 0) F hS f_M_97 ct_M h20 rfl rfl (Nat.le_of_ble_eq_true rfl) d_M_step_65 (fun H locs hS => ?_)
    have hS : HS G s (uV V 20 0 (a1, oM A (nI m0) (nI ne) dy th qs (nI nk) hs hd (nI h) (nI (sn + 1)) (nI j) an)) H _ := hS
    refine lv_aload_n hx hb d_M_step_68 rfl (lv_at hl 2 rfl) ?_
    refine lv_dup hx hb d_M_step_69 rfl ?_
    refine r_get (k := 20) (i := 0) F hS f_M_100.get (uV_self V 20 0 (a1, oM A (nI m0) (nI ne) dy th qs (nI nk) hs hd (nI h) (nI (sn + 1)) (nI j) an)) rfl d_M_step_70 ?_
    refine lv_iconst (v := 1) hx hb d_M_step_73 (by decide) ?_
    refine lv_iadd hx hb d_M_step_74 ?_
    rw [nI_1]
    refine r_put (k := 20) (i := 0) F hS f_M_100 ct_M (uV_self V 20 0 (a1, oM A (nI m0) (nI ne) dy th qs (nI nk) hs hd (nI h) (nI (sn + 1)) (nI j) an)) rfl rfl (Nat.le_of_ble_eq_true rfl) d_M_step_75 (fun H locs hS => ?_)
    rw [uV_uV] at hS
    have hS : HS G s (uV V 20 0 (a1, oM A (nI m0) (nI ne) dy th qs (nI nk) hs hd (nI h) (nI (sn + 1)) (nI (j + 1)) an)) H _ := hS
    refine lv_aload_n hx hb d_M_step_78 rfl (lv_at hl 2 rfl) ?_
    refine r_get (k := 20) (i := 0) F hS f_M_103.get (uV_self V 20 0 (a1, oM A (nI m0) (nI ne) dy th qs (nI nk) hs hd (nI h) (nI (sn + 1)) (nI (j + 1)) an)) rfl d_M_step_79 ?_
    refine lv_iload_n hx hb d_M_step_82 rfl (lv_at hl 1 rfl) ?_
    refine r_callS (As := [.int (nI 2)]) (rest := [.int (nI h)]) F hS c_M_106 (k_M_takes G l htr (uV V 20 0 (a1, oM A (nI m0) (nI ne) dy th qs (nI nk) hs hd (nI h) (nI (sn + 1)) (nI (j + 1)) an)) 2 (by decide)) rfl hl.1 rfl (Nat.le_of_ble_eq_true rfl) d_M_step_83 ⟨Nat.le_of_ble_eq_true rfl, Nat.le_of_ble_eq_true rfl⟩ ⟨Nat.le_of_ble_eq_true rfl, Nat.le_of_ble_eq_true rfl⟩ (fun rv V1 H locs hR hS => ?_)
    obtain ⟨rfl, hV⟩ := hR
    rw [hV] at hS
    refine W.eq (g2 := F0 m 86 ls [.int 2, .int (nI h)]) rfl ?_
    refine lv_icmp_ge (tgt := 91) hx hb d_M_step_86 (by decide) (fun c_86 => ?_) (fun c_86 => ?_)
    · have hn : 2 ≤ h := (nI_leI (by decide) (by omega)).mp (show nI 2 ≤ nI h from c_86)
      have hs0 : ¬ h < pNeed 2 := Nat.not_lt.mpr hn
      refine lv_iload_n hx hb d_M_step_91 rfl (lv_at hl 1 rfl) ?_
      refine r_callS (As := [.int (nI 2)]) (rest := []) F hS c_M_106 (k_M_takes G l htr (uV V 20 0 (a1, oM A (nI m0) (nI ne) dy th qs (nI nk) hs hd (nI h) (nI (sn + 1)) (nI (j + 1)) an)) 2 (by decide)) rfl hl.1 rfl (Nat.le_of_ble_eq_true rfl) d_M_step_92 ⟨Nat.le_of_ble_eq_true rfl, Nat.le_of_ble_eq_true rfl⟩ ⟨Nat.le_of_ble_eq_true rfl, Nat.le_of_ble_eq_true rfl⟩ (fun rv V1 H locs hR hS => ?_)
      obtain ⟨rfl, hV⟩ := hR
      rw [hV] at hS
      refine W.eq (g2 := F0 m 95 ls [.int 2]) rfl ?_
      refine lv_if_le (tgt := 112) hx hb d_M_step_95 (by decide) (fun z => absurd z (by decide)) (fun _ => ?_)
      refine lv_aload_n hx hb d_M_step_98 rfl (lv_at hl 2 rfl) ?_
      refine r_get (k := 20) (i := 0) F hS f_M_63.get (uV_self V 20 0 (a1, oM A (nI m0) (nI ne) dy th qs (nI nk) hs hd (nI h) (nI (sn + 1)) (nI (j + 1)) an)) rfl d_M_step_99 ?_
      refine lv_aload_n hx hb d_M_step_102 rfl (lv_at hl 2 rfl) ?_
      refine r_get (k := 20) (i := 0) F hS f_M_103.get (uV_self V 20 0 (a1, oM A (nI m0) (nI ne) dy th qs (nI nk) hs hd (nI h) (nI (sn + 1)) (nI (j + 1)) an)) rfl d_M_step_103 ?_
      refine lv_iconst (v := 1) hx hb d_M_step_106 (by decide) ?_
      refine lv_isub hx hb d_M_step_107 ?_
      rw [nI_m1 (by omega)]
      refine r_lald (k := 37) (i := 0) F hS h37 (vp_in_nI (by omega) (by decide)) d_M_step_108 ?_
      rw [nI_clamp (by omega)]
      refine lv_goto (tgt := 113) hx hb d_M_step_109 (by decide) ?_
      refine lv_lstore (lv' := [(4, .long (g (h - 1))), (3, .int cn), (2, .int (nI 2)), (0, .ref a1), (1, .int (nI i))]) hx hb d_M_step_113 hl (by decide) rfl (fun ls hl => ?_)
      refine lv_iload_n hx hb d_M_step_115 rfl (lv_at hl 2 rfl) ?_
      refine r_callS (As := [.int (nI 2)]) (rest := []) F hS c_M_106 (k_M_takes G l htr (uV V 20 0 (a1, oM A (nI m0) (nI ne) dy th qs (nI nk) hs hd (nI h) (nI (sn + 1)) (nI (j + 1)) an)) 2 (by decide)) rfl hl.1 rfl (Nat.le_of_ble_eq_true rfl) d_M_step_116 ⟨Nat.le_of_ble_eq_true rfl, Nat.le_of_ble_eq_true rfl⟩ ⟨Nat.le_of_ble_eq_true rfl, Nat.le_of_ble_eq_true rfl⟩ (fun rv V1 H locs hR hS => ?_)
      obtain ⟨rfl, hV⟩ := hR
      rw [hV] at hS
      refine W.eq (g2 := F0 m 119 ls [.int 2]) rfl ?_
      refine lv_iconst (v := 1) hx hb d_M_step_119 (by decide) ?_
      refine lv_icmp_le (tgt := 137) hx hb d_M_step_120 (by decide) (fun z => absurd z (by decide)) (fun _ => ?_)
      refine lv_aload_n hx hb d_M_step_123 rfl (lv_at hl 3 rfl) ?_
      refine r_get (k := 20) (i := 0) F hS f_M_63.get (uV_self V 20 0 (a1, oM A (nI m0) (nI ne) dy th qs (nI nk) hs hd (nI h) (nI (sn + 1)) (nI (j + 1)) an)) rfl d_M_step_124 ?_
      refine lv_aload_n hx hb d_M_step_127 rfl (lv_at hl 3 rfl) ?_
      refine r_get (k := 20) (i := 0) F hS f_M_103.get (uV_self V 20 0 (a1, oM A (nI m0) (nI ne) dy th qs (nI nk) hs hd (nI h) (nI (sn + 1)) (nI (j + 1)) an)) rfl d_M_step_128 ?_
      refine lv_iconst (v := 2) hx hb d_M_step_131 (by decide) ?_
      refine lv_isub hx hb d_M_step_132 ?_
      rw [nI_m2 (by omega)]
      refine r_lald (k := 37) (i := 0) F hS h37 (vp_in_nI (by omega) (by decide)) d_M_step_133 ?_
      rw [nI_clamp (by omega)]
      refine lv_goto (tgt := 138) hx hb d_M_step_134 (by decide) ?_
      refine lv_lstore (lv' := [(6, .long (g (h - 2))), (4, .long (g (h - 1))), (3, .int cn), (2, .int (nI 2)), (0, .ref a1), (1, .int (nI i))]) hx hb d_M_step_138 hl (by decide) rfl (fun ls hl => ?_)
      refine lv_iload_n hx hb d_M_step_140 rfl (lv_at hl 3 rfl) ?_
      refine lv_iconst (v := 5) hx hb d_M_step_141 (by decide) ?_
      refine lv_icmp_ne (tgt := 154) hx hb d_M_step_142 (by decide) (fun _ => ?_) (fun z => absurd z (by decide))
      refine lv_aload_n hx hb d_M_step_154 rfl (lv_at hl 4 rfl) ?_
      refine lv_dup hx hb d_M_step_155 rfl ?_
      refine r_get (k := 20) (i := 0) F hS f_M_103.get (uV_self V 20 0 (a1, oM A (nI m0) (nI ne) dy th qs (nI nk) hs hd (nI h) (nI (sn + 1)) (nI (j + 1)) an)) rfl d_M_step_156 ?_
      refine lv_iload_n hx hb d_M_step_159 rfl (lv_at hl 3 rfl) ?_
      refine lv_bipush (v := 7) hx hb d_M_step_160 (by decide) ?_
      refine lv_icmp_ne (tgt := 169) hx hb d_M_step_162 (by decide) (fun _ => ?_) (fun z => absurd z (by decide))
      refine lv_iload_n hx hb d_M_step_169 rfl (lv_at hl 3 rfl) ?_
      refine r_callS (As := [.int (nI 2)]) (rest := [.int (nI h), .ref a1]) F hS c_M_106 (k_M_takes G l htr (uV V 20 0 (a1, oM A (nI m0) (nI ne) dy th qs (nI nk) hs hd (nI h) (nI (sn + 1)) (nI (j + 1)) an)) 2 (by decide)) rfl hl.1 rfl (Nat.le_of_ble_eq_true rfl) d_M_step_170 ⟨Nat.le_of_ble_eq_true rfl, Nat.le_of_ble_eq_true rfl⟩ ⟨Nat.le_of_ble_eq_true rfl, Nat.le_of_ble_eq_true rfl⟩ (fun rv V1 H locs hR hS => ?_)
      obtain ⟨rfl, hV⟩ := hR
      rw [hV] at hS
      refine W.eq (g2 := F0 m 173 ls [.int 2, .int (nI h), .ref a1]) rfl ?_
      refine lv_isub hx hb d_M_step_173 ?_
      rw [nI_m2 (by omega)]
      refine r_put (k := 20) (i := 0) F hS f_M_103 ct_M (uV_self V 20 0 (a1, oM A (nI m0) (nI ne) dy th qs (nI nk) hs hd (nI h) (nI (sn + 1)) (nI (j + 1)) an)) rfl rfl (Nat.le_of_ble_eq_true rfl) d_M_step_174 (fun H locs hS => ?_)
      rw [uV_uV] at hS
      have hS : HS G s (uV V 20 0 (a1, oM A (nI m0) (nI ne) dy th qs (nI nk) hs hd (nI (h - 2)) (nI (sn + 1)) (nI (j + 1)) an)) H _ := hS
      refine lv_iload_n hx hb d_M_step_177 rfl (lv_at hl 3 rfl) ?_
      refine lv_bipush (v := 9) hx hb d_M_step_178 (by decide) ?_
      refine lv_icmp_ne (tgt := 191) hx hb d_M_step_180 (by decide) (fun _ => ?_) (fun z => absurd z (by decide))
      refine lv_iload_n hx hb d_M_step_191 rfl (lv_at hl 3 rfl) ?_
      refine lv_bipush (v := 8) hx hb d_M_step_192 (by decide) ?_
      refine lv_icmp_ne (tgt := 211) hx hb d_M_step_194 (by decide) (fun _ => ?_) (fun z => absurd z (by decide))
      refine lv_aload_n hx hb d_M_step_211 rfl (lv_at hl 4 rfl) ?_
      refine lv_iload_n hx hb d_M_step_212 rfl (lv_at hl 5 rfl) ?_
      refine lv_iload_n hx hb d_M_step_213 rfl (lv_at hl 3 rfl) ?_
      refine lv_iload_n hx hb d_M_step_214 rfl (lv_at hl 2 rfl) ?_
      refine lv_lload hx hb d_M_step_215 (lv_at hl 0 rfl) ?_
      refine lv_lload hx hb d_M_step_217 (lv_at hl 1 rfl) ?_
      refine r_callV (k := 20) (i := 0) (q := ("RuleClassesModel", T_M, 30)) (fs := [.int (nI m0), .int (nI ne), .int dy, .int th, .int qs, .int (nI nk), .int hs, .int hd, .ref (A 21), .ref (A 22), .ref (A 23), .ref (A 24), .ref (A 25), .ref (A 26), .ref (A 27), .ref (A 28), .ref (A 29), .ref (A 30), .ref (A 31), .ref (A 32), .ref (A 33), .ref (A 34), .ref (A 35), .ref (A 36), .ref (A 37), .int (nI (h - 2)), .int (nI (sn + 1)), .int (nI (j + 1)), .long an, .ref (A 38)]) (As := [.int (nI i), .int (nI 2), .int cn, .long (g (h - 2)), .long (g (h - 1))]) (rest := []) F hS c_M_114 (k_M_valueOf G l htr (uV V 20 0 (a1, oM A (nI m0) (nI ne) dy th qs (nI nk) hs hd (nI (h - 2)) (nI (sn + 1)) (nI (j + 1)) an)) a1 A m0 ne nk dy th qs hs hd (nI (h - 2)) (nI (sn + 1)) (nI (j + 1)) an mak gv i 2 cn (g (h - 2)) (g (h - 1)) hi (by omega) (fun z => by obtain ⟨c9, a9, b9, _⟩ := hc1 z; exact ⟨c9, a9, b9⟩) (fun z => absurd z (by decide)) (uV_self V 20 0 (a1, oM A (nI m0) (nI ne) dy th qs (nI nk) hs hd (nI (h - 2)) (nI (sn + 1)) (nI (j + 1)) an)) h25 h38) rfl (uV_self V 20 0 (a1, oM A (nI m0) (nI ne) dy th qs (nI nk) hs hd (nI (h - 2)) (nI (sn + 1)) (nI (j + 1)) an)) rfl hl.1 rfl (Nat.le_of_ble_eq_true rfl) d_M_step_219 ⟨Nat.le_of_ble_eq_true rfl, Nat.le_of_ble_eq_true rfl⟩ ⟨Nat.le_of_ble_eq_true rfl, Nat.le_of_ble_eq_true rfl⟩ (fun rv V1 H locs hR hS => ?_)
      obtain ⟨rfl, hV⟩ := hR
      rw [hV] at hS
      have ev : pVal 2 cn (gv cn.toNatClampNeg) (g (h - 2)) (g (h - 1)) (mak i) = ((f (h - 2)).toInt64 + (f (h - 1)).toInt64) := by
        rw [hg (h - 1) (by omega), hg (h - 2) (by omega)]
        rfl
      have ej : pJoin 2 h f = pPut ((f (h - 2)).toInt64 + (f (h - 1)).toInt64) (h - 2) f := rfl
      obtain ⟨v, hv⟩ : ∃ v, v = pVal 2 cn (gv cn.toNatClampNeg) (g (h - 2)) (g (h - 1)) (mak i) := ⟨_, rfl⟩
      rw [← hv]
      have hp0 : pStep 2 cn fa (mak i) h (nI (j + 1)) an9 f = ((pPut v (h - 2) f).1, (pPut v (h - 2) f).2.1, nI (j + 1), an9, (pPut v (h - 2) f).2.2) := by
        rw [hv, ev, ← ej]
        exact if_neg hs0
      refine W.eq (g2 := F0 m 222 ls [.long v]) rfl ?_
      refine lv_lstore (lv' := [(8, .long v), (6, .long (g (h - 2))), (4, .long (g (h - 1))), (3, .int cn), (2, .int (nI 2)), (0, .ref a1), (1, .int (nI i))]) hx hb d_M_step_222 hl (by decide) rfl (fun ls hl => ?_)
      refine lv_lload hx hb d_M_step_224 (lv_at hl 0 rfl) ?_
      refine lv_ldc2 (v := (-1000000000)) hx hb hown (hts _ m_809) d_M_step_226 ?_
      refine W.lcmp hx hb d_M_step_229 ?_
      refine lv_if_lt (tgt := 242) hx hb d_M_step_230 (by decide) (fun c_230 => ?_) (fun c_230 => ?_)
      · have hp : pStep 2 cn fa (mak i) h (nI (j + 1)) an9 f = (5, h - 2, nI (j + 1), an9, f) := by
          rw [hp0, show pPut v (h - 2) f = (5, h - 2, f) from if_pos (Or.inl ((lg_cmp_lt _ _).mp c_230))]
        refine lv_iconst (v := 5) hx hb d_M_step_242 (by decide) ?_
        exact m_reti F hr hS (Nat.le_of_ble_eq_true rfl) (Nat.le_of_ble_eq_true rfl) (SP.bad hp (by decide) (by decide) (uM_of20 h37)) d_M_step_243
      · refine lv_lload hx hb d_M_step_233 (lv_at hl 0 rfl) ?_
        refine lv_ldc2 (v := 1000000000) hx hb hown (hts _ m_810) d_M_step_235 ?_
        refine W.lcmp hx hb d_M_step_238 ?_
        refine lv_if_le (tgt := 244) hx hb d_M_step_239 (by decide) (fun c_239 => ?_) (fun c_239 => ?_)
        · have hv9 : ¬ (v < -1000000000 ∨ 1000000000 < v) := fun z => z.elim (fun z => c_230 ((lg_cmp_lt _ _).mpr z)) (fun z => absurd ((lg_cmp_le _ _).mp c_239) (Int64.not_le.mpr z))
          refine lv_aload_n hx hb d_M_step_244 rfl (lv_at hl 5 rfl) ?_
          refine r_get (k := 20) (i := 0) F hS f_M_103.get (uV_self V 20 0 (a1, oM A (nI m0) (nI ne) dy th qs (nI nk) hs hd (nI (h - 2)) (nI (sn + 1)) (nI (j + 1)) an)) rfl d_M_step_245 ?_
          refine lv_bipush (v := 8) hx hb d_M_step_248 (by decide) ?_
          refine lv_icmp_ne (tgt := 255) hx hb d_M_step_250 (by decide) (fun c_250 => ?_) (fun c_250 => ?_)
          · have h8 : h - 2 < 8 := Nat.lt_of_le_of_ne (by omega) (fun z => c_250 (congrArg nI z))
            have hp : pStep 2 cn fa (mak i) h (nI (j + 1)) an9 f = (7, h - 2 + 1, nI (j + 1), an9, upd f (h - 2) v.toInt32) := by
              rw [hp0, show pPut v (h - 2) f = (7, h - 2 + 1, upd f (h - 2) v.toInt32) from (if_neg hv9).trans (if_neg (by omega))]
            refine lv_aload_n hx hb d_M_step_255 rfl (lv_at hl 5 rfl) ?_
            refine r_get (k := 20) (i := 0) F hS f_M_63.get (uV_self V 20 0 (a1, oM A (nI m0) (nI ne) dy th qs (nI nk) hs hd (nI (h - 2)) (nI (sn + 1)) (nI (j + 1)) an)) rfl d_M_step_256 ?_
            refine lv_aload_n hx hb d_M_step_259 rfl (lv_at hl 5 rfl) ?_
            refine r_get (k := 20) (i := 0) F hS f_M_103.get (uV_self V 20 0 (a1, oM A (nI m0) (nI ne) dy th qs (nI nk) hs hd (nI (h - 2)) (nI (sn + 1)) (nI (j + 1)) an)) rfl d_M_step_260 ?_
            refine lv_lload hx hb d_M_step_263 (lv_at hl 0 rfl) ?_
            refine r_last (k := 37) (i := 0) F hS h37 (vp_in_nI h8 (by decide)) d_M_step_265 (fun H locs hS => ?_)
            rw [nI_clamp (by omega)] at hS
            have hS : HS G s (uV (uV V 20 0 (a1, oM A (nI m0) (nI ne) dy th qs (nI nk) hs hd (nI (h - 2)) (nI (sn + 1)) (nI (j + 1)) an)) 37 0 ((A 37), aL G 8 (vp_updL g (h - 2) v))) H _ := hS
            refine lv_aload_n hx hb d_M_step_266 rfl (lv_at hl 5 rfl) ?_
            refine lv_dup hx hb d_M_step_267 rfl ?_
            refine r_get (k := 20) (i := 0) F hS f_M_103.get (uV_self V 20 0 (a1, oM A (nI m0) (nI ne) dy th qs (nI nk) hs hd (nI (h - 2)) (nI (sn + 1)) (nI (j + 1)) an)) rfl d_M_step_268 ?_
            refine lv_iconst (v := 1) hx hb d_M_step_271 (by decide) ?_
            refine lv_iadd hx hb d_M_step_272 ?_
            rw [nI_1]
            refine r_put (k := 20) (i := 0) F hS f_M_103 ct_M (uV_self V 20 0 (a1, oM A (nI m0) (nI ne) dy th qs (nI nk) hs hd (nI (h - 2)) (nI (sn + 1)) (nI (j + 1)) an)) rfl rfl (Nat.le_of_ble_eq_true rfl) d_M_step_273 (fun H locs hS => ?_)
            have hS : HS G s (uV (uV (uV V 20 0 (a1, oM A (nI m0) (nI ne) dy th qs (nI nk) hs hd (nI (h - 2)) (nI (sn + 1)) (nI (j + 1)) an)) 37 0 ((A 37), aL G 8 (vp_updL g (h - 2) v))) 20 0 (a1, oM A (nI m0) (nI ne) dy th qs (nI nk) hs hd (nI (h - 2 + 1)) (nI (sn + 1)) (nI (j + 1)) an)) H _ := hS
            refine lv_iconst (v := 0) hx hb d_M_step_276 (by decide) ?_
            exact m_reti F hr hS (Nat.le_of_ble_eq_true rfl) (Nat.le_of_ble_eq_true rfl) (SP.go hp (upL_ok hg (by omega) hv9) (uV3 (by decide))) d_M_step_277
          · have h8 : h - 2 = 8 := (nI_eq (by omega) (by decide)).mp (show nI (h - 2) = nI 8 from c_250)
            have hp : pStep 2 cn fa (mak i) h (nI (j + 1)) an9 f = (3, h - 2, nI (j + 1), an9, f) := by
              rw [hp0, show pPut v (h - 2) f = (3, h - 2, f) from (if_neg hv9).trans (if_pos (by omega))]
            refine lv_iconst (v := 3) hx hb d_M_step_253 (by decide) ?_
            exact m_reti F hr hS (Nat.le_of_ble_eq_true rfl) (Nat.le_of_ble_eq_true rfl) (SP.bad hp (by decide) (by decide) (uM_of20 h37)) d_M_step_254
        · have hp : pStep 2 cn fa (mak i) h (nI (j + 1)) an9 f = (5, h - 2, nI (j + 1), an9, f) := by
            rw [hp0, show pPut v (h - 2) f = (5, h - 2, f) from if_pos (Or.inr (Int64.not_le.mp (fun z => c_239 ((lg_cmp_le _ _).mpr z))))]
          refine lv_iconst (v := 5) hx hb d_M_step_242 (by decide) ?_
          exact m_reti F hr hS (Nat.le_of_ble_eq_true rfl) (Nat.le_of_ble_eq_true rfl) (SP.bad hp (by decide) (by decide) (uM_of20 h37)) d_M_step_243
    · have hp : pStep 2 cn fa (mak i) h (nI (j + 1)) an9 f = (3, h, nI (j + 1), an9, f) := if_pos (show h < pNeed 2 from Nat.not_le.mp (fun z => c_86 (show nI 2 ≤ nI h from nI_le z (by omega))))
      refine lv_iconst (v := 3) hx hb d_M_step_89 (by decide) ?_
      exact m_reti F hr hS (Nat.le_of_ble_eq_true rfl) (Nat.le_of_ble_eq_true rfl) (SP.bad hp (by decide) (by decide) (uM_of20 h37)) d_M_step_90
  · refine lv_aload_n hx hb d_M_step_58 rfl (lv_at hl 2 rfl) ?_
    refine lv_dup hx hb d_M_step_59 rfl ?_
    refine r_get (k := 20) (i := 0) F hS f_M_97.get h20 rfl d_M_step_60 ?_
    refine lv_iconst (v := 1) hx hb d_M_step_63 (by decide) ?_
    refine lv_iadd hx hb d_M_step_64 ?_
    rw [nI_1]
    refine r_put (k := 20) (i := 0) F hS f_M_97 ct_M h20 rfl rfl (Nat.le_of_ble_eq_true rfl) d_M_step_65 (fun H locs hS => ?_)
    have hS : HS G s (uV V 20 0 (a1, oM A (nI m0) (nI ne) dy th qs (nI nk) hs hd (nI h) (nI (sn + 1)) (nI j) an)) H _ := hS
    refine lv_aload_n hx hb d_M_step_68 rfl (lv_at hl 2 rfl) ?_
    refine lv_dup hx hb d_M_step_69 rfl ?_
    refine r_get (k := 20) (i := 0) F hS f_M_100.get (uV_self V 20 0 (a1, oM A (nI m0) (nI ne) dy th qs (nI nk) hs hd (nI h) (nI (sn + 1)) (nI j) an)) rfl d_M_step_70 ?_
    refine lv_iconst (v := 1) hx hb d_M_step_73 (by decide) ?_
    refine lv_iadd hx hb d_M_step_74 ?_
    rw [nI_1]
    refine r_put (k := 20) (i := 0) F hS f_M_100 ct_M (uV_self V 20 0 (a1, oM A (nI m0) (nI ne) dy th qs (nI nk) hs hd (nI h) (nI (sn + 1)) (nI j) an)) rfl rfl (Nat.le_of_ble_eq_true rfl) d_M_step_75 (fun H locs hS => ?_)
    rw [uV_uV] at hS
    have hS : HS G s (uV V 20 0 (a1, oM A (nI m0) (nI ne) dy th qs (nI nk) hs hd (nI h) (nI (sn + 1)) (nI (j + 1)) an)) H _ := hS
    refine lv_aload_n hx hb d_M_step_78 rfl (lv_at hl 2 rfl) ?_
    refine r_get (k := 20) (i := 0) F hS f_M_103.get (uV_self V 20 0 (a1, oM A (nI m0) (nI ne) dy th qs (nI nk) hs hd (nI h) (nI (sn + 1)) (nI (j + 1)) an)) rfl d_M_step_79 ?_
    refine lv_iload_n hx hb d_M_step_82 rfl (lv_at hl 1 rfl) ?_
    refine r_callS (As := [.int (nI 3)]) (rest := [.int (nI h)]) F hS c_M_106 (k_M_takes G l htr (uV V 20 0 (a1, oM A (nI m0) (nI ne) dy th qs (nI nk) hs hd (nI h) (nI (sn + 1)) (nI (j + 1)) an)) 3 (by decide)) rfl hl.1 rfl (Nat.le_of_ble_eq_true rfl) d_M_step_83 ⟨Nat.le_of_ble_eq_true rfl, Nat.le_of_ble_eq_true rfl⟩ ⟨Nat.le_of_ble_eq_true rfl, Nat.le_of_ble_eq_true rfl⟩ (fun rv V1 H locs hR hS => ?_)
    obtain ⟨rfl, hV⟩ := hR
    rw [hV] at hS
    refine W.eq (g2 := F0 m 86 ls [.int 2, .int (nI h)]) rfl ?_
    refine lv_icmp_ge (tgt := 91) hx hb d_M_step_86 (by decide) (fun c_86 => ?_) (fun c_86 => ?_)
    · have hn : 2 ≤ h := (nI_leI (by decide) (by omega)).mp (show nI 2 ≤ nI h from c_86)
      have hs0 : ¬ h < pNeed 3 := Nat.not_lt.mpr hn
      refine lv_iload_n hx hb d_M_step_91 rfl (lv_at hl 1 rfl) ?_
      refine r_callS (As := [.int (nI 3)]) (rest := []) F hS c_M_106 (k_M_takes G l htr (uV V 20 0 (a1, oM A (nI m0) (nI ne) dy th qs (nI nk) hs hd (nI h) (nI (sn + 1)) (nI (j + 1)) an)) 3 (by decide)) rfl hl.1 rfl (Nat.le_of_ble_eq_true rfl) d_M_step_92 ⟨Nat.le_of_ble_eq_true rfl, Nat.le_of_ble_eq_true rfl⟩ ⟨Nat.le_of_ble_eq_true rfl, Nat.le_of_ble_eq_true rfl⟩ (fun rv V1 H locs hR hS => ?_)
      obtain ⟨rfl, hV⟩ := hR
      rw [hV] at hS
      refine W.eq (g2 := F0 m 95 ls [.int 2]) rfl ?_
      refine lv_if_le (tgt := 112) hx hb d_M_step_95 (by decide) (fun z => absurd z (by decide)) (fun _ => ?_)
      refine lv_aload_n hx hb d_M_step_98 rfl (lv_at hl 2 rfl) ?_
      refine r_get (k := 20) (i := 0) F hS f_M_63.get (uV_self V 20 0 (a1, oM A (nI m0) (nI ne) dy th qs (nI nk) hs hd (nI h) (nI (sn + 1)) (nI (j + 1)) an)) rfl d_M_step_99 ?_
      refine lv_aload_n hx hb d_M_step_102 rfl (lv_at hl 2 rfl) ?_
      refine r_get (k := 20) (i := 0) F hS f_M_103.get (uV_self V 20 0 (a1, oM A (nI m0) (nI ne) dy th qs (nI nk) hs hd (nI h) (nI (sn + 1)) (nI (j + 1)) an)) rfl d_M_step_103 ?_
      refine lv_iconst (v := 1) hx hb d_M_step_106 (by decide) ?_
      refine lv_isub hx hb d_M_step_107 ?_
      rw [nI_m1 (by omega)]
      refine r_lald (k := 37) (i := 0) F hS h37 (vp_in_nI (by omega) (by decide)) d_M_step_108 ?_
      rw [nI_clamp (by omega)]
      refine lv_goto (tgt := 113) hx hb d_M_step_109 (by decide) ?_
      refine lv_lstore (lv' := [(4, .long (g (h - 1))), (3, .int cn), (2, .int (nI 3)), (0, .ref a1), (1, .int (nI i))]) hx hb d_M_step_113 hl (by decide) rfl (fun ls hl => ?_)
      refine lv_iload_n hx hb d_M_step_115 rfl (lv_at hl 2 rfl) ?_
      refine r_callS (As := [.int (nI 3)]) (rest := []) F hS c_M_106 (k_M_takes G l htr (uV V 20 0 (a1, oM A (nI m0) (nI ne) dy th qs (nI nk) hs hd (nI h) (nI (sn + 1)) (nI (j + 1)) an)) 3 (by decide)) rfl hl.1 rfl (Nat.le_of_ble_eq_true rfl) d_M_step_116 ⟨Nat.le_of_ble_eq_true rfl, Nat.le_of_ble_eq_true rfl⟩ ⟨Nat.le_of_ble_eq_true rfl, Nat.le_of_ble_eq_true rfl⟩ (fun rv V1 H locs hR hS => ?_)
      obtain ⟨rfl, hV⟩ := hR
      rw [hV] at hS
      refine W.eq (g2 := F0 m 119 ls [.int 2]) rfl ?_
      refine lv_iconst (v := 1) hx hb d_M_step_119 (by decide) ?_
      refine lv_icmp_le (tgt := 137) hx hb d_M_step_120 (by decide) (fun z => absurd z (by decide)) (fun _ => ?_)
      refine lv_aload_n hx hb d_M_step_123 rfl (lv_at hl 3 rfl) ?_
      refine r_get (k := 20) (i := 0) F hS f_M_63.get (uV_self V 20 0 (a1, oM A (nI m0) (nI ne) dy th qs (nI nk) hs hd (nI h) (nI (sn + 1)) (nI (j + 1)) an)) rfl d_M_step_124 ?_
      refine lv_aload_n hx hb d_M_step_127 rfl (lv_at hl 3 rfl) ?_
      refine r_get (k := 20) (i := 0) F hS f_M_103.get (uV_self V 20 0 (a1, oM A (nI m0) (nI ne) dy th qs (nI nk) hs hd (nI h) (nI (sn + 1)) (nI (j + 1)) an)) rfl d_M_step_128 ?_
      refine lv_iconst (v := 2) hx hb d_M_step_131 (by decide) ?_
      refine lv_isub hx hb d_M_step_132 ?_
      rw [nI_m2 (by omega)]
      refine r_lald (k := 37) (i := 0) F hS h37 (vp_in_nI (by omega) (by decide)) d_M_step_133 ?_
      rw [nI_clamp (by omega)]
      refine lv_goto (tgt := 138) hx hb d_M_step_134 (by decide) ?_
      refine lv_lstore (lv' := [(6, .long (g (h - 2))), (4, .long (g (h - 1))), (3, .int cn), (2, .int (nI 3)), (0, .ref a1), (1, .int (nI i))]) hx hb d_M_step_138 hl (by decide) rfl (fun ls hl => ?_)
      refine lv_iload_n hx hb d_M_step_140 rfl (lv_at hl 3 rfl) ?_
      refine lv_iconst (v := 5) hx hb d_M_step_141 (by decide) ?_
      refine lv_icmp_ne (tgt := 154) hx hb d_M_step_142 (by decide) (fun _ => ?_) (fun z => absurd z (by decide))
      refine lv_aload_n hx hb d_M_step_154 rfl (lv_at hl 4 rfl) ?_
      refine lv_dup hx hb d_M_step_155 rfl ?_
      refine r_get (k := 20) (i := 0) F hS f_M_103.get (uV_self V 20 0 (a1, oM A (nI m0) (nI ne) dy th qs (nI nk) hs hd (nI h) (nI (sn + 1)) (nI (j + 1)) an)) rfl d_M_step_156 ?_
      refine lv_iload_n hx hb d_M_step_159 rfl (lv_at hl 3 rfl) ?_
      refine lv_bipush (v := 7) hx hb d_M_step_160 (by decide) ?_
      refine lv_icmp_ne (tgt := 169) hx hb d_M_step_162 (by decide) (fun _ => ?_) (fun z => absurd z (by decide))
      refine lv_iload_n hx hb d_M_step_169 rfl (lv_at hl 3 rfl) ?_
      refine r_callS (As := [.int (nI 3)]) (rest := [.int (nI h), .ref a1]) F hS c_M_106 (k_M_takes G l htr (uV V 20 0 (a1, oM A (nI m0) (nI ne) dy th qs (nI nk) hs hd (nI h) (nI (sn + 1)) (nI (j + 1)) an)) 3 (by decide)) rfl hl.1 rfl (Nat.le_of_ble_eq_true rfl) d_M_step_170 ⟨Nat.le_of_ble_eq_true rfl, Nat.le_of_ble_eq_true rfl⟩ ⟨Nat.le_of_ble_eq_true rfl, Nat.le_of_ble_eq_true rfl⟩ (fun rv V1 H locs hR hS => ?_)
      obtain ⟨rfl, hV⟩ := hR
      rw [hV] at hS
      refine W.eq (g2 := F0 m 173 ls [.int 2, .int (nI h), .ref a1]) rfl ?_
      refine lv_isub hx hb d_M_step_173 ?_
      rw [nI_m2 (by omega)]
      refine r_put (k := 20) (i := 0) F hS f_M_103 ct_M (uV_self V 20 0 (a1, oM A (nI m0) (nI ne) dy th qs (nI nk) hs hd (nI h) (nI (sn + 1)) (nI (j + 1)) an)) rfl rfl (Nat.le_of_ble_eq_true rfl) d_M_step_174 (fun H locs hS => ?_)
      rw [uV_uV] at hS
      have hS : HS G s (uV V 20 0 (a1, oM A (nI m0) (nI ne) dy th qs (nI nk) hs hd (nI (h - 2)) (nI (sn + 1)) (nI (j + 1)) an)) H _ := hS
      refine lv_iload_n hx hb d_M_step_177 rfl (lv_at hl 3 rfl) ?_
      refine lv_bipush (v := 9) hx hb d_M_step_178 (by decide) ?_
      refine lv_icmp_ne (tgt := 191) hx hb d_M_step_180 (by decide) (fun _ => ?_) (fun z => absurd z (by decide))
      refine lv_iload_n hx hb d_M_step_191 rfl (lv_at hl 3 rfl) ?_
      refine lv_bipush (v := 8) hx hb d_M_step_192 (by decide) ?_
      refine lv_icmp_ne (tgt := 211) hx hb d_M_step_194 (by decide) (fun _ => ?_) (fun z => absurd z (by decide))
      refine lv_aload_n hx hb d_M_step_211 rfl (lv_at hl 4 rfl) ?_
      refine lv_iload_n hx hb d_M_step_212 rfl (lv_at hl 5 rfl) ?_
      refine lv_iload_n hx hb d_M_step_213 rfl (lv_at hl 3 rfl) ?_
      refine lv_iload_n hx hb d_M_step_214 rfl (lv_at hl 2 rfl) ?_
      refine lv_lload hx hb d_M_step_215 (lv_at hl 0 rfl) ?_
      refine lv_lload hx hb d_M_step_217 (lv_at hl 1 rfl) ?_
      refine r_callV (k := 20) (i := 0) (q := ("RuleClassesModel", T_M, 30)) (fs := [.int (nI m0), .int (nI ne), .int dy, .int th, .int qs, .int (nI nk), .int hs, .int hd, .ref (A 21), .ref (A 22), .ref (A 23), .ref (A 24), .ref (A 25), .ref (A 26), .ref (A 27), .ref (A 28), .ref (A 29), .ref (A 30), .ref (A 31), .ref (A 32), .ref (A 33), .ref (A 34), .ref (A 35), .ref (A 36), .ref (A 37), .int (nI (h - 2)), .int (nI (sn + 1)), .int (nI (j + 1)), .long an, .ref (A 38)]) (As := [.int (nI i), .int (nI 3), .int cn, .long (g (h - 2)), .long (g (h - 1))]) (rest := []) F hS c_M_114 (k_M_valueOf G l htr (uV V 20 0 (a1, oM A (nI m0) (nI ne) dy th qs (nI nk) hs hd (nI (h - 2)) (nI (sn + 1)) (nI (j + 1)) an)) a1 A m0 ne nk dy th qs hs hd (nI (h - 2)) (nI (sn + 1)) (nI (j + 1)) an mak gv i 3 cn (g (h - 2)) (g (h - 1)) hi (by omega) (fun z => by obtain ⟨c9, a9, b9, _⟩ := hc1 z; exact ⟨c9, a9, b9⟩) (fun z => absurd z (by decide)) (uV_self V 20 0 (a1, oM A (nI m0) (nI ne) dy th qs (nI nk) hs hd (nI (h - 2)) (nI (sn + 1)) (nI (j + 1)) an)) h25 h38) rfl (uV_self V 20 0 (a1, oM A (nI m0) (nI ne) dy th qs (nI nk) hs hd (nI (h - 2)) (nI (sn + 1)) (nI (j + 1)) an)) rfl hl.1 rfl (Nat.le_of_ble_eq_true rfl) d_M_step_219 ⟨Nat.le_of_ble_eq_true rfl, Nat.le_of_ble_eq_true rfl⟩ ⟨Nat.le_of_ble_eq_true rfl, Nat.le_of_ble_eq_true rfl⟩ (fun rv V1 H locs hR hS => ?_)
      obtain ⟨rfl, hV⟩ := hR
      rw [hV] at hS
      have ev : pVal 3 cn (gv cn.toNatClampNeg) (g (h - 2)) (g (h - 1)) (mak i) = ((f (h - 2)).toInt64 - (f (h - 1)).toInt64) := by
        rw [hg (h - 1) (by omega), hg (h - 2) (by omega)]
        rfl
      have ej : pJoin 3 h f = pPut ((f (h - 2)).toInt64 - (f (h - 1)).toInt64) (h - 2) f := rfl
      obtain ⟨v, hv⟩ : ∃ v, v = pVal 3 cn (gv cn.toNatClampNeg) (g (h - 2)) (g (h - 1)) (mak i) := ⟨_, rfl⟩
      rw [← hv]
      have hp0 : pStep 3 cn fa (mak i) h (nI (j + 1)) an9 f = ((pPut v (h - 2) f).1, (pPut v (h - 2) f).2.1, nI (j + 1), an9, (pPut v (h - 2) f).2.2) := by
        rw [hv, ev, ← ej]
        exact if_neg hs0
      refine W.eq (g2 := F0 m 222 ls [.long v]) rfl ?_
      refine lv_lstore (lv' := [(8, .long v), (6, .long (g (h - 2))), (4, .long (g (h - 1))), (3, .int cn), (2, .int (nI 3)), (0, .ref a1), (1, .int (nI i))]) hx hb d_M_step_222 hl (by decide) rfl (fun ls hl => ?_)
      refine lv_lload hx hb d_M_step_224 (lv_at hl 0 rfl) ?_
      refine lv_ldc2 (v := (-1000000000)) hx hb hown (hts _ m_809) d_M_step_226 ?_
      refine W.lcmp hx hb d_M_step_229 ?_
      refine lv_if_lt (tgt := 242) hx hb d_M_step_230 (by decide) (fun c_230 => ?_) (fun c_230 => ?_)
      · have hp : pStep 3 cn fa (mak i) h (nI (j + 1)) an9 f = (5, h - 2, nI (j + 1), an9, f) := by
          rw [hp0, show pPut v (h - 2) f = (5, h - 2, f) from if_pos (Or.inl ((lg_cmp_lt _ _).mp c_230))]
        refine lv_iconst (v := 5) hx hb d_M_step_242 (by decide) ?_
        exact m_reti F hr hS (Nat.le_of_ble_eq_true rfl) (Nat.le_of_ble_eq_true rfl) (SP.bad hp (by decide) (by decide) (uM_of20 h37)) d_M_step_243
      · refine lv_lload hx hb d_M_step_233 (lv_at hl 0 rfl) ?_
        refine lv_ldc2 (v := 1000000000) hx hb hown (hts _ m_810) d_M_step_235 ?_
        refine W.lcmp hx hb d_M_step_238 ?_
        refine lv_if_le (tgt := 244) hx hb d_M_step_239 (by decide) (fun c_239 => ?_) (fun c_239 => ?_)
        · have hv9 : ¬ (v < -1000000000 ∨ 1000000000 < v) := fun z => z.elim (fun z => c_230 ((lg_cmp_lt _ _).mpr z)) (fun z => absurd ((lg_cmp_le _ _).mp c_239) (Int64.not_le.mpr z))
          refine lv_aload_n hx hb d_M_step_244 rfl (lv_at hl 5 rfl) ?_
          refine r_get (k := 20) (i := 0) F hS f_M_103.get (uV_self V 20 0 (a1, oM A (nI m0) (nI ne) dy th qs (nI nk) hs hd (nI (h - 2)) (nI (sn + 1)) (nI (j + 1)) an)) rfl d_M_step_245 ?_
          refine lv_bipush (v := 8) hx hb d_M_step_248 (by decide) ?_
          refine lv_icmp_ne (tgt := 255) hx hb d_M_step_250 (by decide) (fun c_250 => ?_) (fun c_250 => ?_)
          · have h8 : h - 2 < 8 := Nat.lt_of_le_of_ne (by omega) (fun z => c_250 (congrArg nI z))
            have hp : pStep 3 cn fa (mak i) h (nI (j + 1)) an9 f = (7, h - 2 + 1, nI (j + 1), an9, upd f (h - 2) v.toInt32) := by
              rw [hp0, show pPut v (h - 2) f = (7, h - 2 + 1, upd f (h - 2) v.toInt32) from (if_neg hv9).trans (if_neg (by omega))]
            refine lv_aload_n hx hb d_M_step_255 rfl (lv_at hl 5 rfl) ?_
            refine r_get (k := 20) (i := 0) F hS f_M_63.get (uV_self V 20 0 (a1, oM A (nI m0) (nI ne) dy th qs (nI nk) hs hd (nI (h - 2)) (nI (sn + 1)) (nI (j + 1)) an)) rfl d_M_step_256 ?_
            refine lv_aload_n hx hb d_M_step_259 rfl (lv_at hl 5 rfl) ?_
            refine r_get (k := 20) (i := 0) F hS f_M_103.get (uV_self V 20 0 (a1, oM A (nI m0) (nI ne) dy th qs (nI nk) hs hd (nI (h - 2)) (nI (sn + 1)) (nI (j + 1)) an)) rfl d_M_step_260 ?_
            refine lv_lload hx hb d_M_step_263 (lv_at hl 0 rfl) ?_
            refine r_last (k := 37) (i := 0) F hS h37 (vp_in_nI h8 (by decide)) d_M_step_265 (fun H locs hS => ?_)
            rw [nI_clamp (by omega)] at hS
            have hS : HS G s (uV (uV V 20 0 (a1, oM A (nI m0) (nI ne) dy th qs (nI nk) hs hd (nI (h - 2)) (nI (sn + 1)) (nI (j + 1)) an)) 37 0 ((A 37), aL G 8 (vp_updL g (h - 2) v))) H _ := hS
            refine lv_aload_n hx hb d_M_step_266 rfl (lv_at hl 5 rfl) ?_
            refine lv_dup hx hb d_M_step_267 rfl ?_
            refine r_get (k := 20) (i := 0) F hS f_M_103.get (uV_self V 20 0 (a1, oM A (nI m0) (nI ne) dy th qs (nI nk) hs hd (nI (h - 2)) (nI (sn + 1)) (nI (j + 1)) an)) rfl d_M_step_268 ?_
            refine lv_iconst (v := 1) hx hb d_M_step_271 (by decide) ?_
            refine lv_iadd hx hb d_M_step_272 ?_
            rw [nI_1]
            refine r_put (k := 20) (i := 0) F hS f_M_103 ct_M (uV_self V 20 0 (a1, oM A (nI m0) (nI ne) dy th qs (nI nk) hs hd (nI (h - 2)) (nI (sn + 1)) (nI (j + 1)) an)) rfl rfl (Nat.le_of_ble_eq_true rfl) d_M_step_273 (fun H locs hS => ?_)
            have hS : HS G s (uV (uV (uV V 20 0 (a1, oM A (nI m0) (nI ne) dy th qs (nI nk) hs hd (nI (h - 2)) (nI (sn + 1)) (nI (j + 1)) an)) 37 0 ((A 37), aL G 8 (vp_updL g (h - 2) v))) 20 0 (a1, oM A (nI m0) (nI ne) dy th qs (nI nk) hs hd (nI (h - 2 + 1)) (nI (sn + 1)) (nI (j + 1)) an)) H _ := hS
            refine lv_iconst (v := 0) hx hb d_M_step_276 (by decide) ?_
            exact m_reti F hr hS (Nat.le_of_ble_eq_true rfl) (Nat.le_of_ble_eq_true rfl) (SP.go hp (upL_ok hg (by omega) hv9) (uV3 (by decide))) d_M_step_277
          · have h8 : h - 2 = 8 := (nI_eq (by omega) (by decide)).mp (show nI (h - 2) = nI 8 from c_250)
            have hp : pStep 3 cn fa (mak i) h (nI (j + 1)) an9 f = (3, h - 2, nI (j + 1), an9, f) := by
              rw [hp0, show pPut v (h - 2) f = (3, h - 2, f) from (if_neg hv9).trans (if_pos (by omega))]
            refine lv_iconst (v := 3) hx hb d_M_step_253 (by decide) ?_
            exact m_reti F hr hS (Nat.le_of_ble_eq_true rfl) (Nat.le_of_ble_eq_true rfl) (SP.bad hp (by decide) (by decide) (uM_of20 h37)) d_M_step_254
        · have hp : pStep 3 cn fa (mak i) h (nI (j + 1)) an9 f = (5, h - 2, nI (j + 1), an9, f) := by
            rw [hp0, show pPut v (h - 2) f = (5, h - 2, f) from if_pos (Or.inr (Int64.not_le.mp (fun z => c_239 ((lg_cmp_le _ _).mpr z))))]
          refine lv_iconst (v := 5) hx hb d_M_step_242 (by decide) ?_
          exact m_reti F hr hS (Nat.le_of_ble_eq_true rfl) (Nat.le_of_ble_eq_true rfl) (SP.bad hp (by decide) (by decide) (uM_of20 h37)) d_M_step_243
    · have hp : pStep 3 cn fa (mak i) h (nI (j + 1)) an9 f = (3, h, nI (j + 1), an9, f) := if_pos (show h < pNeed 3 from Nat.not_le.mp (fun z => c_86 (show nI 2 ≤ nI h from nI_le z (by omega))))
      refine lv_iconst (v := 3) hx hb d_M_step_89 (by decide) ?_
      exact m_reti F hr hS (Nat.le_of_ble_eq_true rfl) (Nat.le_of_ble_eq_true rfl) (SP.bad hp (by decide) (by decide) (uM_of20 h37)) d_M_step_90
  · refine lv_aload_n hx hb d_M_step_58 rfl (lv_at hl 2 rfl) ?_
    refine lv_dup hx hb d_M_step_59 rfl ?_
    refine r_get (k := 20) (i := 0) F hS f_M_97.get h20 rfl d_M_step_60 ?_
    refine lv_iconst (v := 1) hx hb d_M_step_63 (by decide) ?_
    refine lv_iadd hx hb d_M_step_64 ?_
    rw [nI_1]
    refine r_put (k := 20) (i := 0) F hS f_M_97 ct_M h20 rfl rfl (Nat.le_of_ble_eq_true rfl) d_M_step_65 (fun H locs hS => ?_)
    have hS : HS G s (uV V 20 0 (a1, oM A (nI m0) (nI ne) dy th qs (nI nk) hs hd (nI h) (nI (sn + 1)) (nI j) an)) H _ := hS
    refine lv_aload_n hx hb d_M_step_68 rfl (lv_at hl 2 rfl) ?_
    refine lv_dup hx hb d_M_step_69 rfl ?_
    refine r_get (k := 20) (i := 0) F hS f_M_100.get (uV_self V 20 0 (a1, oM A (nI m0) (nI ne) dy th qs (nI nk) hs hd (nI h) (nI (sn + 1)) (nI j) an)) rfl d_M_step_70 ?_
    refine lv_iconst (v := 1) hx hb d_M_step_73 (by decide) ?_
    refine lv_iadd hx hb d_M_step_74 ?_
    rw [nI_1]
    refine r_put (k := 20) (i := 0) F hS f_M_100 ct_M (uV_self V 20 0 (a1, oM A (nI m0) (nI ne) dy th qs (nI nk) hs hd (nI h) (nI (sn + 1)) (nI j) an)) rfl rfl (Nat.le_of_ble_eq_true rfl) d_M_step_75 (fun H locs hS => ?_)
    rw [uV_uV] at hS
    have hS : HS G s (uV V 20 0 (a1, oM A (nI m0) (nI ne) dy th qs (nI nk) hs hd (nI h) (nI (sn + 1)) (nI (j + 1)) an)) H _ := hS
    refine lv_aload_n hx hb d_M_step_78 rfl (lv_at hl 2 rfl) ?_
    refine r_get (k := 20) (i := 0) F hS f_M_103.get (uV_self V 20 0 (a1, oM A (nI m0) (nI ne) dy th qs (nI nk) hs hd (nI h) (nI (sn + 1)) (nI (j + 1)) an)) rfl d_M_step_79 ?_
    refine lv_iload_n hx hb d_M_step_82 rfl (lv_at hl 1 rfl) ?_
    refine r_callS (As := [.int (nI 4)]) (rest := [.int (nI h)]) F hS c_M_106 (k_M_takes G l htr (uV V 20 0 (a1, oM A (nI m0) (nI ne) dy th qs (nI nk) hs hd (nI h) (nI (sn + 1)) (nI (j + 1)) an)) 4 (by decide)) rfl hl.1 rfl (Nat.le_of_ble_eq_true rfl) d_M_step_83 ⟨Nat.le_of_ble_eq_true rfl, Nat.le_of_ble_eq_true rfl⟩ ⟨Nat.le_of_ble_eq_true rfl, Nat.le_of_ble_eq_true rfl⟩ (fun rv V1 H locs hR hS => ?_)
    obtain ⟨rfl, hV⟩ := hR
    rw [hV] at hS
    refine W.eq (g2 := F0 m 86 ls [.int 2, .int (nI h)]) rfl ?_
    refine lv_icmp_ge (tgt := 91) hx hb d_M_step_86 (by decide) (fun c_86 => ?_) (fun c_86 => ?_)
    · have hn : 2 ≤ h := (nI_leI (by decide) (by omega)).mp (show nI 2 ≤ nI h from c_86)
      have hs0 : ¬ h < pNeed 4 := Nat.not_lt.mpr hn
      refine lv_iload_n hx hb d_M_step_91 rfl (lv_at hl 1 rfl) ?_
      refine r_callS (As := [.int (nI 4)]) (rest := []) F hS c_M_106 (k_M_takes G l htr (uV V 20 0 (a1, oM A (nI m0) (nI ne) dy th qs (nI nk) hs hd (nI h) (nI (sn + 1)) (nI (j + 1)) an)) 4 (by decide)) rfl hl.1 rfl (Nat.le_of_ble_eq_true rfl) d_M_step_92 ⟨Nat.le_of_ble_eq_true rfl, Nat.le_of_ble_eq_true rfl⟩ ⟨Nat.le_of_ble_eq_true rfl, Nat.le_of_ble_eq_true rfl⟩ (fun rv V1 H locs hR hS => ?_)
      obtain ⟨rfl, hV⟩ := hR
      rw [hV] at hS
      refine W.eq (g2 := F0 m 95 ls [.int 2]) rfl ?_
      refine lv_if_le (tgt := 112) hx hb d_M_step_95 (by decide) (fun z => absurd z (by decide)) (fun _ => ?_)
      refine lv_aload_n hx hb d_M_step_98 rfl (lv_at hl 2 rfl) ?_
      refine r_get (k := 20) (i := 0) F hS f_M_63.get (uV_self V 20 0 (a1, oM A (nI m0) (nI ne) dy th qs (nI nk) hs hd (nI h) (nI (sn + 1)) (nI (j + 1)) an)) rfl d_M_step_99 ?_
      refine lv_aload_n hx hb d_M_step_102 rfl (lv_at hl 2 rfl) ?_
      refine r_get (k := 20) (i := 0) F hS f_M_103.get (uV_self V 20 0 (a1, oM A (nI m0) (nI ne) dy th qs (nI nk) hs hd (nI h) (nI (sn + 1)) (nI (j + 1)) an)) rfl d_M_step_103 ?_
      refine lv_iconst (v := 1) hx hb d_M_step_106 (by decide) ?_
      refine lv_isub hx hb d_M_step_107 ?_
      rw [nI_m1 (by omega)]
      refine r_lald (k := 37) (i := 0) F hS h37 (vp_in_nI (by omega) (by decide)) d_M_step_108 ?_
      rw [nI_clamp (by omega)]
      refine lv_goto (tgt := 113) hx hb d_M_step_109 (by decide) ?_
      refine lv_lstore (lv' := [(4, .long (g (h - 1))), (3, .int cn), (2, .int (nI 4)), (0, .ref a1), (1, .int (nI i))]) hx hb d_M_step_113 hl (by decide) rfl (fun ls hl => ?_)
      refine lv_iload_n hx hb d_M_step_115 rfl (lv_at hl 2 rfl) ?_
      refine r_callS (As := [.int (nI 4)]) (rest := []) F hS c_M_106 (k_M_takes G l htr (uV V 20 0 (a1, oM A (nI m0) (nI ne) dy th qs (nI nk) hs hd (nI h) (nI (sn + 1)) (nI (j + 1)) an)) 4 (by decide)) rfl hl.1 rfl (Nat.le_of_ble_eq_true rfl) d_M_step_116 ⟨Nat.le_of_ble_eq_true rfl, Nat.le_of_ble_eq_true rfl⟩ ⟨Nat.le_of_ble_eq_true rfl, Nat.le_of_ble_eq_true rfl⟩ (fun rv V1 H locs hR hS => ?_)
      obtain ⟨rfl, hV⟩ := hR
      rw [hV] at hS
      refine W.eq (g2 := F0 m 119 ls [.int 2]) rfl ?_
      refine lv_iconst (v := 1) hx hb d_M_step_119 (by decide) ?_
      refine lv_icmp_le (tgt := 137) hx hb d_M_step_120 (by decide) (fun z => absurd z (by decide)) (fun _ => ?_)
      refine lv_aload_n hx hb d_M_step_123 rfl (lv_at hl 3 rfl) ?_
      refine r_get (k := 20) (i := 0) F hS f_M_63.get (uV_self V 20 0 (a1, oM A (nI m0) (nI ne) dy th qs (nI nk) hs hd (nI h) (nI (sn + 1)) (nI (j + 1)) an)) rfl d_M_step_124 ?_
      refine lv_aload_n hx hb d_M_step_127 rfl (lv_at hl 3 rfl) ?_
      refine r_get (k := 20) (i := 0) F hS f_M_103.get (uV_self V 20 0 (a1, oM A (nI m0) (nI ne) dy th qs (nI nk) hs hd (nI h) (nI (sn + 1)) (nI (j + 1)) an)) rfl d_M_step_128 ?_
      refine lv_iconst (v := 2) hx hb d_M_step_131 (by decide) ?_
      refine lv_isub hx hb d_M_step_132 ?_
      rw [nI_m2 (by omega)]
      refine r_lald (k := 37) (i := 0) F hS h37 (vp_in_nI (by omega) (by decide)) d_M_step_133 ?_
      rw [nI_clamp (by omega)]
      refine lv_goto (tgt := 138) hx hb d_M_step_134 (by decide) ?_
      refine lv_lstore (lv' := [(6, .long (g (h - 2))), (4, .long (g (h - 1))), (3, .int cn), (2, .int (nI 4)), (0, .ref a1), (1, .int (nI i))]) hx hb d_M_step_138 hl (by decide) rfl (fun ls hl => ?_)
      refine lv_iload_n hx hb d_M_step_140 rfl (lv_at hl 3 rfl) ?_
      refine lv_iconst (v := 5) hx hb d_M_step_141 (by decide) ?_
      refine lv_icmp_ne (tgt := 154) hx hb d_M_step_142 (by decide) (fun _ => ?_) (fun z => absurd z (by decide))
      refine lv_aload_n hx hb d_M_step_154 rfl (lv_at hl 4 rfl) ?_
      refine lv_dup hx hb d_M_step_155 rfl ?_
      refine r_get (k := 20) (i := 0) F hS f_M_103.get (uV_self V 20 0 (a1, oM A (nI m0) (nI ne) dy th qs (nI nk) hs hd (nI h) (nI (sn + 1)) (nI (j + 1)) an)) rfl d_M_step_156 ?_
      refine lv_iload_n hx hb d_M_step_159 rfl (lv_at hl 3 rfl) ?_
      refine lv_bipush (v := 7) hx hb d_M_step_160 (by decide) ?_
      refine lv_icmp_ne (tgt := 169) hx hb d_M_step_162 (by decide) (fun _ => ?_) (fun z => absurd z (by decide))
      refine lv_iload_n hx hb d_M_step_169 rfl (lv_at hl 3 rfl) ?_
      refine r_callS (As := [.int (nI 4)]) (rest := [.int (nI h), .ref a1]) F hS c_M_106 (k_M_takes G l htr (uV V 20 0 (a1, oM A (nI m0) (nI ne) dy th qs (nI nk) hs hd (nI h) (nI (sn + 1)) (nI (j + 1)) an)) 4 (by decide)) rfl hl.1 rfl (Nat.le_of_ble_eq_true rfl) d_M_step_170 ⟨Nat.le_of_ble_eq_true rfl, Nat.le_of_ble_eq_true rfl⟩ ⟨Nat.le_of_ble_eq_true rfl, Nat.le_of_ble_eq_true rfl⟩ (fun rv V1 H locs hR hS => ?_)
      obtain ⟨rfl, hV⟩ := hR
      rw [hV] at hS
      refine W.eq (g2 := F0 m 173 ls [.int 2, .int (nI h), .ref a1]) rfl ?_
      refine lv_isub hx hb d_M_step_173 ?_
      rw [nI_m2 (by omega)]
      refine r_put (k := 20) (i := 0) F hS f_M_103 ct_M (uV_self V 20 0 (a1, oM A (nI m0) (nI ne) dy th qs (nI nk) hs hd (nI h) (nI (sn + 1)) (nI (j + 1)) an)) rfl rfl (Nat.le_of_ble_eq_true rfl) d_M_step_174 (fun H locs hS => ?_)
      rw [uV_uV] at hS
      have hS : HS G s (uV V 20 0 (a1, oM A (nI m0) (nI ne) dy th qs (nI nk) hs hd (nI (h - 2)) (nI (sn + 1)) (nI (j + 1)) an)) H _ := hS
      refine lv_iload_n hx hb d_M_step_177 rfl (lv_at hl 3 rfl) ?_
      refine lv_bipush (v := 9) hx hb d_M_step_178 (by decide) ?_
      refine lv_icmp_ne (tgt := 191) hx hb d_M_step_180 (by decide) (fun _ => ?_) (fun z => absurd z (by decide))
      refine lv_iload_n hx hb d_M_step_191 rfl (lv_at hl 3 rfl) ?_
      refine lv_bipush (v := 8) hx hb d_M_step_192 (by decide) ?_
      refine lv_icmp_ne (tgt := 211) hx hb d_M_step_194 (by decide) (fun _ => ?_) (fun z => absurd z (by decide))
      refine lv_aload_n hx hb d_M_step_211 rfl (lv_at hl 4 rfl) ?_
      refine lv_iload_n hx hb d_M_step_212 rfl (lv_at hl 5 rfl) ?_
      refine lv_iload_n hx hb d_M_step_213 rfl (lv_at hl 3 rfl) ?_
      refine lv_iload_n hx hb d_M_step_214 rfl (lv_at hl 2 rfl) ?_
      refine lv_lload hx hb d_M_step_215 (lv_at hl 0 rfl) ?_
      refine lv_lload hx hb d_M_step_217 (lv_at hl 1 rfl) ?_
      refine r_callV (k := 20) (i := 0) (q := ("RuleClassesModel", T_M, 30)) (fs := [.int (nI m0), .int (nI ne), .int dy, .int th, .int qs, .int (nI nk), .int hs, .int hd, .ref (A 21), .ref (A 22), .ref (A 23), .ref (A 24), .ref (A 25), .ref (A 26), .ref (A 27), .ref (A 28), .ref (A 29), .ref (A 30), .ref (A 31), .ref (A 32), .ref (A 33), .ref (A 34), .ref (A 35), .ref (A 36), .ref (A 37), .int (nI (h - 2)), .int (nI (sn + 1)), .int (nI (j + 1)), .long an, .ref (A 38)]) (As := [.int (nI i), .int (nI 4), .int cn, .long (g (h - 2)), .long (g (h - 1))]) (rest := []) F hS c_M_114 (k_M_valueOf G l htr (uV V 20 0 (a1, oM A (nI m0) (nI ne) dy th qs (nI nk) hs hd (nI (h - 2)) (nI (sn + 1)) (nI (j + 1)) an)) a1 A m0 ne nk dy th qs hs hd (nI (h - 2)) (nI (sn + 1)) (nI (j + 1)) an mak gv i 4 cn (g (h - 2)) (g (h - 1)) hi (by omega) (fun z => by obtain ⟨c9, a9, b9, _⟩ := hc1 z; exact ⟨c9, a9, b9⟩) (fun z => absurd z (by decide)) (uV_self V 20 0 (a1, oM A (nI m0) (nI ne) dy th qs (nI nk) hs hd (nI (h - 2)) (nI (sn + 1)) (nI (j + 1)) an)) h25 h38) rfl (uV_self V 20 0 (a1, oM A (nI m0) (nI ne) dy th qs (nI nk) hs hd (nI (h - 2)) (nI (sn + 1)) (nI (j + 1)) an)) rfl hl.1 rfl (Nat.le_of_ble_eq_true rfl) d_M_step_219 ⟨Nat.le_of_ble_eq_true rfl, Nat.le_of_ble_eq_true rfl⟩ ⟨Nat.le_of_ble_eq_true rfl, Nat.le_of_ble_eq_true rfl⟩ (fun rv V1 H locs hR hS => ?_)
      obtain ⟨rfl, hV⟩ := hR
      rw [hV] at hS
      have ev : pVal 4 cn (gv cn.toNatClampNeg) (g (h - 2)) (g (h - 1)) (mak i) = ((f (h - 2)).toInt64 * (f (h - 1)).toInt64) := by
        rw [hg (h - 1) (by omega), hg (h - 2) (by omega)]
        rfl
      have ej : pJoin 4 h f = pPut ((f (h - 2)).toInt64 * (f (h - 1)).toInt64) (h - 2) f := rfl
      obtain ⟨v, hv⟩ : ∃ v, v = pVal 4 cn (gv cn.toNatClampNeg) (g (h - 2)) (g (h - 1)) (mak i) := ⟨_, rfl⟩
      rw [← hv]
      have hp0 : pStep 4 cn fa (mak i) h (nI (j + 1)) an9 f = ((pPut v (h - 2) f).1, (pPut v (h - 2) f).2.1, nI (j + 1), an9, (pPut v (h - 2) f).2.2) := by
        rw [hv, ev, ← ej]
        exact if_neg hs0
      refine W.eq (g2 := F0 m 222 ls [.long v]) rfl ?_
      refine lv_lstore (lv' := [(8, .long v), (6, .long (g (h - 2))), (4, .long (g (h - 1))), (3, .int cn), (2, .int (nI 4)), (0, .ref a1), (1, .int (nI i))]) hx hb d_M_step_222 hl (by decide) rfl (fun ls hl => ?_)
      refine lv_lload hx hb d_M_step_224 (lv_at hl 0 rfl) ?_
      refine lv_ldc2 (v := (-1000000000)) hx hb hown (hts _ m_809) d_M_step_226 ?_
      refine W.lcmp hx hb d_M_step_229 ?_
      refine lv_if_lt (tgt := 242) hx hb d_M_step_230 (by decide) (fun c_230 => ?_) (fun c_230 => ?_)
      · have hp : pStep 4 cn fa (mak i) h (nI (j + 1)) an9 f = (5, h - 2, nI (j + 1), an9, f) := by
          rw [hp0, show pPut v (h - 2) f = (5, h - 2, f) from if_pos (Or.inl ((lg_cmp_lt _ _).mp c_230))]
        refine lv_iconst (v := 5) hx hb d_M_step_242 (by decide) ?_
        exact m_reti F hr hS (Nat.le_of_ble_eq_true rfl) (Nat.le_of_ble_eq_true rfl) (SP.bad hp (by decide) (by decide) (uM_of20 h37)) d_M_step_243
      · refine lv_lload hx hb d_M_step_233 (lv_at hl 0 rfl) ?_
        refine lv_ldc2 (v := 1000000000) hx hb hown (hts _ m_810) d_M_step_235 ?_
        refine W.lcmp hx hb d_M_step_238 ?_
        refine lv_if_le (tgt := 244) hx hb d_M_step_239 (by decide) (fun c_239 => ?_) (fun c_239 => ?_)
        · have hv9 : ¬ (v < -1000000000 ∨ 1000000000 < v) := fun z => z.elim (fun z => c_230 ((lg_cmp_lt _ _).mpr z)) (fun z => absurd ((lg_cmp_le _ _).mp c_239) (Int64.not_le.mpr z))
          refine lv_aload_n hx hb d_M_step_244 rfl (lv_at hl 5 rfl) ?_
          refine r_get (k := 20) (i := 0) F hS f_M_103.get (uV_self V 20 0 (a1, oM A (nI m0) (nI ne) dy th qs (nI nk) hs hd (nI (h - 2)) (nI (sn + 1)) (nI (j + 1)) an)) rfl d_M_step_245 ?_
          refine lv_bipush (v := 8) hx hb d_M_step_248 (by decide) ?_
          refine lv_icmp_ne (tgt := 255) hx hb d_M_step_250 (by decide) (fun c_250 => ?_) (fun c_250 => ?_)
          · have h8 : h - 2 < 8 := Nat.lt_of_le_of_ne (by omega) (fun z => c_250 (congrArg nI z))
            have hp : pStep 4 cn fa (mak i) h (nI (j + 1)) an9 f = (7, h - 2 + 1, nI (j + 1), an9, upd f (h - 2) v.toInt32) := by
              rw [hp0, show pPut v (h - 2) f = (7, h - 2 + 1, upd f (h - 2) v.toInt32) from (if_neg hv9).trans (if_neg (by omega))]
            refine lv_aload_n hx hb d_M_step_255 rfl (lv_at hl 5 rfl) ?_
            refine r_get (k := 20) (i := 0) F hS f_M_63.get (uV_self V 20 0 (a1, oM A (nI m0) (nI ne) dy th qs (nI nk) hs hd (nI (h - 2)) (nI (sn + 1)) (nI (j + 1)) an)) rfl d_M_step_256 ?_
            refine lv_aload_n hx hb d_M_step_259 rfl (lv_at hl 5 rfl) ?_
            refine r_get (k := 20) (i := 0) F hS f_M_103.get (uV_self V 20 0 (a1, oM A (nI m0) (nI ne) dy th qs (nI nk) hs hd (nI (h - 2)) (nI (sn + 1)) (nI (j + 1)) an)) rfl d_M_step_260 ?_
            refine lv_lload hx hb d_M_step_263 (lv_at hl 0 rfl) ?_
            refine r_last (k := 37) (i := 0) F hS h37 (vp_in_nI h8 (by decide)) d_M_step_265 (fun H locs hS => ?_)
            rw [nI_clamp (by omega)] at hS
            have hS : HS G s (uV (uV V 20 0 (a1, oM A (nI m0) (nI ne) dy th qs (nI nk) hs hd (nI (h - 2)) (nI (sn + 1)) (nI (j + 1)) an)) 37 0 ((A 37), aL G 8 (vp_updL g (h - 2) v))) H _ := hS
            refine lv_aload_n hx hb d_M_step_266 rfl (lv_at hl 5 rfl) ?_
            refine lv_dup hx hb d_M_step_267 rfl ?_
            refine r_get (k := 20) (i := 0) F hS f_M_103.get (uV_self V 20 0 (a1, oM A (nI m0) (nI ne) dy th qs (nI nk) hs hd (nI (h - 2)) (nI (sn + 1)) (nI (j + 1)) an)) rfl d_M_step_268 ?_
            refine lv_iconst (v := 1) hx hb d_M_step_271 (by decide) ?_
            refine lv_iadd hx hb d_M_step_272 ?_
            rw [nI_1]
            refine r_put (k := 20) (i := 0) F hS f_M_103 ct_M (uV_self V 20 0 (a1, oM A (nI m0) (nI ne) dy th qs (nI nk) hs hd (nI (h - 2)) (nI (sn + 1)) (nI (j + 1)) an)) rfl rfl (Nat.le_of_ble_eq_true rfl) d_M_step_273 (fun H locs hS => ?_)
            have hS : HS G s (uV (uV (uV V 20 0 (a1, oM A (nI m0) (nI ne) dy th qs (nI nk) hs hd (nI (h - 2)) (nI (sn + 1)) (nI (j + 1)) an)) 37 0 ((A 37), aL G 8 (vp_updL g (h - 2) v))) 20 0 (a1, oM A (nI m0) (nI ne) dy th qs (nI nk) hs hd (nI (h - 2 + 1)) (nI (sn + 1)) (nI (j + 1)) an)) H _ := hS
            refine lv_iconst (v := 0) hx hb d_M_step_276 (by decide) ?_
            exact m_reti F hr hS (Nat.le_of_ble_eq_true rfl) (Nat.le_of_ble_eq_true rfl) (SP.go hp (upL_ok hg (by omega) hv9) (uV3 (by decide))) d_M_step_277
          · have h8 : h - 2 = 8 := (nI_eq (by omega) (by decide)).mp (show nI (h - 2) = nI 8 from c_250)
            have hp : pStep 4 cn fa (mak i) h (nI (j + 1)) an9 f = (3, h - 2, nI (j + 1), an9, f) := by
              rw [hp0, show pPut v (h - 2) f = (3, h - 2, f) from (if_neg hv9).trans (if_pos (by omega))]
            refine lv_iconst (v := 3) hx hb d_M_step_253 (by decide) ?_
            exact m_reti F hr hS (Nat.le_of_ble_eq_true rfl) (Nat.le_of_ble_eq_true rfl) (SP.bad hp (by decide) (by decide) (uM_of20 h37)) d_M_step_254
        · have hp : pStep 4 cn fa (mak i) h (nI (j + 1)) an9 f = (5, h - 2, nI (j + 1), an9, f) := by
            rw [hp0, show pPut v (h - 2) f = (5, h - 2, f) from if_pos (Or.inr (Int64.not_le.mp (fun z => c_239 ((lg_cmp_le _ _).mpr z))))]
          refine lv_iconst (v := 5) hx hb d_M_step_242 (by decide) ?_
          exact m_reti F hr hS (Nat.le_of_ble_eq_true rfl) (Nat.le_of_ble_eq_true rfl) (SP.bad hp (by decide) (by decide) (uM_of20 h37)) d_M_step_243
    · have hp : pStep 4 cn fa (mak i) h (nI (j + 1)) an9 f = (3, h, nI (j + 1), an9, f) := if_pos (show h < pNeed 4 from Nat.not_le.mp (fun z => c_86 (show nI 2 ≤ nI h from nI_le z (by omega))))
      refine lv_iconst (v := 3) hx hb d_M_step_89 (by decide) ?_
      exact m_reti F hr hS (Nat.le_of_ble_eq_true rfl) (Nat.le_of_ble_eq_true rfl) (SP.bad hp (by decide) (by decide) (uM_of20 h37)) d_M_step_90
  · refine lv_aload_n hx hb d_M_step_58 rfl (lv_at hl 2 rfl) ?_
    refine lv_dup hx hb d_M_step_59 rfl ?_
    refine r_get (k := 20) (i := 0) F hS f_M_97.get h20 rfl d_M_step_60 ?_
    refine lv_iconst (v := 1) hx hb d_M_step_63 (by decide) ?_
    refine lv_iadd hx hb d_M_step_64 ?_
    rw [nI_1]
    refine r_put (k := 20) (i := 0) F hS f_M_97 ct_M h20 rfl rfl (Nat.le_of_ble_eq_true rfl) d_M_step_65 (fun H locs hS => ?_)
    have hS : HS G s (uV V 20 0 (a1, oM A (nI m0) (nI ne) dy th qs (nI nk) hs hd (nI h) (nI (sn + 1)) (nI j) an)) H _ := hS
    refine lv_aload_n hx hb d_M_step_68 rfl (lv_at hl 2 rfl) ?_
    refine lv_dup hx hb d_M_step_69 rfl ?_
    refine r_get (k := 20) (i := 0) F hS f_M_100.get (uV_self V 20 0 (a1, oM A (nI m0) (nI ne) dy th qs (nI nk) hs hd (nI h) (nI (sn + 1)) (nI j) an)) rfl d_M_step_70 ?_
    refine lv_iconst (v := 1) hx hb d_M_step_73 (by decide) ?_
    refine lv_iadd hx hb d_M_step_74 ?_
    rw [nI_1]
    refine r_put (k := 20) (i := 0) F hS f_M_100 ct_M (uV_self V 20 0 (a1, oM A (nI m0) (nI ne) dy th qs (nI nk) hs hd (nI h) (nI (sn + 1)) (nI j) an)) rfl rfl (Nat.le_of_ble_eq_true rfl) d_M_step_75 (fun H locs hS => ?_)
    rw [uV_uV] at hS
    have hS : HS G s (uV V 20 0 (a1, oM A (nI m0) (nI ne) dy th qs (nI nk) hs hd (nI h) (nI (sn + 1)) (nI (j + 1)) an)) H _ := hS
    refine lv_aload_n hx hb d_M_step_78 rfl (lv_at hl 2 rfl) ?_
    refine r_get (k := 20) (i := 0) F hS f_M_103.get (uV_self V 20 0 (a1, oM A (nI m0) (nI ne) dy th qs (nI nk) hs hd (nI h) (nI (sn + 1)) (nI (j + 1)) an)) rfl d_M_step_79 ?_
    refine lv_iload_n hx hb d_M_step_82 rfl (lv_at hl 1 rfl) ?_
    refine r_callS (As := [.int (nI 5)]) (rest := [.int (nI h)]) F hS c_M_106 (k_M_takes G l htr (uV V 20 0 (a1, oM A (nI m0) (nI ne) dy th qs (nI nk) hs hd (nI h) (nI (sn + 1)) (nI (j + 1)) an)) 5 (by decide)) rfl hl.1 rfl (Nat.le_of_ble_eq_true rfl) d_M_step_83 ⟨Nat.le_of_ble_eq_true rfl, Nat.le_of_ble_eq_true rfl⟩ ⟨Nat.le_of_ble_eq_true rfl, Nat.le_of_ble_eq_true rfl⟩ (fun rv V1 H locs hR hS => ?_)
    obtain ⟨rfl, hV⟩ := hR
    rw [hV] at hS
    refine W.eq (g2 := F0 m 86 ls [.int 2, .int (nI h)]) rfl ?_
    refine lv_icmp_ge (tgt := 91) hx hb d_M_step_86 (by decide) (fun c_86 => ?_) (fun c_86 => ?_)
    · have hn : 2 ≤ h := (nI_leI (by decide) (by omega)).mp (show nI 2 ≤ nI h from c_86)
      have hs0 : ¬ h < pNeed 5 := Nat.not_lt.mpr hn
      refine lv_iload_n hx hb d_M_step_91 rfl (lv_at hl 1 rfl) ?_
      refine r_callS (As := [.int (nI 5)]) (rest := []) F hS c_M_106 (k_M_takes G l htr (uV V 20 0 (a1, oM A (nI m0) (nI ne) dy th qs (nI nk) hs hd (nI h) (nI (sn + 1)) (nI (j + 1)) an)) 5 (by decide)) rfl hl.1 rfl (Nat.le_of_ble_eq_true rfl) d_M_step_92 ⟨Nat.le_of_ble_eq_true rfl, Nat.le_of_ble_eq_true rfl⟩ ⟨Nat.le_of_ble_eq_true rfl, Nat.le_of_ble_eq_true rfl⟩ (fun rv V1 H locs hR hS => ?_)
      obtain ⟨rfl, hV⟩ := hR
      rw [hV] at hS
      refine W.eq (g2 := F0 m 95 ls [.int 2]) rfl ?_
      refine lv_if_le (tgt := 112) hx hb d_M_step_95 (by decide) (fun z => absurd z (by decide)) (fun _ => ?_)
      refine lv_aload_n hx hb d_M_step_98 rfl (lv_at hl 2 rfl) ?_
      refine r_get (k := 20) (i := 0) F hS f_M_63.get (uV_self V 20 0 (a1, oM A (nI m0) (nI ne) dy th qs (nI nk) hs hd (nI h) (nI (sn + 1)) (nI (j + 1)) an)) rfl d_M_step_99 ?_
      refine lv_aload_n hx hb d_M_step_102 rfl (lv_at hl 2 rfl) ?_
      refine r_get (k := 20) (i := 0) F hS f_M_103.get (uV_self V 20 0 (a1, oM A (nI m0) (nI ne) dy th qs (nI nk) hs hd (nI h) (nI (sn + 1)) (nI (j + 1)) an)) rfl d_M_step_103 ?_
      refine lv_iconst (v := 1) hx hb d_M_step_106 (by decide) ?_
      refine lv_isub hx hb d_M_step_107 ?_
      rw [nI_m1 (by omega)]
      refine r_lald (k := 37) (i := 0) F hS h37 (vp_in_nI (by omega) (by decide)) d_M_step_108 ?_
      rw [nI_clamp (by omega)]
      refine lv_goto (tgt := 113) hx hb d_M_step_109 (by decide) ?_
      refine lv_lstore (lv' := [(4, .long (g (h - 1))), (3, .int cn), (2, .int (nI 5)), (0, .ref a1), (1, .int (nI i))]) hx hb d_M_step_113 hl (by decide) rfl (fun ls hl => ?_)
      refine lv_iload_n hx hb d_M_step_115 rfl (lv_at hl 2 rfl) ?_
      refine r_callS (As := [.int (nI 5)]) (rest := []) F hS c_M_106 (k_M_takes G l htr (uV V 20 0 (a1, oM A (nI m0) (nI ne) dy th qs (nI nk) hs hd (nI h) (nI (sn + 1)) (nI (j + 1)) an)) 5 (by decide)) rfl hl.1 rfl (Nat.le_of_ble_eq_true rfl) d_M_step_116 ⟨Nat.le_of_ble_eq_true rfl, Nat.le_of_ble_eq_true rfl⟩ ⟨Nat.le_of_ble_eq_true rfl, Nat.le_of_ble_eq_true rfl⟩ (fun rv V1 H locs hR hS => ?_)
      obtain ⟨rfl, hV⟩ := hR
      rw [hV] at hS
      refine W.eq (g2 := F0 m 119 ls [.int 2]) rfl ?_
      refine lv_iconst (v := 1) hx hb d_M_step_119 (by decide) ?_
      refine lv_icmp_le (tgt := 137) hx hb d_M_step_120 (by decide) (fun z => absurd z (by decide)) (fun _ => ?_)
      refine lv_aload_n hx hb d_M_step_123 rfl (lv_at hl 3 rfl) ?_
      refine r_get (k := 20) (i := 0) F hS f_M_63.get (uV_self V 20 0 (a1, oM A (nI m0) (nI ne) dy th qs (nI nk) hs hd (nI h) (nI (sn + 1)) (nI (j + 1)) an)) rfl d_M_step_124 ?_
      refine lv_aload_n hx hb d_M_step_127 rfl (lv_at hl 3 rfl) ?_
      refine r_get (k := 20) (i := 0) F hS f_M_103.get (uV_self V 20 0 (a1, oM A (nI m0) (nI ne) dy th qs (nI nk) hs hd (nI h) (nI (sn + 1)) (nI (j + 1)) an)) rfl d_M_step_128 ?_
      refine lv_iconst (v := 2) hx hb d_M_step_131 (by decide) ?_
      refine lv_isub hx hb d_M_step_132 ?_
      rw [nI_m2 (by omega)]
      refine r_lald (k := 37) (i := 0) F hS h37 (vp_in_nI (by omega) (by decide)) d_M_step_133 ?_
      rw [nI_clamp (by omega)]
      refine lv_goto (tgt := 138) hx hb d_M_step_134 (by decide) ?_
      refine lv_lstore (lv' := [(6, .long (g (h - 2))), (4, .long (g (h - 1))), (3, .int cn), (2, .int (nI 5)), (0, .ref a1), (1, .int (nI i))]) hx hb d_M_step_138 hl (by decide) rfl (fun ls hl => ?_)
      refine lv_iload_n hx hb d_M_step_140 rfl (lv_at hl 3 rfl) ?_
      refine lv_iconst (v := 5) hx hb d_M_step_141 (by decide) ?_
      refine lv_icmp_ne (tgt := 154) hx hb d_M_step_142 (by decide) (fun z => absurd z (by decide)) (fun _ => ?_)
      refine lv_lload hx hb d_M_step_145 (lv_at hl 1 rfl) ?_
      refine lv_lconst (v := 0) hx hb d_M_step_147 (by decide) ?_
      refine W.lcmp hx hb d_M_step_148 ?_
      refine lv_if_ne (tgt := 154) hx hb d_M_step_149 (by decide) (fun c_149 => ?_) (fun c_149 => ?_)
      · have hne5 : ¬ g (h - 1) = 0 := fun z => c_149 ((lg_cmp_eq _ _).mpr z)
        have hne : ¬ (f (h - 1)).toInt64 = 0 := fun z => hne5 ((hg (h - 1) (by omega)).trans z)
        refine lv_aload_n hx hb d_M_step_154 rfl (lv_at hl 4 rfl) ?_
        refine lv_dup hx hb d_M_step_155 rfl ?_
        refine r_get (k := 20) (i := 0) F hS f_M_103.get (uV_self V 20 0 (a1, oM A (nI m0) (nI ne) dy th qs (nI nk) hs hd (nI h) (nI (sn + 1)) (nI (j + 1)) an)) rfl d_M_step_156 ?_
        refine lv_iload_n hx hb d_M_step_159 rfl (lv_at hl 3 rfl) ?_
        refine lv_bipush (v := 7) hx hb d_M_step_160 (by decide) ?_
        refine lv_icmp_ne (tgt := 169) hx hb d_M_step_162 (by decide) (fun _ => ?_) (fun z => absurd z (by decide))
        refine lv_iload_n hx hb d_M_step_169 rfl (lv_at hl 3 rfl) ?_
        refine r_callS (As := [.int (nI 5)]) (rest := [.int (nI h), .ref a1]) F hS c_M_106 (k_M_takes G l htr (uV V 20 0 (a1, oM A (nI m0) (nI ne) dy th qs (nI nk) hs hd (nI h) (nI (sn + 1)) (nI (j + 1)) an)) 5 (by decide)) rfl hl.1 rfl (Nat.le_of_ble_eq_true rfl) d_M_step_170 ⟨Nat.le_of_ble_eq_true rfl, Nat.le_of_ble_eq_true rfl⟩ ⟨Nat.le_of_ble_eq_true rfl, Nat.le_of_ble_eq_true rfl⟩ (fun rv V1 H locs hR hS => ?_)
        obtain ⟨rfl, hV⟩ := hR
        rw [hV] at hS
        refine W.eq (g2 := F0 m 173 ls [.int 2, .int (nI h), .ref a1]) rfl ?_
        refine lv_isub hx hb d_M_step_173 ?_
        rw [nI_m2 (by omega)]
        refine r_put (k := 20) (i := 0) F hS f_M_103 ct_M (uV_self V 20 0 (a1, oM A (nI m0) (nI ne) dy th qs (nI nk) hs hd (nI h) (nI (sn + 1)) (nI (j + 1)) an)) rfl rfl (Nat.le_of_ble_eq_true rfl) d_M_step_174 (fun H locs hS => ?_)
        rw [uV_uV] at hS
        have hS : HS G s (uV V 20 0 (a1, oM A (nI m0) (nI ne) dy th qs (nI nk) hs hd (nI (h - 2)) (nI (sn + 1)) (nI (j + 1)) an)) H _ := hS
        refine lv_iload_n hx hb d_M_step_177 rfl (lv_at hl 3 rfl) ?_
        refine lv_bipush (v := 9) hx hb d_M_step_178 (by decide) ?_
        refine lv_icmp_ne (tgt := 191) hx hb d_M_step_180 (by decide) (fun _ => ?_) (fun z => absurd z (by decide))
        refine lv_iload_n hx hb d_M_step_191 rfl (lv_at hl 3 rfl) ?_
        refine lv_bipush (v := 8) hx hb d_M_step_192 (by decide) ?_
        refine lv_icmp_ne (tgt := 211) hx hb d_M_step_194 (by decide) (fun _ => ?_) (fun z => absurd z (by decide))
        refine lv_aload_n hx hb d_M_step_211 rfl (lv_at hl 4 rfl) ?_
        refine lv_iload_n hx hb d_M_step_212 rfl (lv_at hl 5 rfl) ?_
        refine lv_iload_n hx hb d_M_step_213 rfl (lv_at hl 3 rfl) ?_
        refine lv_iload_n hx hb d_M_step_214 rfl (lv_at hl 2 rfl) ?_
        refine lv_lload hx hb d_M_step_215 (lv_at hl 0 rfl) ?_
        refine lv_lload hx hb d_M_step_217 (lv_at hl 1 rfl) ?_
        refine r_callV (k := 20) (i := 0) (q := ("RuleClassesModel", T_M, 30)) (fs := [.int (nI m0), .int (nI ne), .int dy, .int th, .int qs, .int (nI nk), .int hs, .int hd, .ref (A 21), .ref (A 22), .ref (A 23), .ref (A 24), .ref (A 25), .ref (A 26), .ref (A 27), .ref (A 28), .ref (A 29), .ref (A 30), .ref (A 31), .ref (A 32), .ref (A 33), .ref (A 34), .ref (A 35), .ref (A 36), .ref (A 37), .int (nI (h - 2)), .int (nI (sn + 1)), .int (nI (j + 1)), .long an, .ref (A 38)]) (As := [.int (nI i), .int (nI 5), .int cn, .long (g (h - 2)), .long (g (h - 1))]) (rest := []) F hS c_M_114 (k_M_valueOf G l htr (uV V 20 0 (a1, oM A (nI m0) (nI ne) dy th qs (nI nk) hs hd (nI (h - 2)) (nI (sn + 1)) (nI (j + 1)) an)) a1 A m0 ne nk dy th qs hs hd (nI (h - 2)) (nI (sn + 1)) (nI (j + 1)) an mak gv i 5 cn (g (h - 2)) (g (h - 1)) hi (by omega) (fun z => by obtain ⟨c9, a9, b9, _⟩ := hc1 z; exact ⟨c9, a9, b9⟩) (fun _ => hne5) (uV_self V 20 0 (a1, oM A (nI m0) (nI ne) dy th qs (nI nk) hs hd (nI (h - 2)) (nI (sn + 1)) (nI (j + 1)) an)) h25 h38) rfl (uV_self V 20 0 (a1, oM A (nI m0) (nI ne) dy th qs (nI nk) hs hd (nI (h - 2)) (nI (sn + 1)) (nI (j + 1)) an)) rfl hl.1 rfl (Nat.le_of_ble_eq_true rfl) d_M_step_219 ⟨Nat.le_of_ble_eq_true rfl, Nat.le_of_ble_eq_true rfl⟩ ⟨Nat.le_of_ble_eq_true rfl, Nat.le_of_ble_eq_true rfl⟩ (fun rv V1 H locs hR hS => ?_)
        obtain ⟨rfl, hV⟩ := hR
        rw [hV] at hS
        have ev : pVal 5 cn (gv cn.toNatClampNeg) (g (h - 2)) (g (h - 1)) (mak i) = ((f (h - 2)).toInt64 / (f (h - 1)).toInt64) := by
          rw [hg (h - 1) (by omega), hg (h - 2) (by omega)]
          rfl
        have ej : pJoin 5 h f = pPut ((f (h - 2)).toInt64 / (f (h - 1)).toInt64) (h - 2) f := if_neg hne
        obtain ⟨v, hv⟩ : ∃ v, v = pVal 5 cn (gv cn.toNatClampNeg) (g (h - 2)) (g (h - 1)) (mak i) := ⟨_, rfl⟩
        rw [← hv]
        have hp0 : pStep 5 cn fa (mak i) h (nI (j + 1)) an9 f = ((pPut v (h - 2) f).1, (pPut v (h - 2) f).2.1, nI (j + 1), an9, (pPut v (h - 2) f).2.2) := by
          rw [hv, ev, ← ej]
          exact if_neg hs0
        refine W.eq (g2 := F0 m 222 ls [.long v]) rfl ?_
        refine lv_lstore (lv' := [(8, .long v), (6, .long (g (h - 2))), (4, .long (g (h - 1))), (3, .int cn), (2, .int (nI 5)), (0, .ref a1), (1, .int (nI i))]) hx hb d_M_step_222 hl (by decide) rfl (fun ls hl => ?_)
        refine lv_lload hx hb d_M_step_224 (lv_at hl 0 rfl) ?_
        refine lv_ldc2 (v := (-1000000000)) hx hb hown (hts _ m_809) d_M_step_226 ?_
        refine W.lcmp hx hb d_M_step_229 ?_
        refine lv_if_lt (tgt := 242) hx hb d_M_step_230 (by decide) (fun c_230 => ?_) (fun c_230 => ?_)
        · have hp : pStep 5 cn fa (mak i) h (nI (j + 1)) an9 f = (5, h - 2, nI (j + 1), an9, f) := by
            rw [hp0, show pPut v (h - 2) f = (5, h - 2, f) from if_pos (Or.inl ((lg_cmp_lt _ _).mp c_230))]
          refine lv_iconst (v := 5) hx hb d_M_step_242 (by decide) ?_
          exact m_reti F hr hS (Nat.le_of_ble_eq_true rfl) (Nat.le_of_ble_eq_true rfl) (SP.bad hp (by decide) (by decide) (uM_of20 h37)) d_M_step_243
        · refine lv_lload hx hb d_M_step_233 (lv_at hl 0 rfl) ?_
          refine lv_ldc2 (v := 1000000000) hx hb hown (hts _ m_810) d_M_step_235 ?_
          refine W.lcmp hx hb d_M_step_238 ?_
          refine lv_if_le (tgt := 244) hx hb d_M_step_239 (by decide) (fun c_239 => ?_) (fun c_239 => ?_)
          · have hv9 : ¬ (v < -1000000000 ∨ 1000000000 < v) := fun z => z.elim (fun z => c_230 ((lg_cmp_lt _ _).mpr z)) (fun z => absurd ((lg_cmp_le _ _).mp c_239) (Int64.not_le.mpr z))
            refine lv_aload_n hx hb d_M_step_244 rfl (lv_at hl 5 rfl) ?_
            refine r_get (k := 20) (i := 0) F hS f_M_103.get (uV_self V 20 0 (a1, oM A (nI m0) (nI ne) dy th qs (nI nk) hs hd (nI (h - 2)) (nI (sn + 1)) (nI (j + 1)) an)) rfl d_M_step_245 ?_
            refine lv_bipush (v := 8) hx hb d_M_step_248 (by decide) ?_
            refine lv_icmp_ne (tgt := 255) hx hb d_M_step_250 (by decide) (fun c_250 => ?_) (fun c_250 => ?_)
            · have h8 : h - 2 < 8 := Nat.lt_of_le_of_ne (by omega) (fun z => c_250 (congrArg nI z))
              have hp : pStep 5 cn fa (mak i) h (nI (j + 1)) an9 f = (7, h - 2 + 1, nI (j + 1), an9, upd f (h - 2) v.toInt32) := by
                rw [hp0, show pPut v (h - 2) f = (7, h - 2 + 1, upd f (h - 2) v.toInt32) from (if_neg hv9).trans (if_neg (by omega))]
              refine lv_aload_n hx hb d_M_step_255 rfl (lv_at hl 5 rfl) ?_
              refine r_get (k := 20) (i := 0) F hS f_M_63.get (uV_self V 20 0 (a1, oM A (nI m0) (nI ne) dy th qs (nI nk) hs hd (nI (h - 2)) (nI (sn + 1)) (nI (j + 1)) an)) rfl d_M_step_256 ?_
              refine lv_aload_n hx hb d_M_step_259 rfl (lv_at hl 5 rfl) ?_
              refine r_get (k := 20) (i := 0) F hS f_M_103.get (uV_self V 20 0 (a1, oM A (nI m0) (nI ne) dy th qs (nI nk) hs hd (nI (h - 2)) (nI (sn + 1)) (nI (j + 1)) an)) rfl d_M_step_260 ?_
              refine lv_lload hx hb d_M_step_263 (lv_at hl 0 rfl) ?_
              refine r_last (k := 37) (i := 0) F hS h37 (vp_in_nI h8 (by decide)) d_M_step_265 (fun H locs hS => ?_)
              rw [nI_clamp (by omega)] at hS
              have hS : HS G s (uV (uV V 20 0 (a1, oM A (nI m0) (nI ne) dy th qs (nI nk) hs hd (nI (h - 2)) (nI (sn + 1)) (nI (j + 1)) an)) 37 0 ((A 37), aL G 8 (vp_updL g (h - 2) v))) H _ := hS
              refine lv_aload_n hx hb d_M_step_266 rfl (lv_at hl 5 rfl) ?_
              refine lv_dup hx hb d_M_step_267 rfl ?_
              refine r_get (k := 20) (i := 0) F hS f_M_103.get (uV_self V 20 0 (a1, oM A (nI m0) (nI ne) dy th qs (nI nk) hs hd (nI (h - 2)) (nI (sn + 1)) (nI (j + 1)) an)) rfl d_M_step_268 ?_
              refine lv_iconst (v := 1) hx hb d_M_step_271 (by decide) ?_
              refine lv_iadd hx hb d_M_step_272 ?_
              rw [nI_1]
              refine r_put (k := 20) (i := 0) F hS f_M_103 ct_M (uV_self V 20 0 (a1, oM A (nI m0) (nI ne) dy th qs (nI nk) hs hd (nI (h - 2)) (nI (sn + 1)) (nI (j + 1)) an)) rfl rfl (Nat.le_of_ble_eq_true rfl) d_M_step_273 (fun H locs hS => ?_)
              have hS : HS G s (uV (uV (uV V 20 0 (a1, oM A (nI m0) (nI ne) dy th qs (nI nk) hs hd (nI (h - 2)) (nI (sn + 1)) (nI (j + 1)) an)) 37 0 ((A 37), aL G 8 (vp_updL g (h - 2) v))) 20 0 (a1, oM A (nI m0) (nI ne) dy th qs (nI nk) hs hd (nI (h - 2 + 1)) (nI (sn + 1)) (nI (j + 1)) an)) H _ := hS
              refine lv_iconst (v := 0) hx hb d_M_step_276 (by decide) ?_
              exact m_reti F hr hS (Nat.le_of_ble_eq_true rfl) (Nat.le_of_ble_eq_true rfl) (SP.go hp (upL_ok hg (by omega) hv9) (uV3 (by decide))) d_M_step_277
            · have h8 : h - 2 = 8 := (nI_eq (by omega) (by decide)).mp (show nI (h - 2) = nI 8 from c_250)
              have hp : pStep 5 cn fa (mak i) h (nI (j + 1)) an9 f = (3, h - 2, nI (j + 1), an9, f) := by
                rw [hp0, show pPut v (h - 2) f = (3, h - 2, f) from (if_neg hv9).trans (if_pos (by omega))]
              refine lv_iconst (v := 3) hx hb d_M_step_253 (by decide) ?_
              exact m_reti F hr hS (Nat.le_of_ble_eq_true rfl) (Nat.le_of_ble_eq_true rfl) (SP.bad hp (by decide) (by decide) (uM_of20 h37)) d_M_step_254
          · have hp : pStep 5 cn fa (mak i) h (nI (j + 1)) an9 f = (5, h - 2, nI (j + 1), an9, f) := by
              rw [hp0, show pPut v (h - 2) f = (5, h - 2, f) from if_pos (Or.inr (Int64.not_le.mp (fun z => c_239 ((lg_cmp_le _ _).mpr z))))]
            refine lv_iconst (v := 5) hx hb d_M_step_242 (by decide) ?_
            exact m_reti F hr hS (Nat.le_of_ble_eq_true rfl) (Nat.le_of_ble_eq_true rfl) (SP.bad hp (by decide) (by decide) (uM_of20 h37)) d_M_step_243
      · have hj5 : pJoin 5 h f = (2, h - 2, f) := if_pos ((hg (h - 1) (by omega)).symm.trans ((lg_cmp_eq _ _).mp c_149))
        have hp : pStep 5 cn fa (mak i) h (nI (j + 1)) an9 f = ((pJoin 5 h f).1, (pJoin 5 h f).2.1, nI (j + 1), an9, (pJoin 5 h f).2.2) := if_neg hs0
        rw [hj5] at hp
        refine lv_iconst (v := 2) hx hb d_M_step_152 (by decide) ?_
        exact m_reti F hr hS (Nat.le_of_ble_eq_true rfl) (Nat.le_of_ble_eq_true rfl) (SP.bad hp (by decide) (by decide) (uM_of20 h37)) d_M_step_153
    · have hp : pStep 5 cn fa (mak i) h (nI (j + 1)) an9 f = (3, h, nI (j + 1), an9, f) := if_pos (show h < pNeed 5 from Nat.not_le.mp (fun z => c_86 (show nI 2 ≤ nI h from nI_le z (by omega))))
      refine lv_iconst (v := 3) hx hb d_M_step_89 (by decide) ?_
      exact m_reti F hr hS (Nat.le_of_ble_eq_true rfl) (Nat.le_of_ble_eq_true rfl) (SP.bad hp (by decide) (by decide) (uM_of20 h37)) d_M_step_90
  · refine lv_aload_n hx hb d_M_step_58 rfl (lv_at hl 2 rfl) ?_
    refine lv_dup hx hb d_M_step_59 rfl ?_
    refine r_get (k := 20) (i := 0) F hS f_M_97.get h20 rfl d_M_step_60 ?_
    refine lv_iconst (v := 1) hx hb d_M_step_63 (by decide) ?_
    refine lv_iadd hx hb d_M_step_64 ?_
    rw [nI_1]
    refine r_put (k := 20) (i := 0) F hS f_M_97 ct_M h20 rfl rfl (Nat.le_of_ble_eq_true rfl) d_M_step_65 (fun H locs hS => ?_)
    have hS : HS G s (uV V 20 0 (a1, oM A (nI m0) (nI ne) dy th qs (nI nk) hs hd (nI h) (nI (sn + 1)) (nI j) an)) H _ := hS
    refine lv_aload_n hx hb d_M_step_68 rfl (lv_at hl 2 rfl) ?_
    refine lv_dup hx hb d_M_step_69 rfl ?_
    refine r_get (k := 20) (i := 0) F hS f_M_100.get (uV_self V 20 0 (a1, oM A (nI m0) (nI ne) dy th qs (nI nk) hs hd (nI h) (nI (sn + 1)) (nI j) an)) rfl d_M_step_70 ?_
    refine lv_iconst (v := 1) hx hb d_M_step_73 (by decide) ?_
    refine lv_iadd hx hb d_M_step_74 ?_
    rw [nI_1]
    refine r_put (k := 20) (i := 0) F hS f_M_100 ct_M (uV_self V 20 0 (a1, oM A (nI m0) (nI ne) dy th qs (nI nk) hs hd (nI h) (nI (sn + 1)) (nI j) an)) rfl rfl (Nat.le_of_ble_eq_true rfl) d_M_step_75 (fun H locs hS => ?_)
    rw [uV_uV] at hS
    have hS : HS G s (uV V 20 0 (a1, oM A (nI m0) (nI ne) dy th qs (nI nk) hs hd (nI h) (nI (sn + 1)) (nI (j + 1)) an)) H _ := hS
    refine lv_aload_n hx hb d_M_step_78 rfl (lv_at hl 2 rfl) ?_
    refine r_get (k := 20) (i := 0) F hS f_M_103.get (uV_self V 20 0 (a1, oM A (nI m0) (nI ne) dy th qs (nI nk) hs hd (nI h) (nI (sn + 1)) (nI (j + 1)) an)) rfl d_M_step_79 ?_
    refine lv_iload_n hx hb d_M_step_82 rfl (lv_at hl 1 rfl) ?_
    refine r_callS (As := [.int (nI 6)]) (rest := [.int (nI h)]) F hS c_M_106 (k_M_takes G l htr (uV V 20 0 (a1, oM A (nI m0) (nI ne) dy th qs (nI nk) hs hd (nI h) (nI (sn + 1)) (nI (j + 1)) an)) 6 (by decide)) rfl hl.1 rfl (Nat.le_of_ble_eq_true rfl) d_M_step_83 ⟨Nat.le_of_ble_eq_true rfl, Nat.le_of_ble_eq_true rfl⟩ ⟨Nat.le_of_ble_eq_true rfl, Nat.le_of_ble_eq_true rfl⟩ (fun rv V1 H locs hR hS => ?_)
    obtain ⟨rfl, hV⟩ := hR
    rw [hV] at hS
    refine W.eq (g2 := F0 m 86 ls [.int 2, .int (nI h)]) rfl ?_
    refine lv_icmp_ge (tgt := 91) hx hb d_M_step_86 (by decide) (fun c_86 => ?_) (fun c_86 => ?_)
    · have hn : 2 ≤ h := (nI_leI (by decide) (by omega)).mp (show nI 2 ≤ nI h from c_86)
      have hs0 : ¬ h < pNeed 6 := Nat.not_lt.mpr hn
      refine lv_iload_n hx hb d_M_step_91 rfl (lv_at hl 1 rfl) ?_
      refine r_callS (As := [.int (nI 6)]) (rest := []) F hS c_M_106 (k_M_takes G l htr (uV V 20 0 (a1, oM A (nI m0) (nI ne) dy th qs (nI nk) hs hd (nI h) (nI (sn + 1)) (nI (j + 1)) an)) 6 (by decide)) rfl hl.1 rfl (Nat.le_of_ble_eq_true rfl) d_M_step_92 ⟨Nat.le_of_ble_eq_true rfl, Nat.le_of_ble_eq_true rfl⟩ ⟨Nat.le_of_ble_eq_true rfl, Nat.le_of_ble_eq_true rfl⟩ (fun rv V1 H locs hR hS => ?_)
      obtain ⟨rfl, hV⟩ := hR
      rw [hV] at hS
      refine W.eq (g2 := F0 m 95 ls [.int 2]) rfl ?_
      refine lv_if_le (tgt := 112) hx hb d_M_step_95 (by decide) (fun z => absurd z (by decide)) (fun _ => ?_)
      refine lv_aload_n hx hb d_M_step_98 rfl (lv_at hl 2 rfl) ?_
      refine r_get (k := 20) (i := 0) F hS f_M_63.get (uV_self V 20 0 (a1, oM A (nI m0) (nI ne) dy th qs (nI nk) hs hd (nI h) (nI (sn + 1)) (nI (j + 1)) an)) rfl d_M_step_99 ?_
      refine lv_aload_n hx hb d_M_step_102 rfl (lv_at hl 2 rfl) ?_
      refine r_get (k := 20) (i := 0) F hS f_M_103.get (uV_self V 20 0 (a1, oM A (nI m0) (nI ne) dy th qs (nI nk) hs hd (nI h) (nI (sn + 1)) (nI (j + 1)) an)) rfl d_M_step_103 ?_
      refine lv_iconst (v := 1) hx hb d_M_step_106 (by decide) ?_
      refine lv_isub hx hb d_M_step_107 ?_
      rw [nI_m1 (by omega)]
      refine r_lald (k := 37) (i := 0) F hS h37 (vp_in_nI (by omega) (by decide)) d_M_step_108 ?_
      rw [nI_clamp (by omega)]
      refine lv_goto (tgt := 113) hx hb d_M_step_109 (by decide) ?_
      refine lv_lstore (lv' := [(4, .long (g (h - 1))), (3, .int cn), (2, .int (nI 6)), (0, .ref a1), (1, .int (nI i))]) hx hb d_M_step_113 hl (by decide) rfl (fun ls hl => ?_)
      refine lv_iload_n hx hb d_M_step_115 rfl (lv_at hl 2 rfl) ?_
      refine r_callS (As := [.int (nI 6)]) (rest := []) F hS c_M_106 (k_M_takes G l htr (uV V 20 0 (a1, oM A (nI m0) (nI ne) dy th qs (nI nk) hs hd (nI h) (nI (sn + 1)) (nI (j + 1)) an)) 6 (by decide)) rfl hl.1 rfl (Nat.le_of_ble_eq_true rfl) d_M_step_116 ⟨Nat.le_of_ble_eq_true rfl, Nat.le_of_ble_eq_true rfl⟩ ⟨Nat.le_of_ble_eq_true rfl, Nat.le_of_ble_eq_true rfl⟩ (fun rv V1 H locs hR hS => ?_)
      obtain ⟨rfl, hV⟩ := hR
      rw [hV] at hS
      refine W.eq (g2 := F0 m 119 ls [.int 2]) rfl ?_
      refine lv_iconst (v := 1) hx hb d_M_step_119 (by decide) ?_
      refine lv_icmp_le (tgt := 137) hx hb d_M_step_120 (by decide) (fun z => absurd z (by decide)) (fun _ => ?_)
      refine lv_aload_n hx hb d_M_step_123 rfl (lv_at hl 3 rfl) ?_
      refine r_get (k := 20) (i := 0) F hS f_M_63.get (uV_self V 20 0 (a1, oM A (nI m0) (nI ne) dy th qs (nI nk) hs hd (nI h) (nI (sn + 1)) (nI (j + 1)) an)) rfl d_M_step_124 ?_
      refine lv_aload_n hx hb d_M_step_127 rfl (lv_at hl 3 rfl) ?_
      refine r_get (k := 20) (i := 0) F hS f_M_103.get (uV_self V 20 0 (a1, oM A (nI m0) (nI ne) dy th qs (nI nk) hs hd (nI h) (nI (sn + 1)) (nI (j + 1)) an)) rfl d_M_step_128 ?_
      refine lv_iconst (v := 2) hx hb d_M_step_131 (by decide) ?_
      refine lv_isub hx hb d_M_step_132 ?_
      rw [nI_m2 (by omega)]
      refine r_lald (k := 37) (i := 0) F hS h37 (vp_in_nI (by omega) (by decide)) d_M_step_133 ?_
      rw [nI_clamp (by omega)]
      refine lv_goto (tgt := 138) hx hb d_M_step_134 (by decide) ?_
      refine lv_lstore (lv' := [(6, .long (g (h - 2))), (4, .long (g (h - 1))), (3, .int cn), (2, .int (nI 6)), (0, .ref a1), (1, .int (nI i))]) hx hb d_M_step_138 hl (by decide) rfl (fun ls hl => ?_)
      refine lv_iload_n hx hb d_M_step_140 rfl (lv_at hl 3 rfl) ?_
      refine lv_iconst (v := 5) hx hb d_M_step_141 (by decide) ?_
      refine lv_icmp_ne (tgt := 154) hx hb d_M_step_142 (by decide) (fun _ => ?_) (fun z => absurd z (by decide))
      refine lv_aload_n hx hb d_M_step_154 rfl (lv_at hl 4 rfl) ?_
      refine lv_dup hx hb d_M_step_155 rfl ?_
      refine r_get (k := 20) (i := 0) F hS f_M_103.get (uV_self V 20 0 (a1, oM A (nI m0) (nI ne) dy th qs (nI nk) hs hd (nI h) (nI (sn + 1)) (nI (j + 1)) an)) rfl d_M_step_156 ?_
      refine lv_iload_n hx hb d_M_step_159 rfl (lv_at hl 3 rfl) ?_
      refine lv_bipush (v := 7) hx hb d_M_step_160 (by decide) ?_
      refine lv_icmp_ne (tgt := 169) hx hb d_M_step_162 (by decide) (fun _ => ?_) (fun z => absurd z (by decide))
      refine lv_iload_n hx hb d_M_step_169 rfl (lv_at hl 3 rfl) ?_
      refine r_callS (As := [.int (nI 6)]) (rest := [.int (nI h), .ref a1]) F hS c_M_106 (k_M_takes G l htr (uV V 20 0 (a1, oM A (nI m0) (nI ne) dy th qs (nI nk) hs hd (nI h) (nI (sn + 1)) (nI (j + 1)) an)) 6 (by decide)) rfl hl.1 rfl (Nat.le_of_ble_eq_true rfl) d_M_step_170 ⟨Nat.le_of_ble_eq_true rfl, Nat.le_of_ble_eq_true rfl⟩ ⟨Nat.le_of_ble_eq_true rfl, Nat.le_of_ble_eq_true rfl⟩ (fun rv V1 H locs hR hS => ?_)
      obtain ⟨rfl, hV⟩ := hR
      rw [hV] at hS
      refine W.eq (g2 := F0 m 173 ls [.int 2, .int (nI h), .ref a1]) rfl ?_
      refine lv_isub hx hb d_M_step_173 ?_
      rw [nI_m2 (by omega)]
      refine r_put (k := 20) (i := 0) F hS f_M_103 ct_M (uV_self V 20 0 (a1, oM A (nI m0) (nI ne) dy th qs (nI nk) hs hd (nI h) (nI (sn + 1)) (nI (j + 1)) an)) rfl rfl (Nat.le_of_ble_eq_true rfl) d_M_step_174 (fun H locs hS => ?_)
      rw [uV_uV] at hS
      have hS : HS G s (uV V 20 0 (a1, oM A (nI m0) (nI ne) dy th qs (nI nk) hs hd (nI (h - 2)) (nI (sn + 1)) (nI (j + 1)) an)) H _ := hS
      refine lv_iload_n hx hb d_M_step_177 rfl (lv_at hl 3 rfl) ?_
      refine lv_bipush (v := 9) hx hb d_M_step_178 (by decide) ?_
      refine lv_icmp_ne (tgt := 191) hx hb d_M_step_180 (by decide) (fun _ => ?_) (fun z => absurd z (by decide))
      refine lv_iload_n hx hb d_M_step_191 rfl (lv_at hl 3 rfl) ?_
      refine lv_bipush (v := 8) hx hb d_M_step_192 (by decide) ?_
      refine lv_icmp_ne (tgt := 211) hx hb d_M_step_194 (by decide) (fun _ => ?_) (fun z => absurd z (by decide))
      refine lv_aload_n hx hb d_M_step_211 rfl (lv_at hl 4 rfl) ?_
      refine lv_iload_n hx hb d_M_step_212 rfl (lv_at hl 5 rfl) ?_
      refine lv_iload_n hx hb d_M_step_213 rfl (lv_at hl 3 rfl) ?_
      refine lv_iload_n hx hb d_M_step_214 rfl (lv_at hl 2 rfl) ?_
      refine lv_lload hx hb d_M_step_215 (lv_at hl 0 rfl) ?_
      refine lv_lload hx hb d_M_step_217 (lv_at hl 1 rfl) ?_
      refine r_callV (k := 20) (i := 0) (q := ("RuleClassesModel", T_M, 30)) (fs := [.int (nI m0), .int (nI ne), .int dy, .int th, .int qs, .int (nI nk), .int hs, .int hd, .ref (A 21), .ref (A 22), .ref (A 23), .ref (A 24), .ref (A 25), .ref (A 26), .ref (A 27), .ref (A 28), .ref (A 29), .ref (A 30), .ref (A 31), .ref (A 32), .ref (A 33), .ref (A 34), .ref (A 35), .ref (A 36), .ref (A 37), .int (nI (h - 2)), .int (nI (sn + 1)), .int (nI (j + 1)), .long an, .ref (A 38)]) (As := [.int (nI i), .int (nI 6), .int cn, .long (g (h - 2)), .long (g (h - 1))]) (rest := []) F hS c_M_114 (k_M_valueOf G l htr (uV V 20 0 (a1, oM A (nI m0) (nI ne) dy th qs (nI nk) hs hd (nI (h - 2)) (nI (sn + 1)) (nI (j + 1)) an)) a1 A m0 ne nk dy th qs hs hd (nI (h - 2)) (nI (sn + 1)) (nI (j + 1)) an mak gv i 6 cn (g (h - 2)) (g (h - 1)) hi (by omega) (fun z => by obtain ⟨c9, a9, b9, _⟩ := hc1 z; exact ⟨c9, a9, b9⟩) (fun z => absurd z (by decide)) (uV_self V 20 0 (a1, oM A (nI m0) (nI ne) dy th qs (nI nk) hs hd (nI (h - 2)) (nI (sn + 1)) (nI (j + 1)) an)) h25 h38) rfl (uV_self V 20 0 (a1, oM A (nI m0) (nI ne) dy th qs (nI nk) hs hd (nI (h - 2)) (nI (sn + 1)) (nI (j + 1)) an)) rfl hl.1 rfl (Nat.le_of_ble_eq_true rfl) d_M_step_219 ⟨Nat.le_of_ble_eq_true rfl, Nat.le_of_ble_eq_true rfl⟩ ⟨Nat.le_of_ble_eq_true rfl, Nat.le_of_ble_eq_true rfl⟩ (fun rv V1 H locs hR hS => ?_)
      obtain ⟨rfl, hV⟩ := hR
      rw [hV] at hS
      have ev : pVal 6 cn (gv cn.toNatClampNeg) (g (h - 2)) (g (h - 1)) (mak i) = (if (f (h - 2)).toInt64 < (f (h - 1)).toInt64 then 1 else 0) := by
        rw [hg (h - 1) (by omega), hg (h - 2) (by omega)]
        rfl
      have ej : pJoin 6 h f = pPut (if (f (h - 2)).toInt64 < (f (h - 1)).toInt64 then 1 else 0) (h - 2) f := rfl
      obtain ⟨v, hv⟩ : ∃ v, v = pVal 6 cn (gv cn.toNatClampNeg) (g (h - 2)) (g (h - 1)) (mak i) := ⟨_, rfl⟩
      rw [← hv]
      have hp0 : pStep 6 cn fa (mak i) h (nI (j + 1)) an9 f = ((pPut v (h - 2) f).1, (pPut v (h - 2) f).2.1, nI (j + 1), an9, (pPut v (h - 2) f).2.2) := by
        rw [hv, ev, ← ej]
        exact if_neg hs0
      refine W.eq (g2 := F0 m 222 ls [.long v]) rfl ?_
      refine lv_lstore (lv' := [(8, .long v), (6, .long (g (h - 2))), (4, .long (g (h - 1))), (3, .int cn), (2, .int (nI 6)), (0, .ref a1), (1, .int (nI i))]) hx hb d_M_step_222 hl (by decide) rfl (fun ls hl => ?_)
      refine lv_lload hx hb d_M_step_224 (lv_at hl 0 rfl) ?_
      refine lv_ldc2 (v := (-1000000000)) hx hb hown (hts _ m_809) d_M_step_226 ?_
      refine W.lcmp hx hb d_M_step_229 ?_
      refine lv_if_lt (tgt := 242) hx hb d_M_step_230 (by decide) (fun c_230 => ?_) (fun c_230 => ?_)
      · have hp : pStep 6 cn fa (mak i) h (nI (j + 1)) an9 f = (5, h - 2, nI (j + 1), an9, f) := by
          rw [hp0, show pPut v (h - 2) f = (5, h - 2, f) from if_pos (Or.inl ((lg_cmp_lt _ _).mp c_230))]
        refine lv_iconst (v := 5) hx hb d_M_step_242 (by decide) ?_
        exact m_reti F hr hS (Nat.le_of_ble_eq_true rfl) (Nat.le_of_ble_eq_true rfl) (SP.bad hp (by decide) (by decide) (uM_of20 h37)) d_M_step_243
      · refine lv_lload hx hb d_M_step_233 (lv_at hl 0 rfl) ?_
        refine lv_ldc2 (v := 1000000000) hx hb hown (hts _ m_810) d_M_step_235 ?_
        refine W.lcmp hx hb d_M_step_238 ?_
        refine lv_if_le (tgt := 244) hx hb d_M_step_239 (by decide) (fun c_239 => ?_) (fun c_239 => ?_)
        · have hv9 : ¬ (v < -1000000000 ∨ 1000000000 < v) := fun z => z.elim (fun z => c_230 ((lg_cmp_lt _ _).mpr z)) (fun z => absurd ((lg_cmp_le _ _).mp c_239) (Int64.not_le.mpr z))
          refine lv_aload_n hx hb d_M_step_244 rfl (lv_at hl 5 rfl) ?_
          refine r_get (k := 20) (i := 0) F hS f_M_103.get (uV_self V 20 0 (a1, oM A (nI m0) (nI ne) dy th qs (nI nk) hs hd (nI (h - 2)) (nI (sn + 1)) (nI (j + 1)) an)) rfl d_M_step_245 ?_
          refine lv_bipush (v := 8) hx hb d_M_step_248 (by decide) ?_
          refine lv_icmp_ne (tgt := 255) hx hb d_M_step_250 (by decide) (fun c_250 => ?_) (fun c_250 => ?_)
          · have h8 : h - 2 < 8 := Nat.lt_of_le_of_ne (by omega) (fun z => c_250 (congrArg nI z))
            have hp : pStep 6 cn fa (mak i) h (nI (j + 1)) an9 f = (7, h - 2 + 1, nI (j + 1), an9, upd f (h - 2) v.toInt32) := by
              rw [hp0, show pPut v (h - 2) f = (7, h - 2 + 1, upd f (h - 2) v.toInt32) from (if_neg hv9).trans (if_neg (by omega))]
            refine lv_aload_n hx hb d_M_step_255 rfl (lv_at hl 5 rfl) ?_
            refine r_get (k := 20) (i := 0) F hS f_M_63.get (uV_self V 20 0 (a1, oM A (nI m0) (nI ne) dy th qs (nI nk) hs hd (nI (h - 2)) (nI (sn + 1)) (nI (j + 1)) an)) rfl d_M_step_256 ?_
            refine lv_aload_n hx hb d_M_step_259 rfl (lv_at hl 5 rfl) ?_
            refine r_get (k := 20) (i := 0) F hS f_M_103.get (uV_self V 20 0 (a1, oM A (nI m0) (nI ne) dy th qs (nI nk) hs hd (nI (h - 2)) (nI (sn + 1)) (nI (j + 1)) an)) rfl d_M_step_260 ?_
            refine lv_lload hx hb d_M_step_263 (lv_at hl 0 rfl) ?_
            refine r_last (k := 37) (i := 0) F hS h37 (vp_in_nI h8 (by decide)) d_M_step_265 (fun H locs hS => ?_)
            rw [nI_clamp (by omega)] at hS
            have hS : HS G s (uV (uV V 20 0 (a1, oM A (nI m0) (nI ne) dy th qs (nI nk) hs hd (nI (h - 2)) (nI (sn + 1)) (nI (j + 1)) an)) 37 0 ((A 37), aL G 8 (vp_updL g (h - 2) v))) H _ := hS
            refine lv_aload_n hx hb d_M_step_266 rfl (lv_at hl 5 rfl) ?_
            refine lv_dup hx hb d_M_step_267 rfl ?_
            refine r_get (k := 20) (i := 0) F hS f_M_103.get (uV_self V 20 0 (a1, oM A (nI m0) (nI ne) dy th qs (nI nk) hs hd (nI (h - 2)) (nI (sn + 1)) (nI (j + 1)) an)) rfl d_M_step_268 ?_
            refine lv_iconst (v := 1) hx hb d_M_step_271 (by decide) ?_
            refine lv_iadd hx hb d_M_step_272 ?_
            rw [nI_1]
            refine r_put (k := 20) (i := 0) F hS f_M_103 ct_M (uV_self V 20 0 (a1, oM A (nI m0) (nI ne) dy th qs (nI nk) hs hd (nI (h - 2)) (nI (sn + 1)) (nI (j + 1)) an)) rfl rfl (Nat.le_of_ble_eq_true rfl) d_M_step_273 (fun H locs hS => ?_)
            have hS : HS G s (uV (uV (uV V 20 0 (a1, oM A (nI m0) (nI ne) dy th qs (nI nk) hs hd (nI (h - 2)) (nI (sn + 1)) (nI (j + 1)) an)) 37 0 ((A 37), aL G 8 (vp_updL g (h - 2) v))) 20 0 (a1, oM A (nI m0) (nI ne) dy th qs (nI nk) hs hd (nI (h - 2 + 1)) (nI (sn + 1)) (nI (j + 1)) an)) H _ := hS
            refine lv_iconst (v := 0) hx hb d_M_step_276 (by decide) ?_
            exact m_reti F hr hS (Nat.le_of_ble_eq_true rfl) (Nat.le_of_ble_eq_true rfl) (SP.go hp (upL_ok hg (by omega) hv9) (uV3 (by decide))) d_M_step_277
          · have h8 : h - 2 = 8 := (nI_eq (by omega) (by decide)).mp (show nI (h - 2) = nI 8 from c_250)
            have hp : pStep 6 cn fa (mak i) h (nI (j + 1)) an9 f = (3, h - 2, nI (j + 1), an9, f) := by
              rw [hp0, show pPut v (h - 2) f = (3, h - 2, f) from (if_neg hv9).trans (if_pos (by omega))]
            refine lv_iconst (v := 3) hx hb d_M_step_253 (by decide) ?_
            exact m_reti F hr hS (Nat.le_of_ble_eq_true rfl) (Nat.le_of_ble_eq_true rfl) (SP.bad hp (by decide) (by decide) (uM_of20 h37)) d_M_step_254
        · have hp : pStep 6 cn fa (mak i) h (nI (j + 1)) an9 f = (5, h - 2, nI (j + 1), an9, f) := by
            rw [hp0, show pPut v (h - 2) f = (5, h - 2, f) from if_pos (Or.inr (Int64.not_le.mp (fun z => c_239 ((lg_cmp_le _ _).mpr z))))]
          refine lv_iconst (v := 5) hx hb d_M_step_242 (by decide) ?_
          exact m_reti F hr hS (Nat.le_of_ble_eq_true rfl) (Nat.le_of_ble_eq_true rfl) (SP.bad hp (by decide) (by decide) (uM_of20 h37)) d_M_step_243
    · have hp : pStep 6 cn fa (mak i) h (nI (j + 1)) an9 f = (3, h, nI (j + 1), an9, f) := if_pos (show h < pNeed 6 from Nat.not_le.mp (fun z => c_86 (show nI 2 ≤ nI h from nI_le z (by omega))))
      refine lv_iconst (v := 3) hx hb d_M_step_89 (by decide) ?_
      exact m_reti F hr hS (Nat.le_of_ble_eq_true rfl) (Nat.le_of_ble_eq_true rfl) (SP.bad hp (by decide) (by decide) (uM_of20 h37)) d_M_step_90
  · refine lv_aload_n hx hb d_M_step_58 rfl (lv_at hl 2 rfl) ?_
    refine lv_dup hx hb d_M_step_59 rfl ?_
    refine r_get (k := 20) (i := 0) F hS f_M_97.get h20 rfl d_M_step_60 ?_
    refine lv_iconst (v := 1) hx hb d_M_step_63 (by decide) ?_
    refine lv_iadd hx hb d_M_step_64 ?_
    rw [nI_1]
    refine r_put (k := 20) (i := 0) F hS f_M_97 ct_M h20 rfl rfl (Nat.le_of_ble_eq_true rfl) d_M_step_65 (fun H locs hS => ?_)
    have hS : HS G s (uV V 20 0 (a1, oM A (nI m0) (nI ne) dy th qs (nI nk) hs hd (nI h) (nI (sn + 1)) (nI j) an)) H _ := hS
    refine lv_aload_n hx hb d_M_step_68 rfl (lv_at hl 2 rfl) ?_
    refine lv_dup hx hb d_M_step_69 rfl ?_
    refine r_get (k := 20) (i := 0) F hS f_M_100.get (uV_self V 20 0 (a1, oM A (nI m0) (nI ne) dy th qs (nI nk) hs hd (nI h) (nI (sn + 1)) (nI j) an)) rfl d_M_step_70 ?_
    refine lv_iconst (v := 1) hx hb d_M_step_73 (by decide) ?_
    refine lv_iadd hx hb d_M_step_74 ?_
    rw [nI_1]
    refine r_put (k := 20) (i := 0) F hS f_M_100 ct_M (uV_self V 20 0 (a1, oM A (nI m0) (nI ne) dy th qs (nI nk) hs hd (nI h) (nI (sn + 1)) (nI j) an)) rfl rfl (Nat.le_of_ble_eq_true rfl) d_M_step_75 (fun H locs hS => ?_)
    rw [uV_uV] at hS
    have hS : HS G s (uV V 20 0 (a1, oM A (nI m0) (nI ne) dy th qs (nI nk) hs hd (nI h) (nI (sn + 1)) (nI (j + 1)) an)) H _ := hS
    refine lv_aload_n hx hb d_M_step_78 rfl (lv_at hl 2 rfl) ?_
    refine r_get (k := 20) (i := 0) F hS f_M_103.get (uV_self V 20 0 (a1, oM A (nI m0) (nI ne) dy th qs (nI nk) hs hd (nI h) (nI (sn + 1)) (nI (j + 1)) an)) rfl d_M_step_79 ?_
    refine lv_iload_n hx hb d_M_step_82 rfl (lv_at hl 1 rfl) ?_
    refine r_callS (As := [.int (nI 7)]) (rest := [.int (nI h)]) F hS c_M_106 (k_M_takes G l htr (uV V 20 0 (a1, oM A (nI m0) (nI ne) dy th qs (nI nk) hs hd (nI h) (nI (sn + 1)) (nI (j + 1)) an)) 7 (by decide)) rfl hl.1 rfl (Nat.le_of_ble_eq_true rfl) d_M_step_83 ⟨Nat.le_of_ble_eq_true rfl, Nat.le_of_ble_eq_true rfl⟩ ⟨Nat.le_of_ble_eq_true rfl, Nat.le_of_ble_eq_true rfl⟩ (fun rv V1 H locs hR hS => ?_)
    obtain ⟨rfl, hV⟩ := hR
    rw [hV] at hS
    refine W.eq (g2 := F0 m 86 ls [.int 1, .int (nI h)]) rfl ?_
    refine lv_icmp_ge (tgt := 91) hx hb d_M_step_86 (by decide) (fun c_86 => ?_) (fun c_86 => ?_)
    · have hn : 1 ≤ h := (nI_leI (by decide) (by omega)).mp (show nI 1 ≤ nI h from c_86)
      have hs0 : ¬ h < pNeed 7 := Nat.not_lt.mpr hn
      refine lv_iload_n hx hb d_M_step_91 rfl (lv_at hl 1 rfl) ?_
      refine r_callS (As := [.int (nI 7)]) (rest := []) F hS c_M_106 (k_M_takes G l htr (uV V 20 0 (a1, oM A (nI m0) (nI ne) dy th qs (nI nk) hs hd (nI h) (nI (sn + 1)) (nI (j + 1)) an)) 7 (by decide)) rfl hl.1 rfl (Nat.le_of_ble_eq_true rfl) d_M_step_92 ⟨Nat.le_of_ble_eq_true rfl, Nat.le_of_ble_eq_true rfl⟩ ⟨Nat.le_of_ble_eq_true rfl, Nat.le_of_ble_eq_true rfl⟩ (fun rv V1 H locs hR hS => ?_)
      obtain ⟨rfl, hV⟩ := hR
      rw [hV] at hS
      refine W.eq (g2 := F0 m 95 ls [.int 1]) rfl ?_
      refine lv_if_le (tgt := 112) hx hb d_M_step_95 (by decide) (fun z => absurd z (by decide)) (fun _ => ?_)
      refine lv_aload_n hx hb d_M_step_98 rfl (lv_at hl 2 rfl) ?_
      refine r_get (k := 20) (i := 0) F hS f_M_63.get (uV_self V 20 0 (a1, oM A (nI m0) (nI ne) dy th qs (nI nk) hs hd (nI h) (nI (sn + 1)) (nI (j + 1)) an)) rfl d_M_step_99 ?_
      refine lv_aload_n hx hb d_M_step_102 rfl (lv_at hl 2 rfl) ?_
      refine r_get (k := 20) (i := 0) F hS f_M_103.get (uV_self V 20 0 (a1, oM A (nI m0) (nI ne) dy th qs (nI nk) hs hd (nI h) (nI (sn + 1)) (nI (j + 1)) an)) rfl d_M_step_103 ?_
      refine lv_iconst (v := 1) hx hb d_M_step_106 (by decide) ?_
      refine lv_isub hx hb d_M_step_107 ?_
      rw [nI_m1 (by omega)]
      refine r_lald (k := 37) (i := 0) F hS h37 (vp_in_nI (by omega) (by decide)) d_M_step_108 ?_
      rw [nI_clamp (by omega)]
      refine lv_goto (tgt := 113) hx hb d_M_step_109 (by decide) ?_
      refine lv_lstore (lv' := [(4, .long (g (h - 1))), (3, .int cn), (2, .int (nI 7)), (0, .ref a1), (1, .int (nI i))]) hx hb d_M_step_113 hl (by decide) rfl (fun ls hl => ?_)
      refine lv_iload_n hx hb d_M_step_115 rfl (lv_at hl 2 rfl) ?_
      refine r_callS (As := [.int (nI 7)]) (rest := []) F hS c_M_106 (k_M_takes G l htr (uV V 20 0 (a1, oM A (nI m0) (nI ne) dy th qs (nI nk) hs hd (nI h) (nI (sn + 1)) (nI (j + 1)) an)) 7 (by decide)) rfl hl.1 rfl (Nat.le_of_ble_eq_true rfl) d_M_step_116 ⟨Nat.le_of_ble_eq_true rfl, Nat.le_of_ble_eq_true rfl⟩ ⟨Nat.le_of_ble_eq_true rfl, Nat.le_of_ble_eq_true rfl⟩ (fun rv V1 H locs hR hS => ?_)
      obtain ⟨rfl, hV⟩ := hR
      rw [hV] at hS
      refine W.eq (g2 := F0 m 119 ls [.int 1]) rfl ?_
      refine lv_iconst (v := 1) hx hb d_M_step_119 (by decide) ?_
      refine lv_icmp_le (tgt := 137) hx hb d_M_step_120 (by decide) (fun _ => ?_) (fun z => absurd z (by decide))
      refine lv_lconst (v := 0) hx hb d_M_step_137 (by decide) ?_
      refine lv_lstore (lv' := [(6, .long 0), (4, .long (g (h - 1))), (3, .int cn), (2, .int (nI 7)), (0, .ref a1), (1, .int (nI i))]) hx hb d_M_step_138 hl (by decide) rfl (fun ls hl => ?_)
      refine lv_iload_n hx hb d_M_step_140 rfl (lv_at hl 3 rfl) ?_
      refine lv_iconst (v := 5) hx hb d_M_step_141 (by decide) ?_
      refine lv_icmp_ne (tgt := 154) hx hb d_M_step_142 (by decide) (fun _ => ?_) (fun z => absurd z (by decide))
      refine lv_aload_n hx hb d_M_step_154 rfl (lv_at hl 4 rfl) ?_
      refine lv_dup hx hb d_M_step_155 rfl ?_
      refine r_get (k := 20) (i := 0) F hS f_M_103.get (uV_self V 20 0 (a1, oM A (nI m0) (nI ne) dy th qs (nI nk) hs hd (nI h) (nI (sn + 1)) (nI (j + 1)) an)) rfl d_M_step_156 ?_
      refine lv_iload_n hx hb d_M_step_159 rfl (lv_at hl 3 rfl) ?_
      refine lv_bipush (v := 7) hx hb d_M_step_160 (by decide) ?_
      refine lv_icmp_ne (tgt := 169) hx hb d_M_step_162 (by decide) (fun z => absurd z (by decide)) (fun _ => ?_)
      refine lv_iconst (v := 0) hx hb d_M_step_165 (by decide) ?_
      refine lv_goto (tgt := 173) hx hb d_M_step_166 (by decide) ?_
      refine lv_isub hx hb d_M_step_173 ?_
      rw [show nI h - 0 = nI h from Int32.sub_zero _]
      refine r_put (k := 20) (i := 0) F hS f_M_103 ct_M (uV_self V 20 0 (a1, oM A (nI m0) (nI ne) dy th qs (nI nk) hs hd (nI h) (nI (sn + 1)) (nI (j + 1)) an)) rfl rfl (Nat.le_of_ble_eq_true rfl) d_M_step_174 (fun H locs hS => ?_)
      rw [uV_uV] at hS
      have hS : HS G s (uV V 20 0 (a1, oM A (nI m0) (nI ne) dy th qs (nI nk) hs hd (nI h) (nI (sn + 1)) (nI (j + 1)) an)) H _ := hS
      refine lv_iload_n hx hb d_M_step_177 rfl (lv_at hl 3 rfl) ?_
      refine lv_bipush (v := 9) hx hb d_M_step_178 (by decide) ?_
      refine lv_icmp_ne (tgt := 191) hx hb d_M_step_180 (by decide) (fun _ => ?_) (fun z => absurd z (by decide))
      refine lv_iload_n hx hb d_M_step_191 rfl (lv_at hl 3 rfl) ?_
      refine lv_bipush (v := 8) hx hb d_M_step_192 (by decide) ?_
      refine lv_icmp_ne (tgt := 211) hx hb d_M_step_194 (by decide) (fun _ => ?_) (fun z => absurd z (by decide))
      refine lv_aload_n hx hb d_M_step_211 rfl (lv_at hl 4 rfl) ?_
      refine lv_iload_n hx hb d_M_step_212 rfl (lv_at hl 5 rfl) ?_
      refine lv_iload_n hx hb d_M_step_213 rfl (lv_at hl 3 rfl) ?_
      refine lv_iload_n hx hb d_M_step_214 rfl (lv_at hl 2 rfl) ?_
      refine lv_lload hx hb d_M_step_215 (lv_at hl 0 rfl) ?_
      refine lv_lload hx hb d_M_step_217 (lv_at hl 1 rfl) ?_
      refine r_callV (k := 20) (i := 0) (q := ("RuleClassesModel", T_M, 30)) (fs := [.int (nI m0), .int (nI ne), .int dy, .int th, .int qs, .int (nI nk), .int hs, .int hd, .ref (A 21), .ref (A 22), .ref (A 23), .ref (A 24), .ref (A 25), .ref (A 26), .ref (A 27), .ref (A 28), .ref (A 29), .ref (A 30), .ref (A 31), .ref (A 32), .ref (A 33), .ref (A 34), .ref (A 35), .ref (A 36), .ref (A 37), .int (nI h), .int (nI (sn + 1)), .int (nI (j + 1)), .long an, .ref (A 38)]) (As := [.int (nI i), .int (nI 7), .int cn, .long 0, .long (g (h - 1))]) (rest := []) F hS c_M_114 (k_M_valueOf G l htr (uV V 20 0 (a1, oM A (nI m0) (nI ne) dy th qs (nI nk) hs hd (nI h) (nI (sn + 1)) (nI (j + 1)) an)) a1 A m0 ne nk dy th qs hs hd (nI h) (nI (sn + 1)) (nI (j + 1)) an mak gv i 7 cn 0 (g (h - 1)) hi (by omega) (fun z => by obtain ⟨c9, a9, b9, _⟩ := hc1 z; exact ⟨c9, a9, b9⟩) (fun z => absurd z (by decide)) (uV_self V 20 0 (a1, oM A (nI m0) (nI ne) dy th qs (nI nk) hs hd (nI h) (nI (sn + 1)) (nI (j + 1)) an)) h25 h38) rfl (uV_self V 20 0 (a1, oM A (nI m0) (nI ne) dy th qs (nI nk) hs hd (nI h) (nI (sn + 1)) (nI (j + 1)) an)) rfl hl.1 rfl (Nat.le_of_ble_eq_true rfl) d_M_step_219 ⟨Nat.le_of_ble_eq_true rfl, Nat.le_of_ble_eq_true rfl⟩ ⟨Nat.le_of_ble_eq_true rfl, Nat.le_of_ble_eq_true rfl⟩ (fun rv V1 H locs hR hS => ?_)
      obtain ⟨rfl, hV⟩ := hR
      rw [hV] at hS
      have ev : pVal 7 cn (gv cn.toNatClampNeg) 0 (g (h - 1)) (mak i) = (f (h - 1)).toInt64 := (hg (h - 1) (by omega))
      obtain ⟨v, hv⟩ : ∃ v, v = pVal 7 cn (gv cn.toNatClampNeg) 0 (g (h - 1)) (mak i) := ⟨_, rfl⟩
      rw [← hv]
      have hp0 : pStep 7 cn fa (mak i) h (nI (j + 1)) an9 f = ((pPut v (h) f).1, (pPut v (h) f).2.1, nI (j + 1), an9, (pPut v (h) f).2.2) := by
        rw [hv, ev]
        exact if_neg hs0
      refine W.eq (g2 := F0 m 222 ls [.long v]) rfl ?_
      refine lv_lstore (lv' := [(8, .long v), (6, .long 0), (4, .long (g (h - 1))), (3, .int cn), (2, .int (nI 7)), (0, .ref a1), (1, .int (nI i))]) hx hb d_M_step_222 hl (by decide) rfl (fun ls hl => ?_)
      refine lv_lload hx hb d_M_step_224 (lv_at hl 0 rfl) ?_
      refine lv_ldc2 (v := (-1000000000)) hx hb hown (hts _ m_809) d_M_step_226 ?_
      refine W.lcmp hx hb d_M_step_229 ?_
      refine lv_if_lt (tgt := 242) hx hb d_M_step_230 (by decide) (fun c_230 => ?_) (fun c_230 => ?_)
      · have hp : pStep 7 cn fa (mak i) h (nI (j + 1)) an9 f = (5, h, nI (j + 1), an9, f) := by
          rw [hp0, show pPut v (h) f = (5, h, f) from if_pos (Or.inl ((lg_cmp_lt _ _).mp c_230))]
        refine lv_iconst (v := 5) hx hb d_M_step_242 (by decide) ?_
        exact m_reti F hr hS (Nat.le_of_ble_eq_true rfl) (Nat.le_of_ble_eq_true rfl) (SP.bad hp (by decide) (by decide) (uM_of20 h37)) d_M_step_243
      · refine lv_lload hx hb d_M_step_233 (lv_at hl 0 rfl) ?_
        refine lv_ldc2 (v := 1000000000) hx hb hown (hts _ m_810) d_M_step_235 ?_
        refine W.lcmp hx hb d_M_step_238 ?_
        refine lv_if_le (tgt := 244) hx hb d_M_step_239 (by decide) (fun c_239 => ?_) (fun c_239 => ?_)
        · have hv9 : ¬ (v < -1000000000 ∨ 1000000000 < v) := fun z => z.elim (fun z => c_230 ((lg_cmp_lt _ _).mpr z)) (fun z => absurd ((lg_cmp_le _ _).mp c_239) (Int64.not_le.mpr z))
          refine lv_aload_n hx hb d_M_step_244 rfl (lv_at hl 5 rfl) ?_
          refine r_get (k := 20) (i := 0) F hS f_M_103.get (uV_self V 20 0 (a1, oM A (nI m0) (nI ne) dy th qs (nI nk) hs hd (nI h) (nI (sn + 1)) (nI (j + 1)) an)) rfl d_M_step_245 ?_
          refine lv_bipush (v := 8) hx hb d_M_step_248 (by decide) ?_
          refine lv_icmp_ne (tgt := 255) hx hb d_M_step_250 (by decide) (fun c_250 => ?_) (fun c_250 => ?_)
          · have h8 : h < 8 := Nat.lt_of_le_of_ne (by omega) (fun z => c_250 (congrArg nI z))
            have hp : pStep 7 cn fa (mak i) h (nI (j + 1)) an9 f = (7, h + 1, nI (j + 1), an9, upd f (h) v.toInt32) := by
              rw [hp0, show pPut v (h) f = (7, h + 1, upd f (h) v.toInt32) from (if_neg hv9).trans (if_neg (by omega))]
            refine lv_aload_n hx hb d_M_step_255 rfl (lv_at hl 5 rfl) ?_
            refine r_get (k := 20) (i := 0) F hS f_M_63.get (uV_self V 20 0 (a1, oM A (nI m0) (nI ne) dy th qs (nI nk) hs hd (nI h) (nI (sn + 1)) (nI (j + 1)) an)) rfl d_M_step_256 ?_
            refine lv_aload_n hx hb d_M_step_259 rfl (lv_at hl 5 rfl) ?_
            refine r_get (k := 20) (i := 0) F hS f_M_103.get (uV_self V 20 0 (a1, oM A (nI m0) (nI ne) dy th qs (nI nk) hs hd (nI h) (nI (sn + 1)) (nI (j + 1)) an)) rfl d_M_step_260 ?_
            refine lv_lload hx hb d_M_step_263 (lv_at hl 0 rfl) ?_
            refine r_last (k := 37) (i := 0) F hS h37 (vp_in_nI h8 (by decide)) d_M_step_265 (fun H locs hS => ?_)
            rw [nI_clamp (by omega)] at hS
            have hS : HS G s (uV (uV V 20 0 (a1, oM A (nI m0) (nI ne) dy th qs (nI nk) hs hd (nI h) (nI (sn + 1)) (nI (j + 1)) an)) 37 0 ((A 37), aL G 8 (vp_updL g h v))) H _ := hS
            refine lv_aload_n hx hb d_M_step_266 rfl (lv_at hl 5 rfl) ?_
            refine lv_dup hx hb d_M_step_267 rfl ?_
            refine r_get (k := 20) (i := 0) F hS f_M_103.get (uV_self V 20 0 (a1, oM A (nI m0) (nI ne) dy th qs (nI nk) hs hd (nI h) (nI (sn + 1)) (nI (j + 1)) an)) rfl d_M_step_268 ?_
            refine lv_iconst (v := 1) hx hb d_M_step_271 (by decide) ?_
            refine lv_iadd hx hb d_M_step_272 ?_
            rw [nI_1]
            refine r_put (k := 20) (i := 0) F hS f_M_103 ct_M (uV_self V 20 0 (a1, oM A (nI m0) (nI ne) dy th qs (nI nk) hs hd (nI h) (nI (sn + 1)) (nI (j + 1)) an)) rfl rfl (Nat.le_of_ble_eq_true rfl) d_M_step_273 (fun H locs hS => ?_)
            have hS : HS G s (uV (uV (uV V 20 0 (a1, oM A (nI m0) (nI ne) dy th qs (nI nk) hs hd (nI h) (nI (sn + 1)) (nI (j + 1)) an)) 37 0 ((A 37), aL G 8 (vp_updL g h v))) 20 0 (a1, oM A (nI m0) (nI ne) dy th qs (nI nk) hs hd (nI (h + 1)) (nI (sn + 1)) (nI (j + 1)) an)) H _ := hS
            refine lv_iconst (v := 0) hx hb d_M_step_276 (by decide) ?_
            exact m_reti F hr hS (Nat.le_of_ble_eq_true rfl) (Nat.le_of_ble_eq_true rfl) (SP.go hp (upL_ok hg (by omega) hv9) (uV3 (by decide))) d_M_step_277
          · have h8 : h = 8 := (nI_eq (by omega) (by decide)).mp (show nI (h) = nI 8 from c_250)
            have hp : pStep 7 cn fa (mak i) h (nI (j + 1)) an9 f = (3, h, nI (j + 1), an9, f) := by
              rw [hp0, show pPut v (h) f = (3, h, f) from (if_neg hv9).trans (if_pos (by omega))]
            refine lv_iconst (v := 3) hx hb d_M_step_253 (by decide) ?_
            exact m_reti F hr hS (Nat.le_of_ble_eq_true rfl) (Nat.le_of_ble_eq_true rfl) (SP.bad hp (by decide) (by decide) (uM_of20 h37)) d_M_step_254
        · have hp : pStep 7 cn fa (mak i) h (nI (j + 1)) an9 f = (5, h, nI (j + 1), an9, f) := by
            rw [hp0, show pPut v (h) f = (5, h, f) from if_pos (Or.inr (Int64.not_le.mp (fun z => c_239 ((lg_cmp_le _ _).mpr z))))]
          refine lv_iconst (v := 5) hx hb d_M_step_242 (by decide) ?_
          exact m_reti F hr hS (Nat.le_of_ble_eq_true rfl) (Nat.le_of_ble_eq_true rfl) (SP.bad hp (by decide) (by decide) (uM_of20 h37)) d_M_step_243
    · have hp : pStep 7 cn fa (mak i) h (nI (j + 1)) an9 f = (3, h, nI (j + 1), an9, f) := if_pos (show h < pNeed 7 from Nat.not_le.mp (fun z => c_86 (show nI 1 ≤ nI h from nI_le z (by omega))))
      refine lv_iconst (v := 3) hx hb d_M_step_89 (by decide) ?_
      exact m_reti F hr hS (Nat.le_of_ble_eq_true rfl) (Nat.le_of_ble_eq_true rfl) (SP.bad hp (by decide) (by decide) (uM_of20 h37)) d_M_step_90
  · refine lv_aload_n hx hb d_M_step_58 rfl (lv_at hl 2 rfl) ?_
    refine lv_dup hx hb d_M_step_59 rfl ?_
    refine r_get (k := 20) (i := 0) F hS f_M_97.get h20 rfl d_M_step_60 ?_
    refine lv_iconst (v := 1) hx hb d_M_step_63 (by decide) ?_
    refine lv_iadd hx hb d_M_step_64 ?_
    rw [nI_1]
    refine r_put (k := 20) (i := 0) F hS f_M_97 ct_M h20 rfl rfl (Nat.le_of_ble_eq_true rfl) d_M_step_65 (fun H locs hS => ?_)
    have hS : HS G s (uV V 20 0 (a1, oM A (nI m0) (nI ne) dy th qs (nI nk) hs hd (nI h) (nI (sn + 1)) (nI j) an)) H _ := hS
    refine lv_aload_n hx hb d_M_step_68 rfl (lv_at hl 2 rfl) ?_
    refine lv_dup hx hb d_M_step_69 rfl ?_
    refine r_get (k := 20) (i := 0) F hS f_M_100.get (uV_self V 20 0 (a1, oM A (nI m0) (nI ne) dy th qs (nI nk) hs hd (nI h) (nI (sn + 1)) (nI j) an)) rfl d_M_step_70 ?_
    refine lv_iconst (v := 1) hx hb d_M_step_73 (by decide) ?_
    refine lv_iadd hx hb d_M_step_74 ?_
    rw [nI_1]
    refine r_put (k := 20) (i := 0) F hS f_M_100 ct_M (uV_self V 20 0 (a1, oM A (nI m0) (nI ne) dy th qs (nI nk) hs hd (nI h) (nI (sn + 1)) (nI j) an)) rfl rfl (Nat.le_of_ble_eq_true rfl) d_M_step_75 (fun H locs hS => ?_)
    rw [uV_uV] at hS
    have hS : HS G s (uV V 20 0 (a1, oM A (nI m0) (nI ne) dy th qs (nI nk) hs hd (nI h) (nI (sn + 1)) (nI (j + 1)) an)) H _ := hS
    refine lv_aload_n hx hb d_M_step_78 rfl (lv_at hl 2 rfl) ?_
    refine r_get (k := 20) (i := 0) F hS f_M_103.get (uV_self V 20 0 (a1, oM A (nI m0) (nI ne) dy th qs (nI nk) hs hd (nI h) (nI (sn + 1)) (nI (j + 1)) an)) rfl d_M_step_79 ?_
    refine lv_iload_n hx hb d_M_step_82 rfl (lv_at hl 1 rfl) ?_
    refine r_callS (As := [.int (nI 8)]) (rest := [.int (nI h)]) F hS c_M_106 (k_M_takes G l htr (uV V 20 0 (a1, oM A (nI m0) (nI ne) dy th qs (nI nk) hs hd (nI h) (nI (sn + 1)) (nI (j + 1)) an)) 8 (by decide)) rfl hl.1 rfl (Nat.le_of_ble_eq_true rfl) d_M_step_83 ⟨Nat.le_of_ble_eq_true rfl, Nat.le_of_ble_eq_true rfl⟩ ⟨Nat.le_of_ble_eq_true rfl, Nat.le_of_ble_eq_true rfl⟩ (fun rv V1 H locs hR hS => ?_)
    obtain ⟨rfl, hV⟩ := hR
    rw [hV] at hS
    refine W.eq (g2 := F0 m 86 ls [.int 1, .int (nI h)]) rfl ?_
    refine lv_icmp_ge (tgt := 91) hx hb d_M_step_86 (by decide) (fun c_86 => ?_) (fun c_86 => ?_)
    · have hn : 1 ≤ h := (nI_leI (by decide) (by omega)).mp (show nI 1 ≤ nI h from c_86)
      have hs0 : ¬ h < pNeed 8 := Nat.not_lt.mpr hn
      refine lv_iload_n hx hb d_M_step_91 rfl (lv_at hl 1 rfl) ?_
      refine r_callS (As := [.int (nI 8)]) (rest := []) F hS c_M_106 (k_M_takes G l htr (uV V 20 0 (a1, oM A (nI m0) (nI ne) dy th qs (nI nk) hs hd (nI h) (nI (sn + 1)) (nI (j + 1)) an)) 8 (by decide)) rfl hl.1 rfl (Nat.le_of_ble_eq_true rfl) d_M_step_92 ⟨Nat.le_of_ble_eq_true rfl, Nat.le_of_ble_eq_true rfl⟩ ⟨Nat.le_of_ble_eq_true rfl, Nat.le_of_ble_eq_true rfl⟩ (fun rv V1 H locs hR hS => ?_)
      obtain ⟨rfl, hV⟩ := hR
      rw [hV] at hS
      refine W.eq (g2 := F0 m 95 ls [.int 1]) rfl ?_
      refine lv_if_le (tgt := 112) hx hb d_M_step_95 (by decide) (fun z => absurd z (by decide)) (fun _ => ?_)
      refine lv_aload_n hx hb d_M_step_98 rfl (lv_at hl 2 rfl) ?_
      refine r_get (k := 20) (i := 0) F hS f_M_63.get (uV_self V 20 0 (a1, oM A (nI m0) (nI ne) dy th qs (nI nk) hs hd (nI h) (nI (sn + 1)) (nI (j + 1)) an)) rfl d_M_step_99 ?_
      refine lv_aload_n hx hb d_M_step_102 rfl (lv_at hl 2 rfl) ?_
      refine r_get (k := 20) (i := 0) F hS f_M_103.get (uV_self V 20 0 (a1, oM A (nI m0) (nI ne) dy th qs (nI nk) hs hd (nI h) (nI (sn + 1)) (nI (j + 1)) an)) rfl d_M_step_103 ?_
      refine lv_iconst (v := 1) hx hb d_M_step_106 (by decide) ?_
      refine lv_isub hx hb d_M_step_107 ?_
      rw [nI_m1 (by omega)]
      refine r_lald (k := 37) (i := 0) F hS h37 (vp_in_nI (by omega) (by decide)) d_M_step_108 ?_
      rw [nI_clamp (by omega)]
      refine lv_goto (tgt := 113) hx hb d_M_step_109 (by decide) ?_
      refine lv_lstore (lv' := [(4, .long (g (h - 1))), (3, .int cn), (2, .int (nI 8)), (0, .ref a1), (1, .int (nI i))]) hx hb d_M_step_113 hl (by decide) rfl (fun ls hl => ?_)
      refine lv_iload_n hx hb d_M_step_115 rfl (lv_at hl 2 rfl) ?_
      refine r_callS (As := [.int (nI 8)]) (rest := []) F hS c_M_106 (k_M_takes G l htr (uV V 20 0 (a1, oM A (nI m0) (nI ne) dy th qs (nI nk) hs hd (nI h) (nI (sn + 1)) (nI (j + 1)) an)) 8 (by decide)) rfl hl.1 rfl (Nat.le_of_ble_eq_true rfl) d_M_step_116 ⟨Nat.le_of_ble_eq_true rfl, Nat.le_of_ble_eq_true rfl⟩ ⟨Nat.le_of_ble_eq_true rfl, Nat.le_of_ble_eq_true rfl⟩ (fun rv V1 H locs hR hS => ?_)
      obtain ⟨rfl, hV⟩ := hR
      rw [hV] at hS
      refine W.eq (g2 := F0 m 119 ls [.int 1]) rfl ?_
      refine lv_iconst (v := 1) hx hb d_M_step_119 (by decide) ?_
      refine lv_icmp_le (tgt := 137) hx hb d_M_step_120 (by decide) (fun _ => ?_) (fun z => absurd z (by decide))
      refine lv_lconst (v := 0) hx hb d_M_step_137 (by decide) ?_
      refine lv_lstore (lv' := [(6, .long 0), (4, .long (g (h - 1))), (3, .int cn), (2, .int (nI 8)), (0, .ref a1), (1, .int (nI i))]) hx hb d_M_step_138 hl (by decide) rfl (fun ls hl => ?_)
      refine lv_iload_n hx hb d_M_step_140 rfl (lv_at hl 3 rfl) ?_
      refine lv_iconst (v := 5) hx hb d_M_step_141 (by decide) ?_
      refine lv_icmp_ne (tgt := 154) hx hb d_M_step_142 (by decide) (fun _ => ?_) (fun z => absurd z (by decide))
      refine lv_aload_n hx hb d_M_step_154 rfl (lv_at hl 4 rfl) ?_
      refine lv_dup hx hb d_M_step_155 rfl ?_
      refine r_get (k := 20) (i := 0) F hS f_M_103.get (uV_self V 20 0 (a1, oM A (nI m0) (nI ne) dy th qs (nI nk) hs hd (nI h) (nI (sn + 1)) (nI (j + 1)) an)) rfl d_M_step_156 ?_
      refine lv_iload_n hx hb d_M_step_159 rfl (lv_at hl 3 rfl) ?_
      refine lv_bipush (v := 7) hx hb d_M_step_160 (by decide) ?_
      refine lv_icmp_ne (tgt := 169) hx hb d_M_step_162 (by decide) (fun _ => ?_) (fun z => absurd z (by decide))
      refine lv_iload_n hx hb d_M_step_169 rfl (lv_at hl 3 rfl) ?_
      refine r_callS (As := [.int (nI 8)]) (rest := [.int (nI h), .ref a1]) F hS c_M_106 (k_M_takes G l htr (uV V 20 0 (a1, oM A (nI m0) (nI ne) dy th qs (nI nk) hs hd (nI h) (nI (sn + 1)) (nI (j + 1)) an)) 8 (by decide)) rfl hl.1 rfl (Nat.le_of_ble_eq_true rfl) d_M_step_170 ⟨Nat.le_of_ble_eq_true rfl, Nat.le_of_ble_eq_true rfl⟩ ⟨Nat.le_of_ble_eq_true rfl, Nat.le_of_ble_eq_true rfl⟩ (fun rv V1 H locs hR hS => ?_)
      obtain ⟨rfl, hV⟩ := hR
      rw [hV] at hS
      refine W.eq (g2 := F0 m 173 ls [.int 1, .int (nI h), .ref a1]) rfl ?_
      refine lv_isub hx hb d_M_step_173 ?_
      rw [nI_m1 (by omega)]
      refine r_put (k := 20) (i := 0) F hS f_M_103 ct_M (uV_self V 20 0 (a1, oM A (nI m0) (nI ne) dy th qs (nI nk) hs hd (nI h) (nI (sn + 1)) (nI (j + 1)) an)) rfl rfl (Nat.le_of_ble_eq_true rfl) d_M_step_174 (fun H locs hS => ?_)
      rw [uV_uV] at hS
      have hS : HS G s (uV V 20 0 (a1, oM A (nI m0) (nI ne) dy th qs (nI nk) hs hd (nI (h - 1)) (nI (sn + 1)) (nI (j + 1)) an)) H _ := hS
      refine lv_iload_n hx hb d_M_step_177 rfl (lv_at hl 3 rfl) ?_
      refine lv_bipush (v := 9) hx hb d_M_step_178 (by decide) ?_
      refine lv_icmp_ne (tgt := 191) hx hb d_M_step_180 (by decide) (fun _ => ?_) (fun z => absurd z (by decide))
      refine lv_iload_n hx hb d_M_step_191 rfl (lv_at hl 3 rfl) ?_
      refine lv_bipush (v := 8) hx hb d_M_step_192 (by decide) ?_
      refine lv_icmp_ne (tgt := 211) hx hb d_M_step_194 (by decide) (fun z => absurd z (by decide)) (fun _ => ?_)
      have hp : pStep 8 cn fa (mak i) h (nI (j + 1)) an9 f = (7, h - 1, (if f (h - 1) = 0 then cn else nI (j + 1)), an9, f) := if_neg hs0
      refine lv_lload hx hb d_M_step_197 (lv_at hl 1 rfl) ?_
      refine lv_lconst (v := 0) hx hb d_M_step_199 (by decide) ?_
      refine W.lcmp hx hb d_M_step_200 ?_
      refine lv_if_ne (tgt := 209) hx hb d_M_step_201 (by decide) (fun c_201 => ?_) (fun c_201 => ?_)
      · rw [if_neg (fun z => c_201 ((lg_cmp_eq _ _).mpr (by rw [(hg (h - 1) (by omega)), z]; rfl)))] at hp
        refine lv_iconst (v := 0) hx hb d_M_step_209 (by decide) ?_
        exact m_reti F hr hS (Nat.le_of_ble_eq_true rfl) (Nat.le_of_ble_eq_true rfl) (SP.go hp (fun q hq => hg q (by omega)) (uM_of20 h37)) d_M_step_210
      · rw [if_pos (i64_0 ((hg (h - 1) (by omega)).symm.trans ((lg_cmp_eq _ _).mp c_201)))] at hp
        refine lv_aload_n hx hb d_M_step_204 rfl (lv_at hl 4 rfl) ?_
        refine lv_iload_n hx hb d_M_step_205 rfl (lv_at hl 2 rfl) ?_
        refine r_put (k := 20) (i := 0) F hS f_M_100 ct_M (uV_self V 20 0 (a1, oM A (nI m0) (nI ne) dy th qs (nI nk) hs hd (nI (h - 1)) (nI (sn + 1)) (nI (j + 1)) an)) rfl rfl (Nat.le_of_ble_eq_true rfl) d_M_step_206 (fun H locs hS => ?_)
        rw [uV_uV] at hS
        have hS : HS G s (uV V 20 0 (a1, oM A (nI m0) (nI ne) dy th qs (nI nk) hs hd (nI (h - 1)) (nI (sn + 1)) cn an)) H _ := hS
        refine lv_iconst (v := 0) hx hb d_M_step_209 (by decide) ?_
        exact m_reti F hr hS (Nat.le_of_ble_eq_true rfl) (Nat.le_of_ble_eq_true rfl) (SP.go hp (fun q hq => hg q (by omega)) (uM_of20 h37)) d_M_step_210
    · have hp : pStep 8 cn fa (mak i) h (nI (j + 1)) an9 f = (3, h, nI (j + 1), an9, f) := if_pos (show h < pNeed 8 from Nat.not_le.mp (fun z => c_86 (show nI 1 ≤ nI h from nI_le z (by omega))))
      refine lv_iconst (v := 3) hx hb d_M_step_89 (by decide) ?_
      exact m_reti F hr hS (Nat.le_of_ble_eq_true rfl) (Nat.le_of_ble_eq_true rfl) (SP.bad hp (by decide) (by decide) (uM_of20 h37)) d_M_step_90
  · refine lv_aload_n hx hb d_M_step_58 rfl (lv_at hl 2 rfl) ?_
    refine lv_dup hx hb d_M_step_59 rfl ?_
    refine r_get (k := 20) (i := 0) F hS f_M_97.get h20 rfl d_M_step_60 ?_
    refine lv_iconst (v := 1) hx hb d_M_step_63 (by decide) ?_
    refine lv_iadd hx hb d_M_step_64 ?_
    rw [nI_1]
    refine r_put (k := 20) (i := 0) F hS f_M_97 ct_M h20 rfl rfl (Nat.le_of_ble_eq_true rfl) d_M_step_65 (fun H locs hS => ?_)
    have hS : HS G s (uV V 20 0 (a1, oM A (nI m0) (nI ne) dy th qs (nI nk) hs hd (nI h) (nI (sn + 1)) (nI j) an)) H _ := hS
    refine lv_aload_n hx hb d_M_step_68 rfl (lv_at hl 2 rfl) ?_
    refine lv_dup hx hb d_M_step_69 rfl ?_
    refine r_get (k := 20) (i := 0) F hS f_M_100.get (uV_self V 20 0 (a1, oM A (nI m0) (nI ne) dy th qs (nI nk) hs hd (nI h) (nI (sn + 1)) (nI j) an)) rfl d_M_step_70 ?_
    refine lv_iconst (v := 1) hx hb d_M_step_73 (by decide) ?_
    refine lv_iadd hx hb d_M_step_74 ?_
    rw [nI_1]
    refine r_put (k := 20) (i := 0) F hS f_M_100 ct_M (uV_self V 20 0 (a1, oM A (nI m0) (nI ne) dy th qs (nI nk) hs hd (nI h) (nI (sn + 1)) (nI j) an)) rfl rfl (Nat.le_of_ble_eq_true rfl) d_M_step_75 (fun H locs hS => ?_)
    rw [uV_uV] at hS
    have hS : HS G s (uV V 20 0 (a1, oM A (nI m0) (nI ne) dy th qs (nI nk) hs hd (nI h) (nI (sn + 1)) (nI (j + 1)) an)) H _ := hS
    refine lv_aload_n hx hb d_M_step_78 rfl (lv_at hl 2 rfl) ?_
    refine r_get (k := 20) (i := 0) F hS f_M_103.get (uV_self V 20 0 (a1, oM A (nI m0) (nI ne) dy th qs (nI nk) hs hd (nI h) (nI (sn + 1)) (nI (j + 1)) an)) rfl d_M_step_79 ?_
    refine lv_iload_n hx hb d_M_step_82 rfl (lv_at hl 1 rfl) ?_
    refine r_callS (As := [.int (nI 9)]) (rest := [.int (nI h)]) F hS c_M_106 (k_M_takes G l htr (uV V 20 0 (a1, oM A (nI m0) (nI ne) dy th qs (nI nk) hs hd (nI h) (nI (sn + 1)) (nI (j + 1)) an)) 9 (by decide)) rfl hl.1 rfl (Nat.le_of_ble_eq_true rfl) d_M_step_83 ⟨Nat.le_of_ble_eq_true rfl, Nat.le_of_ble_eq_true rfl⟩ ⟨Nat.le_of_ble_eq_true rfl, Nat.le_of_ble_eq_true rfl⟩ (fun rv V1 H locs hR hS => ?_)
    obtain ⟨rfl, hV⟩ := hR
    rw [hV] at hS
    refine W.eq (g2 := F0 m 86 ls [.int 1, .int (nI h)]) rfl ?_
    refine lv_icmp_ge (tgt := 91) hx hb d_M_step_86 (by decide) (fun c_86 => ?_) (fun c_86 => ?_)
    · have hn : 1 ≤ h := (nI_leI (by decide) (by omega)).mp (show nI 1 ≤ nI h from c_86)
      have hs0 : ¬ h < pNeed 9 := Nat.not_lt.mpr hn
      refine lv_iload_n hx hb d_M_step_91 rfl (lv_at hl 1 rfl) ?_
      refine r_callS (As := [.int (nI 9)]) (rest := []) F hS c_M_106 (k_M_takes G l htr (uV V 20 0 (a1, oM A (nI m0) (nI ne) dy th qs (nI nk) hs hd (nI h) (nI (sn + 1)) (nI (j + 1)) an)) 9 (by decide)) rfl hl.1 rfl (Nat.le_of_ble_eq_true rfl) d_M_step_92 ⟨Nat.le_of_ble_eq_true rfl, Nat.le_of_ble_eq_true rfl⟩ ⟨Nat.le_of_ble_eq_true rfl, Nat.le_of_ble_eq_true rfl⟩ (fun rv V1 H locs hR hS => ?_)
      obtain ⟨rfl, hV⟩ := hR
      rw [hV] at hS
      refine W.eq (g2 := F0 m 95 ls [.int 1]) rfl ?_
      refine lv_if_le (tgt := 112) hx hb d_M_step_95 (by decide) (fun z => absurd z (by decide)) (fun _ => ?_)
      refine lv_aload_n hx hb d_M_step_98 rfl (lv_at hl 2 rfl) ?_
      refine r_get (k := 20) (i := 0) F hS f_M_63.get (uV_self V 20 0 (a1, oM A (nI m0) (nI ne) dy th qs (nI nk) hs hd (nI h) (nI (sn + 1)) (nI (j + 1)) an)) rfl d_M_step_99 ?_
      refine lv_aload_n hx hb d_M_step_102 rfl (lv_at hl 2 rfl) ?_
      refine r_get (k := 20) (i := 0) F hS f_M_103.get (uV_self V 20 0 (a1, oM A (nI m0) (nI ne) dy th qs (nI nk) hs hd (nI h) (nI (sn + 1)) (nI (j + 1)) an)) rfl d_M_step_103 ?_
      refine lv_iconst (v := 1) hx hb d_M_step_106 (by decide) ?_
      refine lv_isub hx hb d_M_step_107 ?_
      rw [nI_m1 (by omega)]
      refine r_lald (k := 37) (i := 0) F hS h37 (vp_in_nI (by omega) (by decide)) d_M_step_108 ?_
      rw [nI_clamp (by omega)]
      refine lv_goto (tgt := 113) hx hb d_M_step_109 (by decide) ?_
      refine lv_lstore (lv' := [(4, .long (g (h - 1))), (3, .int cn), (2, .int (nI 9)), (0, .ref a1), (1, .int (nI i))]) hx hb d_M_step_113 hl (by decide) rfl (fun ls hl => ?_)
      refine lv_iload_n hx hb d_M_step_115 rfl (lv_at hl 2 rfl) ?_
      refine r_callS (As := [.int (nI 9)]) (rest := []) F hS c_M_106 (k_M_takes G l htr (uV V 20 0 (a1, oM A (nI m0) (nI ne) dy th qs (nI nk) hs hd (nI h) (nI (sn + 1)) (nI (j + 1)) an)) 9 (by decide)) rfl hl.1 rfl (Nat.le_of_ble_eq_true rfl) d_M_step_116 ⟨Nat.le_of_ble_eq_true rfl, Nat.le_of_ble_eq_true rfl⟩ ⟨Nat.le_of_ble_eq_true rfl, Nat.le_of_ble_eq_true rfl⟩ (fun rv V1 H locs hR hS => ?_)
      obtain ⟨rfl, hV⟩ := hR
      rw [hV] at hS
      refine W.eq (g2 := F0 m 119 ls [.int 1]) rfl ?_
      refine lv_iconst (v := 1) hx hb d_M_step_119 (by decide) ?_
      refine lv_icmp_le (tgt := 137) hx hb d_M_step_120 (by decide) (fun _ => ?_) (fun z => absurd z (by decide))
      refine lv_lconst (v := 0) hx hb d_M_step_137 (by decide) ?_
      refine lv_lstore (lv' := [(6, .long 0), (4, .long (g (h - 1))), (3, .int cn), (2, .int (nI 9)), (0, .ref a1), (1, .int (nI i))]) hx hb d_M_step_138 hl (by decide) rfl (fun ls hl => ?_)
      refine lv_iload_n hx hb d_M_step_140 rfl (lv_at hl 3 rfl) ?_
      refine lv_iconst (v := 5) hx hb d_M_step_141 (by decide) ?_
      refine lv_icmp_ne (tgt := 154) hx hb d_M_step_142 (by decide) (fun _ => ?_) (fun z => absurd z (by decide))
      refine lv_aload_n hx hb d_M_step_154 rfl (lv_at hl 4 rfl) ?_
      refine lv_dup hx hb d_M_step_155 rfl ?_
      refine r_get (k := 20) (i := 0) F hS f_M_103.get (uV_self V 20 0 (a1, oM A (nI m0) (nI ne) dy th qs (nI nk) hs hd (nI h) (nI (sn + 1)) (nI (j + 1)) an)) rfl d_M_step_156 ?_
      refine lv_iload_n hx hb d_M_step_159 rfl (lv_at hl 3 rfl) ?_
      refine lv_bipush (v := 7) hx hb d_M_step_160 (by decide) ?_
      refine lv_icmp_ne (tgt := 169) hx hb d_M_step_162 (by decide) (fun _ => ?_) (fun z => absurd z (by decide))
      refine lv_iload_n hx hb d_M_step_169 rfl (lv_at hl 3 rfl) ?_
      refine r_callS (As := [.int (nI 9)]) (rest := [.int (nI h), .ref a1]) F hS c_M_106 (k_M_takes G l htr (uV V 20 0 (a1, oM A (nI m0) (nI ne) dy th qs (nI nk) hs hd (nI h) (nI (sn + 1)) (nI (j + 1)) an)) 9 (by decide)) rfl hl.1 rfl (Nat.le_of_ble_eq_true rfl) d_M_step_170 ⟨Nat.le_of_ble_eq_true rfl, Nat.le_of_ble_eq_true rfl⟩ ⟨Nat.le_of_ble_eq_true rfl, Nat.le_of_ble_eq_true rfl⟩ (fun rv V1 H locs hR hS => ?_)
      obtain ⟨rfl, hV⟩ := hR
      rw [hV] at hS
      refine W.eq (g2 := F0 m 173 ls [.int 1, .int (nI h), .ref a1]) rfl ?_
      refine lv_isub hx hb d_M_step_173 ?_
      rw [nI_m1 (by omega)]
      refine r_put (k := 20) (i := 0) F hS f_M_103 ct_M (uV_self V 20 0 (a1, oM A (nI m0) (nI ne) dy th qs (nI nk) hs hd (nI h) (nI (sn + 1)) (nI (j + 1)) an)) rfl rfl (Nat.le_of_ble_eq_true rfl) d_M_step_174 (fun H locs hS => ?_)
      rw [uV_uV] at hS
      have hS : HS G s (uV V 20 0 (a1, oM A (nI m0) (nI ne) dy th qs (nI nk) hs hd (nI (h - 1)) (nI (sn + 1)) (nI (j + 1)) an)) H _ := hS
      refine lv_iload_n hx hb d_M_step_177 rfl (lv_at hl 3 rfl) ?_
      refine lv_bipush (v := 9) hx hb d_M_step_178 (by decide) ?_
      refine lv_icmp_ne (tgt := 191) hx hb d_M_step_180 (by decide) (fun z => absurd z (by decide)) (fun _ => ?_)
      refine lv_aload_n hx hb d_M_step_183 rfl (lv_at hl 4 rfl) ?_
      refine lv_lload hx hb d_M_step_184 (lv_at hl 1 rfl) ?_
      refine r_put (k := 20) (i := 0) F hS f_M_110 ct_M (uV_self V 20 0 (a1, oM A (nI m0) (nI ne) dy th qs (nI nk) hs hd (nI (h - 1)) (nI (sn + 1)) (nI (j + 1)) an)) rfl rfl (Nat.le_of_ble_eq_true rfl) d_M_step_186 (fun H locs hS => ?_)
      rw [uV_uV] at hS
      have hS : HS G s (uV V 20 0 (a1, oM A (nI m0) (nI ne) dy th qs (nI nk) hs hd (nI (h - 1)) (nI (sn + 1)) (nI (j + 1)) (g (h - 1)))) H _ := hS
      refine lv_iconst (v := (-1)) hx hb d_M_step_189 (by decide) ?_
      have hp : pStep 9 cn fa (mak i) h (nI (j + 1)) an9 f = (6, h - 1, nI (j + 1), f (h - 1), f) := if_neg hs0
      exact m_reti F hr hS (Nat.le_of_ble_eq_true rfl) (Nat.le_of_ble_eq_true rfl) (SP.ans hp (by rw [(hg (h - 1) (by omega))]; exact uM_of20 h37)) d_M_step_190
    · have hp : pStep 9 cn fa (mak i) h (nI (j + 1)) an9 f = (3, h, nI (j + 1), an9, f) := if_pos (show h < pNeed 9 from Nat.not_le.mp (fun z => c_86 (show nI 1 ≤ nI h from nI_le z (by omega))))
      refine lv_iconst (v := 3) hx hb d_M_step_89 (by decide) ?_
      exact m_reti F hr hS (Nat.le_of_ble_eq_true rfl) (Nat.le_of_ble_eq_true rfl) (SP.bad hp (by decide) (by decide) (uM_of20 h37)) d_M_step_90
  · refine lv_aload_n hx hb d_M_step_58 rfl (lv_at hl 2 rfl) ?_
    refine lv_dup hx hb d_M_step_59 rfl ?_
    refine r_get (k := 20) (i := 0) F hS f_M_97.get h20 rfl d_M_step_60 ?_
    refine lv_iconst (v := 1) hx hb d_M_step_63 (by decide) ?_
    refine lv_iadd hx hb d_M_step_64 ?_
    rw [nI_1]
    refine r_put (k := 20) (i := 0) F hS f_M_97 ct_M h20 rfl rfl (Nat.le_of_ble_eq_true rfl) d_M_step_65 (fun H locs hS => ?_)
    have hS : HS G s (uV V 20 0 (a1, oM A (nI m0) (nI ne) dy th qs (nI nk) hs hd (nI h) (nI (sn + 1)) (nI j) an)) H _ := hS
    refine lv_aload_n hx hb d_M_step_68 rfl (lv_at hl 2 rfl) ?_
    refine lv_dup hx hb d_M_step_69 rfl ?_
    refine r_get (k := 20) (i := 0) F hS f_M_100.get (uV_self V 20 0 (a1, oM A (nI m0) (nI ne) dy th qs (nI nk) hs hd (nI h) (nI (sn + 1)) (nI j) an)) rfl d_M_step_70 ?_
    refine lv_iconst (v := 1) hx hb d_M_step_73 (by decide) ?_
    refine lv_iadd hx hb d_M_step_74 ?_
    rw [nI_1]
    refine r_put (k := 20) (i := 0) F hS f_M_100 ct_M (uV_self V 20 0 (a1, oM A (nI m0) (nI ne) dy th qs (nI nk) hs hd (nI h) (nI (sn + 1)) (nI j) an)) rfl rfl (Nat.le_of_ble_eq_true rfl) d_M_step_75 (fun H locs hS => ?_)
    rw [uV_uV] at hS
    have hS : HS G s (uV V 20 0 (a1, oM A (nI m0) (nI ne) dy th qs (nI nk) hs hd (nI h) (nI (sn + 1)) (nI (j + 1)) an)) H _ := hS
    refine lv_aload_n hx hb d_M_step_78 rfl (lv_at hl 2 rfl) ?_
    refine r_get (k := 20) (i := 0) F hS f_M_103.get (uV_self V 20 0 (a1, oM A (nI m0) (nI ne) dy th qs (nI nk) hs hd (nI h) (nI (sn + 1)) (nI (j + 1)) an)) rfl d_M_step_79 ?_
    refine lv_iload_n hx hb d_M_step_82 rfl (lv_at hl 1 rfl) ?_
    refine r_callS (As := [.int (nI 10)]) (rest := [.int (nI h)]) F hS c_M_106 (k_M_takes G l htr (uV V 20 0 (a1, oM A (nI m0) (nI ne) dy th qs (nI nk) hs hd (nI h) (nI (sn + 1)) (nI (j + 1)) an)) 10 (by decide)) rfl hl.1 rfl (Nat.le_of_ble_eq_true rfl) d_M_step_83 ⟨Nat.le_of_ble_eq_true rfl, Nat.le_of_ble_eq_true rfl⟩ ⟨Nat.le_of_ble_eq_true rfl, Nat.le_of_ble_eq_true rfl⟩ (fun rv V1 H locs hR hS => ?_)
    obtain ⟨rfl, hV⟩ := hR
    rw [hV] at hS
    refine W.eq (g2 := F0 m 86 ls [.int 0, .int (nI h)]) rfl ?_
    have hs0 : ¬ h < pNeed 10 := Nat.not_lt.mpr (Nat.zero_le _)
    refine lv_icmp_ge (tgt := 91) hx hb d_M_step_86 (by decide) (fun c_86 => ?_) (fun c_86 => absurd (nI_pos' (by omega)) c_86)
    refine lv_iload_n hx hb d_M_step_91 rfl (lv_at hl 1 rfl) ?_
    refine r_callS (As := [.int (nI 10)]) (rest := []) F hS c_M_106 (k_M_takes G l htr (uV V 20 0 (a1, oM A (nI m0) (nI ne) dy th qs (nI nk) hs hd (nI h) (nI (sn + 1)) (nI (j + 1)) an)) 10 (by decide)) rfl hl.1 rfl (Nat.le_of_ble_eq_true rfl) d_M_step_92 ⟨Nat.le_of_ble_eq_true rfl, Nat.le_of_ble_eq_true rfl⟩ ⟨Nat.le_of_ble_eq_true rfl, Nat.le_of_ble_eq_true rfl⟩ (fun rv V1 H locs hR hS => ?_)
    obtain ⟨rfl, hV⟩ := hR
    rw [hV] at hS
    refine W.eq (g2 := F0 m 95 ls [.int 0]) rfl ?_
    refine lv_if_le (tgt := 112) hx hb d_M_step_95 (by decide) (fun _ => ?_) (fun z => absurd z (by decide))
    refine lv_lconst (v := 0) hx hb d_M_step_112 (by decide) ?_
    refine lv_lstore (lv' := [(4, .long 0), (3, .int cn), (2, .int (nI 10)), (0, .ref a1), (1, .int (nI i))]) hx hb d_M_step_113 hl (by decide) rfl (fun ls hl => ?_)
    refine lv_iload_n hx hb d_M_step_115 rfl (lv_at hl 2 rfl) ?_
    refine r_callS (As := [.int (nI 10)]) (rest := []) F hS c_M_106 (k_M_takes G l htr (uV V 20 0 (a1, oM A (nI m0) (nI ne) dy th qs (nI nk) hs hd (nI h) (nI (sn + 1)) (nI (j + 1)) an)) 10 (by decide)) rfl hl.1 rfl (Nat.le_of_ble_eq_true rfl) d_M_step_116 ⟨Nat.le_of_ble_eq_true rfl, Nat.le_of_ble_eq_true rfl⟩ ⟨Nat.le_of_ble_eq_true rfl, Nat.le_of_ble_eq_true rfl⟩ (fun rv V1 H locs hR hS => ?_)
    obtain ⟨rfl, hV⟩ := hR
    rw [hV] at hS
    refine W.eq (g2 := F0 m 119 ls [.int 0]) rfl ?_
    refine lv_iconst (v := 1) hx hb d_M_step_119 (by decide) ?_
    refine lv_icmp_le (tgt := 137) hx hb d_M_step_120 (by decide) (fun _ => ?_) (fun z => absurd z (by decide))
    refine lv_lconst (v := 0) hx hb d_M_step_137 (by decide) ?_
    refine lv_lstore (lv' := [(6, .long 0), (4, .long 0), (3, .int cn), (2, .int (nI 10)), (0, .ref a1), (1, .int (nI i))]) hx hb d_M_step_138 hl (by decide) rfl (fun ls hl => ?_)
    refine lv_iload_n hx hb d_M_step_140 rfl (lv_at hl 3 rfl) ?_
    refine lv_iconst (v := 5) hx hb d_M_step_141 (by decide) ?_
    refine lv_icmp_ne (tgt := 154) hx hb d_M_step_142 (by decide) (fun _ => ?_) (fun z => absurd z (by decide))
    refine lv_aload_n hx hb d_M_step_154 rfl (lv_at hl 4 rfl) ?_
    refine lv_dup hx hb d_M_step_155 rfl ?_
    refine r_get (k := 20) (i := 0) F hS f_M_103.get (uV_self V 20 0 (a1, oM A (nI m0) (nI ne) dy th qs (nI nk) hs hd (nI h) (nI (sn + 1)) (nI (j + 1)) an)) rfl d_M_step_156 ?_
    refine lv_iload_n hx hb d_M_step_159 rfl (lv_at hl 3 rfl) ?_
    refine lv_bipush (v := 7) hx hb d_M_step_160 (by decide) ?_
    refine lv_icmp_ne (tgt := 169) hx hb d_M_step_162 (by decide) (fun _ => ?_) (fun z => absurd z (by decide))
    refine lv_iload_n hx hb d_M_step_169 rfl (lv_at hl 3 rfl) ?_
    refine r_callS (As := [.int (nI 10)]) (rest := [.int (nI h), .ref a1]) F hS c_M_106 (k_M_takes G l htr (uV V 20 0 (a1, oM A (nI m0) (nI ne) dy th qs (nI nk) hs hd (nI h) (nI (sn + 1)) (nI (j + 1)) an)) 10 (by decide)) rfl hl.1 rfl (Nat.le_of_ble_eq_true rfl) d_M_step_170 ⟨Nat.le_of_ble_eq_true rfl, Nat.le_of_ble_eq_true rfl⟩ ⟨Nat.le_of_ble_eq_true rfl, Nat.le_of_ble_eq_true rfl⟩ (fun rv V1 H locs hR hS => ?_)
    obtain ⟨rfl, hV⟩ := hR
    rw [hV] at hS
    refine W.eq (g2 := F0 m 173 ls [.int 0, .int (nI h), .ref a1]) rfl ?_
    refine lv_isub hx hb d_M_step_173 ?_
    rw [show nI h - 0 = nI h from Int32.sub_zero _]
    refine r_put (k := 20) (i := 0) F hS f_M_103 ct_M (uV_self V 20 0 (a1, oM A (nI m0) (nI ne) dy th qs (nI nk) hs hd (nI h) (nI (sn + 1)) (nI (j + 1)) an)) rfl rfl (Nat.le_of_ble_eq_true rfl) d_M_step_174 (fun H locs hS => ?_)
    rw [uV_uV] at hS
    have hS : HS G s (uV V 20 0 (a1, oM A (nI m0) (nI ne) dy th qs (nI nk) hs hd (nI h) (nI (sn + 1)) (nI (j + 1)) an)) H _ := hS
    refine lv_iload_n hx hb d_M_step_177 rfl (lv_at hl 3 rfl) ?_
    refine lv_bipush (v := 9) hx hb d_M_step_178 (by decide) ?_
    refine lv_icmp_ne (tgt := 191) hx hb d_M_step_180 (by decide) (fun _ => ?_) (fun z => absurd z (by decide))
    refine lv_iload_n hx hb d_M_step_191 rfl (lv_at hl 3 rfl) ?_
    refine lv_bipush (v := 8) hx hb d_M_step_192 (by decide) ?_
    refine lv_icmp_ne (tgt := 211) hx hb d_M_step_194 (by decide) (fun _ => ?_) (fun z => absurd z (by decide))
    refine lv_aload_n hx hb d_M_step_211 rfl (lv_at hl 4 rfl) ?_
    refine lv_iload_n hx hb d_M_step_212 rfl (lv_at hl 5 rfl) ?_
    refine lv_iload_n hx hb d_M_step_213 rfl (lv_at hl 3 rfl) ?_
    refine lv_iload_n hx hb d_M_step_214 rfl (lv_at hl 2 rfl) ?_
    refine lv_lload hx hb d_M_step_215 (lv_at hl 0 rfl) ?_
    refine lv_lload hx hb d_M_step_217 (lv_at hl 1 rfl) ?_
    refine r_callV (k := 20) (i := 0) (q := ("RuleClassesModel", T_M, 30)) (fs := [.int (nI m0), .int (nI ne), .int dy, .int th, .int qs, .int (nI nk), .int hs, .int hd, .ref (A 21), .ref (A 22), .ref (A 23), .ref (A 24), .ref (A 25), .ref (A 26), .ref (A 27), .ref (A 28), .ref (A 29), .ref (A 30), .ref (A 31), .ref (A 32), .ref (A 33), .ref (A 34), .ref (A 35), .ref (A 36), .ref (A 37), .int (nI h), .int (nI (sn + 1)), .int (nI (j + 1)), .long an, .ref (A 38)]) (As := [.int (nI i), .int (nI 10), .int cn, .long 0, .long 0]) (rest := []) F hS c_M_114 (k_M_valueOf G l htr (uV V 20 0 (a1, oM A (nI m0) (nI ne) dy th qs (nI nk) hs hd (nI h) (nI (sn + 1)) (nI (j + 1)) an)) a1 A m0 ne nk dy th qs hs hd (nI h) (nI (sn + 1)) (nI (j + 1)) an mak gv i 10 cn 0 0 hi (by omega) (fun z => by obtain ⟨c9, a9, b9, _⟩ := hc1 z; exact ⟨c9, a9, b9⟩) (fun z => absurd z (by decide)) (uV_self V 20 0 (a1, oM A (nI m0) (nI ne) dy th qs (nI nk) hs hd (nI h) (nI (sn + 1)) (nI (j + 1)) an)) h25 h38) rfl (uV_self V 20 0 (a1, oM A (nI m0) (nI ne) dy th qs (nI nk) hs hd (nI h) (nI (sn + 1)) (nI (j + 1)) an)) rfl hl.1 rfl (Nat.le_of_ble_eq_true rfl) d_M_step_219 ⟨Nat.le_of_ble_eq_true rfl, Nat.le_of_ble_eq_true rfl⟩ ⟨Nat.le_of_ble_eq_true rfl, Nat.le_of_ble_eq_true rfl⟩ (fun rv V1 H locs hR hS => ?_)
    obtain ⟨rfl, hV⟩ := hR
    rw [hV] at hS
    have ev : pVal 10 cn (gv cn.toNatClampNeg) 0 0 (mak i) = (mak i).toInt64 := rfl
    obtain ⟨v, hv⟩ : ∃ v, v = pVal 10 cn (gv cn.toNatClampNeg) 0 0 (mak i) := ⟨_, rfl⟩
    rw [← hv]
    have hp0 : pStep 10 cn fa (mak i) h (nI (j + 1)) an9 f = ((pPut v (h) f).1, (pPut v (h) f).2.1, nI (j + 1), an9, (pPut v (h) f).2.2) := by
      rw [hv, ev]
      exact if_neg hs0
    refine W.eq (g2 := F0 m 222 ls [.long v]) rfl ?_
    refine lv_lstore (lv' := [(8, .long v), (6, .long 0), (4, .long 0), (3, .int cn), (2, .int (nI 10)), (0, .ref a1), (1, .int (nI i))]) hx hb d_M_step_222 hl (by decide) rfl (fun ls hl => ?_)
    refine lv_lload hx hb d_M_step_224 (lv_at hl 0 rfl) ?_
    refine lv_ldc2 (v := (-1000000000)) hx hb hown (hts _ m_809) d_M_step_226 ?_
    refine W.lcmp hx hb d_M_step_229 ?_
    refine lv_if_lt (tgt := 242) hx hb d_M_step_230 (by decide) (fun c_230 => ?_) (fun c_230 => ?_)
    · have hp : pStep 10 cn fa (mak i) h (nI (j + 1)) an9 f = (5, h, nI (j + 1), an9, f) := by
        rw [hp0, show pPut v (h) f = (5, h, f) from if_pos (Or.inl ((lg_cmp_lt _ _).mp c_230))]
      refine lv_iconst (v := 5) hx hb d_M_step_242 (by decide) ?_
      exact m_reti F hr hS (Nat.le_of_ble_eq_true rfl) (Nat.le_of_ble_eq_true rfl) (SP.bad hp (by decide) (by decide) (uM_of20 h37)) d_M_step_243
    · refine lv_lload hx hb d_M_step_233 (lv_at hl 0 rfl) ?_
      refine lv_ldc2 (v := 1000000000) hx hb hown (hts _ m_810) d_M_step_235 ?_
      refine W.lcmp hx hb d_M_step_238 ?_
      refine lv_if_le (tgt := 244) hx hb d_M_step_239 (by decide) (fun c_239 => ?_) (fun c_239 => ?_)
      · have hv9 : ¬ (v < -1000000000 ∨ 1000000000 < v) := fun z => z.elim (fun z => c_230 ((lg_cmp_lt _ _).mpr z)) (fun z => absurd ((lg_cmp_le _ _).mp c_239) (Int64.not_le.mpr z))
        refine lv_aload_n hx hb d_M_step_244 rfl (lv_at hl 5 rfl) ?_
        refine r_get (k := 20) (i := 0) F hS f_M_103.get (uV_self V 20 0 (a1, oM A (nI m0) (nI ne) dy th qs (nI nk) hs hd (nI h) (nI (sn + 1)) (nI (j + 1)) an)) rfl d_M_step_245 ?_
        refine lv_bipush (v := 8) hx hb d_M_step_248 (by decide) ?_
        refine lv_icmp_ne (tgt := 255) hx hb d_M_step_250 (by decide) (fun c_250 => ?_) (fun c_250 => ?_)
        · have h8 : h < 8 := Nat.lt_of_le_of_ne (by omega) (fun z => c_250 (congrArg nI z))
          have hp : pStep 10 cn fa (mak i) h (nI (j + 1)) an9 f = (7, h + 1, nI (j + 1), an9, upd f (h) v.toInt32) := by
            rw [hp0, show pPut v (h) f = (7, h + 1, upd f (h) v.toInt32) from (if_neg hv9).trans (if_neg (by omega))]
          refine lv_aload_n hx hb d_M_step_255 rfl (lv_at hl 5 rfl) ?_
          refine r_get (k := 20) (i := 0) F hS f_M_63.get (uV_self V 20 0 (a1, oM A (nI m0) (nI ne) dy th qs (nI nk) hs hd (nI h) (nI (sn + 1)) (nI (j + 1)) an)) rfl d_M_step_256 ?_
          refine lv_aload_n hx hb d_M_step_259 rfl (lv_at hl 5 rfl) ?_
          refine r_get (k := 20) (i := 0) F hS f_M_103.get (uV_self V 20 0 (a1, oM A (nI m0) (nI ne) dy th qs (nI nk) hs hd (nI h) (nI (sn + 1)) (nI (j + 1)) an)) rfl d_M_step_260 ?_
          refine lv_lload hx hb d_M_step_263 (lv_at hl 0 rfl) ?_
          refine r_last (k := 37) (i := 0) F hS h37 (vp_in_nI h8 (by decide)) d_M_step_265 (fun H locs hS => ?_)
          rw [nI_clamp (by omega)] at hS
          have hS : HS G s (uV (uV V 20 0 (a1, oM A (nI m0) (nI ne) dy th qs (nI nk) hs hd (nI h) (nI (sn + 1)) (nI (j + 1)) an)) 37 0 ((A 37), aL G 8 (vp_updL g h v))) H _ := hS
          refine lv_aload_n hx hb d_M_step_266 rfl (lv_at hl 5 rfl) ?_
          refine lv_dup hx hb d_M_step_267 rfl ?_
          refine r_get (k := 20) (i := 0) F hS f_M_103.get (uV_self V 20 0 (a1, oM A (nI m0) (nI ne) dy th qs (nI nk) hs hd (nI h) (nI (sn + 1)) (nI (j + 1)) an)) rfl d_M_step_268 ?_
          refine lv_iconst (v := 1) hx hb d_M_step_271 (by decide) ?_
          refine lv_iadd hx hb d_M_step_272 ?_
          rw [nI_1]
          refine r_put (k := 20) (i := 0) F hS f_M_103 ct_M (uV_self V 20 0 (a1, oM A (nI m0) (nI ne) dy th qs (nI nk) hs hd (nI h) (nI (sn + 1)) (nI (j + 1)) an)) rfl rfl (Nat.le_of_ble_eq_true rfl) d_M_step_273 (fun H locs hS => ?_)
          have hS : HS G s (uV (uV (uV V 20 0 (a1, oM A (nI m0) (nI ne) dy th qs (nI nk) hs hd (nI h) (nI (sn + 1)) (nI (j + 1)) an)) 37 0 ((A 37), aL G 8 (vp_updL g h v))) 20 0 (a1, oM A (nI m0) (nI ne) dy th qs (nI nk) hs hd (nI (h + 1)) (nI (sn + 1)) (nI (j + 1)) an)) H _ := hS
          refine lv_iconst (v := 0) hx hb d_M_step_276 (by decide) ?_
          exact m_reti F hr hS (Nat.le_of_ble_eq_true rfl) (Nat.le_of_ble_eq_true rfl) (SP.go hp (upL_ok hg (by omega) hv9) (uV3 (by decide))) d_M_step_277
        · have h8 : h = 8 := (nI_eq (by omega) (by decide)).mp (show nI (h) = nI 8 from c_250)
          have hp : pStep 10 cn fa (mak i) h (nI (j + 1)) an9 f = (3, h, nI (j + 1), an9, f) := by
            rw [hp0, show pPut v (h) f = (3, h, f) from (if_neg hv9).trans (if_pos (by omega))]
          refine lv_iconst (v := 3) hx hb d_M_step_253 (by decide) ?_
          exact m_reti F hr hS (Nat.le_of_ble_eq_true rfl) (Nat.le_of_ble_eq_true rfl) (SP.bad hp (by decide) (by decide) (uM_of20 h37)) d_M_step_254
      · have hp : pStep 10 cn fa (mak i) h (nI (j + 1)) an9 f = (5, h, nI (j + 1), an9, f) := by
          rw [hp0, show pPut v (h) f = (5, h, f) from if_pos (Or.inr (Int64.not_le.mp (fun z => c_239 ((lg_cmp_le _ _).mpr z))))]
        refine lv_iconst (v := 5) hx hb d_M_step_242 (by decide) ?_
        exact m_reti F hr hS (Nat.le_of_ble_eq_true rfl) (Nat.le_of_ble_eq_true rfl) (SP.bad hp (by decide) (by decide) (uM_of20 h37)) d_M_step_243
set_option maxHeartbeats 4000000 in
set_option maxRecDepth 100000 in
theorem k_M_step4 (G : Gl) (l : Launch) (htr : l.stackTraces = false) (V : Vw) (a1 : Nat) (A : Nat → Nat) (m0 ne nk : Nat) (dy th qs hs hd : Int32) (an : Int64) (mmn : Nat → Int32) (i h sn j ln : Nat) (hi : i < 24) (hsn : sn < m0) (hm : m0 ≤ 1000) (hj : ln ≤ j) (hj9 : j ≤ 16) (hmn : mmn i = nI ln) (h20 : V 20 0 = some (a1, oM A (nI m0) (nI ne) dy th qs (nI nk) hs hd (nI h) (nI sn) (nI j) an)) (h28 : V 28 0 = some ((A 28), aI G 24 mmn)) :
    Cm G l y_M_step b_M_step 10 (Option.some Jvm.ClassFile.FieldType.int) { frames := 0, cells := 0, slots := 0, locals := 0 } V [.ref a1, .int (nI i)] (fun rv V' => rv = some (.int 4) ∧ V' = V) := by
  refine Cm.of htr (by decide) (Nat.le_of_ble_eq_true rfl) ?_
  intro p e s m args below meth c ls F hr hnm hS hl
  obtain ⟨hx, hb, hml, hown, hts, hK, hlk, -⟩ := id F
  have hl : lv_has ls 10 [(0, .ref a1), (1, .int (nI i))] := hl
  refine lv_aload_n hx hb d_M_step_0 rfl (lv_at hl 0 rfl) ?_
  refine r_get (k := 20) (i := 0) F hS f_M_97.get h20 rfl d_M_step_1 ?_
  refine lv_aload_n hx hb d_M_step_4 rfl (lv_at hl 0 rfl) ?_
  refine r_get (k := 20) (i := 0) F hS f_M_70.get h20 rfl d_M_step_5 ?_
  refine lv_icmp_ne (tgt := 13) hx hb d_M_step_8 (by decide) (fun c_8 => ?_) (fun c_8 => absurd c_8 (fun z => absurd ((nI_eq (by omega) (by omega)).mp z) (by omega)))
  refine lv_aload_n hx hb d_M_step_13 rfl (lv_at hl 0 rfl) ?_
  refine r_get (k := 20) (i := 0) F hS f_M_100.get h20 rfl d_M_step_14 ?_
  refine lv_aload_n hx hb d_M_step_17 rfl (lv_at hl 0 rfl) ?_
  refine r_get (k := 20) (i := 0) F hS f_M_36.get h20 rfl d_M_step_18 ?_
  refine lv_iload_n hx hb d_M_step_21 rfl (lv_at hl 1 rfl) ?_
  refine r_iald (k := 28) (i := 0) F hS h28 (vp_in_nI hi (by decide)) d_M_step_22 ?_
  rw [nI_clamp (by omega), hmn]
  refine lv_icmp_lt (tgt := 28) hx hb d_M_step_23 (by decide) (fun c_23 => absurd c_23 (nI_nlt hj (by omega))) (fun c_23 => ?_)
  refine lv_iconst (v := 4) hx hb d_M_step_26 (by decide) ?_
  exact m_reti F hr hS (Nat.le_of_ble_eq_true rfl) (Nat.le_of_ble_eq_true rfl) ⟨rfl, rfl⟩ d_M_step_27
set_option maxHeartbeats 4000000 in
set_option maxRecDepth 100000 in
theorem k_M_step1 (G : Gl) (l : Launch) (htr : l.stackTraces = false) (V : Vw) (a1 : Nat) (A : Nat → Nat) (m0 ne nk : Nat) (dy th qs hs hd : Int32) (an : Int64) (nx : Int32) (i h : Nat) (h20 : V 20 0 = some (a1, oM A (nI m0) (nI ne) dy th qs (nI nk) hs hd (nI h) (nI m0) nx an)) :
    Cm G l y_M_step b_M_step 10 (Option.some Jvm.ClassFile.FieldType.int) { frames := 0, cells := 0, slots := 0, locals := 0 } V [.ref a1, .int (nI i)] (fun rv V' => rv = some (.int 1) ∧ V' = V) := by
  refine Cm.of htr (by decide) (Nat.le_of_ble_eq_true rfl) ?_
  intro p e s m args below meth c ls F hr hnm hS hl
  obtain ⟨hx, hb, hml, hown, hts, hK, hlk, -⟩ := id F
  have hl : lv_has ls 10 [(0, .ref a1), (1, .int (nI i))] := hl
  refine lv_aload_n hx hb d_M_step_0 rfl (lv_at hl 0 rfl) ?_
  refine r_get (k := 20) (i := 0) F hS f_M_97.get h20 rfl d_M_step_1 ?_
  refine lv_aload_n hx hb d_M_step_4 rfl (lv_at hl 0 rfl) ?_
  refine r_get (k := 20) (i := 0) F hS f_M_70.get h20 rfl d_M_step_5 ?_
  refine lv_icmp_ne (tgt := 13) hx hb d_M_step_8 (by decide) (fun c_8 => absurd rfl c_8) (fun c_8 => ?_)
  refine lv_iconst (v := 1) hx hb d_M_step_11 (by decide) ?_
  exact m_reti F hr hS (Nat.le_of_ble_eq_true rfl) (Nat.le_of_ble_eq_true rfl) ⟨rfl, rfl⟩ d_M_step_12

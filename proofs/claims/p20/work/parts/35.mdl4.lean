set_option maxHeartbeats 4000000 in
set_option maxRecDepth 100000 in
theorem k_M_shadow (G : Gl) (l : Launch) (htr : l.stackTraces = false) (V : Vw) (a1 : Nat) (A : Nat → Nat) (m0 ne nk : Nat) (dy th qs hs hd : Int32) (mow mki med mmd mak msk mfk mmn mpo mcs fa mkf ff fs mss mot : Nat → Int32) (hne : ne ≤ 24) (hW : MW G V a1 A (nI m0) (nI ne) dy th qs (nI nk) hs hd mow mki med mmd mak msk mfk mmn mpo mcs fa mkf ff fs mss mot) (o k n : Int32)  :
    Cm G l y_M_shadow b_M_shadow 4 none { frames := 2, cells := 0, slots := 0, locals := 43 } V [.ref a1, .int o, .int k, .int n] (fun rv V' => rv = none ∧ ((¬ n = -1 ∧ ¬ (∃ i : Nat, i < ne ∧ n = nI i) ∧ MW G V' a1 A (nI m0) (nI ne) dy 1 qs (nI nk) hs hd mow mki med mmd mak msk mfk mmn mpo mcs fa mkf ff fs mss mot ∧ INN V V') ∨ ((n = -1 ∨ (∃ i : Nat, i < ne ∧ n = nI i)) ∧ ¬ (∃ on kn : Nat, on ≤ 5 ∧ kn ≤ 2 ∧ o = nI on ∧ k = nI kn) ∧ MW G V' a1 A (nI m0) (nI ne) dy 2 qs (nI nk) hs hd mow mki med mmd mak msk mfk mmn mpo mcs fa mkf ff fs mss mot ∧ INN V V') ∨ ((n = -1 ∨ (∃ i : Nat, i < ne ∧ n = nI i)) ∧ ∃ on kn : Nat, on ≤ 5 ∧ kn ≤ 2 ∧ o = nI on ∧ k = nI kn ∧ MW G V' a1 A (nI m0) (nI ne) dy 0 qs (nI nk) hs hd mow mki med mmd mak msk mfk mmn mpo mcs fa mkf ff fs (upd mss (3 * on + kn) n) (upd mot (3 * on + kn) 0) ∧ INN V V'))) := by
  refine Cm.of htr (by decide) (Nat.le_of_ble_eq_true rfl) ?_
  intro p e s m args below meth c ls F hr hnm hS hl
  obtain ⟨hx, hb, hml, hown, hts, hK, hlk, -⟩ := id F
  have hl : lv_has ls 4 [(0, .ref a1), (1, .int o), (2, .int k), (3, .int n)] := hl
  obtain ⟨pu, st, nx, an, g, gv, h20, h21, h22, h23, h24, h25, h26, h27, h28, h29, h30, h31, h32, h33, h34, h35, h36, h37, h38⟩ := hW
  refine lv_aload_n hx hb d_M_shadow_0 rfl (lv_at hl 0 rfl) ?_
  refine lv_iload_n hx hb d_M_shadow_1 rfl (lv_at hl 3 rfl) ?_
  refine lv_iconst (v := (-1)) hx hb d_M_shadow_2 (by decide) ?_
  refine lv_icmp_eq (tgt := 18) hx hb d_M_shadow_3 (by decide) (fun c_3 => ?_) (fun c_3 => ?_)
  · refine lv_iload_n hx hb d_M_shadow_18 rfl (lv_at hl 1 rfl) ?_
    refine lv_iload_n hx hb d_M_shadow_19 rfl (lv_at hl 2 rfl) ?_
    refine r_callS (As := [.int o, .int k]) (rest := [.ref a1]) F hS c_M_86 (k_M_isPlace G l htr V o k) rfl hl.1 rfl (Nat.le_of_ble_eq_true rfl) d_M_shadow_20 ⟨Nat.le_of_ble_eq_true rfl, Nat.le_of_ble_eq_true rfl⟩ ⟨Nat.le_of_ble_eq_true rfl, Nat.le_of_ble_eq_true rfl⟩ (fun rv V1 H locs hR hS => ?_)
    obtain ⟨hV, bz_20, rfl, hz_20⟩ := hR
    rw [hV] at hS
    refine W.eq (g2 := F0 m 23 ls [.int bz_20, .ref a1]) rfl ?_
    refine lv_if_ne (tgt := 30) hx hb d_M_shadow_23 (by decide) (fun c_23 => ?_) (fun c_23 => ?_)
    · refine lv_iconst (v := 0) hx hb d_M_shadow_30 (by decide) ?_
      refine r_put (k := 20) (i := 0) F hS f_M_73 ct_M h20 rfl rfl (Nat.le_of_ble_eq_true rfl) d_M_shadow_31 (fun H locs hS => ?_)
      have hS : HS G s (uV V 20 0 (a1, oM A (nI m0) (nI ne) dy 0 qs (nI nk) hs hd pu st nx an)) H _ := hS
      refine lv_aload_n hx hb d_M_shadow_34 rfl (lv_at hl 0 rfl) ?_
      refine r_get (k := 20) (i := 0) F hS f_M_73.get (uV_self V 20 0 (a1, oM A (nI m0) (nI ne) dy 0 qs (nI nk) hs hd pu st nx an)) rfl d_M_shadow_35 ?_
      refine lv_if_eq (tgt := 42) hx hb d_M_shadow_38 (by decide) (fun _ => ?_) (fun z => absurd z (by decide))
      obtain ⟨on, kn, hon, hkn, rfl, rfl⟩ := hz_20.t c_23
      refine lv_aload_n hx hb d_M_shadow_42 rfl (lv_at hl 0 rfl) ?_
      refine r_get (k := 20) (i := 0) F hS f_M_57.get (uV_self V 20 0 (a1, oM A (nI m0) (nI ne) dy 0 qs (nI nk) hs hd pu st nx an)) rfl d_M_shadow_43 ?_
      refine lv_iconst (v := 3) hx hb d_M_shadow_46 (by decide) ?_
      refine lv_iload_n hx hb d_M_shadow_47 rfl (lv_at hl 1 rfl) ?_
      refine lv_imul hx hb d_M_shadow_48 ?_
      refine lv_iload_n hx hb d_M_shadow_49 rfl (lv_at hl 2 rfl) ?_
      refine lv_iadd hx hb d_M_shadow_50 ?_
      refine lv_iload_n hx hb d_M_shadow_51 rfl (lv_at hl 3 rfl) ?_
      rw [show (3 : Int32) * nI on + nI kn = nI (3 * on + kn) from nI_ma 3 on kn]
      refine r_iast (k := 35) (i := 0) F hS h35 (vp_in_nI (by omega) (by decide)) d_M_shadow_52 (fun H locs hS => ?_)
      rw [nI_clamp (by omega)] at hS
      have hS : HS G s (uV (uV V 20 0 (a1, oM A (nI m0) (nI ne) dy 0 qs (nI nk) hs hd pu st nx an)) 35 0 ((A 35), aI G 18 (upd mss (3 * on + kn) n))) H _ := hS
      refine lv_aload_n hx hb d_M_shadow_53 rfl (lv_at hl 0 rfl) ?_
      refine r_get (k := 20) (i := 0) F hS f_M_60.get (uV_self V 20 0 (a1, oM A (nI m0) (nI ne) dy 0 qs (nI nk) hs hd pu st nx an)) rfl d_M_shadow_54 ?_
      refine lv_iconst (v := 3) hx hb d_M_shadow_57 (by decide) ?_
      refine lv_iload_n hx hb d_M_shadow_58 rfl (lv_at hl 1 rfl) ?_
      refine lv_imul hx hb d_M_shadow_59 ?_
      refine lv_iload_n hx hb d_M_shadow_60 rfl (lv_at hl 2 rfl) ?_
      refine lv_iadd hx hb d_M_shadow_61 ?_
      refine lv_iconst (v := 0) hx hb d_M_shadow_62 (by decide) ?_
      rw [show (3 : Int32) * nI on + nI kn = nI (3 * on + kn) from nI_ma 3 on kn]
      refine r_iast (k := 36) (i := 0) F hS h36 (vp_in_nI (by omega) (by decide)) d_M_shadow_63 (fun H locs hS => ?_)
      rw [nI_clamp (by omega)] at hS
      have hS : HS G s (uV (uV (uV V 20 0 (a1, oM A (nI m0) (nI ne) dy 0 qs (nI nk) hs hd pu st nx an)) 35 0 ((A 35), aI G 18 (upd mss (3 * on + kn) n))) 36 0 ((A 36), aI G 18 (upd mot (3 * on + kn) 0))) H _ := hS
      exact m_retv F hr hS (Nat.le_of_ble_eq_true rfl) (Nat.le_of_ble_eq_true rfl) ⟨rfl, Or.inr (Or.inr ⟨Or.inl c_3, on, kn, hon, hkn, rfl, rfl, ⟨pu, st, nx, an, g, gv, rfl, h21, h22, h23, h24, h25, h26, h27, h28, h29, h30, h31, h32, h33, h34, rfl, rfl, h37, h38⟩, (by repeat' first | exact INN.rf | refine INN.u ?_ (by decide) (by decide))⟩)⟩ d_M_shadow_64
    · refine lv_iconst (v := 2) hx hb d_M_shadow_26 (by decide) ?_
      refine lv_goto (tgt := 31) hx hb d_M_shadow_27 (by decide) ?_
      refine r_put (k := 20) (i := 0) F hS f_M_73 ct_M h20 rfl rfl (Nat.le_of_ble_eq_true rfl) d_M_shadow_31 (fun H locs hS => ?_)
      have hS : HS G s (uV V 20 0 (a1, oM A (nI m0) (nI ne) dy 2 qs (nI nk) hs hd pu st nx an)) H _ := hS
      refine lv_aload_n hx hb d_M_shadow_34 rfl (lv_at hl 0 rfl) ?_
      refine r_get (k := 20) (i := 0) F hS f_M_73.get (uV_self V 20 0 (a1, oM A (nI m0) (nI ne) dy 2 qs (nI nk) hs hd pu st nx an)) rfl d_M_shadow_35 ?_
      refine lv_if_eq (tgt := 42) hx hb d_M_shadow_38 (by decide) (fun z => absurd z (by decide)) (fun _ => ?_)
      exact m_retv F hr hS (Nat.le_of_ble_eq_true rfl) (Nat.le_of_ble_eq_true rfl) ⟨rfl, Or.inr (Or.inl ⟨Or.inl c_3, hz_20.f c_23, ⟨pu, st, nx, an, g, gv, rfl, h21, h22, h23, h24, h25, h26, h27, h28, h29, h30, h31, h32, h33, h34, h35, h36, h37, h38⟩, (by repeat' first | exact INN.rf | refine INN.u ?_ (by decide) (by decide))⟩)⟩ d_M_shadow_41
  · refine lv_aload_n hx hb d_M_shadow_6 rfl (lv_at hl 0 rfl) ?_
    refine lv_iload_n hx hb d_M_shadow_7 rfl (lv_at hl 3 rfl) ?_
    refine r_callV (k := 20) (i := 0) (q := ("RuleClassesModel", T_M, 30)) (fs := [.int (nI m0), .int (nI ne), .int dy, .int th, .int qs, .int (nI nk), .int hs, .int hd, .ref (A 21), .ref (A 22), .ref (A 23), .ref (A 24), .ref (A 25), .ref (A 26), .ref (A 27), .ref (A 28), .ref (A 29), .ref (A 30), .ref (A 31), .ref (A 32), .ref (A 33), .ref (A 34), .ref (A 35), .ref (A 36), .ref (A 37), .int pu, .int st, .int nx, .long an, .ref (A 38)]) (As := [.int n]) (rest := [.ref a1]) F hS c_M_90 (k_M_isEdition G l htr V a1 A m0 ne nk dy th qs hs hd pu st nx an hne n h20) rfl h20 rfl hl.1 rfl (Nat.le_of_ble_eq_true rfl) d_M_shadow_8 ⟨Nat.le_of_ble_eq_true rfl, Nat.le_of_ble_eq_true rfl⟩ ⟨Nat.le_of_ble_eq_true rfl, Nat.le_of_ble_eq_true rfl⟩ (fun rv V1 H locs hR hS => ?_)
    obtain ⟨hV, bz_8, rfl, hz_8⟩ := hR
    rw [hV] at hS
    refine W.eq (g2 := F0 m 11 ls [.int bz_8, .ref a1]) rfl ?_
    refine lv_if_ne (tgt := 18) hx hb d_M_shadow_11 (by decide) (fun c_11 => ?_) (fun c_11 => ?_)
    · refine lv_iload_n hx hb d_M_shadow_18 rfl (lv_at hl 1 rfl) ?_
      refine lv_iload_n hx hb d_M_shadow_19 rfl (lv_at hl 2 rfl) ?_
      refine r_callS (As := [.int o, .int k]) (rest := [.ref a1]) F hS c_M_86 (k_M_isPlace G l htr V o k) rfl hl.1 rfl (Nat.le_of_ble_eq_true rfl) d_M_shadow_20 ⟨Nat.le_of_ble_eq_true rfl, Nat.le_of_ble_eq_true rfl⟩ ⟨Nat.le_of_ble_eq_true rfl, Nat.le_of_ble_eq_true rfl⟩ (fun rv V1 H locs hR hS => ?_)
      obtain ⟨hV, bz_20, rfl, hz_20⟩ := hR
      rw [hV] at hS
      refine W.eq (g2 := F0 m 23 ls [.int bz_20, .ref a1]) rfl ?_
      refine lv_if_ne (tgt := 30) hx hb d_M_shadow_23 (by decide) (fun c_23 => ?_) (fun c_23 => ?_)
      · refine lv_iconst (v := 0) hx hb d_M_shadow_30 (by decide) ?_
        refine r_put (k := 20) (i := 0) F hS f_M_73 ct_M h20 rfl rfl (Nat.le_of_ble_eq_true rfl) d_M_shadow_31 (fun H locs hS => ?_)
        have hS : HS G s (uV V 20 0 (a1, oM A (nI m0) (nI ne) dy 0 qs (nI nk) hs hd pu st nx an)) H _ := hS
        refine lv_aload_n hx hb d_M_shadow_34 rfl (lv_at hl 0 rfl) ?_
        refine r_get (k := 20) (i := 0) F hS f_M_73.get (uV_self V 20 0 (a1, oM A (nI m0) (nI ne) dy 0 qs (nI nk) hs hd pu st nx an)) rfl d_M_shadow_35 ?_
        refine lv_if_eq (tgt := 42) hx hb d_M_shadow_38 (by decide) (fun _ => ?_) (fun z => absurd z (by decide))
        obtain ⟨on, kn, hon, hkn, rfl, rfl⟩ := hz_20.t c_23
        refine lv_aload_n hx hb d_M_shadow_42 rfl (lv_at hl 0 rfl) ?_
        refine r_get (k := 20) (i := 0) F hS f_M_57.get (uV_self V 20 0 (a1, oM A (nI m0) (nI ne) dy 0 qs (nI nk) hs hd pu st nx an)) rfl d_M_shadow_43 ?_
        refine lv_iconst (v := 3) hx hb d_M_shadow_46 (by decide) ?_
        refine lv_iload_n hx hb d_M_shadow_47 rfl (lv_at hl 1 rfl) ?_
        refine lv_imul hx hb d_M_shadow_48 ?_
        refine lv_iload_n hx hb d_M_shadow_49 rfl (lv_at hl 2 rfl) ?_
        refine lv_iadd hx hb d_M_shadow_50 ?_
        refine lv_iload_n hx hb d_M_shadow_51 rfl (lv_at hl 3 rfl) ?_
        rw [show (3 : Int32) * nI on + nI kn = nI (3 * on + kn) from nI_ma 3 on kn]
        refine r_iast (k := 35) (i := 0) F hS h35 (vp_in_nI (by omega) (by decide)) d_M_shadow_52 (fun H locs hS => ?_)
        rw [nI_clamp (by omega)] at hS
        have hS : HS G s (uV (uV V 20 0 (a1, oM A (nI m0) (nI ne) dy 0 qs (nI nk) hs hd pu st nx an)) 35 0 ((A 35), aI G 18 (upd mss (3 * on + kn) n))) H _ := hS
        refine lv_aload_n hx hb d_M_shadow_53 rfl (lv_at hl 0 rfl) ?_
        refine r_get (k := 20) (i := 0) F hS f_M_60.get (uV_self V 20 0 (a1, oM A (nI m0) (nI ne) dy 0 qs (nI nk) hs hd pu st nx an)) rfl d_M_shadow_54 ?_
        refine lv_iconst (v := 3) hx hb d_M_shadow_57 (by decide) ?_
        refine lv_iload_n hx hb d_M_shadow_58 rfl (lv_at hl 1 rfl) ?_
        refine lv_imul hx hb d_M_shadow_59 ?_
        refine lv_iload_n hx hb d_M_shadow_60 rfl (lv_at hl 2 rfl) ?_
        refine lv_iadd hx hb d_M_shadow_61 ?_
        refine lv_iconst (v := 0) hx hb d_M_shadow_62 (by decide) ?_
        rw [show (3 : Int32) * nI on + nI kn = nI (3 * on + kn) from nI_ma 3 on kn]
        refine r_iast (k := 36) (i := 0) F hS h36 (vp_in_nI (by omega) (by decide)) d_M_shadow_63 (fun H locs hS => ?_)
        rw [nI_clamp (by omega)] at hS
        have hS : HS G s (uV (uV (uV V 20 0 (a1, oM A (nI m0) (nI ne) dy 0 qs (nI nk) hs hd pu st nx an)) 35 0 ((A 35), aI G 18 (upd mss (3 * on + kn) n))) 36 0 ((A 36), aI G 18 (upd mot (3 * on + kn) 0))) H _ := hS
        exact m_retv F hr hS (Nat.le_of_ble_eq_true rfl) (Nat.le_of_ble_eq_true rfl) ⟨rfl, Or.inr (Or.inr ⟨Or.inr (hz_8.t c_11), on, kn, hon, hkn, rfl, rfl, ⟨pu, st, nx, an, g, gv, rfl, h21, h22, h23, h24, h25, h26, h27, h28, h29, h30, h31, h32, h33, h34, rfl, rfl, h37, h38⟩, (by repeat' first | exact INN.rf | refine INN.u ?_ (by decide) (by decide))⟩)⟩ d_M_shadow_64
      · refine lv_iconst (v := 2) hx hb d_M_shadow_26 (by decide) ?_
        refine lv_goto (tgt := 31) hx hb d_M_shadow_27 (by decide) ?_
        refine r_put (k := 20) (i := 0) F hS f_M_73 ct_M h20 rfl rfl (Nat.le_of_ble_eq_true rfl) d_M_shadow_31 (fun H locs hS => ?_)
        have hS : HS G s (uV V 20 0 (a1, oM A (nI m0) (nI ne) dy 2 qs (nI nk) hs hd pu st nx an)) H _ := hS
        refine lv_aload_n hx hb d_M_shadow_34 rfl (lv_at hl 0 rfl) ?_
        refine r_get (k := 20) (i := 0) F hS f_M_73.get (uV_self V 20 0 (a1, oM A (nI m0) (nI ne) dy 2 qs (nI nk) hs hd pu st nx an)) rfl d_M_shadow_35 ?_
        refine lv_if_eq (tgt := 42) hx hb d_M_shadow_38 (by decide) (fun z => absurd z (by decide)) (fun _ => ?_)
        exact m_retv F hr hS (Nat.le_of_ble_eq_true rfl) (Nat.le_of_ble_eq_true rfl) ⟨rfl, Or.inr (Or.inl ⟨Or.inr (hz_8.t c_11), hz_20.f c_23, ⟨pu, st, nx, an, g, gv, rfl, h21, h22, h23, h24, h25, h26, h27, h28, h29, h30, h31, h32, h33, h34, h35, h36, h37, h38⟩, (by repeat' first | exact INN.rf | refine INN.u ?_ (by decide) (by decide))⟩)⟩ d_M_shadow_41
    · refine lv_iconst (v := 1) hx hb d_M_shadow_14 (by decide) ?_
      refine lv_goto (tgt := 31) hx hb d_M_shadow_15 (by decide) ?_
      refine r_put (k := 20) (i := 0) F hS f_M_73 ct_M h20 rfl rfl (Nat.le_of_ble_eq_true rfl) d_M_shadow_31 (fun H locs hS => ?_)
      have hS : HS G s (uV V 20 0 (a1, oM A (nI m0) (nI ne) dy 1 qs (nI nk) hs hd pu st nx an)) H _ := hS
      refine lv_aload_n hx hb d_M_shadow_34 rfl (lv_at hl 0 rfl) ?_
      refine r_get (k := 20) (i := 0) F hS f_M_73.get (uV_self V 20 0 (a1, oM A (nI m0) (nI ne) dy 1 qs (nI nk) hs hd pu st nx an)) rfl d_M_shadow_35 ?_
      refine lv_if_eq (tgt := 42) hx hb d_M_shadow_38 (by decide) (fun z => absurd z (by decide)) (fun _ => ?_)
      exact m_retv F hr hS (Nat.le_of_ble_eq_true rfl) (Nat.le_of_ble_eq_true rfl) ⟨rfl, Or.inl ⟨c_3, hz_8.f c_11, ⟨pu, st, nx, an, g, gv, rfl, h21, h22, h23, h24, h25, h26, h27, h28, h29, h30, h31, h32, h33, h34, h35, h36, h37, h38⟩, (by repeat' first | exact INN.rf | refine INN.u ?_ (by decide) (by decide))⟩⟩ d_M_shadow_41
set_option maxHeartbeats 4000000 in
set_option maxRecDepth 100000 in
theorem k_M_divide (G : Gl) (l : Launch) (htr : l.stackTraces = false) (V : Vw) (a1 : Nat) (A : Nat → Nat) (m0 ne nk : Nat) (dy th qs hs hd : Int32) (mow mki med mmd mak msk mfk mmn mpo mcs fa mkf ff fs mss mot : Nat → Int32) (hne : ne ≤ 24) (hW : MW G V a1 A (nI m0) (nI ne) dy th qs (nI nk) hs hd mow mki med mmd mak msk mfk mmn mpo mcs fa mkf ff fs mss mot) (x y : Int32)  :
    Cm G l y_M_divide b_M_divide 3 (Option.some Jvm.ClassFile.FieldType.int) { frames := 0, cells := 0, slots := 0, locals := 0 } V [.ref a1, .int x, .int y] (fun rv V' => (y = 0 ∧ rv = some (.int 0) ∧ MW G V' a1 A (nI m0) (nI ne) dy 1 qs (nI nk) hs hd mow mki med mmd mak msk mfk mmn mpo mcs fa mkf ff fs mss mot ∧ INN V V') ∨ (¬ y = 0 ∧ rv = some (.int (x / y)) ∧ MW G V' a1 A (nI m0) (nI ne) dy 0 qs (nI nk) hs hd mow mki med mmd mak msk mfk mmn mpo mcs fa mkf ff fs mss mot ∧ INN V V')) := by
  refine Cm.of htr (by decide) (Nat.le_of_ble_eq_true rfl) ?_
  intro p e s m args below meth c ls F hr hnm hS hl
  obtain ⟨hx, hb, hml, hown, hts, hK, hlk, -⟩ := id F
  have hl : lv_has ls 3 [(0, .ref a1), (1, .int x), (2, .int y)] := hl
  obtain ⟨pu, st, nx, an, g, gv, h20, h21, h22, h23, h24, h25, h26, h27, h28, h29, h30, h31, h32, h33, h34, h35, h36, h37, h38⟩ := hW
  refine lv_aload_n hx hb d_M_divide_0 rfl (lv_at hl 0 rfl) ?_
  refine lv_iload_n hx hb d_M_divide_1 rfl (lv_at hl 2 rfl) ?_
  refine lv_if_ne (tgt := 9) hx hb d_M_divide_2 (by decide) (fun c_2 => ?_) (fun c_2 => ?_)
  · refine lv_iconst (v := 0) hx hb d_M_divide_9 (by decide) ?_
    refine r_put (k := 20) (i := 0) F hS f_M_73 ct_M h20 rfl rfl (Nat.le_of_ble_eq_true rfl) d_M_divide_10 (fun H locs hS => ?_)
    have hS : HS G s (uV V 20 0 (a1, oM A (nI m0) (nI ne) dy 0 qs (nI nk) hs hd pu st nx an)) H _ := hS
    refine lv_aload_n hx hb d_M_divide_13 rfl (lv_at hl 0 rfl) ?_
    refine r_get (k := 20) (i := 0) F hS f_M_73.get (uV_self V 20 0 (a1, oM A (nI m0) (nI ne) dy 0 qs (nI nk) hs hd pu st nx an)) rfl d_M_divide_14 ?_
    refine lv_if_eq (tgt := 24) hx hb d_M_divide_17 (by decide) (fun _ => ?_) (fun z => absurd z (by decide))
    refine lv_iload_n hx hb d_M_divide_24 rfl (lv_at hl 1 rfl) ?_
    refine lv_iload_n hx hb d_M_divide_25 rfl (lv_at hl 2 rfl) ?_
    refine lv_idiv hx hb d_M_divide_26 c_2 ?_
    exact m_reti F hr hS (Nat.le_of_ble_eq_true rfl) (Nat.le_of_ble_eq_true rfl) (Or.inr ⟨c_2, rfl, ⟨pu, st, nx, an, g, gv, rfl, h21, h22, h23, h24, h25, h26, h27, h28, h29, h30, h31, h32, h33, h34, h35, h36, h37, h38⟩, (by repeat' first | exact INN.rf | refine INN.u ?_ (by decide) (by decide))⟩) d_M_divide_27
  · refine lv_iconst (v := 1) hx hb d_M_divide_5 (by decide) ?_
    refine lv_goto (tgt := 10) hx hb d_M_divide_6 (by decide) ?_
    refine r_put (k := 20) (i := 0) F hS f_M_73 ct_M h20 rfl rfl (Nat.le_of_ble_eq_true rfl) d_M_divide_10 (fun H locs hS => ?_)
    have hS : HS G s (uV V 20 0 (a1, oM A (nI m0) (nI ne) dy 1 qs (nI nk) hs hd pu st nx an)) H _ := hS
    refine lv_aload_n hx hb d_M_divide_13 rfl (lv_at hl 0 rfl) ?_
    refine r_get (k := 20) (i := 0) F hS f_M_73.get (uV_self V 20 0 (a1, oM A (nI m0) (nI ne) dy 1 qs (nI nk) hs hd pu st nx an)) rfl d_M_divide_14 ?_
    refine lv_if_eq (tgt := 24) hx hb d_M_divide_17 (by decide) (fun z => absurd z (by decide)) (fun _ => ?_)
    refine lv_iconst (v := 0) hx hb d_M_divide_20 (by decide) ?_
    refine lv_goto (tgt := 27) hx hb d_M_divide_21 (by decide) ?_
    exact m_reti F hr hS (Nat.le_of_ble_eq_true rfl) (Nat.le_of_ble_eq_true rfl) (Or.inl ⟨c_2, rfl, ⟨pu, st, nx, an, g, gv, rfl, h21, h22, h23, h24, h25, h26, h27, h28, h29, h30, h31, h32, h33, h34, h35, h36, h37, h38⟩, (by repeat' first | exact INN.rf | refine INN.u ?_ (by decide) (by decide))⟩) d_M_divide_27
set_option maxHeartbeats 4000000 in
set_option maxRecDepth 100000 in
theorem k_M_told (G : Gl) (l : Launch) (htr : l.stackTraces = false) (V : Vw) (a1 : Nat) (A : Nat → Nat) (m0 ne nk : Nat) (dy th qs hs hd : Int32) (mow mki med mmd mak msk mfk mmn mpo mcs fa mkf ff fs mss mot : Nat → Int32) (hne : ne ≤ 24) (hW : MW G V a1 A (nI m0) (nI ne) dy th qs (nI nk) hs hd mow mki med mmd mak msk mfk mmn mpo mcs fa mkf ff fs mss mot) (n t : Int32) (ln : Nat → Nat) (po cs : Nat → Nat → Int32) (hCD : CD ne mmn mpo mcs ln po cs)  :
    Cm G l y_M_told b_M_told 3 (Option.some Jvm.ClassFile.FieldType.int) { frames := 2, cells := 0, slots := 0, locals := 43 } V [.ref a1, .int n, .int t] (fun rv V' => (¬ (∃ i : Nat, i < ne ∧ n = nI i) ∧ rv = some (.int 0) ∧ MW G V' a1 A (nI m0) (nI ne) dy 1 qs (nI nk) hs hd mow mki med mmd mak msk mfk mmn mpo mcs fa mkf ff fs mss mot ∧ INN V V') ∨ ∃ i : Nat, i < ne ∧ n = nI i ∧ ((¬ (0 ≤ t ∧ t ≤ 7) ∧ rv = some (.int 0) ∧ MW G V' a1 A (nI m0) (nI ne) dy 2 qs (nI nk) hs hd mow mki med mmd mak msk mfk mmn mpo mcs fa mkf ff fs mss mot ∧ INN V V') ∨ ∃ tn : Nat, tn ≤ 7 ∧ t = nI tn ∧ rv = some (.int (pTell tn (mow i) (mki i) (med i) (nI (ln i)) (mmd i) (mak i) (msk i) (mfk i))) ∧ MW G V' a1 A (nI m0) (nI ne) dy 0 qs (nI nk) hs hd mow mki med mmd mak msk mfk mmn mpo mcs fa mkf ff fs mss mot ∧ INN V V')) := by
  refine Cm.of htr (by decide) (Nat.le_of_ble_eq_true rfl) ?_
  intro p e s m args below meth c ls F hr hnm hS hl
  obtain ⟨hx, hb, hml, hown, hts, hK, hlk, -⟩ := id F
  have hl : lv_has ls 3 [(0, .ref a1), (1, .int n), (2, .int t)] := hl
  obtain ⟨pu, st, nx, an, g, gv, h20, h21, h22, h23, h24, h25, h26, h27, h28, h29, h30, h31, h32, h33, h34, h35, h36, h37, h38⟩ := hW
  refine lv_aload_n hx hb d_M_told_0 rfl (lv_at hl 0 rfl) ?_
  refine lv_aload_n hx hb d_M_told_1 rfl (lv_at hl 0 rfl) ?_
  refine lv_iload_n hx hb d_M_told_2 rfl (lv_at hl 1 rfl) ?_
  refine r_callV (k := 20) (i := 0) (q := ("RuleClassesModel", T_M, 30)) (fs := [.int (nI m0), .int (nI ne), .int dy, .int th, .int qs, .int (nI nk), .int hs, .int hd, .ref (A 21), .ref (A 22), .ref (A 23), .ref (A 24), .ref (A 25), .ref (A 26), .ref (A 27), .ref (A 28), .ref (A 29), .ref (A 30), .ref (A 31), .ref (A 32), .ref (A 33), .ref (A 34), .ref (A 35), .ref (A 36), .ref (A 37), .int pu, .int st, .int nx, .long an, .ref (A 38)]) (As := [.int n]) (rest := [.ref a1]) F hS c_M_90 (k_M_isEdition G l htr V a1 A m0 ne nk dy th qs hs hd pu st nx an hne n h20) rfl h20 rfl hl.1 rfl (Nat.le_of_ble_eq_true rfl) d_M_told_3 ⟨Nat.le_of_ble_eq_true rfl, Nat.le_of_ble_eq_true rfl⟩ ⟨Nat.le_of_ble_eq_true rfl, Nat.le_of_ble_eq_true rfl⟩ (fun rv V1 H locs hR hS => ?_)
  obtain ⟨hV, bz_3, rfl, hz_3⟩ := hR
  rw [hV] at hS
  refine W.eq (g2 := F0 m 6 ls [.int bz_3, .ref a1]) rfl ?_
  refine lv_if_ne (tgt := 13) hx hb d_M_told_6 (by decide) (fun c_6 => ?_) (fun c_6 => ?_)
  · obtain ⟨i, hi, rfl⟩ := hz_3.t c_6
    refine lv_iload_n hx hb d_M_told_13 rfl (lv_at hl 2 rfl) ?_
    refine lv_iconst (v := 0) hx hb d_M_told_14 (by decide) ?_
    refine lv_bipush (v := 7) hx hb d_M_told_15 (by decide) ?_
    refine r_callS (As := [.int t, .int 0, .int 7]) (rest := [.ref a1]) F hS c_M_79 (k_M_within G l htr V t 0 7) rfl hl.1 rfl (Nat.le_of_ble_eq_true rfl) d_M_told_17 ⟨Nat.le_of_ble_eq_true rfl, Nat.le_of_ble_eq_true rfl⟩ ⟨Nat.le_of_ble_eq_true rfl, Nat.le_of_ble_eq_true rfl⟩ (fun rv V1 H locs hR hS => ?_)
    obtain ⟨hV, bz_17, rfl, hz_17⟩ := hR
    rw [hV] at hS
    refine W.eq (g2 := F0 m 20 ls [.int bz_17, .ref a1]) rfl ?_
    refine lv_if_ne (tgt := 27) hx hb d_M_told_20 (by decide) (fun c_20 => ?_) (fun c_20 => ?_)
    · refine lv_iconst (v := 0) hx hb d_M_told_27 (by decide) ?_
      refine r_put (k := 20) (i := 0) F hS f_M_73 ct_M h20 rfl rfl (Nat.le_of_ble_eq_true rfl) d_M_told_28 (fun H locs hS => ?_)
      have hS : HS G s (uV V 20 0 (a1, oM A (nI m0) (nI ne) dy 0 qs (nI nk) hs hd pu st nx an)) H _ := hS
      refine lv_aload_n hx hb d_M_told_31 rfl (lv_at hl 0 rfl) ?_
      refine r_get (k := 20) (i := 0) F hS f_M_73.get (uV_self V 20 0 (a1, oM A (nI m0) (nI ne) dy 0 qs (nI nk) hs hd pu st nx an)) rfl d_M_told_32 ?_
      refine lv_if_eq (tgt := 40) hx hb d_M_told_35 (by decide) (fun _ => ?_) (fun z => absurd z (by decide))
      obtain ⟨tn, htn, rfl⟩ := (in_iff (n := 7) (by decide)).mp (hz_17.t c_20)
      refine lv_iload_n hx hb d_M_told_40 rfl (lv_at hl 2 rfl) ?_
      rcases (show tn = 0 ∨ tn = 1 ∨ tn = 2 ∨ tn = 3 ∨ tn = 4 ∨ tn = 5 ∨ tn = 6 ∨ tn = 7 by omega) with rfl | rfl | rfl | rfl | rfl | rfl | rfl | rfl
      · refine lv_tableIn (tgt := 84) (off := 43) hx hb d_M_told_41 (by decide) (by decide) (by decide) (by decide) ?_
        refine lv_aload_n hx hb d_M_told_84 rfl (lv_at hl 0 rfl) ?_
        refine r_get (k := 20) (i := 0) F hS f_M_13.get (uV_self V 20 0 (a1, oM A (nI m0) (nI ne) dy 0 qs (nI nk) hs hd pu st nx an)) rfl d_M_told_85 ?_
        refine lv_iload_n hx hb d_M_told_88 rfl (lv_at hl 1 rfl) ?_
        refine r_iald (k := 21) (i := 0) F hS h21 (vp_in_nI (by omega) (by decide)) d_M_told_89 ?_
        rw [nI_clamp (by omega)]
        exact m_reti F hr hS (Nat.le_of_ble_eq_true rfl) (Nat.le_of_ble_eq_true rfl) (Or.inr ⟨i, hi, rfl, Or.inr ⟨0, by decide, rfl, rfl, ⟨pu, st, nx, an, g, gv, rfl, h21, h22, h23, h24, h25, h26, h27, h28, h29, h30, h31, h32, h33, h34, h35, h36, h37, h38⟩, (by repeat' first | exact INN.rf | refine INN.u ?_ (by decide) (by decide))⟩⟩) d_M_told_90
      · refine lv_tableIn (tgt := 91) (off := 50) hx hb d_M_told_41 (by decide) (by decide) (by decide) (by decide) ?_
        refine lv_aload_n hx hb d_M_told_91 rfl (lv_at hl 0 rfl) ?_
        refine r_get (k := 20) (i := 0) F hS f_M_17.get (uV_self V 20 0 (a1, oM A (nI m0) (nI ne) dy 0 qs (nI nk) hs hd pu st nx an)) rfl d_M_told_92 ?_
        refine lv_iload_n hx hb d_M_told_95 rfl (lv_at hl 1 rfl) ?_
        refine r_iald (k := 22) (i := 0) F hS h22 (vp_in_nI (by omega) (by decide)) d_M_told_96 ?_
        rw [nI_clamp (by omega)]
        exact m_reti F hr hS (Nat.le_of_ble_eq_true rfl) (Nat.le_of_ble_eq_true rfl) (Or.inr ⟨i, hi, rfl, Or.inr ⟨1, by decide, rfl, rfl, ⟨pu, st, nx, an, g, gv, rfl, h21, h22, h23, h24, h25, h26, h27, h28, h29, h30, h31, h32, h33, h34, h35, h36, h37, h38⟩, (by repeat' first | exact INN.rf | refine INN.u ?_ (by decide) (by decide))⟩⟩) d_M_told_97
      · refine lv_tableIn (tgt := 98) (off := 57) hx hb d_M_told_41 (by decide) (by decide) (by decide) (by decide) ?_
        refine lv_aload_n hx hb d_M_told_98 rfl (lv_at hl 0 rfl) ?_
        refine r_get (k := 20) (i := 0) F hS f_M_20.get (uV_self V 20 0 (a1, oM A (nI m0) (nI ne) dy 0 qs (nI nk) hs hd pu st nx an)) rfl d_M_told_99 ?_
        refine lv_iload_n hx hb d_M_told_102 rfl (lv_at hl 1 rfl) ?_
        refine r_iald (k := 23) (i := 0) F hS h23 (vp_in_nI (by omega) (by decide)) d_M_told_103 ?_
        rw [nI_clamp (by omega)]
        exact m_reti F hr hS (Nat.le_of_ble_eq_true rfl) (Nat.le_of_ble_eq_true rfl) (Or.inr ⟨i, hi, rfl, Or.inr ⟨2, by decide, rfl, rfl, ⟨pu, st, nx, an, g, gv, rfl, h21, h22, h23, h24, h25, h26, h27, h28, h29, h30, h31, h32, h33, h34, h35, h36, h37, h38⟩, (by repeat' first | exact INN.rf | refine INN.u ?_ (by decide) (by decide))⟩⟩) d_M_told_104
      · refine lv_tableIn (tgt := 105) (off := 64) hx hb d_M_told_41 (by decide) (by decide) (by decide) (by decide) ?_
        refine lv_aload_n hx hb d_M_told_105 rfl (lv_at hl 0 rfl) ?_
        refine r_get (k := 20) (i := 0) F hS f_M_36.get (uV_self V 20 0 (a1, oM A (nI m0) (nI ne) dy 0 qs (nI nk) hs hd pu st nx an)) rfl d_M_told_106 ?_
        refine lv_iload_n hx hb d_M_told_109 rfl (lv_at hl 1 rfl) ?_
        refine r_iald (k := 28) (i := 0) F hS h28 (vp_in_nI (by omega) (by decide)) d_M_told_110 ?_
        rw [nI_clamp (by omega), (hCD i hi).1]
        exact m_reti F hr hS (Nat.le_of_ble_eq_true rfl) (Nat.le_of_ble_eq_true rfl) (Or.inr ⟨i, hi, rfl, Or.inr ⟨3, by decide, rfl, rfl, ⟨pu, st, nx, an, g, gv, rfl, h21, h22, h23, h24, h25, h26, h27, h28, h29, h30, h31, h32, h33, h34, h35, h36, h37, h38⟩, (by repeat' first | exact INN.rf | refine INN.u ?_ (by decide) (by decide))⟩⟩) d_M_told_111
      · refine lv_tableIn (tgt := 112) (off := 71) hx hb d_M_told_41 (by decide) (by decide) (by decide) (by decide) ?_
        refine lv_aload_n hx hb d_M_told_112 rfl (lv_at hl 0 rfl) ?_
        refine r_get (k := 20) (i := 0) F hS f_M_23.get (uV_self V 20 0 (a1, oM A (nI m0) (nI ne) dy 0 qs (nI nk) hs hd pu st nx an)) rfl d_M_told_113 ?_
        refine lv_iload_n hx hb d_M_told_116 rfl (lv_at hl 1 rfl) ?_
        refine r_zald (k := 24) (i := 0) F hS h24 (vp_in_nI (by omega) (by decide)) d_M_told_117 ?_
        rw [nI_clamp (by omega)]
        refine lv_if_eq (tgt := 125) hx hb d_M_told_118 (by decide) (fun c_118 => ?_) (fun c_118 => ?_)
        · refine lv_iconst (v := 0) hx hb d_M_told_125 (by decide) ?_
          exact m_reti F hr hS (Nat.le_of_ble_eq_true rfl) (Nat.le_of_ble_eq_true rfl) (Or.inr ⟨i, hi, rfl, Or.inr ⟨4, by decide, rfl, by rw [show pTell 4 (mow i) (mki i) (med i) (nI (ln i)) (mmd i) (mak i) (msk i) (mfk i) = 0 from if_pos c_118], ⟨pu, st, nx, an, g, gv, rfl, h21, h22, h23, h24, h25, h26, h27, h28, h29, h30, h31, h32, h33, h34, h35, h36, h37, h38⟩, (by repeat' first | exact INN.rf | refine INN.u ?_ (by decide) (by decide))⟩⟩) d_M_told_126
        · refine lv_iconst (v := 1) hx hb d_M_told_121 (by decide) ?_
          refine lv_goto (tgt := 126) hx hb d_M_told_122 (by decide) ?_
          exact m_reti F hr hS (Nat.le_of_ble_eq_true rfl) (Nat.le_of_ble_eq_true rfl) (Or.inr ⟨i, hi, rfl, Or.inr ⟨4, by decide, rfl, by rw [show pTell 4 (mow i) (mki i) (med i) (nI (ln i)) (mmd i) (mak i) (msk i) (mfk i) = 1 from if_neg c_118], ⟨pu, st, nx, an, g, gv, rfl, h21, h22, h23, h24, h25, h26, h27, h28, h29, h30, h31, h32, h33, h34, h35, h36, h37, h38⟩, (by repeat' first | exact INN.rf | refine INN.u ?_ (by decide) (by decide))⟩⟩) d_M_told_126
      · refine lv_tableIn (tgt := 127) (off := 86) hx hb d_M_told_41 (by decide) (by decide) (by decide) (by decide) ?_
        refine lv_aload_n hx hb d_M_told_127 rfl (lv_at hl 0 rfl) ?_
        refine r_get (k := 20) (i := 0) F hS f_M_27.get (uV_self V 20 0 (a1, oM A (nI m0) (nI ne) dy 0 qs (nI nk) hs hd pu st nx an)) rfl d_M_told_128 ?_
        refine lv_iload_n hx hb d_M_told_131 rfl (lv_at hl 1 rfl) ?_
        refine r_iald (k := 25) (i := 0) F hS h25 (vp_in_nI (by omega) (by decide)) d_M_told_132 ?_
        rw [nI_clamp (by omega)]
        exact m_reti F hr hS (Nat.le_of_ble_eq_true rfl) (Nat.le_of_ble_eq_true rfl) (Or.inr ⟨i, hi, rfl, Or.inr ⟨5, by decide, rfl, rfl, ⟨pu, st, nx, an, g, gv, rfl, h21, h22, h23, h24, h25, h26, h27, h28, h29, h30, h31, h32, h33, h34, h35, h36, h37, h38⟩, (by repeat' first | exact INN.rf | refine INN.u ?_ (by decide) (by decide))⟩⟩) d_M_told_133
      · refine lv_tableIn (tgt := 134) (off := 93) hx hb d_M_told_41 (by decide) (by decide) (by decide) (by decide) ?_
        refine lv_aload_n hx hb d_M_told_134 rfl (lv_at hl 0 rfl) ?_
        refine r_get (k := 20) (i := 0) F hS f_M_30.get (uV_self V 20 0 (a1, oM A (nI m0) (nI ne) dy 0 qs (nI nk) hs hd pu st nx an)) rfl d_M_told_135 ?_
        refine lv_iload_n hx hb d_M_told_138 rfl (lv_at hl 1 rfl) ?_
        refine r_iald (k := 26) (i := 0) F hS h26 (vp_in_nI (by omega) (by decide)) d_M_told_139 ?_
        rw [nI_clamp (by omega)]
        exact m_reti F hr hS (Nat.le_of_ble_eq_true rfl) (Nat.le_of_ble_eq_true rfl) (Or.inr ⟨i, hi, rfl, Or.inr ⟨6, by decide, rfl, rfl, ⟨pu, st, nx, an, g, gv, rfl, h21, h22, h23, h24, h25, h26, h27, h28, h29, h30, h31, h32, h33, h34, h35, h36, h37, h38⟩, (by repeat' first | exact INN.rf | refine INN.u ?_ (by decide) (by decide))⟩⟩) d_M_told_140
      · refine lv_tableOut (tgt := 141) hx hb d_M_told_41 (by decide) (by decide) ?_
        refine lv_aload_n hx hb d_M_told_141 rfl (lv_at hl 0 rfl) ?_
        refine r_get (k := 20) (i := 0) F hS f_M_33.get (uV_self V 20 0 (a1, oM A (nI m0) (nI ne) dy 0 qs (nI nk) hs hd pu st nx an)) rfl d_M_told_142 ?_
        refine lv_iload_n hx hb d_M_told_145 rfl (lv_at hl 1 rfl) ?_
        refine r_iald (k := 27) (i := 0) F hS h27 (vp_in_nI (by omega) (by decide)) d_M_told_146 ?_
        rw [nI_clamp (by omega)]
        exact m_reti F hr hS (Nat.le_of_ble_eq_true rfl) (Nat.le_of_ble_eq_true rfl) (Or.inr ⟨i, hi, rfl, Or.inr ⟨7, by decide, rfl, rfl, ⟨pu, st, nx, an, g, gv, rfl, h21, h22, h23, h24, h25, h26, h27, h28, h29, h30, h31, h32, h33, h34, h35, h36, h37, h38⟩, (by repeat' first | exact INN.rf | refine INN.u ?_ (by decide) (by decide))⟩⟩) d_M_told_147
    · refine lv_iconst (v := 2) hx hb d_M_told_23 (by decide) ?_
      refine lv_goto (tgt := 28) hx hb d_M_told_24 (by decide) ?_
      refine r_put (k := 20) (i := 0) F hS f_M_73 ct_M h20 rfl rfl (Nat.le_of_ble_eq_true rfl) d_M_told_28 (fun H locs hS => ?_)
      have hS : HS G s (uV V 20 0 (a1, oM A (nI m0) (nI ne) dy 2 qs (nI nk) hs hd pu st nx an)) H _ := hS
      refine lv_aload_n hx hb d_M_told_31 rfl (lv_at hl 0 rfl) ?_
      refine r_get (k := 20) (i := 0) F hS f_M_73.get (uV_self V 20 0 (a1, oM A (nI m0) (nI ne) dy 2 qs (nI nk) hs hd pu st nx an)) rfl d_M_told_32 ?_
      refine lv_if_eq (tgt := 40) hx hb d_M_told_35 (by decide) (fun z => absurd z (by decide)) (fun _ => ?_)
      refine lv_iconst (v := 0) hx hb d_M_told_38 (by decide) ?_
      exact m_reti F hr hS (Nat.le_of_ble_eq_true rfl) (Nat.le_of_ble_eq_true rfl) (Or.inr ⟨i, hi, rfl, Or.inl ⟨hz_17.f c_20, rfl, ⟨pu, st, nx, an, g, gv, rfl, h21, h22, h23, h24, h25, h26, h27, h28, h29, h30, h31, h32, h33, h34, h35, h36, h37, h38⟩, (by repeat' first | exact INN.rf | refine INN.u ?_ (by decide) (by decide))⟩⟩) d_M_told_39
  · refine lv_iconst (v := 1) hx hb d_M_told_9 (by decide) ?_
    refine lv_goto (tgt := 28) hx hb d_M_told_10 (by decide) ?_
    refine r_put (k := 20) (i := 0) F hS f_M_73 ct_M h20 rfl rfl (Nat.le_of_ble_eq_true rfl) d_M_told_28 (fun H locs hS => ?_)
    have hS : HS G s (uV V 20 0 (a1, oM A (nI m0) (nI ne) dy 1 qs (nI nk) hs hd pu st nx an)) H _ := hS
    refine lv_aload_n hx hb d_M_told_31 rfl (lv_at hl 0 rfl) ?_
    refine r_get (k := 20) (i := 0) F hS f_M_73.get (uV_self V 20 0 (a1, oM A (nI m0) (nI ne) dy 1 qs (nI nk) hs hd pu st nx an)) rfl d_M_told_32 ?_
    refine lv_if_eq (tgt := 40) hx hb d_M_told_35 (by decide) (fun z => absurd z (by decide)) (fun _ => ?_)
    refine lv_iconst (v := 0) hx hb d_M_told_38 (by decide) ?_
    exact m_reti F hr hS (Nat.le_of_ble_eq_true rfl) (Nat.le_of_ble_eq_true rfl) (Or.inl ⟨hz_3.f c_6, rfl, ⟨pu, st, nx, an, g, gv, rfl, h21, h22, h23, h24, h25, h26, h27, h28, h29, h30, h31, h32, h33, h34, h35, h36, h37, h38⟩, (by repeat' first | exact INN.rf | refine INN.u ?_ (by decide) (by decide))⟩) d_M_told_39
set_option maxHeartbeats 4000000 in
set_option maxRecDepth 100000 in
theorem lp_M_count1 (G : Gl) (l : Launch) (htr : l.stackTraces = false) (V : Vw) (a1 : Nat) (A : Nat → Nat) (m0 ne nk : Nat) (dy th qs hs hd : Int32) (pu st nx : Int32) (an : Int64) (mmd : Nat → Int32) (w : Int32) (hne : ne ≤ 24) (h20 : V 20 0 = some (a1, oM A (nI m0) (nI ne) dy th qs (nI nk) hs hd pu st nx an)) (h24 : V 24 0 = some ((A 24), aZ G 24 mmd)) {Rt : Option Value → Vw → Prop} {p : Program} {e : Env} {s : State} {m : MethodId} {args : Array Value} {below : List Frame} {meth : Method} {c : Code} (F : Bd G p l s m args meth c b_M_count 4 "RuleClassesModel") (hr : meth.sig.returnType = (Option.some Jvm.ClassFile.FieldType.int)) (hq : Rt (some (.int (pMade mmd ne))) V) :
    ∀ (n j : Nat), j + n = ne → ∀ (H : Heap) (locs : List Loc) (ls : Array Slot), HS G s V H locs → lv_has ls 4 [(0, .ref a1), (1, .int w), (2, .int (pMade mmd j)), (3, .int (nI j))] →
      W p l e ({ frames := 0, cells := 0, slots := 0, locals := 0 } : Room) s m args below meth c H locs 0 0 (MQ below (QcC G Rt) args s ({ frames := 0, cells := 0, slots := 0, locals := 0 } : Room).cells ({ frames := 0, cells := 0, slots := 0, locals := 0 } : Room).slots (aB G)) (F0 m 63 ls []) := by
  obtain ⟨hx, hb, hml, hown, hts, hK, hlk, -⟩ := id F
  intro n
  induction n with
  | zero =>
    intro j hjn H locs ls hS hl
    obtain rfl : ne = j := by omega
    refine lv_iload_n hx hb d_M_count_63 rfl (lv_at hl 3 rfl) ?_
    refine lv_aload_n hx hb d_M_count_64 rfl (lv_at hl 0 rfl) ?_
    refine r_get (k := 20) (i := 0) F hS f_M_76.get h20 rfl d_M_count_65 ?_
    refine lv_icmp_ge (tgt := 89) hx hb d_M_count_68 (by decide) (fun c_68 => ?_) (fun c_68 => absurd (nI_le (by omega) (by omega)) c_68)
    refine lv_iload_n hx hb d_M_count_89 rfl (lv_at hl 2 rfl) ?_
    exact m_reti F hr hS (Nat.le_of_ble_eq_true rfl) (Nat.le_of_ble_eq_true rfl) hq d_M_count_90
  | succ n ih =>
    intro j hjn H locs ls hS hl
    have hj : j < ne := by omega
    refine lv_iload_n hx hb d_M_count_63 rfl (lv_at hl 3 rfl) ?_
    refine lv_aload_n hx hb d_M_count_64 rfl (lv_at hl 0 rfl) ?_
    refine r_get (k := 20) (i := 0) F hS f_M_76.get h20 rfl d_M_count_65 ?_
    refine lv_icmp_ge (tgt := 89) hx hb d_M_count_68 (by decide) (fun c_68 => absurd c_68 (nI_ge (by omega) (by omega))) (fun c_68 => ?_)
    refine lv_aload_n hx hb d_M_count_71 rfl (lv_at hl 0 rfl) ?_
    refine r_get (k := 20) (i := 0) F hS f_M_23.get h20 rfl d_M_count_72 ?_
    refine lv_iload_n hx hb d_M_count_75 rfl (lv_at hl 3 rfl) ?_
    refine r_zald (k := 24) (i := 0) F hS h24 (vp_in_nI (by omega) (by decide)) d_M_count_76 ?_
    rw [nI_clamp (by omega)]
    refine lv_if_eq (tgt := 83) hx hb d_M_count_77 (by decide) (fun c_77 => ?_) (fun c_77 => ?_)
    · refine lv_iinc (v := (nI (j + 1))) (lv' := [(3, .int (nI (j + 1))), (0, .ref a1), (1, .int w), (2, .int (pMade mmd j))]) hx hb d_M_count_83 hl (k := 3) rfl (nI_1 j) (by decide) rfl (fun ls hl => ?_)
      refine lv_goto (tgt := 63) hx hb d_M_count_86 (by decide) ?_
      have hp := (show pMade mmd (j + 1) = pMade mmd j from if_pos c_77)
      exact ih (j + 1) (by omega) _ _ _ hS (by rw [hp]; exact lv_sub hl [1, 2, 3, 0] rfl)
    · refine lv_iinc (v := ((pMade mmd j) + 1)) (lv' := [(2, .int ((pMade mmd j) + 1)), (0, .ref a1), (1, .int w), (3, .int (nI j))]) hx hb d_M_count_80 hl (k := 2) rfl (by rfl) (by decide) rfl (fun ls hl => ?_)
      refine lv_iinc (v := (nI (j + 1))) (lv' := [(3, .int (nI (j + 1))), (2, .int ((pMade mmd j) + 1)), (0, .ref a1), (1, .int w)]) hx hb d_M_count_83 hl (k := 3) rfl (nI_1 j) (by decide) rfl (fun ls hl => ?_)
      refine lv_goto (tgt := 63) hx hb d_M_count_86 (by decide) ?_
      have hp := (show pMade mmd (j + 1) = pMade mmd j + 1 from if_neg c_77)
      exact ih (j + 1) (by omega) _ _ _ hS (by rw [hp]; exact lv_sub hl [2, 3, 1, 0] rfl)
set_option maxHeartbeats 4000000 in
set_option maxRecDepth 100000 in
theorem lp_M_count3 (G : Gl) (l : Launch) (htr : l.stackTraces = false) (V : Vw) (a1 : Nat) (A : Nat → Nat) (m0 ne nk : Nat) (dy th qs hs hd : Int32) (pu st nx : Int32) (an : Int64) (fs : Nat → Int32) (w : Int32) (h20 : V 20 0 = some (a1, oM A (nI m0) (nI ne) dy th qs (nI nk) hs hd pu st nx an)) (h34 : V 34 0 = some ((A 34), aI G 36 fs)) {Rt : Option Value → Vw → Prop} {p : Program} {e : Env} {s : State} {m : MethodId} {args : Array Value} {below : List Frame} {meth : Method} {c : Code} (F : Bd G p l s m args meth c b_M_count 4 "RuleClassesModel") (hr : meth.sig.returnType = (Option.some Jvm.ClassFile.FieldType.int)) (hq : Rt (some (.int (pSum fs 36))) V) :
    ∀ (n j : Nat), j + n = 36 → ∀ (H : Heap) (locs : List Loc) (ls : Array Slot), HS G s V H locs → lv_has ls 4 [(0, .ref a1), (1, .int w), (2, .int (pSum fs j)), (3, .int (nI j))] →
      W p l e ({ frames := 0, cells := 0, slots := 0, locals := 0 } : Room) s m args below meth c H locs 0 0 (MQ below (QcC G Rt) args s ({ frames := 0, cells := 0, slots := 0, locals := 0 } : Room).cells ({ frames := 0, cells := 0, slots := 0, locals := 0 } : Room).slots (aB G)) (F0 m 98 ls []) := by
  obtain ⟨hx, hb, hml, hown, hts, hK, hlk, -⟩ := id F
  intro n
  induction n with
  | zero =>
    intro j hjn H locs ls hS hl
    obtain rfl : 36 = j := by omega
    refine lv_iload_n hx hb d_M_count_98 rfl (lv_at hl 3 rfl) ?_
    refine lv_bipush (v := 36) hx hb d_M_count_99 (by decide) ?_
    refine lv_icmp_ge (tgt := 119) hx hb d_M_count_101 (by decide) (fun c_101 => ?_) (fun c_101 => absurd (by decide) c_101)
    refine lv_iload_n hx hb d_M_count_119 rfl (lv_at hl 2 rfl) ?_
    exact m_reti F hr hS (Nat.le_of_ble_eq_true rfl) (Nat.le_of_ble_eq_true rfl) hq d_M_count_120
  | succ n ih =>
    intro j hjn H locs ls hS hl
    have hj : j < 36 := by omega
    refine lv_iload_n hx hb d_M_count_98 rfl (lv_at hl 3 rfl) ?_
    refine lv_bipush (v := 36) hx hb d_M_count_99 (by decide) ?_
    refine lv_icmp_ge (tgt := 119) hx hb d_M_count_101 (by decide) (fun c_101 => absurd c_101 (nI_ge (b := 36) (by omega) (by omega))) (fun c_101 => ?_)
    refine lv_iload_n hx hb d_M_count_104 rfl (lv_at hl 2 rfl) ?_
    refine lv_aload_n hx hb d_M_count_105 rfl (lv_at hl 0 rfl) ?_
    refine r_get (k := 20) (i := 0) F hS f_M_54.get h20 rfl d_M_count_106 ?_
    refine lv_iload_n hx hb d_M_count_109 rfl (lv_at hl 3 rfl) ?_
    refine r_iald (k := 34) (i := 0) F hS h34 (vp_in_nI (by omega) (by decide)) d_M_count_110 ?_
    rw [nI_clamp (by omega)]
    refine lv_iadd hx hb d_M_count_111 ?_
    refine lv_istore_n (lv' := [(2, .int ((pSum fs j) + (fs j))), (0, .ref a1), (1, .int w), (3, .int (nI j))]) hx hb d_M_count_112 rfl hl (by decide) rfl (fun ls hl => ?_)
    refine lv_iinc (v := (nI (j + 1))) (lv' := [(3, .int (nI (j + 1))), (2, .int ((pSum fs j) + (fs j))), (0, .ref a1), (1, .int w)]) hx hb d_M_count_113 hl (k := 3) rfl (nI_1 j) (by decide) rfl (fun ls hl => ?_)
    refine lv_goto (tgt := 98) hx hb d_M_count_116 (by decide) ?_
    have hp := (show pSum fs (j + 1) = pSum fs j + fs j from rfl)
    exact ih (j + 1) (by omega) _ _ _ hS (by rw [hp]; exact lv_sub hl [2, 3, 1, 0] rfl)
set_option maxHeartbeats 4000000 in
set_option maxRecDepth 100000 in
theorem k_M_count_in (G : Gl) (l : Launch) (htr : l.stackTraces = false) (V : Vw) (a1 : Nat) (A : Nat → Nat) (m0 ne nk : Nat) (dy th qs hs hd : Int32) (mow mki med mmd mak msk mfk mmn mpo mcs fa mkf ff fs mss mot : Nat → Int32) (hne : ne ≤ 24) (hW : MW G V a1 A (nI m0) (nI ne) dy th qs (nI nk) hs hd mow mki med mmd mak msk mfk mmn mpo mcs fa mkf ff fs mss mot) (t : Nat) (ht : t ≤ 7)  :
    Cm G l y_M_count b_M_count 4 (Option.some Jvm.ClassFile.FieldType.int) { frames := 0, cells := 0, slots := 0, locals := 0 } V [.ref a1, .int (nI t)] (fun rv V' => rv = some (.int (pCount t ne mmd qs fs nk hs dy (nI m0))) ∧ MW G V' a1 A (nI m0) (nI ne) dy 0 qs (nI nk) hs hd mow mki med mmd mak msk mfk mmn mpo mcs fa mkf ff fs mss mot ∧ INN V V') := by
  refine Cm.of htr (by decide) (Nat.le_of_ble_eq_true rfl) ?_
  intro p e s m args below meth c ls F hr hnm hS hl
  obtain ⟨hx, hb, hml, hown, hts, hK, hlk, -⟩ := id F
  have hl : lv_has ls 4 [(0, .ref a1), (1, .int (nI t))] := hl
  obtain ⟨pu, st, nx, an, g, gv, h20, h21, h22, h23, h24, h25, h26, h27, h28, h29, h30, h31, h32, h33, h34, h35, h36, h37, h38⟩ := hW
  refine lv_aload_n hx hb d_M_count_0 rfl (lv_at hl 0 rfl) ?_
  refine lv_iconst (v := 0) hx hb d_M_count_1 (by decide) ?_
  refine r_put (k := 20) (i := 0) F hS f_M_73 ct_M h20 rfl rfl (Nat.le_of_ble_eq_true rfl) d_M_count_2 (fun H locs hS => ?_)
  have hS : HS G s (uV V 20 0 (a1, oM A (nI m0) (nI ne) dy 0 qs (nI nk) hs hd pu st nx an)) H _ := hS
  refine lv_iconst (v := 0) hx hb d_M_count_5 (by decide) ?_
  refine lv_istore_n (lv' := [(2, .int 0), (0, .ref a1), (1, .int (nI t))]) hx hb d_M_count_6 rfl hl (by decide) rfl (fun ls hl => ?_)
  refine lv_iload_n hx hb d_M_count_7 rfl (lv_at hl 2 rfl) ?_
  rcases (show t = 0 ∨ t = 1 ∨ t = 2 ∨ t = 3 ∨ t = 4 ∨ t = 5 ∨ t = 6 ∨ t = 7 by omega) with rfl | rfl | rfl | rfl | rfl | rfl | rfl | rfl
  · refine lv_tableIn (tgt := 56) (off := 48) hx hb d_M_count_8 (by decide) (by decide) (by decide) (by decide) ?_
    refine lv_aload_n hx hb d_M_count_56 rfl (lv_at hl 1 rfl) ?_
    refine r_get (k := 20) (i := 0) F hS f_M_76.get (uV_self V 20 0 (a1, oM A (nI m0) (nI ne) dy 0 qs (nI nk) hs hd pu st nx an)) rfl d_M_count_57 ?_
    exact m_reti F hr hS (Nat.le_of_ble_eq_true rfl) (Nat.le_of_ble_eq_true rfl) ⟨rfl, ⟨pu, st, nx, an, g, gv, rfl, h21, h22, h23, h24, h25, h26, h27, h28, h29, h30, h31, h32, h33, h34, h35, h36, h37, h38⟩, (by repeat' first | exact INN.rf | refine INN.u ?_ (by decide) (by decide))⟩ d_M_count_60
  · refine lv_tableIn (tgt := 61) (off := 53) hx hb d_M_count_8 (by decide) (by decide) (by decide) (by decide) ?_
    refine lv_iconst (v := 0) hx hb d_M_count_61 (by decide) ?_
    refine lv_istore_n (lv' := [(3, .int 0), (2, .int 0), (0, .ref a1), (1, .int (nI 1))]) hx hb d_M_count_62 rfl hl (by decide) rfl (fun ls hl => ?_)
    exact lp_M_count1 G l htr (uV V 20 0 (a1, oM A (nI m0) (nI ne) dy 0 qs (nI nk) hs hd pu st nx an)) a1 A m0 ne nk dy 0 qs hs hd pu st nx an mmd (nI 1) hne (uV_self V 20 0 (a1, oM A (nI m0) (nI ne) dy 0 qs (nI nk) hs hd pu st nx an)) h24 F hr ⟨rfl, ⟨pu, st, nx, an, g, gv, rfl, h21, h22, h23, h24, h25, h26, h27, h28, h29, h30, h31, h32, h33, h34, h35, h36, h37, h38⟩, (by repeat' first | exact INN.rf | refine INN.u ?_ (by decide) (by decide))⟩ ne 0 (by omega) _ _ _ hS (lv_sub hl [2, 3, 1, 0] rfl)
  · refine lv_tableIn (tgt := 91) (off := 83) hx hb d_M_count_8 (by decide) (by decide) (by decide) (by decide) ?_
    refine lv_aload_n hx hb d_M_count_91 rfl (lv_at hl 1 rfl) ?_
    refine r_get (k := 20) (i := 0) F hS f_M_131.get (uV_self V 20 0 (a1, oM A (nI m0) (nI ne) dy 0 qs (nI nk) hs hd pu st nx an)) rfl d_M_count_92 ?_
    exact m_reti F hr hS (Nat.le_of_ble_eq_true rfl) (Nat.le_of_ble_eq_true rfl) ⟨rfl, ⟨pu, st, nx, an, g, gv, rfl, h21, h22, h23, h24, h25, h26, h27, h28, h29, h30, h31, h32, h33, h34, h35, h36, h37, h38⟩, (by repeat' first | exact INN.rf | refine INN.u ?_ (by decide) (by decide))⟩ d_M_count_95
  · refine lv_tableIn (tgt := 96) (off := 88) hx hb d_M_count_8 (by decide) (by decide) (by decide) (by decide) ?_
    refine lv_iconst (v := 0) hx hb d_M_count_96 (by decide) ?_
    refine lv_istore_n (lv' := [(3, .int 0), (2, .int 0), (0, .ref a1), (1, .int (nI 3))]) hx hb d_M_count_97 rfl hl (by decide) rfl (fun ls hl => ?_)
    exact lp_M_count3 G l htr (uV V 20 0 (a1, oM A (nI m0) (nI ne) dy 0 qs (nI nk) hs hd pu st nx an)) a1 A m0 ne nk dy 0 qs hs hd pu st nx an fs (nI 3) (uV_self V 20 0 (a1, oM A (nI m0) (nI ne) dy 0 qs (nI nk) hs hd pu st nx an)) h34 F hr ⟨rfl, ⟨pu, st, nx, an, g, gv, rfl, h21, h22, h23, h24, h25, h26, h27, h28, h29, h30, h31, h32, h33, h34, h35, h36, h37, h38⟩, (by repeat' first | exact INN.rf | refine INN.u ?_ (by decide) (by decide))⟩ 36 0 (by omega) _ _ _ hS (lv_sub hl [2, 3, 1, 0] rfl)
  · refine lv_tableIn (tgt := 121) (off := 113) hx hb d_M_count_8 (by decide) (by decide) (by decide) (by decide) ?_
    refine lv_aload_n hx hb d_M_count_121 rfl (lv_at hl 1 rfl) ?_
    refine r_get (k := 20) (i := 0) F hS f_M_144.get (uV_self V 20 0 (a1, oM A (nI m0) (nI ne) dy 0 qs (nI nk) hs hd pu st nx an)) rfl d_M_count_122 ?_
    exact m_reti F hr hS (Nat.le_of_ble_eq_true rfl) (Nat.le_of_ble_eq_true rfl) ⟨rfl, ⟨pu, st, nx, an, g, gv, rfl, h21, h22, h23, h24, h25, h26, h27, h28, h29, h30, h31, h32, h33, h34, h35, h36, h37, h38⟩, (by repeat' first | exact INN.rf | refine INN.u ?_ (by decide) (by decide))⟩ d_M_count_125
  · refine lv_tableIn (tgt := 126) (off := 118) hx hb d_M_count_8 (by decide) (by decide) (by decide) (by decide) ?_
    refine lv_aload_n hx hb d_M_count_126 rfl (lv_at hl 1 rfl) ?_
    refine r_get (k := 20) (i := 0) F hS f_M_141.get (uV_self V 20 0 (a1, oM A (nI m0) (nI ne) dy 0 qs (nI nk) hs hd pu st nx an)) rfl d_M_count_127 ?_
    exact m_reti F hr hS (Nat.le_of_ble_eq_true rfl) (Nat.le_of_ble_eq_true rfl) ⟨rfl, ⟨pu, st, nx, an, g, gv, rfl, h21, h22, h23, h24, h25, h26, h27, h28, h29, h30, h31, h32, h33, h34, h35, h36, h37, h38⟩, (by repeat' first | exact INN.rf | refine INN.u ?_ (by decide) (by decide))⟩ d_M_count_130
  · refine lv_tableIn (tgt := 131) (off := 123) hx hb d_M_count_8 (by decide) (by decide) (by decide) (by decide) ?_
    refine lv_aload_n hx hb d_M_count_131 rfl (lv_at hl 1 rfl) ?_
    refine r_get (k := 20) (i := 0) F hS f_M_83.get (uV_self V 20 0 (a1, oM A (nI m0) (nI ne) dy 0 qs (nI nk) hs hd pu st nx an)) rfl d_M_count_132 ?_
    exact m_reti F hr hS (Nat.le_of_ble_eq_true rfl) (Nat.le_of_ble_eq_true rfl) ⟨rfl, ⟨pu, st, nx, an, g, gv, rfl, h21, h22, h23, h24, h25, h26, h27, h28, h29, h30, h31, h32, h33, h34, h35, h36, h37, h38⟩, (by repeat' first | exact INN.rf | refine INN.u ?_ (by decide) (by decide))⟩ d_M_count_135
  · refine lv_tableIn (tgt := 136) (off := 128) hx hb d_M_count_8 (by decide) (by decide) (by decide) (by decide) ?_
    refine lv_aload_n hx hb d_M_count_136 rfl (lv_at hl 1 rfl) ?_
    refine r_get (k := 20) (i := 0) F hS f_M_70.get (uV_self V 20 0 (a1, oM A (nI m0) (nI ne) dy 0 qs (nI nk) hs hd pu st nx an)) rfl d_M_count_137 ?_
    exact m_reti F hr hS (Nat.le_of_ble_eq_true rfl) (Nat.le_of_ble_eq_true rfl) ⟨rfl, ⟨pu, st, nx, an, g, gv, rfl, h21, h22, h23, h24, h25, h26, h27, h28, h29, h30, h31, h32, h33, h34, h35, h36, h37, h38⟩, (by repeat' first | exact INN.rf | refine INN.u ?_ (by decide) (by decide))⟩ d_M_count_140
set_option maxHeartbeats 4000000 in
set_option maxRecDepth 100000 in
theorem k_M_count_out (G : Gl) (l : Launch) (htr : l.stackTraces = false) (V : Vw) (a1 : Nat) (A : Nat → Nat) (m0 ne nk : Nat) (dy th qs hs hd : Int32) (mow mki med mmd mak msk mfk mmn mpo mcs fa mkf ff fs mss mot : Nat → Int32) (hne : ne ≤ 24) (hW : MW G V a1 A (nI m0) (nI ne) dy th qs (nI nk) hs hd mow mki med mmd mak msk mfk mmn mpo mcs fa mkf ff fs mss mot) (w : Int32) (hw : w < 0 ∨ 7 < w)  :
    Cm G l y_M_count b_M_count 4 (Option.some Jvm.ClassFile.FieldType.int) { frames := 0, cells := 0, slots := 0, locals := 0 } V [.ref a1, .int w] (fun rv V' => rv = some (.int (-1)) ∧ MW G V' a1 A (nI m0) (nI ne) dy 0 qs (nI nk) hs hd mow mki med mmd mak msk mfk mmn mpo mcs fa mkf ff fs mss mot ∧ INN V V') := by
  refine Cm.of htr (by decide) (Nat.le_of_ble_eq_true rfl) ?_
  intro p e s m args below meth c ls F hr hnm hS hl
  obtain ⟨hx, hb, hml, hown, hts, hK, hlk, -⟩ := id F
  have hl : lv_has ls 4 [(0, .ref a1), (1, .int w)] := hl
  obtain ⟨pu, st, nx, an, g, gv, h20, h21, h22, h23, h24, h25, h26, h27, h28, h29, h30, h31, h32, h33, h34, h35, h36, h37, h38⟩ := hW
  refine lv_aload_n hx hb d_M_count_0 rfl (lv_at hl 0 rfl) ?_
  refine lv_iconst (v := 0) hx hb d_M_count_1 (by decide) ?_
  refine r_put (k := 20) (i := 0) F hS f_M_73 ct_M h20 rfl rfl (Nat.le_of_ble_eq_true rfl) d_M_count_2 (fun H locs hS => ?_)
  have hS : HS G s (uV V 20 0 (a1, oM A (nI m0) (nI ne) dy 0 qs (nI nk) hs hd pu st nx an)) H _ := hS
  refine lv_iconst (v := 0) hx hb d_M_count_5 (by decide) ?_
  refine lv_istore_n (lv' := [(2, .int 0), (0, .ref a1), (1, .int w)]) hx hb d_M_count_6 rfl hl (by decide) rfl (fun ls hl => ?_)
  refine lv_iload_n hx hb d_M_count_7 rfl (lv_at hl 2 rfl) ?_
  refine lv_tableOut (tgt := 141) hx hb d_M_count_8 (hw.imp (fun z => Int32.lt_iff_toInt_lt.mp z) (fun z => (show (7 : Int32).toInt < w.toInt from Int32.lt_iff_toInt_lt.mp z))) (by decide) ?_
  refine lv_iconst (v := (-1)) hx hb d_M_count_141 (by decide) ?_
  exact m_reti F hr hS (Nat.le_of_ble_eq_true rfl) (Nat.le_of_ble_eq_true rfl) ⟨rfl, ⟨pu, st, nx, an, g, gv, rfl, h21, h22, h23, h24, h25, h26, h27, h28, h29, h30, h31, h32, h33, h34, h35, h36, h37, h38⟩, (by repeat' first | exact INN.rf | refine INN.u ?_ (by decide) (by decide))⟩ d_M_count_142
set_option maxHeartbeats 4000000 in
set_option maxRecDepth 100000 in
theorem lp_M_same (G : Gl) (l : Launch) (htr : l.stackTraces = false) (V : Vw) (a1 : Nat) (A : Nat → Nat) (m0 ne nk : Nat) (dy th qs hs hd : Int32) (pu st nx : Int32) (an : Int64) (mmn mpo mcs : Nat → Int32) (hne : ne ≤ 24) (i i2 : Nat) (hi : i < ne) (hi2 : i2 < ne) (ln : Nat → Nat) (po cs : Nat → Nat → Int32) (hll : ln i = ln i2) (hCD : CD ne mmn mpo mcs ln po cs) (h20 : V 20 0 = some (a1, oM A (nI m0) (nI ne) dy th qs (nI nk) hs hd pu st nx an)) (h28 : V 28 0 = some ((A 28), aI G 24 mmn)) (h29 : V 29 0 = some ((A 29), aI G 384 mpo)) (h30 : V 30 0 = some ((A 30), aI G 384 mcs)) {Rt : Option Value → Vw → Prop} {p : Program} {e : Env} {s : State} {m : MethodId} {args : Array Value} {below : List Frame} {meth : Method} {c : Code} (F : Bd G p l s m args meth c b_M_same 4 "RuleClassesModel") (hr : meth.sig.returnType = (Option.some Jvm.ClassFile.FieldType.boolean)) (hq : ∀ z : Int32, bv z (∀ a, a < ln i → po i a = po i2 a ∧ cs i a = cs i2 a) → Rt (some (.int z)) V) :
    ∀ (n j : Nat), j + n = ln i → (∀ a, a < j → po i a = po i2 a ∧ cs i a = cs i2 a) → ∀ (H : Heap) (locs : List Loc) (ls : Array Slot), HS G s V H locs → lv_has ls 4 [(0, .ref a1), (1, .int (nI i)), (2, .int (nI i2)), (3, .int (nI j))] →
      W p l e ({ frames := 2, cells := 0, slots := 0, locals := 43 } : Room) s m args below meth c H locs 0 0 (MQ below (QcC G Rt) args s ({ frames := 2, cells := 0, slots := 0, locals := 43 } : Room).cells ({ frames := 2, cells := 0, slots := 0, locals := 43 } : Room).slots (aB G)) (F0 m 51 ls []) := by
  obtain ⟨hx, hb, hml, hown, hts, hK, hlk, -⟩ := id F
  intro n
  induction n with
  | zero =>
    intro j hjn hd H locs ls hS hl
    obtain rfl : ln i = j := by omega
    refine lv_iload_n hx hb d_M_same_51 rfl (lv_at hl 3 rfl) ?_
    refine lv_aload_n hx hb d_M_same_52 rfl (lv_at hl 0 rfl) ?_
    refine r_get (k := 20) (i := 0) F hS f_M_36.get h20 rfl d_M_same_53 ?_
    refine lv_iload_n hx hb d_M_same_56 rfl (lv_at hl 1 rfl) ?_
    refine r_iald (k := 28) (i := 0) F hS h28 (vp_in_nI (by omega) (by decide)) d_M_same_57 ?_
    rw [nI_clamp (by omega), (hCD i hi).1]
    refine lv_icmp_ge (tgt := 119) hx hb d_M_same_58 (by decide) (fun c_58 => ?_) (fun c_58 => absurd (nI_le (by omega) (by have := (hCD i hi).2.1.1; omega)) c_58)
    refine lv_iconst (v := 1) hx hb d_M_same_119 (by decide) ?_
    exact m_retz F hr hS (Nat.le_of_ble_eq_true rfl) (Nat.le_of_ble_eq_true rfl) rfl (hq _ (Or.inl ⟨rfl, hd⟩)) d_M_same_120
  | succ n ih =>
    intro j hjn hd H locs ls hS hl
    have hj : j < ln i := by omega
    refine lv_iload_n hx hb d_M_same_51 rfl (lv_at hl 3 rfl) ?_
    refine lv_aload_n hx hb d_M_same_52 rfl (lv_at hl 0 rfl) ?_
    refine r_get (k := 20) (i := 0) F hS f_M_36.get h20 rfl d_M_same_53 ?_
    refine lv_iload_n hx hb d_M_same_56 rfl (lv_at hl 1 rfl) ?_
    have hl16 := (hCD i hi).2.1.1
    have hj2 : j < ln i2 := by omega
    refine r_iald (k := 28) (i := 0) F hS h28 (vp_in_nI (by omega) (by decide)) d_M_same_57 ?_
    rw [nI_clamp (by omega), (hCD i hi).1]
    refine lv_icmp_ge (tgt := 119) hx hb d_M_same_58 (by decide) (fun c_58 => absurd c_58 (nI_ge (by omega) (by omega))) (fun c_58 => ?_)
    refine lv_aload_n hx hb d_M_same_61 rfl (lv_at hl 0 rfl) ?_
    refine r_get (k := 20) (i := 0) F hS f_M_39.get h20 rfl d_M_same_62 ?_
    refine lv_bipush (v := 16) hx hb d_M_same_65 (by decide) ?_
    refine lv_iload_n hx hb d_M_same_67 rfl (lv_at hl 1 rfl) ?_
    refine lv_imul hx hb d_M_same_68 ?_
    refine lv_iload_n hx hb d_M_same_69 rfl (lv_at hl 3 rfl) ?_
    refine lv_iadd hx hb d_M_same_70 ?_
    rw [show (16 : Int32) * nI i + nI j = nI (16 * i + j) from nI_ma 16 i j]
    refine r_iald (k := 29) (i := 0) F hS h29 (vp_in_nI (by omega) (by decide)) d_M_same_71 ?_
    rw [nI_clamp (by omega), ((hCD i hi).2.2.1 j hj).1]
    refine lv_aload_n hx hb d_M_same_72 rfl (lv_at hl 0 rfl) ?_
    refine r_get (k := 20) (i := 0) F hS f_M_39.get h20 rfl d_M_same_73 ?_
    refine lv_bipush (v := 16) hx hb d_M_same_76 (by decide) ?_
    refine lv_iload_n hx hb d_M_same_78 rfl (lv_at hl 2 rfl) ?_
    refine lv_imul hx hb d_M_same_79 ?_
    refine lv_iload_n hx hb d_M_same_80 rfl (lv_at hl 3 rfl) ?_
    refine lv_iadd hx hb d_M_same_81 ?_
    rw [show (16 : Int32) * nI i2 + nI j = nI (16 * i2 + j) from nI_ma 16 i2 j]
    refine r_iald (k := 29) (i := 0) F hS h29 (vp_in_nI (by omega) (by decide)) d_M_same_82 ?_
    rw [nI_clamp (by omega), ((hCD i2 hi2).2.2.1 j hj2).1]
    refine lv_icmp_ne (tgt := 111) hx hb d_M_same_83 (by decide) (fun c_83 => ?_) (fun c_83 => ?_)
    · refine lv_iconst (v := 0) hx hb d_M_same_111 (by decide) ?_
      exact m_retz F hr hS (Nat.le_of_ble_eq_true rfl) (Nat.le_of_ble_eq_true rfl) rfl (hq _ (Or.inr ⟨rfl, fun z => c_83 (z j hj).1⟩)) d_M_same_112
    · refine lv_aload_n hx hb d_M_same_86 rfl (lv_at hl 0 rfl) ?_
      refine r_get (k := 20) (i := 0) F hS f_M_42.get h20 rfl d_M_same_87 ?_
      refine lv_bipush (v := 16) hx hb d_M_same_90 (by decide) ?_
      refine lv_iload_n hx hb d_M_same_92 rfl (lv_at hl 1 rfl) ?_
      refine lv_imul hx hb d_M_same_93 ?_
      refine lv_iload_n hx hb d_M_same_94 rfl (lv_at hl 3 rfl) ?_
      refine lv_iadd hx hb d_M_same_95 ?_
      rw [show (16 : Int32) * nI i + nI j = nI (16 * i + j) from nI_ma 16 i j]
      refine r_iald (k := 30) (i := 0) F hS h30 (vp_in_nI (by omega) (by decide)) d_M_same_96 ?_
      rw [nI_clamp (by omega), ((hCD i hi).2.2.1 j hj).2]
      refine lv_aload_n hx hb d_M_same_97 rfl (lv_at hl 0 rfl) ?_
      refine r_get (k := 20) (i := 0) F hS f_M_42.get h20 rfl d_M_same_98 ?_
      refine lv_bipush (v := 16) hx hb d_M_same_101 (by decide) ?_
      refine lv_iload_n hx hb d_M_same_103 rfl (lv_at hl 2 rfl) ?_
      refine lv_imul hx hb d_M_same_104 ?_
      refine lv_iload_n hx hb d_M_same_105 rfl (lv_at hl 3 rfl) ?_
      refine lv_iadd hx hb d_M_same_106 ?_
      rw [show (16 : Int32) * nI i2 + nI j = nI (16 * i2 + j) from nI_ma 16 i2 j]
      refine r_iald (k := 30) (i := 0) F hS h30 (vp_in_nI (by omega) (by decide)) d_M_same_107 ?_
      rw [nI_clamp (by omega), ((hCD i2 hi2).2.2.1 j hj2).2]
      refine lv_icmp_eq (tgt := 113) hx hb d_M_same_108 (by decide) (fun c_108 => ?_) (fun c_108 => ?_)
      · refine lv_iinc (v := (nI (j + 1))) (lv' := [(3, .int (nI (j + 1))), (0, .ref a1), (1, .int (nI i)), (2, .int (nI i2))]) hx hb d_M_same_113 hl (k := 3) rfl (nI_1 j) (by decide) rfl (fun ls hl => ?_)
        refine lv_goto (tgt := 51) hx hb d_M_same_116 (by decide) ?_
        exact ih (j + 1) (by omega) (fun a ha => by rcases Nat.lt_succ_iff_lt_or_eq.mp ha with z | z; exact hd a z; rw [z]; exact ⟨c_83, c_108⟩) _ _ _ hS (lv_sub hl [1, 2, 3, 0] rfl)
      · refine lv_iconst (v := 0) hx hb d_M_same_111 (by decide) ?_
        exact m_retz F hr hS (Nat.le_of_ble_eq_true rfl) (Nat.le_of_ble_eq_true rfl) rfl (hq _ (Or.inr ⟨rfl, fun z => c_108 (z j hj).2⟩)) d_M_same_112
set_option maxHeartbeats 4000000 in
set_option maxRecDepth 100000 in
theorem k_M_same (G : Gl) (l : Launch) (htr : l.stackTraces = false) (V : Vw) (a1 : Nat) (A : Nat → Nat) (m0 ne nk : Nat) (dy th qs hs hd : Int32) (mow mki med mmd mak msk mfk mmn mpo mcs fa mkf ff fs mss mot : Nat → Int32) (hne : ne ≤ 24) (hW : MW G V a1 A (nI m0) (nI ne) dy th qs (nI nk) hs hd mow mki med mmd mak msk mfk mmn mpo mcs fa mkf ff fs mss mot) (n n2 : Int32) (ln : Nat → Nat) (po cs : Nat → Nat → Int32) (hCD : CD ne mmn mpo mcs ln po cs)  :
    Cm G l y_M_same b_M_same 4 (Option.some Jvm.ClassFile.FieldType.boolean) { frames := 2, cells := 0, slots := 0, locals := 43 } V [.ref a1, .int n, .int n2] (fun rv V' => (¬ ((∃ i : Nat, i < ne ∧ n = nI i) ∧ (∃ i : Nat, i < ne ∧ n2 = nI i)) ∧ rv = some (.int 0) ∧ MW G V' a1 A (nI m0) (nI ne) dy 1 qs (nI nk) hs hd mow mki med mmd mak msk mfk mmn mpo mcs fa mkf ff fs mss mot ∧ INN V V') ∨ ∃ i i2 : Nat, i < ne ∧ i2 < ne ∧ n = nI i ∧ n2 = nI i2 ∧ ∃ z : Int32, rv = some (.int z) ∧ bv z (ln i = ln i2 ∧ (∀ a, a < ln i → po i a = po i2 a ∧ cs i a = cs i2 a)) ∧ MW G V' a1 A (nI m0) (nI ne) dy 0 qs (nI nk) hs hd mow mki med mmd mak msk mfk mmn mpo mcs fa mkf ff fs mss mot ∧ INN V V') := by
  refine Cm.of htr (by decide) (Nat.le_of_ble_eq_true rfl) ?_
  intro p e s m args below meth c ls F hr hnm hS hl
  obtain ⟨hx, hb, hml, hown, hts, hK, hlk, -⟩ := id F
  have hl : lv_has ls 4 [(0, .ref a1), (1, .int n), (2, .int n2)] := hl
  obtain ⟨pu, st, nx, an, g, gv, h20, h21, h22, h23, h24, h25, h26, h27, h28, h29, h30, h31, h32, h33, h34, h35, h36, h37, h38⟩ := hW
  refine lv_aload_n hx hb d_M_same_0 rfl (lv_at hl 0 rfl) ?_
  refine lv_aload_n hx hb d_M_same_1 rfl (lv_at hl 0 rfl) ?_
  refine lv_iload_n hx hb d_M_same_2 rfl (lv_at hl 1 rfl) ?_
  refine r_callV (k := 20) (i := 0) (q := ("RuleClassesModel", T_M, 30)) (fs := [.int (nI m0), .int (nI ne), .int dy, .int th, .int qs, .int (nI nk), .int hs, .int hd, .ref (A 21), .ref (A 22), .ref (A 23), .ref (A 24), .ref (A 25), .ref (A 26), .ref (A 27), .ref (A 28), .ref (A 29), .ref (A 30), .ref (A 31), .ref (A 32), .ref (A 33), .ref (A 34), .ref (A 35), .ref (A 36), .ref (A 37), .int pu, .int st, .int nx, .long an, .ref (A 38)]) (As := [.int n]) (rest := [.ref a1]) F hS c_M_90 (k_M_isEdition G l htr V a1 A m0 ne nk dy th qs hs hd pu st nx an hne n h20) rfl h20 rfl hl.1 rfl (Nat.le_of_ble_eq_true rfl) d_M_same_3 ⟨Nat.le_of_ble_eq_true rfl, Nat.le_of_ble_eq_true rfl⟩ ⟨Nat.le_of_ble_eq_true rfl, Nat.le_of_ble_eq_true rfl⟩ (fun rv V1 H locs hR hS => ?_)
  obtain ⟨hV, bz_3, rfl, hz_3⟩ := hR
  rw [hV] at hS
  refine W.eq (g2 := F0 m 6 ls [.int bz_3, .ref a1]) rfl ?_
  refine lv_if_eq (tgt := 21) hx hb d_M_same_6 (by decide) (fun c_6 => ?_) (fun c_6 => ?_)
  · refine lv_iconst (v := 1) hx hb d_M_same_21 (by decide) ?_
    refine r_put (k := 20) (i := 0) F hS f_M_73 ct_M h20 rfl rfl (Nat.le_of_ble_eq_true rfl) d_M_same_22 (fun H locs hS => ?_)
    have hS : HS G s (uV V 20 0 (a1, oM A (nI m0) (nI ne) dy 1 qs (nI nk) hs hd pu st nx an)) H _ := hS
    refine lv_aload_n hx hb d_M_same_25 rfl (lv_at hl 0 rfl) ?_
    refine r_get (k := 20) (i := 0) F hS f_M_73.get (uV_self V 20 0 (a1, oM A (nI m0) (nI ne) dy 1 qs (nI nk) hs hd pu st nx an)) rfl d_M_same_26 ?_
    refine lv_if_ne (tgt := 47) hx hb d_M_same_29 (by decide) (fun _ => ?_) (fun z => absurd z (by decide))
    refine lv_iconst (v := 0) hx hb d_M_same_47 (by decide) ?_
    exact m_retz F hr hS (Nat.le_of_ble_eq_true rfl) (Nat.le_of_ble_eq_true rfl) rfl (Or.inl ⟨fun z => hz_3.f c_6 z.1, rfl, ⟨pu, st, nx, an, g, gv, rfl, h21, h22, h23, h24, h25, h26, h27, h28, h29, h30, h31, h32, h33, h34, h35, h36, h37, h38⟩, (by repeat' first | exact INN.rf | refine INN.u ?_ (by decide) (by decide))⟩) d_M_same_48
  · refine lv_aload_n hx hb d_M_same_9 rfl (lv_at hl 0 rfl) ?_
    refine lv_iload_n hx hb d_M_same_10 rfl (lv_at hl 2 rfl) ?_
    refine r_callV (k := 20) (i := 0) (q := ("RuleClassesModel", T_M, 30)) (fs := [.int (nI m0), .int (nI ne), .int dy, .int th, .int qs, .int (nI nk), .int hs, .int hd, .ref (A 21), .ref (A 22), .ref (A 23), .ref (A 24), .ref (A 25), .ref (A 26), .ref (A 27), .ref (A 28), .ref (A 29), .ref (A 30), .ref (A 31), .ref (A 32), .ref (A 33), .ref (A 34), .ref (A 35), .ref (A 36), .ref (A 37), .int pu, .int st, .int nx, .long an, .ref (A 38)]) (As := [.int n2]) (rest := [.ref a1]) F hS c_M_90 (k_M_isEdition G l htr V a1 A m0 ne nk dy th qs hs hd pu st nx an hne n2 h20) rfl h20 rfl hl.1 rfl (Nat.le_of_ble_eq_true rfl) d_M_same_11 ⟨Nat.le_of_ble_eq_true rfl, Nat.le_of_ble_eq_true rfl⟩ ⟨Nat.le_of_ble_eq_true rfl, Nat.le_of_ble_eq_true rfl⟩ (fun rv V1 H locs hR hS => ?_)
    obtain ⟨hV, bz_11, rfl, hz_11⟩ := hR
    rw [hV] at hS
    refine W.eq (g2 := F0 m 14 ls [.int bz_11, .ref a1]) rfl ?_
    refine lv_if_eq (tgt := 21) hx hb d_M_same_14 (by decide) (fun c_14 => ?_) (fun c_14 => ?_)
    · refine lv_iconst (v := 1) hx hb d_M_same_21 (by decide) ?_
      refine r_put (k := 20) (i := 0) F hS f_M_73 ct_M h20 rfl rfl (Nat.le_of_ble_eq_true rfl) d_M_same_22 (fun H locs hS => ?_)
      have hS : HS G s (uV V 20 0 (a1, oM A (nI m0) (nI ne) dy 1 qs (nI nk) hs hd pu st nx an)) H _ := hS
      refine lv_aload_n hx hb d_M_same_25 rfl (lv_at hl 0 rfl) ?_
      refine r_get (k := 20) (i := 0) F hS f_M_73.get (uV_self V 20 0 (a1, oM A (nI m0) (nI ne) dy 1 qs (nI nk) hs hd pu st nx an)) rfl d_M_same_26 ?_
      refine lv_if_ne (tgt := 47) hx hb d_M_same_29 (by decide) (fun _ => ?_) (fun z => absurd z (by decide))
      refine lv_iconst (v := 0) hx hb d_M_same_47 (by decide) ?_
      exact m_retz F hr hS (Nat.le_of_ble_eq_true rfl) (Nat.le_of_ble_eq_true rfl) rfl (Or.inl ⟨fun z => hz_11.f c_14 z.2, rfl, ⟨pu, st, nx, an, g, gv, rfl, h21, h22, h23, h24, h25, h26, h27, h28, h29, h30, h31, h32, h33, h34, h35, h36, h37, h38⟩, (by repeat' first | exact INN.rf | refine INN.u ?_ (by decide) (by decide))⟩) d_M_same_48
    · refine lv_iconst (v := 0) hx hb d_M_same_17 (by decide) ?_
      refine lv_goto (tgt := 22) hx hb d_M_same_18 (by decide) ?_
      refine r_put (k := 20) (i := 0) F hS f_M_73 ct_M h20 rfl rfl (Nat.le_of_ble_eq_true rfl) d_M_same_22 (fun H locs hS => ?_)
      have hS : HS G s (uV V 20 0 (a1, oM A (nI m0) (nI ne) dy 0 qs (nI nk) hs hd pu st nx an)) H _ := hS
      refine lv_aload_n hx hb d_M_same_25 rfl (lv_at hl 0 rfl) ?_
      refine r_get (k := 20) (i := 0) F hS f_M_73.get (uV_self V 20 0 (a1, oM A (nI m0) (nI ne) dy 0 qs (nI nk) hs hd pu st nx an)) rfl d_M_same_26 ?_
      refine lv_if_ne (tgt := 47) hx hb d_M_same_29 (by decide) (fun z => absurd z (by decide)) (fun _ => ?_)
      obtain ⟨i, hi, rfl⟩ := hz_3.t c_6
      obtain ⟨i2, hi2, rfl⟩ := hz_11.t c_14
      have hl16 := (hCD i hi).2.1.1
      have hl17 := (hCD i2 hi2).2.1.1
      refine lv_aload_n hx hb d_M_same_32 rfl (lv_at hl 0 rfl) ?_
      refine r_get (k := 20) (i := 0) F hS f_M_36.get (uV_self V 20 0 (a1, oM A (nI m0) (nI ne) dy 0 qs (nI nk) hs hd pu st nx an)) rfl d_M_same_33 ?_
      refine lv_iload_n hx hb d_M_same_36 rfl (lv_at hl 1 rfl) ?_
      refine r_iald (k := 28) (i := 0) F hS h28 (vp_in_nI (by omega) (by decide)) d_M_same_37 ?_
      rw [nI_clamp (by omega), (hCD i hi).1]
      refine lv_aload_n hx hb d_M_same_38 rfl (lv_at hl 0 rfl) ?_
      refine r_get (k := 20) (i := 0) F hS f_M_36.get (uV_self V 20 0 (a1, oM A (nI m0) (nI ne) dy 0 qs (nI nk) hs hd pu st nx an)) rfl d_M_same_39 ?_
      refine lv_iload_n hx hb d_M_same_42 rfl (lv_at hl 2 rfl) ?_
      refine r_iald (k := 28) (i := 0) F hS h28 (vp_in_nI (by omega) (by decide)) d_M_same_43 ?_
      rw [nI_clamp (by omega), (hCD i2 hi2).1]
      refine lv_icmp_eq (tgt := 49) hx hb d_M_same_44 (by decide) (fun c_44 => ?_) (fun c_44 => ?_)
      · have hll : ln i = ln i2 := (nI_eq (by omega) (by omega)).mp c_44
        refine lv_iconst (v := 0) hx hb d_M_same_49 (by decide) ?_
        refine lv_istore_n (lv' := [(3, .int 0), (0, .ref a1), (1, .int (nI i)), (2, .int (nI i2))]) hx hb d_M_same_50 rfl hl (by decide) rfl (fun ls hl => ?_)
        refine lp_M_same G l htr (uV V 20 0 (a1, oM A (nI m0) (nI ne) dy 0 qs (nI nk) hs hd pu st nx an)) a1 A m0 ne nk dy 0 qs hs hd pu st nx an mmn mpo mcs hne i i2 hi hi2 ln po cs hll hCD (uV_self V 20 0 (a1, oM A (nI m0) (nI ne) dy 0 qs (nI nk) hs hd pu st nx an)) h28 h29 h30 F hr (fun z hz => ?_) (ln i) 0 (by omega) (fun a ha => absurd ha (by omega)) _ _ _ hS (lv_sub hl [1, 2, 3, 0] rfl)
        exact Or.inr ⟨i, i2, hi, hi2, rfl, rfl, z, rfl, hz.iff ⟨fun y => ⟨hll, y⟩, fun y => y.2⟩, ⟨pu, st, nx, an, g, gv, rfl, h21, h22, h23, h24, h25, h26, h27, h28, h29, h30, h31, h32, h33, h34, h35, h36, h37, h38⟩, (by repeat' first | exact INN.rf | refine INN.u ?_ (by decide) (by decide))⟩
      · have hll : ¬ ln i = ln i2 := fun z => c_44 (congrArg nI z)
        refine lv_iconst (v := 0) hx hb d_M_same_47 (by decide) ?_
        exact m_retz F hr hS (Nat.le_of_ble_eq_true rfl) (Nat.le_of_ble_eq_true rfl) rfl (Or.inr ⟨i, i2, hi, hi2, rfl, rfl, _, rfl, Or.inr ⟨rfl, fun z => hll z.1⟩, ⟨pu, st, nx, an, g, gv, rfl, h21, h22, h23, h24, h25, h26, h27, h28, h29, h30, h31, h32, h33, h34, h35, h36, h37, h38⟩, (by repeat' first | exact INN.rf | refine INN.u ?_ (by decide) (by decide))⟩) d_M_same_48

set_option maxHeartbeats 4000000 in
set_option maxRecDepth 100000 in
theorem lp_M_counts (G : Gl) (l : Launch) (htr : l.stackTraces = false) (V : Vw) (a1 : Nat) (A : Nat → Nat) (m0 ne nk : Nat) (dy th qs hs hd : Int32) (pu st nx : Int32) (an : Int64) (mow mki med mmd : Nat → Int32) (hne : ne ≤ 24) (hed : ∀ j, j < ne → 0 ≤ med j) (o k d : Int32) (h20 : V 20 0 = some (a1, oM A (nI m0) (nI ne) dy th qs (nI nk) hs hd pu st nx an)) (h21 : V 21 0 = some ((A 21), aI G 24 mow)) (h22 : V 22 0 = some ((A 22), aI G 24 mki)) (h23 : V 23 0 = some ((A 23), aI G 24 med)) (h24 : V 24 0 = some ((A 24), aZ G 24 mmd)) {Rt : Option Value → Vw → Prop} {p : Program} {e : Env} {s : State} {m : MethodId} {args : Array Value} {below : List Frame} {meth : Method} {c : Code} (F : Bd G p l s m args meth c b_M_counts 6 "RuleClassesModel") (hr : meth.sig.returnType = (Option.some Jvm.ClassFile.FieldType.int)) (hq : Rt (some (.int (pCnt mow mki med mmd o k d ne).1)) V) :
    ∀ (n j : Nat), j + n = ne → ∀ (H : Heap) (locs : List Loc) (ls : Array Slot), HS G s V H locs → lv_has ls 6 [(0, .ref a1), (1, .int o), (2, .int k), (3, .int d), (4, .int ((pCnt mow mki med mmd o k d j).1)), (5, .int (nI j))] →
      W p l e ({ frames := 0, cells := 0, slots := 0, locals := 0 } : Room) s m args below meth c H locs 0 0 (MQ below (QcC G Rt) args s ({ frames := 0, cells := 0, slots := 0, locals := 0 } : Room).cells ({ frames := 0, cells := 0, slots := 0, locals := 0 } : Room).slots (aB G)) (F0 m 6 ls []) := by
  obtain ⟨hx, hb, hml, hown, hts, hK, hlk, -⟩ := id F
  intro n
  induction n with
  | zero =>
    intro j hjn H locs ls hS hl
    obtain rfl : ne = j := by omega
    refine lv_iload hx hb d_M_counts_6 (lv_at hl 5 rfl) ?_
    refine lv_aload_n hx hb d_M_counts_8 rfl (lv_at hl 0 rfl) ?_
    refine r_get (k := 20) (i := 0) F hS f_M_76.get h20 rfl d_M_counts_9 ?_
    refine lv_icmp_ge (tgt := 91) hx hb d_M_counts_12 (by decide) (fun c_12 => ?_) (fun c_12 => absurd (nI_le (by omega) (by omega)) c_12)
    refine lv_iload hx hb d_M_counts_91 (lv_at hl 4 rfl) ?_
    exact m_reti F hr hS (Nat.le_of_ble_eq_true rfl) (Nat.le_of_ble_eq_true rfl) hq d_M_counts_93
  | succ n ih =>
    intro j hjn H locs ls hS hl
    have hj : j < ne := by omega
    refine lv_iload hx hb d_M_counts_6 (lv_at hl 5 rfl) ?_
    refine lv_aload_n hx hb d_M_counts_8 rfl (lv_at hl 0 rfl) ?_
    refine r_get (k := 20) (i := 0) F hS f_M_76.get h20 rfl d_M_counts_9 ?_
    refine lv_icmp_ge (tgt := 91) hx hb d_M_counts_12 (by decide) (fun c_12 => absurd c_12 (nI_ge (by omega) (by omega))) (fun c_12 => ?_)
    refine lv_aload_n hx hb d_M_counts_15 rfl (lv_at hl 0 rfl) ?_
    refine r_get (k := 20) (i := 0) F hS f_M_23.get h20 rfl d_M_counts_16 ?_
    refine lv_iload hx hb d_M_counts_19 (lv_at hl 5 rfl) ?_
    refine r_zald (k := 24) (i := 0) F hS h24 (vp_in_nI (by omega) (by decide)) d_M_counts_21 ?_
    rw [nI_clamp (by omega)]
    refine lv_if_eq (tgt := 85) hx hb d_M_counts_22 (by decide) (fun c_22 => ?_) (fun c_22 => ?_)
    · refine lv_iinc (v := (nI (j + 1))) (lv' := [(5, .int (nI (j + 1))), (0, .ref a1), (1, .int o), (2, .int k), (3, .int d), (4, .int ((pCnt mow mki med mmd o k d j).1))]) hx hb d_M_counts_85 hl (k := 5) rfl (nI_1 j) (by decide) rfl (fun ls hl => ?_)
      refine lv_goto (tgt := 6) hx hb d_M_counts_88 (by decide) ?_
      have hp := (show pCnt mow mki med mmd o k d (j + 1) = pCnt mow mki med mmd o k d j from if_neg (fun z => z.1.1 c_22))
      exact ih (j + 1) (by omega) _ _ _ hS (by rw [hp]; exact lv_sub hl [1, 2, 3, 4, 5, 0] rfl)
    · refine lv_aload_n hx hb d_M_counts_25 rfl (lv_at hl 0 rfl) ?_
      refine r_get (k := 20) (i := 0) F hS f_M_13.get h20 rfl d_M_counts_26 ?_
      refine lv_iload hx hb d_M_counts_29 (lv_at hl 5 rfl) ?_
      refine r_iald (k := 21) (i := 0) F hS h21 (vp_in_nI (by omega) (by decide)) d_M_counts_31 ?_
      rw [nI_clamp (by omega)]
      refine lv_iload_n hx hb d_M_counts_32 rfl (lv_at hl 1 rfl) ?_
      refine lv_icmp_ne (tgt := 85) hx hb d_M_counts_33 (by decide) (fun c_33 => ?_) (fun c_33 => ?_)
      · refine lv_iinc (v := (nI (j + 1))) (lv' := [(5, .int (nI (j + 1))), (0, .ref a1), (1, .int o), (2, .int k), (3, .int d), (4, .int ((pCnt mow mki med mmd o k d j).1))]) hx hb d_M_counts_85 hl (k := 5) rfl (nI_1 j) (by decide) rfl (fun ls hl => ?_)
        refine lv_goto (tgt := 6) hx hb d_M_counts_88 (by decide) ?_
        have hp := (show pCnt mow mki med mmd o k d (j + 1) = pCnt mow mki med mmd o k d j from if_neg (fun z => c_33 z.1.2.1))
        exact ih (j + 1) (by omega) _ _ _ hS (by rw [hp]; exact lv_sub hl [1, 2, 3, 4, 5, 0] rfl)
      · refine lv_aload_n hx hb d_M_counts_36 rfl (lv_at hl 0 rfl) ?_
        refine r_get (k := 20) (i := 0) F hS f_M_17.get h20 rfl d_M_counts_37 ?_
        refine lv_iload hx hb d_M_counts_40 (lv_at hl 5 rfl) ?_
        refine r_iald (k := 22) (i := 0) F hS h22 (vp_in_nI (by omega) (by decide)) d_M_counts_42 ?_
        rw [nI_clamp (by omega)]
        refine lv_iload_n hx hb d_M_counts_43 rfl (lv_at hl 2 rfl) ?_
        refine lv_icmp_ne (tgt := 85) hx hb d_M_counts_44 (by decide) (fun c_44 => ?_) (fun c_44 => ?_)
        · refine lv_iinc (v := (nI (j + 1))) (lv' := [(5, .int (nI (j + 1))), (0, .ref a1), (1, .int o), (2, .int k), (3, .int d), (4, .int ((pCnt mow mki med mmd o k d j).1))]) hx hb d_M_counts_85 hl (k := 5) rfl (nI_1 j) (by decide) rfl (fun ls hl => ?_)
          refine lv_goto (tgt := 6) hx hb d_M_counts_88 (by decide) ?_
          have hp := (show pCnt mow mki med mmd o k d (j + 1) = pCnt mow mki med mmd o k d j from if_neg (fun z => c_44 z.1.2.2.1))
          exact ih (j + 1) (by omega) _ _ _ hS (by rw [hp]; exact lv_sub hl [1, 2, 3, 4, 5, 0] rfl)
        · refine lv_aload_n hx hb d_M_counts_47 rfl (lv_at hl 0 rfl) ?_
          refine r_get (k := 20) (i := 0) F hS f_M_20.get h20 rfl d_M_counts_48 ?_
          refine lv_iload hx hb d_M_counts_51 (lv_at hl 5 rfl) ?_
          refine r_iald (k := 23) (i := 0) F hS h23 (vp_in_nI (by omega) (by decide)) d_M_counts_53 ?_
          rw [nI_clamp (by omega)]
          refine lv_iload_n hx hb d_M_counts_54 rfl (lv_at hl 3 rfl) ?_
          refine lv_icmp_gt (tgt := 85) hx hb d_M_counts_55 (by decide) (fun c_55 => ?_) (fun c_55 => ?_)
          · refine lv_iinc (v := (nI (j + 1))) (lv' := [(5, .int (nI (j + 1))), (0, .ref a1), (1, .int o), (2, .int k), (3, .int d), (4, .int ((pCnt mow mki med mmd o k d j).1))]) hx hb d_M_counts_85 hl (k := 5) rfl (nI_1 j) (by decide) rfl (fun ls hl => ?_)
            refine lv_goto (tgt := 6) hx hb d_M_counts_88 (by decide) ?_
            have hp := (show pCnt mow mki med mmd o k d (j + 1) = pCnt mow mki med mmd o k d j from if_neg (fun z => absurd c_55 (Int32.not_lt.mpr z.1.2.2.2)))
            exact ih (j + 1) (by omega) _ _ _ hS (by rw [hp]; exact lv_sub hl [1, 2, 3, 4, 5, 0] rfl)
          · refine lv_iload hx hb d_M_counts_58 (lv_at hl 4 rfl) ?_
            refine lv_iconst (v := (-1)) hx hb d_M_counts_60 (by decide) ?_
            refine lv_icmp_eq (tgt := 81) hx hb d_M_counts_61 (by decide) (fun c_61 => ?_) (fun c_61 => ?_)
            · have e02 : (pCnt mow mki med mmd o k d j).2 = 0 := by
                rcases pCnt_2 mow mki med mmd o k d j with z | ⟨i0, h1, h2, h3⟩
                · exact z.2
                · exact absurd (h2.symm.trans c_61) (nI_nm1 (by omega))
              refine lv_iload hx hb d_M_counts_81 (lv_at hl 5 rfl) ?_
              refine lv_istore (lv' := [(4, .int (nI j)), (0, .ref a1), (1, .int o), (2, .int k), (3, .int d), (5, .int (nI j))]) hx hb d_M_counts_83 hl (by decide) rfl (fun ls hl => ?_)
              refine lv_iinc (v := (nI (j + 1))) (lv' := [(5, .int (nI (j + 1))), (4, .int (nI j)), (0, .ref a1), (1, .int o), (2, .int k), (3, .int d)]) hx hb d_M_counts_85 hl (k := 5) rfl (nI_1 j) (by decide) rfl (fun ls hl => ?_)
              refine lv_goto (tgt := 6) hx hb d_M_counts_88 (by decide) ?_
              have hp := (show pCnt mow mki med mmd o k d (j + 1) = (nI j, med j) from if_pos ⟨⟨c_22, c_33, c_44, Int32.not_lt.mp c_55⟩, by rw [e02]; exact hed j hj⟩)
              exact ih (j + 1) (by omega) _ _ _ hS (by rw [hp]; exact lv_sub hl [2, 3, 4, 5, 1, 0] rfl)
            · obtain ⟨i0, hi0, e01, e02⟩ := (pCnt_2 mow mki med mmd o k d j).resolve_left (fun z => c_61 z.1)
              refine lv_aload_n hx hb d_M_counts_64 rfl (lv_at hl 0 rfl) ?_
              refine r_get (k := 20) (i := 0) F hS f_M_20.get h20 rfl d_M_counts_65 ?_
              refine lv_iload hx hb d_M_counts_68 (lv_at hl 5 rfl) ?_
              refine r_iald (k := 23) (i := 0) F hS h23 (vp_in_nI (by omega) (by decide)) d_M_counts_70 ?_
              rw [nI_clamp (by omega)]
              refine lv_aload_n hx hb d_M_counts_71 rfl (lv_at hl 0 rfl) ?_
              refine r_get (k := 20) (i := 0) F hS f_M_20.get h20 rfl d_M_counts_72 ?_
              refine lv_iload hx hb d_M_counts_75 (lv_at hl 4 rfl) ?_
              rw [e01]
              refine r_iald (k := 23) (i := 0) F hS h23 (vp_in_nI (by omega) (by decide)) d_M_counts_77 ?_
              rw [nI_clamp (by omega)]
              refine lv_icmp_lt (tgt := 85) hx hb d_M_counts_78 (by decide) (fun c_78 => ?_) (fun c_78 => ?_)
              · refine lv_iinc (v := (nI (j + 1))) (lv' := [(5, .int (nI (j + 1))), (0, .ref a1), (1, .int o), (2, .int k), (3, .int d), (4, .int ((pCnt mow mki med mmd o k d j).1))]) hx hb d_M_counts_85 hl (k := 5) rfl (nI_1 j) (by decide) rfl (fun ls hl => ?_)
                refine lv_goto (tgt := 6) hx hb d_M_counts_88 (by decide) ?_
                have hp := (show pCnt mow mki med mmd o k d (j + 1) = pCnt mow mki med mmd o k d j from if_neg (fun z => absurd c_78 (Int32.not_lt.mpr (by have z2 := z.2; rw [e02] at z2; exact z2))))
                exact ih (j + 1) (by omega) _ _ _ hS (by rw [hp]; exact lv_sub hl [1, 2, 3, 4, 5, 0] rfl)
              · refine lv_iload hx hb d_M_counts_81 (lv_at hl 5 rfl) ?_
                refine lv_istore (lv' := [(4, .int (nI j)), (0, .ref a1), (1, .int o), (2, .int k), (3, .int d), (5, .int (nI j))]) hx hb d_M_counts_83 hl (by decide) rfl (fun ls hl => ?_)
                refine lv_iinc (v := (nI (j + 1))) (lv' := [(5, .int (nI (j + 1))), (4, .int (nI j)), (0, .ref a1), (1, .int o), (2, .int k), (3, .int d)]) hx hb d_M_counts_85 hl (k := 5) rfl (nI_1 j) (by decide) rfl (fun ls hl => ?_)
                refine lv_goto (tgt := 6) hx hb d_M_counts_88 (by decide) ?_
                have hp := (show pCnt mow mki med mmd o k d (j + 1) = (nI j, med j) from if_pos ⟨⟨c_22, c_33, c_44, Int32.not_lt.mp c_55⟩, by rw [e02]; exact Int32.not_lt.mp c_78⟩)
                exact ih (j + 1) (by omega) _ _ _ hS (by rw [hp]; exact lv_sub hl [2, 3, 4, 5, 1, 0] rfl)
set_option maxHeartbeats 4000000 in
set_option maxRecDepth 100000 in
theorem k_M_counts (G : Gl) (l : Launch) (htr : l.stackTraces = false) (V : Vw) (a1 : Nat) (A : Nat → Nat) (m0 ne nk : Nat) (dy th qs hs hd : Int32) (pu st nx : Int32) (an : Int64) (mow mki med mmd : Nat → Int32) (hne : ne ≤ 24) (hed : ∀ j, j < ne → 0 ≤ med j) (o k d : Int32) (h20 : V 20 0 = some (a1, oM A (nI m0) (nI ne) dy th qs (nI nk) hs hd pu st nx an)) (h21 : V 21 0 = some ((A 21), aI G 24 mow)) (h22 : V 22 0 = some ((A 22), aI G 24 mki)) (h23 : V 23 0 = some ((A 23), aI G 24 med)) (h24 : V 24 0 = some ((A 24), aZ G 24 mmd)) :
    Cm G l y_M_counts b_M_counts 6 (Option.some Jvm.ClassFile.FieldType.int) { frames := 0, cells := 0, slots := 0, locals := 0 } V [.ref a1, .int o, .int k, .int d] (fun rv V' => rv = some (.int (pCnt mow mki med mmd o k d ne).1) ∧ V' = V) := by
  refine Cm.of htr (by decide) (Nat.le_of_ble_eq_true rfl) ?_
  intro p e s m args below meth c ls F hr hnm hS hl
  obtain ⟨hx, hb, hml, hown, hts, hK, hlk, -⟩ := id F
  have hl : lv_has ls 6 [(0, .ref a1), (1, .int o), (2, .int k), (3, .int d)] := hl
  refine lv_iconst (v := (-1)) hx hb d_M_counts_0 (by decide) ?_
  refine lv_istore (lv' := [(4, .int (-1)), (0, .ref a1), (1, .int o), (2, .int k), (3, .int d)]) hx hb d_M_counts_1 hl (by decide) rfl (fun ls hl => ?_)
  refine lv_iconst (v := 0) hx hb d_M_counts_3 (by decide) ?_
  refine lv_istore (lv' := [(5, .int 0), (4, .int (-1)), (0, .ref a1), (1, .int o), (2, .int k), (3, .int d)]) hx hb d_M_counts_4 hl (by decide) rfl (fun ls hl => ?_)
  exact lp_M_counts G l htr V a1 A m0 ne nk dy th qs hs hd pu st nx an mow mki med mmd hne hed o k d h20 h21 h22 h23 h24 F hr ⟨rfl, rfl⟩ ne 0 (by omega) _ _ _ hS (lv_sub hl [2, 3, 4, 5, 1, 0] rfl)
set_option maxHeartbeats 4000000 in
set_option maxRecDepth 100000 in
theorem k_M_edition (G : Gl) (l : Launch) (htr : l.stackTraces = false) (V : Vw) (a1 : Nat) (A : Nat → Nat) (m0 ne nk : Nat) (dy th qs hs hd : Int32) (mow mki med mmd mak msk mfk mmn mpo mcs fa mkf ff fs mss mot : Nat → Int32) (hne : ne ≤ 24) (hW : MW G V a1 A (nI m0) (nI ne) dy th qs (nI nk) hs hd mow mki med mmd mak msk mfk mmn mpo mcs fa mkf ff fs mss mot) (o k d : Int32) (hed : ∀ j, j < ne → 0 ≤ med j)  :
    Cm G l y_M_edition b_M_edition 4 (Option.some Jvm.ClassFile.FieldType.int) { frames := 2, cells := 0, slots := 0, locals := 43 } V [.ref a1, .int o, .int k, .int d] (fun rv V' => (¬ ((∃ on kn : Nat, on ≤ 5 ∧ kn ≤ 2 ∧ o = nI on ∧ k = nI kn) ∧ (0 ≤ d ∧ d ≤ 1000)) ∧ rv = some (.int 0) ∧ MW G V' a1 A (nI m0) (nI ne) dy 1 qs (nI nk) hs hd mow mki med mmd mak msk mfk mmn mpo mcs fa mkf ff fs mss mot ∧ INN V V') ∨ (((∃ on kn : Nat, on ≤ 5 ∧ kn ≤ 2 ∧ o = nI on ∧ k = nI kn) ∧ (0 ≤ d ∧ d ≤ 1000)) ∧ rv = some (.int (pCnt mow mki med mmd o k d ne).1) ∧ MW G V' a1 A (nI m0) (nI ne) dy 0 qs (nI nk) hs hd mow mki med mmd mak msk mfk mmn mpo mcs fa mkf ff fs mss mot ∧ INN V V')) := by
  refine Cm.of htr (by decide) (Nat.le_of_ble_eq_true rfl) ?_
  intro p e s m args below meth c ls F hr hnm hS hl
  obtain ⟨hx, hb, hml, hown, hts, hK, hlk, -⟩ := id F
  have hl : lv_has ls 4 [(0, .ref a1), (1, .int o), (2, .int k), (3, .int d)] := hl
  obtain ⟨pu, st, nx, an, g, gv, h20, h21, h22, h23, h24, h25, h26, h27, h28, h29, h30, h31, h32, h33, h34, h35, h36, h37, h38⟩ := hW
  refine lv_aload_n hx hb d_M_edition_0 rfl (lv_at hl 0 rfl) ?_
  refine lv_iload_n hx hb d_M_edition_1 rfl (lv_at hl 1 rfl) ?_
  refine lv_iload_n hx hb d_M_edition_2 rfl (lv_at hl 2 rfl) ?_
  refine r_callS (As := [.int o, .int k]) (rest := [.ref a1]) F hS c_M_86 (k_M_isPlace G l htr V o k) rfl hl.1 rfl (Nat.le_of_ble_eq_true rfl) d_M_edition_3 ⟨Nat.le_of_ble_eq_true rfl, Nat.le_of_ble_eq_true rfl⟩ ⟨Nat.le_of_ble_eq_true rfl, Nat.le_of_ble_eq_true rfl⟩ (fun rv V1 H locs hR hS => ?_)
  obtain ⟨hV, bz_3, rfl, hz_3⟩ := hR
  rw [hV] at hS
  refine W.eq (g2 := F0 m 6 ls [.int bz_3, .ref a1]) rfl ?_
  refine lv_if_eq (tgt := 24) hx hb d_M_edition_6 (by decide) (fun c_6 => ?_) (fun c_6 => ?_)
  · refine lv_iconst (v := 1) hx hb d_M_edition_24 (by decide) ?_
    refine r_put (k := 20) (i := 0) F hS f_M_73 ct_M h20 rfl rfl (Nat.le_of_ble_eq_true rfl) d_M_edition_25 (fun H locs hS => ?_)
    have hS : HS G s (uV V 20 0 (a1, oM A (nI m0) (nI ne) dy 1 qs (nI nk) hs hd pu st nx an)) H _ := hS
    refine lv_aload_n hx hb d_M_edition_28 rfl (lv_at hl 0 rfl) ?_
    refine r_get (k := 20) (i := 0) F hS f_M_73.get (uV_self V 20 0 (a1, oM A (nI m0) (nI ne) dy 1 qs (nI nk) hs hd pu st nx an)) rfl d_M_edition_29 ?_
    refine lv_if_eq (tgt := 39) hx hb d_M_edition_32 (by decide) (fun z => absurd z (by decide)) (fun _ => ?_)
    refine lv_iconst (v := 0) hx hb d_M_edition_35 (by decide) ?_
    refine lv_goto (tgt := 46) hx hb d_M_edition_36 (by decide) ?_
    exact m_reti F hr hS (Nat.le_of_ble_eq_true rfl) (Nat.le_of_ble_eq_true rfl) (Or.inl ⟨fun z => hz_3.f c_6 z.1, rfl, ⟨pu, st, nx, an, g, gv, rfl, h21, h22, h23, h24, h25, h26, h27, h28, h29, h30, h31, h32, h33, h34, h35, h36, h37, h38⟩, (by repeat' first | exact INN.rf | refine INN.u ?_ (by decide) (by decide))⟩) d_M_edition_46
  · refine lv_iload_n hx hb d_M_edition_9 rfl (lv_at hl 3 rfl) ?_
    refine lv_iconst (v := 0) hx hb d_M_edition_10 (by decide) ?_
    refine lv_sipush (v := 1000) hx hb d_M_edition_11 (by decide) ?_
    refine r_callS (As := [.int d, .int 0, .int 1000]) (rest := [.ref a1]) F hS c_M_79 (k_M_within G l htr V d 0 1000) rfl hl.1 rfl (Nat.le_of_ble_eq_true rfl) d_M_edition_14 ⟨Nat.le_of_ble_eq_true rfl, Nat.le_of_ble_eq_true rfl⟩ ⟨Nat.le_of_ble_eq_true rfl, Nat.le_of_ble_eq_true rfl⟩ (fun rv V1 H locs hR hS => ?_)
    obtain ⟨hV, bz_14, rfl, hz_14⟩ := hR
    rw [hV] at hS
    refine W.eq (g2 := F0 m 17 ls [.int bz_14, .ref a1]) rfl ?_
    refine lv_if_eq (tgt := 24) hx hb d_M_edition_17 (by decide) (fun c_17 => ?_) (fun c_17 => ?_)
    · refine lv_iconst (v := 1) hx hb d_M_edition_24 (by decide) ?_
      refine r_put (k := 20) (i := 0) F hS f_M_73 ct_M h20 rfl rfl (Nat.le_of_ble_eq_true rfl) d_M_edition_25 (fun H locs hS => ?_)
      have hS : HS G s (uV V 20 0 (a1, oM A (nI m0) (nI ne) dy 1 qs (nI nk) hs hd pu st nx an)) H _ := hS
      refine lv_aload_n hx hb d_M_edition_28 rfl (lv_at hl 0 rfl) ?_
      refine r_get (k := 20) (i := 0) F hS f_M_73.get (uV_self V 20 0 (a1, oM A (nI m0) (nI ne) dy 1 qs (nI nk) hs hd pu st nx an)) rfl d_M_edition_29 ?_
      refine lv_if_eq (tgt := 39) hx hb d_M_edition_32 (by decide) (fun z => absurd z (by decide)) (fun _ => ?_)
      refine lv_iconst (v := 0) hx hb d_M_edition_35 (by decide) ?_
      refine lv_goto (tgt := 46) hx hb d_M_edition_36 (by decide) ?_
      exact m_reti F hr hS (Nat.le_of_ble_eq_true rfl) (Nat.le_of_ble_eq_true rfl) (Or.inl ⟨fun z => hz_14.f c_17 z.2, rfl, ⟨pu, st, nx, an, g, gv, rfl, h21, h22, h23, h24, h25, h26, h27, h28, h29, h30, h31, h32, h33, h34, h35, h36, h37, h38⟩, (by repeat' first | exact INN.rf | refine INN.u ?_ (by decide) (by decide))⟩) d_M_edition_46
    · refine lv_iconst (v := 0) hx hb d_M_edition_20 (by decide) ?_
      refine lv_goto (tgt := 25) hx hb d_M_edition_21 (by decide) ?_
      refine r_put (k := 20) (i := 0) F hS f_M_73 ct_M h20 rfl rfl (Nat.le_of_ble_eq_true rfl) d_M_edition_25 (fun H locs hS => ?_)
      have hS : HS G s (uV V 20 0 (a1, oM A (nI m0) (nI ne) dy 0 qs (nI nk) hs hd pu st nx an)) H _ := hS
      refine lv_aload_n hx hb d_M_edition_28 rfl (lv_at hl 0 rfl) ?_
      refine r_get (k := 20) (i := 0) F hS f_M_73.get (uV_self V 20 0 (a1, oM A (nI m0) (nI ne) dy 0 qs (nI nk) hs hd pu st nx an)) rfl d_M_edition_29 ?_
      refine lv_if_eq (tgt := 39) hx hb d_M_edition_32 (by decide) (fun _ => ?_) (fun z => absurd z (by decide))
      refine lv_aload_n hx hb d_M_edition_39 rfl (lv_at hl 0 rfl) ?_
      refine lv_iload_n hx hb d_M_edition_40 rfl (lv_at hl 1 rfl) ?_
      refine lv_iload_n hx hb d_M_edition_41 rfl (lv_at hl 2 rfl) ?_
      refine lv_iload_n hx hb d_M_edition_42 rfl (lv_at hl 3 rfl) ?_
      refine r_callV (k := 20) (i := 0) (q := ("RuleClassesModel", T_M, 30)) (fs := [.int (nI m0), .int (nI ne), .int dy, .int 0, .int qs, .int (nI nk), .int hs, .int hd, .ref (A 21), .ref (A 22), .ref (A 23), .ref (A 24), .ref (A 25), .ref (A 26), .ref (A 27), .ref (A 28), .ref (A 29), .ref (A 30), .ref (A 31), .ref (A 32), .ref (A 33), .ref (A 34), .ref (A 35), .ref (A 36), .ref (A 37), .int pu, .int st, .int nx, .long an, .ref (A 38)]) (As := [.int o, .int k, .int d]) (rest := []) F hS c_M_134 (k_M_counts G l htr (uV V 20 0 (a1, oM A (nI m0) (nI ne) dy 0 qs (nI nk) hs hd pu st nx an)) a1 A m0 ne nk dy 0 qs hs hd pu st nx an mow mki med mmd hne hed o k d (uV_self V 20 0 (a1, oM A (nI m0) (nI ne) dy 0 qs (nI nk) hs hd pu st nx an)) h21 h22 h23 h24) rfl (uV_self V 20 0 (a1, oM A (nI m0) (nI ne) dy 0 qs (nI nk) hs hd pu st nx an)) rfl hl.1 rfl (Nat.le_of_ble_eq_true rfl) d_M_edition_43 ⟨Nat.le_of_ble_eq_true rfl, Nat.le_of_ble_eq_true rfl⟩ ⟨Nat.le_of_ble_eq_true rfl, Nat.le_of_ble_eq_true rfl⟩ (fun rv V1 H locs hR hS => ?_)
      obtain ⟨rfl, hV⟩ := hR
      rw [hV] at hS
      refine W.eq (g2 := F0 m 46 ls [.int ((pCnt mow mki med mmd o k d ne).1)]) rfl ?_
      exact m_reti F hr hS (Nat.le_of_ble_eq_true rfl) (Nat.le_of_ble_eq_true rfl) (Or.inr ⟨⟨hz_3.t c_6, hz_14.t c_17⟩, rfl, ⟨pu, st, nx, an, g, gv, rfl, h21, h22, h23, h24, h25, h26, h27, h28, h29, h30, h31, h32, h33, h34, h35, h36, h37, h38⟩, (by repeat' first | exact INN.rf | refine INN.u ?_ (by decide) (by decide))⟩) d_M_edition_46
set_option maxHeartbeats 4000000 in
set_option maxRecDepth 100000 in
theorem k_M_failed (G : Gl) (l : Launch) (htr : l.stackTraces = false) (V : Vw) (a1 : Nat) (A : Nat → Nat) (m0 ne nk : Nat) (dy th qs hs hd : Int32) (mow mki med mmd mak msk mfk mmn mpo mcs fa mkf ff fs mss mot : Nat → Int32) (hne : ne ≤ 24) (hW : MW G V a1 A (nI m0) (nI ne) dy th qs (nI nk) hs hd mow mki med mmd mak msk mfk mmn mpo mcs fa mkf ff fs mss mot) (o w : Int32)  :
    Cm G l y_M_failed b_M_failed 3 (Option.some Jvm.ClassFile.FieldType.int) { frames := 1, cells := 0, slots := 0, locals := 22 } V [.ref a1, .int o, .int w] (fun rv V' => (¬ ((0 ≤ o ∧ o ≤ 5) ∧ (0 ≤ w ∧ w ≤ 5)) ∧ rv = some (.int 0) ∧ MW G V' a1 A (nI m0) (nI ne) dy 1 qs (nI nk) hs hd mow mki med mmd mak msk mfk mmn mpo mcs fa mkf ff fs mss mot ∧ INN V V') ∨ ∃ on wn : Nat, on ≤ 5 ∧ wn ≤ 5 ∧ o = nI on ∧ w = nI wn ∧ rv = some (.int (fs (6 * on + wn))) ∧ MW G V' a1 A (nI m0) (nI ne) dy 0 qs (nI nk) hs hd mow mki med mmd mak msk mfk mmn mpo mcs fa mkf ff fs mss mot ∧ INN V V') := by
  refine Cm.of htr (by decide) (Nat.le_of_ble_eq_true rfl) ?_
  intro p e s m args below meth c ls F hr hnm hS hl
  obtain ⟨hx, hb, hml, hown, hts, hK, hlk, -⟩ := id F
  have hl : lv_has ls 3 [(0, .ref a1), (1, .int o), (2, .int w)] := hl
  obtain ⟨pu, st, nx, an, g, gv, h20, h21, h22, h23, h24, h25, h26, h27, h28, h29, h30, h31, h32, h33, h34, h35, h36, h37, h38⟩ := hW
  refine lv_aload_n hx hb d_M_failed_0 rfl (lv_at hl 0 rfl) ?_
  refine lv_iload_n hx hb d_M_failed_1 rfl (lv_at hl 1 rfl) ?_
  refine lv_iconst (v := 0) hx hb d_M_failed_2 (by decide) ?_
  refine lv_iconst (v := 5) hx hb d_M_failed_3 (by decide) ?_
  refine r_callS (As := [.int o, .int 0, .int 5]) (rest := [.ref a1]) F hS c_M_79 (k_M_within G l htr V o 0 5) rfl hl.1 rfl (Nat.le_of_ble_eq_true rfl) d_M_failed_4 ⟨Nat.le_of_ble_eq_true rfl, Nat.le_of_ble_eq_true rfl⟩ ⟨Nat.le_of_ble_eq_true rfl, Nat.le_of_ble_eq_true rfl⟩ (fun rv V1 H locs hR hS => ?_)
  obtain ⟨hV, bz_4, rfl, hz_4⟩ := hR
  rw [hV] at hS
  refine W.eq (g2 := F0 m 7 ls [.int bz_4, .ref a1]) rfl ?_
  refine lv_if_eq (tgt := 23) hx hb d_M_failed_7 (by decide) (fun c_7 => ?_) (fun c_7 => ?_)
  · refine lv_iconst (v := 1) hx hb d_M_failed_23 (by decide) ?_
    refine r_put (k := 20) (i := 0) F hS f_M_73 ct_M h20 rfl rfl (Nat.le_of_ble_eq_true rfl) d_M_failed_24 (fun H locs hS => ?_)
    have hS : HS G s (uV V 20 0 (a1, oM A (nI m0) (nI ne) dy 1 qs (nI nk) hs hd pu st nx an)) H _ := hS
    refine lv_aload_n hx hb d_M_failed_27 rfl (lv_at hl 0 rfl) ?_
    refine r_get (k := 20) (i := 0) F hS f_M_73.get (uV_self V 20 0 (a1, oM A (nI m0) (nI ne) dy 1 qs (nI nk) hs hd pu st nx an)) rfl d_M_failed_28 ?_
    refine lv_if_eq (tgt := 38) hx hb d_M_failed_31 (by decide) (fun z => absurd z (by decide)) (fun _ => ?_)
    refine lv_iconst (v := 0) hx hb d_M_failed_34 (by decide) ?_
    refine lv_goto (tgt := 49) hx hb d_M_failed_35 (by decide) ?_
    exact m_reti F hr hS (Nat.le_of_ble_eq_true rfl) (Nat.le_of_ble_eq_true rfl) (Or.inl ⟨fun z => hz_4.f c_7 z.1, rfl, ⟨pu, st, nx, an, g, gv, rfl, h21, h22, h23, h24, h25, h26, h27, h28, h29, h30, h31, h32, h33, h34, h35, h36, h37, h38⟩, (by repeat' first | exact INN.rf | refine INN.u ?_ (by decide) (by decide))⟩) d_M_failed_49
  · refine lv_iload_n hx hb d_M_failed_10 rfl (lv_at hl 2 rfl) ?_
    refine lv_iconst (v := 0) hx hb d_M_failed_11 (by decide) ?_
    refine lv_iconst (v := 5) hx hb d_M_failed_12 (by decide) ?_
    refine r_callS (As := [.int w, .int 0, .int 5]) (rest := [.ref a1]) F hS c_M_79 (k_M_within G l htr V w 0 5) rfl hl.1 rfl (Nat.le_of_ble_eq_true rfl) d_M_failed_13 ⟨Nat.le_of_ble_eq_true rfl, Nat.le_of_ble_eq_true rfl⟩ ⟨Nat.le_of_ble_eq_true rfl, Nat.le_of_ble_eq_true rfl⟩ (fun rv V1 H locs hR hS => ?_)
    obtain ⟨hV, bz_13, rfl, hz_13⟩ := hR
    rw [hV] at hS
    refine W.eq (g2 := F0 m 16 ls [.int bz_13, .ref a1]) rfl ?_
    refine lv_if_eq (tgt := 23) hx hb d_M_failed_16 (by decide) (fun c_16 => ?_) (fun c_16 => ?_)
    · refine lv_iconst (v := 1) hx hb d_M_failed_23 (by decide) ?_
      refine r_put (k := 20) (i := 0) F hS f_M_73 ct_M h20 rfl rfl (Nat.le_of_ble_eq_true rfl) d_M_failed_24 (fun H locs hS => ?_)
      have hS : HS G s (uV V 20 0 (a1, oM A (nI m0) (nI ne) dy 1 qs (nI nk) hs hd pu st nx an)) H _ := hS
      refine lv_aload_n hx hb d_M_failed_27 rfl (lv_at hl 0 rfl) ?_
      refine r_get (k := 20) (i := 0) F hS f_M_73.get (uV_self V 20 0 (a1, oM A (nI m0) (nI ne) dy 1 qs (nI nk) hs hd pu st nx an)) rfl d_M_failed_28 ?_
      refine lv_if_eq (tgt := 38) hx hb d_M_failed_31 (by decide) (fun z => absurd z (by decide)) (fun _ => ?_)
      refine lv_iconst (v := 0) hx hb d_M_failed_34 (by decide) ?_
      refine lv_goto (tgt := 49) hx hb d_M_failed_35 (by decide) ?_
      exact m_reti F hr hS (Nat.le_of_ble_eq_true rfl) (Nat.le_of_ble_eq_true rfl) (Or.inl ⟨fun z => hz_13.f c_16 z.2, rfl, ⟨pu, st, nx, an, g, gv, rfl, h21, h22, h23, h24, h25, h26, h27, h28, h29, h30, h31, h32, h33, h34, h35, h36, h37, h38⟩, (by repeat' first | exact INN.rf | refine INN.u ?_ (by decide) (by decide))⟩) d_M_failed_49
    · refine lv_iconst (v := 0) hx hb d_M_failed_19 (by decide) ?_
      refine lv_goto (tgt := 24) hx hb d_M_failed_20 (by decide) ?_
      refine r_put (k := 20) (i := 0) F hS f_M_73 ct_M h20 rfl rfl (Nat.le_of_ble_eq_true rfl) d_M_failed_24 (fun H locs hS => ?_)
      have hS : HS G s (uV V 20 0 (a1, oM A (nI m0) (nI ne) dy 0 qs (nI nk) hs hd pu st nx an)) H _ := hS
      refine lv_aload_n hx hb d_M_failed_27 rfl (lv_at hl 0 rfl) ?_
      refine r_get (k := 20) (i := 0) F hS f_M_73.get (uV_self V 20 0 (a1, oM A (nI m0) (nI ne) dy 0 qs (nI nk) hs hd pu st nx an)) rfl d_M_failed_28 ?_
      refine lv_if_eq (tgt := 38) hx hb d_M_failed_31 (by decide) (fun _ => ?_) (fun z => absurd z (by decide))
      obtain ⟨on, hon, rfl⟩ := (in_iff (n := 5) (by decide)).mp (hz_4.t c_7)
      obtain ⟨wn, hwn, rfl⟩ := (in_iff (n := 5) (by decide)).mp (hz_13.t c_16)
      refine lv_aload_n hx hb d_M_failed_38 rfl (lv_at hl 0 rfl) ?_
      refine r_get (k := 20) (i := 0) F hS f_M_54.get (uV_self V 20 0 (a1, oM A (nI m0) (nI ne) dy 0 qs (nI nk) hs hd pu st nx an)) rfl d_M_failed_39 ?_
      refine lv_bipush (v := 6) hx hb d_M_failed_42 (by decide) ?_
      refine lv_iload_n hx hb d_M_failed_44 rfl (lv_at hl 1 rfl) ?_
      refine lv_imul hx hb d_M_failed_45 ?_
      refine lv_iload_n hx hb d_M_failed_46 rfl (lv_at hl 2 rfl) ?_
      refine lv_iadd hx hb d_M_failed_47 ?_
      rw [show (6 : Int32) * nI on + nI wn = nI (6 * on + wn) from nI_ma 6 on wn]
      refine r_iald (k := 34) (i := 0) F hS h34 (vp_in_nI (by omega) (by decide)) d_M_failed_48 ?_
      rw [nI_clamp (by omega)]
      exact m_reti F hr hS (Nat.le_of_ble_eq_true rfl) (Nat.le_of_ble_eq_true rfl) (Or.inr ⟨on, wn, hon, hwn, rfl, rfl, rfl, ⟨pu, st, nx, an, g, gv, rfl, h21, h22, h23, h24, h25, h26, h27, h28, h29, h30, h31, h32, h33, h34, h35, h36, h37, h38⟩, (by repeat' first | exact INN.rf | refine INN.u ?_ (by decide) (by decide))⟩) d_M_failed_49
set_option maxHeartbeats 4000000 in
set_option maxRecDepth 100000 in
theorem k_M_otherwise (G : Gl) (l : Launch) (htr : l.stackTraces = false) (V : Vw) (a1 : Nat) (A : Nat → Nat) (m0 ne nk : Nat) (dy th qs hs hd : Int32) (mow mki med mmd mak msk mfk mmn mpo mcs fa mkf ff fs mss mot : Nat → Int32) (hne : ne ≤ 24) (hW : MW G V a1 A (nI m0) (nI ne) dy th qs (nI nk) hs hd mow mki med mmd mak msk mfk mmn mpo mcs fa mkf ff fs mss mot) (o k : Int32)  :
    Cm G l y_M_otherwise b_M_otherwise 3 (Option.some Jvm.ClassFile.FieldType.int) { frames := 2, cells := 0, slots := 0, locals := 43 } V [.ref a1, .int o, .int k] (fun rv V' => (¬ (∃ on kn : Nat, on ≤ 5 ∧ kn ≤ 2 ∧ o = nI on ∧ k = nI kn) ∧ rv = some (.int 0) ∧ MW G V' a1 A (nI m0) (nI ne) dy 1 qs (nI nk) hs hd mow mki med mmd mak msk mfk mmn mpo mcs fa mkf ff fs mss mot ∧ INN V V') ∨ ∃ on kn : Nat, on ≤ 5 ∧ kn ≤ 2 ∧ o = nI on ∧ k = nI kn ∧ rv = some (.int (mot (3 * on + kn))) ∧ MW G V' a1 A (nI m0) (nI ne) dy 0 qs (nI nk) hs hd mow mki med mmd mak msk mfk mmn mpo mcs fa mkf ff fs mss mot ∧ INN V V') := by
  refine Cm.of htr (by decide) (Nat.le_of_ble_eq_true rfl) ?_
  intro p e s m args below meth c ls F hr hnm hS hl
  obtain ⟨hx, hb, hml, hown, hts, hK, hlk, -⟩ := id F
  have hl : lv_has ls 3 [(0, .ref a1), (1, .int o), (2, .int k)] := hl
  obtain ⟨pu, st, nx, an, g, gv, h20, h21, h22, h23, h24, h25, h26, h27, h28, h29, h30, h31, h32, h33, h34, h35, h36, h37, h38⟩ := hW
  refine lv_aload_n hx hb d_M_otherwise_0 rfl (lv_at hl 0 rfl) ?_
  refine lv_iload_n hx hb d_M_otherwise_1 rfl (lv_at hl 1 rfl) ?_
  refine lv_iload_n hx hb d_M_otherwise_2 rfl (lv_at hl 2 rfl) ?_
  refine r_callS (As := [.int o, .int k]) (rest := [.ref a1]) F hS c_M_86 (k_M_isPlace G l htr V o k) rfl hl.1 rfl (Nat.le_of_ble_eq_true rfl) d_M_otherwise_3 ⟨Nat.le_of_ble_eq_true rfl, Nat.le_of_ble_eq_true rfl⟩ ⟨Nat.le_of_ble_eq_true rfl, Nat.le_of_ble_eq_true rfl⟩ (fun rv V1 H locs hR hS => ?_)
  obtain ⟨hV, bz_3, rfl, hz_3⟩ := hR
  rw [hV] at hS
  refine W.eq (g2 := F0 m 6 ls [.int bz_3, .ref a1]) rfl ?_
  refine lv_if_eq (tgt := 13) hx hb d_M_otherwise_6 (by decide) (fun c_6 => ?_) (fun c_6 => ?_)
  · refine lv_iconst (v := 1) hx hb d_M_otherwise_13 (by decide) ?_
    refine r_put (k := 20) (i := 0) F hS f_M_73 ct_M h20 rfl rfl (Nat.le_of_ble_eq_true rfl) d_M_otherwise_14 (fun H locs hS => ?_)
    have hS : HS G s (uV V 20 0 (a1, oM A (nI m0) (nI ne) dy 1 qs (nI nk) hs hd pu st nx an)) H _ := hS
    refine lv_aload_n hx hb d_M_otherwise_17 rfl (lv_at hl 0 rfl) ?_
    refine r_get (k := 20) (i := 0) F hS f_M_73.get (uV_self V 20 0 (a1, oM A (nI m0) (nI ne) dy 1 qs (nI nk) hs hd pu st nx an)) rfl d_M_otherwise_18 ?_
    refine lv_if_eq (tgt := 28) hx hb d_M_otherwise_21 (by decide) (fun z => absurd z (by decide)) (fun _ => ?_)
    refine lv_iconst (v := 0) hx hb d_M_otherwise_24 (by decide) ?_
    refine lv_goto (tgt := 38) hx hb d_M_otherwise_25 (by decide) ?_
    exact m_reti F hr hS (Nat.le_of_ble_eq_true rfl) (Nat.le_of_ble_eq_true rfl) (Or.inl ⟨hz_3.f c_6, rfl, ⟨pu, st, nx, an, g, gv, rfl, h21, h22, h23, h24, h25, h26, h27, h28, h29, h30, h31, h32, h33, h34, h35, h36, h37, h38⟩, (by repeat' first | exact INN.rf | refine INN.u ?_ (by decide) (by decide))⟩) d_M_otherwise_38
  · refine lv_iconst (v := 0) hx hb d_M_otherwise_9 (by decide) ?_
    refine lv_goto (tgt := 14) hx hb d_M_otherwise_10 (by decide) ?_
    refine r_put (k := 20) (i := 0) F hS f_M_73 ct_M h20 rfl rfl (Nat.le_of_ble_eq_true rfl) d_M_otherwise_14 (fun H locs hS => ?_)
    have hS : HS G s (uV V 20 0 (a1, oM A (nI m0) (nI ne) dy 0 qs (nI nk) hs hd pu st nx an)) H _ := hS
    refine lv_aload_n hx hb d_M_otherwise_17 rfl (lv_at hl 0 rfl) ?_
    refine r_get (k := 20) (i := 0) F hS f_M_73.get (uV_self V 20 0 (a1, oM A (nI m0) (nI ne) dy 0 qs (nI nk) hs hd pu st nx an)) rfl d_M_otherwise_18 ?_
    refine lv_if_eq (tgt := 28) hx hb d_M_otherwise_21 (by decide) (fun _ => ?_) (fun z => absurd z (by decide))
    obtain ⟨on, kn, hon, hkn, rfl, rfl⟩ := hz_3.t c_6
    refine lv_aload_n hx hb d_M_otherwise_28 rfl (lv_at hl 0 rfl) ?_
    refine r_get (k := 20) (i := 0) F hS f_M_60.get (uV_self V 20 0 (a1, oM A (nI m0) (nI ne) dy 0 qs (nI nk) hs hd pu st nx an)) rfl d_M_otherwise_29 ?_
    refine lv_iconst (v := 3) hx hb d_M_otherwise_32 (by decide) ?_
    refine lv_iload_n hx hb d_M_otherwise_33 rfl (lv_at hl 1 rfl) ?_
    refine lv_imul hx hb d_M_otherwise_34 ?_
    refine lv_iload_n hx hb d_M_otherwise_35 rfl (lv_at hl 2 rfl) ?_
    refine lv_iadd hx hb d_M_otherwise_36 ?_
    rw [show (3 : Int32) * nI on + nI kn = nI (3 * on + kn) from nI_ma 3 on kn]
    refine r_iald (k := 36) (i := 0) F hS h36 (vp_in_nI (by omega) (by decide)) d_M_otherwise_37 ?_
    rw [nI_clamp (by omega)]
    exact m_reti F hr hS (Nat.le_of_ble_eq_true rfl) (Nat.le_of_ble_eq_true rfl) (Or.inr ⟨on, kn, hon, hkn, rfl, rfl, rfl, ⟨pu, st, nx, an, g, gv, rfl, h21, h22, h23, h24, h25, h26, h27, h28, h29, h30, h31, h32, h33, h34, h35, h36, h37, h38⟩, (by repeat' first | exact INN.rf | refine INN.u ?_ (by decide) (by decide))⟩) d_M_otherwise_38
set_option maxHeartbeats 4000000 in
set_option maxRecDepth 100000 in
theorem k_M_handle (G : Gl) (l : Launch) (htr : l.stackTraces = false) (V : Vw) (a1 : Nat) (A : Nat → Nat) (m0 ne nk : Nat) (dy th qs hs hd : Int32) (mow mki med mmd mak msk mfk mmn mpo mcs fa mkf ff fs mss mot : Nat → Int32) (hne : ne ≤ 24) (hW : MW G V a1 A (nI m0) (nI ne) dy th qs (nI nk) hs hd mow mki med mmd mak msk mfk mmn mpo mcs fa mkf ff fs mss mot) (n : Int32)  :
    Cm G l y_M_handle b_M_handle 2 (Option.some Jvm.ClassFile.FieldType.int) { frames := 2, cells := 0, slots := 0, locals := 43 } V [.ref a1, .int n] (fun rv V' => (¬ (∃ i : Nat, i < ne ∧ n = nI i) ∧ rv = some (.int 0) ∧ MW G V' a1 A (nI m0) (nI ne) dy 1 qs (nI nk) hs hd mow mki med mmd mak msk mfk mmn mpo mcs fa mkf ff fs mss mot ∧ INN V V') ∨ ∃ i : Nat, i < ne ∧ n = nI i ∧ ((mmd i = 0 ∧ rv = some (.int 0) ∧ MW G V' a1 A (nI m0) (nI ne) dy 2 qs (nI nk) hs hd mow mki med mmd mak msk mfk mmn mpo mcs fa mkf ff fs mss mot ∧ INN V V') ∨ (¬ mmd i = 0 ∧ hs = 10000 ∧ rv = some (.int 0) ∧ MW G V' a1 A (nI m0) (nI ne) dy 3 qs (nI nk) hs hd mow mki med mmd mak msk mfk mmn mpo mcs fa mkf ff fs mss mot ∧ INN V V') ∨ (¬ mmd i = 0 ∧ ¬ hs = 10000 ∧ rv = some (.int (hs + 1)) ∧ MW G V' a1 A (nI m0) (nI ne) dy 0 qs (nI nk) (hs + 1) (nI i) mow mki med mmd mak msk mfk mmn mpo mcs fa mkf ff fs mss mot ∧ INN V V'))) := by
  refine Cm.of htr (by decide) (Nat.le_of_ble_eq_true rfl) ?_
  intro p e s m args below meth c ls F hr hnm hS hl
  obtain ⟨hx, hb, hml, hown, hts, hK, hlk, -⟩ := id F
  have hl : lv_has ls 2 [(0, .ref a1), (1, .int n)] := hl
  obtain ⟨pu, st, nx, an, g, gv, h20, h21, h22, h23, h24, h25, h26, h27, h28, h29, h30, h31, h32, h33, h34, h35, h36, h37, h38⟩ := hW
  refine lv_aload_n hx hb d_M_handle_0 rfl (lv_at hl 0 rfl) ?_
  refine lv_aload_n hx hb d_M_handle_1 rfl (lv_at hl 0 rfl) ?_
  refine lv_iload_n hx hb d_M_handle_2 rfl (lv_at hl 1 rfl) ?_
  refine r_callV (k := 20) (i := 0) (q := ("RuleClassesModel", T_M, 30)) (fs := [.int (nI m0), .int (nI ne), .int dy, .int th, .int qs, .int (nI nk), .int hs, .int hd, .ref (A 21), .ref (A 22), .ref (A 23), .ref (A 24), .ref (A 25), .ref (A 26), .ref (A 27), .ref (A 28), .ref (A 29), .ref (A 30), .ref (A 31), .ref (A 32), .ref (A 33), .ref (A 34), .ref (A 35), .ref (A 36), .ref (A 37), .int pu, .int st, .int nx, .long an, .ref (A 38)]) (As := [.int n]) (rest := [.ref a1]) F hS c_M_90 (k_M_isEdition G l htr V a1 A m0 ne nk dy th qs hs hd pu st nx an hne n h20) rfl h20 rfl hl.1 rfl (Nat.le_of_ble_eq_true rfl) d_M_handle_3 ⟨Nat.le_of_ble_eq_true rfl, Nat.le_of_ble_eq_true rfl⟩ ⟨Nat.le_of_ble_eq_true rfl, Nat.le_of_ble_eq_true rfl⟩ (fun rv V1 H locs hR hS => ?_)
  obtain ⟨hV, bz_3, rfl, hz_3⟩ := hR
  rw [hV] at hS
  refine W.eq (g2 := F0 m 6 ls [.int bz_3, .ref a1]) rfl ?_
  refine lv_if_ne (tgt := 13) hx hb d_M_handle_6 (by decide) (fun c_6 => ?_) (fun c_6 => ?_)
  · obtain ⟨i, hi, rfl⟩ := hz_3.t c_6
    refine lv_aload_n hx hb d_M_handle_13 rfl (lv_at hl 0 rfl) ?_
    refine r_get (k := 20) (i := 0) F hS f_M_23.get h20 rfl d_M_handle_14 ?_
    refine lv_iload_n hx hb d_M_handle_17 rfl (lv_at hl 1 rfl) ?_
    refine r_zald (k := 24) (i := 0) F hS h24 (vp_in_nI (by omega) (by decide)) d_M_handle_18 ?_
    rw [nI_clamp (by omega)]
    refine lv_if_ne (tgt := 26) hx hb d_M_handle_19 (by decide) (fun c_19 => ?_) (fun c_19 => ?_)
    · refine lv_aload_n hx hb d_M_handle_26 rfl (lv_at hl 0 rfl) ?_
      refine r_get (k := 20) (i := 0) F hS f_M_141.get h20 rfl d_M_handle_27 ?_
      refine lv_sipush (v := 10000) hx hb d_M_handle_30 (by decide) ?_
      refine lv_icmp_ne (tgt := 40) hx hb d_M_handle_33 (by decide) (fun c_33 => ?_) (fun c_33 => ?_)
      · refine lv_iconst (v := 0) hx hb d_M_handle_40 (by decide) ?_
        refine r_put (k := 20) (i := 0) F hS f_M_73 ct_M h20 rfl rfl (Nat.le_of_ble_eq_true rfl) d_M_handle_41 (fun H locs hS => ?_)
        have hS : HS G s (uV V 20 0 (a1, oM A (nI m0) (nI ne) dy 0 qs (nI nk) hs hd pu st nx an)) H _ := hS
        refine lv_aload_n hx hb d_M_handle_44 rfl (lv_at hl 0 rfl) ?_
        refine r_get (k := 20) (i := 0) F hS f_M_73.get (uV_self V 20 0 (a1, oM A (nI m0) (nI ne) dy 0 qs (nI nk) hs hd pu st nx an)) rfl d_M_handle_45 ?_
        refine lv_if_eq (tgt := 53) hx hb d_M_handle_48 (by decide) (fun _ => ?_) (fun z => absurd z (by decide))
        refine lv_aload_n hx hb d_M_handle_53 rfl (lv_at hl 0 rfl) ?_
        refine lv_dup hx hb d_M_handle_54 rfl ?_
        refine r_get (k := 20) (i := 0) F hS f_M_141.get (uV_self V 20 0 (a1, oM A (nI m0) (nI ne) dy 0 qs (nI nk) hs hd pu st nx an)) rfl d_M_handle_55 ?_
        refine lv_iconst (v := 1) hx hb d_M_handle_58 (by decide) ?_
        refine lv_iadd hx hb d_M_handle_59 ?_
        refine r_put (k := 20) (i := 0) F hS f_M_141 ct_M (uV_self V 20 0 (a1, oM A (nI m0) (nI ne) dy 0 qs (nI nk) hs hd pu st nx an)) rfl rfl (Nat.le_of_ble_eq_true rfl) d_M_handle_60 (fun H locs hS => ?_)
        rw [uV_uV] at hS
        have hS : HS G s (uV V 20 0 (a1, oM A (nI m0) (nI ne) dy 0 qs (nI nk) (hs + 1) hd pu st nx an)) H _ := hS
        refine lv_aload_n hx hb d_M_handle_63 rfl (lv_at hl 0 rfl) ?_
        refine lv_iload_n hx hb d_M_handle_64 rfl (lv_at hl 1 rfl) ?_
        refine r_put (k := 20) (i := 0) F hS f_M_9 ct_M (uV_self V 20 0 (a1, oM A (nI m0) (nI ne) dy 0 qs (nI nk) (hs + 1) hd pu st nx an)) rfl rfl (Nat.le_of_ble_eq_true rfl) d_M_handle_65 (fun H locs hS => ?_)
        rw [uV_uV] at hS
        have hS : HS G s (uV V 20 0 (a1, oM A (nI m0) (nI ne) dy 0 qs (nI nk) (hs + 1) (nI i) pu st nx an)) H _ := hS
        refine lv_aload_n hx hb d_M_handle_68 rfl (lv_at hl 0 rfl) ?_
        refine r_get (k := 20) (i := 0) F hS f_M_141.get (uV_self V 20 0 (a1, oM A (nI m0) (nI ne) dy 0 qs (nI nk) (hs + 1) (nI i) pu st nx an)) rfl d_M_handle_69 ?_
        exact m_reti F hr hS (Nat.le_of_ble_eq_true rfl) (Nat.le_of_ble_eq_true rfl) (Or.inr ⟨i, hi, rfl, Or.inr (Or.inr ⟨c_19, c_33, rfl, ⟨pu, st, nx, an, g, gv, rfl, h21, h22, h23, h24, h25, h26, h27, h28, h29, h30, h31, h32, h33, h34, h35, h36, h37, h38⟩, (by repeat' first | exact INN.rf | refine INN.u ?_ (by decide) (by decide))⟩)⟩) d_M_handle_72
      · refine lv_iconst (v := 3) hx hb d_M_handle_36 (by decide) ?_
        refine lv_goto (tgt := 41) hx hb d_M_handle_37 (by decide) ?_
        refine r_put (k := 20) (i := 0) F hS f_M_73 ct_M h20 rfl rfl (Nat.le_of_ble_eq_true rfl) d_M_handle_41 (fun H locs hS => ?_)
        have hS : HS G s (uV V 20 0 (a1, oM A (nI m0) (nI ne) dy 3 qs (nI nk) hs hd pu st nx an)) H _ := hS
        refine lv_aload_n hx hb d_M_handle_44 rfl (lv_at hl 0 rfl) ?_
        refine r_get (k := 20) (i := 0) F hS f_M_73.get (uV_self V 20 0 (a1, oM A (nI m0) (nI ne) dy 3 qs (nI nk) hs hd pu st nx an)) rfl d_M_handle_45 ?_
        refine lv_if_eq (tgt := 53) hx hb d_M_handle_48 (by decide) (fun z => absurd z (by decide)) (fun _ => ?_)
        refine lv_iconst (v := 0) hx hb d_M_handle_51 (by decide) ?_
        exact m_reti F hr hS (Nat.le_of_ble_eq_true rfl) (Nat.le_of_ble_eq_true rfl) (Or.inr ⟨i, hi, rfl, Or.inr (Or.inl ⟨c_19, c_33, rfl, ⟨pu, st, nx, an, g, gv, rfl, h21, h22, h23, h24, h25, h26, h27, h28, h29, h30, h31, h32, h33, h34, h35, h36, h37, h38⟩, (by repeat' first | exact INN.rf | refine INN.u ?_ (by decide) (by decide))⟩)⟩) d_M_handle_52
    · refine lv_iconst (v := 2) hx hb d_M_handle_22 (by decide) ?_
      refine lv_goto (tgt := 41) hx hb d_M_handle_23 (by decide) ?_
      refine r_put (k := 20) (i := 0) F hS f_M_73 ct_M h20 rfl rfl (Nat.le_of_ble_eq_true rfl) d_M_handle_41 (fun H locs hS => ?_)
      have hS : HS G s (uV V 20 0 (a1, oM A (nI m0) (nI ne) dy 2 qs (nI nk) hs hd pu st nx an)) H _ := hS
      refine lv_aload_n hx hb d_M_handle_44 rfl (lv_at hl 0 rfl) ?_
      refine r_get (k := 20) (i := 0) F hS f_M_73.get (uV_self V 20 0 (a1, oM A (nI m0) (nI ne) dy 2 qs (nI nk) hs hd pu st nx an)) rfl d_M_handle_45 ?_
      refine lv_if_eq (tgt := 53) hx hb d_M_handle_48 (by decide) (fun z => absurd z (by decide)) (fun _ => ?_)
      refine lv_iconst (v := 0) hx hb d_M_handle_51 (by decide) ?_
      exact m_reti F hr hS (Nat.le_of_ble_eq_true rfl) (Nat.le_of_ble_eq_true rfl) (Or.inr ⟨i, hi, rfl, Or.inl ⟨c_19, rfl, ⟨pu, st, nx, an, g, gv, rfl, h21, h22, h23, h24, h25, h26, h27, h28, h29, h30, h31, h32, h33, h34, h35, h36, h37, h38⟩, (by repeat' first | exact INN.rf | refine INN.u ?_ (by decide) (by decide))⟩⟩) d_M_handle_52
  · refine lv_iconst (v := 1) hx hb d_M_handle_9 (by decide) ?_
    refine lv_goto (tgt := 41) hx hb d_M_handle_10 (by decide) ?_
    refine r_put (k := 20) (i := 0) F hS f_M_73 ct_M h20 rfl rfl (Nat.le_of_ble_eq_true rfl) d_M_handle_41 (fun H locs hS => ?_)
    have hS : HS G s (uV V 20 0 (a1, oM A (nI m0) (nI ne) dy 1 qs (nI nk) hs hd pu st nx an)) H _ := hS
    refine lv_aload_n hx hb d_M_handle_44 rfl (lv_at hl 0 rfl) ?_
    refine r_get (k := 20) (i := 0) F hS f_M_73.get (uV_self V 20 0 (a1, oM A (nI m0) (nI ne) dy 1 qs (nI nk) hs hd pu st nx an)) rfl d_M_handle_45 ?_
    refine lv_if_eq (tgt := 53) hx hb d_M_handle_48 (by decide) (fun z => absurd z (by decide)) (fun _ => ?_)
    refine lv_iconst (v := 0) hx hb d_M_handle_51 (by decide) ?_
    exact m_reti F hr hS (Nat.le_of_ble_eq_true rfl) (Nat.le_of_ble_eq_true rfl) (Or.inl ⟨hz_3.f c_6, rfl, ⟨pu, st, nx, an, g, gv, rfl, h21, h22, h23, h24, h25, h26, h27, h28, h29, h30, h31, h32, h33, h34, h35, h36, h37, h38⟩, (by repeat' first | exact INN.rf | refine INN.u ?_ (by decide) (by decide))⟩) d_M_handle_52
set_option maxHeartbeats 4000000 in
set_option maxRecDepth 100000 in
theorem k_M_by (G : Gl) (l : Launch) (htr : l.stackTraces = false) (V : Vw) (a1 : Nat) (A : Nat → Nat) (m0 ne nk : Nat) (dy th qs hs hd : Int32) (mow mki med mmd mak msk mfk mmn mpo mcs fa mkf ff fs mss mot : Nat → Int32) (hne : ne ≤ 24) (hW : MW G V a1 A (nI m0) (nI ne) dy th qs (nI nk) hs hd mow mki med mmd mak msk mfk mmn mpo mcs fa mkf ff fs mss mot) (n : Int32) (ln : Nat → Nat) (po cs : Nat → Nat → Int32) (hCD : CD ne mmn mpo mcs ln po cs) (hm : m0 ≤ 1000) (hki : ∀ i, i < ne → ∃ k9 : Nat, k9 ≤ 2 ∧ mki i = nI k9) (hhd : ¬ hd = -1 → ∃ i : Nat, i < ne ∧ hd = nI i)  :
    Cm G l y_M_by b_M_by 2 (Option.some Jvm.ClassFile.FieldType.int) { frames := 3, cells := 0, slots := 0, locals := 78 } V [.ref a1, .int n] (fun rv V' => (¬ (1 ≤ n ∧ n ≤ hs) ∧ rv = some (.int 0) ∧ MW G V' a1 A (nI m0) (nI ne) dy 1 qs (nI nk) hs hd mow mki med mmd mak msk mfk mmn mpo mcs fa mkf ff fs mss mot ∧ INN V V') ∨ ((1 ≤ n ∧ n ≤ hs) ∧ ¬ (n = hs ∧ ¬ hd = -1) ∧ rv = some (.int 0) ∧ MW G V' a1 A (nI m0) (nI ne) dy 2 qs (nI nk) hs hd mow mki med mmd mak msk mfk mmn mpo mcs fa mkf ff fs mss mot ∧ INN V V') ∨ ((1 ≤ n ∧ n ≤ hs) ∧ n = hs ∧ ¬ hd = -1 ∧ ∃ i : Nat, i < ne ∧ hd = nI i ∧ rv = some (.int (if (pEnd (ln i) (po i) (cs i) fa (mak i) m0).1 = 6 then (pEnd (ln i) (po i) (cs i) fa (mak i) m0).2.2.2.1 else ff (mki i).toNatClampNeg)) ∧ MW G V' a1 A (nI m0) (nI ne) dy 0 qs (nI nk) hs hd mow mki med mmd mak msk mfk mmn mpo mcs fa mkf ff fs mss mot ∧ INN V V')) := by
  refine Cm.of htr (by decide) (Nat.le_of_ble_eq_true rfl) ?_
  intro p e s m args below meth c ls F hr hnm hS hl
  obtain ⟨hx, hb, hml, hown, hts, hK, hlk, -⟩ := id F
  have hl : lv_has ls 2 [(0, .ref a1), (1, .int n)] := hl
  obtain ⟨pu, st, nx, an, g, gv, h20, h21, h22, h23, h24, h25, h26, h27, h28, h29, h30, h31, h32, h33, h34, h35, h36, h37, h38⟩ := hW
  refine lv_aload_n hx hb d_M_by_0 rfl (lv_at hl 0 rfl) ?_
  refine lv_iload_n hx hb d_M_by_1 rfl (lv_at hl 1 rfl) ?_
  refine lv_iconst (v := 1) hx hb d_M_by_2 (by decide) ?_
  refine lv_aload_n hx hb d_M_by_3 rfl (lv_at hl 0 rfl) ?_
  refine r_get (k := 20) (i := 0) F hS f_M_141.get h20 rfl d_M_by_4 ?_
  refine r_callS (As := [.int n, .int 1, .int hs]) (rest := [.ref a1]) F hS c_M_79 (k_M_within G l htr V n 1 hs) rfl hl.1 rfl (Nat.le_of_ble_eq_true rfl) d_M_by_7 ⟨Nat.le_of_ble_eq_true rfl, Nat.le_of_ble_eq_true rfl⟩ ⟨Nat.le_of_ble_eq_true rfl, Nat.le_of_ble_eq_true rfl⟩ (fun rv V1 H locs hR hS => ?_)
  obtain ⟨hV, bz_7, rfl, hz_7⟩ := hR
  rw [hV] at hS
  refine W.eq (g2 := F0 m 10 ls [.int bz_7, .ref a1]) rfl ?_
  refine lv_if_ne (tgt := 17) hx hb d_M_by_10 (by decide) (fun c_10 => ?_) (fun c_10 => ?_)
  · refine lv_iload_n hx hb d_M_by_17 rfl (lv_at hl 1 rfl) ?_
    refine lv_aload_n hx hb d_M_by_18 rfl (lv_at hl 0 rfl) ?_
    refine r_get (k := 20) (i := 0) F hS f_M_141.get h20 rfl d_M_by_19 ?_
    refine lv_icmp_ne (tgt := 33) hx hb d_M_by_22 (by decide) (fun c_22 => ?_) (fun c_22 => ?_)
    · refine lv_iconst (v := 2) hx hb d_M_by_33 (by decide) ?_
      refine lv_goto (tgt := 38) hx hb d_M_by_34 (by decide) ?_
      refine r_put (k := 20) (i := 0) F hS f_M_73 ct_M h20 rfl rfl (Nat.le_of_ble_eq_true rfl) d_M_by_38 (fun H locs hS => ?_)
      have hS : HS G s (uV V 20 0 (a1, oM A (nI m0) (nI ne) dy 2 qs (nI nk) hs hd pu st nx an)) H _ := hS
      refine lv_aload_n hx hb d_M_by_41 rfl (lv_at hl 0 rfl) ?_
      refine r_get (k := 20) (i := 0) F hS f_M_73.get (uV_self V 20 0 (a1, oM A (nI m0) (nI ne) dy 2 qs (nI nk) hs hd pu st nx an)) rfl d_M_by_42 ?_
      refine lv_if_eq (tgt := 50) hx hb d_M_by_45 (by decide) (fun z => absurd z (by decide)) (fun _ => ?_)
      refine lv_iconst (v := 0) hx hb d_M_by_48 (by decide) ?_
      exact m_reti F hr hS (Nat.le_of_ble_eq_true rfl) (Nat.le_of_ble_eq_true rfl) (Or.inr (Or.inl ⟨hz_7.t c_10, fun z => c_22 z.1, rfl, ⟨pu, st, nx, an, g, gv, rfl, h21, h22, h23, h24, h25, h26, h27, h28, h29, h30, h31, h32, h33, h34, h35, h36, h37, h38⟩, (by repeat' first | exact INN.rf | refine INN.u ?_ (by decide) (by decide))⟩)) d_M_by_49
    · refine lv_aload_n hx hb d_M_by_25 rfl (lv_at hl 0 rfl) ?_
      refine r_get (k := 20) (i := 0) F hS f_M_9.get h20 rfl d_M_by_26 ?_
      refine lv_iconst (v := (-1)) hx hb d_M_by_29 (by decide) ?_
      refine lv_icmp_ne (tgt := 37) hx hb d_M_by_30 (by decide) (fun c_30 => ?_) (fun c_30 => ?_)
      · refine lv_iconst (v := 0) hx hb d_M_by_37 (by decide) ?_
        refine r_put (k := 20) (i := 0) F hS f_M_73 ct_M h20 rfl rfl (Nat.le_of_ble_eq_true rfl) d_M_by_38 (fun H locs hS => ?_)
        have hS : HS G s (uV V 20 0 (a1, oM A (nI m0) (nI ne) dy 0 qs (nI nk) hs hd pu st nx an)) H _ := hS
        refine lv_aload_n hx hb d_M_by_41 rfl (lv_at hl 0 rfl) ?_
        refine r_get (k := 20) (i := 0) F hS f_M_73.get (uV_self V 20 0 (a1, oM A (nI m0) (nI ne) dy 0 qs (nI nk) hs hd pu st nx an)) rfl d_M_by_42 ?_
        refine lv_if_eq (tgt := 50) hx hb d_M_by_45 (by decide) (fun _ => ?_) (fun z => absurd z (by decide))
        have hd9 := c_30
        obtain ⟨i, hi, rfl⟩ := hhd c_30
        refine lv_aload_n hx hb d_M_by_50 rfl (lv_at hl 0 rfl) ?_
        refine r_callV (k := 20) (i := 0) (q := ("RuleClassesModel", T_M, 30)) (fs := [.int (nI m0), .int (nI ne), .int dy, .int 0, .int qs, .int (nI nk), .int hs, .int (nI i), .ref (A 21), .ref (A 22), .ref (A 23), .ref (A 24), .ref (A 25), .ref (A 26), .ref (A 27), .ref (A 28), .ref (A 29), .ref (A 30), .ref (A 31), .ref (A 32), .ref (A 33), .ref (A 34), .ref (A 35), .ref (A 36), .ref (A 37), .int pu, .int st, .int nx, .long an, .ref (A 38)]) (As := []) (rest := []) F hS c_M_125 (k_M_giveFacts G l htr (uV V 20 0 (a1, oM A (nI m0) (nI ne) dy 0 qs (nI nk) hs (nI i) pu st nx an)) a1 A m0 ne nk dy 0 qs hs (nI i) pu st nx an fa gv (uV_self V 20 0 (a1, oM A (nI m0) (nI ne) dy 0 qs (nI nk) hs (nI i) pu st nx an)) h31 h38) rfl (uV_self V 20 0 (a1, oM A (nI m0) (nI ne) dy 0 qs (nI nk) hs (nI i) pu st nx an)) rfl hl.1 rfl (Nat.le_of_ble_eq_true rfl) d_M_by_51 ⟨Nat.le_of_ble_eq_true rfl, Nat.le_of_ble_eq_true rfl⟩ ⟨Nat.le_of_ble_eq_true rfl, Nat.le_of_ble_eq_true rfl⟩ (fun rv V1 H locs hR hS => ?_)
        obtain ⟨rfl, gv_51, hgv_51, rfl⟩ := hR
        refine W.eq (g2 := F0 m 54 ls []) rfl ?_
        refine lv_aload_n hx hb d_M_by_54 rfl (lv_at hl 0 rfl) ?_
        refine lv_aload_n hx hb d_M_by_55 rfl (lv_at hl 0 rfl) ?_
        refine r_get (k := 20) (i := 0) F hS f_M_9.get (uV_self V 20 0 (a1, oM A (nI m0) (nI ne) dy 0 qs (nI nk) hs (nI i) pu st nx an)) rfl d_M_by_56 ?_
        refine r_callV (k := 20) (i := 0) (q := ("RuleClassesModel", T_M, 30)) (fs := [.int (nI m0), .int (nI ne), .int dy, .int 0, .int qs, .int (nI nk), .int hs, .int (nI i), .ref (A 21), .ref (A 22), .ref (A 23), .ref (A 24), .ref (A 25), .ref (A 26), .ref (A 27), .ref (A 28), .ref (A 29), .ref (A 30), .ref (A 31), .ref (A 32), .ref (A 33), .ref (A 34), .ref (A 35), .ref (A 36), .ref (A 37), .int pu, .int st, .int nx, .long an, .ref (A 38)]) (As := [.int (nI i)]) (rest := []) F hS c_M_128 (k_M_run G l htr (uV (uV V 20 0 (a1, oM A (nI m0) (nI ne) dy 0 qs (nI nk) hs (nI i) pu st nx an)) 38 0 ((A 38), aI G 8 gv_51)) a1 A m0 ne nk dy 0 qs hs (nI i) mak  mmn mpo mcs gv_51 fa i (ln i) (po i) (cs i) (by omega) hm (hCD _ hi).1 (hCD _ hi).2.1 (hCD _ hi).2.2.2 (hCD _ hi).2.2.1 hgv_51 pu st nx an g (uV_self V 20 0 (a1, oM A (nI m0) (nI ne) dy 0 qs (nI nk) hs (nI i) pu st nx an)) h25 h28 h29 h30 h37 (uV_self (uV V 20 0 (a1, oM A (nI m0) (nI ne) dy 0 qs (nI nk) hs (nI i) pu st nx an)) 38 0 ((A 38), aI G 8 gv_51))) rfl (uV_self V 20 0 (a1, oM A (nI m0) (nI ne) dy 0 qs (nI nk) hs (nI i) pu st nx an)) rfl hl.1 rfl (Nat.le_of_ble_eq_true rfl) d_M_by_59 ⟨Nat.le_of_ble_eq_true rfl, Nat.le_of_ble_eq_true rfl⟩ ⟨Nat.le_of_ble_eq_true rfl, Nat.le_of_ble_eq_true rfl⟩ (fun rv V1 H locs hR hS => ?_)
        obtain ⟨pu_59, nx_59, g_59, rfl, rfl⟩ := hR
        refine W.eq (g2 := F0 m 62 ls [.int (mE (pEnd (ln i) (po i) (cs i) fa (mak i) m0).1)]) rfl ?_
        refine lv_if_ne (tgt := 73) hx hb d_M_by_62 (by decide) (fun c_62 => ?_) (fun c_62 => ?_)
        · have h6 : ¬ (pEnd (ln i) (po i) (cs i) fa (mak i) m0).1 = 6 := fun z => c_62 ((mE_0 (pRun_an m0).2).mpr z)
          refine lv_aload_n hx hb d_M_by_73 rfl (lv_at hl 0 rfl) ?_
          refine r_get (k := 20) (i := 0) F hS f_M_51.get (uV_self (uV (uV (uV V 20 0 (a1, oM A (nI m0) (nI ne) dy 0 qs (nI nk) hs (nI i) pu st nx an)) 38 0 ((A 38), aI G 8 gv_51)) 37 0 ((A 37), aL G 8 g_59)) 20 0 (a1, oM A (nI m0) (nI ne) dy 0 qs (nI nk) hs (nI i) pu_59 ((pEnd (ln i) (po i) (cs i) fa (mak i) m0).2.2.2.2.1) nx_59 (if (pEnd (ln i) (po i) (cs i) fa (mak i) m0).1 = 6 then (pEnd (ln i) (po i) (cs i) fa (mak i) m0).2.2.2.1.toInt64 else an))) rfl d_M_by_74 ?_
          refine lv_aload_n hx hb d_M_by_77 rfl (lv_at hl 0 rfl) ?_
          refine r_get (k := 20) (i := 0) F hS f_M_17.get (uV_self (uV (uV (uV V 20 0 (a1, oM A (nI m0) (nI ne) dy 0 qs (nI nk) hs (nI i) pu st nx an)) 38 0 ((A 38), aI G 8 gv_51)) 37 0 ((A 37), aL G 8 g_59)) 20 0 (a1, oM A (nI m0) (nI ne) dy 0 qs (nI nk) hs (nI i) pu_59 ((pEnd (ln i) (po i) (cs i) fa (mak i) m0).2.2.2.2.1) nx_59 (if (pEnd (ln i) (po i) (cs i) fa (mak i) m0).1 = 6 then (pEnd (ln i) (po i) (cs i) fa (mak i) m0).2.2.2.1.toInt64 else an))) rfl d_M_by_78 ?_
          refine lv_aload_n hx hb d_M_by_81 rfl (lv_at hl 0 rfl) ?_
          refine r_get (k := 20) (i := 0) F hS f_M_9.get (uV_self (uV (uV (uV V 20 0 (a1, oM A (nI m0) (nI ne) dy 0 qs (nI nk) hs (nI i) pu st nx an)) 38 0 ((A 38), aI G 8 gv_51)) 37 0 ((A 37), aL G 8 g_59)) 20 0 (a1, oM A (nI m0) (nI ne) dy 0 qs (nI nk) hs (nI i) pu_59 ((pEnd (ln i) (po i) (cs i) fa (mak i) m0).2.2.2.2.1) nx_59 (if (pEnd (ln i) (po i) (cs i) fa (mak i) m0).1 = 6 then (pEnd (ln i) (po i) (cs i) fa (mak i) m0).2.2.2.1.toInt64 else an))) rfl d_M_by_82 ?_
          refine r_iald (k := 22) (i := 0) F hS h22 (vp_in_nI (by omega) (by decide)) d_M_by_85 ?_
          rw [nI_clamp (by omega)]
          refine r_iald (k := 33) (i := 0) F hS h33 (by obtain ⟨k9, a9, b9⟩ := hki i hi; rw [b9]; exact vp_in_nI (by omega) (by decide)) d_M_by_86 ?_
          exact m_reti F hr hS (Nat.le_of_ble_eq_true rfl) (Nat.le_of_ble_eq_true rfl) (Or.inr (Or.inr ⟨hz_7.t c_10, c_22, hd9, i, hi, rfl, by rw [if_neg h6], ⟨pu_59, (pEnd (ln i) (po i) (cs i) fa (mak i) m0).2.2.2.2.1, nx_59, (if (pEnd (ln i) (po i) (cs i) fa (mak i) m0).1 = 6 then (pEnd (ln i) (po i) (cs i) fa (mak i) m0).2.2.2.1.toInt64 else an), g_59, gv_51, rfl, h21, h22, h23, h24, h25, h26, h27, h28, h29, h30, h31, h32, h33, h34, h35, h36, rfl, rfl⟩, (by repeat' first | exact INN.rf | refine INN.u ?_ (by decide) (by decide))⟩)) d_M_by_87
        · have h6 : (pEnd (ln i) (po i) (cs i) fa (mak i) m0).1 = 6 := (mE_0 (pRun_an m0).2).mp c_62
          refine lv_aload_n hx hb d_M_by_65 rfl (lv_at hl 0 rfl) ?_
          refine r_get (k := 20) (i := 0) F hS f_M_110.get (uV_self (uV (uV (uV V 20 0 (a1, oM A (nI m0) (nI ne) dy 0 qs (nI nk) hs (nI i) pu st nx an)) 38 0 ((A 38), aI G 8 gv_51)) 37 0 ((A 37), aL G 8 g_59)) 20 0 (a1, oM A (nI m0) (nI ne) dy 0 qs (nI nk) hs (nI i) pu_59 ((pEnd (ln i) (po i) (cs i) fa (mak i) m0).2.2.2.2.1) nx_59 (if (pEnd (ln i) (po i) (cs i) fa (mak i) m0).1 = 6 then (pEnd (ln i) (po i) (cs i) fa (mak i) m0).2.2.2.1.toInt64 else an))) rfl d_M_by_66 ?_
          refine lv_l2i (v := (if (pEnd (ln i) (po i) (cs i) fa (mak i) m0).1 = 6 then (pEnd (ln i) (po i) (cs i) fa (mak i) m0).2.2.2.1.toInt64 else an).toInt32) hx hb d_M_by_69 rfl ?_
          refine lv_goto (tgt := 87) hx hb d_M_by_70 (by decide) ?_
          rw [show (if (pEnd (ln i) (po i) (cs i) fa (mak i) m0).1 = 6 then (pEnd (ln i) (po i) (cs i) fa (mak i) m0).2.2.2.1.toInt64 else an).toInt32 = (pEnd (ln i) (po i) (cs i) fa (mak i) m0).2.2.2.1 by rw [if_pos h6, e64]]
          exact m_reti F hr hS (Nat.le_of_ble_eq_true rfl) (Nat.le_of_ble_eq_true rfl) (Or.inr (Or.inr ⟨hz_7.t c_10, c_22, hd9, i, hi, rfl, by rw [if_pos h6], ⟨pu_59, (pEnd (ln i) (po i) (cs i) fa (mak i) m0).2.2.2.2.1, nx_59, (if (pEnd (ln i) (po i) (cs i) fa (mak i) m0).1 = 6 then (pEnd (ln i) (po i) (cs i) fa (mak i) m0).2.2.2.1.toInt64 else an), g_59, gv_51, rfl, h21, h22, h23, h24, h25, h26, h27, h28, h29, h30, h31, h32, h33, h34, h35, h36, rfl, rfl⟩, (by repeat' first | exact INN.rf | refine INN.u ?_ (by decide) (by decide))⟩)) d_M_by_87
      · refine lv_iconst (v := 2) hx hb d_M_by_33 (by decide) ?_
        refine lv_goto (tgt := 38) hx hb d_M_by_34 (by decide) ?_
        refine r_put (k := 20) (i := 0) F hS f_M_73 ct_M h20 rfl rfl (Nat.le_of_ble_eq_true rfl) d_M_by_38 (fun H locs hS => ?_)
        have hS : HS G s (uV V 20 0 (a1, oM A (nI m0) (nI ne) dy 2 qs (nI nk) hs hd pu st nx an)) H _ := hS
        refine lv_aload_n hx hb d_M_by_41 rfl (lv_at hl 0 rfl) ?_
        refine r_get (k := 20) (i := 0) F hS f_M_73.get (uV_self V 20 0 (a1, oM A (nI m0) (nI ne) dy 2 qs (nI nk) hs hd pu st nx an)) rfl d_M_by_42 ?_
        refine lv_if_eq (tgt := 50) hx hb d_M_by_45 (by decide) (fun z => absurd z (by decide)) (fun _ => ?_)
        refine lv_iconst (v := 0) hx hb d_M_by_48 (by decide) ?_
        exact m_reti F hr hS (Nat.le_of_ble_eq_true rfl) (Nat.le_of_ble_eq_true rfl) (Or.inr (Or.inl ⟨hz_7.t c_10, fun z => z.2 c_30, rfl, ⟨pu, st, nx, an, g, gv, rfl, h21, h22, h23, h24, h25, h26, h27, h28, h29, h30, h31, h32, h33, h34, h35, h36, h37, h38⟩, (by repeat' first | exact INN.rf | refine INN.u ?_ (by decide) (by decide))⟩)) d_M_by_49
  · refine lv_iconst (v := 1) hx hb d_M_by_13 (by decide) ?_
    refine lv_goto (tgt := 38) hx hb d_M_by_14 (by decide) ?_
    refine r_put (k := 20) (i := 0) F hS f_M_73 ct_M h20 rfl rfl (Nat.le_of_ble_eq_true rfl) d_M_by_38 (fun H locs hS => ?_)
    have hS : HS G s (uV V 20 0 (a1, oM A (nI m0) (nI ne) dy 1 qs (nI nk) hs hd pu st nx an)) H _ := hS
    refine lv_aload_n hx hb d_M_by_41 rfl (lv_at hl 0 rfl) ?_
    refine r_get (k := 20) (i := 0) F hS f_M_73.get (uV_self V 20 0 (a1, oM A (nI m0) (nI ne) dy 1 qs (nI nk) hs hd pu st nx an)) rfl d_M_by_42 ?_
    refine lv_if_eq (tgt := 50) hx hb d_M_by_45 (by decide) (fun z => absurd z (by decide)) (fun _ => ?_)
    refine lv_iconst (v := 0) hx hb d_M_by_48 (by decide) ?_
    exact m_reti F hr hS (Nat.le_of_ble_eq_true rfl) (Nat.le_of_ble_eq_true rfl) (Or.inl ⟨hz_7.f c_10, rfl, ⟨pu, st, nx, an, g, gv, rfl, h21, h22, h23, h24, h25, h26, h27, h28, h29, h30, h31, h32, h33, h34, h35, h36, h37, h38⟩, (by repeat' first | exact INN.rf | refine INN.u ?_ (by decide) (by decide))⟩) d_M_by_49
set_option maxHeartbeats 4000000 in
set_option maxRecDepth 100000 in
theorem k_M_keep (G : Gl) (l : Launch) (htr : l.stackTraces = false) (V : Vw) (a1 : Nat) (A : Nat → Nat) (m0 ne nk : Nat) (dy th qs hs hd : Int32) (mow mki med mmd mak msk mfk mmn mpo mcs fa mkf ff fs mss mot : Nat → Int32) (hne : ne ≤ 24) (hW : MW G V a1 A (nI m0) (nI ne) dy th qs (nI nk) hs hd mow mki med mmd mak msk mfk mmn mpo mcs fa mkf ff fs mss mot) (hnk : nk ≤ 8)  :
    Cm G l y_M_keep b_M_keep 2 (Option.some Jvm.ClassFile.FieldType.int) { frames := 0, cells := 0, slots := 0, locals := 0 } V [.ref a1] (fun rv V' => (nk = 8 ∧ rv = some (.int 0) ∧ MW G V' a1 A (nI m0) (nI ne) dy 1 qs (nI nk) hs hd mow mki med mmd mak msk mfk mmn mpo mcs fa mkf ff fs mss mot ∧ INN V V') ∨ (nk < 8 ∧ rv = some (.int (nI (nk + 1))) ∧ ∃ mkf2 : Nat → Int32, (∀ q, q < 8 → mkf2 (8 * nk + q) = fa q) ∧ (∀ q, q < 8 * nk → mkf2 q = mkf q) ∧ MW G V' a1 A (nI m0) (nI ne) dy 0 qs (nI (nk + 1)) hs hd mow mki med mmd mak msk mfk mmn mpo mcs fa mkf2 ff fs mss mot ∧ INN V V')) := by
  refine Cm.of htr (by decide) (Nat.le_of_ble_eq_true rfl) ?_
  intro p e s m args below meth c ls F hr hnm hS hl
  obtain ⟨hx, hb, hml, hown, hts, hK, hlk, -⟩ := id F
  have hl : lv_has ls 2 [(0, .ref a1)] := hl
  obtain ⟨pu, st, nx, an, g, gv, h20, h21, h22, h23, h24, h25, h26, h27, h28, h29, h30, h31, h32, h33, h34, h35, h36, h37, h38⟩ := hW
  refine lv_aload_n hx hb d_M_keep_0 rfl (lv_at hl 0 rfl) ?_
  refine lv_aload_n hx hb d_M_keep_1 rfl (lv_at hl 0 rfl) ?_
  refine r_get (k := 20) (i := 0) F hS f_M_144.get h20 rfl d_M_keep_2 ?_
  refine lv_bipush (v := 8) hx hb d_M_keep_5 (by decide) ?_
  refine lv_icmp_ne (tgt := 14) hx hb d_M_keep_7 (by decide) (fun c_7 => ?_) (fun c_7 => ?_)
  · have hn8 : nk < 8 := Nat.lt_of_le_of_ne hnk (fun z => c_7 (congrArg nI z))
    refine lv_iconst (v := 0) hx hb d_M_keep_14 (by decide) ?_
    refine r_put (k := 20) (i := 0) F hS f_M_73 ct_M h20 rfl rfl (Nat.le_of_ble_eq_true rfl) d_M_keep_15 (fun H locs hS => ?_)
    have hS : HS G s (uV V 20 0 (a1, oM A (nI m0) (nI ne) dy 0 qs (nI nk) hs hd pu st nx an)) H _ := hS
    refine lv_aload_n hx hb d_M_keep_18 rfl (lv_at hl 0 rfl) ?_
    refine r_get (k := 20) (i := 0) F hS f_M_73.get (uV_self V 20 0 (a1, oM A (nI m0) (nI ne) dy 0 qs (nI nk) hs hd pu st nx an)) rfl d_M_keep_19 ?_
    refine lv_if_eq (tgt := 27) hx hb d_M_keep_22 (by decide) (fun _ => ?_) (fun z => absurd z (by decide))
    refine lv_iconst (v := 0) hx hb d_M_keep_27 (by decide) ?_
    refine lv_istore_n (lv' := [(1, .int 0), (0, .ref a1)]) hx hb d_M_keep_28 rfl hl (by decide) rfl (fun ls hl => ?_)
    refine lv_iload_n hx hb d_M_keep_29 rfl (lv_at hl 0 rfl) ?_
    refine lv_bipush (v := 8) hx hb d_M_keep_30 (by decide) ?_
    refine lv_icmp_ge (tgt := 61) hx hb d_M_keep_32 (by decide) (fun z => absurd z (by decide)) (fun _ => ?_)
    refine lv_aload_n hx hb d_M_keep_35 rfl (lv_at hl 1 rfl) ?_
    refine r_get (k := 20) (i := 0) F hS f_M_48.get (uV_self V 20 0 (a1, oM A (nI m0) (nI ne) dy 0 qs (nI nk) hs hd pu st nx an)) rfl d_M_keep_36 ?_
    refine lv_bipush (v := 8) hx hb d_M_keep_39 (by decide) ?_
    refine lv_aload_n hx hb d_M_keep_41 rfl (lv_at hl 1 rfl) ?_
    refine r_get (k := 20) (i := 0) F hS f_M_144.get (uV_self V 20 0 (a1, oM A (nI m0) (nI ne) dy 0 qs (nI nk) hs hd pu st nx an)) rfl d_M_keep_42 ?_
    refine lv_imul hx hb d_M_keep_45 ?_
    refine lv_iload_n hx hb d_M_keep_46 rfl (lv_at hl 0 rfl) ?_
    refine lv_iadd hx hb d_M_keep_47 ?_
    refine lv_aload_n hx hb d_M_keep_48 rfl (lv_at hl 1 rfl) ?_
    refine r_get (k := 20) (i := 0) F hS f_M_45.get (uV_self V 20 0 (a1, oM A (nI m0) (nI ne) dy 0 qs (nI nk) hs hd pu st nx an)) rfl d_M_keep_49 ?_
    refine lv_iload_n hx hb d_M_keep_52 rfl (lv_at hl 0 rfl) ?_
    refine r_iald (k := 31) (i := 0) F hS h31 (vp_in_nI (n := 0) (by decide) (by decide)) d_M_keep_53 ?_
    rw [show (0 : Int32).toNatClampNeg = 0 from rfl]
    rw [show (8 : Int32) * nI nk + 0 = nI (8 * nk + 0) from nI_ma 8 nk 0]
    refine r_iast (k := 32) (i := 0) F hS h32 (vp_in_nI (by omega) (by decide)) d_M_keep_54 (fun H locs hS => ?_)
    rw [nI_clamp (by omega)] at hS
    have hS : HS G s (uV (uV V 20 0 (a1, oM A (nI m0) (nI ne) dy 0 qs (nI nk) hs hd pu st nx an)) 32 0 ((A 32), aI G 64 (upd mkf (8 * nk + 0) (fa 0)))) H _ := hS
    refine lv_iinc (v := 1) (lv' := [(1, .int 1), (0, .ref a1)]) hx hb d_M_keep_55 hl (k := 0) rfl (by decide) (by decide) rfl (fun ls hl => ?_)
    refine lv_goto (tgt := 29) hx hb d_M_keep_58 (by decide) ?_
    refine lv_iload_n hx hb d_M_keep_29 rfl (lv_at hl 0 rfl) ?_
    refine lv_bipush (v := 8) hx hb d_M_keep_30 (by decide) ?_
    refine lv_icmp_ge (tgt := 61) hx hb d_M_keep_32 (by decide) (fun z => absurd z (by decide)) (fun _ => ?_)
    refine lv_aload_n hx hb d_M_keep_35 rfl (lv_at hl 1 rfl) ?_
    refine r_get (k := 20) (i := 0) F hS f_M_48.get (uV_self V 20 0 (a1, oM A (nI m0) (nI ne) dy 0 qs (nI nk) hs hd pu st nx an)) rfl d_M_keep_36 ?_
    refine lv_bipush (v := 8) hx hb d_M_keep_39 (by decide) ?_
    refine lv_aload_n hx hb d_M_keep_41 rfl (lv_at hl 1 rfl) ?_
    refine r_get (k := 20) (i := 0) F hS f_M_144.get (uV_self V 20 0 (a1, oM A (nI m0) (nI ne) dy 0 qs (nI nk) hs hd pu st nx an)) rfl d_M_keep_42 ?_
    refine lv_imul hx hb d_M_keep_45 ?_
    refine lv_iload_n hx hb d_M_keep_46 rfl (lv_at hl 0 rfl) ?_
    refine lv_iadd hx hb d_M_keep_47 ?_
    refine lv_aload_n hx hb d_M_keep_48 rfl (lv_at hl 1 rfl) ?_
    refine r_get (k := 20) (i := 0) F hS f_M_45.get (uV_self V 20 0 (a1, oM A (nI m0) (nI ne) dy 0 qs (nI nk) hs hd pu st nx an)) rfl d_M_keep_49 ?_
    refine lv_iload_n hx hb d_M_keep_52 rfl (lv_at hl 0 rfl) ?_
    refine r_iald (k := 31) (i := 0) F hS h31 (vp_in_nI (n := 1) (by decide) (by decide)) d_M_keep_53 ?_
    rw [show (1 : Int32).toNatClampNeg = 1 from rfl]
    rw [show (8 : Int32) * nI nk + 1 = nI (8 * nk + 1) from nI_ma 8 nk 1]
    refine r_iast (k := 32) (i := 0) F hS (uV_self (uV V 20 0 (a1, oM A (nI m0) (nI ne) dy 0 qs (nI nk) hs hd pu st nx an)) 32 0 ((A 32), aI G 64 (upd mkf (8 * nk + 0) (fa 0)))) (vp_in_nI (by omega) (by decide)) d_M_keep_54 (fun H locs hS => ?_)
    rw [nI_clamp (by omega)] at hS
    rw [uV_uV] at hS
    have hS : HS G s (uV (uV V 20 0 (a1, oM A (nI m0) (nI ne) dy 0 qs (nI nk) hs hd pu st nx an)) 32 0 ((A 32), aI G 64 (upd (upd mkf (8 * nk + 0) (fa 0)) (8 * nk + 1) (fa 1)))) H _ := hS
    refine lv_iinc (v := 2) (lv' := [(1, .int 2), (0, .ref a1)]) hx hb d_M_keep_55 hl (k := 0) rfl (by decide) (by decide) rfl (fun ls hl => ?_)
    refine lv_goto (tgt := 29) hx hb d_M_keep_58 (by decide) ?_
    refine lv_iload_n hx hb d_M_keep_29 rfl (lv_at hl 0 rfl) ?_
    refine lv_bipush (v := 8) hx hb d_M_keep_30 (by decide) ?_
    refine lv_icmp_ge (tgt := 61) hx hb d_M_keep_32 (by decide) (fun z => absurd z (by decide)) (fun _ => ?_)
    refine lv_aload_n hx hb d_M_keep_35 rfl (lv_at hl 1 rfl) ?_
    refine r_get (k := 20) (i := 0) F hS f_M_48.get (uV_self V 20 0 (a1, oM A (nI m0) (nI ne) dy 0 qs (nI nk) hs hd pu st nx an)) rfl d_M_keep_36 ?_
    refine lv_bipush (v := 8) hx hb d_M_keep_39 (by decide) ?_
    refine lv_aload_n hx hb d_M_keep_41 rfl (lv_at hl 1 rfl) ?_
    refine r_get (k := 20) (i := 0) F hS f_M_144.get (uV_self V 20 0 (a1, oM A (nI m0) (nI ne) dy 0 qs (nI nk) hs hd pu st nx an)) rfl d_M_keep_42 ?_
    refine lv_imul hx hb d_M_keep_45 ?_
    refine lv_iload_n hx hb d_M_keep_46 rfl (lv_at hl 0 rfl) ?_
    refine lv_iadd hx hb d_M_keep_47 ?_
    refine lv_aload_n hx hb d_M_keep_48 rfl (lv_at hl 1 rfl) ?_
    refine r_get (k := 20) (i := 0) F hS f_M_45.get (uV_self V 20 0 (a1, oM A (nI m0) (nI ne) dy 0 qs (nI nk) hs hd pu st nx an)) rfl d_M_keep_49 ?_
    refine lv_iload_n hx hb d_M_keep_52 rfl (lv_at hl 0 rfl) ?_
    refine r_iald (k := 31) (i := 0) F hS h31 (vp_in_nI (n := 2) (by decide) (by decide)) d_M_keep_53 ?_
    rw [show (2 : Int32).toNatClampNeg = 2 from rfl]
    rw [show (8 : Int32) * nI nk + 2 = nI (8 * nk + 2) from nI_ma 8 nk 2]
    refine r_iast (k := 32) (i := 0) F hS (uV_self (uV V 20 0 (a1, oM A (nI m0) (nI ne) dy 0 qs (nI nk) hs hd pu st nx an)) 32 0 ((A 32), aI G 64 (upd (upd mkf (8 * nk + 0) (fa 0)) (8 * nk + 1) (fa 1)))) (vp_in_nI (by omega) (by decide)) d_M_keep_54 (fun H locs hS => ?_)
    rw [nI_clamp (by omega)] at hS
    rw [uV_uV] at hS
    have hS : HS G s (uV (uV V 20 0 (a1, oM A (nI m0) (nI ne) dy 0 qs (nI nk) hs hd pu st nx an)) 32 0 ((A 32), aI G 64 (upd (upd (upd mkf (8 * nk + 0) (fa 0)) (8 * nk + 1) (fa 1)) (8 * nk + 2) (fa 2)))) H _ := hS
    refine lv_iinc (v := 3) (lv' := [(1, .int 3), (0, .ref a1)]) hx hb d_M_keep_55 hl (k := 0) rfl (by decide) (by decide) rfl (fun ls hl => ?_)
    refine lv_goto (tgt := 29) hx hb d_M_keep_58 (by decide) ?_
    refine lv_iload_n hx hb d_M_keep_29 rfl (lv_at hl 0 rfl) ?_
    refine lv_bipush (v := 8) hx hb d_M_keep_30 (by decide) ?_
    refine lv_icmp_ge (tgt := 61) hx hb d_M_keep_32 (by decide) (fun z => absurd z (by decide)) (fun _ => ?_)
    refine lv_aload_n hx hb d_M_keep_35 rfl (lv_at hl 1 rfl) ?_
    refine r_get (k := 20) (i := 0) F hS f_M_48.get (uV_self V 20 0 (a1, oM A (nI m0) (nI ne) dy 0 qs (nI nk) hs hd pu st nx an)) rfl d_M_keep_36 ?_
    refine lv_bipush (v := 8) hx hb d_M_keep_39 (by decide) ?_
    refine lv_aload_n hx hb d_M_keep_41 rfl (lv_at hl 1 rfl) ?_
    refine r_get (k := 20) (i := 0) F hS f_M_144.get (uV_self V 20 0 (a1, oM A (nI m0) (nI ne) dy 0 qs (nI nk) hs hd pu st nx an)) rfl d_M_keep_42 ?_
    refine lv_imul hx hb d_M_keep_45 ?_
    refine lv_iload_n hx hb d_M_keep_46 rfl (lv_at hl 0 rfl) ?_
    refine lv_iadd hx hb d_M_keep_47 ?_
    refine lv_aload_n hx hb d_M_keep_48 rfl (lv_at hl 1 rfl) ?_
    refine r_get (k := 20) (i := 0) F hS f_M_45.get (uV_self V 20 0 (a1, oM A (nI m0) (nI ne) dy 0 qs (nI nk) hs hd pu st nx an)) rfl d_M_keep_49 ?_
    refine lv_iload_n hx hb d_M_keep_52 rfl (lv_at hl 0 rfl) ?_
    refine r_iald (k := 31) (i := 0) F hS h31 (vp_in_nI (n := 3) (by decide) (by decide)) d_M_keep_53 ?_
    rw [show (3 : Int32).toNatClampNeg = 3 from rfl]
    rw [show (8 : Int32) * nI nk + 3 = nI (8 * nk + 3) from nI_ma 8 nk 3]
    refine r_iast (k := 32) (i := 0) F hS (uV_self (uV V 20 0 (a1, oM A (nI m0) (nI ne) dy 0 qs (nI nk) hs hd pu st nx an)) 32 0 ((A 32), aI G 64 (upd (upd (upd mkf (8 * nk + 0) (fa 0)) (8 * nk + 1) (fa 1)) (8 * nk + 2) (fa 2)))) (vp_in_nI (by omega) (by decide)) d_M_keep_54 (fun H locs hS => ?_)
    rw [nI_clamp (by omega)] at hS
    rw [uV_uV] at hS
    have hS : HS G s (uV (uV V 20 0 (a1, oM A (nI m0) (nI ne) dy 0 qs (nI nk) hs hd pu st nx an)) 32 0 ((A 32), aI G 64 (upd (upd (upd (upd mkf (8 * nk + 0) (fa 0)) (8 * nk + 1) (fa 1)) (8 * nk + 2) (fa 2)) (8 * nk + 3) (fa 3)))) H _ := hS
    refine lv_iinc (v := 4) (lv' := [(1, .int 4), (0, .ref a1)]) hx hb d_M_keep_55 hl (k := 0) rfl (by decide) (by decide) rfl (fun ls hl => ?_)
    refine lv_goto (tgt := 29) hx hb d_M_keep_58 (by decide) ?_
    refine lv_iload_n hx hb d_M_keep_29 rfl (lv_at hl 0 rfl) ?_
    refine lv_bipush (v := 8) hx hb d_M_keep_30 (by decide) ?_
    refine lv_icmp_ge (tgt := 61) hx hb d_M_keep_32 (by decide) (fun z => absurd z (by decide)) (fun _ => ?_)
    refine lv_aload_n hx hb d_M_keep_35 rfl (lv_at hl 1 rfl) ?_
    refine r_get (k := 20) (i := 0) F hS f_M_48.get (uV_self V 20 0 (a1, oM A (nI m0) (nI ne) dy 0 qs (nI nk) hs hd pu st nx an)) rfl d_M_keep_36 ?_
    refine lv_bipush (v := 8) hx hb d_M_keep_39 (by decide) ?_
    refine lv_aload_n hx hb d_M_keep_41 rfl (lv_at hl 1 rfl) ?_
    refine r_get (k := 20) (i := 0) F hS f_M_144.get (uV_self V 20 0 (a1, oM A (nI m0) (nI ne) dy 0 qs (nI nk) hs hd pu st nx an)) rfl d_M_keep_42 ?_
    refine lv_imul hx hb d_M_keep_45 ?_
    refine lv_iload_n hx hb d_M_keep_46 rfl (lv_at hl 0 rfl) ?_
    refine lv_iadd hx hb d_M_keep_47 ?_
    refine lv_aload_n hx hb d_M_keep_48 rfl (lv_at hl 1 rfl) ?_
    refine r_get (k := 20) (i := 0) F hS f_M_45.get (uV_self V 20 0 (a1, oM A (nI m0) (nI ne) dy 0 qs (nI nk) hs hd pu st nx an)) rfl d_M_keep_49 ?_
    refine lv_iload_n hx hb d_M_keep_52 rfl (lv_at hl 0 rfl) ?_
    refine r_iald (k := 31) (i := 0) F hS h31 (vp_in_nI (n := 4) (by decide) (by decide)) d_M_keep_53 ?_
    rw [show (4 : Int32).toNatClampNeg = 4 from rfl]
    rw [show (8 : Int32) * nI nk + 4 = nI (8 * nk + 4) from nI_ma 8 nk 4]
    refine r_iast (k := 32) (i := 0) F hS (uV_self (uV V 20 0 (a1, oM A (nI m0) (nI ne) dy 0 qs (nI nk) hs hd pu st nx an)) 32 0 ((A 32), aI G 64 (upd (upd (upd (upd mkf (8 * nk + 0) (fa 0)) (8 * nk + 1) (fa 1)) (8 * nk + 2) (fa 2)) (8 * nk + 3) (fa 3)))) (vp_in_nI (by omega) (by decide)) d_M_keep_54 (fun H locs hS => ?_)
    rw [nI_clamp (by omega)] at hS
    rw [uV_uV] at hS
    have hS : HS G s (uV (uV V 20 0 (a1, oM A (nI m0) (nI ne) dy 0 qs (nI nk) hs hd pu st nx an)) 32 0 ((A 32), aI G 64 (upd (upd (upd (upd (upd mkf (8 * nk + 0) (fa 0)) (8 * nk + 1) (fa 1)) (8 * nk + 2) (fa 2)) (8 * nk + 3) (fa 3)) (8 * nk + 4) (fa 4)))) H _ := hS
    refine lv_iinc (v := 5) (lv' := [(1, .int 5), (0, .ref a1)]) hx hb d_M_keep_55 hl (k := 0) rfl (by decide) (by decide) rfl (fun ls hl => ?_)
    refine lv_goto (tgt := 29) hx hb d_M_keep_58 (by decide) ?_
    refine lv_iload_n hx hb d_M_keep_29 rfl (lv_at hl 0 rfl) ?_
    refine lv_bipush (v := 8) hx hb d_M_keep_30 (by decide) ?_
    refine lv_icmp_ge (tgt := 61) hx hb d_M_keep_32 (by decide) (fun z => absurd z (by decide)) (fun _ => ?_)
    refine lv_aload_n hx hb d_M_keep_35 rfl (lv_at hl 1 rfl) ?_
    refine r_get (k := 20) (i := 0) F hS f_M_48.get (uV_self V 20 0 (a1, oM A (nI m0) (nI ne) dy 0 qs (nI nk) hs hd pu st nx an)) rfl d_M_keep_36 ?_
    refine lv_bipush (v := 8) hx hb d_M_keep_39 (by decide) ?_
    refine lv_aload_n hx hb d_M_keep_41 rfl (lv_at hl 1 rfl) ?_
    refine r_get (k := 20) (i := 0) F hS f_M_144.get (uV_self V 20 0 (a1, oM A (nI m0) (nI ne) dy 0 qs (nI nk) hs hd pu st nx an)) rfl d_M_keep_42 ?_
    refine lv_imul hx hb d_M_keep_45 ?_
    refine lv_iload_n hx hb d_M_keep_46 rfl (lv_at hl 0 rfl) ?_
    refine lv_iadd hx hb d_M_keep_47 ?_
    refine lv_aload_n hx hb d_M_keep_48 rfl (lv_at hl 1 rfl) ?_
    refine r_get (k := 20) (i := 0) F hS f_M_45.get (uV_self V 20 0 (a1, oM A (nI m0) (nI ne) dy 0 qs (nI nk) hs hd pu st nx an)) rfl d_M_keep_49 ?_
    refine lv_iload_n hx hb d_M_keep_52 rfl (lv_at hl 0 rfl) ?_
    refine r_iald (k := 31) (i := 0) F hS h31 (vp_in_nI (n := 5) (by decide) (by decide)) d_M_keep_53 ?_
    rw [show (5 : Int32).toNatClampNeg = 5 from rfl]
    rw [show (8 : Int32) * nI nk + 5 = nI (8 * nk + 5) from nI_ma 8 nk 5]
    refine r_iast (k := 32) (i := 0) F hS (uV_self (uV V 20 0 (a1, oM A (nI m0) (nI ne) dy 0 qs (nI nk) hs hd pu st nx an)) 32 0 ((A 32), aI G 64 (upd (upd (upd (upd (upd mkf (8 * nk + 0) (fa 0)) (8 * nk + 1) (fa 1)) (8 * nk + 2) (fa 2)) (8 * nk + 3) (fa 3)) (8 * nk + 4) (fa 4)))) (vp_in_nI (by omega) (by decide)) d_M_keep_54 (fun H locs hS => ?_)
    rw [nI_clamp (by omega)] at hS
    rw [uV_uV] at hS
    have hS : HS G s (uV (uV V 20 0 (a1, oM A (nI m0) (nI ne) dy 0 qs (nI nk) hs hd pu st nx an)) 32 0 ((A 32), aI G 64 (upd (upd (upd (upd (upd (upd mkf (8 * nk + 0) (fa 0)) (8 * nk + 1) (fa 1)) (8 * nk + 2) (fa 2)) (8 * nk + 3) (fa 3)) (8 * nk + 4) (fa 4)) (8 * nk + 5) (fa 5)))) H _ := hS
    refine lv_iinc (v := 6) (lv' := [(1, .int 6), (0, .ref a1)]) hx hb d_M_keep_55 hl (k := 0) rfl (by decide) (by decide) rfl (fun ls hl => ?_)
    refine lv_goto (tgt := 29) hx hb d_M_keep_58 (by decide) ?_
    refine lv_iload_n hx hb d_M_keep_29 rfl (lv_at hl 0 rfl) ?_
    refine lv_bipush (v := 8) hx hb d_M_keep_30 (by decide) ?_
    refine lv_icmp_ge (tgt := 61) hx hb d_M_keep_32 (by decide) (fun z => absurd z (by decide)) (fun _ => ?_)
    refine lv_aload_n hx hb d_M_keep_35 rfl (lv_at hl 1 rfl) ?_
    refine r_get (k := 20) (i := 0) F hS f_M_48.get (uV_self V 20 0 (a1, oM A (nI m0) (nI ne) dy 0 qs (nI nk) hs hd pu st nx an)) rfl d_M_keep_36 ?_
    refine lv_bipush (v := 8) hx hb d_M_keep_39 (by decide) ?_
    refine lv_aload_n hx hb d_M_keep_41 rfl (lv_at hl 1 rfl) ?_
    refine r_get (k := 20) (i := 0) F hS f_M_144.get (uV_self V 20 0 (a1, oM A (nI m0) (nI ne) dy 0 qs (nI nk) hs hd pu st nx an)) rfl d_M_keep_42 ?_
    refine lv_imul hx hb d_M_keep_45 ?_
    refine lv_iload_n hx hb d_M_keep_46 rfl (lv_at hl 0 rfl) ?_
    refine lv_iadd hx hb d_M_keep_47 ?_
    refine lv_aload_n hx hb d_M_keep_48 rfl (lv_at hl 1 rfl) ?_
    refine r_get (k := 20) (i := 0) F hS f_M_45.get (uV_self V 20 0 (a1, oM A (nI m0) (nI ne) dy 0 qs (nI nk) hs hd pu st nx an)) rfl d_M_keep_49 ?_
    refine lv_iload_n hx hb d_M_keep_52 rfl (lv_at hl 0 rfl) ?_
    refine r_iald (k := 31) (i := 0) F hS h31 (vp_in_nI (n := 6) (by decide) (by decide)) d_M_keep_53 ?_
    rw [show (6 : Int32).toNatClampNeg = 6 from rfl]
    rw [show (8 : Int32) * nI nk + 6 = nI (8 * nk + 6) from nI_ma 8 nk 6]
    refine r_iast (k := 32) (i := 0) F hS (uV_self (uV V 20 0 (a1, oM A (nI m0) (nI ne) dy 0 qs (nI nk) hs hd pu st nx an)) 32 0 ((A 32), aI G 64 (upd (upd (upd (upd (upd (upd mkf (8 * nk + 0) (fa 0)) (8 * nk + 1) (fa 1)) (8 * nk + 2) (fa 2)) (8 * nk + 3) (fa 3)) (8 * nk + 4) (fa 4)) (8 * nk + 5) (fa 5)))) (vp_in_nI (by omega) (by decide)) d_M_keep_54 (fun H locs hS => ?_)
    rw [nI_clamp (by omega)] at hS
    rw [uV_uV] at hS
    have hS : HS G s (uV (uV V 20 0 (a1, oM A (nI m0) (nI ne) dy 0 qs (nI nk) hs hd pu st nx an)) 32 0 ((A 32), aI G 64 (upd (upd (upd (upd (upd (upd (upd mkf (8 * nk + 0) (fa 0)) (8 * nk + 1) (fa 1)) (8 * nk + 2) (fa 2)) (8 * nk + 3) (fa 3)) (8 * nk + 4) (fa 4)) (8 * nk + 5) (fa 5)) (8 * nk + 6) (fa 6)))) H _ := hS
    refine lv_iinc (v := 7) (lv' := [(1, .int 7), (0, .ref a1)]) hx hb d_M_keep_55 hl (k := 0) rfl (by decide) (by decide) rfl (fun ls hl => ?_)
    refine lv_goto (tgt := 29) hx hb d_M_keep_58 (by decide) ?_
    refine lv_iload_n hx hb d_M_keep_29 rfl (lv_at hl 0 rfl) ?_
    refine lv_bipush (v := 8) hx hb d_M_keep_30 (by decide) ?_
    refine lv_icmp_ge (tgt := 61) hx hb d_M_keep_32 (by decide) (fun z => absurd z (by decide)) (fun _ => ?_)
    refine lv_aload_n hx hb d_M_keep_35 rfl (lv_at hl 1 rfl) ?_
    refine r_get (k := 20) (i := 0) F hS f_M_48.get (uV_self V 20 0 (a1, oM A (nI m0) (nI ne) dy 0 qs (nI nk) hs hd pu st nx an)) rfl d_M_keep_36 ?_
    refine lv_bipush (v := 8) hx hb d_M_keep_39 (by decide) ?_
    refine lv_aload_n hx hb d_M_keep_41 rfl (lv_at hl 1 rfl) ?_
    refine r_get (k := 20) (i := 0) F hS f_M_144.get (uV_self V 20 0 (a1, oM A (nI m0) (nI ne) dy 0 qs (nI nk) hs hd pu st nx an)) rfl d_M_keep_42 ?_
    refine lv_imul hx hb d_M_keep_45 ?_
    refine lv_iload_n hx hb d_M_keep_46 rfl (lv_at hl 0 rfl) ?_
    refine lv_iadd hx hb d_M_keep_47 ?_
    refine lv_aload_n hx hb d_M_keep_48 rfl (lv_at hl 1 rfl) ?_
    refine r_get (k := 20) (i := 0) F hS f_M_45.get (uV_self V 20 0 (a1, oM A (nI m0) (nI ne) dy 0 qs (nI nk) hs hd pu st nx an)) rfl d_M_keep_49 ?_
    refine lv_iload_n hx hb d_M_keep_52 rfl (lv_at hl 0 rfl) ?_
    refine r_iald (k := 31) (i := 0) F hS h31 (vp_in_nI (n := 7) (by decide) (by decide)) d_M_keep_53 ?_
    rw [show (7 : Int32).toNatClampNeg = 7 from rfl]
    rw [show (8 : Int32) * nI nk + 7 = nI (8 * nk + 7) from nI_ma 8 nk 7]
    refine r_iast (k := 32) (i := 0) F hS (uV_self (uV V 20 0 (a1, oM A (nI m0) (nI ne) dy 0 qs (nI nk) hs hd pu st nx an)) 32 0 ((A 32), aI G 64 (upd (upd (upd (upd (upd (upd (upd mkf (8 * nk + 0) (fa 0)) (8 * nk + 1) (fa 1)) (8 * nk + 2) (fa 2)) (8 * nk + 3) (fa 3)) (8 * nk + 4) (fa 4)) (8 * nk + 5) (fa 5)) (8 * nk + 6) (fa 6)))) (vp_in_nI (by omega) (by decide)) d_M_keep_54 (fun H locs hS => ?_)
    rw [nI_clamp (by omega)] at hS
    rw [uV_uV] at hS
    have hS : HS G s (uV (uV V 20 0 (a1, oM A (nI m0) (nI ne) dy 0 qs (nI nk) hs hd pu st nx an)) 32 0 ((A 32), aI G 64 (upd (upd (upd (upd (upd (upd (upd (upd mkf (8 * nk + 0) (fa 0)) (8 * nk + 1) (fa 1)) (8 * nk + 2) (fa 2)) (8 * nk + 3) (fa 3)) (8 * nk + 4) (fa 4)) (8 * nk + 5) (fa 5)) (8 * nk + 6) (fa 6)) (8 * nk + 7) (fa 7)))) H _ := hS
    refine lv_iinc (v := 8) (lv' := [(1, .int 8), (0, .ref a1)]) hx hb d_M_keep_55 hl (k := 0) rfl (by decide) (by decide) rfl (fun ls hl => ?_)
    refine lv_goto (tgt := 29) hx hb d_M_keep_58 (by decide) ?_
    refine lv_iload_n hx hb d_M_keep_29 rfl (lv_at hl 0 rfl) ?_
    refine lv_bipush (v := 8) hx hb d_M_keep_30 (by decide) ?_
    refine lv_icmp_ge (tgt := 61) hx hb d_M_keep_32 (by decide) (fun _ => ?_) (fun z => absurd z (by decide))
    refine lv_aload_n hx hb d_M_keep_61 rfl (lv_at hl 1 rfl) ?_
    refine lv_dup hx hb d_M_keep_62 rfl ?_
    refine r_get (k := 20) (i := 0) F hS f_M_144.get (uV_self V 20 0 (a1, oM A (nI m0) (nI ne) dy 0 qs (nI nk) hs hd pu st nx an)) rfl d_M_keep_63 ?_
    refine lv_iconst (v := 1) hx hb d_M_keep_66 (by decide) ?_
    refine lv_iadd hx hb d_M_keep_67 ?_
    rw [nI_1]
    refine r_put (k := 20) (i := 0) F hS f_M_144 ct_M (uV_self V 20 0 (a1, oM A (nI m0) (nI ne) dy 0 qs (nI nk) hs hd pu st nx an)) rfl rfl (Nat.le_of_ble_eq_true rfl) d_M_keep_68 (fun H locs hS => ?_)
    have hS : HS G s (uV (uV (uV V 20 0 (a1, oM A (nI m0) (nI ne) dy 0 qs (nI nk) hs hd pu st nx an)) 32 0 ((A 32), aI G 64 (upd (upd (upd (upd (upd (upd (upd (upd mkf (8 * nk + 0) (fa 0)) (8 * nk + 1) (fa 1)) (8 * nk + 2) (fa 2)) (8 * nk + 3) (fa 3)) (8 * nk + 4) (fa 4)) (8 * nk + 5) (fa 5)) (8 * nk + 6) (fa 6)) (8 * nk + 7) (fa 7)))) 20 0 (a1, oM A (nI m0) (nI ne) dy 0 qs (nI (nk + 1)) hs hd pu st nx an)) H _ := hS
    refine lv_aload_n hx hb d_M_keep_71 rfl (lv_at hl 1 rfl) ?_
    refine r_get (k := 20) (i := 0) F hS f_M_144.get (uV_self (uV (uV V 20 0 (a1, oM A (nI m0) (nI ne) dy 0 qs (nI nk) hs hd pu st nx an)) 32 0 ((A 32), aI G 64 (upd (upd (upd (upd (upd (upd (upd (upd mkf (8 * nk + 0) (fa 0)) (8 * nk + 1) (fa 1)) (8 * nk + 2) (fa 2)) (8 * nk + 3) (fa 3)) (8 * nk + 4) (fa 4)) (8 * nk + 5) (fa 5)) (8 * nk + 6) (fa 6)) (8 * nk + 7) (fa 7)))) 20 0 (a1, oM A (nI m0) (nI ne) dy 0 qs (nI (nk + 1)) hs hd pu st nx an)) rfl d_M_keep_72 ?_
    exact m_reti F hr hS (Nat.le_of_ble_eq_true rfl) (Nat.le_of_ble_eq_true rfl) (Or.inr ⟨hn8, rfl, upd (upd (upd (upd (upd (upd (upd (upd mkf (8 * nk + 0) (fa 0)) (8 * nk + 1) (fa 1)) (8 * nk + 2) (fa 2)) (8 * nk + 3) (fa 3)) (8 * nk + 4) (fa 4)) (8 * nk + 5) (fa 5)) (8 * nk + 6) (fa 6)) (8 * nk + 7) (fa 7), fun q hq => by rcases (show q = 0 ∨ q = 1 ∨ q = 2 ∨ q = 3 ∨ q = 4 ∨ q = 5 ∨ q = 6 ∨ q = 7 by omega) with rfl | rfl | rfl | rfl | rfl | rfl | rfl | rfl <;> simp [upd], fun q hq => by unfold upd; repeat rw [if_neg (by omega)], ⟨pu, st, nx, an, g, gv, rfl, h21, h22, h23, h24, h25, h26, h27, h28, h29, h30, h31, rfl, h33, h34, h35, h36, h37, h38⟩, (by repeat' first | exact INN.rf | refine INN.u ?_ (by decide) (by decide))⟩) d_M_keep_75
  · have hn8 : nk = 8 := (nI_eq (by omega) (by decide)).mp (show nI nk = nI 8 from c_7)
    refine lv_iconst (v := 1) hx hb d_M_keep_10 (by decide) ?_
    refine lv_goto (tgt := 15) hx hb d_M_keep_11 (by decide) ?_
    refine r_put (k := 20) (i := 0) F hS f_M_73 ct_M h20 rfl rfl (Nat.le_of_ble_eq_true rfl) d_M_keep_15 (fun H locs hS => ?_)
    have hS : HS G s (uV V 20 0 (a1, oM A (nI m0) (nI ne) dy 1 qs (nI nk) hs hd pu st nx an)) H _ := hS
    refine lv_aload_n hx hb d_M_keep_18 rfl (lv_at hl 0 rfl) ?_
    refine r_get (k := 20) (i := 0) F hS f_M_73.get (uV_self V 20 0 (a1, oM A (nI m0) (nI ne) dy 1 qs (nI nk) hs hd pu st nx an)) rfl d_M_keep_19 ?_
    refine lv_if_eq (tgt := 27) hx hb d_M_keep_22 (by decide) (fun z => absurd z (by decide)) (fun _ => ?_)
    refine lv_iconst (v := 0) hx hb d_M_keep_25 (by decide) ?_
    exact m_reti F hr hS (Nat.le_of_ble_eq_true rfl) (Nat.le_of_ble_eq_true rfl) (Or.inl ⟨hn8, rfl, ⟨pu, st, nx, an, g, gv, rfl, h21, h22, h23, h24, h25, h26, h27, h28, h29, h30, h31, h32, h33, h34, h35, h36, h37, h38⟩, (by repeat' first | exact INN.rf | refine INN.u ?_ (by decide) (by decide))⟩) d_M_keep_26

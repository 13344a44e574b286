set_option maxHeartbeats 8000000 in
set_option maxRecDepth 100000 in
theorem lp_M_run (G : Gl) (l : Launch) (htr : l.stackTraces = false) (V : Vw) (a1 : Nat) (A : Nat → Nat) (m0 ne nk : Nat) (dy th qs hs hd : Int32) (mak mmn mpo mcs gv fa : Nat → Int32) (i ln : Nat) (po cs : Nat → Int32) (hi : i < 24) (hm : m0 ≤ 1000) (hmn : mmn i = nI ln) (hok : okCode ln po cs) (hoj : (∀ j, j < ln → po j = nI 8 → ∃ c1 : Nat, c1 < 16 ∧ cs j = nI c1)) (hpo : ∀ j, j < ln → mpo (16 * i + j) = po j ∧ mcs (16 * i + j) = cs j) (hgv : ∀ q, q < 8 → gv q = fa q) (an : Int64) (h25 : V 25 0 = some ((A 25), aI G 24 mak)) (h28 : V 28 0 = some ((A 28), aI G 24 mmn)) (h29 : V 29 0 = some ((A 29), aI G 384 mpo)) (h30 : V 30 0 = some ((A 30), aI G 384 mcs)) (h38 : V 38 0 = some ((A 38), aI G 8 gv)) {Rt : Option Value → Vw → Prop} {p : Program} {e : Env} {s : State} {m : MethodId} {args : Array Value} {below : List Frame} {meth : Method} {c : Code} (F : Bd G p l s m args meth c b_M_run 3 "RuleClassesModel") (hr : meth.sig.returnType = some .int) :
    ∀ (n sn : Nat), sn + n = m0 → ∀ (h j : Nat) (an9 : Int32) (f : Nat → Int32) (g : Nat → Int64) (H : Heap) (locs : List Loc) (ls : Array Slot), h ≤ 8 → j ≤ 16 → (∀ q, q < h → g q = (f q).toInt64) → (∀ (pu nx : Int32) (g2 : Nat → Int64), Rt (some (.int (mE (pRun ln po cs fa (mak i) n h (nI j) an9 (nI sn) f).1))) (uM G V a1 A (nI m0) (nI ne) dy th qs (nI nk) hs hd pu ((pRun ln po cs fa (mak i) n h (nI j) an9 (nI sn) f).2.2.2.2.1) nx (if (pRun ln po cs fa (mak i) n h (nI j) an9 (nI sn) f).1 = 6 then (pRun ln po cs fa (mak i) n h (nI j) an9 (nI sn) f).2.2.2.1.toInt64 else an) g2)) → HS G s (uM G V a1 A (nI m0) (nI ne) dy th qs (nI nk) hs hd (nI h) (nI sn) (nI j) an g) H locs → lv_has ls 3 [(0, .ref a1), (1, .int (nI i)), (2, .int 0)] →
      W p l e ({ frames := 2, cells := 0, slots := 0, locals := 56 } : Room) s m args below meth c H locs 0 0 (MQ below (QcC G Rt) args s ({ frames := 2, cells := 0, slots := 0, locals := 56 } : Room).cells ({ frames := 2, cells := 0, slots := 0, locals := 56 } : Room).slots (aB G)) (F0 m 17 ls []) := by
  obtain ⟨hx, hb, hml, hown, hts, hK, hlk, -⟩ := id F
  intro n
  induction n with
  | zero =>
    intro sn hsn h j an9 f g H locs ls hh hj9 hg hq hS hl
    obtain rfl : m0 = sn := by omega
    rw [show pRun ln po cs fa (mak i) 0 h (nI j) an9 (nI m0) f = (1, h, nI j, an9, nI m0, f) from rfl] at hq
    refine lv_iload_n hx hb d_M_run_17 rfl (lv_at hl 2 rfl) ?_
    refine lv_if_ne (tgt := 30) hx hb d_M_run_18 (by decide) (fun z => absurd z (by decide)) (fun _ => ?_)
    refine lv_aload_n hx hb d_M_run_21 rfl (lv_at hl 0 rfl) ?_
    refine lv_iload_n hx hb d_M_run_22 rfl (lv_at hl 1 rfl) ?_
    refine r_callV (k := 20) (i := 0) (q := ("RuleClassesModel", T_M, 30)) (fs := [.int (nI m0), .int (nI ne), .int dy, .int th, .int qs, .int (nI nk), .int hs, .int hd, .ref (A 21), .ref (A 22), .ref (A 23), .ref (A 24), .ref (A 25), .ref (A 26), .ref (A 27), .ref (A 28), .ref (A 29), .ref (A 30), .ref (A 31), .ref (A 32), .ref (A 33), .ref (A 34), .ref (A 35), .ref (A 36), .ref (A 37), .int (nI h), .int (nI m0), .int (nI j), .long an, .ref (A 38)]) (As := [.int (nI i)]) (rest := []) F hS c_M_122 (k_M_step1 G l htr (uM G V a1 A (nI m0) (nI ne) dy th qs (nI nk) hs hd (nI h) (nI m0) (nI j) an g) a1 A m0 ne nk dy th qs hs hd an (nI j) i h (uV_self (uV V 37 0 ((A 37), aL G 8 g)) 20 0 (a1, oM A (nI m0) (nI ne) dy th qs (nI nk) hs hd (nI h) (nI m0) (nI j) an))) rfl (uV_self (uV V 37 0 ((A 37), aL G 8 g)) 20 0 (a1, oM A (nI m0) (nI ne) dy th qs (nI nk) hs hd (nI h) (nI m0) (nI j) an)) rfl hl.1 rfl (Nat.le_of_ble_eq_true rfl) d_M_run_23 ⟨Nat.le_of_ble_eq_true rfl, Nat.le_of_ble_eq_true rfl⟩ ⟨Nat.le_of_ble_eq_true rfl, Nat.le_of_ble_eq_true rfl⟩ (fun rv V1 H locs hR hS => ?_)
    obtain ⟨rfl, hV⟩ := hR
    rw [hV] at hS
    refine W.eq (g2 := F0 m 26 ls [.int 1]) rfl ?_
    refine lv_istore_n (lv' := [(2, .int 1), (0, .ref a1), (1, .int (nI i))]) hx hb d_M_run_26 rfl hl (by decide) rfl (fun ls hl => ?_)
    refine lv_goto (tgt := 17) hx hb d_M_run_27 (by decide) ?_
    refine lv_iload_n hx hb d_M_run_17 rfl (lv_at hl 0 rfl) ?_
    refine lv_if_ne (tgt := 30) hx hb d_M_run_18 (by decide) (fun _ => ?_) (fun z => absurd z (by decide))
    refine lv_iload_n hx hb d_M_run_30 rfl (lv_at hl 0 rfl) ?_
    refine lv_iconst (v := (-1)) hx hb d_M_run_31 (by decide) ?_
    refine lv_icmp_ne (tgt := 39) hx hb d_M_run_32 (by decide) (fun _ => ?_) (fun z => absurd z (by decide))
    refine lv_iload_n hx hb d_M_run_39 rfl (lv_at hl 0 rfl) ?_
    have hq : Rt (some (.int (mE 1))) (uM G V a1 A (nI m0) (nI ne) dy th qs (nI nk) hs hd (nI h) (nI m0) (nI j) (if (1 : Int32) = 6 then an9.toInt64 else an) g) := hq (nI h) (nI j) g
    rw [show mE 1 = 1 by decide, if_neg (show ¬ (1 : Int32) = 6 by decide)] at hq
    exact m_reti F hr hS (Nat.le_of_ble_eq_true rfl) (Nat.le_of_ble_eq_true rfl) hq d_M_run_40
  | succ n ih =>
    intro sn hsn h j an9 f g H locs ls hh hj9 hg hq hS hl
    by_cases hj : ln ≤ j
    · refine lv_iload_n hx hb d_M_run_17 rfl (lv_at hl 2 rfl) ?_
      refine lv_if_ne (tgt := 30) hx hb d_M_run_18 (by decide) (fun z => absurd z (by decide)) (fun _ => ?_)
      refine lv_aload_n hx hb d_M_run_21 rfl (lv_at hl 0 rfl) ?_
      refine lv_iload_n hx hb d_M_run_22 rfl (lv_at hl 1 rfl) ?_
      refine r_callV (k := 20) (i := 0) (q := ("RuleClassesModel", T_M, 30)) (fs := [.int (nI m0), .int (nI ne), .int dy, .int th, .int qs, .int (nI nk), .int hs, .int hd, .ref (A 21), .ref (A 22), .ref (A 23), .ref (A 24), .ref (A 25), .ref (A 26), .ref (A 27), .ref (A 28), .ref (A 29), .ref (A 30), .ref (A 31), .ref (A 32), .ref (A 33), .ref (A 34), .ref (A 35), .ref (A 36), .ref (A 37), .int (nI h), .int (nI sn), .int (nI j), .long an, .ref (A 38)]) (As := [.int (nI i)]) (rest := []) F hS c_M_122 (k_M_step4 G l htr (uM G V a1 A (nI m0) (nI ne) dy th qs (nI nk) hs hd (nI h) (nI sn) (nI j) an g) a1 A m0 ne nk dy th qs hs hd an mmn i h sn j ln hi (by omega) hm hj hj9 hmn (uV_self (uV V 37 0 ((A 37), aL G 8 g)) 20 0 (a1, oM A (nI m0) (nI ne) dy th qs (nI nk) hs hd (nI h) (nI sn) (nI j) an)) h28) rfl (uV_self (uV V 37 0 ((A 37), aL G 8 g)) 20 0 (a1, oM A (nI m0) (nI ne) dy th qs (nI nk) hs hd (nI h) (nI sn) (nI j) an)) rfl hl.1 rfl (Nat.le_of_ble_eq_true rfl) d_M_run_23 ⟨Nat.le_of_ble_eq_true rfl, Nat.le_of_ble_eq_true rfl⟩ ⟨Nat.le_of_ble_eq_true rfl, Nat.le_of_ble_eq_true rfl⟩ (fun rv V1 H locs hR hS => ?_)
      obtain ⟨rfl, hV⟩ := hR
      rw [hV] at hS
      refine W.eq (g2 := F0 m 26 ls [.int 4]) rfl ?_
      refine lv_istore_n (lv' := [(2, .int 4), (0, .ref a1), (1, .int (nI i))]) hx hb d_M_run_26 rfl hl (by decide) rfl (fun ls hl => ?_)
      refine lv_goto (tgt := 17) hx hb d_M_run_27 (by decide) ?_
      refine lv_iload_n hx hb d_M_run_17 rfl (lv_at hl 0 rfl) ?_
      refine lv_if_ne (tgt := 30) hx hb d_M_run_18 (by decide) (fun _ => ?_) (fun z => absurd z (by decide))
      refine lv_iload_n hx hb d_M_run_30 rfl (lv_at hl 0 rfl) ?_
      refine lv_iconst (v := (-1)) hx hb d_M_run_31 (by decide) ?_
      refine lv_icmp_ne (tgt := 39) hx hb d_M_run_32 (by decide) (fun _ => ?_) (fun z => absurd z (by decide))
      refine lv_iload_n hx hb d_M_run_39 rfl (lv_at hl 0 rfl) ?_
      rw [pRun_4 hj hj9] at hq
      have hq : Rt (some (.int (mE 4))) (uM G V a1 A (nI m0) (nI ne) dy th qs (nI nk) hs hd (nI h) (nI sn) (nI j) (if (4 : Int32) = 6 then an9.toInt64 else an) g) := hq (nI h) (nI j) g
      rw [show mE 4 = 4 by decide, if_neg (show ¬ (4 : Int32) = 6 by decide)] at hq
      exact m_reti F hr hS (Nat.le_of_ble_eq_true rfl) (Nat.le_of_ble_eq_true rfl) hq d_M_run_40
    · have hj : j < ln := Nat.not_le.mp hj
      obtain ⟨o, ho, hop, hc1⟩ := hok.2 j hj
      have hln := hok.1
      have hfive := pStep_in2 o (cs j) fa (mak i) h (nI (j + 1)) an9 f
      refine lv_iload_n hx hb d_M_run_17 rfl (lv_at hl 2 rfl) ?_
      refine lv_if_ne (tgt := 30) hx hb d_M_run_18 (by decide) (fun z => absurd z (by decide)) (fun _ => ?_)
      refine lv_aload_n hx hb d_M_run_21 rfl (lv_at hl 0 rfl) ?_
      refine lv_iload_n hx hb d_M_run_22 rfl (lv_at hl 1 rfl) ?_
      refine r_callV (k := 20) (i := 0) (q := ("RuleClassesModel", T_M, 30)) (fs := [.int (nI m0), .int (nI ne), .int dy, .int th, .int qs, .int (nI nk), .int hs, .int hd, .ref (A 21), .ref (A 22), .ref (A 23), .ref (A 24), .ref (A 25), .ref (A 26), .ref (A 27), .ref (A 28), .ref (A 29), .ref (A 30), .ref (A 31), .ref (A 32), .ref (A 33), .ref (A 34), .ref (A 35), .ref (A 36), .ref (A 37), .int (nI h), .int (nI sn), .int (nI j), .long an, .ref (A 38)]) (As := [.int (nI i)]) (rest := []) F hS c_M_122 (k_M_step G l htr (uM G V a1 A (nI m0) (nI ne) dy th qs (nI nk) hs hd (nI h) (nI sn) (nI j) an g) a1 A m0 ne nk dy th qs hs hd an mak mmn mpo mcs gv fa g f i h sn j o ln (cs j) an9 hi hh (by omega) hm hj hok.1 hmn ho ((hpo j hj).1.trans hop) (hpo j hj).2 (fun z => by obtain ⟨c9, a9, b9⟩ := hc1 z; exact ⟨c9, a9, b9, hgv c9 a9⟩) hg (uV_self (uV V 37 0 ((A 37), aL G 8 g)) 20 0 (a1, oM A (nI m0) (nI ne) dy th qs (nI nk) hs hd (nI h) (nI sn) (nI j) an)) h25 h28 h29 h30 (uV_self V 37 0 ((A 37), aL G 8 g)) h38) rfl (uV_self (uV V 37 0 ((A 37), aL G 8 g)) 20 0 (a1, oM A (nI m0) (nI ne) dy th qs (nI nk) hs hd (nI h) (nI sn) (nI j) an)) rfl hl.1 rfl (Nat.le_of_ble_eq_true rfl) d_M_run_23 ⟨Nat.le_of_ble_eq_true rfl, Nat.le_of_ble_eq_true rfl⟩ ⟨Nat.le_of_ble_eq_true rfl, Nat.le_of_ble_eq_true rfl⟩ (fun rv V1 H locs hR hS => ?_)
      obtain ⟨pu1, nx1, g1, rfl, h71, rfl⟩ := hR
      rw [uM_uM] at hS
      refine W.eq (g2 := F0 m 26 ls [.int (mC (pStep o (cs j) fa (mak i) h (nI (j + 1)) an9 f).1)]) rfl ?_
      rcases hfive with hc | hc | hc | hc | hc
      · rw [show mC (pStep o (cs j) fa (mak i) h (nI (j + 1)) an9 f).1 = 2 by rw [hc]; decide]
        rw [pRun_go hj hok.1 ho hop rfl, if_neg (show ¬ (pStep o (cs j) fa (mak i) h (nI (j + 1)) an9 f).1 = 7 by rw [hc]; decide)] at hq
        refine lv_istore_n (lv' := [(2, .int 2), (0, .ref a1), (1, .int (nI i))]) hx hb d_M_run_26 rfl hl (by decide) rfl (fun ls hl => ?_)
        refine lv_goto (tgt := 17) hx hb d_M_run_27 (by decide) ?_
        refine lv_iload_n hx hb d_M_run_17 rfl (lv_at hl 0 rfl) ?_
        refine lv_if_ne (tgt := 30) hx hb d_M_run_18 (by decide) (fun _ => ?_) (fun z => absurd z (by decide))
        refine lv_iload_n hx hb d_M_run_30 rfl (lv_at hl 0 rfl) ?_
        refine lv_iconst (v := (-1)) hx hb d_M_run_31 (by decide) ?_
        refine lv_icmp_ne (tgt := 39) hx hb d_M_run_32 (by decide) (fun _ => ?_) (fun z => absurd z (by decide))
        refine lv_iload_n hx hb d_M_run_39 rfl (lv_at hl 0 rfl) ?_
        have hq : Rt (some (.int (mE (pStep o (cs j) fa (mak i) h (nI (j + 1)) an9 f).1))) (uM G V a1 A (nI m0) (nI ne) dy th qs (nI nk) hs hd pu1 (nI sn + 1) nx1 (if (pStep o (cs j) fa (mak i) h (nI (j + 1)) an9 f).1 = 6 then (pStep o (cs j) fa (mak i) h (nI (j + 1)) an9 f).2.2.2.1.toInt64 else an) g1) := hq pu1 nx1 g1
        rw [show mE (pStep o (cs j) fa (mak i) h (nI (j + 1)) an9 f).1 = 2 by rw [hc]; decide, nI_1] at hq
        exact m_reti F hr hS (Nat.le_of_ble_eq_true rfl) (Nat.le_of_ble_eq_true rfl) hq d_M_run_40
      · rw [show mC (pStep o (cs j) fa (mak i) h (nI (j + 1)) an9 f).1 = 3 by rw [hc]; decide]
        rw [pRun_go hj hok.1 ho hop rfl, if_neg (show ¬ (pStep o (cs j) fa (mak i) h (nI (j + 1)) an9 f).1 = 7 by rw [hc]; decide)] at hq
        refine lv_istore_n (lv' := [(2, .int 3), (0, .ref a1), (1, .int (nI i))]) hx hb d_M_run_26 rfl hl (by decide) rfl (fun ls hl => ?_)
        refine lv_goto (tgt := 17) hx hb d_M_run_27 (by decide) ?_
        refine lv_iload_n hx hb d_M_run_17 rfl (lv_at hl 0 rfl) ?_
        refine lv_if_ne (tgt := 30) hx hb d_M_run_18 (by decide) (fun _ => ?_) (fun z => absurd z (by decide))
        refine lv_iload_n hx hb d_M_run_30 rfl (lv_at hl 0 rfl) ?_
        refine lv_iconst (v := (-1)) hx hb d_M_run_31 (by decide) ?_
        refine lv_icmp_ne (tgt := 39) hx hb d_M_run_32 (by decide) (fun _ => ?_) (fun z => absurd z (by decide))
        refine lv_iload_n hx hb d_M_run_39 rfl (lv_at hl 0 rfl) ?_
        have hq : Rt (some (.int (mE (pStep o (cs j) fa (mak i) h (nI (j + 1)) an9 f).1))) (uM G V a1 A (nI m0) (nI ne) dy th qs (nI nk) hs hd pu1 (nI sn + 1) nx1 (if (pStep o (cs j) fa (mak i) h (nI (j + 1)) an9 f).1 = 6 then (pStep o (cs j) fa (mak i) h (nI (j + 1)) an9 f).2.2.2.1.toInt64 else an) g1) := hq pu1 nx1 g1
        rw [show mE (pStep o (cs j) fa (mak i) h (nI (j + 1)) an9 f).1 = 3 by rw [hc]; decide, nI_1] at hq
        exact m_reti F hr hS (Nat.le_of_ble_eq_true rfl) (Nat.le_of_ble_eq_true rfl) hq d_M_run_40
      · rw [show mC (pStep o (cs j) fa (mak i) h (nI (j + 1)) an9 f).1 = 5 by rw [hc]; decide]
        rw [pRun_go hj hok.1 ho hop rfl, if_neg (show ¬ (pStep o (cs j) fa (mak i) h (nI (j + 1)) an9 f).1 = 7 by rw [hc]; decide)] at hq
        refine lv_istore_n (lv' := [(2, .int 5), (0, .ref a1), (1, .int (nI i))]) hx hb d_M_run_26 rfl hl (by decide) rfl (fun ls hl => ?_)
        refine lv_goto (tgt := 17) hx hb d_M_run_27 (by decide) ?_
        refine lv_iload_n hx hb d_M_run_17 rfl (lv_at hl 0 rfl) ?_
        refine lv_if_ne (tgt := 30) hx hb d_M_run_18 (by decide) (fun _ => ?_) (fun z => absurd z (by decide))
        refine lv_iload_n hx hb d_M_run_30 rfl (lv_at hl 0 rfl) ?_
        refine lv_iconst (v := (-1)) hx hb d_M_run_31 (by decide) ?_
        refine lv_icmp_ne (tgt := 39) hx hb d_M_run_32 (by decide) (fun _ => ?_) (fun z => absurd z (by decide))
        refine lv_iload_n hx hb d_M_run_39 rfl (lv_at hl 0 rfl) ?_
        have hq : Rt (some (.int (mE (pStep o (cs j) fa (mak i) h (nI (j + 1)) an9 f).1))) (uM G V a1 A (nI m0) (nI ne) dy th qs (nI nk) hs hd pu1 (nI sn + 1) nx1 (if (pStep o (cs j) fa (mak i) h (nI (j + 1)) an9 f).1 = 6 then (pStep o (cs j) fa (mak i) h (nI (j + 1)) an9 f).2.2.2.1.toInt64 else an) g1) := hq pu1 nx1 g1
        rw [show mE (pStep o (cs j) fa (mak i) h (nI (j + 1)) an9 f).1 = 5 by rw [hc]; decide, nI_1] at hq
        exact m_reti F hr hS (Nat.le_of_ble_eq_true rfl) (Nat.le_of_ble_eq_true rfl) hq d_M_run_40
      · rw [show mC (pStep o (cs j) fa (mak i) h (nI (j + 1)) an9 f).1 = -1 by rw [hc]; decide]
        rw [pRun_go hj hok.1 ho hop rfl, if_neg (show ¬ (pStep o (cs j) fa (mak i) h (nI (j + 1)) an9 f).1 = 7 by rw [hc]; decide)] at hq
        refine lv_istore_n (lv' := [(2, .int (-1)), (0, .ref a1), (1, .int (nI i))]) hx hb d_M_run_26 rfl hl (by decide) rfl (fun ls hl => ?_)
        refine lv_goto (tgt := 17) hx hb d_M_run_27 (by decide) ?_
        refine lv_iload_n hx hb d_M_run_17 rfl (lv_at hl 0 rfl) ?_
        refine lv_if_ne (tgt := 30) hx hb d_M_run_18 (by decide) (fun _ => ?_) (fun z => absurd z (by decide))
        refine lv_iload_n hx hb d_M_run_30 rfl (lv_at hl 0 rfl) ?_
        refine lv_iconst (v := (-1)) hx hb d_M_run_31 (by decide) ?_
        refine lv_icmp_ne (tgt := 39) hx hb d_M_run_32 (by decide) (fun z => absurd z (by decide)) (fun _ => ?_)
        refine lv_iconst (v := 0) hx hb d_M_run_35 (by decide) ?_
        refine lv_goto (tgt := 40) hx hb d_M_run_36 (by decide) ?_
        have hq : Rt (some (.int (mE (pStep o (cs j) fa (mak i) h (nI (j + 1)) an9 f).1))) (uM G V a1 A (nI m0) (nI ne) dy th qs (nI nk) hs hd pu1 (nI sn + 1) nx1 (if (pStep o (cs j) fa (mak i) h (nI (j + 1)) an9 f).1 = 6 then (pStep o (cs j) fa (mak i) h (nI (j + 1)) an9 f).2.2.2.1.toInt64 else an) g1) := hq pu1 nx1 g1
        rw [show mE (pStep o (cs j) fa (mak i) h (nI (j + 1)) an9 f).1 = 0 by rw [hc]; decide, nI_1] at hq
        exact m_reti F hr hS (Nat.le_of_ble_eq_true rfl) (Nat.le_of_ble_eq_true rfl) hq d_M_run_40
      · rw [show mC (pStep o (cs j) fa (mak i) h (nI (j + 1)) an9 f).1 = 0 by rw [hc]; decide]
        rw [pRun_go hj hok.1 ho hop rfl, if_pos hc, nI_1] at hq
        obtain ⟨rfl, rfl, hg1⟩ := h71 hc
        rw [if_neg (show ¬ (pStep o (cs j) fa (mak i) h (nI (j + 1)) an9 f).1 = 6 by rw [hc]; decide)] at hS
        refine lv_istore_n (lv' := [(2, .int 0), (0, .ref a1), (1, .int (nI i))]) hx hb d_M_run_26 rfl hl (by decide) rfl (fun ls hl => ?_)
        refine lv_goto (tgt := 17) hx hb d_M_run_27 (by decide) ?_
        obtain ⟨j2, hj2, ej2⟩ : ∃ j2 : Nat, j2 ≤ 16 ∧ (pStep o (cs j) fa (mak i) h (nI (j + 1)) an9 f).2.2.1 = nI j2 := by
          rcases (pStep_nx o (cs j) fa (mak i) h (nI (j + 1)) an9 f).1 with z | ⟨z1, z2⟩
          · exact ⟨j + 1, by omega, z⟩
          · obtain ⟨c9, a9, b9⟩ := hoj j hj (by rw [hop, z1])
            exact ⟨c9, by omega, z2.trans b9⟩
        rw [ej2] at hS hq
        exact ih (sn + 1) (by omega) _ j2 _ _ _ _ _ _ (pStep_h hh) hj2 hg1 hq hS (lv_sub hl [1, 2, 0] rfl)
set_option maxHeartbeats 4000000 in
set_option maxRecDepth 100000 in
theorem k_M_run (G : Gl) (l : Launch) (htr : l.stackTraces = false) (V : Vw) (a1 : Nat) (A : Nat → Nat) (m0 ne nk : Nat) (dy th qs hs hd : Int32) (mak mmn mpo mcs gv fa : Nat → Int32) (i ln : Nat) (po cs : Nat → Int32) (hi : i < 24) (hm : m0 ≤ 1000) (hmn : mmn i = nI ln) (hok : okCode ln po cs) (hoj : (∀ j, j < ln → po j = nI 8 → ∃ c1 : Nat, c1 < 16 ∧ cs j = nI c1)) (hpo : ∀ j, j < ln → mpo (16 * i + j) = po j ∧ mcs (16 * i + j) = cs j) (hgv : ∀ q, q < 8 → gv q = fa q) (pu st nx : Int32) (an : Int64) (g : Nat → Int64) (h20 : V 20 0 = some (a1, oM A (nI m0) (nI ne) dy th qs (nI nk) hs hd pu st nx an)) (h25 : V 25 0 = some ((A 25), aI G 24 mak)) (h28 : V 28 0 = some ((A 28), aI G 24 mmn)) (h29 : V 29 0 = some ((A 29), aI G 384 mpo)) (h30 : V 30 0 = some ((A 30), aI G 384 mcs)) (h37 : V 37 0 = some ((A 37), aL G 8 g)) (h38 : V 38 0 = some ((A 38), aI G 8 gv)) :
    Cm G l y_M_run b_M_run 3 (Option.some Jvm.ClassFile.FieldType.int) { frames := 2, cells := 0, slots := 0, locals := 56 } V [.ref a1, .int (nI i)] (fun rv V' => ∃ (pu nx : Int32) (g2 : Nat → Int64), rv = some (.int (mE (pEnd ln po cs fa (mak i) m0).1)) ∧ V' = (uM G V a1 A (nI m0) (nI ne) dy th qs (nI nk) hs hd pu ((pEnd ln po cs fa (mak i) m0).2.2.2.2.1) nx (if (pEnd ln po cs fa (mak i) m0).1 = 6 then (pEnd ln po cs fa (mak i) m0).2.2.2.1.toInt64 else an) g2)) := by
  refine Cm.of htr (by decide) (Nat.le_of_ble_eq_true rfl) ?_
  intro p e s m args below meth c ls F hr hnm hS hl
  obtain ⟨hx, hb, hml, hown, hts, hK, hlk, -⟩ := id F
  have hl : lv_has ls 3 [(0, .ref a1), (1, .int (nI i))] := hl
  refine lv_aload_n hx hb d_M_run_0 rfl (lv_at hl 0 rfl) ?_
  refine lv_iconst (v := 0) hx hb d_M_run_1 (by decide) ?_
  refine r_put (k := 20) (i := 0) F hS f_M_103 ct_M h20 rfl rfl (Nat.le_of_ble_eq_true rfl) d_M_run_2 (fun H locs hS => ?_)
  have hS : HS G s (uV V 20 0 (a1, oM A (nI m0) (nI ne) dy th qs (nI nk) hs hd 0 st nx an)) H _ := hS
  refine lv_aload_n hx hb d_M_run_5 rfl (lv_at hl 0 rfl) ?_
  refine lv_iconst (v := 0) hx hb d_M_run_6 (by decide) ?_
  refine r_put (k := 20) (i := 0) F hS f_M_97 ct_M (uV_self V 20 0 (a1, oM A (nI m0) (nI ne) dy th qs (nI nk) hs hd 0 st nx an)) rfl rfl (Nat.le_of_ble_eq_true rfl) d_M_run_7 (fun H locs hS => ?_)
  rw [uV_uV] at hS
  have hS : HS G s (uV V 20 0 (a1, oM A (nI m0) (nI ne) dy th qs (nI nk) hs hd 0 0 nx an)) H _ := hS
  refine lv_aload_n hx hb d_M_run_10 rfl (lv_at hl 0 rfl) ?_
  refine lv_iconst (v := 0) hx hb d_M_run_11 (by decide) ?_
  refine r_put (k := 20) (i := 0) F hS f_M_100 ct_M (uV_self V 20 0 (a1, oM A (nI m0) (nI ne) dy th qs (nI nk) hs hd 0 0 nx an)) rfl rfl (Nat.le_of_ble_eq_true rfl) d_M_run_12 (fun H locs hS => ?_)
  rw [uV_uV] at hS
  have hS : HS G s (uV V 20 0 (a1, oM A (nI m0) (nI ne) dy th qs (nI nk) hs hd 0 0 0 an)) H _ := hS
  refine lv_iconst (v := 0) hx hb d_M_run_15 (by decide) ?_
  refine lv_istore_n (lv' := [(2, .int 0), (0, .ref a1), (1, .int (nI i))]) hx hb d_M_run_16 rfl hl (by decide) rfl (fun ls hl => ?_)
  rw [uM_of20 h37] at hS
  refine lp_M_run G l htr V a1 A m0 ne nk dy th qs hs hd mak mmn mpo mcs gv fa i ln po cs hi hm hmn hok hoj hpo hgv an h25 h28 h29 h30 h38 F hr m0 0 (by omega) 0 0 0 (fun _ => 0) g _ _ _ (by omega) (by omega) (fun q hq => absurd hq (by omega)) ?_ hS (lv_sub hl [1, 2, 0] rfl)
  exact fun pu nx g2 => ⟨pu, nx, g2, rfl, rfl⟩
set_option maxHeartbeats 4000000 in
set_option maxRecDepth 100000 in
theorem k_M_giveFacts (G : Gl) (l : Launch) (htr : l.stackTraces = false) (V : Vw) (a1 : Nat) (A : Nat → Nat) (m0 ne nk : Nat) (dy th qs hs hd : Int32) (pu st nx : Int32) (an : Int64) (fa gv : Nat → Int32) (h20 : V 20 0 = some (a1, oM A (nI m0) (nI ne) dy th qs (nI nk) hs hd pu st nx an)) (h31 : V 31 0 = some ((A 31), aI G 8 fa)) (h38 : V 38 0 = some ((A 38), aI G 8 gv)) :
    Cm G l y_M_giveFacts b_M_giveFacts 2 none { frames := 0, cells := 0, slots := 0, locals := 0 } V [.ref a1] (fun rv V' => rv = none ∧ ∃ gv2 : Nat → Int32, (∀ q, q < 8 → gv2 q = fa q) ∧ V' = uV V 38 0 (A 38, aI G 8 gv2)) := by
  refine Cm.of htr (by decide) (Nat.le_of_ble_eq_true rfl) ?_
  intro p e s m args below meth c ls F hr hnm hS hl
  obtain ⟨hx, hb, hml, hown, hts, hK, hlk, -⟩ := id F
  have hl : lv_has ls 2 [(0, .ref a1)] := hl
  refine lv_iconst (v := 0) hx hb d_M_giveFacts_0 (by decide) ?_
  refine lv_istore_n (lv' := [(1, .int 0), (0, .ref a1)]) hx hb d_M_giveFacts_1 rfl hl (by decide) rfl (fun ls hl => ?_)
  refine lv_iload_n hx hb d_M_giveFacts_2 rfl (lv_at hl 0 rfl) ?_
  refine lv_bipush (v := 8) hx hb d_M_giveFacts_3 (by decide) ?_
  refine lv_icmp_ge (tgt := 26) hx hb d_M_giveFacts_5 (by decide) (fun z => absurd z (by decide)) (fun _ => ?_)
  refine lv_aload_n hx hb d_M_giveFacts_8 rfl (lv_at hl 1 rfl) ?_
  refine r_get (k := 20) (i := 0) F hS f_M_67.get h20 rfl d_M_giveFacts_9 ?_
  refine lv_iload_n hx hb d_M_giveFacts_12 rfl (lv_at hl 0 rfl) ?_
  refine lv_aload_n hx hb d_M_giveFacts_13 rfl (lv_at hl 1 rfl) ?_
  refine r_get (k := 20) (i := 0) F hS f_M_45.get h20 rfl d_M_giveFacts_14 ?_
  refine lv_iload_n hx hb d_M_giveFacts_17 rfl (lv_at hl 0 rfl) ?_
  refine r_iald (k := 31) (i := 0) F hS h31 (vp_in_nI (n := 0) (by decide) (by decide)) d_M_giveFacts_18 ?_
  rw [show (0 : Int32).toNatClampNeg = 0 from rfl]
  refine r_iast (k := 38) (i := 0) F hS h38 (vp_in_nI (n := 0) (by decide) (by decide)) d_M_giveFacts_19 (fun H locs hS => ?_)
  rw [show (0 : Int32).toNatClampNeg = 0 from rfl] at hS
  have hS : HS G s (uV V 38 0 ((A 38), aI G 8 (upd gv 0 (fa 0)))) H _ := hS
  refine lv_iinc (v := 1) (lv' := [(1, .int 1), (0, .ref a1)]) hx hb d_M_giveFacts_20 hl (k := 0) rfl (by decide) (by decide) rfl (fun ls hl => ?_)
  refine lv_goto (tgt := 2) hx hb d_M_giveFacts_23 (by decide) ?_
  refine lv_iload_n hx hb d_M_giveFacts_2 rfl (lv_at hl 0 rfl) ?_
  refine lv_bipush (v := 8) hx hb d_M_giveFacts_3 (by decide) ?_
  refine lv_icmp_ge (tgt := 26) hx hb d_M_giveFacts_5 (by decide) (fun z => absurd z (by decide)) (fun _ => ?_)
  refine lv_aload_n hx hb d_M_giveFacts_8 rfl (lv_at hl 1 rfl) ?_
  refine r_get (k := 20) (i := 0) F hS f_M_67.get h20 rfl d_M_giveFacts_9 ?_
  refine lv_iload_n hx hb d_M_giveFacts_12 rfl (lv_at hl 0 rfl) ?_
  refine lv_aload_n hx hb d_M_giveFacts_13 rfl (lv_at hl 1 rfl) ?_
  refine r_get (k := 20) (i := 0) F hS f_M_45.get h20 rfl d_M_giveFacts_14 ?_
  refine lv_iload_n hx hb d_M_giveFacts_17 rfl (lv_at hl 0 rfl) ?_
  refine r_iald (k := 31) (i := 0) F hS h31 (vp_in_nI (n := 1) (by decide) (by decide)) d_M_giveFacts_18 ?_
  rw [show (1 : Int32).toNatClampNeg = 1 from rfl]
  refine r_iast (k := 38) (i := 0) F hS (uV_self V 38 0 ((A 38), aI G 8 (upd gv 0 (fa 0)))) (vp_in_nI (n := 1) (by decide) (by decide)) d_M_giveFacts_19 (fun H locs hS => ?_)
  rw [show (1 : Int32).toNatClampNeg = 1 from rfl] at hS
  rw [uV_uV] at hS
  have hS : HS G s (uV V 38 0 ((A 38), aI G 8 (upd (upd gv 0 (fa 0)) 1 (fa 1)))) H _ := hS
  refine lv_iinc (v := 2) (lv' := [(1, .int 2), (0, .ref a1)]) hx hb d_M_giveFacts_20 hl (k := 0) rfl (by decide) (by decide) rfl (fun ls hl => ?_)
  refine lv_goto (tgt := 2) hx hb d_M_giveFacts_23 (by decide) ?_
  refine lv_iload_n hx hb d_M_giveFacts_2 rfl (lv_at hl 0 rfl) ?_
  refine lv_bipush (v := 8) hx hb d_M_giveFacts_3 (by decide) ?_
  refine lv_icmp_ge (tgt := 26) hx hb d_M_giveFacts_5 (by decide) (fun z => absurd z (by decide)) (fun _ => ?_)
  refine lv_aload_n hx hb d_M_giveFacts_8 rfl (lv_at hl 1 rfl) ?_
  refine r_get (k := 20) (i := 0) F hS f_M_67.get h20 rfl d_M_giveFacts_9 ?_
  refine lv_iload_n hx hb d_M_giveFacts_12 rfl (lv_at hl 0 rfl) ?_
  refine lv_aload_n hx hb d_M_giveFacts_13 rfl (lv_at hl 1 rfl) ?_
  refine r_get (k := 20) (i := 0) F hS f_M_45.get h20 rfl d_M_giveFacts_14 ?_
  refine lv_iload_n hx hb d_M_giveFacts_17 rfl (lv_at hl 0 rfl) ?_
  refine r_iald (k := 31) (i := 0) F hS h31 (vp_in_nI (n := 2) (by decide) (by decide)) d_M_giveFacts_18 ?_
  rw [show (2 : Int32).toNatClampNeg = 2 from rfl]
  refine r_iast (k := 38) (i := 0) F hS (uV_self V 38 0 ((A 38), aI G 8 (upd (upd gv 0 (fa 0)) 1 (fa 1)))) (vp_in_nI (n := 2) (by decide) (by decide)) d_M_giveFacts_19 (fun H locs hS => ?_)
  rw [show (2 : Int32).toNatClampNeg = 2 from rfl] at hS
  rw [uV_uV] at hS
  have hS : HS G s (uV V 38 0 ((A 38), aI G 8 (upd (upd (upd gv 0 (fa 0)) 1 (fa 1)) 2 (fa 2)))) H _ := hS
  refine lv_iinc (v := 3) (lv' := [(1, .int 3), (0, .ref a1)]) hx hb d_M_giveFacts_20 hl (k := 0) rfl (by decide) (by decide) rfl (fun ls hl => ?_)
  refine lv_goto (tgt := 2) hx hb d_M_giveFacts_23 (by decide) ?_
  refine lv_iload_n hx hb d_M_giveFacts_2 rfl (lv_at hl 0 rfl) ?_
  refine lv_bipush (v := 8) hx hb d_M_giveFacts_3 (by decide) ?_
  refine lv_icmp_ge (tgt := 26) hx hb d_M_giveFacts_5 (by decide) (fun z => absurd z (by decide)) (fun _ => ?_)
  refine lv_aload_n hx hb d_M_giveFacts_8 rfl (lv_at hl 1 rfl) ?_
  refine r_get (k := 20) (i := 0) F hS f_M_67.get h20 rfl d_M_giveFacts_9 ?_
  refine lv_iload_n hx hb d_M_giveFacts_12 rfl (lv_at hl 0 rfl) ?_
  refine lv_aload_n hx hb d_M_giveFacts_13 rfl (lv_at hl 1 rfl) ?_
  refine r_get (k := 20) (i := 0) F hS f_M_45.get h20 rfl d_M_giveFacts_14 ?_
  refine lv_iload_n hx hb d_M_giveFacts_17 rfl (lv_at hl 0 rfl) ?_
  refine r_iald (k := 31) (i := 0) F hS h31 (vp_in_nI (n := 3) (by decide) (by decide)) d_M_giveFacts_18 ?_
  rw [show (3 : Int32).toNatClampNeg = 3 from rfl]
  refine r_iast (k := 38) (i := 0) F hS (uV_self V 38 0 ((A 38), aI G 8 (upd (upd (upd gv 0 (fa 0)) 1 (fa 1)) 2 (fa 2)))) (vp_in_nI (n := 3) (by decide) (by decide)) d_M_giveFacts_19 (fun H locs hS => ?_)
  rw [show (3 : Int32).toNatClampNeg = 3 from rfl] at hS
  rw [uV_uV] at hS
  have hS : HS G s (uV V 38 0 ((A 38), aI G 8 (upd (upd (upd (upd gv 0 (fa 0)) 1 (fa 1)) 2 (fa 2)) 3 (fa 3)))) H _ := hS
  refine lv_iinc (v := 4) (lv' := [(1, .int 4), (0, .ref a1)]) hx hb d_M_giveFacts_20 hl (k := 0) rfl (by decide) (by decide) rfl (fun ls hl => ?_)
  refine lv_goto (tgt := 2) hx hb d_M_giveFacts_23 (by decide) ?_
  refine lv_iload_n hx hb d_M_giveFacts_2 rfl (lv_at hl 0 rfl) ?_
  refine lv_bipush (v := 8) hx hb d_M_giveFacts_3 (by decide) ?_
  refine lv_icmp_ge (tgt := 26) hx hb d_M_giveFacts_5 (by decide) (fun z => absurd z (by decide)) (fun _ => ?_)
  refine lv_aload_n hx hb d_M_giveFacts_8 rfl (lv_at hl 1 rfl) ?_
  refine r_get (k := 20) (i := 0) F hS f_M_67.get h20 rfl d_M_giveFacts_9 ?_
  refine lv_iload_n hx hb d_M_giveFacts_12 rfl (lv_at hl 0 rfl) ?_
  refine lv_aload_n hx hb d_M_giveFacts_13 rfl (lv_at hl 1 rfl) ?_
  refine r_get (k := 20) (i := 0) F hS f_M_45.get h20 rfl d_M_giveFacts_14 ?_
  refine lv_iload_n hx hb d_M_giveFacts_17 rfl (lv_at hl 0 rfl) ?_
  refine r_iald (k := 31) (i := 0) F hS h31 (vp_in_nI (n := 4) (by decide) (by decide)) d_M_giveFacts_18 ?_
  rw [show (4 : Int32).toNatClampNeg = 4 from rfl]
  refine r_iast (k := 38) (i := 0) F hS (uV_self V 38 0 ((A 38), aI G 8 (upd (upd (upd (upd gv 0 (fa 0)) 1 (fa 1)) 2 (fa 2)) 3 (fa 3)))) (vp_in_nI (n := 4) (by decide) (by decide)) d_M_giveFacts_19 (fun H locs hS => ?_)
  rw [show (4 : Int32).toNatClampNeg = 4 from rfl] at hS
  rw [uV_uV] at hS
  have hS : HS G s (uV V 38 0 ((A 38), aI G 8 (upd (upd (upd (upd (upd gv 0 (fa 0)) 1 (fa 1)) 2 (fa 2)) 3 (fa 3)) 4 (fa 4)))) H _ := hS
  refine lv_iinc (v := 5) (lv' := [(1, .int 5), (0, .ref a1)]) hx hb d_M_giveFacts_20 hl (k := 0) rfl (by decide) (by decide) rfl (fun ls hl => ?_)
  refine lv_goto (tgt := 2) hx hb d_M_giveFacts_23 (by decide) ?_
  refine lv_iload_n hx hb d_M_giveFacts_2 rfl (lv_at hl 0 rfl) ?_
  refine lv_bipush (v := 8) hx hb d_M_giveFacts_3 (by decide) ?_
  refine lv_icmp_ge (tgt := 26) hx hb d_M_giveFacts_5 (by decide) (fun z => absurd z (by decide)) (fun _ => ?_)
  refine lv_aload_n hx hb d_M_giveFacts_8 rfl (lv_at hl 1 rfl) ?_
  refine r_get (k := 20) (i := 0) F hS f_M_67.get h20 rfl d_M_giveFacts_9 ?_
  refine lv_iload_n hx hb d_M_giveFacts_12 rfl (lv_at hl 0 rfl) ?_
  refine lv_aload_n hx hb d_M_giveFacts_13 rfl (lv_at hl 1 rfl) ?_
  refine r_get (k := 20) (i := 0) F hS f_M_45.get h20 rfl d_M_giveFacts_14 ?_
  refine lv_iload_n hx hb d_M_giveFacts_17 rfl (lv_at hl 0 rfl) ?_
  refine r_iald (k := 31) (i := 0) F hS h31 (vp_in_nI (n := 5) (by decide) (by decide)) d_M_giveFacts_18 ?_
  rw [show (5 : Int32).toNatClampNeg = 5 from rfl]
  refine r_iast (k := 38) (i := 0) F hS (uV_self V 38 0 ((A 38), aI G 8 (upd (upd (upd (upd (upd gv 0 (fa 0)) 1 (fa 1)) 2 (fa 2)) 3 (fa 3)) 4 (fa 4)))) (vp_in_nI (n := 5) (by decide) (by decide)) d_M_giveFacts_19 (fun H locs hS => ?_)
  rw [show (5 : Int32).toNatClampNeg = 5 from rfl] at hS
  rw [uV_uV] at hS
  have hS : HS G s (uV V 38 0 ((A 38), aI G 8 (upd (upd (upd (upd (upd (upd gv 0 (fa 0)) 1 (fa 1)) 2 (fa 2)) 3 (fa 3)) 4 (fa 4)) 5 (fa 5)))) H _ := hS
  refine lv_iinc (v := 6) (lv' := [(1, .int 6), (0, .ref a1)]) hx hb d_M_giveFacts_20 hl (k := 0) rfl (by decide) (by decide) rfl (fun ls hl => ?_)
  refine lv_goto (tgt := 2) hx hb d_M_giveFacts_23 (by decide) ?_
  refine lv_iload_n hx hb d_M_giveFacts_2 rfl (lv_at hl 0 rfl) ?_
  refine lv_bipush (v := 8) hx hb d_M_giveFacts_3 (by decide) ?_
  refine lv_icmp_ge (tgt := 26) hx hb d_M_giveFacts_5 (by decide) (fun z => absurd z (by decide)) (fun _ => ?_)
  refine lv_aload_n hx hb d_M_giveFacts_8 rfl (lv_at hl 1 rfl) ?_
  refine r_get (k := 20) (i := 0) F hS f_M_67.get h20 rfl d_M_giveFacts_9 ?_
  refine lv_iload_n hx hb d_M_giveFacts_12 rfl (lv_at hl 0 rfl) ?_
  refine lv_aload_n hx hb d_M_giveFacts_13 rfl (lv_at hl 1 rfl) ?_
  refine r_get (k := 20) (i := 0) F hS f_M_45.get h20 rfl d_M_giveFacts_14 ?_
  refine lv_iload_n hx hb d_M_giveFacts_17 rfl (lv_at hl 0 rfl) ?_
  refine r_iald (k := 31) (i := 0) F hS h31 (vp_in_nI (n := 6) (by decide) (by decide)) d_M_giveFacts_18 ?_
  rw [show (6 : Int32).toNatClampNeg = 6 from rfl]
  refine r_iast (k := 38) (i := 0) F hS (uV_self V 38 0 ((A 38), aI G 8 (upd (upd (upd (upd (upd (upd gv 0 (fa 0)) 1 (fa 1)) 2 (fa 2)) 3 (fa 3)) 4 (fa 4)) 5 (fa 5)))) (vp_in_nI (n := 6) (by decide) (by decide)) d_M_giveFacts_19 (fun H locs hS => ?_)
  rw [show (6 : Int32).toNatClampNeg = 6 from rfl] at hS
  rw [uV_uV] at hS
  have hS : HS G s (uV V 38 0 ((A 38), aI G 8 (upd (upd (upd (upd (upd (upd (upd gv 0 (fa 0)) 1 (fa 1)) 2 (fa 2)) 3 (fa 3)) 4 (fa 4)) 5 (fa 5)) 6 (fa 6)))) H _ := hS
  refine lv_iinc (v := 7) (lv' := [(1, .int 7), (0, .ref a1)]) hx hb d_M_giveFacts_20 hl (k := 0) rfl (by decide) (by decide) rfl (fun ls hl => ?_)
  refine lv_goto (tgt := 2) hx hb d_M_giveFacts_23 (by decide) ?_
  refine lv_iload_n hx hb d_M_giveFacts_2 rfl (lv_at hl 0 rfl) ?_
  refine lv_bipush (v := 8) hx hb d_M_giveFacts_3 (by decide) ?_
  refine lv_icmp_ge (tgt := 26) hx hb d_M_giveFacts_5 (by decide) (fun z => absurd z (by decide)) (fun _ => ?_)
  refine lv_aload_n hx hb d_M_giveFacts_8 rfl (lv_at hl 1 rfl) ?_
  refine r_get (k := 20) (i := 0) F hS f_M_67.get h20 rfl d_M_giveFacts_9 ?_
  refine lv_iload_n hx hb d_M_giveFacts_12 rfl (lv_at hl 0 rfl) ?_
  refine lv_aload_n hx hb d_M_giveFacts_13 rfl (lv_at hl 1 rfl) ?_
  refine r_get (k := 20) (i := 0) F hS f_M_45.get h20 rfl d_M_giveFacts_14 ?_
  refine lv_iload_n hx hb d_M_giveFacts_17 rfl (lv_at hl 0 rfl) ?_
  refine r_iald (k := 31) (i := 0) F hS h31 (vp_in_nI (n := 7) (by decide) (by decide)) d_M_giveFacts_18 ?_
  rw [show (7 : Int32).toNatClampNeg = 7 from rfl]
  refine r_iast (k := 38) (i := 0) F hS (uV_self V 38 0 ((A 38), aI G 8 (upd (upd (upd (upd (upd (upd (upd gv 0 (fa 0)) 1 (fa 1)) 2 (fa 2)) 3 (fa 3)) 4 (fa 4)) 5 (fa 5)) 6 (fa 6)))) (vp_in_nI (n := 7) (by decide) (by decide)) d_M_giveFacts_19 (fun H locs hS => ?_)
  rw [show (7 : Int32).toNatClampNeg = 7 from rfl] at hS
  rw [uV_uV] at hS
  have hS : HS G s (uV V 38 0 ((A 38), aI G 8 (upd (upd (upd (upd (upd (upd (upd (upd gv 0 (fa 0)) 1 (fa 1)) 2 (fa 2)) 3 (fa 3)) 4 (fa 4)) 5 (fa 5)) 6 (fa 6)) 7 (fa 7)))) H _ := hS
  refine lv_iinc (v := 8) (lv' := [(1, .int 8), (0, .ref a1)]) hx hb d_M_giveFacts_20 hl (k := 0) rfl (by decide) (by decide) rfl (fun ls hl => ?_)
  refine lv_goto (tgt := 2) hx hb d_M_giveFacts_23 (by decide) ?_
  refine lv_iload_n hx hb d_M_giveFacts_2 rfl (lv_at hl 0 rfl) ?_
  refine lv_bipush (v := 8) hx hb d_M_giveFacts_3 (by decide) ?_
  refine lv_icmp_ge (tgt := 26) hx hb d_M_giveFacts_5 (by decide) (fun _ => ?_) (fun z => absurd z (by decide))
  exact m_retv F hr hS (Nat.le_of_ble_eq_true rfl) (Nat.le_of_ble_eq_true rfl) ⟨rfl, _, fun q hq => by rcases (show q = 0 ∨ q = 1 ∨ q = 2 ∨ q = 3 ∨ q = 4 ∨ q = 5 ∨ q = 6 ∨ q = 7 by omega) with rfl | rfl | rfl | rfl | rfl | rfl | rfl | rfl <;> rfl, rfl⟩ d_M_giveFacts_26
set_option maxHeartbeats 4000000 in
set_option maxRecDepth 100000 in
theorem k_M_make (G : Gl) (l : Launch) (htr : l.stackTraces = false) (V : Vw) (a1 : Nat) (A : Nat → Nat) (m0 ne nk : Nat) (dy th qs hs hd : Int32) (mow mki med mmd mak msk mfk mmn mpo mcs fa mkf ff fs mss mot : Nat → Int32) (hne : ne ≤ 24) (hW : MW G V a1 A (nI m0) (nI ne) dy th qs (nI nk) hs hd mow mki med mmd mak msk mfk mmn mpo mcs fa mkf ff fs mss mot) (n : Int32) (ln : Nat → Nat) (po cs : Nat → Nat → Int32) (hCD : CD ne mmn mpo mcs ln po cs) (hm : m0 ≤ 1000)  :
    Cm G l y_M_make b_M_make 3 (Option.some Jvm.ClassFile.FieldType.int) { frames := 3, cells := 0, slots := 0, locals := 78 } V [.ref a1, .int n] (fun rv V' => (¬ (∃ i : Nat, i < ne ∧ n = nI i) ∧ rv = some (.int 0) ∧ MW G V' a1 A (nI m0) (nI ne) dy 1 qs (nI nk) hs hd mow mki med mmd mak msk mfk mmn mpo mcs fa mkf ff fs mss mot ∧ INN V V') ∨ ∃ i : Nat, i < ne ∧ n = nI i ∧ ((¬ mmd i = 0 ∧ rv = some (.int 0) ∧ MW G V' a1 A (nI m0) (nI ne) dy 2 qs (nI nk) hs hd mow mki med mmd mak msk mfk mmn mpo mcs fa mkf ff fs mss mot ∧ INN V V') ∨ (mmd i = 0 ∧ rv = some (.int (-(mE (pEnd (ln i) (po i) (cs i) fa (mak i) m0).1))) ∧ (if (pEnd (ln i) (po i) (cs i) fa (mak i) m0).1 = 6 then MW G V' a1 A (nI m0) (nI ne) dy 0 qs (nI nk) hs (-1) mow mki med (upd mmd i 1) mak msk mfk mmn mpo mcs fa mkf ff fs mss mot else MW G V' a1 A (nI m0) (nI ne) dy 0 qs (nI nk) hs (-1) mow mki med (upd mmd i 0) mak msk mfk mmn mpo mcs fa mkf ff fs mss mot) ∧ INN V V'))) := by
  refine Cm.of htr (by decide) (Nat.le_of_ble_eq_true rfl) ?_
  intro p e s m args below meth c ls F hr hnm hS hl
  obtain ⟨hx, hb, hml, hown, hts, hK, hlk, -⟩ := id F
  have hl : lv_has ls 3 [(0, .ref a1), (1, .int n)] := hl
  obtain ⟨pu, st, nx, an, g, gv, h20, h21, h22, h23, h24, h25, h26, h27, h28, h29, h30, h31, h32, h33, h34, h35, h36, h37, h38⟩ := hW
  refine lv_aload_n hx hb d_M_make_0 rfl (lv_at hl 0 rfl) ?_
  refine lv_aload_n hx hb d_M_make_1 rfl (lv_at hl 0 rfl) ?_
  refine lv_iload_n hx hb d_M_make_2 rfl (lv_at hl 1 rfl) ?_
  refine r_callV (k := 20) (i := 0) (q := ("RuleClassesModel", T_M, 30)) (fs := [.int (nI m0), .int (nI ne), .int dy, .int th, .int qs, .int (nI nk), .int hs, .int hd, .ref (A 21), .ref (A 22), .ref (A 23), .ref (A 24), .ref (A 25), .ref (A 26), .ref (A 27), .ref (A 28), .ref (A 29), .ref (A 30), .ref (A 31), .ref (A 32), .ref (A 33), .ref (A 34), .ref (A 35), .ref (A 36), .ref (A 37), .int pu, .int st, .int nx, .long an, .ref (A 38)]) (As := [.int n]) (rest := [.ref a1]) F hS c_M_90 (k_M_isEdition G l htr V a1 A m0 ne nk dy th qs hs hd pu st nx an hne n h20) rfl h20 rfl hl.1 rfl (Nat.le_of_ble_eq_true rfl) d_M_make_3 ⟨Nat.le_of_ble_eq_true rfl, Nat.le_of_ble_eq_true rfl⟩ ⟨Nat.le_of_ble_eq_true rfl, Nat.le_of_ble_eq_true rfl⟩ (fun rv V1 H locs hR hS => ?_)
  obtain ⟨hV, bz_3, rfl, hz_3⟩ := hR
  rw [hV] at hS
  refine W.eq (g2 := F0 m 6 ls [.int bz_3, .ref a1]) rfl ?_
  refine lv_if_ne (tgt := 13) hx hb d_M_make_6 (by decide) (fun c_6 => ?_) (fun c_6 => ?_)
  · obtain ⟨i, hi, rfl⟩ := hz_3.t c_6
    refine lv_aload_n hx hb d_M_make_13 rfl (lv_at hl 0 rfl) ?_
    refine r_get (k := 20) (i := 0) F hS f_M_23.get h20 rfl d_M_make_14 ?_
    refine lv_iload_n hx hb d_M_make_17 rfl (lv_at hl 1 rfl) ?_
    refine r_zald (k := 24) (i := 0) F hS h24 (vp_in_nI (by omega) (by decide)) d_M_make_18 ?_
    rw [nI_clamp (by omega)]
    refine lv_if_eq (tgt := 26) hx hb d_M_make_19 (by decide) (fun c_19 => ?_) (fun c_19 => ?_)
    · refine lv_iconst (v := 0) hx hb d_M_make_26 (by decide) ?_
      refine r_put (k := 20) (i := 0) F hS f_M_73 ct_M h20 rfl rfl (Nat.le_of_ble_eq_true rfl) d_M_make_27 (fun H locs hS => ?_)
      have hS : HS G s (uV V 20 0 (a1, oM A (nI m0) (nI ne) dy 0 qs (nI nk) hs hd pu st nx an)) H _ := hS
      refine lv_aload_n hx hb d_M_make_30 rfl (lv_at hl 0 rfl) ?_
      refine r_get (k := 20) (i := 0) F hS f_M_73.get (uV_self V 20 0 (a1, oM A (nI m0) (nI ne) dy 0 qs (nI nk) hs hd pu st nx an)) rfl d_M_make_31 ?_
      refine lv_if_eq (tgt := 39) hx hb d_M_make_34 (by decide) (fun _ => ?_) (fun z => absurd z (by decide))
      refine lv_aload_n hx hb d_M_make_39 rfl (lv_at hl 0 rfl) ?_
      refine lv_iconst (v := (-1)) hx hb d_M_make_40 (by decide) ?_
      refine r_put (k := 20) (i := 0) F hS f_M_9 ct_M (uV_self V 20 0 (a1, oM A (nI m0) (nI ne) dy 0 qs (nI nk) hs hd pu st nx an)) rfl rfl (Nat.le_of_ble_eq_true rfl) d_M_make_41 (fun H locs hS => ?_)
      rw [uV_uV] at hS
      have hS : HS G s (uV V 20 0 (a1, oM A (nI m0) (nI ne) dy 0 qs (nI nk) hs (-1) pu st nx an)) H _ := hS
      refine lv_aload_n hx hb d_M_make_44 rfl (lv_at hl 0 rfl) ?_
      refine r_callV (k := 20) (i := 0) (q := ("RuleClassesModel", T_M, 30)) (fs := [.int (nI m0), .int (nI ne), .int dy, .int 0, .int qs, .int (nI nk), .int hs, .int (-1), .ref (A 21), .ref (A 22), .ref (A 23), .ref (A 24), .ref (A 25), .ref (A 26), .ref (A 27), .ref (A 28), .ref (A 29), .ref (A 30), .ref (A 31), .ref (A 32), .ref (A 33), .ref (A 34), .ref (A 35), .ref (A 36), .ref (A 37), .int pu, .int st, .int nx, .long an, .ref (A 38)]) (As := []) (rest := []) F hS c_M_125 (k_M_giveFacts G l htr (uV V 20 0 (a1, oM A (nI m0) (nI ne) dy 0 qs (nI nk) hs (-1) pu st nx an)) a1 A m0 ne nk dy 0 qs hs (-1) pu st nx an fa gv (uV_self V 20 0 (a1, oM A (nI m0) (nI ne) dy 0 qs (nI nk) hs (-1) pu st nx an)) h31 h38) rfl (uV_self V 20 0 (a1, oM A (nI m0) (nI ne) dy 0 qs (nI nk) hs (-1) pu st nx an)) rfl hl.1 rfl (Nat.le_of_ble_eq_true rfl) d_M_make_45 ⟨Nat.le_of_ble_eq_true rfl, Nat.le_of_ble_eq_true rfl⟩ ⟨Nat.le_of_ble_eq_true rfl, Nat.le_of_ble_eq_true rfl⟩ (fun rv V1 H locs hR hS => ?_)
      obtain ⟨rfl, gv_45, hgv_45, rfl⟩ := hR
      refine W.eq (g2 := F0 m 48 ls []) rfl ?_
      refine lv_aload_n hx hb d_M_make_48 rfl (lv_at hl 0 rfl) ?_
      refine lv_iload_n hx hb d_M_make_49 rfl (lv_at hl 1 rfl) ?_
      refine r_callV (k := 20) (i := 0) (q := ("RuleClassesModel", T_M, 30)) (fs := [.int (nI m0), .int (nI ne), .int dy, .int 0, .int qs, .int (nI nk), .int hs, .int (-1), .ref (A 21), .ref (A 22), .ref (A 23), .ref (A 24), .ref (A 25), .ref (A 26), .ref (A 27), .ref (A 28), .ref (A 29), .ref (A 30), .ref (A 31), .ref (A 32), .ref (A 33), .ref (A 34), .ref (A 35), .ref (A 36), .ref (A 37), .int pu, .int st, .int nx, .long an, .ref (A 38)]) (As := [.int (nI i)]) (rest := []) F hS c_M_128 (k_M_run G l htr (uV (uV V 20 0 (a1, oM A (nI m0) (nI ne) dy 0 qs (nI nk) hs (-1) pu st nx an)) 38 0 ((A 38), aI G 8 gv_45)) a1 A m0 ne nk dy 0 qs hs (-1) mak  mmn mpo mcs gv_45 fa i (ln i) (po i) (cs i) (by omega) hm (hCD _ hi).1 (hCD _ hi).2.1 (hCD _ hi).2.2.2 (hCD _ hi).2.2.1 hgv_45 pu st nx an g (uV_self V 20 0 (a1, oM A (nI m0) (nI ne) dy 0 qs (nI nk) hs (-1) pu st nx an)) h25 h28 h29 h30 h37 (uV_self (uV V 20 0 (a1, oM A (nI m0) (nI ne) dy 0 qs (nI nk) hs (-1) pu st nx an)) 38 0 ((A 38), aI G 8 gv_45))) rfl (uV_self V 20 0 (a1, oM A (nI m0) (nI ne) dy 0 qs (nI nk) hs (-1) pu st nx an)) rfl hl.1 rfl (Nat.le_of_ble_eq_true rfl) d_M_make_50 ⟨Nat.le_of_ble_eq_true rfl, Nat.le_of_ble_eq_true rfl⟩ ⟨Nat.le_of_ble_eq_true rfl, Nat.le_of_ble_eq_true rfl⟩ (fun rv V1 H locs hR hS => ?_)
      obtain ⟨pu_50, nx_50, g_50, rfl, rfl⟩ := hR
      refine W.eq (g2 := F0 m 53 ls [.int (mE (pEnd (ln i) (po i) (cs i) fa (mak i) m0).1)]) rfl ?_
      refine lv_istore_n (lv' := [(2, .int (mE (pEnd (ln i) (po i) (cs i) fa (mak i) m0).1)), (0, .ref a1), (1, .int (nI i))]) hx hb d_M_make_53 rfl hl (by decide) rfl (fun ls hl => ?_)
      refine lv_aload_n hx hb d_M_make_54 rfl (lv_at hl 1 rfl) ?_
      refine r_get (k := 20) (i := 0) F hS f_M_23.get (uV_self (uV (uV (uV V 20 0 (a1, oM A (nI m0) (nI ne) dy 0 qs (nI nk) hs (-1) pu st nx an)) 38 0 ((A 38), aI G 8 gv_45)) 37 0 ((A 37), aL G 8 g_50)) 20 0 (a1, oM A (nI m0) (nI ne) dy 0 qs (nI nk) hs (-1) pu_50 ((pEnd (ln i) (po i) (cs i) fa (mak i) m0).2.2.2.2.1) nx_50 (if (pEnd (ln i) (po i) (cs i) fa (mak i) m0).1 = 6 then (pEnd (ln i) (po i) (cs i) fa (mak i) m0).2.2.2.1.toInt64 else an))) rfl d_M_make_55 ?_
      refine lv_iload_n hx hb d_M_make_58 rfl (lv_at hl 2 rfl) ?_
      refine lv_iload_n hx hb d_M_make_59 rfl (lv_at hl 0 rfl) ?_
      refine lv_if_ne (tgt := 67) hx hb d_M_make_60 (by decide) (fun c_60 => ?_) (fun c_60 => ?_)
      · have h6 : ¬ (pEnd (ln i) (po i) (cs i) fa (mak i) m0).1 = 6 := fun z => c_60 ((mE_0 (pRun_an m0).2).mpr z)
        refine lv_iconst (v := 0) hx hb d_M_make_67 (by decide) ?_
        refine r_zast (k := 24) (i := 0) F hS h24 (vp_in_nI (by omega) (by decide)) rfl d_M_make_68 (fun H locs hS => ?_)
        rw [nI_clamp (by omega)] at hS
        have hS : HS G s (uV (uM G (uV (uV V 20 0 (a1, oM A (nI m0) (nI ne) dy 0 qs (nI nk) hs (-1) pu st nx an)) 38 0 ((A 38), aI G 8 gv_45)) a1 A (nI m0) (nI ne) dy 0 qs (nI nk) hs (-1) pu_50 (pEnd (ln i) (po i) (cs i) fa (mak i) m0).2.2.2.2.1 nx_50 (if (pEnd (ln i) (po i) (cs i) fa (mak i) m0).1 = 6 then (pEnd (ln i) (po i) (cs i) fa (mak i) m0).2.2.2.1.toInt64 else an) g_50) 24 0 ((A 24), aZ G 24 (upd mmd i 0))) H _ := hS
        refine lv_iload_n hx hb d_M_make_69 rfl (lv_at hl 0 rfl) ?_
        refine lv_ineg hx hb d_M_make_70 ?_
        exact m_reti F hr hS (Nat.le_of_ble_eq_true rfl) (Nat.le_of_ble_eq_true rfl) (Or.inr ⟨i, hi, rfl, Or.inr ⟨c_19, rfl, by rw [if_neg h6]; exact ⟨pu_50, (pEnd (ln i) (po i) (cs i) fa (mak i) m0).2.2.2.2.1, nx_50, (if (pEnd (ln i) (po i) (cs i) fa (mak i) m0).1 = 6 then (pEnd (ln i) (po i) (cs i) fa (mak i) m0).2.2.2.1.toInt64 else an), g_50, gv_45, rfl, h21, h22, h23, rfl, h25, h26, h27, h28, h29, h30, h31, h32, h33, h34, h35, h36, rfl, rfl⟩, (by repeat' first | exact INN.rf | refine INN.u ?_ (by decide) (by decide))⟩⟩) d_M_make_71
      · have h6 : (pEnd (ln i) (po i) (cs i) fa (mak i) m0).1 = 6 := (mE_0 (pRun_an m0).2).mp c_60
        refine lv_iconst (v := 1) hx hb d_M_make_63 (by decide) ?_
        refine lv_goto (tgt := 68) hx hb d_M_make_64 (by decide) ?_
        refine r_zast (k := 24) (i := 0) F hS h24 (vp_in_nI (by omega) (by decide)) rfl d_M_make_68 (fun H locs hS => ?_)
        rw [nI_clamp (by omega)] at hS
        have hS : HS G s (uV (uM G (uV (uV V 20 0 (a1, oM A (nI m0) (nI ne) dy 0 qs (nI nk) hs (-1) pu st nx an)) 38 0 ((A 38), aI G 8 gv_45)) a1 A (nI m0) (nI ne) dy 0 qs (nI nk) hs (-1) pu_50 (pEnd (ln i) (po i) (cs i) fa (mak i) m0).2.2.2.2.1 nx_50 (if (pEnd (ln i) (po i) (cs i) fa (mak i) m0).1 = 6 then (pEnd (ln i) (po i) (cs i) fa (mak i) m0).2.2.2.1.toInt64 else an) g_50) 24 0 ((A 24), aZ G 24 (upd mmd i 1))) H _ := hS
        refine lv_iload_n hx hb d_M_make_69 rfl (lv_at hl 0 rfl) ?_
        refine lv_ineg hx hb d_M_make_70 ?_
        exact m_reti F hr hS (Nat.le_of_ble_eq_true rfl) (Nat.le_of_ble_eq_true rfl) (Or.inr ⟨i, hi, rfl, Or.inr ⟨c_19, rfl, by rw [if_pos h6]; exact ⟨pu_50, (pEnd (ln i) (po i) (cs i) fa (mak i) m0).2.2.2.2.1, nx_50, (if (pEnd (ln i) (po i) (cs i) fa (mak i) m0).1 = 6 then (pEnd (ln i) (po i) (cs i) fa (mak i) m0).2.2.2.1.toInt64 else an), g_50, gv_45, rfl, h21, h22, h23, rfl, h25, h26, h27, h28, h29, h30, h31, h32, h33, h34, h35, h36, rfl, rfl⟩, (by repeat' first | exact INN.rf | refine INN.u ?_ (by decide) (by decide))⟩⟩) d_M_make_71
    · refine lv_iconst (v := 2) hx hb d_M_make_22 (by decide) ?_
      refine lv_goto (tgt := 27) hx hb d_M_make_23 (by decide) ?_
      refine r_put (k := 20) (i := 0) F hS f_M_73 ct_M h20 rfl rfl (Nat.le_of_ble_eq_true rfl) d_M_make_27 (fun H locs hS => ?_)
      have hS : HS G s (uV V 20 0 (a1, oM A (nI m0) (nI ne) dy 2 qs (nI nk) hs hd pu st nx an)) H _ := hS
      refine lv_aload_n hx hb d_M_make_30 rfl (lv_at hl 0 rfl) ?_
      refine r_get (k := 20) (i := 0) F hS f_M_73.get (uV_self V 20 0 (a1, oM A (nI m0) (nI ne) dy 2 qs (nI nk) hs hd pu st nx an)) rfl d_M_make_31 ?_
      refine lv_if_eq (tgt := 39) hx hb d_M_make_34 (by decide) (fun z => absurd z (by decide)) (fun _ => ?_)
      refine lv_iconst (v := 0) hx hb d_M_make_37 (by decide) ?_
      exact m_reti F hr hS (Nat.le_of_ble_eq_true rfl) (Nat.le_of_ble_eq_true rfl) (Or.inr ⟨i, hi, rfl, Or.inl ⟨c_19, rfl, ⟨pu, st, nx, an, g, gv, rfl, h21, h22, h23, h24, h25, h26, h27, h28, h29, h30, h31, h32, h33, h34, h35, h36, h37, h38⟩, (by repeat' first | exact INN.rf | refine INN.u ?_ (by decide) (by decide))⟩⟩) d_M_make_38
  · refine lv_iconst (v := 1) hx hb d_M_make_9 (by decide) ?_
    refine lv_goto (tgt := 27) hx hb d_M_make_10 (by decide) ?_
    refine r_put (k := 20) (i := 0) F hS f_M_73 ct_M h20 rfl rfl (Nat.le_of_ble_eq_true rfl) d_M_make_27 (fun H locs hS => ?_)
    have hS : HS G s (uV V 20 0 (a1, oM A (nI m0) (nI ne) dy 1 qs (nI nk) hs hd pu st nx an)) H _ := hS
    refine lv_aload_n hx hb d_M_make_30 rfl (lv_at hl 0 rfl) ?_
    refine r_get (k := 20) (i := 0) F hS f_M_73.get (uV_self V 20 0 (a1, oM A (nI m0) (nI ne) dy 1 qs (nI nk) hs hd pu st nx an)) rfl d_M_make_31 ?_
    refine lv_if_eq (tgt := 39) hx hb d_M_make_34 (by decide) (fun z => absurd z (by decide)) (fun _ => ?_)
    refine lv_iconst (v := 0) hx hb d_M_make_37 (by decide) ?_
    exact m_reti F hr hS (Nat.le_of_ble_eq_true rfl) (Nat.le_of_ble_eq_true rfl) (Or.inl ⟨hz_3.f c_6, rfl, ⟨pu, st, nx, an, g, gv, rfl, h21, h22, h23, h24, h25, h26, h27, h28, h29, h30, h31, h32, h33, h34, h35, h36, h37, h38⟩, (by repeat' first | exact INN.rf | refine INN.u ?_ (by decide) (by decide))⟩) d_M_make_38
set_option maxHeartbeats 4000000 in
set_option maxRecDepth 100000 in
theorem k_M_fact (G : Gl) (l : Launch) (htr : l.stackTraces = false) (V : Vw) (a1 : Nat) (A : Nat → Nat) (m0 ne nk : Nat) (dy th qs hs hd : Int32) (mow mki med mmd mak msk mfk mmn mpo mcs fa mkf ff fs mss mot : Nat → Int32) (hne : ne ≤ 24) (hW : MW G V a1 A (nI m0) (nI ne) dy th qs (nI nk) hs hd mow mki med mmd mak msk mfk mmn mpo mcs fa mkf ff fs mss mot) (n v : Int32)  :
    Cm G l y_M_fact b_M_fact 3 none { frames := 1, cells := 0, slots := 0, locals := 22 } V [.ref a1, .int n, .int v] (fun rv V' => rv = none ∧ ((¬ ((0 ≤ n ∧ n ≤ 7) ∧ (-10000 ≤ v ∧ v ≤ 10000)) ∧ MW G V' a1 A (nI m0) (nI ne) dy 1 qs (nI nk) hs hd mow mki med mmd mak msk mfk mmn mpo mcs fa mkf ff fs mss mot ∧ INN V V') ∨ ∃ j : Nat, j ≤ 7 ∧ n = nI j ∧ (-10000 ≤ v ∧ v ≤ 10000) ∧ MW G V' a1 A (nI m0) (nI ne) dy 0 qs (nI nk) hs hd mow mki med mmd mak msk mfk mmn mpo mcs (upd fa j v) mkf ff fs mss mot ∧ INN V V')) := by
  refine Cm.of htr (by decide) (Nat.le_of_ble_eq_true rfl) ?_
  intro p e s m args below meth c ls F hr hnm hS hl
  obtain ⟨hx, hb, hml, hown, hts, hK, hlk, -⟩ := id F
  have hl : lv_has ls 3 [(0, .ref a1), (1, .int n), (2, .int v)] := hl
  obtain ⟨pu, st, nx, an, g, gv, h20, h21, h22, h23, h24, h25, h26, h27, h28, h29, h30, h31, h32, h33, h34, h35, h36, h37, h38⟩ := hW
  refine lv_aload_n hx hb d_M_fact_0 rfl (lv_at hl 0 rfl) ?_
  refine lv_iload_n hx hb d_M_fact_1 rfl (lv_at hl 1 rfl) ?_
  refine lv_iconst (v := 0) hx hb d_M_fact_2 (by decide) ?_
  refine lv_bipush (v := 7) hx hb d_M_fact_3 (by decide) ?_
  refine r_callS (As := [.int n, .int 0, .int 7]) (rest := [.ref a1]) F hS c_M_79 (k_M_within G l htr V n 0 7) rfl hl.1 rfl (Nat.le_of_ble_eq_true rfl) d_M_fact_5 ⟨Nat.le_of_ble_eq_true rfl, Nat.le_of_ble_eq_true rfl⟩ ⟨Nat.le_of_ble_eq_true rfl, Nat.le_of_ble_eq_true rfl⟩ (fun rv V1 H locs hR hS => ?_)
  obtain ⟨hV, bz_5, rfl, hz_5⟩ := hR
  rw [hV] at hS
  refine W.eq (g2 := F0 m 8 ls [.int bz_5, .ref a1]) rfl ?_
  refine lv_if_eq (tgt := 28) hx hb d_M_fact_8 (by decide) (fun c_8 => ?_) (fun c_8 => ?_)
  · refine lv_iconst (v := 1) hx hb d_M_fact_28 (by decide) ?_
    refine r_put (k := 20) (i := 0) F hS f_M_73 ct_M h20 rfl rfl (Nat.le_of_ble_eq_true rfl) d_M_fact_29 (fun H locs hS => ?_)
    have hS : HS G s (uV V 20 0 (a1, oM A (nI m0) (nI ne) dy 1 qs (nI nk) hs hd pu st nx an)) H _ := hS
    refine lv_aload_n hx hb d_M_fact_32 rfl (lv_at hl 0 rfl) ?_
    refine r_get (k := 20) (i := 0) F hS f_M_73.get (uV_self V 20 0 (a1, oM A (nI m0) (nI ne) dy 1 qs (nI nk) hs hd pu st nx an)) rfl d_M_fact_33 ?_
    refine lv_if_ne (tgt := 46) hx hb d_M_fact_36 (by decide) (fun _ => ?_) (fun z => absurd z (by decide))
    exact m_retv F hr hS (Nat.le_of_ble_eq_true rfl) (Nat.le_of_ble_eq_true rfl) ⟨rfl, Or.inl ⟨fun z => hz_5.f c_8 z.1, ⟨pu, st, nx, an, g, gv, rfl, h21, h22, h23, h24, h25, h26, h27, h28, h29, h30, h31, h32, h33, h34, h35, h36, h37, h38⟩, (by repeat' first | exact INN.rf | refine INN.u ?_ (by decide) (by decide))⟩⟩ d_M_fact_46
  · refine lv_iload_n hx hb d_M_fact_11 rfl (lv_at hl 2 rfl) ?_
    refine lv_sipush (v := (-10000)) hx hb d_M_fact_12 (by decide) ?_
    refine lv_sipush (v := 10000) hx hb d_M_fact_15 (by decide) ?_
    refine r_callS (As := [.int v, .int (-10000), .int 10000]) (rest := [.ref a1]) F hS c_M_79 (k_M_within G l htr V v (-10000) 10000) rfl hl.1 rfl (Nat.le_of_ble_eq_true rfl) d_M_fact_18 ⟨Nat.le_of_ble_eq_true rfl, Nat.le_of_ble_eq_true rfl⟩ ⟨Nat.le_of_ble_eq_true rfl, Nat.le_of_ble_eq_true rfl⟩ (fun rv V1 H locs hR hS => ?_)
    obtain ⟨hV, bz_18, rfl, hz_18⟩ := hR
    rw [hV] at hS
    refine W.eq (g2 := F0 m 21 ls [.int bz_18, .ref a1]) rfl ?_
    refine lv_if_eq (tgt := 28) hx hb d_M_fact_21 (by decide) (fun c_21 => ?_) (fun c_21 => ?_)
    · refine lv_iconst (v := 1) hx hb d_M_fact_28 (by decide) ?_
      refine r_put (k := 20) (i := 0) F hS f_M_73 ct_M h20 rfl rfl (Nat.le_of_ble_eq_true rfl) d_M_fact_29 (fun H locs hS => ?_)
      have hS : HS G s (uV V 20 0 (a1, oM A (nI m0) (nI ne) dy 1 qs (nI nk) hs hd pu st nx an)) H _ := hS
      refine lv_aload_n hx hb d_M_fact_32 rfl (lv_at hl 0 rfl) ?_
      refine r_get (k := 20) (i := 0) F hS f_M_73.get (uV_self V 20 0 (a1, oM A (nI m0) (nI ne) dy 1 qs (nI nk) hs hd pu st nx an)) rfl d_M_fact_33 ?_
      refine lv_if_ne (tgt := 46) hx hb d_M_fact_36 (by decide) (fun _ => ?_) (fun z => absurd z (by decide))
      exact m_retv F hr hS (Nat.le_of_ble_eq_true rfl) (Nat.le_of_ble_eq_true rfl) ⟨rfl, Or.inl ⟨fun z => hz_18.f c_21 z.2, ⟨pu, st, nx, an, g, gv, rfl, h21, h22, h23, h24, h25, h26, h27, h28, h29, h30, h31, h32, h33, h34, h35, h36, h37, h38⟩, (by repeat' first | exact INN.rf | refine INN.u ?_ (by decide) (by decide))⟩⟩ d_M_fact_46
    · refine lv_iconst (v := 0) hx hb d_M_fact_24 (by decide) ?_
      refine lv_goto (tgt := 29) hx hb d_M_fact_25 (by decide) ?_
      refine r_put (k := 20) (i := 0) F hS f_M_73 ct_M h20 rfl rfl (Nat.le_of_ble_eq_true rfl) d_M_fact_29 (fun H locs hS => ?_)
      have hS : HS G s (uV V 20 0 (a1, oM A (nI m0) (nI ne) dy 0 qs (nI nk) hs hd pu st nx an)) H _ := hS
      refine lv_aload_n hx hb d_M_fact_32 rfl (lv_at hl 0 rfl) ?_
      refine r_get (k := 20) (i := 0) F hS f_M_73.get (uV_self V 20 0 (a1, oM A (nI m0) (nI ne) dy 0 qs (nI nk) hs hd pu st nx an)) rfl d_M_fact_33 ?_
      refine lv_if_ne (tgt := 46) hx hb d_M_fact_36 (by decide) (fun z => absurd z (by decide)) (fun _ => ?_)
      obtain ⟨j, hj7, rfl⟩ := (in_iff (n := 7) (by decide)).mp (hz_5.t c_8)
      refine lv_aload_n hx hb d_M_fact_39 rfl (lv_at hl 0 rfl) ?_
      refine r_get (k := 20) (i := 0) F hS f_M_45.get (uV_self V 20 0 (a1, oM A (nI m0) (nI ne) dy 0 qs (nI nk) hs hd pu st nx an)) rfl d_M_fact_40 ?_
      refine lv_iload_n hx hb d_M_fact_43 rfl (lv_at hl 1 rfl) ?_
      refine lv_iload_n hx hb d_M_fact_44 rfl (lv_at hl 2 rfl) ?_
      refine r_iast (k := 31) (i := 0) F hS h31 (vp_in_nI (by omega) (by decide)) d_M_fact_45 (fun H locs hS => ?_)
      rw [nI_clamp (by omega)] at hS
      have hS : HS G s (uV (uV V 20 0 (a1, oM A (nI m0) (nI ne) dy 0 qs (nI nk) hs hd pu st nx an)) 31 0 ((A 31), aI G 8 (upd fa j v))) H _ := hS
      exact m_retv F hr hS (Nat.le_of_ble_eq_true rfl) (Nat.le_of_ble_eq_true rfl) ⟨rfl, Or.inr ⟨j, hj7, rfl, hz_18.t c_21, ⟨pu, st, nx, an, g, gv, rfl, h21, h22, h23, h24, h25, h26, h27, h28, h29, h30, rfl, h32, h33, h34, h35, h36, h37, h38⟩, (by repeat' first | exact INN.rf | refine INN.u ?_ (by decide) (by decide))⟩⟩ d_M_fact_46
set_option maxHeartbeats 4000000 in
set_option maxRecDepth 100000 in
theorem k_M_fallback (G : Gl) (l : Launch) (htr : l.stackTraces = false) (V : Vw) (a1 : Nat) (A : Nat → Nat) (m0 ne nk : Nat) (dy th qs hs hd : Int32) (mow mki med mmd mak msk mfk mmn mpo mcs fa mkf ff fs mss mot : Nat → Int32) (hne : ne ≤ 24) (hW : MW G V a1 A (nI m0) (nI ne) dy th qs (nI nk) hs hd mow mki med mmd mak msk mfk mmn mpo mcs fa mkf ff fs mss mot) (n v : Int32)  :
    Cm G l y_M_fallback b_M_fallback 3 none { frames := 1, cells := 0, slots := 0, locals := 22 } V [.ref a1, .int n, .int v] (fun rv V' => rv = none ∧ ((¬ ((0 ≤ n ∧ n ≤ 2) ∧ (-10000 ≤ v ∧ v ≤ 10000)) ∧ MW G V' a1 A (nI m0) (nI ne) dy 1 qs (nI nk) hs hd mow mki med mmd mak msk mfk mmn mpo mcs fa mkf ff fs mss mot ∧ INN V V') ∨ ∃ j : Nat, j ≤ 2 ∧ n = nI j ∧ (-10000 ≤ v ∧ v ≤ 10000) ∧ MW G V' a1 A (nI m0) (nI ne) dy 0 qs (nI nk) hs hd mow mki med mmd mak msk mfk mmn mpo mcs fa mkf (upd ff j v) fs mss mot ∧ INN V V')) := by
  refine Cm.of htr (by decide) (Nat.le_of_ble_eq_true rfl) ?_
  intro p e s m args below meth c ls F hr hnm hS hl
  obtain ⟨hx, hb, hml, hown, hts, hK, hlk, -⟩ := id F
  have hl : lv_has ls 3 [(0, .ref a1), (1, .int n), (2, .int v)] := hl
  obtain ⟨pu, st, nx, an, g, gv, h20, h21, h22, h23, h24, h25, h26, h27, h28, h29, h30, h31, h32, h33, h34, h35, h36, h37, h38⟩ := hW
  refine lv_aload_n hx hb d_M_fallback_0 rfl (lv_at hl 0 rfl) ?_
  refine lv_iload_n hx hb d_M_fallback_1 rfl (lv_at hl 1 rfl) ?_
  refine lv_iconst (v := 0) hx hb d_M_fallback_2 (by decide) ?_
  refine lv_iconst (v := 2) hx hb d_M_fallback_3 (by decide) ?_
  refine r_callS (As := [.int n, .int 0, .int 2]) (rest := [.ref a1]) F hS c_M_79 (k_M_within G l htr V n 0 2) rfl hl.1 rfl (Nat.le_of_ble_eq_true rfl) d_M_fallback_4 ⟨Nat.le_of_ble_eq_true rfl, Nat.le_of_ble_eq_true rfl⟩ ⟨Nat.le_of_ble_eq_true rfl, Nat.le_of_ble_eq_true rfl⟩ (fun rv V1 H locs hR hS => ?_)
  obtain ⟨hV, bz_4, rfl, hz_4⟩ := hR
  rw [hV] at hS
  refine W.eq (g2 := F0 m 7 ls [.int bz_4, .ref a1]) rfl ?_
  refine lv_if_eq (tgt := 27) hx hb d_M_fallback_7 (by decide) (fun c_7 => ?_) (fun c_7 => ?_)
  · refine lv_iconst (v := 1) hx hb d_M_fallback_27 (by decide) ?_
    refine r_put (k := 20) (i := 0) F hS f_M_73 ct_M h20 rfl rfl (Nat.le_of_ble_eq_true rfl) d_M_fallback_28 (fun H locs hS => ?_)
    have hS : HS G s (uV V 20 0 (a1, oM A (nI m0) (nI ne) dy 1 qs (nI nk) hs hd pu st nx an)) H _ := hS
    refine lv_aload_n hx hb d_M_fallback_31 rfl (lv_at hl 0 rfl) ?_
    refine r_get (k := 20) (i := 0) F hS f_M_73.get (uV_self V 20 0 (a1, oM A (nI m0) (nI ne) dy 1 qs (nI nk) hs hd pu st nx an)) rfl d_M_fallback_32 ?_
    refine lv_if_ne (tgt := 45) hx hb d_M_fallback_35 (by decide) (fun _ => ?_) (fun z => absurd z (by decide))
    exact m_retv F hr hS (Nat.le_of_ble_eq_true rfl) (Nat.le_of_ble_eq_true rfl) ⟨rfl, Or.inl ⟨fun z => hz_4.f c_7 z.1, ⟨pu, st, nx, an, g, gv, rfl, h21, h22, h23, h24, h25, h26, h27, h28, h29, h30, h31, h32, h33, h34, h35, h36, h37, h38⟩, (by repeat' first | exact INN.rf | refine INN.u ?_ (by decide) (by decide))⟩⟩ d_M_fallback_45
  · refine lv_iload_n hx hb d_M_fallback_10 rfl (lv_at hl 2 rfl) ?_
    refine lv_sipush (v := (-10000)) hx hb d_M_fallback_11 (by decide) ?_
    refine lv_sipush (v := 10000) hx hb d_M_fallback_14 (by decide) ?_
    refine r_callS (As := [.int v, .int (-10000), .int 10000]) (rest := [.ref a1]) F hS c_M_79 (k_M_within G l htr V v (-10000) 10000) rfl hl.1 rfl (Nat.le_of_ble_eq_true rfl) d_M_fallback_17 ⟨Nat.le_of_ble_eq_true rfl, Nat.le_of_ble_eq_true rfl⟩ ⟨Nat.le_of_ble_eq_true rfl, Nat.le_of_ble_eq_true rfl⟩ (fun rv V1 H locs hR hS => ?_)
    obtain ⟨hV, bz_17, rfl, hz_17⟩ := hR
    rw [hV] at hS
    refine W.eq (g2 := F0 m 20 ls [.int bz_17, .ref a1]) rfl ?_
    refine lv_if_eq (tgt := 27) hx hb d_M_fallback_20 (by decide) (fun c_20 => ?_) (fun c_20 => ?_)
    · refine lv_iconst (v := 1) hx hb d_M_fallback_27 (by decide) ?_
      refine r_put (k := 20) (i := 0) F hS f_M_73 ct_M h20 rfl rfl (Nat.le_of_ble_eq_true rfl) d_M_fallback_28 (fun H locs hS => ?_)
      have hS : HS G s (uV V 20 0 (a1, oM A (nI m0) (nI ne) dy 1 qs (nI nk) hs hd pu st nx an)) H _ := hS
      refine lv_aload_n hx hb d_M_fallback_31 rfl (lv_at hl 0 rfl) ?_
      refine r_get (k := 20) (i := 0) F hS f_M_73.get (uV_self V 20 0 (a1, oM A (nI m0) (nI ne) dy 1 qs (nI nk) hs hd pu st nx an)) rfl d_M_fallback_32 ?_
      refine lv_if_ne (tgt := 45) hx hb d_M_fallback_35 (by decide) (fun _ => ?_) (fun z => absurd z (by decide))
      exact m_retv F hr hS (Nat.le_of_ble_eq_true rfl) (Nat.le_of_ble_eq_true rfl) ⟨rfl, Or.inl ⟨fun z => hz_17.f c_20 z.2, ⟨pu, st, nx, an, g, gv, rfl, h21, h22, h23, h24, h25, h26, h27, h28, h29, h30, h31, h32, h33, h34, h35, h36, h37, h38⟩, (by repeat' first | exact INN.rf | refine INN.u ?_ (by decide) (by decide))⟩⟩ d_M_fallback_45
    · refine lv_iconst (v := 0) hx hb d_M_fallback_23 (by decide) ?_
      refine lv_goto (tgt := 28) hx hb d_M_fallback_24 (by decide) ?_
      refine r_put (k := 20) (i := 0) F hS f_M_73 ct_M h20 rfl rfl (Nat.le_of_ble_eq_true rfl) d_M_fallback_28 (fun H locs hS => ?_)
      have hS : HS G s (uV V 20 0 (a1, oM A (nI m0) (nI ne) dy 0 qs (nI nk) hs hd pu st nx an)) H _ := hS
      refine lv_aload_n hx hb d_M_fallback_31 rfl (lv_at hl 0 rfl) ?_
      refine r_get (k := 20) (i := 0) F hS f_M_73.get (uV_self V 20 0 (a1, oM A (nI m0) (nI ne) dy 0 qs (nI nk) hs hd pu st nx an)) rfl d_M_fallback_32 ?_
      refine lv_if_ne (tgt := 45) hx hb d_M_fallback_35 (by decide) (fun z => absurd z (by decide)) (fun _ => ?_)
      obtain ⟨j, hj7, rfl⟩ := (in_iff (n := 2) (by decide)).mp (hz_4.t c_7)
      refine lv_aload_n hx hb d_M_fallback_38 rfl (lv_at hl 0 rfl) ?_
      refine r_get (k := 20) (i := 0) F hS f_M_51.get (uV_self V 20 0 (a1, oM A (nI m0) (nI ne) dy 0 qs (nI nk) hs hd pu st nx an)) rfl d_M_fallback_39 ?_
      refine lv_iload_n hx hb d_M_fallback_42 rfl (lv_at hl 1 rfl) ?_
      refine lv_iload_n hx hb d_M_fallback_43 rfl (lv_at hl 2 rfl) ?_
      refine r_iast (k := 33) (i := 0) F hS h33 (vp_in_nI (by omega) (by decide)) d_M_fallback_44 (fun H locs hS => ?_)
      rw [nI_clamp (by omega)] at hS
      have hS : HS G s (uV (uV V 20 0 (a1, oM A (nI m0) (nI ne) dy 0 qs (nI nk) hs hd pu st nx an)) 33 0 ((A 33), aI G 3 (upd ff j v))) H _ := hS
      exact m_retv F hr hS (Nat.le_of_ble_eq_true rfl) (Nat.le_of_ble_eq_true rfl) ⟨rfl, Or.inr ⟨j, hj7, rfl, hz_17.t c_20, ⟨pu, st, nx, an, g, gv, rfl, h21, h22, h23, h24, h25, h26, h27, h28, h29, h30, h31, h32, rfl, h34, h35, h36, h37, h38⟩, (by repeat' first | exact INN.rf | refine INN.u ?_ (by decide) (by decide))⟩⟩ d_M_fallback_45

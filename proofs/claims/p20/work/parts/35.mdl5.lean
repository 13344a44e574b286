set_option maxHeartbeats 8000000 in
set_option maxRecDepth 100000 in
theorem lp_M_compare (G : Gl) (l : Launch) (htr : l.stackTraces = false) (V : Vw) (a1 : Nat) (A : Nat → Nat) (m0 ne nk : Nat) (dy qs hs hd : Int32) (mak mmn mpo mcs mkf : Nat → Int32) (hne : ne ≤ 24) (hm : m0 ≤ 1000) (hnk : nk ≤ 8) (i i2 : Nat) (hi : i < ne) (hi2 : i2 < ne) (ln : Nat → Nat) (po cs : Nat → Nat → Int32) (hCD : CD ne mmn mpo mcs ln po cs) (h25 : V 25 0 = some ((A 25), aI G 24 mak)) (h28 : V 28 0 = some ((A 28), aI G 24 mmn)) (h29 : V 29 0 = some ((A 29), aI G 384 mpo)) (h30 : V 30 0 = some ((A 30), aI G 384 mcs)) (h32 : V 32 0 = some ((A 32), aI G 64 mkf)) {Rt : Option Value → Vw → Prop} {p : Program} {e : Env} {s : State} {m : MethodId} {args : Array Value} {below : List Frame} {meth : Method} {c : Code} (F : Bd G p l s m args meth c b_M_compare 9 "RuleClassesModel") (hr : meth.sig.returnType = some .int) (hq : ∀ (gv : Nat → Int32) (pu st nx : Int32) (an : Int64) (g : Nat → Int64), Rt (some (.int (pDiff (fun j => ((pEnd (ln i) (po i) (cs i) (fun q => mkf (8 * j + q)) (mak i) m0).1, (pEnd (ln i) (po i) (cs i) (fun q => mkf (8 * j + q)) (mak i) m0).2.2.2.1)) (fun j => ((pEnd (ln i2) (po i2) (cs i2) (fun q => mkf (8 * j + q)) (mak i2) m0).1, (pEnd (ln i2) (po i2) (cs i2) (fun q => mkf (8 * j + q)) (mak i2) m0).2.2.2.1)) nk))) (uM G (uV V 38 0 ((A 38), aI G 8 gv)) a1 A (nI m0) (nI ne) dy 0 qs (nI nk) hs hd pu st nx an g)) :
    ∀ (n j : Nat), j + n = nk → ∀ (gv : Nat → Int32) (pu st nx : Int32) (an : Int64) (g : Nat → Int64) (H : Heap) (locs : List Loc) (ls : Array Slot), HS G s (uM G (uV V 38 0 ((A 38), aI G 8 gv)) a1 A (nI m0) (nI ne) dy 0 qs (nI nk) hs hd pu st nx an g) H locs → lv_has ls 9 [(0, .ref a1), (1, .int (nI i)), (2, .int (nI i2)), (3, .int (pDiff (fun j => ((pEnd (ln i) (po i) (cs i) (fun q => mkf (8 * j + q)) (mak i) m0).1, (pEnd (ln i) (po i) (cs i) (fun q => mkf (8 * j + q)) (mak i) m0).2.2.2.1)) (fun j => ((pEnd (ln i2) (po i2) (cs i2) (fun q => mkf (8 * j + q)) (mak i2) m0).1, (pEnd (ln i2) (po i2) (cs i2) (fun q => mkf (8 * j + q)) (mak i2) m0).2.2.2.1)) j)), (4, .int (nI j))] →
      W p l e ({ frames := 3, cells := 0, slots := 0, locals := 78 } : Room) s m args below meth c H locs 0 0 (MQ below (QcC G Rt) args s ({ frames := 3, cells := 0, slots := 0, locals := 78 } : Room).cells ({ frames := 3, cells := 0, slots := 0, locals := 78 } : Room).slots (aB G)) (F0 m 39 ls []) := by
  obtain ⟨hx, hb, hml, hown, hts, hK, hlk, -⟩ := id F
  intro n
  induction n with
  | zero =>
    intro j hjn gv pu st nx an g H locs ls hS hl
    obtain rfl : nk = j := by omega
    refine lv_iload hx hb d_M_compare_39 (lv_at hl 4 rfl) ?_
    refine lv_aload_n hx hb d_M_compare_41 rfl (lv_at hl 0 rfl) ?_
    refine r_get (k := 20) (i := 0) F hS f_M_144.get (uV_self (uV (uV V 38 0 ((A 38), aI G 8 gv)) 37 0 ((A 37), aL G 8 g)) 20 0 (a1, oM A (nI m0) (nI ne) dy 0 qs (nI nk) hs hd pu st nx an)) rfl d_M_compare_42 ?_
    refine lv_icmp_ge (tgt := 135) hx hb d_M_compare_45 (by decide) (fun c_45 => ?_) (fun c_45 => absurd (nI_le (by omega) (by omega)) c_45)
    refine lv_iload_n hx hb d_M_compare_135 rfl (lv_at hl 3 rfl) ?_
    exact m_reti F hr hS (Nat.le_of_ble_eq_true rfl) (Nat.le_of_ble_eq_true rfl) (hq _ _ _ _ _ _) d_M_compare_136
  | succ n ih =>
    intro j hjn gv pu st nx an g H locs ls hS hl
    have hj : j < nk := by omega
    refine lv_iload hx hb d_M_compare_39 (lv_at hl 4 rfl) ?_
    refine lv_aload_n hx hb d_M_compare_41 rfl (lv_at hl 0 rfl) ?_
    refine r_get (k := 20) (i := 0) F hS f_M_144.get (uV_self (uV (uV V 38 0 ((A 38), aI G 8 gv)) 37 0 ((A 37), aL G 8 g)) 20 0 (a1, oM A (nI m0) (nI ne) dy 0 qs (nI nk) hs hd pu st nx an)) rfl d_M_compare_42 ?_
    refine lv_icmp_ge (tgt := 135) hx hb d_M_compare_45 (by decide) (fun c_45 => absurd c_45 (nI_ge (by omega) (by omega))) (fun c_45 => ?_)
    refine lv_iconst (v := 0) hx hb d_M_compare_48 (by decide) ?_
    refine lv_istore (lv' := [(5, .int 0), (0, .ref a1), (1, .int (nI i)), (2, .int (nI i2)), (3, .int (pDiff (fun j => ((pEnd (ln i) (po i) (cs i) (fun q => mkf (8 * j + q)) (mak i) m0).1, (pEnd (ln i) (po i) (cs i) (fun q => mkf (8 * j + q)) (mak i) m0).2.2.2.1)) (fun j => ((pEnd (ln i2) (po i2) (cs i2) (fun q => mkf (8 * j + q)) (mak i2) m0).1, (pEnd (ln i2) (po i2) (cs i2) (fun q => mkf (8 * j + q)) (mak i2) m0).2.2.2.1)) j)), (4, .int (nI j))]) hx hb d_M_compare_49 hl (by decide) rfl (fun ls hl => ?_)
    refine lv_iload hx hb d_M_compare_51 (lv_at hl 0 rfl) ?_
    refine lv_bipush (v := 8) hx hb d_M_compare_53 (by decide) ?_
    refine lv_icmp_ge (tgt := 84) hx hb d_M_compare_55 (by decide) (fun z => absurd z (by decide)) (fun _ => ?_)
    refine lv_aload_n hx hb d_M_compare_58 rfl (lv_at hl 1 rfl) ?_
    refine r_get (k := 20) (i := 0) F hS f_M_67.get (uV_self (uV (uV V 38 0 ((A 38), aI G 8 gv)) 37 0 ((A 37), aL G 8 g)) 20 0 (a1, oM A (nI m0) (nI ne) dy 0 qs (nI nk) hs hd pu st nx an)) rfl d_M_compare_59 ?_
    refine lv_iload hx hb d_M_compare_62 (lv_at hl 0 rfl) ?_
    refine lv_aload_n hx hb d_M_compare_64 rfl (lv_at hl 1 rfl) ?_
    refine r_get (k := 20) (i := 0) F hS f_M_48.get (uV_self (uV (uV V 38 0 ((A 38), aI G 8 gv)) 37 0 ((A 37), aL G 8 g)) 20 0 (a1, oM A (nI m0) (nI ne) dy 0 qs (nI nk) hs hd pu st nx an)) rfl d_M_compare_65 ?_
    refine lv_bipush (v := 8) hx hb d_M_compare_68 (by decide) ?_
    refine lv_iload hx hb d_M_compare_70 (lv_at hl 5 rfl) ?_
    refine lv_imul hx hb d_M_compare_72 ?_
    refine lv_iload hx hb d_M_compare_73 (lv_at hl 0 rfl) ?_
    refine lv_iadd hx hb d_M_compare_75 ?_
    rw [show (8 : Int32) * nI j + 0 = nI (8 * j + 0) from nI_ma 8 j 0]
    refine r_iald (k := 32) (i := 0) F hS h32 (vp_in_nI (by omega) (by decide)) d_M_compare_76 ?_
    rw [nI_clamp (by omega)]
    refine r_iast (k := 38) (i := 0) F hS (uV_self V 38 0 ((A 38), aI G 8 gv)) (vp_in_nI (n := 0) (by decide) (by decide)) d_M_compare_77 (fun H locs hS => ?_)
    rw [show (0 : Int32).toNatClampNeg = 0 from rfl] at hS
    have hS : HS G s (uV (uM G (uV V 38 0 ((A 38), aI G 8 gv)) a1 A (nI m0) (nI ne) dy 0 qs (nI nk) hs hd pu st nx an g) 38 0 ((A 38), aI G 8 (upd gv 0 (mkf (8 * j + 0))))) H _ := hS
    refine lv_iinc (v := 1) (lv' := [(5, .int 1), (0, .ref a1), (1, .int (nI i)), (2, .int (nI i2)), (3, .int (pDiff (fun j => ((pEnd (ln i) (po i) (cs i) (fun q => mkf (8 * j + q)) (mak i) m0).1, (pEnd (ln i) (po i) (cs i) (fun q => mkf (8 * j + q)) (mak i) m0).2.2.2.1)) (fun j => ((pEnd (ln i2) (po i2) (cs i2) (fun q => mkf (8 * j + q)) (mak i2) m0).1, (pEnd (ln i2) (po i2) (cs i2) (fun q => mkf (8 * j + q)) (mak i2) m0).2.2.2.1)) j)), (4, .int (nI j))]) hx hb d_M_compare_78 hl (k := 0) rfl (by decide) (by decide) rfl (fun ls hl => ?_)
    refine lv_goto (tgt := 51) hx hb d_M_compare_81 (by decide) ?_
    refine lv_iload hx hb d_M_compare_51 (lv_at hl 0 rfl) ?_
    refine lv_bipush (v := 8) hx hb d_M_compare_53 (by decide) ?_
    refine lv_icmp_ge (tgt := 84) hx hb d_M_compare_55 (by decide) (fun z => absurd z (by decide)) (fun _ => ?_)
    refine lv_aload_n hx hb d_M_compare_58 rfl (lv_at hl 1 rfl) ?_
    refine r_get (k := 20) (i := 0) F hS f_M_67.get (uV_self (uV (uV V 38 0 ((A 38), aI G 8 gv)) 37 0 ((A 37), aL G 8 g)) 20 0 (a1, oM A (nI m0) (nI ne) dy 0 qs (nI nk) hs hd pu st nx an)) rfl d_M_compare_59 ?_
    refine lv_iload hx hb d_M_compare_62 (lv_at hl 0 rfl) ?_
    refine lv_aload_n hx hb d_M_compare_64 rfl (lv_at hl 1 rfl) ?_
    refine r_get (k := 20) (i := 0) F hS f_M_48.get (uV_self (uV (uV V 38 0 ((A 38), aI G 8 gv)) 37 0 ((A 37), aL G 8 g)) 20 0 (a1, oM A (nI m0) (nI ne) dy 0 qs (nI nk) hs hd pu st nx an)) rfl d_M_compare_65 ?_
    refine lv_bipush (v := 8) hx hb d_M_compare_68 (by decide) ?_
    refine lv_iload hx hb d_M_compare_70 (lv_at hl 5 rfl) ?_
    refine lv_imul hx hb d_M_compare_72 ?_
    refine lv_iload hx hb d_M_compare_73 (lv_at hl 0 rfl) ?_
    refine lv_iadd hx hb d_M_compare_75 ?_
    rw [show (8 : Int32) * nI j + 1 = nI (8 * j + 1) from nI_ma 8 j 1]
    refine r_iald (k := 32) (i := 0) F hS h32 (vp_in_nI (by omega) (by decide)) d_M_compare_76 ?_
    rw [nI_clamp (by omega)]
    refine r_iast (k := 38) (i := 0) F hS (uV_self (uM G (uV V 38 0 ((A 38), aI G 8 gv)) a1 A (nI m0) (nI ne) dy 0 qs (nI nk) hs hd pu st nx an g) 38 0 ((A 38), aI G 8 (upd gv 0 (mkf (8 * j + 0))))) (vp_in_nI (n := 1) (by decide) (by decide)) d_M_compare_77 (fun H locs hS => ?_)
    rw [show (1 : Int32).toNatClampNeg = 1 from rfl] at hS
    rw [uV_uV] at hS
    have hS : HS G s (uV (uM G (uV V 38 0 ((A 38), aI G 8 gv)) a1 A (nI m0) (nI ne) dy 0 qs (nI nk) hs hd pu st nx an g) 38 0 ((A 38), aI G 8 (upd (upd gv 0 (mkf (8 * j + 0))) 1 (mkf (8 * j + 1))))) H _ := hS
    refine lv_iinc (v := 2) (lv' := [(5, .int 2), (0, .ref a1), (1, .int (nI i)), (2, .int (nI i2)), (3, .int (pDiff (fun j => ((pEnd (ln i) (po i) (cs i) (fun q => mkf (8 * j + q)) (mak i) m0).1, (pEnd (ln i) (po i) (cs i) (fun q => mkf (8 * j + q)) (mak i) m0).2.2.2.1)) (fun j => ((pEnd (ln i2) (po i2) (cs i2) (fun q => mkf (8 * j + q)) (mak i2) m0).1, (pEnd (ln i2) (po i2) (cs i2) (fun q => mkf (8 * j + q)) (mak i2) m0).2.2.2.1)) j)), (4, .int (nI j))]) hx hb d_M_compare_78 hl (k := 0) rfl (by decide) (by decide) rfl (fun ls hl => ?_)
    refine lv_goto (tgt := 51) hx hb d_M_compare_81 (by decide) ?_
    refine lv_iload hx hb d_M_compare_51 (lv_at hl 0 rfl) ?_
    refine lv_bipush (v := 8) hx hb d_M_compare_53 (by decide) ?_
    refine lv_icmp_ge (tgt := 84) hx hb d_M_compare_55 (by decide) (fun z => absurd z (by decide)) (fun _ => ?_)
    refine lv_aload_n hx hb d_M_compare_58 rfl (lv_at hl 1 rfl) ?_
    refine r_get (k := 20) (i := 0) F hS f_M_67.get (uV_self (uV (uV V 38 0 ((A 38), aI G 8 gv)) 37 0 ((A 37), aL G 8 g)) 20 0 (a1, oM A (nI m0) (nI ne) dy 0 qs (nI nk) hs hd pu st nx an)) rfl d_M_compare_59 ?_
    refine lv_iload hx hb d_M_compare_62 (lv_at hl 0 rfl) ?_
    refine lv_aload_n hx hb d_M_compare_64 rfl (lv_at hl 1 rfl) ?_
    refine r_get (k := 20) (i := 0) F hS f_M_48.get (uV_self (uV (uV V 38 0 ((A 38), aI G 8 gv)) 37 0 ((A 37), aL G 8 g)) 20 0 (a1, oM A (nI m0) (nI ne) dy 0 qs (nI nk) hs hd pu st nx an)) rfl d_M_compare_65 ?_
    refine lv_bipush (v := 8) hx hb d_M_compare_68 (by decide) ?_
    refine lv_iload hx hb d_M_compare_70 (lv_at hl 5 rfl) ?_
    refine lv_imul hx hb d_M_compare_72 ?_
    refine lv_iload hx hb d_M_compare_73 (lv_at hl 0 rfl) ?_
    refine lv_iadd hx hb d_M_compare_75 ?_
    rw [show (8 : Int32) * nI j + 2 = nI (8 * j + 2) from nI_ma 8 j 2]
    refine r_iald (k := 32) (i := 0) F hS h32 (vp_in_nI (by omega) (by decide)) d_M_compare_76 ?_
    rw [nI_clamp (by omega)]
    refine r_iast (k := 38) (i := 0) F hS (uV_self (uM G (uV V 38 0 ((A 38), aI G 8 gv)) a1 A (nI m0) (nI ne) dy 0 qs (nI nk) hs hd pu st nx an g) 38 0 ((A 38), aI G 8 (upd (upd gv 0 (mkf (8 * j + 0))) 1 (mkf (8 * j + 1))))) (vp_in_nI (n := 2) (by decide) (by decide)) d_M_compare_77 (fun H locs hS => ?_)
    rw [show (2 : Int32).toNatClampNeg = 2 from rfl] at hS
    rw [uV_uV] at hS
    have hS : HS G s (uV (uM G (uV V 38 0 ((A 38), aI G 8 gv)) a1 A (nI m0) (nI ne) dy 0 qs (nI nk) hs hd pu st nx an g) 38 0 ((A 38), aI G 8 (upd (upd (upd gv 0 (mkf (8 * j + 0))) 1 (mkf (8 * j + 1))) 2 (mkf (8 * j + 2))))) H _ := hS
    refine lv_iinc (v := 3) (lv' := [(5, .int 3), (0, .ref a1), (1, .int (nI i)), (2, .int (nI i2)), (3, .int (pDiff (fun j => ((pEnd (ln i) (po i) (cs i) (fun q => mkf (8 * j + q)) (mak i) m0).1, (pEnd (ln i) (po i) (cs i) (fun q => mkf (8 * j + q)) (mak i) m0).2.2.2.1)) (fun j => ((pEnd (ln i2) (po i2) (cs i2) (fun q => mkf (8 * j + q)) (mak i2) m0).1, (pEnd (ln i2) (po i2) (cs i2) (fun q => mkf (8 * j + q)) (mak i2) m0).2.2.2.1)) j)), (4, .int (nI j))]) hx hb d_M_compare_78 hl (k := 0) rfl (by decide) (by decide) rfl (fun ls hl => ?_)
    refine lv_goto (tgt := 51) hx hb d_M_compare_81 (by decide) ?_
    refine lv_iload hx hb d_M_compare_51 (lv_at hl 0 rfl) ?_
    refine lv_bipush (v := 8) hx hb d_M_compare_53 (by decide) ?_
    refine lv_icmp_ge (tgt := 84) hx hb d_M_compare_55 (by decide) (fun z => absurd z (by decide)) (fun _ => ?_)
    refine lv_aload_n hx hb d_M_compare_58 rfl (lv_at hl 1 rfl) ?_
    refine r_get (k := 20) (i := 0) F hS f_M_67.get (uV_self (uV (uV V 38 0 ((A 38), aI G 8 gv)) 37 0 ((A 37), aL G 8 g)) 20 0 (a1, oM A (nI m0) (nI ne) dy 0 qs (nI nk) hs hd pu st nx an)) rfl d_M_compare_59 ?_
    refine lv_iload hx hb d_M_compare_62 (lv_at hl 0 rfl) ?_
    refine lv_aload_n hx hb d_M_compare_64 rfl (lv_at hl 1 rfl) ?_
    refine r_get (k := 20) (i := 0) F hS f_M_48.get (uV_self (uV (uV V 38 0 ((A 38), aI G 8 gv)) 37 0 ((A 37), aL G 8 g)) 20 0 (a1, oM A (nI m0) (nI ne) dy 0 qs (nI nk) hs hd pu st nx an)) rfl d_M_compare_65 ?_
    refine lv_bipush (v := 8) hx hb d_M_compare_68 (by decide) ?_
    refine lv_iload hx hb d_M_compare_70 (lv_at hl 5 rfl) ?_
    refine lv_imul hx hb d_M_compare_72 ?_
    refine lv_iload hx hb d_M_compare_73 (lv_at hl 0 rfl) ?_
    refine lv_iadd hx hb d_M_compare_75 ?_
    rw [show (8 : Int32) * nI j + 3 = nI (8 * j + 3) from nI_ma 8 j 3]
    refine r_iald (k := 32) (i := 0) F hS h32 (vp_in_nI (by omega) (by decide)) d_M_compare_76 ?_
    rw [nI_clamp (by omega)]
    refine r_iast (k := 38) (i := 0) F hS (uV_self (uM G (uV V 38 0 ((A 38), aI G 8 gv)) a1 A (nI m0) (nI ne) dy 0 qs (nI nk) hs hd pu st nx an g) 38 0 ((A 38), aI G 8 (upd (upd (upd gv 0 (mkf (8 * j + 0))) 1 (mkf (8 * j + 1))) 2 (mkf (8 * j + 2))))) (vp_in_nI (n := 3) (by decide) (by decide)) d_M_compare_77 (fun H locs hS => ?_)
    rw [show (3 : Int32).toNatClampNeg = 3 from rfl] at hS
    rw [uV_uV] at hS
    have hS : HS G s (uV (uM G (uV V 38 0 ((A 38), aI G 8 gv)) a1 A (nI m0) (nI ne) dy 0 qs (nI nk) hs hd pu st nx an g) 38 0 ((A 38), aI G 8 (upd (upd (upd (upd gv 0 (mkf (8 * j + 0))) 1 (mkf (8 * j + 1))) 2 (mkf (8 * j + 2))) 3 (mkf (8 * j + 3))))) H _ := hS
    refine lv_iinc (v := 4) (lv' := [(5, .int 4), (0, .ref a1), (1, .int (nI i)), (2, .int (nI i2)), (3, .int (pDiff (fun j => ((pEnd (ln i) (po i) (cs i) (fun q => mkf (8 * j + q)) (mak i) m0).1, (pEnd (ln i) (po i) (cs i) (fun q => mkf (8 * j + q)) (mak i) m0).2.2.2.1)) (fun j => ((pEnd (ln i2) (po i2) (cs i2) (fun q => mkf (8 * j + q)) (mak i2) m0).1, (pEnd (ln i2) (po i2) (cs i2) (fun q => mkf (8 * j + q)) (mak i2) m0).2.2.2.1)) j)), (4, .int (nI j))]) hx hb d_M_compare_78 hl (k := 0) rfl (by decide) (by decide) rfl (fun ls hl => ?_)
    refine lv_goto (tgt := 51) hx hb d_M_compare_81 (by decide) ?_
    refine lv_iload hx hb d_M_compare_51 (lv_at hl 0 rfl) ?_
    refine lv_bipush (v := 8) hx hb d_M_compare_53 (by decide) ?_
    refine lv_icmp_ge (tgt := 84) hx hb d_M_compare_55 (by decide) (fun z => absurd z (by decide)) (fun _ => ?_)
    refine lv_aload_n hx hb d_M_compare_58 rfl (lv_at hl 1 rfl) ?_
    refine r_get (k := 20) (i := 0) F hS f_M_67.get (uV_self (uV (uV V 38 0 ((A 38), aI G 8 gv)) 37 0 ((A 37), aL G 8 g)) 20 0 (a1, oM A (nI m0) (nI ne) dy 0 qs (nI nk) hs hd pu st nx an)) rfl d_M_compare_59 ?_
    refine lv_iload hx hb d_M_compare_62 (lv_at hl 0 rfl) ?_
    refine lv_aload_n hx hb d_M_compare_64 rfl (lv_at hl 1 rfl) ?_
    refine r_get (k := 20) (i := 0) F hS f_M_48.get (uV_self (uV (uV V 38 0 ((A 38), aI G 8 gv)) 37 0 ((A 37), aL G 8 g)) 20 0 (a1, oM A (nI m0) (nI ne) dy 0 qs (nI nk) hs hd pu st nx an)) rfl d_M_compare_65 ?_
    refine lv_bipush (v := 8) hx hb d_M_compare_68 (by decide) ?_
    refine lv_iload hx hb d_M_compare_70 (lv_at hl 5 rfl) ?_
    refine lv_imul hx hb d_M_compare_72 ?_
    refine lv_iload hx hb d_M_compare_73 (lv_at hl 0 rfl) ?_
    refine lv_iadd hx hb d_M_compare_75 ?_
    rw [show (8 : Int32) * nI j + 4 = nI (8 * j + 4) from nI_ma 8 j 4]
    refine r_iald (k := 32) (i := 0) F hS h32 (vp_in_nI (by omega) (by decide)) d_M_compare_76 ?_
    rw [nI_clamp (by omega)]
    refine r_iast (k := 38) (i := 0) F hS (uV_self (uM G (uV V 38 0 ((A 38), aI G 8 gv)) a1 A (nI m0) (nI ne) dy 0 qs (nI nk) hs hd pu st nx an g) 38 0 ((A 38), aI G 8 (upd (upd (upd (upd gv 0 (mkf (8 * j + 0))) 1 (mkf (8 * j + 1))) 2 (mkf (8 * j + 2))) 3 (mkf (8 * j + 3))))) (vp_in_nI (n := 4) (by decide) (by decide)) d_M_compare_77 (fun H locs hS => ?_)
    rw [show (4 : Int32).toNatClampNeg = 4 from rfl] at hS
    rw [uV_uV] at hS
    have hS : HS G s (uV (uM G (uV V 38 0 ((A 38), aI G 8 gv)) a1 A (nI m0) (nI ne) dy 0 qs (nI nk) hs hd pu st nx an g) 38 0 ((A 38), aI G 8 (upd (upd (upd (upd (upd gv 0 (mkf (8 * j + 0))) 1 (mkf (8 * j + 1))) 2 (mkf (8 * j + 2))) 3 (mkf (8 * j + 3))) 4 (mkf (8 * j + 4))))) H _ := hS
    refine lv_iinc (v := 5) (lv' := [(5, .int 5), (0, .ref a1), (1, .int (nI i)), (2, .int (nI i2)), (3, .int (pDiff (fun j => ((pEnd (ln i) (po i) (cs i) (fun q => mkf (8 * j + q)) (mak i) m0).1, (pEnd (ln i) (po i) (cs i) (fun q => mkf (8 * j + q)) (mak i) m0).2.2.2.1)) (fun j => ((pEnd (ln i2) (po i2) (cs i2) (fun q => mkf (8 * j + q)) (mak i2) m0).1, (pEnd (ln i2) (po i2) (cs i2) (fun q => mkf (8 * j + q)) (mak i2) m0).2.2.2.1)) j)), (4, .int (nI j))]) hx hb d_M_compare_78 hl (k := 0) rfl (by decide) (by decide) rfl (fun ls hl => ?_)
    refine lv_goto (tgt := 51) hx hb d_M_compare_81 (by decide) ?_
    refine lv_iload hx hb d_M_compare_51 (lv_at hl 0 rfl) ?_
    refine lv_bipush (v := 8) hx hb d_M_compare_53 (by decide) ?_
    refine lv_icmp_ge (tgt := 84) hx hb d_M_compare_55 (by decide) (fun z => absurd z (by decide)) (fun _ => ?_)
    refine lv_aload_n hx hb d_M_compare_58 rfl (lv_at hl 1 rfl) ?_
    refine r_get (k := 20) (i := 0) F hS f_M_67.get (uV_self (uV (uV V 38 0 ((A 38), aI G 8 gv)) 37 0 ((A 37), aL G 8 g)) 20 0 (a1, oM A (nI m0) (nI ne) dy 0 qs (nI nk) hs hd pu st nx an)) rfl d_M_compare_59 ?_
    refine lv_iload hx hb d_M_compare_62 (lv_at hl 0 rfl) ?_
    refine lv_aload_n hx hb d_M_compare_64 rfl (lv_at hl 1 rfl) ?_
    refine r_get (k := 20) (i := 0) F hS f_M_48.get (uV_self (uV (uV V 38 0 ((A 38), aI G 8 gv)) 37 0 ((A 37), aL G 8 g)) 20 0 (a1, oM A (nI m0) (nI ne) dy 0 qs (nI nk) hs hd pu st nx an)) rfl d_M_compare_65 ?_
    refine lv_bipush (v := 8) hx hb d_M_compare_68 (by decide) ?_
    refine lv_iload hx hb d_M_compare_70 (lv_at hl 5 rfl) ?_
    refine lv_imul hx hb d_M_compare_72 ?_
    refine lv_iload hx hb d_M_compare_73 (lv_at hl 0 rfl) ?_
    refine lv_iadd hx hb d_M_compare_75 ?_
    rw [show (8 : Int32) * nI j + 5 = nI (8 * j + 5) from nI_ma 8 j 5]
    refine r_iald (k := 32) (i := 0) F hS h32 (vp_in_nI (by omega) (by decide)) d_M_compare_76 ?_
    rw [nI_clamp (by omega)]
    refine r_iast (k := 38) (i := 0) F hS (uV_self (uM G (uV V 38 0 ((A 38), aI G 8 gv)) a1 A (nI m0) (nI ne) dy 0 qs (nI nk) hs hd pu st nx an g) 38 0 ((A 38), aI G 8 (upd (upd (upd (upd (upd gv 0 (mkf (8 * j + 0))) 1 (mkf (8 * j + 1))) 2 (mkf (8 * j + 2))) 3 (mkf (8 * j + 3))) 4 (mkf (8 * j + 4))))) (vp_in_nI (n := 5) (by decide) (by decide)) d_M_compare_77 (fun H locs hS => ?_)
    rw [show (5 : Int32).toNatClampNeg = 5 from rfl] at hS
    rw [uV_uV] at hS
    have hS : HS G s (uV (uM G (uV V 38 0 ((A 38), aI G 8 gv)) a1 A (nI m0) (nI ne) dy 0 qs (nI nk) hs hd pu st nx an g) 38 0 ((A 38), aI G 8 (upd (upd (upd (upd (upd (upd gv 0 (mkf (8 * j + 0))) 1 (mkf (8 * j + 1))) 2 (mkf (8 * j + 2))) 3 (mkf (8 * j + 3))) 4 (mkf (8 * j + 4))) 5 (mkf (8 * j + 5))))) H _ := hS
    refine lv_iinc (v := 6) (lv' := [(5, .int 6), (0, .ref a1), (1, .int (nI i)), (2, .int (nI i2)), (3, .int (pDiff (fun j => ((pEnd (ln i) (po i) (cs i) (fun q => mkf (8 * j + q)) (mak i) m0).1, (pEnd (ln i) (po i) (cs i) (fun q => mkf (8 * j + q)) (mak i) m0).2.2.2.1)) (fun j => ((pEnd (ln i2) (po i2) (cs i2) (fun q => mkf (8 * j + q)) (mak i2) m0).1, (pEnd (ln i2) (po i2) (cs i2) (fun q => mkf (8 * j + q)) (mak i2) m0).2.2.2.1)) j)), (4, .int (nI j))]) hx hb d_M_compare_78 hl (k := 0) rfl (by decide) (by decide) rfl (fun ls hl => ?_)
    refine lv_goto (tgt := 51) hx hb d_M_compare_81 (by decide) ?_
    refine lv_iload hx hb d_M_compare_51 (lv_at hl 0 rfl) ?_
    refine lv_bipush (v := 8) hx hb d_M_compare_53 (by decide) ?_
    refine lv_icmp_ge (tgt := 84) hx hb d_M_compare_55 (by decide) (fun z => absurd z (by decide)) (fun _ => ?_)
    refine lv_aload_n hx hb d_M_compare_58 rfl (lv_at hl 1 rfl) ?_
    refine r_get (k := 20) (i := 0) F hS f_M_67.get (uV_self (uV (uV V 38 0 ((A 38), aI G 8 gv)) 37 0 ((A 37), aL G 8 g)) 20 0 (a1, oM A (nI m0) (nI ne) dy 0 qs (nI nk) hs hd pu st nx an)) rfl d_M_compare_59 ?_
    refine lv_iload hx hb d_M_compare_62 (lv_at hl 0 rfl) ?_
    refine lv_aload_n hx hb d_M_compare_64 rfl (lv_at hl 1 rfl) ?_
    refine r_get (k := 20) (i := 0) F hS f_M_48.get (uV_self (uV (uV V 38 0 ((A 38), aI G 8 gv)) 37 0 ((A 37), aL G 8 g)) 20 0 (a1, oM A (nI m0) (nI ne) dy 0 qs (nI nk) hs hd pu st nx an)) rfl d_M_compare_65 ?_
    refine lv_bipush (v := 8) hx hb d_M_compare_68 (by decide) ?_
    refine lv_iload hx hb d_M_compare_70 (lv_at hl 5 rfl) ?_
    refine lv_imul hx hb d_M_compare_72 ?_
    refine lv_iload hx hb d_M_compare_73 (lv_at hl 0 rfl) ?_
    refine lv_iadd hx hb d_M_compare_75 ?_
    rw [show (8 : Int32) * nI j + 6 = nI (8 * j + 6) from nI_ma 8 j 6]
    refine r_iald (k := 32) (i := 0) F hS h32 (vp_in_nI (by omega) (by decide)) d_M_compare_76 ?_
    rw [nI_clamp (by omega)]
    refine r_iast (k := 38) (i := 0) F hS (uV_self (uM G (uV V 38 0 ((A 38), aI G 8 gv)) a1 A (nI m0) (nI ne) dy 0 qs (nI nk) hs hd pu st nx an g) 38 0 ((A 38), aI G 8 (upd (upd (upd (upd (upd (upd gv 0 (mkf (8 * j + 0))) 1 (mkf (8 * j + 1))) 2 (mkf (8 * j + 2))) 3 (mkf (8 * j + 3))) 4 (mkf (8 * j + 4))) 5 (mkf (8 * j + 5))))) (vp_in_nI (n := 6) (by decide) (by decide)) d_M_compare_77 (fun H locs hS => ?_)
    rw [show (6 : Int32).toNatClampNeg = 6 from rfl] at hS
    rw [uV_uV] at hS
    have hS : HS G s (uV (uM G (uV V 38 0 ((A 38), aI G 8 gv)) a1 A (nI m0) (nI ne) dy 0 qs (nI nk) hs hd pu st nx an g) 38 0 ((A 38), aI G 8 (upd (upd (upd (upd (upd (upd (upd gv 0 (mkf (8 * j + 0))) 1 (mkf (8 * j + 1))) 2 (mkf (8 * j + 2))) 3 (mkf (8 * j + 3))) 4 (mkf (8 * j + 4))) 5 (mkf (8 * j + 5))) 6 (mkf (8 * j + 6))))) H _ := hS
    refine lv_iinc (v := 7) (lv' := [(5, .int 7), (0, .ref a1), (1, .int (nI i)), (2, .int (nI i2)), (3, .int (pDiff (fun j => ((pEnd (ln i) (po i) (cs i) (fun q => mkf (8 * j + q)) (mak i) m0).1, (pEnd (ln i) (po i) (cs i) (fun q => mkf (8 * j + q)) (mak i) m0).2.2.2.1)) (fun j => ((pEnd (ln i2) (po i2) (cs i2) (fun q => mkf (8 * j + q)) (mak i2) m0).1, (pEnd (ln i2) (po i2) (cs i2) (fun q => mkf (8 * j + q)) (mak i2) m0).2.2.2.1)) j)), (4, .int (nI j))]) hx hb d_M_compare_78 hl (k := 0) rfl (by decide) (by decide) rfl (fun ls hl => ?_)
    refine lv_goto (tgt := 51) hx hb d_M_compare_81 (by decide) ?_
    refine lv_iload hx hb d_M_compare_51 (lv_at hl 0 rfl) ?_
    refine lv_bipush (v := 8) hx hb d_M_compare_53 (by decide) ?_
    refine lv_icmp_ge (tgt := 84) hx hb d_M_compare_55 (by decide) (fun z => absurd z (by decide)) (fun _ => ?_)
    refine lv_aload_n hx hb d_M_compare_58 rfl (lv_at hl 1 rfl) ?_
    refine r_get (k := 20) (i := 0) F hS f_M_67.get (uV_self (uV (uV V 38 0 ((A 38), aI G 8 gv)) 37 0 ((A 37), aL G 8 g)) 20 0 (a1, oM A (nI m0) (nI ne) dy 0 qs (nI nk) hs hd pu st nx an)) rfl d_M_compare_59 ?_
    refine lv_iload hx hb d_M_compare_62 (lv_at hl 0 rfl) ?_
    refine lv_aload_n hx hb d_M_compare_64 rfl (lv_at hl 1 rfl) ?_
    refine r_get (k := 20) (i := 0) F hS f_M_48.get (uV_self (uV (uV V 38 0 ((A 38), aI G 8 gv)) 37 0 ((A 37), aL G 8 g)) 20 0 (a1, oM A (nI m0) (nI ne) dy 0 qs (nI nk) hs hd pu st nx an)) rfl d_M_compare_65 ?_
    refine lv_bipush (v := 8) hx hb d_M_compare_68 (by decide) ?_
    refine lv_iload hx hb d_M_compare_70 (lv_at hl 5 rfl) ?_
    refine lv_imul hx hb d_M_compare_72 ?_
    refine lv_iload hx hb d_M_compare_73 (lv_at hl 0 rfl) ?_
    refine lv_iadd hx hb d_M_compare_75 ?_
    rw [show (8 : Int32) * nI j + 7 = nI (8 * j + 7) from nI_ma 8 j 7]
    refine r_iald (k := 32) (i := 0) F hS h32 (vp_in_nI (by omega) (by decide)) d_M_compare_76 ?_
    rw [nI_clamp (by omega)]
    refine r_iast (k := 38) (i := 0) F hS (uV_self (uM G (uV V 38 0 ((A 38), aI G 8 gv)) a1 A (nI m0) (nI ne) dy 0 qs (nI nk) hs hd pu st nx an g) 38 0 ((A 38), aI G 8 (upd (upd (upd (upd (upd (upd (upd gv 0 (mkf (8 * j + 0))) 1 (mkf (8 * j + 1))) 2 (mkf (8 * j + 2))) 3 (mkf (8 * j + 3))) 4 (mkf (8 * j + 4))) 5 (mkf (8 * j + 5))) 6 (mkf (8 * j + 6))))) (vp_in_nI (n := 7) (by decide) (by decide)) d_M_compare_77 (fun H locs hS => ?_)
    rw [show (7 : Int32).toNatClampNeg = 7 from rfl] at hS
    rw [uV_uV] at hS
    have hS : HS G s (uV (uM G (uV V 38 0 ((A 38), aI G 8 gv)) a1 A (nI m0) (nI ne) dy 0 qs (nI nk) hs hd pu st nx an g) 38 0 ((A 38), aI G 8 (upd (upd (upd (upd (upd (upd (upd (upd gv 0 (mkf (8 * j + 0))) 1 (mkf (8 * j + 1))) 2 (mkf (8 * j + 2))) 3 (mkf (8 * j + 3))) 4 (mkf (8 * j + 4))) 5 (mkf (8 * j + 5))) 6 (mkf (8 * j + 6))) 7 (mkf (8 * j + 7))))) H _ := hS
    refine lv_iinc (v := 8) (lv' := [(5, .int 8), (0, .ref a1), (1, .int (nI i)), (2, .int (nI i2)), (3, .int (pDiff (fun j => ((pEnd (ln i) (po i) (cs i) (fun q => mkf (8 * j + q)) (mak i) m0).1, (pEnd (ln i) (po i) (cs i) (fun q => mkf (8 * j + q)) (mak i) m0).2.2.2.1)) (fun j => ((pEnd (ln i2) (po i2) (cs i2) (fun q => mkf (8 * j + q)) (mak i2) m0).1, (pEnd (ln i2) (po i2) (cs i2) (fun q => mkf (8 * j + q)) (mak i2) m0).2.2.2.1)) j)), (4, .int (nI j))]) hx hb d_M_compare_78 hl (k := 0) rfl (by decide) (by decide) rfl (fun ls hl => ?_)
    refine lv_goto (tgt := 51) hx hb d_M_compare_81 (by decide) ?_
    refine lv_iload hx hb d_M_compare_51 (lv_at hl 0 rfl) ?_
    refine lv_bipush (v := 8) hx hb d_M_compare_53 (by decide) ?_
    refine lv_icmp_ge (tgt := 84) hx hb d_M_compare_55 (by decide) (fun _ => ?_) (fun z => absurd z (by decide))
    rw [uM_38] at hS
    obtain ⟨gv8, hgv8⟩ : ∃ gv8 : Nat → Int32, gv8 = upd (upd (upd (upd (upd (upd (upd (upd gv 0 (mkf (8 * j + 0))) 1 (mkf (8 * j + 1))) 2 (mkf (8 * j + 2))) 3 (mkf (8 * j + 3))) 4 (mkf (8 * j + 4))) 5 (mkf (8 * j + 5))) 6 (mkf (8 * j + 6))) 7 (mkf (8 * j + 7)) := ⟨_, rfl⟩
    rw [← hgv8] at hS
    have hg8 : ∀ q, q < 8 → gv8 q = mkf (8 * j + q) := fun q hq => by
      rw [hgv8]
      rcases (show q = 0 ∨ q = 1 ∨ q = 2 ∨ q = 3 ∨ q = 4 ∨ q = 5 ∨ q = 6 ∨ q = 7 by omega) with rfl | rfl | rfl | rfl | rfl | rfl | rfl | rfl <;> rfl
    refine lv_aload_n hx hb d_M_compare_84 rfl (lv_at hl 1 rfl) ?_
    refine lv_iload_n hx hb d_M_compare_85 rfl (lv_at hl 2 rfl) ?_
    refine r_callV (k := 20) (i := 0) (q := ("RuleClassesModel", T_M, 30)) (fs := [.int (nI m0), .int (nI ne), .int dy, .int 0, .int qs, .int (nI nk), .int hs, .int hd, .ref (A 21), .ref (A 22), .ref (A 23), .ref (A 24), .ref (A 25), .ref (A 26), .ref (A 27), .ref (A 28), .ref (A 29), .ref (A 30), .ref (A 31), .ref (A 32), .ref (A 33), .ref (A 34), .ref (A 35), .ref (A 36), .ref (A 37), .int pu, .int st, .int nx, .long an, .ref (A 38)]) (As := [.int (nI i)]) (rest := []) F hS c_M_128 (k_M_run G l htr (uM G (uV V 38 0 ((A 38), aI G 8 gv8)) a1 A (nI m0) (nI ne) dy 0 qs (nI nk) hs hd pu st nx an g) a1 A m0 ne nk dy 0 qs hs hd mak mmn mpo mcs gv8 (fun q => mkf (8 * j + q)) i (ln i) (po i) (cs i) (by omega) hm (hCD _ hi).1 (hCD _ hi).2.1 (hCD _ hi).2.2.2 (hCD _ hi).2.2.1 hg8 pu st nx an g (uV_self (uV (uV V 38 0 ((A 38), aI G 8 gv8)) 37 0 ((A 37), aL G 8 g)) 20 0 (a1, oM A (nI m0) (nI ne) dy 0 qs (nI nk) hs hd pu st nx an)) h25 h28 h29 h30 (uV_self (uV V 38 0 ((A 38), aI G 8 gv8)) 37 0 ((A 37), aL G 8 g)) (uV_self V 38 0 ((A 38), aI G 8 gv8))) rfl (uV_self (uV (uV V 38 0 ((A 38), aI G 8 gv8)) 37 0 ((A 37), aL G 8 g)) 20 0 (a1, oM A (nI m0) (nI ne) dy 0 qs (nI nk) hs hd pu st nx an)) rfl hl.1 rfl (Nat.le_of_ble_eq_true rfl) d_M_compare_86 ⟨Nat.le_of_ble_eq_true rfl, Nat.le_of_ble_eq_true rfl⟩ ⟨Nat.le_of_ble_eq_true rfl, Nat.le_of_ble_eq_true rfl⟩ (fun rv V1 H locs hR hS => ?_)
    obtain ⟨pu_86, nx_86, g_86, rfl, rfl⟩ := hR
    rw [uM_uM] at hS
    refine W.eq (g2 := F0 m 89 ls [.int (mE (pEnd (ln i) (po i) (cs i) (fun q => mkf (8 * j + q)) (mak i) m0).1)]) rfl ?_
    refine lv_istore (lv' := [(5, .int (mE (pEnd (ln i) (po i) (cs i) (fun q => mkf (8 * j + q)) (mak i) m0).1)), (0, .ref a1), (1, .int (nI i)), (2, .int (nI i2)), (3, .int (pDiff (fun j => ((pEnd (ln i) (po i) (cs i) (fun q => mkf (8 * j + q)) (mak i) m0).1, (pEnd (ln i) (po i) (cs i) (fun q => mkf (8 * j + q)) (mak i) m0).2.2.2.1)) (fun j => ((pEnd (ln i2) (po i2) (cs i2) (fun q => mkf (8 * j + q)) (mak i2) m0).1, (pEnd (ln i2) (po i2) (cs i2) (fun q => mkf (8 * j + q)) (mak i2) m0).2.2.2.1)) j)), (4, .int (nI j))]) hx hb d_M_compare_89 hl (by decide) rfl (fun ls hl => ?_)
    refine lv_aload_n hx hb d_M_compare_91 rfl (lv_at hl 1 rfl) ?_
    refine r_get (k := 20) (i := 0) F hS f_M_110.get (uV_self (uV (uV V 38 0 ((A 38), aI G 8 gv8)) 37 0 ((A 37), aL G 8 g_86)) 20 0 (a1, oM A (nI m0) (nI ne) dy 0 qs (nI nk) hs hd pu_86 ((pEnd (ln i) (po i) (cs i) (fun q => mkf (8 * j + q)) (mak i) m0).2.2.2.2.1) nx_86 (if (pEnd (ln i) (po i) (cs i) (fun q => mkf (8 * j + q)) (mak i) m0).1 = 6 then (pEnd (ln i) (po i) (cs i) (fun q => mkf (8 * j + q)) (mak i) m0).2.2.2.1.toInt64 else an))) rfl d_M_compare_92 ?_
    refine lv_lstore (lv' := [(6, .long (if (pEnd (ln i) (po i) (cs i) (fun q => mkf (8 * j + q)) (mak i) m0).1 = 6 then (pEnd (ln i) (po i) (cs i) (fun q => mkf (8 * j + q)) (mak i) m0).2.2.2.1.toInt64 else an)), (5, .int (mE (pEnd (ln i) (po i) (cs i) (fun q => mkf (8 * j + q)) (mak i) m0).1)), (0, .ref a1), (1, .int (nI i)), (2, .int (nI i2)), (3, .int (pDiff (fun j => ((pEnd (ln i) (po i) (cs i) (fun q => mkf (8 * j + q)) (mak i) m0).1, (pEnd (ln i) (po i) (cs i) (fun q => mkf (8 * j + q)) (mak i) m0).2.2.2.1)) (fun j => ((pEnd (ln i2) (po i2) (cs i2) (fun q => mkf (8 * j + q)) (mak i2) m0).1, (pEnd (ln i2) (po i2) (cs i2) (fun q => mkf (8 * j + q)) (mak i2) m0).2.2.2.1)) j)), (4, .int (nI j))]) hx hb d_M_compare_95 hl (by decide) rfl (fun ls hl => ?_)
    refine lv_aload_n hx hb d_M_compare_97 rfl (lv_at hl 2 rfl) ?_
    refine lv_iload_n hx hb d_M_compare_98 rfl (lv_at hl 4 rfl) ?_
    refine r_callV (k := 20) (i := 0) (q := ("RuleClassesModel", T_M, 30)) (fs := [.int (nI m0), .int (nI ne), .int dy, .int 0, .int qs, .int (nI nk), .int hs, .int hd, .ref (A 21), .ref (A 22), .ref (A 23), .ref (A 24), .ref (A 25), .ref (A 26), .ref (A 27), .ref (A 28), .ref (A 29), .ref (A 30), .ref (A 31), .ref (A 32), .ref (A 33), .ref (A 34), .ref (A 35), .ref (A 36), .ref (A 37), .int pu_86, .int ((pEnd (ln i) (po i) (cs i) (fun q => mkf (8 * j + q)) (mak i) m0).2.2.2.2.1), .int nx_86, .long (if (pEnd (ln i) (po i) (cs i) (fun q => mkf (8 * j + q)) (mak i) m0).1 = 6 then (pEnd (ln i) (po i) (cs i) (fun q => mkf (8 * j + q)) (mak i) m0).2.2.2.1.toInt64 else an), .ref (A 38)]) (As := [.int (nI i2)]) (rest := []) F hS c_M_128 (k_M_run G l htr (uM G (uV V 38 0 ((A 38), aI G 8 gv8)) a1 A (nI m0) (nI ne) dy 0 qs (nI nk) hs hd pu_86 ((pEnd (ln i) (po i) (cs i) (fun q => mkf (8 * j + q)) (mak i) m0).2.2.2.2.1) nx_86 (if (pEnd (ln i) (po i) (cs i) (fun q => mkf (8 * j + q)) (mak i) m0).1 = 6 then (pEnd (ln i) (po i) (cs i) (fun q => mkf (8 * j + q)) (mak i) m0).2.2.2.1.toInt64 else an) g_86) a1 A m0 ne nk dy 0 qs hs hd mak mmn mpo mcs gv8 (fun q => mkf (8 * j + q)) i2 (ln i2) (po i2) (cs i2) (by omega) hm (hCD _ hi2).1 (hCD _ hi2).2.1 (hCD _ hi2).2.2.2 (hCD _ hi2).2.2.1 hg8 pu_86 ((pEnd (ln i) (po i) (cs i) (fun q => mkf (8 * j + q)) (mak i) m0).2.2.2.2.1) nx_86 (if (pEnd (ln i) (po i) (cs i) (fun q => mkf (8 * j + q)) (mak i) m0).1 = 6 then (pEnd (ln i) (po i) (cs i) (fun q => mkf (8 * j + q)) (mak i) m0).2.2.2.1.toInt64 else an) g_86 (uV_self (uV (uV V 38 0 ((A 38), aI G 8 gv8)) 37 0 ((A 37), aL G 8 g_86)) 20 0 (a1, oM A (nI m0) (nI ne) dy 0 qs (nI nk) hs hd pu_86 ((pEnd (ln i) (po i) (cs i) (fun q => mkf (8 * j + q)) (mak i) m0).2.2.2.2.1) nx_86 (if (pEnd (ln i) (po i) (cs i) (fun q => mkf (8 * j + q)) (mak i) m0).1 = 6 then (pEnd (ln i) (po i) (cs i) (fun q => mkf (8 * j + q)) (mak i) m0).2.2.2.1.toInt64 else an))) h25 h28 h29 h30 (uV_self (uV V 38 0 ((A 38), aI G 8 gv8)) 37 0 ((A 37), aL G 8 g_86)) (uV_self V 38 0 ((A 38), aI G 8 gv8))) rfl (uV_self (uV (uV V 38 0 ((A 38), aI G 8 gv8)) 37 0 ((A 37), aL G 8 g_86)) 20 0 (a1, oM A (nI m0) (nI ne) dy 0 qs (nI nk) hs hd pu_86 ((pEnd (ln i) (po i) (cs i) (fun q => mkf (8 * j + q)) (mak i) m0).2.2.2.2.1) nx_86 (if (pEnd (ln i) (po i) (cs i) (fun q => mkf (8 * j + q)) (mak i) m0).1 = 6 then (pEnd (ln i) (po i) (cs i) (fun q => mkf (8 * j + q)) (mak i) m0).2.2.2.1.toInt64 else an))) rfl hl.1 rfl (Nat.le_of_ble_eq_true rfl) d_M_compare_99 ⟨Nat.le_of_ble_eq_true rfl, Nat.le_of_ble_eq_true rfl⟩ ⟨Nat.le_of_ble_eq_true rfl, Nat.le_of_ble_eq_true rfl⟩ (fun rv V1 H locs hR hS => ?_)
    obtain ⟨pu_99, nx_99, g_99, rfl, rfl⟩ := hR
    rw [uM_uM] at hS
    refine W.eq (g2 := F0 m 102 ls [.int (mE (pEnd (ln i2) (po i2) (cs i2) (fun q => mkf (8 * j + q)) (mak i2) m0).1)]) rfl ?_
    refine lv_istore (lv' := [(8, .int (mE (pEnd (ln i2) (po i2) (cs i2) (fun q => mkf (8 * j + q)) (mak i2) m0).1)), (6, .long (if (pEnd (ln i) (po i) (cs i) (fun q => mkf (8 * j + q)) (mak i) m0).1 = 6 then (pEnd (ln i) (po i) (cs i) (fun q => mkf (8 * j + q)) (mak i) m0).2.2.2.1.toInt64 else an)), (5, .int (mE (pEnd (ln i) (po i) (cs i) (fun q => mkf (8 * j + q)) (mak i) m0).1)), (0, .ref a1), (1, .int (nI i)), (2, .int (nI i2)), (3, .int (pDiff (fun j => ((pEnd (ln i) (po i) (cs i) (fun q => mkf (8 * j + q)) (mak i) m0).1, (pEnd (ln i) (po i) (cs i) (fun q => mkf (8 * j + q)) (mak i) m0).2.2.2.1)) (fun j => ((pEnd (ln i2) (po i2) (cs i2) (fun q => mkf (8 * j + q)) (mak i2) m0).1, (pEnd (ln i2) (po i2) (cs i2) (fun q => mkf (8 * j + q)) (mak i2) m0).2.2.2.1)) j)), (4, .int (nI j))]) hx hb d_M_compare_102 hl (by decide) rfl (fun ls hl => ?_)
    refine lv_iload hx hb d_M_compare_104 (lv_at hl 2 rfl) ?_
    refine lv_iload hx hb d_M_compare_106 (lv_at hl 0 rfl) ?_
    refine lv_icmp_ne (tgt := 126) hx hb d_M_compare_108 (by decide) (fun c_108 => ?_) (fun c_108 => ?_)
    · refine lv_iinc (v := ((pDiff (fun j => ((pEnd (ln i) (po i) (cs i) (fun q => mkf (8 * j + q)) (mak i) m0).1, (pEnd (ln i) (po i) (cs i) (fun q => mkf (8 * j + q)) (mak i) m0).2.2.2.1)) (fun j => ((pEnd (ln i2) (po i2) (cs i2) (fun q => mkf (8 * j + q)) (mak i2) m0).1, (pEnd (ln i2) (po i2) (cs i2) (fun q => mkf (8 * j + q)) (mak i2) m0).2.2.2.1)) j) + 1)) (lv' := [(3, .int ((pDiff (fun j => ((pEnd (ln i) (po i) (cs i) (fun q => mkf (8 * j + q)) (mak i) m0).1, (pEnd (ln i) (po i) (cs i) (fun q => mkf (8 * j + q)) (mak i) m0).2.2.2.1)) (fun j => ((pEnd (ln i2) (po i2) (cs i2) (fun q => mkf (8 * j + q)) (mak i2) m0).1, (pEnd (ln i2) (po i2) (cs i2) (fun q => mkf (8 * j + q)) (mak i2) m0).2.2.2.1)) j) + 1)), (8, .int (mE (pEnd (ln i2) (po i2) (cs i2) (fun q => mkf (8 * j + q)) (mak i2) m0).1)), (6, .long (if (pEnd (ln i) (po i) (cs i) (fun q => mkf (8 * j + q)) (mak i) m0).1 = 6 then (pEnd (ln i) (po i) (cs i) (fun q => mkf (8 * j + q)) (mak i) m0).2.2.2.1.toInt64 else an)), (5, .int (mE (pEnd (ln i) (po i) (cs i) (fun q => mkf (8 * j + q)) (mak i) m0).1)), (0, .ref a1), (1, .int (nI i)), (2, .int (nI i2)), (4, .int (nI j))]) hx hb d_M_compare_126 hl (k := 6) rfl (by rfl) (by decide) rfl (fun ls hl => ?_)
      refine lv_iinc (v := (nI (j + 1))) (lv' := [(4, .int (nI (j + 1))), (3, .int ((pDiff (fun j => ((pEnd (ln i) (po i) (cs i) (fun q => mkf (8 * j + q)) (mak i) m0).1, (pEnd (ln i) (po i) (cs i) (fun q => mkf (8 * j + q)) (mak i) m0).2.2.2.1)) (fun j => ((pEnd (ln i2) (po i2) (cs i2) (fun q => mkf (8 * j + q)) (mak i2) m0).1, (pEnd (ln i2) (po i2) (cs i2) (fun q => mkf (8 * j + q)) (mak i2) m0).2.2.2.1)) j) + 1)), (8, .int (mE (pEnd (ln i2) (po i2) (cs i2) (fun q => mkf (8 * j + q)) (mak i2) m0).1)), (6, .long (if (pEnd (ln i) (po i) (cs i) (fun q => mkf (8 * j + q)) (mak i) m0).1 = 6 then (pEnd (ln i) (po i) (cs i) (fun q => mkf (8 * j + q)) (mak i) m0).2.2.2.1.toInt64 else an)), (5, .int (mE (pEnd (ln i) (po i) (cs i) (fun q => mkf (8 * j + q)) (mak i) m0).1)), (0, .ref a1), (1, .int (nI i)), (2, .int (nI i2))]) hx hb d_M_compare_129 hl (k := 7) rfl (nI_1 j) (by decide) rfl (fun ls hl => ?_)
      refine lv_goto (tgt := 39) hx hb d_M_compare_132 (by decide) ?_
      have hp := (show pDiff (fun j => ((pEnd (ln i) (po i) (cs i) (fun q => mkf (8 * j + q)) (mak i) m0).1, (pEnd (ln i) (po i) (cs i) (fun q => mkf (8 * j + q)) (mak i) m0).2.2.2.1)) (fun j => ((pEnd (ln i2) (po i2) (cs i2) (fun q => mkf (8 * j + q)) (mak i2) m0).1, (pEnd (ln i2) (po i2) (cs i2) (fun q => mkf (8 * j + q)) (mak i2) m0).2.2.2.1)) (j + 1) = pDiff (fun j => ((pEnd (ln i) (po i) (cs i) (fun q => mkf (8 * j + q)) (mak i) m0).1, (pEnd (ln i) (po i) (cs i) (fun q => mkf (8 * j + q)) (mak i) m0).2.2.2.1)) (fun j => ((pEnd (ln i2) (po i2) (cs i2) (fun q => mkf (8 * j + q)) (mak i2) m0).1, (pEnd (ln i2) (po i2) (cs i2) (fun q => mkf (8 * j + q)) (mak i2) m0).2.2.2.1)) j + 1 from if_neg (fun z => c_108 (congrArg mE z.1)))
      exact ih (j + 1) (by omega) _ _ _ _ _ _ _ _ _ hS (by rw [hp]; exact lv_sub hl [5, 6, 7, 1, 0] rfl)
    · have hE12 : (pEnd (ln i) (po i) (cs i) (fun q => mkf (8 * j + q)) (mak i) m0).1 = (pEnd (ln i2) (po i2) (cs i2) (fun q => mkf (8 * j + q)) (mak i2) m0).1 := (mE_eq (pRun_an m0).2 (pRun_an m0).2).mp c_108
      refine lv_iload hx hb d_M_compare_111 (lv_at hl 2 rfl) ?_
      refine lv_if_ne (tgt := 129) hx hb d_M_compare_113 (by decide) (fun c_113 => ?_) (fun c_113 => ?_)
      · have h61 : ¬ (pEnd (ln i) (po i) (cs i) (fun q => mkf (8 * j + q)) (mak i) m0).1 = 6 := fun z => c_113 ((mE_0 (pRun_an m0).2).mpr z)
        have hA12 : (pEnd (ln i) (po i) (cs i) (fun q => mkf (8 * j + q)) (mak i) m0).2.2.2.1 = (pEnd (ln i2) (po i2) (cs i2) (fun q => mkf (8 * j + q)) (mak i2) m0).2.2.2.1 := ((pRun_an m0).1 h61).trans ((pRun_an m0).1 (fun z => h61 (hE12.trans z))).symm
        refine lv_iinc (v := (nI (j + 1))) (lv' := [(4, .int (nI (j + 1))), (8, .int (mE (pEnd (ln i2) (po i2) (cs i2) (fun q => mkf (8 * j + q)) (mak i2) m0).1)), (6, .long (if (pEnd (ln i) (po i) (cs i) (fun q => mkf (8 * j + q)) (mak i) m0).1 = 6 then (pEnd (ln i) (po i) (cs i) (fun q => mkf (8 * j + q)) (mak i) m0).2.2.2.1.toInt64 else an)), (5, .int (mE (pEnd (ln i) (po i) (cs i) (fun q => mkf (8 * j + q)) (mak i) m0).1)), (0, .ref a1), (1, .int (nI i)), (2, .int (nI i2)), (3, .int (pDiff (fun j => ((pEnd (ln i) (po i) (cs i) (fun q => mkf (8 * j + q)) (mak i) m0).1, (pEnd (ln i) (po i) (cs i) (fun q => mkf (8 * j + q)) (mak i) m0).2.2.2.1)) (fun j => ((pEnd (ln i2) (po i2) (cs i2) (fun q => mkf (8 * j + q)) (mak i2) m0).1, (pEnd (ln i2) (po i2) (cs i2) (fun q => mkf (8 * j + q)) (mak i2) m0).2.2.2.1)) j))]) hx hb d_M_compare_129 hl (k := 7) rfl (nI_1 j) (by decide) rfl (fun ls hl => ?_)
        refine lv_goto (tgt := 39) hx hb d_M_compare_132 (by decide) ?_
        have hp := (show pDiff (fun j => ((pEnd (ln i) (po i) (cs i) (fun q => mkf (8 * j + q)) (mak i) m0).1, (pEnd (ln i) (po i) (cs i) (fun q => mkf (8 * j + q)) (mak i) m0).2.2.2.1)) (fun j => ((pEnd (ln i2) (po i2) (cs i2) (fun q => mkf (8 * j + q)) (mak i2) m0).1, (pEnd (ln i2) (po i2) (cs i2) (fun q => mkf (8 * j + q)) (mak i2) m0).2.2.2.1)) (j + 1) = pDiff (fun j => ((pEnd (ln i) (po i) (cs i) (fun q => mkf (8 * j + q)) (mak i) m0).1, (pEnd (ln i) (po i) (cs i) (fun q => mkf (8 * j + q)) (mak i) m0).2.2.2.1)) (fun j => ((pEnd (ln i2) (po i2) (cs i2) (fun q => mkf (8 * j + q)) (mak i2) m0).1, (pEnd (ln i2) (po i2) (cs i2) (fun q => mkf (8 * j + q)) (mak i2) m0).2.2.2.1)) j from if_pos ⟨hE12, hA12⟩)
        exact ih (j + 1) (by omega) _ _ _ _ _ _ _ _ _ hS (by rw [hp]; exact lv_sub hl [4, 5, 6, 7, 0] rfl)
      · have h61 : (pEnd (ln i) (po i) (cs i) (fun q => mkf (8 * j + q)) (mak i) m0).1 = 6 := (mE_0 (pRun_an m0).2).mp c_113
        have h62 : (pEnd (ln i2) (po i2) (cs i2) (fun q => mkf (8 * j + q)) (mak i2) m0).1 = 6 := hE12.symm.trans h61
        refine lv_lload hx hb d_M_compare_116 (lv_at hl 1 rfl) ?_
        refine lv_aload_n hx hb d_M_compare_118 rfl (lv_at hl 3 rfl) ?_
        refine r_get (k := 20) (i := 0) F hS f_M_110.get (uV_self (uV (uV V 38 0 ((A 38), aI G 8 gv8)) 37 0 ((A 37), aL G 8 g_99)) 20 0 (a1, oM A (nI m0) (nI ne) dy 0 qs (nI nk) hs hd pu_99 ((pEnd (ln i2) (po i2) (cs i2) (fun q => mkf (8 * j + q)) (mak i2) m0).2.2.2.2.1) nx_99 (if (pEnd (ln i2) (po i2) (cs i2) (fun q => mkf (8 * j + q)) (mak i2) m0).1 = 6 then (pEnd (ln i2) (po i2) (cs i2) (fun q => mkf (8 * j + q)) (mak i2) m0).2.2.2.1.toInt64 else (if (pEnd (ln i) (po i) (cs i) (fun q => mkf (8 * j + q)) (mak i) m0).1 = 6 then (pEnd (ln i) (po i) (cs i) (fun q => mkf (8 * j + q)) (mak i) m0).2.2.2.1.toInt64 else an)))) rfl d_M_compare_119 ?_
        refine W.lcmp hx hb d_M_compare_122 ?_
        refine lv_if_eq (tgt := 129) hx hb d_M_compare_123 (by decide) (fun c_123 => ?_) (fun c_123 => ?_)
        · have hA12 : (pEnd (ln i) (po i) (cs i) (fun q => mkf (8 * j + q)) (mak i) m0).2.2.2.1 = (pEnd (ln i2) (po i2) (cs i2) (fun q => mkf (8 * j + q)) (mak i2) m0).2.2.2.1 := by
            have z := (lg_cmp_eq _ _).mp c_123
            rw [if_pos h61, if_pos h62] at z
            have z2 := congrArg Int64.toInt32 z
            rw [e64, e64] at z2
            exact z2
          refine lv_iinc (v := (nI (j + 1))) (lv' := [(4, .int (nI (j + 1))), (8, .int (mE (pEnd (ln i2) (po i2) (cs i2) (fun q => mkf (8 * j + q)) (mak i2) m0).1)), (6, .long (if (pEnd (ln i) (po i) (cs i) (fun q => mkf (8 * j + q)) (mak i) m0).1 = 6 then (pEnd (ln i) (po i) (cs i) (fun q => mkf (8 * j + q)) (mak i) m0).2.2.2.1.toInt64 else an)), (5, .int (mE (pEnd (ln i) (po i) (cs i) (fun q => mkf (8 * j + q)) (mak i) m0).1)), (0, .ref a1), (1, .int (nI i)), (2, .int (nI i2)), (3, .int (pDiff (fun j => ((pEnd (ln i) (po i) (cs i) (fun q => mkf (8 * j + q)) (mak i) m0).1, (pEnd (ln i) (po i) (cs i) (fun q => mkf (8 * j + q)) (mak i) m0).2.2.2.1)) (fun j => ((pEnd (ln i2) (po i2) (cs i2) (fun q => mkf (8 * j + q)) (mak i2) m0).1, (pEnd (ln i2) (po i2) (cs i2) (fun q => mkf (8 * j + q)) (mak i2) m0).2.2.2.1)) j))]) hx hb d_M_compare_129 hl (k := 7) rfl (nI_1 j) (by decide) rfl (fun ls hl => ?_)
          refine lv_goto (tgt := 39) hx hb d_M_compare_132 (by decide) ?_
          have hp := (show pDiff (fun j => ((pEnd (ln i) (po i) (cs i) (fun q => mkf (8 * j + q)) (mak i) m0).1, (pEnd (ln i) (po i) (cs i) (fun q => mkf (8 * j + q)) (mak i) m0).2.2.2.1)) (fun j => ((pEnd (ln i2) (po i2) (cs i2) (fun q => mkf (8 * j + q)) (mak i2) m0).1, (pEnd (ln i2) (po i2) (cs i2) (fun q => mkf (8 * j + q)) (mak i2) m0).2.2.2.1)) (j + 1) = pDiff (fun j => ((pEnd (ln i) (po i) (cs i) (fun q => mkf (8 * j + q)) (mak i) m0).1, (pEnd (ln i) (po i) (cs i) (fun q => mkf (8 * j + q)) (mak i) m0).2.2.2.1)) (fun j => ((pEnd (ln i2) (po i2) (cs i2) (fun q => mkf (8 * j + q)) (mak i2) m0).1, (pEnd (ln i2) (po i2) (cs i2) (fun q => mkf (8 * j + q)) (mak i2) m0).2.2.2.1)) j from if_pos ⟨hE12, hA12⟩)
          exact ih (j + 1) (by omega) _ _ _ _ _ _ _ _ _ hS (by rw [hp]; exact lv_sub hl [4, 5, 6, 7, 0] rfl)
        · have hA12 : ¬ (pEnd (ln i) (po i) (cs i) (fun q => mkf (8 * j + q)) (mak i) m0).2.2.2.1 = (pEnd (ln i2) (po i2) (cs i2) (fun q => mkf (8 * j + q)) (mak i2) m0).2.2.2.1 := fun z => c_123 ((lg_cmp_eq _ _).mpr (by rw [if_pos h61, if_pos h62, z]))
          refine lv_iinc (v := ((pDiff (fun j => ((pEnd (ln i) (po i) (cs i) (fun q => mkf (8 * j + q)) (mak i) m0).1, (pEnd (ln i) (po i) (cs i) (fun q => mkf (8 * j + q)) (mak i) m0).2.2.2.1)) (fun j => ((pEnd (ln i2) (po i2) (cs i2) (fun q => mkf (8 * j + q)) (mak i2) m0).1, (pEnd (ln i2) (po i2) (cs i2) (fun q => mkf (8 * j + q)) (mak i2) m0).2.2.2.1)) j) + 1)) (lv' := [(3, .int ((pDiff (fun j => ((pEnd (ln i) (po i) (cs i) (fun q => mkf (8 * j + q)) (mak i) m0).1, (pEnd (ln i) (po i) (cs i) (fun q => mkf (8 * j + q)) (mak i) m0).2.2.2.1)) (fun j => ((pEnd (ln i2) (po i2) (cs i2) (fun q => mkf (8 * j + q)) (mak i2) m0).1, (pEnd (ln i2) (po i2) (cs i2) (fun q => mkf (8 * j + q)) (mak i2) m0).2.2.2.1)) j) + 1)), (8, .int (mE (pEnd (ln i2) (po i2) (cs i2) (fun q => mkf (8 * j + q)) (mak i2) m0).1)), (6, .long (if (pEnd (ln i) (po i) (cs i) (fun q => mkf (8 * j + q)) (mak i) m0).1 = 6 then (pEnd (ln i) (po i) (cs i) (fun q => mkf (8 * j + q)) (mak i) m0).2.2.2.1.toInt64 else an)), (5, .int (mE (pEnd (ln i) (po i) (cs i) (fun q => mkf (8 * j + q)) (mak i) m0).1)), (0, .ref a1), (1, .int (nI i)), (2, .int (nI i2)), (4, .int (nI j))]) hx hb d_M_compare_126 hl (k := 6) rfl (by rfl) (by decide) rfl (fun ls hl => ?_)
          refine lv_iinc (v := (nI (j + 1))) (lv' := [(4, .int (nI (j + 1))), (3, .int ((pDiff (fun j => ((pEnd (ln i) (po i) (cs i) (fun q => mkf (8 * j + q)) (mak i) m0).1, (pEnd (ln i) (po i) (cs i) (fun q => mkf (8 * j + q)) (mak i) m0).2.2.2.1)) (fun j => ((pEnd (ln i2) (po i2) (cs i2) (fun q => mkf (8 * j + q)) (mak i2) m0).1, (pEnd (ln i2) (po i2) (cs i2) (fun q => mkf (8 * j + q)) (mak i2) m0).2.2.2.1)) j) + 1)), (8, .int (mE (pEnd (ln i2) (po i2) (cs i2) (fun q => mkf (8 * j + q)) (mak i2) m0).1)), (6, .long (if (pEnd (ln i) (po i) (cs i) (fun q => mkf (8 * j + q)) (mak i) m0).1 = 6 then (pEnd (ln i) (po i) (cs i) (fun q => mkf (8 * j + q)) (mak i) m0).2.2.2.1.toInt64 else an)), (5, .int (mE (pEnd (ln i) (po i) (cs i) (fun q => mkf (8 * j + q)) (mak i) m0).1)), (0, .ref a1), (1, .int (nI i)), (2, .int (nI i2))]) hx hb d_M_compare_129 hl (k := 7) rfl (nI_1 j) (by decide) rfl (fun ls hl => ?_)
          refine lv_goto (tgt := 39) hx hb d_M_compare_132 (by decide) ?_
          have hp := (show pDiff (fun j => ((pEnd (ln i) (po i) (cs i) (fun q => mkf (8 * j + q)) (mak i) m0).1, (pEnd (ln i) (po i) (cs i) (fun q => mkf (8 * j + q)) (mak i) m0).2.2.2.1)) (fun j => ((pEnd (ln i2) (po i2) (cs i2) (fun q => mkf (8 * j + q)) (mak i2) m0).1, (pEnd (ln i2) (po i2) (cs i2) (fun q => mkf (8 * j + q)) (mak i2) m0).2.2.2.1)) (j + 1) = pDiff (fun j => ((pEnd (ln i) (po i) (cs i) (fun q => mkf (8 * j + q)) (mak i) m0).1, (pEnd (ln i) (po i) (cs i) (fun q => mkf (8 * j + q)) (mak i) m0).2.2.2.1)) (fun j => ((pEnd (ln i2) (po i2) (cs i2) (fun q => mkf (8 * j + q)) (mak i2) m0).1, (pEnd (ln i2) (po i2) (cs i2) (fun q => mkf (8 * j + q)) (mak i2) m0).2.2.2.1)) j + 1 from if_neg (fun z => hA12 z.2))
          exact ih (j + 1) (by omega) _ _ _ _ _ _ _ _ _ hS (by rw [hp]; exact lv_sub hl [5, 6, 7, 1, 0] rfl)
set_option maxHeartbeats 4000000 in
set_option maxRecDepth 100000 in
theorem k_M_compare (G : Gl) (l : Launch) (htr : l.stackTraces = false) (V : Vw) (a1 : Nat) (A : Nat → Nat) (m0 ne nk : Nat) (dy th qs hs hd : Int32) (mow mki med mmd mak msk mfk mmn mpo mcs fa mkf ff fs mss mot : Nat → Int32) (hne : ne ≤ 24) (hW : MW G V a1 A (nI m0) (nI ne) dy th qs (nI nk) hs hd mow mki med mmd mak msk mfk mmn mpo mcs fa mkf ff fs mss mot) (n n2 : Int32) (ln : Nat → Nat) (po cs : Nat → Nat → Int32) (hCD : CD ne mmn mpo mcs ln po cs) (hm : m0 ≤ 1000) (hnk : nk ≤ 8)  :
    Cm G l y_M_compare b_M_compare 9 (Option.some Jvm.ClassFile.FieldType.int) { frames := 3, cells := 0, slots := 0, locals := 78 } V [.ref a1, .int n, .int n2] (fun rv V' => (¬ ((∃ i : Nat, i < ne ∧ n = nI i) ∧ (∃ i : Nat, i < ne ∧ n2 = nI i)) ∧ rv = some (.int 0) ∧ MW G V' a1 A (nI m0) (nI ne) dy 1 qs (nI nk) hs hd mow mki med mmd mak msk mfk mmn mpo mcs fa mkf ff fs mss mot ∧ INN V V') ∨ ∃ i i2 : Nat, i < ne ∧ i2 < ne ∧ n = nI i ∧ n2 = nI i2 ∧ rv = some (.int (pDiff (fun j => ((pEnd (ln i) (po i) (cs i) (fun q => mkf (8 * j + q)) (mak i) m0).1, (pEnd (ln i) (po i) (cs i) (fun q => mkf (8 * j + q)) (mak i) m0).2.2.2.1)) (fun j => ((pEnd (ln i2) (po i2) (cs i2) (fun q => mkf (8 * j + q)) (mak i2) m0).1, (pEnd (ln i2) (po i2) (cs i2) (fun q => mkf (8 * j + q)) (mak i2) m0).2.2.2.1)) nk)) ∧ MW G V' a1 A (nI m0) (nI ne) dy 0 qs (nI nk) hs hd mow mki med mmd mak msk mfk mmn mpo mcs fa mkf ff fs mss mot ∧ INN V V') := by
  refine Cm.of htr (by decide) (Nat.le_of_ble_eq_true rfl) ?_
  intro p e s m args below meth c ls F hr hnm hS hl
  obtain ⟨hx, hb, hml, hown, hts, hK, hlk, -⟩ := id F
  have hl : lv_has ls 9 [(0, .ref a1), (1, .int n), (2, .int n2)] := hl
  obtain ⟨pu, st, nx, an, g, gv, h20, h21, h22, h23, h24, h25, h26, h27, h28, h29, h30, h31, h32, h33, h34, h35, h36, h37, h38⟩ := hW
  refine lv_aload_n hx hb d_M_compare_0 rfl (lv_at hl 0 rfl) ?_
  refine lv_aload_n hx hb d_M_compare_1 rfl (lv_at hl 0 rfl) ?_
  refine lv_iload_n hx hb d_M_compare_2 rfl (lv_at hl 1 rfl) ?_
  refine r_callV (k := 20) (i := 0) (q := ("RuleClassesModel", T_M, 30)) (fs := [.int (nI m0), .int (nI ne), .int dy, .int th, .int qs, .int (nI nk), .int hs, .int hd, .ref (A 21), .ref (A 22), .ref (A 23), .ref (A 24), .ref (A 25), .ref (A 26), .ref (A 27), .ref (A 28), .ref (A 29), .ref (A 30), .ref (A 31), .ref (A 32), .ref (A 33), .ref (A 34), .ref (A 35), .ref (A 36), .ref (A 37), .int pu, .int st, .int nx, .long an, .ref (A 38)]) (As := [.int n]) (rest := [.ref a1]) F hS c_M_90 (k_M_isEdition G l htr V a1 A m0 ne nk dy th qs hs hd pu st nx an hne n h20) rfl h20 rfl hl.1 rfl (Nat.le_of_ble_eq_true rfl) d_M_compare_3 ⟨Nat.le_of_ble_eq_true rfl, Nat.le_of_ble_eq_true rfl⟩ ⟨Nat.le_of_ble_eq_true rfl, Nat.le_of_ble_eq_true rfl⟩ (fun rv V1 H locs hR hS => ?_)
  obtain ⟨hV, bz_3, rfl, hz_3⟩ := hR
  rw [hV] at hS
  refine W.eq (g2 := F0 m 6 ls [.int bz_3, .ref a1]) rfl ?_
  refine lv_if_eq (tgt := 21) hx hb d_M_compare_6 (by decide) (fun c_6 => ?_) (fun c_6 => ?_)
  · refine lv_iconst (v := 1) hx hb d_M_compare_21 (by decide) ?_
    refine r_put (k := 20) (i := 0) F hS f_M_73 ct_M h20 rfl rfl (Nat.le_of_ble_eq_true rfl) d_M_compare_22 (fun H locs hS => ?_)
    have hS : HS G s (uV V 20 0 (a1, oM A (nI m0) (nI ne) dy 1 qs (nI nk) hs hd pu st nx an)) H _ := hS
    refine lv_aload_n hx hb d_M_compare_25 rfl (lv_at hl 0 rfl) ?_
    refine r_get (k := 20) (i := 0) F hS f_M_73.get (uV_self V 20 0 (a1, oM A (nI m0) (nI ne) dy 1 qs (nI nk) hs hd pu st nx an)) rfl d_M_compare_26 ?_
    refine lv_if_eq (tgt := 34) hx hb d_M_compare_29 (by decide) (fun z => absurd z (by decide)) (fun _ => ?_)
    refine lv_iconst (v := 0) hx hb d_M_compare_32 (by decide) ?_
    exact m_reti F hr hS (Nat.le_of_ble_eq_true rfl) (Nat.le_of_ble_eq_true rfl) (Or.inl ⟨fun z => hz_3.f c_6 z.1, rfl, ⟨pu, st, nx, an, g, gv, rfl, h21, h22, h23, h24, h25, h26, h27, h28, h29, h30, h31, h32, h33, h34, h35, h36, h37, h38⟩, (by repeat' first | exact INN.rf | refine INN.u ?_ (by decide) (by decide))⟩) d_M_compare_33
  · refine lv_aload_n hx hb d_M_compare_9 rfl (lv_at hl 0 rfl) ?_
    refine lv_iload_n hx hb d_M_compare_10 rfl (lv_at hl 2 rfl) ?_
    refine r_callV (k := 20) (i := 0) (q := ("RuleClassesModel", T_M, 30)) (fs := [.int (nI m0), .int (nI ne), .int dy, .int th, .int qs, .int (nI nk), .int hs, .int hd, .ref (A 21), .ref (A 22), .ref (A 23), .ref (A 24), .ref (A 25), .ref (A 26), .ref (A 27), .ref (A 28), .ref (A 29), .ref (A 30), .ref (A 31), .ref (A 32), .ref (A 33), .ref (A 34), .ref (A 35), .ref (A 36), .ref (A 37), .int pu, .int st, .int nx, .long an, .ref (A 38)]) (As := [.int n2]) (rest := [.ref a1]) F hS c_M_90 (k_M_isEdition G l htr V a1 A m0 ne nk dy th qs hs hd pu st nx an hne n2 h20) rfl h20 rfl hl.1 rfl (Nat.le_of_ble_eq_true rfl) d_M_compare_11 ⟨Nat.le_of_ble_eq_true rfl, Nat.le_of_ble_eq_true rfl⟩ ⟨Nat.le_of_ble_eq_true rfl, Nat.le_of_ble_eq_true rfl⟩ (fun rv V1 H locs hR hS => ?_)
    obtain ⟨hV, bz_11, rfl, hz_11⟩ := hR
    rw [hV] at hS
    refine W.eq (g2 := F0 m 14 ls [.int bz_11, .ref a1]) rfl ?_
    refine lv_if_eq (tgt := 21) hx hb d_M_compare_14 (by decide) (fun c_14 => ?_) (fun c_14 => ?_)
    · refine lv_iconst (v := 1) hx hb d_M_compare_21 (by decide) ?_
      refine r_put (k := 20) (i := 0) F hS f_M_73 ct_M h20 rfl rfl (Nat.le_of_ble_eq_true rfl) d_M_compare_22 (fun H locs hS => ?_)
      have hS : HS G s (uV V 20 0 (a1, oM A (nI m0) (nI ne) dy 1 qs (nI nk) hs hd pu st nx an)) H _ := hS
      refine lv_aload_n hx hb d_M_compare_25 rfl (lv_at hl 0 rfl) ?_
      refine r_get (k := 20) (i := 0) F hS f_M_73.get (uV_self V 20 0 (a1, oM A (nI m0) (nI ne) dy 1 qs (nI nk) hs hd pu st nx an)) rfl d_M_compare_26 ?_
      refine lv_if_eq (tgt := 34) hx hb d_M_compare_29 (by decide) (fun z => absurd z (by decide)) (fun _ => ?_)
      refine lv_iconst (v := 0) hx hb d_M_compare_32 (by decide) ?_
      exact m_reti F hr hS (Nat.le_of_ble_eq_true rfl) (Nat.le_of_ble_eq_true rfl) (Or.inl ⟨fun z => hz_11.f c_14 z.2, rfl, ⟨pu, st, nx, an, g, gv, rfl, h21, h22, h23, h24, h25, h26, h27, h28, h29, h30, h31, h32, h33, h34, h35, h36, h37, h38⟩, (by repeat' first | exact INN.rf | refine INN.u ?_ (by decide) (by decide))⟩) d_M_compare_33
    · refine lv_iconst (v := 0) hx hb d_M_compare_17 (by decide) ?_
      refine lv_goto (tgt := 22) hx hb d_M_compare_18 (by decide) ?_
      refine r_put (k := 20) (i := 0) F hS f_M_73 ct_M h20 rfl rfl (Nat.le_of_ble_eq_true rfl) d_M_compare_22 (fun H locs hS => ?_)
      have hS : HS G s (uV V 20 0 (a1, oM A (nI m0) (nI ne) dy 0 qs (nI nk) hs hd pu st nx an)) H _ := hS
      refine lv_aload_n hx hb d_M_compare_25 rfl (lv_at hl 0 rfl) ?_
      refine r_get (k := 20) (i := 0) F hS f_M_73.get (uV_self V 20 0 (a1, oM A (nI m0) (nI ne) dy 0 qs (nI nk) hs hd pu st nx an)) rfl d_M_compare_26 ?_
      refine lv_if_eq (tgt := 34) hx hb d_M_compare_29 (by decide) (fun _ => ?_) (fun z => absurd z (by decide))
      obtain ⟨i, hi, rfl⟩ := hz_3.t c_6
      obtain ⟨i2, hi2, rfl⟩ := hz_11.t c_14
      have hl16 := (hCD i hi).2.1.1
      have hl17 := (hCD i2 hi2).2.1.1
      refine lv_iconst (v := 0) hx hb d_M_compare_34 (by decide) ?_
      refine lv_istore_n (lv' := [(3, .int 0), (0, .ref a1), (1, .int (nI i)), (2, .int (nI i2))]) hx hb d_M_compare_35 rfl hl (by decide) rfl (fun ls hl => ?_)
      refine lv_iconst (v := 0) hx hb d_M_compare_36 (by decide) ?_
      refine lv_istore (lv' := [(4, .int 0), (3, .int 0), (0, .ref a1), (1, .int (nI i)), (2, .int (nI i2))]) hx hb d_M_compare_37 hl (by decide) rfl (fun ls hl => ?_)
      rw [uM_of208 h37 h38] at hS
      refine lp_M_compare G l htr V a1 A m0 ne nk dy qs hs hd mak mmn mpo mcs mkf hne hm hnk i i2 hi hi2 ln po cs hCD h25 h28 h29 h30 h32 F hr (fun gv2 pu2 st2 nx2 an2 g2 => ?_) nk 0 (by omega) gv pu st nx an g _ _ _ hS (lv_sub hl [2, 3, 4, 1, 0] rfl)
      exact Or.inr ⟨i, i2, hi, hi2, rfl, rfl, rfl, ⟨pu2, st2, nx2, an2, g2, gv2, rfl, h21, h22, h23, h24, h25, h26, h27, h28, h29, h30, h31, h32, h33, h34, h35, h36, rfl, rfl⟩, (by repeat' first | exact INN.rf | refine INN.u ?_ (by decide) (by decide))⟩
set_option maxHeartbeats 4000000 in
set_option maxRecDepth 100000 in
theorem k_M_askedOf6 (G : Gl) (l : Launch) (htr : l.stackTraces = false) (V : Vw) (a1 : Nat) (A : Nat → Nat) (m0 ne nk : Nat) (dy th qs hs hd : Int32) (pu st nx : Int32) (an : Int64) (mak msk mfk mmn mpo mcs fa ff fs gv : Nat → Int32) (g : Nat → Int64) (hne : ne ≤ 24) (hm : m0 ≤ 1000) (on kn i : Nat) (hon : on ≤ 5) (hkn : kn ≤ 2) (hi : i < ne) (ln : Nat → Nat) (po cs : Nat → Nat → Int32) (hCD : CD ne mmn mpo mcs ln po cs) (hgv : ∀ q, q < 8 → gv q = fa q) (h6 : (pEnd (ln i) (po i) (cs i) fa (mak i) m0).1 = 6) (h20 : V 20 0 = some (a1, oM A (nI m0) (nI ne) dy th qs (nI nk) hs hd pu st nx an)) (h25 : V 25 0 = some ((A 25), aI G 24 mak)) (h26 : V 26 0 = some ((A 26), aI G 24 msk)) (h27 : V 27 0 = some ((A 27), aI G 24 mfk)) (h28 : V 28 0 = some ((A 28), aI G 24 mmn)) (h29 : V 29 0 = some ((A 29), aI G 384 mpo)) (h30 : V 30 0 = some ((A 30), aI G 384 mcs)) (h33 : V 33 0 = some ((A 33), aI G 3 ff)) (h34 : V 34 0 = some ((A 34), aI G 36 fs)) (h37 : V 37 0 = some ((A 37), aL G 8 g)) (h38 : V 38 0 = some ((A 38), aI G 8 gv)) :
    Cm G l y_M_askedOf b_M_askedOf 5 (Option.some Jvm.ClassFile.FieldType.int) { frames := 3, cells := 0, slots := 0, locals := 78 } V [.ref a1, .int (nI on), .int (nI kn), .int (nI i)] (fun rv V' => ∃ (pu2 nx2 : Int32) (g2 : Nat → Int64), rv = some (.int (pEnd (ln i) (po i) (cs i) fa (mak i) m0).2.2.2.1) ∧ V' = (uV (uM G V a1 A (nI m0) (nI ne) dy th qs (nI nk) hs hd pu2 ((pEnd (ln i) (po i) (cs i) fa (mak i) m0).2.2.2.2.1) nx2 (if (pEnd (ln i) (po i) (cs i) fa (mak i) m0).1 = 6 then (pEnd (ln i) (po i) (cs i) fa (mak i) m0).2.2.2.1.toInt64 else an) g2) 26 0 ((A 26), aI G 24 (upd msk i (msk i + (pEnd (ln i) (po i) (cs i) fa (mak i) m0).2.2.2.2.1))))) := by
  refine Cm.of htr (by decide) (Nat.le_of_ble_eq_true rfl) ?_
  intro p e s m args below meth c ls F hr hnm hS hl
  obtain ⟨hx, hb, hml, hown, hts, hK, hlk, -⟩ := id F
  have hl : lv_has ls 5 [(0, .ref a1), (1, .int (nI on)), (2, .int (nI kn)), (3, .int (nI i))] := hl
  refine lv_aload_n hx hb d_M_askedOf_0 rfl (lv_at hl 0 rfl) ?_
  refine lv_iload_n hx hb d_M_askedOf_1 rfl (lv_at hl 3 rfl) ?_
  refine r_callV (k := 20) (i := 0) (q := ("RuleClassesModel", T_M, 30)) (fs := [.int (nI m0), .int (nI ne), .int dy, .int th, .int qs, .int (nI nk), .int hs, .int hd, .ref (A 21), .ref (A 22), .ref (A 23), .ref (A 24), .ref (A 25), .ref (A 26), .ref (A 27), .ref (A 28), .ref (A 29), .ref (A 30), .ref (A 31), .ref (A 32), .ref (A 33), .ref (A 34), .ref (A 35), .ref (A 36), .ref (A 37), .int pu, .int st, .int nx, .long an, .ref (A 38)]) (As := [.int (nI i)]) (rest := []) F hS c_M_128 (k_M_run G l htr V a1 A m0 ne nk dy th qs hs hd mak  mmn mpo mcs gv fa i (ln i) (po i) (cs i) (by omega) hm (hCD _ hi).1 (hCD _ hi).2.1 (hCD _ hi).2.2.2 (hCD _ hi).2.2.1 hgv pu st nx an g h20 h25 h28 h29 h30 h37 h38) rfl h20 rfl hl.1 rfl (Nat.le_of_ble_eq_true rfl) d_M_askedOf_2 ⟨Nat.le_of_ble_eq_true rfl, Nat.le_of_ble_eq_true rfl⟩ ⟨Nat.le_of_ble_eq_true rfl, Nat.le_of_ble_eq_true rfl⟩ (fun rv V1 H locs hR hS => ?_)
  obtain ⟨pu_2, nx_2, g_2, rfl, rfl⟩ := hR
  refine W.eq (g2 := F0 m 5 ls [.int (mE (pEnd (ln i) (po i) (cs i) fa (mak i) m0).1)]) rfl ?_
  refine lv_istore (lv' := [(4, .int (mE (pEnd (ln i) (po i) (cs i) fa (mak i) m0).1)), (0, .ref a1), (1, .int (nI on)), (2, .int (nI kn)), (3, .int (nI i))]) hx hb d_M_askedOf_5 hl (by decide) rfl (fun ls hl => ?_)
  refine lv_aload_n hx hb d_M_askedOf_7 rfl (lv_at hl 1 rfl) ?_
  refine r_get (k := 20) (i := 0) F hS f_M_30.get (uV_self (uV V 37 0 ((A 37), aL G 8 g_2)) 20 0 (a1, oM A (nI m0) (nI ne) dy th qs (nI nk) hs hd pu_2 ((pEnd (ln i) (po i) (cs i) fa (mak i) m0).2.2.2.2.1) nx_2 (if (pEnd (ln i) (po i) (cs i) fa (mak i) m0).1 = 6 then (pEnd (ln i) (po i) (cs i) fa (mak i) m0).2.2.2.1.toInt64 else an))) rfl d_M_askedOf_8 ?_
  refine lv_iload_n hx hb d_M_askedOf_11 rfl (lv_at hl 4 rfl) ?_
  refine lv_dup2_11 hx hb d_M_askedOf_12 rfl rfl ?_
  refine r_iald (k := 26) (i := 0) F hS h26 (vp_in_nI (by omega) (by decide)) d_M_askedOf_13 ?_
  rw [nI_clamp (by omega)]
  refine lv_aload_n hx hb d_M_askedOf_14 rfl (lv_at hl 1 rfl) ?_
  refine r_get (k := 20) (i := 0) F hS f_M_97.get (uV_self (uV V 37 0 ((A 37), aL G 8 g_2)) 20 0 (a1, oM A (nI m0) (nI ne) dy th qs (nI nk) hs hd pu_2 ((pEnd (ln i) (po i) (cs i) fa (mak i) m0).2.2.2.2.1) nx_2 (if (pEnd (ln i) (po i) (cs i) fa (mak i) m0).1 = 6 then (pEnd (ln i) (po i) (cs i) fa (mak i) m0).2.2.2.1.toInt64 else an))) rfl d_M_askedOf_15 ?_
  refine lv_iadd hx hb d_M_askedOf_18 ?_
  refine r_iast (k := 26) (i := 0) F hS h26 (vp_in_nI (by omega) (by decide)) d_M_askedOf_19 (fun H locs hS => ?_)
  rw [nI_clamp (by omega)] at hS
  have hS : HS G s (uV (uM G V a1 A (nI m0) (nI ne) dy th qs (nI nk) hs hd pu_2 (pEnd (ln i) (po i) (cs i) fa (mak i) m0).2.2.2.2.1 nx_2 (if (pEnd (ln i) (po i) (cs i) fa (mak i) m0).1 = 6 then (pEnd (ln i) (po i) (cs i) fa (mak i) m0).2.2.2.1.toInt64 else an) g_2) 26 0 ((A 26), aI G 24 (upd msk i ((msk i) + ((pEnd (ln i) (po i) (cs i) fa (mak i) m0).2.2.2.2.1))))) H _ := hS
  refine lv_iload hx hb d_M_askedOf_20 (lv_at hl 0 rfl) ?_
  refine lv_if_ne (tgt := 31) hx hb d_M_askedOf_22 (by decide) (fun c_22 => absurd ((mE_0 (pRun_an m0).2).mpr h6) c_22) (fun c_22 => ?_)
  refine lv_aload_n hx hb d_M_askedOf_25 rfl (lv_at hl 1 rfl) ?_
  refine r_get (k := 20) (i := 0) F hS f_M_110.get (uV_self (uV V 37 0 ((A 37), aL G 8 g_2)) 20 0 (a1, oM A (nI m0) (nI ne) dy th qs (nI nk) hs hd pu_2 ((pEnd (ln i) (po i) (cs i) fa (mak i) m0).2.2.2.2.1) nx_2 (if (pEnd (ln i) (po i) (cs i) fa (mak i) m0).1 = 6 then (pEnd (ln i) (po i) (cs i) fa (mak i) m0).2.2.2.1.toInt64 else an))) rfl d_M_askedOf_26 ?_
  refine lv_l2i (v := (if (pEnd (ln i) (po i) (cs i) fa (mak i) m0).1 = 6 then (pEnd (ln i) (po i) (cs i) fa (mak i) m0).2.2.2.1.toInt64 else an).toInt32) hx hb d_M_askedOf_29 rfl ?_
  rw [show (if (pEnd (ln i) (po i) (cs i) fa (mak i) m0).1 = 6 then (pEnd (ln i) (po i) (cs i) fa (mak i) m0).2.2.2.1.toInt64 else an).toInt32 = (pEnd (ln i) (po i) (cs i) fa (mak i) m0).2.2.2.1 by rw [if_pos h6, e64]]
  exact m_reti F hr hS (Nat.le_of_ble_eq_true rfl) (Nat.le_of_ble_eq_true rfl) ⟨pu_2, nx_2, g_2, rfl, rfl⟩ d_M_askedOf_30
set_option maxHeartbeats 4000000 in
set_option maxRecDepth 100000 in
theorem k_M_askedOfc (G : Gl) (l : Launch) (htr : l.stackTraces = false) (V : Vw) (a1 : Nat) (A : Nat → Nat) (m0 ne nk : Nat) (dy th qs hs hd : Int32) (pu st nx : Int32) (an : Int64) (mak msk mfk mmn mpo mcs fa ff fs gv : Nat → Int32) (g : Nat → Int64) (hne : ne ≤ 24) (hm : m0 ≤ 1000) (on kn i : Nat) (hon : on ≤ 5) (hkn : kn ≤ 2) (hi : i < ne) (ln : Nat → Nat) (po cs : Nat → Nat → Int32) (hCD : CD ne mmn mpo mcs ln po cs) (hgv : ∀ q, q < 8 → gv q = fa q) (c9 : Nat) (hc5 : c9 ≤ 5) (ec9 : (pEnd (ln i) (po i) (cs i) fa (mak i) m0).1 = nI c9) (h20 : V 20 0 = some (a1, oM A (nI m0) (nI ne) dy th qs (nI nk) hs hd pu st nx an)) (h25 : V 25 0 = some ((A 25), aI G 24 mak)) (h26 : V 26 0 = some ((A 26), aI G 24 msk)) (h27 : V 27 0 = some ((A 27), aI G 24 mfk)) (h28 : V 28 0 = some ((A 28), aI G 24 mmn)) (h29 : V 29 0 = some ((A 29), aI G 384 mpo)) (h30 : V 30 0 = some ((A 30), aI G 384 mcs)) (h33 : V 33 0 = some ((A 33), aI G 3 ff)) (h34 : V 34 0 = some ((A 34), aI G 36 fs)) (h37 : V 37 0 = some ((A 37), aL G 8 g)) (h38 : V 38 0 = some ((A 38), aI G 8 gv)) :
    Cm G l y_M_askedOf b_M_askedOf 5 (Option.some Jvm.ClassFile.FieldType.int) { frames := 3, cells := 0, slots := 0, locals := 78 } V [.ref a1, .int (nI on), .int (nI kn), .int (nI i)] (fun rv V' => ∃ (pu2 nx2 : Int32) (g2 : Nat → Int64), rv = some (.int (ff kn)) ∧ V' = (uV (uV (uV (uM G V a1 A (nI m0) (nI ne) dy th qs (nI nk) hs hd pu2 ((pEnd (ln i) (po i) (cs i) fa (mak i) m0).2.2.2.2.1) nx2 (if (pEnd (ln i) (po i) (cs i) fa (mak i) m0).1 = 6 then (pEnd (ln i) (po i) (cs i) fa (mak i) m0).2.2.2.1.toInt64 else an) g2) 26 0 ((A 26), aI G 24 (upd msk i (msk i + (pEnd (ln i) (po i) (cs i) fa (mak i) m0).2.2.2.2.1)))) 27 0 ((A 27), aI G 24 (upd mfk i (mfk i + 1)))) 34 0 ((A 34), aI G 36 (upd fs (6 * on + c9) (fs (6 * on + c9) + 1))))) := by
  refine Cm.of htr (by decide) (Nat.le_of_ble_eq_true rfl) ?_
  intro p e s m args below meth c ls F hr hnm hS hl
  obtain ⟨hx, hb, hml, hown, hts, hK, hlk, -⟩ := id F
  have hl : lv_has ls 5 [(0, .ref a1), (1, .int (nI on)), (2, .int (nI kn)), (3, .int (nI i))] := hl
  have h6 : ¬ (pEnd (ln i) (po i) (cs i) fa (mak i) m0).1 = 6 := fun z => absurd ((nI_eq (by omega) (by decide)).mp (ec9.symm.trans z : nI c9 = nI 6)) (by omega)
  have em : mE (pEnd (ln i) (po i) (cs i) fa (mak i) m0).1 = nI c9 := (if_neg h6).trans ec9
  refine lv_aload_n hx hb d_M_askedOf_0 rfl (lv_at hl 0 rfl) ?_
  refine lv_iload_n hx hb d_M_askedOf_1 rfl (lv_at hl 3 rfl) ?_
  refine r_callV (k := 20) (i := 0) (q := ("RuleClassesModel", T_M, 30)) (fs := [.int (nI m0), .int (nI ne), .int dy, .int th, .int qs, .int (nI nk), .int hs, .int hd, .ref (A 21), .ref (A 22), .ref (A 23), .ref (A 24), .ref (A 25), .ref (A 26), .ref (A 27), .ref (A 28), .ref (A 29), .ref (A 30), .ref (A 31), .ref (A 32), .ref (A 33), .ref (A 34), .ref (A 35), .ref (A 36), .ref (A 37), .int pu, .int st, .int nx, .long an, .ref (A 38)]) (As := [.int (nI i)]) (rest := []) F hS c_M_128 (k_M_run G l htr V a1 A m0 ne nk dy th qs hs hd mak  mmn mpo mcs gv fa i (ln i) (po i) (cs i) (by omega) hm (hCD _ hi).1 (hCD _ hi).2.1 (hCD _ hi).2.2.2 (hCD _ hi).2.2.1 hgv pu st nx an g h20 h25 h28 h29 h30 h37 h38) rfl h20 rfl hl.1 rfl (Nat.le_of_ble_eq_true rfl) d_M_askedOf_2 ⟨Nat.le_of_ble_eq_true rfl, Nat.le_of_ble_eq_true rfl⟩ ⟨Nat.le_of_ble_eq_true rfl, Nat.le_of_ble_eq_true rfl⟩ (fun rv V1 H locs hR hS => ?_)
  obtain ⟨pu_2, nx_2, g_2, rfl, rfl⟩ := hR
  refine W.eq (g2 := F0 m 5 ls [.int (mE (pEnd (ln i) (po i) (cs i) fa (mak i) m0).1)]) rfl ?_
  refine lv_istore (lv' := [(4, .int (mE (pEnd (ln i) (po i) (cs i) fa (mak i) m0).1)), (0, .ref a1), (1, .int (nI on)), (2, .int (nI kn)), (3, .int (nI i))]) hx hb d_M_askedOf_5 hl (by decide) rfl (fun ls hl => ?_)
  refine lv_aload_n hx hb d_M_askedOf_7 rfl (lv_at hl 1 rfl) ?_
  refine r_get (k := 20) (i := 0) F hS f_M_30.get (uV_self (uV V 37 0 ((A 37), aL G 8 g_2)) 20 0 (a1, oM A (nI m0) (nI ne) dy th qs (nI nk) hs hd pu_2 ((pEnd (ln i) (po i) (cs i) fa (mak i) m0).2.2.2.2.1) nx_2 (if (pEnd (ln i) (po i) (cs i) fa (mak i) m0).1 = 6 then (pEnd (ln i) (po i) (cs i) fa (mak i) m0).2.2.2.1.toInt64 else an))) rfl d_M_askedOf_8 ?_
  refine lv_iload_n hx hb d_M_askedOf_11 rfl (lv_at hl 4 rfl) ?_
  refine lv_dup2_11 hx hb d_M_askedOf_12 rfl rfl ?_
  refine r_iald (k := 26) (i := 0) F hS h26 (vp_in_nI (by omega) (by decide)) d_M_askedOf_13 ?_
  rw [nI_clamp (by omega)]
  refine lv_aload_n hx hb d_M_askedOf_14 rfl (lv_at hl 1 rfl) ?_
  refine r_get (k := 20) (i := 0) F hS f_M_97.get (uV_self (uV V 37 0 ((A 37), aL G 8 g_2)) 20 0 (a1, oM A (nI m0) (nI ne) dy th qs (nI nk) hs hd pu_2 ((pEnd (ln i) (po i) (cs i) fa (mak i) m0).2.2.2.2.1) nx_2 (if (pEnd (ln i) (po i) (cs i) fa (mak i) m0).1 = 6 then (pEnd (ln i) (po i) (cs i) fa (mak i) m0).2.2.2.1.toInt64 else an))) rfl d_M_askedOf_15 ?_
  refine lv_iadd hx hb d_M_askedOf_18 ?_
  refine r_iast (k := 26) (i := 0) F hS h26 (vp_in_nI (by omega) (by decide)) d_M_askedOf_19 (fun H locs hS => ?_)
  rw [nI_clamp (by omega)] at hS
  have hS : HS G s (uV (uM G V a1 A (nI m0) (nI ne) dy th qs (nI nk) hs hd pu_2 (pEnd (ln i) (po i) (cs i) fa (mak i) m0).2.2.2.2.1 nx_2 (if (pEnd (ln i) (po i) (cs i) fa (mak i) m0).1 = 6 then (pEnd (ln i) (po i) (cs i) fa (mak i) m0).2.2.2.1.toInt64 else an) g_2) 26 0 ((A 26), aI G 24 (upd msk i ((msk i) + ((pEnd (ln i) (po i) (cs i) fa (mak i) m0).2.2.2.2.1))))) H _ := hS
  refine lv_iload hx hb d_M_askedOf_20 (lv_at hl 0 rfl) ?_
  refine lv_if_ne (tgt := 31) hx hb d_M_askedOf_22 (by decide) (fun c_22 => ?_) (fun c_22 => absurd h6 (fun z => z ((mE_0 (pRun_an m0).2).mp c_22)))
  refine lv_aload_n hx hb d_M_askedOf_31 rfl (lv_at hl 1 rfl) ?_
  refine r_get (k := 20) (i := 0) F hS f_M_33.get (uV_self (uV V 37 0 ((A 37), aL G 8 g_2)) 20 0 (a1, oM A (nI m0) (nI ne) dy th qs (nI nk) hs hd pu_2 ((pEnd (ln i) (po i) (cs i) fa (mak i) m0).2.2.2.2.1) nx_2 (if (pEnd (ln i) (po i) (cs i) fa (mak i) m0).1 = 6 then (pEnd (ln i) (po i) (cs i) fa (mak i) m0).2.2.2.1.toInt64 else an))) rfl d_M_askedOf_32 ?_
  refine lv_iload_n hx hb d_M_askedOf_35 rfl (lv_at hl 4 rfl) ?_
  refine lv_dup2_11 hx hb d_M_askedOf_36 rfl rfl ?_
  refine r_iald (k := 27) (i := 0) F hS h27 (vp_in_nI (by omega) (by decide)) d_M_askedOf_37 ?_
  rw [nI_clamp (by omega)]
  refine lv_iconst (v := 1) hx hb d_M_askedOf_38 (by decide) ?_
  refine lv_iadd hx hb d_M_askedOf_39 ?_
  refine r_iast (k := 27) (i := 0) F hS h27 (vp_in_nI (by omega) (by decide)) d_M_askedOf_40 (fun H locs hS => ?_)
  rw [nI_clamp (by omega)] at hS
  have hS : HS G s (uV (uV (uM G V a1 A (nI m0) (nI ne) dy th qs (nI nk) hs hd pu_2 (pEnd (ln i) (po i) (cs i) fa (mak i) m0).2.2.2.2.1 nx_2 (if (pEnd (ln i) (po i) (cs i) fa (mak i) m0).1 = 6 then (pEnd (ln i) (po i) (cs i) fa (mak i) m0).2.2.2.1.toInt64 else an) g_2) 26 0 ((A 26), aI G 24 (upd msk i ((msk i) + ((pEnd (ln i) (po i) (cs i) fa (mak i) m0).2.2.2.2.1))))) 27 0 ((A 27), aI G 24 (upd mfk i ((mfk i) + 1)))) H _ := hS
  refine lv_aload_n hx hb d_M_askedOf_41 rfl (lv_at hl 1 rfl) ?_
  refine r_get (k := 20) (i := 0) F hS f_M_54.get (uV_self (uV V 37 0 ((A 37), aL G 8 g_2)) 20 0 (a1, oM A (nI m0) (nI ne) dy th qs (nI nk) hs hd pu_2 ((pEnd (ln i) (po i) (cs i) fa (mak i) m0).2.2.2.2.1) nx_2 (if (pEnd (ln i) (po i) (cs i) fa (mak i) m0).1 = 6 then (pEnd (ln i) (po i) (cs i) fa (mak i) m0).2.2.2.1.toInt64 else an))) rfl d_M_askedOf_42 ?_
  refine lv_bipush (v := 6) hx hb d_M_askedOf_45 (by decide) ?_
  refine lv_iload_n hx hb d_M_askedOf_47 rfl (lv_at hl 2 rfl) ?_
  refine lv_imul hx hb d_M_askedOf_48 ?_
  refine lv_iload hx hb d_M_askedOf_49 (lv_at hl 0 rfl) ?_
  refine lv_iadd hx hb d_M_askedOf_51 ?_
  rw [em, show (6 : Int32) * nI on + nI c9 = nI (6 * on + c9) from nI_ma 6 on c9]
  refine lv_dup2_11 hx hb d_M_askedOf_52 rfl rfl ?_
  refine r_iald (k := 34) (i := 0) F hS h34 (vp_in_nI (by omega) (by decide)) d_M_askedOf_53 ?_
  rw [nI_clamp (by omega)]
  refine lv_iconst (v := 1) hx hb d_M_askedOf_54 (by decide) ?_
  refine lv_iadd hx hb d_M_askedOf_55 ?_
  refine r_iast (k := 34) (i := 0) F hS h34 (vp_in_nI (by omega) (by decide)) d_M_askedOf_56 (fun H locs hS => ?_)
  rw [nI_clamp (by omega)] at hS
  have hS : HS G s (uV (uV (uV (uM G V a1 A (nI m0) (nI ne) dy th qs (nI nk) hs hd pu_2 (pEnd (ln i) (po i) (cs i) fa (mak i) m0).2.2.2.2.1 nx_2 (if (pEnd (ln i) (po i) (cs i) fa (mak i) m0).1 = 6 then (pEnd (ln i) (po i) (cs i) fa (mak i) m0).2.2.2.1.toInt64 else an) g_2) 26 0 ((A 26), aI G 24 (upd msk i ((msk i) + ((pEnd (ln i) (po i) (cs i) fa (mak i) m0).2.2.2.2.1))))) 27 0 ((A 27), aI G 24 (upd mfk i ((mfk i) + 1)))) 34 0 ((A 34), aI G 36 (upd fs (6 * on + c9) ((fs (6 * on + c9)) + 1)))) H _ := hS
  refine lv_aload_n hx hb d_M_askedOf_57 rfl (lv_at hl 1 rfl) ?_
  refine r_get (k := 20) (i := 0) F hS f_M_51.get (uV_self (uV V 37 0 ((A 37), aL G 8 g_2)) 20 0 (a1, oM A (nI m0) (nI ne) dy th qs (nI nk) hs hd pu_2 ((pEnd (ln i) (po i) (cs i) fa (mak i) m0).2.2.2.2.1) nx_2 (if (pEnd (ln i) (po i) (cs i) fa (mak i) m0).1 = 6 then (pEnd (ln i) (po i) (cs i) fa (mak i) m0).2.2.2.1.toInt64 else an))) rfl d_M_askedOf_58 ?_
  refine lv_iload_n hx hb d_M_askedOf_61 rfl (lv_at hl 3 rfl) ?_
  refine r_iald (k := 33) (i := 0) F hS h33 (vp_in_nI (by omega) (by decide)) d_M_askedOf_62 ?_
  rw [nI_clamp (by omega)]
  exact m_reti F hr hS (Nat.le_of_ble_eq_true rfl) (Nat.le_of_ble_eq_true rfl) ⟨pu_2, nx_2, g_2, rfl, rfl⟩ d_M_askedOf_63

def pTell (t : Nat) (ow ki dy ln md ak sk fk : Int32) : Int32 := if t = 0 then ow else if t = 1 then ki else if t = 2 then dy else if t = 3 then ln else if t = 4 then (if md = 0 then 0 else 1) else if t = 5 then ak else if t = 6 then sk else fk
set_option maxHeartbeats 4000000 in
set_option maxRecDepth 100000 in
theorem k_E_init (G : Gl) (l : Launch) (htr : l.stackTraces = false) (V : Vw) (i ea : Nat) (ow ki dy : Int32) (h1 : V 1 i = some (ea, .inr (2, [.int 0, .int 0, .int 0, .null, .null, .int 0, .int 0, .int 0, .int 0, .int 0]))) :
    Cm G l y_E_init b_E_init 4 none { frames := 1, cells := 2, slots := 32, locals := 12 } V [.ref ea, .int ow, .int ki, .int dy] (fun rv V' => rv = none ∧ ∃ oA cA : Nat, V' = uV (uV (uV V 2 i (oA, aI G 16 (fun _ => 0))) 3 i (cA, aI G 16 (fun _ => 0))) 1 i (ea, oE ow ki dy oA cA 0 0 0 0 0)) := by
  refine Cm.of htr (by decide) (Nat.le_of_ble_eq_true rfl) ?_
  intro p e s m args below meth c ls F hr hnm hS hl
  obtain ⟨hx, hb, hml, hown, hts, hK, hlk, -⟩ := id F
  have hl : lv_has ls 4 [(0, .ref ea), (1, .int ow), (2, .int ki), (3, .int dy)] := hl
  refine lv_aload_n hx hb d_E_init_0 rfl (lv_at hl 0 rfl) ?_
  refine W.objInit hx hb hown (hts _ m_304) (hts _ m_29) (hts _ m_30) rfl (by rw [hml]; exact hl.1) rfl d_E_init_1 (Nat.le_of_ble_eq_true rfl) (Nat.le_of_ble_eq_true rfl) ?_
  refine W.eq (g2 := F0 m 4 ls []) rfl ?_
  refine lv_aload_n hx hb d_E_init_4 rfl (lv_at hl 0 rfl) ?_
  refine lv_bipush (v := 16) hx hb d_E_init_5 (by decide) ?_
  refine r_newi F hS 2 i m_69 (N := 16) (by decide) (by decide) (by decide) (Nat.le_of_ble_eq_true rfl) (Nat.le_of_ble_eq_true rfl) d_E_init_7 (fun oA H hS => ?_)
  have hS : HS G s (uV V 2 i (oA, aI G 16 (fun _ => 0))) H _ := hS
  refine r_putF (k := 1) (i := i) F hS f_E_9 ct_E hnm h1 rfl rfl (Nat.le_of_ble_eq_true rfl) d_E_init_9 (fun H locs hS => ?_)
  have hS : HS G s (uV (uV V 2 i (oA, aI G 16 (fun _ => 0))) 1 i (ea, .inr (2, [.int 0, .int 0, .int 0, .ref oA, .null, .int 0, .int 0, .int 0, .int 0, .int 0]))) H _ := hS
  refine lv_aload_n hx hb d_E_init_12 rfl (lv_at hl 0 rfl) ?_
  refine lv_bipush (v := 16) hx hb d_E_init_13 (by decide) ?_
  refine r_newi F hS 3 i m_69 (N := 16) (by decide) (by decide) (by decide) (Nat.le_of_ble_eq_true rfl) (Nat.le_of_ble_eq_true rfl) d_E_init_15 (fun cA H hS => ?_)
  have hS : HS G s (uV (uV (uV V 2 i (oA, aI G 16 (fun _ => 0))) 1 i (ea, .inr (2, [.int 0, .int 0, .int 0, .ref oA, .null, .int 0, .int 0, .int 0, .int 0, .int 0]))) 3 i (cA, aI G 16 (fun _ => 0))) H _ := hS
  refine r_putF (k := 1) (i := i) F hS f_E_15 ct_E hnm (uV_self _ _ _ _) rfl rfl (Nat.le_of_ble_eq_true rfl) d_E_init_17 (fun H locs hS => ?_)
  have hS : HS G s (uV (uV (uV (uV V 2 i (oA, aI G 16 (fun _ => 0))) 1 i (ea, .inr (2, [.int 0, .int 0, .int 0, .ref oA, .null, .int 0, .int 0, .int 0, .int 0, .int 0]))) 3 i (cA, aI G 16 (fun _ => 0))) 1 i (ea, .inr (2, [.int 0, .int 0, .int 0, .ref oA, .ref cA, .int 0, .int 0, .int 0, .int 0, .int 0]))) H _ := hS
  refine lv_aload_n hx hb d_E_init_20 rfl (lv_at hl 0 rfl) ?_
  refine lv_iload_n hx hb d_E_init_21 rfl (lv_at hl 1 rfl) ?_
  refine r_putF (k := 1) (i := i) F hS f_E_18 ct_E hnm (uV_self _ _ _ _) rfl rfl (Nat.le_of_ble_eq_true rfl) d_E_init_22 (fun H locs hS => ?_)
  have hS : HS G s (uV (uV (uV (uV (uV V 2 i (oA, aI G 16 (fun _ => 0))) 1 i (ea, .inr (2, [.int 0, .int 0, .int 0, .ref oA, .null, .int 0, .int 0, .int 0, .int 0, .int 0]))) 3 i (cA, aI G 16 (fun _ => 0))) 1 i (ea, .inr (2, [.int 0, .int 0, .int 0, .ref oA, .ref cA, .int 0, .int 0, .int 0, .int 0, .int 0]))) 1 i (ea, .inr (2, [.int ow, .int 0, .int 0, .ref oA, .ref cA, .int 0, .int 0, .int 0, .int 0, .int 0]))) H _ := hS
  refine lv_aload_n hx hb d_E_init_25 rfl (lv_at hl 0 rfl) ?_
  refine lv_iload_n hx hb d_E_init_26 rfl (lv_at hl 2 rfl) ?_
  refine r_putF (k := 1) (i := i) F hS f_E_22 ct_E hnm (uV_self _ _ _ _) rfl rfl (Nat.le_of_ble_eq_true rfl) d_E_init_27 (fun H locs hS => ?_)
  have hS : HS G s (uV (uV (uV (uV (uV (uV V 2 i (oA, aI G 16 (fun _ => 0))) 1 i (ea, .inr (2, [.int 0, .int 0, .int 0, .ref oA, .null, .int 0, .int 0, .int 0, .int 0, .int 0]))) 3 i (cA, aI G 16 (fun _ => 0))) 1 i (ea, .inr (2, [.int 0, .int 0, .int 0, .ref oA, .ref cA, .int 0, .int 0, .int 0, .int 0, .int 0]))) 1 i (ea, .inr (2, [.int ow, .int 0, .int 0, .ref oA, .ref cA, .int 0, .int 0, .int 0, .int 0, .int 0]))) 1 i (ea, .inr (2, [.int ow, .int ki, .int 0, .ref oA, .ref cA, .int 0, .int 0, .int 0, .int 0, .int 0]))) H _ := hS
  refine lv_aload_n hx hb d_E_init_30 rfl (lv_at hl 0 rfl) ?_
  refine lv_iload_n hx hb d_E_init_31 rfl (lv_at hl 3 rfl) ?_
  refine r_putF (k := 1) (i := i) F hS f_E_25 ct_E hnm (uV_self _ _ _ _) rfl rfl (Nat.le_of_ble_eq_true rfl) d_E_init_32 (fun H locs hS => ?_)
  have hS : HS G s (uV (uV (uV (uV (uV (uV (uV V 2 i (oA, aI G 16 (fun _ => 0))) 1 i (ea, .inr (2, [.int 0, .int 0, .int 0, .ref oA, .null, .int 0, .int 0, .int 0, .int 0, .int 0]))) 3 i (cA, aI G 16 (fun _ => 0))) 1 i (ea, .inr (2, [.int 0, .int 0, .int 0, .ref oA, .ref cA, .int 0, .int 0, .int 0, .int 0, .int 0]))) 1 i (ea, .inr (2, [.int ow, .int 0, .int 0, .ref oA, .ref cA, .int 0, .int 0, .int 0, .int 0, .int 0]))) 1 i (ea, .inr (2, [.int ow, .int ki, .int 0, .ref oA, .ref cA, .int 0, .int 0, .int 0, .int 0, .int 0]))) 1 i (ea, .inr (2, [.int ow, .int ki, .int dy, .ref oA, .ref cA, .int 0, .int 0, .int 0, .int 0, .int 0]))) H _ := hS
  exact m_retv F hr hS (Nat.le_of_ble_eq_true rfl) (Nat.le_of_ble_eq_true rfl) ⟨rfl, oA, cA, by rw [uV_uV, uV_uV, uV_uV, uV_cm (k := 1) (k2 := 3) _ _ _ (by omega), uV_uV]⟩ d_E_init_35
set_option maxHeartbeats 4000000 in
set_option maxRecDepth 100000 in
theorem k_E_append (G : Gl) (l : Launch) (htr : l.stackTraces = false) (V : Vw) (i ea oA cA : Nat) (ow ki dy md ak sk fk : Int32) (ln : Nat) (po cs : Nat → Int32) (op cn : Int32) (hl16 : ln < 16) (h1 : V 1 i = some (ea, oE ow ki dy oA cA (nI ln) md ak sk fk)) (h2 : V 2 i = some (oA, aI G 16 po)) (h3 : V 3 i = some (cA, aI G 16 cs)) :
    Cm G l y_E_append b_E_append 3 none { frames := 0, cells := 0, slots := 0, locals := 0 } V [.ref ea, .int op, .int cn] (fun rv V' => rv = none ∧ V' = uV (uV (uV V 2 i (oA, aI G 16 (upd po ln op))) 3 i (cA, aI G 16 (upd cs ln cn))) 1 i (ea, oE ow ki dy oA cA (nI (ln + 1)) md ak sk fk)) := by
  refine Cm.of htr (by decide) (Nat.le_of_ble_eq_true rfl) ?_
  intro p e s m args below meth c ls F hr hnm hS hl
  obtain ⟨hx, hb, hml, hown, hts, hK, hlk, -⟩ := id F
  have hl : lv_has ls 3 [(0, .ref ea), (1, .int op), (2, .int cn)] := hl
  refine lv_aload_n hx hb d_E_append_0 rfl (lv_at hl 0 rfl) ?_
  refine r_get (k := 1) (i := i) F hS f_E_28.get h1 rfl d_E_append_1 ?_
  refine lv_bipush (v := 16) hx hb d_E_append_4 (by decide) ?_
  refine lv_icmp_ge (tgt := 39) hx hb d_E_append_6 (by decide) (fun c_6 => absurd c_6 (nI_ge (a := ln) (b := 16) hl16 (by decide))) (fun c_6 => ?_)
  refine lv_aload_n hx hb d_E_append_9 rfl (lv_at hl 0 rfl) ?_
  refine r_get (k := 1) (i := i) F hS f_E_9.get h1 rfl d_E_append_10 ?_
  refine lv_aload_n hx hb d_E_append_13 rfl (lv_at hl 0 rfl) ?_
  refine r_get (k := 1) (i := i) F hS f_E_28.get h1 rfl d_E_append_14 ?_
  refine lv_iload_n hx hb d_E_append_17 rfl (lv_at hl 1 rfl) ?_
  refine r_iast (k := 2) (i := i) F hS h2 (vp_in_nI hl16 (by decide)) d_E_append_18 (fun H locs hS => ?_)
  rw [nI_clamp (by omega)] at hS
  have hS : HS G s (uV V 2 i (oA, aI G 16 (upd po ln op))) H _ := hS
  refine lv_aload_n hx hb d_E_append_19 rfl (lv_at hl 0 rfl) ?_
  refine r_get (k := 1) (i := i) F hS f_E_15.get h1 rfl d_E_append_20 ?_
  refine lv_aload_n hx hb d_E_append_23 rfl (lv_at hl 0 rfl) ?_
  refine r_get (k := 1) (i := i) F hS f_E_28.get h1 rfl d_E_append_24 ?_
  refine lv_iload_n hx hb d_E_append_27 rfl (lv_at hl 2 rfl) ?_
  refine r_iast (k := 3) (i := i) F hS h3 (vp_in_nI hl16 (by decide)) d_E_append_28 (fun H locs hS => ?_)
  rw [nI_clamp (by omega)] at hS
  have hS : HS G s (uV (uV V 2 i (oA, aI G 16 (upd po ln op))) 3 i (cA, aI G 16 (upd cs ln cn))) H _ := hS
  refine lv_aload_n hx hb d_E_append_29 rfl (lv_at hl 0 rfl) ?_
  refine lv_dup hx hb d_E_append_30 rfl ?_
  refine r_get (k := 1) (i := i) F hS f_E_28.get h1 rfl d_E_append_31 ?_
  refine lv_iconst (v := 1) hx hb d_E_append_34 (by decide) ?_
  refine lv_iadd hx hb d_E_append_35 ?_
  rw [nI_1]
  refine r_put (k := 1) (i := i) F hS f_E_28 ct_E h1 rfl rfl (Nat.le_of_ble_eq_true rfl) d_E_append_36 (fun H locs hS => ?_)
  have hS : HS G s (uV (uV (uV V 2 i (oA, aI G 16 (upd po ln op))) 3 i (cA, aI G 16 (upd cs ln cn))) 1 i (ea, oE ow ki dy oA cA (nI (ln + 1)) md ak sk fk)) H _ := hS
  exact m_retv F hr hS (Nat.le_of_ble_eq_true rfl) (Nat.le_of_ble_eq_true rfl) ⟨rfl, rfl⟩ d_E_append_39
set_option maxHeartbeats 4000000 in
set_option maxRecDepth 100000 in
theorem k_E_countsFor (G : Gl) (l : Launch) (htr : l.stackTraces = false) (V : Vw) (i ea oA cA : Nat) (ow ki dy md ak sk fk : Int32) (ln : Nat) (a0 k0 d0 : Int32) (h1 : V 1 i = some (ea, oE ow ki dy oA cA (nI ln) md ak sk fk)) :
    Cm G l y_E_countsFor b_E_countsFor 4 (Option.some Jvm.ClassFile.FieldType.boolean) { frames := 0, cells := 0, slots := 0, locals := 0 } V [.ref ea, .int a0, .int k0, .int d0] (fun rv V' => rv = some (.int (if ¬ md = 0 ∧ ow = a0 ∧ ki = k0 ∧ dy ≤ d0 then 1 else 0)) ∧ V' = V) := by
  refine Cm.of htr (by decide) (Nat.le_of_ble_eq_true rfl) ?_
  intro p e s m args below meth c ls F hr hnm hS hl
  obtain ⟨hx, hb, hml, hown, hts, hK, hlk, -⟩ := id F
  have hl : lv_has ls 4 [(0, .ref ea), (1, .int a0), (2, .int k0), (3, .int d0)] := hl
  refine lv_aload_n hx hb d_E_countsFor_0 rfl (lv_at hl 0 rfl) ?_
  refine r_get (k := 1) (i := i) F hS f_E_31.get h1 rfl d_E_countsFor_1 ?_
  refine lv_if_eq (tgt := 35) hx hb d_E_countsFor_4 (by decide) (fun c_4 => ?_) (fun c_4 => ?_)
  · refine lv_iconst (v := 0) hx hb d_E_countsFor_35 (by decide) ?_
    exact m_retz F hr hS (Nat.le_of_ble_eq_true rfl) (Nat.le_of_ble_eq_true rfl) rfl ⟨by rw [if_neg (fun z => z.1 c_4)], rfl⟩ d_E_countsFor_36
  · refine lv_aload_n hx hb d_E_countsFor_7 rfl (lv_at hl 0 rfl) ?_
    refine r_get (k := 1) (i := i) F hS f_E_18.get h1 rfl d_E_countsFor_8 ?_
    refine lv_iload_n hx hb d_E_countsFor_11 rfl (lv_at hl 1 rfl) ?_
    refine lv_icmp_ne (tgt := 35) hx hb d_E_countsFor_12 (by decide) (fun c_12 => ?_) (fun c_12 => ?_)
    · refine lv_iconst (v := 0) hx hb d_E_countsFor_35 (by decide) ?_
      exact m_retz F hr hS (Nat.le_of_ble_eq_true rfl) (Nat.le_of_ble_eq_true rfl) rfl ⟨by rw [if_neg (fun z => c_12 z.2.1)], rfl⟩ d_E_countsFor_36
    · refine lv_aload_n hx hb d_E_countsFor_15 rfl (lv_at hl 0 rfl) ?_
      refine r_get (k := 1) (i := i) F hS f_E_22.get h1 rfl d_E_countsFor_16 ?_
      refine lv_iload_n hx hb d_E_countsFor_19 rfl (lv_at hl 2 rfl) ?_
      refine lv_icmp_ne (tgt := 35) hx hb d_E_countsFor_20 (by decide) (fun c_20 => ?_) (fun c_20 => ?_)
      · refine lv_iconst (v := 0) hx hb d_E_countsFor_35 (by decide) ?_
        exact m_retz F hr hS (Nat.le_of_ble_eq_true rfl) (Nat.le_of_ble_eq_true rfl) rfl ⟨by rw [if_neg (fun z => c_20 z.2.2.1)], rfl⟩ d_E_countsFor_36
      · refine lv_aload_n hx hb d_E_countsFor_23 rfl (lv_at hl 0 rfl) ?_
        refine r_get (k := 1) (i := i) F hS f_E_25.get h1 rfl d_E_countsFor_24 ?_
        refine lv_iload_n hx hb d_E_countsFor_27 rfl (lv_at hl 3 rfl) ?_
        refine lv_icmp_gt (tgt := 35) hx hb d_E_countsFor_28 (by decide) (fun c_28 => ?_) (fun c_28 => ?_)
        · refine lv_iconst (v := 0) hx hb d_E_countsFor_35 (by decide) ?_
          exact m_retz F hr hS (Nat.le_of_ble_eq_true rfl) (Nat.le_of_ble_eq_true rfl) rfl ⟨by rw [if_neg (fun z => absurd c_28 (Int32.not_lt.mpr z.2.2.2))], rfl⟩ d_E_countsFor_36
        · refine lv_iconst (v := 1) hx hb d_E_countsFor_31 (by decide) ?_
          refine lv_goto (tgt := 36) hx hb d_E_countsFor_32 (by decide) ?_
          exact m_retz F hr hS (Nat.le_of_ble_eq_true rfl) (Nat.le_of_ble_eq_true rfl) rfl ⟨by rw [if_pos ⟨c_4, c_12, c_20, Int32.not_lt.mp c_28⟩], rfl⟩ d_E_countsFor_36
set_option maxHeartbeats 4000000 in
set_option maxRecDepth 100000 in
theorem k_E_noteQuestion (G : Gl) (l : Launch) (htr : l.stackTraces = false) (V : Vw) (i ea oA cA : Nat) (ow ki dy md ak sk fk : Int32) (ln : Nat) (b r sA : Nat) (mo hx0 nx oc an st : Int32) (h1 : V 1 i = some (ea, oE ow ki dy oA cA (nI ln) md ak sk fk)) (h4 : V 4 b = some (r, oU sA mo hx0 nx oc an st)) :
    Cm G l y_E_noteQuestion b_E_noteQuestion 2 none { frames := 0, cells := 0, slots := 0, locals := 0 } V [.ref ea, .ref r] (fun rv V' => rv = none ∧ V' = uV V 1 i (ea, oE ow ki dy oA cA (nI ln) md (ak + 1) (sk + st) (if oc = 6 then fk else fk + 1))) := by
  refine Cm.of htr (by decide) (Nat.le_of_ble_eq_true rfl) ?_
  intro p e s m args below meth c ls F hr hnm hS hl
  obtain ⟨hx, hb, hml, hown, hts, hK, hlk, -⟩ := id F
  have hl : lv_has ls 2 [(0, .ref ea), (1, .ref r)] := hl
  refine lv_aload_n hx hb d_E_noteQuestion_0 rfl (lv_at hl 0 rfl) ?_
  refine lv_dup hx hb d_E_noteQuestion_1 rfl ?_
  refine r_get (k := 1) (i := i) F hS f_E_35.get h1 rfl d_E_noteQuestion_2 ?_
  refine lv_iconst (v := 1) hx hb d_E_noteQuestion_5 (by decide) ?_
  refine lv_iadd hx hb d_E_noteQuestion_6 ?_
  refine r_put (k := 1) (i := i) F hS f_E_35 ct_E h1 rfl rfl (Nat.le_of_ble_eq_true rfl) d_E_noteQuestion_7 (fun H locs hS => ?_)
  have hS : HS G s (uV V 1 i (ea, oE ow ki dy oA cA (nI ln) md (ak + 1) sk fk)) H _ := hS
  refine lv_aload_n hx hb d_E_noteQuestion_10 rfl (lv_at hl 0 rfl) ?_
  refine lv_dup hx hb d_E_noteQuestion_11 rfl ?_
  refine r_get (k := 1) (i := i) F hS f_E_38.get (uV_self _ _ _ _) rfl d_E_noteQuestion_12 ?_
  refine lv_aload_n hx hb d_E_noteQuestion_15 rfl (lv_at hl 1 rfl) ?_
  refine r_get (k := 4) (i := b) F hS f_E_41.get h4 rfl d_E_noteQuestion_16 ?_
  refine lv_iadd hx hb d_E_noteQuestion_19 ?_
  refine r_put (k := 1) (i := i) F hS f_E_38 ct_E (uV_self _ _ _ _) rfl rfl (Nat.le_of_ble_eq_true rfl) d_E_noteQuestion_20 (fun H locs hS => ?_)
  have hS : HS G s (uV (uV V 1 i (ea, oE ow ki dy oA cA (nI ln) md (ak + 1) sk fk)) 1 i (ea, oE ow ki dy oA cA (nI ln) md (ak + 1) (sk + st) fk)) H _ := hS
  refine lv_aload_n hx hb d_E_noteQuestion_23 rfl (lv_at hl 1 rfl) ?_
  refine r_get (k := 4) (i := b) F hS f_E_46.get h4 rfl d_E_noteQuestion_24 ?_
  refine lv_bipush (v := 6) hx hb d_E_noteQuestion_27 (by decide) ?_
  refine lv_icmp_eq (tgt := 42) hx hb d_E_noteQuestion_29 (by decide) (fun c_29 => ?_) (fun c_29 => ?_)
  · exact m_retv F hr hS (Nat.le_of_ble_eq_true rfl) (Nat.le_of_ble_eq_true rfl) ⟨rfl, by rw [uV_uV, if_pos c_29]⟩ d_E_noteQuestion_42
  · refine lv_aload_n hx hb d_E_noteQuestion_32 rfl (lv_at hl 0 rfl) ?_
    refine lv_dup hx hb d_E_noteQuestion_33 rfl ?_
    refine r_get (k := 1) (i := i) F hS f_E_49.get (uV_self _ _ _ _) rfl d_E_noteQuestion_34 ?_
    refine lv_iconst (v := 1) hx hb d_E_noteQuestion_37 (by decide) ?_
    refine lv_iadd hx hb d_E_noteQuestion_38 ?_
    refine r_put (k := 1) (i := i) F hS f_E_49 ct_E (uV_self _ _ _ _) rfl rfl (Nat.le_of_ble_eq_true rfl) d_E_noteQuestion_39 (fun H locs hS => ?_)
    have hS : HS G s (uV (uV (uV V 1 i (ea, oE ow ki dy oA cA (nI ln) md (ak + 1) sk fk)) 1 i (ea, oE ow ki dy oA cA (nI ln) md (ak + 1) (sk + st) fk)) 1 i (ea, oE ow ki dy oA cA (nI ln) md (ak + 1) (sk + st) (fk + 1))) H _ := hS
    exact m_retv F hr hS (Nat.le_of_ble_eq_true rfl) (Nat.le_of_ble_eq_true rfl) ⟨rfl, by rw [uV_uV, uV_uV, if_neg c_29]⟩ d_E_noteQuestion_42
set_option maxHeartbeats 4000000 in
set_option maxRecDepth 100000 in
theorem k_E_tell (G : Gl) (l : Launch) (htr : l.stackTraces = false) (V : Vw) (i ea oA cA : Nat) (ow ki dy md ak sk fk : Int32) (ln : Nat) (t : Nat) (ht : t ≤ 7) (h1 : V 1 i = some (ea, oE ow ki dy oA cA (nI ln) md ak sk fk)) :
    Cm G l y_E_tell b_E_tell 2 (Option.some Jvm.ClassFile.FieldType.int) { frames := 0, cells := 0, slots := 0, locals := 0 } V [.ref ea, .int (nI t)] (fun rv V' => rv = some (.int (pTell t ow ki dy (nI ln) md ak sk fk)) ∧ V' = V) := by
  refine Cm.of htr (by decide) (Nat.le_of_ble_eq_true rfl) ?_
  intro p e s m args below meth c ls F hr hnm hS hl
  obtain ⟨hx, hb, hml, hown, hts, hK, hlk, -⟩ := id F
  have hl : lv_has ls 2 [(0, .ref ea), (1, .int (nI t))] := hl
  refine lv_iload_n hx hb d_E_tell_0 rfl (lv_at hl 1 rfl) ?_
  rcases (show t = 0 ∨ t = 1 ∨ t = 2 ∨ t = 3 ∨ t = 4 ∨ t = 5 ∨ t = 6 ∨ t = 7 by omega) with rfl | rfl | rfl | rfl | rfl | rfl | rfl | rfl
  · refine lv_tableIn (tgt := 44) (off := 43) hx hb d_E_tell_1 (by decide) (by decide) (by decide) (by decide) ?_
    refine lv_aload_n hx hb d_E_tell_44 rfl (lv_at hl 0 rfl) ?_
    refine r_get (k := 1) (i := i) F hS f_E_18.get h1 rfl d_E_tell_45 ?_
    exact m_reti F hr hS (Nat.le_of_ble_eq_true rfl) (Nat.le_of_ble_eq_true rfl) ⟨rfl, rfl⟩ d_E_tell_48
  · refine lv_tableIn (tgt := 49) (off := 48) hx hb d_E_tell_1 (by decide) (by decide) (by decide) (by decide) ?_
    refine lv_aload_n hx hb d_E_tell_49 rfl (lv_at hl 0 rfl) ?_
    refine r_get (k := 1) (i := i) F hS f_E_22.get h1 rfl d_E_tell_50 ?_
    exact m_reti F hr hS (Nat.le_of_ble_eq_true rfl) (Nat.le_of_ble_eq_true rfl) ⟨rfl, rfl⟩ d_E_tell_53
  · refine lv_tableIn (tgt := 54) (off := 53) hx hb d_E_tell_1 (by decide) (by decide) (by decide) (by decide) ?_
    refine lv_aload_n hx hb d_E_tell_54 rfl (lv_at hl 0 rfl) ?_
    refine r_get (k := 1) (i := i) F hS f_E_25.get h1 rfl d_E_tell_55 ?_
    exact m_reti F hr hS (Nat.le_of_ble_eq_true rfl) (Nat.le_of_ble_eq_true rfl) ⟨rfl, rfl⟩ d_E_tell_58
  · refine lv_tableIn (tgt := 59) (off := 58) hx hb d_E_tell_1 (by decide) (by decide) (by decide) (by decide) ?_
    refine lv_aload_n hx hb d_E_tell_59 rfl (lv_at hl 0 rfl) ?_
    refine r_get (k := 1) (i := i) F hS f_E_28.get h1 rfl d_E_tell_60 ?_
    exact m_reti F hr hS (Nat.le_of_ble_eq_true rfl) (Nat.le_of_ble_eq_true rfl) ⟨rfl, rfl⟩ d_E_tell_63
  · refine lv_tableIn (tgt := 64) (off := 63) hx hb d_E_tell_1 (by decide) (by decide) (by decide) (by decide) ?_
    refine lv_aload_n hx hb d_E_tell_64 rfl (lv_at hl 0 rfl) ?_
    refine r_get (k := 1) (i := i) F hS f_E_31.get h1 rfl d_E_tell_65 ?_
    refine lv_if_eq (tgt := 75) hx hb d_E_tell_68 (by decide) (fun c_68 => ?_) (fun c_68 => ?_)
    · refine lv_iconst (v := 0) hx hb d_E_tell_75 (by decide) ?_
      exact m_reti F hr hS (Nat.le_of_ble_eq_true rfl) (Nat.le_of_ble_eq_true rfl) ⟨by show _ = some (Value.int (if md = 0 then 0 else 1)); rw [if_pos c_68], rfl⟩ d_E_tell_76
    · refine lv_iconst (v := 1) hx hb d_E_tell_71 (by decide) ?_
      refine lv_goto (tgt := 76) hx hb d_E_tell_72 (by decide) ?_
      exact m_reti F hr hS (Nat.le_of_ble_eq_true rfl) (Nat.le_of_ble_eq_true rfl) ⟨by show _ = some (Value.int (if md = 0 then 0 else 1)); rw [if_neg c_68], rfl⟩ d_E_tell_76
  · refine lv_tableIn (tgt := 77) (off := 76) hx hb d_E_tell_1 (by decide) (by decide) (by decide) (by decide) ?_
    refine lv_aload_n hx hb d_E_tell_77 rfl (lv_at hl 0 rfl) ?_
    refine r_get (k := 1) (i := i) F hS f_E_35.get h1 rfl d_E_tell_78 ?_
    exact m_reti F hr hS (Nat.le_of_ble_eq_true rfl) (Nat.le_of_ble_eq_true rfl) ⟨rfl, rfl⟩ d_E_tell_81
  · refine lv_tableIn (tgt := 82) (off := 81) hx hb d_E_tell_1 (by decide) (by decide) (by decide) (by decide) ?_
    refine lv_aload_n hx hb d_E_tell_82 rfl (lv_at hl 0 rfl) ?_
    refine r_get (k := 1) (i := i) F hS f_E_38.get h1 rfl d_E_tell_83 ?_
    exact m_reti F hr hS (Nat.le_of_ble_eq_true rfl) (Nat.le_of_ble_eq_true rfl) ⟨rfl, rfl⟩ d_E_tell_86
  · refine lv_tableOut (tgt := 87) hx hb d_E_tell_1 (by decide) (by decide) ?_
    refine lv_aload_n hx hb d_E_tell_87 rfl (lv_at hl 0 rfl) ?_
    refine r_get (k := 1) (i := i) F hS f_E_49.get h1 rfl d_E_tell_88 ?_
    exact m_reti F hr hS (Nat.le_of_ble_eq_true rfl) (Nat.le_of_ble_eq_true rfl) ⟨rfl, rfl⟩ d_E_tell_91
set_option maxHeartbeats 4000000 in
set_option maxRecDepth 100000 in
theorem lp_E_hasCodeOf (G : Gl) (l : Launch) (V : Vw) (i ea oA cA : Nat) (ow ki dy md ak sk fk : Int32) (ln : Nat) (po cs : Nat → Int32) (i2 ea2 oA2 cA2 : Nat) (ow2 ki2 dy2 md2 ak2 sk2 fk2 : Int32) (po2 cs2 : Nat → Int32) (hln : ln ≤ 16) (h1 : V 1 i = some (ea, oE ow ki dy oA cA (nI ln) md ak sk fk)) (h2 : V 2 i = some (oA, aI G 16 po)) (h3 : V 3 i = some (cA, aI G 16 cs)) (g1 : V 1 i2 = some (ea2, oE ow2 ki2 dy2 oA2 cA2 (nI ln) md2 ak2 sk2 fk2)) (g2 : V 2 i2 = some (oA2, aI G 16 po2)) (g3 : V 3 i2 = some (cA2, aI G 16 cs2)) {Rt : Option Value → Vw → Prop} {p : Program} {e : Env} {s : State} {m : MethodId} {args : Array Value} {below : List Frame} {meth : Method} {c : Code} (F : Bd G p l s m args meth c b_E_hasCodeOf 3 "RuleClasses$Edition") (hr : meth.sig.returnType = some .boolean) (hq : Rt (some (.int (@ite Int32 (∀ a, a < ln → po a = po2 a ∧ cs a = cs2 a) (Classical.propDecidable _) 1 0))) V) :
    ∀ (n k : Nat), k + n = ln → (∀ a, a < k → po a = po2 a ∧ cs a = cs2 a) → ∀ (H : Heap) (locs : List Loc) (ls : Array Slot), HS G s V H locs → lv_has ls 3 [(0, .ref ea), (1, .ref ea2), (2, .int (nI k))] →
      W p l e ({ frames := 0, cells := 0, slots := 0, locals := 0 } : Room) s m args below meth c H locs 0 0 (MQ below (QcC G Rt) args s ({ frames := 0, cells := 0, slots := 0, locals := 0 } : Room).cells ({ frames := 0, cells := 0, slots := 0, locals := 0 } : Room).slots (aB G)) (F0 m 15 ls []) := by
  obtain ⟨hx, hb, hml, hown, hts, hK, hlk, -⟩ := id F
  intro n
  induction n with
  | zero =>
    intro k hkn hd H locs ls hS hl
    refine lv_iload_n hx hb d_E_hasCodeOf_15 rfl (lv_at hl 2 rfl) ?_
    refine lv_aload_n hx hb d_E_hasCodeOf_16 rfl (lv_at hl 0 rfl) ?_
    refine r_get (k := 1) (i := i) F hS f_E_28.get h1 rfl d_E_hasCodeOf_17 ?_
    refine lv_icmp_ge (tgt := 61) hx hb d_E_hasCodeOf_20 (by decide) (fun c_20 => ?_) (fun c_20 => absurd (nI_le (by omega) (by omega)) c_20)
    refine lv_iconst (v := 1) hx hb d_E_hasCodeOf_61 (by decide) ?_
    exact m_retz F hr hS (Nat.le_of_ble_eq_true rfl) (Nat.le_of_ble_eq_true rfl) rfl (by rw [if_pos (fun a ha => hd a (by omega))] at hq; exact hq) d_E_hasCodeOf_62
  | succ n ih =>
    intro k hkn hd H locs ls hS hl
    refine lv_iload_n hx hb d_E_hasCodeOf_15 rfl (lv_at hl 2 rfl) ?_
    refine lv_aload_n hx hb d_E_hasCodeOf_16 rfl (lv_at hl 0 rfl) ?_
    refine r_get (k := 1) (i := i) F hS f_E_28.get h1 rfl d_E_hasCodeOf_17 ?_
    refine lv_icmp_ge (tgt := 61) hx hb d_E_hasCodeOf_20 (by decide) (fun c_20 => absurd c_20 (nI_ge (by omega) (by omega))) (fun c_20 => ?_)
    refine lv_aload_n hx hb d_E_hasCodeOf_23 rfl (lv_at hl 0 rfl) ?_
    refine r_get (k := 1) (i := i) F hS f_E_9.get h1 rfl d_E_hasCodeOf_24 ?_
    refine lv_iload_n hx hb d_E_hasCodeOf_27 rfl (lv_at hl 2 rfl) ?_
    refine r_iald (k := 2) (i := i) F hS h2 (vp_in_nI (by omega) (by decide)) d_E_hasCodeOf_28 ?_
    rw [nI_clamp (by omega)]
    refine lv_aload_n hx hb d_E_hasCodeOf_29 rfl (lv_at hl 1 rfl) ?_
    refine r_get (k := 1) (i := i2) F hS f_E_9.get g1 rfl d_E_hasCodeOf_30 ?_
    refine lv_iload_n hx hb d_E_hasCodeOf_33 rfl (lv_at hl 2 rfl) ?_
    refine r_iald (k := 2) (i := i2) F hS g2 (vp_in_nI (by omega) (by decide)) d_E_hasCodeOf_34 ?_
    rw [nI_clamp (by omega)]
    refine lv_icmp_ne (tgt := 53) hx hb d_E_hasCodeOf_35 (by decide) (fun c_35 => ?_) (fun c_35 => ?_)
    · refine lv_iconst (v := 0) hx hb d_E_hasCodeOf_53 (by decide) ?_
      refine m_retz F hr hS (Nat.le_of_ble_eq_true rfl) (Nat.le_of_ble_eq_true rfl) rfl ?_ d_E_hasCodeOf_54
      rw [if_neg (fun z => c_35 (z k (by omega)).1)] at hq
      exact hq
    · refine lv_aload_n hx hb d_E_hasCodeOf_38 rfl (lv_at hl 0 rfl) ?_
      refine r_get (k := 1) (i := i) F hS f_E_15.get h1 rfl d_E_hasCodeOf_39 ?_
      refine lv_iload_n hx hb d_E_hasCodeOf_42 rfl (lv_at hl 2 rfl) ?_
      refine r_iald (k := 3) (i := i) F hS h3 (vp_in_nI (by omega) (by decide)) d_E_hasCodeOf_43 ?_
      rw [nI_clamp (by omega)]
      refine lv_aload_n hx hb d_E_hasCodeOf_44 rfl (lv_at hl 1 rfl) ?_
      refine r_get (k := 1) (i := i2) F hS f_E_15.get g1 rfl d_E_hasCodeOf_45 ?_
      refine lv_iload_n hx hb d_E_hasCodeOf_48 rfl (lv_at hl 2 rfl) ?_
      refine r_iald (k := 3) (i := i2) F hS g3 (vp_in_nI (by omega) (by decide)) d_E_hasCodeOf_49 ?_
      rw [nI_clamp (by omega)]
      refine lv_icmp_eq (tgt := 55) hx hb d_E_hasCodeOf_50 (by decide) (fun c_50 => ?_) (fun c_50 => ?_)
      · refine lv_iinc (v := (nI (k + 1))) (lv' := [(2, .int (nI (k + 1))), (0, .ref ea), (1, .ref ea2)]) hx hb d_E_hasCodeOf_55 hl (k := 2) rfl (nI_1 k) (by decide) rfl (fun ls hl => ?_)
        refine lv_goto (tgt := 15) hx hb d_E_hasCodeOf_58 (by decide) ?_
        exact ih (k + 1) (by omega) (lt_s hd ⟨c_35, c_50⟩) _ _ _ hS (lv_sub hl [1, 2, 0] rfl)
      · refine lv_iconst (v := 0) hx hb d_E_hasCodeOf_53 (by decide) ?_
        refine m_retz F hr hS (Nat.le_of_ble_eq_true rfl) (Nat.le_of_ble_eq_true rfl) rfl ?_ d_E_hasCodeOf_54
        rw [if_neg (fun z => c_50 (z k (by omega)).2)] at hq
        exact hq
set_option maxHeartbeats 4000000 in
set_option maxRecDepth 100000 in
theorem k_E_hasCodeOf (G : Gl) (l : Launch) (htr : l.stackTraces = false) (V : Vw) (i ea oA cA : Nat) (ow ki dy md ak sk fk : Int32) (ln : Nat) (po cs : Nat → Int32) (i2 ea2 oA2 cA2 : Nat) (ow2 ki2 dy2 md2 ak2 sk2 fk2 : Int32) (po2 cs2 : Nat → Int32) (ln2 : Nat) (hln : ln ≤ 16) (hln2 : ln2 ≤ 16) (h1 : V 1 i = some (ea, oE ow ki dy oA cA (nI ln) md ak sk fk)) (h2 : V 2 i = some (oA, aI G 16 po)) (h3 : V 3 i = some (cA, aI G 16 cs)) (g1 : V 1 i2 = some (ea2, oE ow2 ki2 dy2 oA2 cA2 (nI ln2) md2 ak2 sk2 fk2)) (g2 : V 2 i2 = some (oA2, aI G 16 po2)) (g3 : V 3 i2 = some (cA2, aI G 16 cs2)) :
    Cm G l y_E_hasCodeOf b_E_hasCodeOf 3 (Option.some Jvm.ClassFile.FieldType.boolean) { frames := 0, cells := 0, slots := 0, locals := 0 } V [.ref ea, .ref ea2] (fun rv V' => rv = some (.int (@ite Int32 (ln = ln2 ∧ (∀ a, a < ln → po a = po2 a ∧ cs a = cs2 a)) (Classical.propDecidable _) 1 0)) ∧ V' = V) := by
  refine Cm.of htr (by decide) (Nat.le_of_ble_eq_true rfl) ?_
  intro p e s m args below meth c ls F hr hnm hS hl
  obtain ⟨hx, hb, hml, hown, hts, hK, hlk, -⟩ := id F
  have hl : lv_has ls 3 [(0, .ref ea), (1, .ref ea2)] := hl
  refine lv_aload_n hx hb d_E_hasCodeOf_0 rfl (lv_at hl 0 rfl) ?_
  refine r_get (k := 1) (i := i) F hS f_E_28.get h1 rfl d_E_hasCodeOf_1 ?_
  refine lv_aload_n hx hb d_E_hasCodeOf_4 rfl (lv_at hl 1 rfl) ?_
  refine r_get (k := 1) (i := i2) F hS f_E_28.get g1 rfl d_E_hasCodeOf_5 ?_
  refine lv_icmp_eq (tgt := 13) hx hb d_E_hasCodeOf_8 (by decide) (fun c_8 => ?_) (fun c_8 => ?_)
  · have hll : ln = ln2 := (nI_eq (by omega) (by omega)).mp c_8
    subst hll
    refine lv_iconst (v := 0) hx hb d_E_hasCodeOf_13 (by decide) ?_
    refine lv_istore_n (lv' := [(2, .int 0), (0, .ref ea), (1, .ref ea2)]) hx hb d_E_hasCodeOf_14 rfl hl (by decide) rfl (fun ls hl => ?_)
    refine lp_E_hasCodeOf G l V i ea oA cA ow ki dy md ak sk fk ln po cs i2 ea2 oA2 cA2 ow2 ki2 dy2 md2 ak2 sk2 fk2 po2 cs2 hln h1 h2 h3 g1 g2 g3 F hr ?_ ln 0 (by omega) (fun a ha => absurd ha (by omega)) _ _ _ hS (lv_sub hl [1, 2, 0] rfl)
    refine ⟨?_, rfl⟩
    by_cases hz : (∀ a, a < ln → po a = po2 a ∧ cs a = cs2 a)
    · rw [if_pos hz, if_pos ⟨rfl, hz⟩]
    · rw [if_neg hz, if_neg (fun z => hz z.2)]
  · have hll : ¬ ln = ln2 := fun z => c_8 (by rw [z])
    refine lv_iconst (v := 0) hx hb d_E_hasCodeOf_11 (by decide) ?_
    exact m_retz F hr hS (Nat.le_of_ble_eq_true rfl) (Nat.le_of_ble_eq_true rfl) rfl ⟨by rw [if_neg (fun z => hll z.1)], rfl⟩ d_E_hasCodeOf_12
set_option maxHeartbeats 4000000 in
set_option maxRecDepth 100000 in
theorem k_F_init (G : Gl) (l : Launch) (htr : l.stackTraces = false) (V : Vw) (j fA : Nat) (h6 : V 6 j = some (fA, .inr (3, [.null]))) :
    Cm G l y_F_init b_F_init 1 none { frames := 1, cells := 1, slots := 8, locals := 12 } V [.ref fA] (fun rv V' => rv = none ∧ ∃ vA : Nat, V' = uV (uV V 7 j (vA, aI G 8 (fun _ => 0))) 6 j (fA, oF vA)) := by
  refine Cm.of htr (by decide) (Nat.le_of_ble_eq_true rfl) ?_
  intro p e s m args below meth c ls F hr hnm hS hl
  obtain ⟨hx, hb, hml, hown, hts, hK, hlk, -⟩ := id F
  have hl : lv_has ls 1 [(0, .ref fA)] := hl
  refine lv_aload_n hx hb d_F_init_0 rfl (lv_at hl 0 rfl) ?_
  refine W.objInit hx hb hown (hts _ m_62) (hts _ m_29) (hts _ m_30) rfl (by rw [hml]; exact hl.1) rfl d_F_init_1 (Nat.le_of_ble_eq_true rfl) (Nat.le_of_ble_eq_true rfl) ?_
  refine W.eq (g2 := F0 m 4 ls []) rfl ?_
  refine lv_aload_n hx hb d_F_init_4 rfl (lv_at hl 0 rfl) ?_
  refine lv_bipush (v := 8) hx hb d_F_init_5 (by decide) ?_
  refine r_newi F hS 7 j m_69 (N := 8) (by decide) (by decide) (by decide) (Nat.le_of_ble_eq_true rfl) (Nat.le_of_ble_eq_true rfl) d_F_init_7 (fun vA H hS => ?_)
  have hS : HS G s (uV V 7 j (vA, aI G 8 (fun _ => 0))) H _ := hS
  refine r_putF (k := 6) (i := j) F hS f_F_9 ct_F hnm h6 rfl rfl (Nat.le_of_ble_eq_true rfl) d_F_init_9 (fun H locs hS => ?_)
  have hS : HS G s (uV (uV V 7 j (vA, aI G 8 (fun _ => 0))) 6 j (fA, .inr (3, [.ref vA]))) H _ := hS
  exact m_retv F hr hS (Nat.le_of_ble_eq_true rfl) (Nat.le_of_ble_eq_true rfl) ⟨rfl, vA, rfl⟩ d_F_init_12
set_option maxHeartbeats 4000000 in
set_option maxRecDepth 100000 in
theorem k_U_init (G : Gl) (l : Launch) (htr : l.stackTraces = false) (V : Vw) (b r : Nat) (mo : Int32) (h4 : V 4 b = some (r, .inr (4, [.int 0, .null, .int 0, .int 0, .int 0, .int 0, .int 0]))) :
    Cm G l y_U_init b_U_init 2 none { frames := 1, cells := 1, slots := 8, locals := 12 } V [.ref r, .int mo] (fun rv V' => rv = none ∧ ∃ sA : Nat, V' = uR G V b r sA mo 0 0 0 0 0 (fun _ => 0)) := by
  refine Cm.of htr (by decide) (Nat.le_of_ble_eq_true rfl) ?_
  intro p e s m args below meth c ls F hr hnm hS hl
  obtain ⟨hx, hb, hml, hown, hts, hK, hlk, -⟩ := id F
  have hl : lv_has ls 2 [(0, .ref r), (1, .int mo)] := hl
  refine lv_aload_n hx hb d_U_init_0 rfl (lv_at hl 0 rfl) ?_
  refine W.objInit hx hb hown (hts _ m_81) (hts _ m_29) (hts _ m_30) rfl (by rw [hml]; exact hl.1) rfl d_U_init_1 (Nat.le_of_ble_eq_true rfl) (Nat.le_of_ble_eq_true rfl) ?_
  refine W.eq (g2 := F0 m 4 ls []) rfl ?_
  refine lv_aload_n hx hb d_U_init_4 rfl (lv_at hl 0 rfl) ?_
  refine lv_bipush (v := 8) hx hb d_U_init_5 (by decide) ?_
  refine r_newi F hS 5 b m_69 (N := 8) (by decide) (by decide) (by decide) (Nat.le_of_ble_eq_true rfl) (Nat.le_of_ble_eq_true rfl) d_U_init_7 (fun sA H hS => ?_)
  have hS : HS G s (uV V 5 b (sA, aI G 8 (fun _ => 0))) H _ := hS
  refine r_putF (k := 4) (i := b) F hS f_U_9 ct_U hnm h4 rfl rfl (Nat.le_of_ble_eq_true rfl) d_U_init_9 (fun H locs hS => ?_)
  have hS : HS G s (uV (uV V 5 b (sA, aI G 8 (fun _ => 0))) 4 b (r, .inr (4, [.int 0, .ref sA, .int 0, .int 0, .int 0, .int 0, .int 0]))) H _ := hS
  refine lv_aload_n hx hb d_U_init_12 rfl (lv_at hl 0 rfl) ?_
  refine lv_iload_n hx hb d_U_init_13 rfl (lv_at hl 1 rfl) ?_
  refine r_putF (k := 4) (i := b) F hS f_U_15 ct_U hnm (uV_self _ _ _ _) rfl rfl (Nat.le_of_ble_eq_true rfl) d_U_init_14 (fun H locs hS => ?_)
  have hS : HS G s (uV (uV (uV V 5 b (sA, aI G 8 (fun _ => 0))) 4 b (r, .inr (4, [.int 0, .ref sA, .int 0, .int 0, .int 0, .int 0, .int 0]))) 4 b (r, .inr (4, [.int mo, .ref sA, .int 0, .int 0, .int 0, .int 0, .int 0]))) H _ := hS
  exact m_retv F hr hS (Nat.le_of_ble_eq_true rfl) (Nat.le_of_ble_eq_true rfl) ⟨rfl, sA, by rw [uV_uV]; rfl⟩ d_U_init_17

set_option maxHeartbeats 4000000 in
set_option maxRecDepth 100000 in
theorem k_MA_max (G : Gl) (l : Launch) (htr : l.stackTraces = false) (V : Vw) (x y : Int32)  :
    Cm G l y_MA_max b_MA_max 2 (Option.some Jvm.ClassFile.FieldType.int) { frames := 0, cells := 0, slots := 0, locals := 0 } V [.int x, .int y] (fun rv V' => rv = some (.int (if x < y then y else x)) ∧ V' = V) := by
  refine Cm.ofF htr (by decide +kernel) (Nat.le_of_ble_eq_true rfl) ?_
  intro p e s m args below meth c ls F hr hnm hS hl
  obtain ⟨hx, hb, hml, hown, hts, hK, hlk, -⟩ := id F
  have hl : lv_has ls 2 [(0, .int x), (1, .int y)] := hl
  refine lv_iload_n hx hb d_MA_max_0 rfl (lv_at hl 0 rfl) ?_
  refine lv_iload_n hx hb d_MA_max_1 rfl (lv_at hl 1 rfl) ?_
  refine lv_icmp_lt (tgt := 9) hx hb d_MA_max_2 (by decide) (fun c_2 => ?_) (fun c_2 => ?_)
  · refine lv_iload_n hx hb d_MA_max_9 rfl (lv_at hl 1 rfl) ?_
    exact m_reti F hr hS (Nat.le_of_ble_eq_true rfl) (Nat.le_of_ble_eq_true rfl) ⟨by rw [if_pos c_2], rfl⟩ d_MA_max_10
  · refine lv_iload_n hx hb d_MA_max_5 rfl (lv_at hl 0 rfl) ?_
    refine lv_goto (tgt := 10) hx hb d_MA_max_6 (by decide) ?_
    exact m_reti F hr hS (Nat.le_of_ble_eq_true rfl) (Nat.le_of_ble_eq_true rfl) ⟨by rw [if_neg c_2], rfl⟩ d_MA_max_10
set_option maxHeartbeats 4000000 in
set_option maxRecDepth 100000 in
theorem k_MA_min (G : Gl) (l : Launch) (htr : l.stackTraces = false) (V : Vw) (x y : Int32)  :
    Cm G l y_MA_min b_MA_min 2 (Option.some Jvm.ClassFile.FieldType.int) { frames := 0, cells := 0, slots := 0, locals := 0 } V [.int x, .int y] (fun rv V' => rv = some (.int (if y < x then y else x)) ∧ V' = V) := by
  refine Cm.ofF htr (by decide +kernel) (Nat.le_of_ble_eq_true rfl) ?_
  intro p e s m args below meth c ls F hr hnm hS hl
  obtain ⟨hx, hb, hml, hown, hts, hK, hlk, -⟩ := id F
  have hl : lv_has ls 2 [(0, .int x), (1, .int y)] := hl
  refine lv_iload_n hx hb d_MA_min_0 rfl (lv_at hl 0 rfl) ?_
  refine lv_iload_n hx hb d_MA_min_1 rfl (lv_at hl 1 rfl) ?_
  refine lv_icmp_gt (tgt := 9) hx hb d_MA_min_2 (by decide) (fun c_2 => ?_) (fun c_2 => ?_)
  · refine lv_iload_n hx hb d_MA_min_9 rfl (lv_at hl 1 rfl) ?_
    exact m_reti F hr hS (Nat.le_of_ble_eq_true rfl) (Nat.le_of_ble_eq_true rfl) ⟨by rw [if_pos c_2], rfl⟩ d_MA_min_10
  · refine lv_iload_n hx hb d_MA_min_5 rfl (lv_at hl 0 rfl) ?_
    refine lv_goto (tgt := 10) hx hb d_MA_min_6 (by decide) ?_
    exact m_reti F hr hS (Nat.le_of_ble_eq_true rfl) (Nat.le_of_ble_eq_true rfl) ⟨by rw [if_neg c_2], rfl⟩ d_MA_min_10
set_option maxHeartbeats 4000000 in
set_option maxRecDepth 100000 in
theorem k_PC_checkIndex (G : Gl) (l : Launch) (htr : l.stackTraces = false) (V : Vw) (x y : Int32) (h0 : ¬ x < 0) (h1 : x < y)  :
    Cm G l y_PC_checkIndex b_PC_checkIndex 3 (Option.some Jvm.ClassFile.FieldType.int) { frames := 0, cells := 0, slots := 0, locals := 0 } V [.int x, .int y, .null] (fun rv V' => rv = some (.int x) ∧ V' = V) := by
  refine Cm.of htr (by decide) (Nat.le_of_ble_eq_true rfl) ?_
  intro p e s m args below meth c ls F hr hnm hS hl
  obtain ⟨hx, hb, hml, hown, hts, hK, hlk, -⟩ := id F
  have hl : lv_has ls 3 [(0, .int x), (1, .int y), (2, .null)] := hl
  refine lv_iload_n hx hb d_PC_checkIndex_0 rfl (lv_at hl 0 rfl) ?_
  refine lv_if_lt (tgt := 9) hx hb d_PC_checkIndex_1 (by decide) (fun c_1 => absurd c_1 h0) (fun c_1 => ?_)
  refine lv_iload_n hx hb d_PC_checkIndex_4 rfl (lv_at hl 0 rfl) ?_
  refine lv_iload_n hx hb d_PC_checkIndex_5 rfl (lv_at hl 1 rfl) ?_
  refine lv_icmp_lt (tgt := 16) hx hb d_PC_checkIndex_6 (by decide) (fun c_6 => ?_) (fun c_6 => absurd h1 c_6)
  refine lv_iload_n hx hb d_PC_checkIndex_16 rfl (lv_at hl 0 rfl) ?_
  exact m_reti F hr hS (Nat.le_of_ble_eq_true rfl) (Nat.le_of_ble_eq_true rfl) ⟨rfl, rfl⟩ d_PC_checkIndex_17
set_option maxHeartbeats 4000000 in
set_option maxRecDepth 100000 in
theorem k_OB_checkIndex (G : Gl) (l : Launch) (htr : l.stackTraces = false) (V : Vw) (x y : Int32) (h0 : ¬ x < 0) (h1 : x < y)  :
    Cm G l y_OB_checkIndex b_OB_checkIndex 2 (Option.some Jvm.ClassFile.FieldType.int) { frames := 1, cells := 0, slots := 0, locals := 22 } V [.int x, .int y] (fun rv V' => rv = some (.int x) ∧ V' = V) := by
  refine Cm.of htr (by decide) (Nat.le_of_ble_eq_true rfl) ?_
  intro p e s m args below meth c ls F hr hnm hS hl
  obtain ⟨hx, hb, hml, hown, hts, hK, hlk, -⟩ := id F
  have hl : lv_has ls 2 [(0, .int x), (1, .int y)] := hl
  refine lv_iload_n hx hb d_OB_checkIndex_0 rfl (lv_at hl 0 rfl) ?_
  refine lv_iload_n hx hb d_OB_checkIndex_1 rfl (lv_at hl 1 rfl) ?_
  refine lv_null hx hb d_OB_checkIndex_2 ?_
  refine r_callS (As := [.int x, .int y, .null]) (rest := []) F hS c_OB_105 (k_PC_checkIndex G l htr V x y h0 h1) rfl hl.1 rfl (Nat.le_of_ble_eq_true rfl) d_OB_checkIndex_3 ⟨Nat.le_of_ble_eq_true rfl, Nat.le_of_ble_eq_true rfl⟩ ⟨Nat.le_of_ble_eq_true rfl, Nat.le_of_ble_eq_true rfl⟩ (fun rv V1 H locs hR hS => ?_)
  obtain ⟨rfl, hV⟩ := hR
  rw [hV] at hS
  refine W.eq (g2 := F0 m 6 ls [.int x]) rfl ?_
  exact m_reti F hr hS (Nat.le_of_ble_eq_true rfl) (Nat.le_of_ble_eq_true rfl) ⟨rfl, rfl⟩ d_OB_checkIndex_6
set_option maxHeartbeats 4000000 in
set_option maxRecDepth 100000 in
theorem k_AC_init (G : Gl) (l : Launch) (htr : l.stackTraces = false) (V : Vw) (a : Nat)  :
    Cm G l y_AC_init b_AC_init 1 none { frames := 1, cells := 0, slots := 0, locals := 12 } V [.ref a] (fun rv V' => rv = none ∧ V' = V) := by
  refine Cm.of htr (by decide) (Nat.le_of_ble_eq_true rfl) ?_
  intro p e s m args below meth c ls F hr hnm hS hl
  obtain ⟨hx, hb, hml, hown, hts, hK, hlk, -⟩ := id F
  have hl : lv_has ls 1 [(0, .ref a)] := hl
  refine lv_aload_n hx hb d_AC_init_0 rfl (lv_at hl 0 rfl) ?_
  refine W.objInit hx hb hown (hts _ m_42) (hts _ m_29) (hts _ m_30) rfl (by rw [hml]; exact hl.1) rfl d_AC_init_1 (Nat.le_of_ble_eq_true rfl) (Nat.le_of_ble_eq_true rfl) ?_
  refine W.eq (g2 := F0 m 4 ls []) rfl ?_
  exact m_retv F hr hS (Nat.le_of_ble_eq_true rfl) (Nat.le_of_ble_eq_true rfl) ⟨rfl, rfl⟩ d_AC_init_4
set_option maxHeartbeats 4000000 in
set_option maxRecDepth 100000 in
theorem k_AL_init (G : Gl) (l : Launch) (htr : l.stackTraces = false) (V : Vw) (L a : Nat) (h8 : V 8 L = some (a, .inr (0, [.int 0, .null, .int 0]))) :
    Cm G l y_AL_init b_AL_init 1 none { frames := 2, cells := 0, slots := 0, locals := 32 } V [.ref a] (fun rv V' => rv = none ∧ V' = V) := by
  refine Cm.of htr (by decide) (Nat.le_of_ble_eq_true rfl) ?_
  intro p e s m args below meth c ls F hr hnm hS hl
  obtain ⟨hx, hb, hml, hown, hts, hK, hlk, -⟩ := id F
  have hl : lv_has ls 1 [(0, .ref a)] := hl
  refine lv_aload_n hx hb d_AL_init_0 rfl (lv_at hl 0 rfl) ?_
  refine r_callI (b := a) (As := []) (rest := []) F hS c_AL_1 (k_AC_init G l htr V a) rfl hl.1 rfl (Nat.le_of_ble_eq_true rfl) d_AL_init_1 ⟨Nat.le_of_ble_eq_true rfl, Nat.le_of_ble_eq_true rfl⟩ ⟨Nat.le_of_ble_eq_true rfl, Nat.le_of_ble_eq_true rfl⟩ (fun rv V1 H locs hR hS => ?_)
  obtain ⟨rfl, hV⟩ := hR
  rw [hV] at hS
  refine W.eq (g2 := F0 m 4 ls []) rfl ?_
  refine lv_aload_n hx hb d_AL_init_4 rfl (lv_at hl 0 rfl) ?_
  refine lv_iconst (v := 0) hx hb d_AL_init_5 (by decide) ?_
  refine r_put (k := 8) (i := L) F hS f_AL_7 ct_A h8 rfl rfl (Nat.le_of_ble_eq_true rfl) d_AL_init_6 (fun H locs hS => ?_)
  have hS : HS G s (uV V 8 L (a, .inr (0, [.int 0, .null, .int 0]))) H _ := hS
  exact m_retv F hr hS (Nat.le_of_ble_eq_true rfl) (Nat.le_of_ble_eq_true rfl) ⟨rfl, uV_id h8⟩ d_AL_init_9
set_option maxHeartbeats 4000000 in
set_option maxRecDepth 100000 in
theorem k_A_init (G : Gl) (l : Launch) (htr : l.stackTraces = false) (V : Vw) (L a : Nat) (h8 : V 8 L = some (a, .inr (0, [.int 0, .null, .int 0]))) :
    Cm G l y_A_init b_A_init 1 none { frames := 3, cells := 0, slots := 0, locals := 52 } V [.ref a] (fun rv V' => rv = none ∧ V' = uV V 8 L (a, oAl (G.2.1 9) (nI 0) 0)) := by
  refine Cm.of htr (by decide) (Nat.le_of_ble_eq_true rfl) ?_
  intro p e s m args below meth c ls F hr hnm hS hl
  obtain ⟨hx, hb, hml, hown, hts, hK, hlk, -⟩ := id F
  have hl : lv_has ls 1 [(0, .ref a)] := hl
  refine lv_aload_n hx hb d_A_init_0 rfl (lv_at hl 0 rfl) ?_
  refine r_callI (b := a) (As := []) (rest := []) F hS c_A_1 (k_AL_init G l htr V L a h8) rfl hl.1 rfl (Nat.le_of_ble_eq_true rfl) d_A_init_1 ⟨Nat.le_of_ble_eq_true rfl, Nat.le_of_ble_eq_true rfl⟩ ⟨Nat.le_of_ble_eq_true rfl, Nat.le_of_ble_eq_true rfl⟩ (fun rv V1 H locs hR hS => ?_)
  obtain ⟨rfl, hV⟩ := hR
  rw [hV] at hS
  refine W.eq (g2 := F0 m 4 ls []) rfl ?_
  refine lv_aload_n hx hb d_A_init_4 rfl (lv_at hl 0 rfl) ?_
  refine r_gete F hS d_A_init_5 ?_
  refine r_put (k := 8) (i := L) F hS f_A_9 ct_A h8 rfl rfl (Nat.le_of_ble_eq_true rfl) d_A_init_8 (fun H locs hS => ?_)
  have hS : HS G s (uV V 8 L (a, .inr (0, [.int 0, .ref (G.2.1 9), .int 0]))) H _ := hS
  exact m_retv F hr hS (Nat.le_of_ble_eq_true rfl) (Nat.le_of_ble_eq_true rfl) ⟨rfl, rfl⟩ d_A_init_11
set_option maxHeartbeats 4000000 in
set_option maxRecDepth 100000 in
theorem k_A_size (G : Gl) (l : Launch) (htr : l.stackTraces = false) (V : Vw) (L a d n : Nat) (mc : Int32) (h8 : V 8 L = some (a, oAl d (nI n) mc)) :
    Cm G l y_A_size b_A_size 1 (Option.some Jvm.ClassFile.FieldType.int) { frames := 0, cells := 0, slots := 0, locals := 0 } V [.ref a] (fun rv V' => rv = some (.int (nI n)) ∧ V' = V) := by
  refine Cm.of htr (by decide) (Nat.le_of_ble_eq_true rfl) ?_
  intro p e s m args below meth c ls F hr hnm hS hl
  obtain ⟨hx, hb, hml, hown, hts, hK, hlk, -⟩ := id F
  have hl : lv_has ls 1 [(0, .ref a)] := hl
  refine lv_aload_n hx hb d_A_size_0 rfl (lv_at hl 0 rfl) ?_
  refine r_get (k := 8) (i := L) F hS f_A_48.get h8 rfl d_A_size_1 ?_
  exact m_reti F hr hS (Nat.le_of_ble_eq_true rfl) (Nat.le_of_ble_eq_true rfl) ⟨rfl, rfl⟩ d_A_size_4
set_option maxHeartbeats 4000000 in
set_option maxRecDepth 100000 in
theorem k_A_elementData (G : Gl) (l : Launch) (htr : l.stackTraces = false) (V : Vw) (L a d n cap j : Nat) (f : Nat → Nat) (mc : Int32) (hj : j < n) (hc : n ≤ cap) (hc2 : cap ≤ 36) (h8 : V 8 L = some (a, oAl d (nI n) mc)) (h9 : V 9 L = some (d, aQ G cap (lF n f))) :
    Cm G l y_A_elementData b_A_elementData 2 (Option.some (Jvm.ClassFile.FieldType.object "java/lang/Object")) { frames := 0, cells := 0, slots := 0, locals := 0 } V [.ref a, .int (nI j)] (fun rv V' => rv = some (.ref (f j)) ∧ V' = V) := by
  refine Cm.of htr (by decide) (Nat.le_of_ble_eq_true rfl) ?_
  intro p e s m args below meth c ls F hr hnm hS hl
  obtain ⟨hx, hb, hml, hown, hts, hK, hlk, -⟩ := id F
  have hl : lv_has ls 2 [(0, .ref a), (1, .int (nI j))] := hl
  refine lv_aload_n hx hb d_A_elementData_0 rfl (lv_at hl 0 rfl) ?_
  refine r_get (k := 8) (i := L) F hS f_A_9.get h8 rfl d_A_elementData_1 ?_
  refine lv_iload_n hx hb d_A_elementData_4 rfl (lv_at hl 1 rfl) ?_
  refine r_aald (k := 9) (i := L) F hS h9 (vp_in_nI (by omega) (by omega)) d_A_elementData_5 ?_
  rw [nI_clamp (by omega), lF_at hj]
  exact m_reta F hr (Or.inl ⟨_, rfl⟩) hS (Nat.le_of_ble_eq_true rfl) (Nat.le_of_ble_eq_true rfl) (Or.inr ⟨_, rfl⟩) ⟨rfl, rfl⟩ d_A_elementData_6
set_option maxHeartbeats 4000000 in
set_option maxRecDepth 100000 in
theorem k_A_get (G : Gl) (l : Launch) (htr : l.stackTraces = false) (V : Vw) (L a d n cap j : Nat) (f : Nat → Nat) (mc : Int32) (hj : j < n) (hc : n ≤ cap) (hc2 : cap ≤ 36) (h8 : V 8 L = some (a, oAl d (nI n) mc)) (h9 : V 9 L = some (d, aQ G cap (lF n f))) :
    Cm G l y_A_get b_A_get 2 (Option.some (Jvm.ClassFile.FieldType.object "java/lang/Object")) { frames := 2, cells := 0, slots := 0, locals := 43 } V [.ref a, .int (nI j)] (fun rv V' => rv = some (.ref (f j)) ∧ V' = V) := by
  refine Cm.of htr (by decide) (Nat.le_of_ble_eq_true rfl) ?_
  intro p e s m args below meth c ls F hr hnm hS hl
  obtain ⟨hx, hb, hml, hown, hts, hK, hlk, -⟩ := id F
  have hl : lv_has ls 2 [(0, .ref a), (1, .int (nI j))] := hl
  refine lv_iload_n hx hb d_A_get_0 rfl (lv_at hl 1 rfl) ?_
  refine lv_aload_n hx hb d_A_get_1 rfl (lv_at hl 0 rfl) ?_
  refine r_get (k := 8) (i := L) F hS f_A_48.get h8 rfl d_A_get_2 ?_
  refine r_callS (As := [.int (nI j), .int (nI n)]) (rest := []) F hS c_A_118 (k_OB_checkIndex G l htr V (nI j) (nI n) (nI_pos (by omega)) (nI_lt hj (by omega))) rfl hl.1 rfl (Nat.le_of_ble_eq_true rfl) d_A_get_5 ⟨Nat.le_of_ble_eq_true rfl, Nat.le_of_ble_eq_true rfl⟩ ⟨Nat.le_of_ble_eq_true rfl, Nat.le_of_ble_eq_true rfl⟩ (fun rv V1 H locs hR hS => ?_)
  obtain ⟨rfl, hV⟩ := hR
  rw [hV] at hS
  refine W.eq (g2 := F0 m 8 ls [.int (nI j)]) rfl ?_
  refine lv_pop hx hb d_A_get_8 rfl ?_
  refine lv_aload_n hx hb d_A_get_9 rfl (lv_at hl 0 rfl) ?_
  refine lv_iload_n hx hb d_A_get_10 rfl (lv_at hl 1 rfl) ?_
  refine r_callV (k := 8) (i := L) (q := ("java/util/ArrayList", T_A, 3)) (fs := [.int mc, .ref d, .int (nI n)]) (As := [.int (nI j)]) (rest := []) F hS c_A_123 (k_A_elementData G l htr V L a d n cap j f mc hj hc hc2 h8 h9) rfl h8 rfl hl.1 rfl (Nat.le_of_ble_eq_true rfl) d_A_get_11 ⟨Nat.le_of_ble_eq_true rfl, Nat.le_of_ble_eq_true rfl⟩ ⟨Nat.le_of_ble_eq_true rfl, Nat.le_of_ble_eq_true rfl⟩ (fun rv V1 H locs hR hS => ?_)
  obtain ⟨rfl, hV⟩ := hR
  rw [hV] at hS
  refine W.eq (g2 := F0 m 14 ls [.ref (f j)]) rfl ?_
  exact m_reta F hr (Or.inl ⟨_, rfl⟩) hS (Nat.le_of_ble_eq_true rfl) (Nat.le_of_ble_eq_true rfl) (Or.inr ⟨_, rfl⟩) ⟨rfl, rfl⟩ d_A_get_14
set_option maxHeartbeats 4000000 in
set_option maxRecDepth 100000 in
theorem k_AS_newLength (G : Gl) (l : Launch) (htr : l.stackTraces = false) (V : Vw) (x y z w : Int32) (hw : x + (if y < z then z else y) = w) (hw0 : 0 < w) (hwm : w ≤ 2147483639)  :
    Cm G l y_AS_newLength b_AS_newLength 4 (Option.some Jvm.ClassFile.FieldType.int) { frames := 1, cells := 0, slots := 0, locals := 21 } V [.int x, .int y, .int z] (fun rv V' => rv = some (.int w) ∧ V' = V) := by
  refine Cm.of htr (by decide) (Nat.le_of_ble_eq_true rfl) ?_
  intro p e s m args below meth c ls F hr hnm hS hl
  obtain ⟨hx, hb, hml, hown, hts, hK, hlk, -⟩ := id F
  have hl : lv_has ls 4 [(0, .int x), (1, .int y), (2, .int z)] := hl
  refine lv_iload_n hx hb d_AS_newLength_0 rfl (lv_at hl 0 rfl) ?_
  refine lv_iload_n hx hb d_AS_newLength_1 rfl (lv_at hl 1 rfl) ?_
  refine lv_iload_n hx hb d_AS_newLength_2 rfl (lv_at hl 2 rfl) ?_
  refine r_callS (As := [.int y, .int z]) (rest := [.int x]) F hS c_AS_194 (k_MA_max G l htr V y z) rfl hl.1 rfl (Nat.le_of_ble_eq_true rfl) d_AS_newLength_3 ⟨Nat.le_of_ble_eq_true rfl, Nat.le_of_ble_eq_true rfl⟩ ⟨Nat.le_of_ble_eq_true rfl, Nat.le_of_ble_eq_true rfl⟩ (fun rv V1 H locs hR hS => ?_)
  obtain ⟨rfl, hV⟩ := hR
  rw [hV] at hS
  refine W.eq (g2 := F0 m 6 ls [.int (if y < z then z else y), .int x]) rfl ?_
  refine lv_iadd hx hb d_AS_newLength_6 ?_
  rw [hw]
  refine lv_istore_n (lv' := [(3, .int w), (0, .int x), (1, .int y), (2, .int z)]) hx hb d_AS_newLength_7 rfl hl (by decide) rfl (fun ls hl => ?_)
  refine lv_iconst (v := 0) hx hb d_AS_newLength_8 (by decide) ?_
  refine lv_iload_n hx hb d_AS_newLength_9 rfl (lv_at hl 0 rfl) ?_
  refine lv_icmp_ge (tgt := 21) hx hb d_AS_newLength_10 (by decide) (fun c_10 => absurd c_10 (Int32.not_le.mpr hw0)) (fun c_10 => ?_)
  refine lv_iload_n hx hb d_AS_newLength_13 rfl (lv_at hl 0 rfl) ?_
  refine lv_ldc (v := 2147483639) hx hb hown (hts _ m_364) d_AS_newLength_14 ?_
  refine lv_icmp_gt (tgt := 21) hx hb d_AS_newLength_16 (by decide) (fun c_16 => absurd c_16 (Int32.not_lt.mpr hwm)) (fun c_16 => ?_)
  refine lv_iload_n hx hb d_AS_newLength_19 rfl (lv_at hl 0 rfl) ?_
  exact m_reti F hr hS (Nat.le_of_ble_eq_true rfl) (Nat.le_of_ble_eq_true rfl) ⟨rfl, rfl⟩ d_AS_newLength_20
set_option maxHeartbeats 4000000 in
set_option maxRecDepth 100000 in
theorem k_AR_copyOf2 (G : Gl) (l : Launch) (htr : l.stackTraces = false) (V : Vw) (L d n N ci : Nat) (f : Nat → Nat) (ec : EC ci) (hel : ∀ j, j < n → ∃ (kv iv : Nat) (vs : List Value), kv < 8 ∧ V kv iv = some (f j, .inr (ci, vs))) (h14 : V 14 L = none) (hn : n ≤ N) (hN : N ≤ 36) (h9 : V 9 L = some (d, aQ G n (lF n f))) :
    Cm G l y_AR_copyOf2 b_AR_copyOf2 4 (Option.some (Jvm.ClassFile.FieldType.array (Jvm.ClassFile.FieldType.object "java/lang/Object"))) { frames := 1, cells := 1, slots := 36, locals := 40 } V [.ref d, .int (nI N), .ref (G.2.1 8)] (fun rv V' => ∃ q : Nat, rv = some (.ref q) ∧ V' = uV V 9 L (q, aQ G N (lF n f))) := by
  refine Cm.of htr (by decide) (Nat.le_of_ble_eq_true rfl) ?_
  intro p e s m args below meth c ls F hr hnm hS hl
  obtain ⟨hx, hb, hml, hown, hts, hK, hlk, -⟩ := id F
  have hl : lv_has ls 4 [(0, .ref d), (1, .int (nI N)), (2, .ref (G.2.1 8))] := hl
  refine lv_aload_n hx hb d_AR_copyOf2_0 rfl (lv_at hl 2 rfl) ?_
  refine r_ldcM F m_389 d_AR_copyOf2_1 ?_
  refine lv_acmp_ne (rx := (some (G.2.1 8))) (ry := (some (G.2.1 8))) (tgt := 13) hx hb d_AR_copyOf2_3 (by decide) (fun c_3 => absurd rfl c_3) (fun c_3 => ?_)
  refine lv_iload_n hx hb d_AR_copyOf2_6 rfl (lv_at hl 1 rfl) ?_
  refine r_newq F hS 14 L m_391 (N := N) (nI_pos (by omega)) (nI_clamp (by omega)) (by omega) (Nat.le_of_ble_eq_true rfl) (show 0 + N ≤ 36 by omega) d_AR_copyOf2_7 (fun q H hS => ?_)
  have hS : HS G s (uV V 14 L (q, aQ G N (fun _ => none))) H _ := hS
  refine lv_goto (tgt := 24) hx hb d_AR_copyOf2_10 (by decide) ?_
  refine lv_astore_n (lv' := [(3, .ref q), (0, .ref d), (1, .int (nI N)), (2, .ref (G.2.1 8))]) hx hb d_AR_copyOf2_24 rfl hl (by decide) rfl (fun ls hl => ?_)
  refine lv_aload_n hx hb d_AR_copyOf2_25 rfl (lv_at hl 1 rfl) ?_
  refine lv_iconst (v := 0) hx hb d_AR_copyOf2_26 (by decide) ?_
  refine lv_aload_n hx hb d_AR_copyOf2_27 rfl (lv_at hl 0 rfl) ?_
  refine lv_iconst (v := 0) hx hb d_AR_copyOf2_28 (by decide) ?_
  refine lv_aload_n hx hb d_AR_copyOf2_29 rfl (lv_at hl 1 rfl) ?_
  refine r_alen (k := 9) (i := L) (t := 1) (n := 0) F hS h9 (by decide) (v := (nI n)) rfl d_AR_copyOf2_30 ?_
  refine lv_iload_n hx hb d_AR_copyOf2_31 rfl (lv_at hl 2 rfl) ?_
  refine r_callS (As := [.int (nI n), .int (nI N)]) (rest := [.int 0, .ref q, .int 0, .ref d]) F hS c_AR_304 (k_MA_min G l htr (uV V 14 L (q, aQ G N (fun _ => none))) (nI n) (nI N)) rfl hl.1 rfl (Nat.le_of_ble_eq_true rfl) d_AR_copyOf2_32 ⟨Nat.le_of_ble_eq_true rfl, Nat.le_of_ble_eq_true rfl⟩ ⟨Nat.le_of_ble_eq_true rfl, show 0 + N + 0 ≤ 36 by omega⟩ (fun rv V1 H locs hR hS => ?_)
  obtain ⟨rfl, hV⟩ := hR
  rw [hV] at hS
  rw [if_neg (nI_nlt hn (by omega))]
  refine W.eq (g2 := F0 m 35 ls [.int (nI n), .int 0, .ref q, .int 0, .ref d]) rfl ?_
  refine r_qcopy (k0 := 9) (i0 := L) (k := 14) (i := L) F hS h9 (uV_self _ _ _ _) m_393 m_395 m_394 m_17 ec (nI_pos (by omega)) (by rw [nI_clamp (by omega)]; omega) (by rw [nI_clamp (by omega)]; omega) (fun j hj y hy => by rw [nI_clamp (by omega)] at hj; obtain ⟨kv, iv, vs, hk, he⟩ := hel j hj; rw [lF_at hj] at hy; cases hy; exact ⟨kv, iv, vs, (uV_ne (by omega)).trans he⟩) hl.1 (Nat.le_of_ble_eq_true rfl) (Nat.le_of_ble_eq_true rfl) d_AR_copyOf2_35 (fun H locs hS => ?_)
  rw [nI_clamp (by omega), lF_cpy] at hS
  have hS : HS G s (uV (uV V 14 L (q, aQ G N (fun _ => none))) 14 L (q, aQ G N (lF n f))) H _ := hS
  refine lv_aload_n hx hb d_AR_copyOf2_38 rfl (lv_at hl 0 rfl) ?_
  rw [uV_uV] at hS
  have hS := hS.mv (k := 9) (i := L) h14
  exact m_reta F hr (Or.inr ⟨_, rfl⟩) hS (Nat.le_of_ble_eq_true rfl) (show 0 + N + 0 ≤ 36 by omega) (Or.inr ⟨_, rfl⟩) ⟨q, rfl, rfl⟩ d_AR_copyOf2_39
set_option maxHeartbeats 4000000 in
set_option maxRecDepth 100000 in
theorem k_AR_copyOf (G : Gl) (l : Launch) (htr : l.stackTraces = false) (V : Vw) (L d n N ci : Nat) (f : Nat → Nat) (ec : EC ci) (hel : ∀ j, j < n → ∃ (kv iv : Nat) (vs : List Value), kv < 8 ∧ V kv iv = some (f j, .inr (ci, vs))) (h14 : V 14 L = none) (hn : n ≤ N) (hN : N ≤ 36) (h9 : V 9 L = some (d, aQ G n (lF n f))) :
    Cm G l y_AR_copyOf b_AR_copyOf 2 (Option.some (Jvm.ClassFile.FieldType.array (Jvm.ClassFile.FieldType.object "java/lang/Object"))) { frames := 2, cells := 1, slots := 36, locals := 63 } V [.ref d, .int (nI N)] (fun rv V' => ∃ q : Nat, rv = some (.ref q) ∧ V' = uV V 9 L (q, aQ G N (lF n f))) := by
  refine Cm.of htr (by decide) (Nat.le_of_ble_eq_true rfl) ?_
  intro p e s m args below meth c ls F hr hnm hS hl
  obtain ⟨hx, hb, hml, hown, hts, hK, hlk, -⟩ := id F
  have hl : lv_has ls 2 [(0, .ref d), (1, .int (nI N))] := hl
  refine lv_aload_n hx hb d_AR_copyOf_0 rfl (lv_at hl 0 rfl) ?_
  refine lv_iload_n hx hb d_AR_copyOf_1 rfl (lv_at hl 1 rfl) ?_
  refine lv_aload_n hx hb d_AR_copyOf_2 rfl (lv_at hl 0 rfl) ?_
  refine r_getC (k := 9) (i := L) F hS h9 m_371 m_883 m_372 m_385 hl.1 (Nat.le_of_ble_eq_true rfl) (Nat.le_of_ble_eq_true rfl) d_AR_copyOf_3 ?_
  refine r_callS (As := [.ref d, .int (nI N), .ref (G.2.1 8)]) (rest := []) F hS c_AR_300 (k_AR_copyOf2 G l htr V L d n N ci f ec hel h14 hn hN h9) rfl hl.1 rfl (Nat.le_of_ble_eq_true rfl) d_AR_copyOf_6 ⟨Nat.le_of_ble_eq_true rfl, Nat.le_of_ble_eq_true rfl⟩ ⟨Nat.le_of_ble_eq_true rfl, Nat.le_of_ble_eq_true rfl⟩ (fun rv V1 H locs hR hS => ?_)
  obtain ⟨q, rfl, rfl⟩ := hR
  refine W.eq (g2 := F0 m 9 ls [.ref q]) rfl ?_
  exact m_reta F hr (Or.inr ⟨_, rfl⟩) hS (Nat.le_of_ble_eq_true rfl) (Nat.le_of_ble_eq_true rfl) (Or.inr ⟨_, rfl⟩) ⟨q, rfl, rfl⟩ d_AR_copyOf_9
set_option maxHeartbeats 4000000 in
set_option maxRecDepth 100000 in
theorem k_A_grow2_c (G : Gl) (l : Launch) (htr : l.stackTraces = false) (V : Vw) (L a d n ci : Nat) (f : Nat → Nat) (mc : Int32) (ec : EC ci) (hel : ∀ j, j < n → ∃ (kv iv : Nat) (vs : List Value), kv < 8 ∧ V kv iv = some (f j, .inr (ci, vs))) (h14 : V 14 L = none) (hn : n ≤ 24) (hn0 : 0 < n) (h8 : V 8 L = some (a, oAl d (nI n) mc)) (h9 : V 9 L = some (d, aQ G n (lF n f))) :
    Cm G l y_A_grow2 b_A_grow2 4 (Option.some (Jvm.ClassFile.FieldType.array (Jvm.ClassFile.FieldType.object "java/lang/Object"))) { frames := 3, cells := 1, slots := 36, locals := 84 } V [.ref a, .int (nI (n + 1))] (fun rv V' => ∃ q N : Nat, n < N ∧ N ≤ 36 ∧ rv = some (.ref q) ∧ V' = uV (uV V 9 L (q, aQ G N (lF n f))) 8 L (a, oAl q (nI n) mc)) := by
  refine Cm.of htr (by decide) (Nat.le_of_ble_eq_true rfl) ?_
  intro p e s m args below meth c ls F hr hnm hS hl
  obtain ⟨hx, hb, hml, hown, hts, hK, hlk, -⟩ := id F
  have hl : lv_has ls 4 [(0, .ref a), (1, .int (nI (n + 1)))] := hl
  refine lv_aload_n hx hb d_A_grow2_0 rfl (lv_at hl 0 rfl) ?_
  refine r_get (k := 8) (i := L) F hS f_A_9.get h8 rfl d_A_grow2_1 ?_
  refine r_alen (k := 9) (i := L) (t := 1) (n := 0) F hS h9 (by decide) (v := (nI n)) rfl d_A_grow2_4 ?_
  refine lv_istore_n (lv' := [(2, .int (nI n)), (0, .ref a), (1, .int (nI (n + 1)))]) hx hb d_A_grow2_5 rfl hl (by decide) rfl (fun ls hl => ?_)
  refine lv_iload_n hx hb d_A_grow2_6 rfl (lv_at hl 0 rfl) ?_
  refine lv_if_gt (tgt := 20) hx hb d_A_grow2_7 (by decide) (fun c_7 => ?_) (fun c_7 => absurd ((nI_0lt (by omega)).mpr hn0) c_7)
  refine lv_iload_n hx hb d_A_grow2_20 rfl (lv_at hl 0 rfl) ?_
  refine lv_iload_n hx hb d_A_grow2_21 rfl (lv_at hl 2 rfl) ?_
  refine lv_iload_n hx hb d_A_grow2_22 rfl (lv_at hl 0 rfl) ?_
  refine lv_isub hx hb d_A_grow2_23 ?_
  refine lv_iload_n hx hb d_A_grow2_24 rfl (lv_at hl 0 rfl) ?_
  refine lv_iconst (v := 1) hx hb d_A_grow2_25 (by decide) ?_
  refine lv_ishr hx hb d_A_grow2_26 ?_
  refine r_callS (As := [.int (nI n), .int ((nI (n + 1)) - (nI n)), .int ((nI n) >>> (1 &&& 31))]) (rest := []) F hS c_A_73 (k_AS_newLength G l htr V (nI n) ((nI (n + 1)) - (nI n)) ((nI n) >>> (1 &&& 31)) (nI (nC n)) (nC_eq n hn) ((nI_0lt (by have := nC_le hn; omega)).mpr (by have := nC_le hn; omega)) (nI_le (b := 2147483639) (by have := nC_le hn; omega) (by decide))) rfl hl.1 rfl (Nat.le_of_ble_eq_true rfl) d_A_grow2_27 ⟨Nat.le_of_ble_eq_true rfl, Nat.le_of_ble_eq_true rfl⟩ ⟨Nat.le_of_ble_eq_true rfl, Nat.le_of_ble_eq_true rfl⟩ (fun rv V1 H locs hR hS => ?_)
  obtain ⟨rfl, hV⟩ := hR
  rw [hV] at hS
  refine W.eq (g2 := F0 m 30 ls [.int (nI (nC n))]) rfl ?_
  refine lv_istore_n (lv' := [(3, .int (nI (nC n))), (2, .int (nI n)), (0, .ref a), (1, .int (nI (n + 1)))]) hx hb d_A_grow2_30 rfl hl (by decide) rfl (fun ls hl => ?_)
  refine lv_aload_n hx hb d_A_grow2_31 rfl (lv_at hl 2 rfl) ?_
  refine lv_aload_n hx hb d_A_grow2_32 rfl (lv_at hl 2 rfl) ?_
  refine r_get (k := 8) (i := L) F hS f_A_9.get h8 rfl d_A_grow2_33 ?_
  refine lv_iload_n hx hb d_A_grow2_36 rfl (lv_at hl 0 rfl) ?_
  refine r_callS (As := [.ref d, .int (nI (nC n))]) (rest := [.ref a]) F hS c_A_66 (k_AR_copyOf G l htr V L d n (nC n) ci f ec hel h14 (by have := nC_le hn; omega) (by have := nC_le hn; omega) h9) rfl hl.1 rfl (Nat.le_of_ble_eq_true rfl) d_A_grow2_37 ⟨Nat.le_of_ble_eq_true rfl, Nat.le_of_ble_eq_true rfl⟩ ⟨Nat.le_of_ble_eq_true rfl, Nat.le_of_ble_eq_true rfl⟩ (fun rv V1 H locs hR hS => ?_)
  obtain ⟨q, rfl, rfl⟩ := hR
  refine W.eq (g2 := F0 m 40 ls [.ref q, .ref a]) rfl ?_
  refine lv_dup_x1 hx hb d_A_grow2_40 rfl rfl ?_
  refine r_put (k := 8) (i := L) F hS f_A_9 ct_A h8 rfl rfl (Nat.le_of_ble_eq_true rfl) d_A_grow2_41 (fun H locs hS => ?_)
  have hS : HS G s (uV (uV V 9 L (q, aQ G (nC n) (lF n f))) 8 L (a, oAl q (nI n) mc)) H _ := hS
  exact m_reta F hr (Or.inr ⟨_, rfl⟩) hS (Nat.le_of_ble_eq_true rfl) (Nat.le_of_ble_eq_true rfl) (Or.inr ⟨_, rfl⟩) ⟨q, nC n, (nC_le hn).1, (nC_le hn).2, rfl, rfl⟩ d_A_grow2_44
set_option maxHeartbeats 4000000 in
set_option maxRecDepth 100000 in
theorem k_A_grow2_e (G : Gl) (l : Launch) (htr : l.stackTraces = false) (V : Vw) (L a : Nat) (f : Nat → Nat) (mc : Int32) (h8 : V 8 L = some (a, oAl (G.2.1 9) (nI 0) mc)) :
    Cm G l y_A_grow2 b_A_grow2 4 (Option.some (Jvm.ClassFile.FieldType.array (Jvm.ClassFile.FieldType.object "java/lang/Object"))) { frames := 3, cells := 1, slots := 36, locals := 84 } V [.ref a, .int (nI (0 + 1))] (fun rv V' => ∃ q N : Nat, 0 < N ∧ N ≤ 36 ∧ rv = some (.ref q) ∧ V' = uV (uV V 9 L (q, aQ G N (lF 0 f))) 8 L (a, oAl q (nI 0) mc)) := by
  refine Cm.of htr (by decide) (Nat.le_of_ble_eq_true rfl) ?_
  intro p e s m args below meth c ls F hr hnm hS hl
  obtain ⟨hx, hb, hml, hown, hts, hK, hlk, -⟩ := id F
  have hl : lv_has ls 4 [(0, .ref a), (1, .int (nI (0 + 1)))] := hl
  refine lv_aload_n hx hb d_A_grow2_0 rfl (lv_at hl 0 rfl) ?_
  refine r_get (k := 8) (i := L) F hS f_A_9.get h8 rfl d_A_grow2_1 ?_
  refine r_elen F hS d_A_grow2_4 ?_
  refine lv_istore_n (lv' := [(2, .int 0), (0, .ref a), (1, .int (nI (0 + 1)))]) hx hb d_A_grow2_5 rfl hl (by decide) rfl (fun ls hl => ?_)
  refine lv_iload_n hx hb d_A_grow2_6 rfl (lv_at hl 0 rfl) ?_
  refine lv_if_gt (tgt := 20) hx hb d_A_grow2_7 (by decide) (fun c_7 => absurd c_7 (by decide)) (fun c_7 => ?_)
  refine lv_aload_n hx hb d_A_grow2_10 rfl (lv_at hl 1 rfl) ?_
  refine r_get (k := 8) (i := L) F hS f_A_9.get h8 rfl d_A_grow2_11 ?_
  refine r_gete F hS d_A_grow2_14 ?_
  refine lv_acmp_eq (rx := (some (G.2.1 9))) (ry := (some (G.2.1 9))) (tgt := 45) hx hb d_A_grow2_17 (by decide) (fun c_17 => ?_) (fun c_17 => absurd rfl c_17)
  refine lv_aload_n hx hb d_A_grow2_45 rfl (lv_at hl 1 rfl) ?_
  refine lv_bipush (v := 10) hx hb d_A_grow2_46 (by decide) ?_
  refine lv_iload_n hx hb d_A_grow2_48 rfl (lv_at hl 2 rfl) ?_
  refine r_callS (As := [.int 10, .int (nI (0 + 1))]) (rest := [.ref a]) F hS c_A_79 (k_MA_max G l htr V 10 (nI (0 + 1))) rfl hl.1 rfl (Nat.le_of_ble_eq_true rfl) d_A_grow2_49 ⟨Nat.le_of_ble_eq_true rfl, Nat.le_of_ble_eq_true rfl⟩ ⟨Nat.le_of_ble_eq_true rfl, Nat.le_of_ble_eq_true rfl⟩ (fun rv V1 H locs hR hS => ?_)
  obtain ⟨rfl, hV⟩ := hR
  rw [hV] at hS
  rw [if_neg (by decide)]
  refine W.eq (g2 := F0 m 52 ls [.int 10, .ref a]) rfl ?_
  refine r_newq F hS 9 L m_397 (N := 10) (by decide) (by decide) (by decide) (Nat.le_of_ble_eq_true rfl) (Nat.le_of_ble_eq_true rfl) d_A_grow2_52 (fun q H hS => ?_)
  have hS : HS G s (uV V 9 L (q, aQ G 10 (fun _ => none))) H _ := hS
  refine lv_dup_x1 hx hb d_A_grow2_55 rfl rfl ?_
  refine r_put (k := 8) (i := L) F hS f_A_9 ct_A h8 rfl rfl (Nat.le_of_ble_eq_true rfl) d_A_grow2_56 (fun H locs hS => ?_)
  have hS : HS G s (uV (uV V 9 L (q, aQ G 10 (fun _ => none))) 8 L (a, oAl q (nI 0) mc)) H _ := hS
  exact m_reta F hr (Or.inr ⟨_, rfl⟩) hS (Nat.le_of_ble_eq_true rfl) (Nat.le_of_ble_eq_true rfl) (Or.inr ⟨_, rfl⟩) ⟨q, 10, by omega, by omega, rfl, by rw [lF_0]⟩ d_A_grow2_59
theorem k_A_grow2 (G : Gl) (l : Launch) (htr : l.stackTraces = false) (V : Vw) (L a d n ci : Nat) (f : Nat → Nat) (mc : Int32) (ec : EC ci) (hel : ∀ j, j < n → ∃ (kv iv : Nat) (vs : List Value), kv < 8 ∧ V kv iv = some (f j, .inr (ci, vs))) (h14 : V 14 L = none) (hn : n ≤ 24) (hD : (n = 0 ∧ d = G.2.1 9) ∨ (0 < n ∧ V 9 L = some (d, aQ G n (lF n f)))) (h8 : V 8 L = some (a, oAl d (nI n) mc)) :
    Cm G l y_A_grow2 b_A_grow2 4 (Option.some (Jvm.ClassFile.FieldType.array (Jvm.ClassFile.FieldType.object "java/lang/Object"))) { frames := 3, cells := 1, slots := 36, locals := 84 } V [.ref a, .int (nI (n + 1))] (fun rv V' => ∃ q N : Nat, n < N ∧ N ≤ 36 ∧ rv = some (.ref q) ∧ V' = uV (uV V 9 L (q, aQ G N (lF n f))) 8 L (a, oAl q (nI n) mc)) := by
  rcases hD with ⟨rfl, rfl⟩ | ⟨hn0, h9⟩
  · exact k_A_grow2_e G l htr V L a f mc h8
  · exact k_A_grow2_c G l htr V L a d n ci f mc ec hel h14 hn hn0 h8 h9
set_option maxHeartbeats 4000000 in
set_option maxRecDepth 100000 in
theorem k_A_grow (G : Gl) (l : Launch) (htr : l.stackTraces = false) (V : Vw) (L a d n ci : Nat) (f : Nat → Nat) (mc : Int32) (ec : EC ci) (hel : ∀ j, j < n → ∃ (kv iv : Nat) (vs : List Value), kv < 8 ∧ V kv iv = some (f j, .inr (ci, vs))) (h14 : V 14 L = none) (hn : n ≤ 24) (hD : (n = 0 ∧ d = G.2.1 9) ∨ (0 < n ∧ V 9 L = some (d, aQ G n (lF n f)))) (h8 : V 8 L = some (a, oAl d (nI n) mc)) :
    Cm G l y_A_grow b_A_grow 1 (Option.some (Jvm.ClassFile.FieldType.array (Jvm.ClassFile.FieldType.object "java/lang/Object"))) { frames := 4, cells := 1, slots := 36, locals := 107 } V [.ref a] (fun rv V' => ∃ q N : Nat, n < N ∧ N ≤ 36 ∧ rv = some (.ref q) ∧ V' = uV (uV V 9 L (q, aQ G N (lF n f))) 8 L (a, oAl q (nI n) mc)) := by
  refine Cm.of htr (by decide) (Nat.le_of_ble_eq_true rfl) ?_
  intro p e s m args below meth c ls F hr hnm hS hl
  obtain ⟨hx, hb, hml, hown, hts, hK, hlk, -⟩ := id F
  have hl : lv_has ls 1 [(0, .ref a)] := hl
  refine lv_aload_n hx hb d_A_grow_0 rfl (lv_at hl 0 rfl) ?_
  refine lv_aload_n hx hb d_A_grow_1 rfl (lv_at hl 0 rfl) ?_
  refine r_get (k := 8) (i := L) F hS f_A_48.get h8 rfl d_A_grow_2 ?_
  refine lv_iconst (v := 1) hx hb d_A_grow_5 (by decide) ?_
  refine lv_iadd hx hb d_A_grow_6 ?_
  rw [nI_1]
  refine r_callV (k := 8) (i := L) (q := ("java/util/ArrayList", T_A, 3)) (fs := [.int mc, .ref d, .int (nI n)]) (As := [.int (nI (n + 1))]) (rest := []) F hS c_A_69 (k_A_grow2 G l htr V L a d n ci f mc ec hel h14 hn hD h8) rfl h8 rfl hl.1 rfl (Nat.le_of_ble_eq_true rfl) d_A_grow_7 ⟨Nat.le_of_ble_eq_true rfl, Nat.le_of_ble_eq_true rfl⟩ ⟨Nat.le_of_ble_eq_true rfl, Nat.le_of_ble_eq_true rfl⟩ (fun rv V1 H locs hR hS => ?_)
  obtain ⟨q, N, hN1, hN2, rfl, rfl⟩ := hR
  refine W.eq (g2 := F0 m 10 ls [.ref q]) rfl ?_
  exact m_reta F hr (Or.inr ⟨_, rfl⟩) hS (Nat.le_of_ble_eq_true rfl) (Nat.le_of_ble_eq_true rfl) (Or.inr ⟨_, rfl⟩) ⟨q, N, hN1, hN2, rfl, rfl⟩ d_A_grow_10
set_option maxHeartbeats 4000000 in
set_option maxRecDepth 100000 in
theorem k_A_add2_f (G : Gl) (l : Launch) (htr : l.stackTraces = false) (V : Vw) (L a d n ci : Nat) (f : Nat → Nat) (mc : Int32) (ec : EC ci) (hel : ∀ j, j < n → ∃ (kv iv : Nat) (vs : List Value), kv < 8 ∧ V kv iv = some (f j, .inr (ci, vs))) (h14 : V 14 L = none) (hn : n ≤ 24) (v kv iv : Nat) (vs : List Value) (hkv : kv < 8) (hv : V kv iv = some (v, .inr (ci, vs))) (hn0 : 0 < n) (h8 : V 8 L = some (a, oAl d (nI n) mc)) (h9 : V 9 L = some (d, aQ G n (lF n f))) :
    Cm G l y_A_add2 b_A_add2 4 none { frames := 5, cells := 1, slots := 36, locals := 127 } V [.ref a, .ref v, .ref d, .int (nI n)] (fun rv V' => rv = none ∧ ∃ q N : Nat, n + 1 ≤ N ∧ N ≤ 36 ∧ V' = uV (uV V 9 L (q, aQ G N (lF (n + 1) (va_up f n v)))) 8 L (a, oAl q (nI (n + 1)) mc)) := by
  refine Cm.of htr (by decide) (Nat.le_of_ble_eq_true rfl) ?_
  intro p e s m args below meth c ls F hr hnm hS hl
  obtain ⟨hx, hb, hml, hown, hts, hK, hlk, -⟩ := id F
  have hl : lv_has ls 4 [(0, .ref a), (1, .ref v), (2, .ref d), (3, .int (nI n))] := hl
  refine lv_iload_n hx hb d_A_add2_0 rfl (lv_at hl 3 rfl) ?_
  refine lv_aload_n hx hb d_A_add2_1 rfl (lv_at hl 2 rfl) ?_
  refine r_alen (k := 9) (i := L) (t := 1) (n := 0) F hS h9 (by decide) (v := (nI n)) rfl d_A_add2_2 ?_
  refine lv_icmp_ne (tgt := 11) hx hb d_A_add2_3 (by decide) (fun c_3 => absurd rfl c_3) (fun c_3 => ?_)
  refine lv_aload_n hx hb d_A_add2_6 rfl (lv_at hl 0 rfl) ?_
  refine r_callV (k := 8) (i := L) (q := ("java/util/ArrayList", T_A, 3)) (fs := [.int mc, .ref d, .int (nI n)]) (As := []) (rest := []) F hS c_A_129 (k_A_grow G l htr V L a d n ci f mc ec hel h14 hn (Or.inr ⟨hn0, h9⟩) h8) rfl h8 rfl hl.1 rfl (Nat.le_of_ble_eq_true rfl) d_A_add2_7 ⟨Nat.le_of_ble_eq_true rfl, Nat.le_of_ble_eq_true rfl⟩ ⟨Nat.le_of_ble_eq_true rfl, Nat.le_of_ble_eq_true rfl⟩ (fun rv V1 H locs hR hS => ?_)
  obtain ⟨q, N, hN1, hN2, rfl, rfl⟩ := hR
  refine W.eq (g2 := F0 m 10 ls [.ref q]) rfl ?_
  refine lv_astore_n (lv' := [(2, .ref q), (0, .ref a), (1, .ref v), (3, .int (nI n))]) hx hb d_A_add2_10 rfl hl (by decide) rfl (fun ls hl => ?_)
  refine lv_aload_n hx hb d_A_add2_11 rfl (lv_at hl 0 rfl) ?_
  refine lv_iload_n hx hb d_A_add2_12 rfl (lv_at hl 3 rfl) ?_
  refine lv_aload_n hx hb d_A_add2_13 rfl (lv_at hl 2 rfl) ?_
  refine r_aast (k := 9) (i := L) F hS (uV_self _ _ _ _) (kv := kv) (iv := iv) ((uV_ne (by omega)).trans ((uV_ne (by omega)).trans hv)) ec (vp_in_nI (by omega) (by omega)) d_A_add2_14 (fun H locs hS => ?_)
  rw [nI_clamp (by omega), lF_up] at hS
  have hS : HS G s (uV (uV (uV V 9 L (q, aQ G N (lF n f))) 8 L (a, oAl q (nI n) mc)) 9 L (q, aQ G N (lF (n + 1) (va_up f n v)))) H _ := hS
  refine lv_aload_n hx hb d_A_add2_15 rfl (lv_at hl 1 rfl) ?_
  refine lv_iload_n hx hb d_A_add2_16 rfl (lv_at hl 3 rfl) ?_
  refine lv_iconst (v := 1) hx hb d_A_add2_17 (by decide) ?_
  refine lv_iadd hx hb d_A_add2_18 ?_
  rw [nI_1]
  refine r_put (k := 8) (i := L) F hS f_A_48 ct_A (uV_self _ _ _ _) rfl rfl (Nat.le_of_ble_eq_true rfl) d_A_add2_19 (fun H locs hS => ?_)
  have hS : HS G s (uV (uV (uV (uV V 9 L (q, aQ G N (lF n f))) 8 L (a, oAl q (nI n) mc)) 9 L (q, aQ G N (lF (n + 1) (va_up f n v)))) 8 L (a, oAl q (nI (n + 1)) mc)) H _ := hS
  exact m_retv F hr hS (Nat.le_of_ble_eq_true rfl) (Nat.le_of_ble_eq_true rfl) ⟨rfl, q, N, hN1, hN2, by rw [uV4 (by decide)]⟩ d_A_add2_22
set_option maxHeartbeats 4000000 in
set_option maxRecDepth 100000 in
theorem k_A_add2_c (G : Gl) (l : Launch) (htr : l.stackTraces = false) (V : Vw) (L a d n ci : Nat) (f : Nat → Nat) (mc : Int32) (ec : EC ci) (hel : ∀ j, j < n → ∃ (kv iv : Nat) (vs : List Value), kv < 8 ∧ V kv iv = some (f j, .inr (ci, vs))) (h14 : V 14 L = none) (hn : n ≤ 24) (v kv iv : Nat) (vs : List Value) (hkv : kv < 8) (hv : V kv iv = some (v, .inr (ci, vs))) (cap : Nat) (hc : n + 1 ≤ cap) (hc2 : cap ≤ 36) (h8 : V 8 L = some (a, oAl d (nI n) mc)) (h9 : V 9 L = some (d, aQ G cap (lF n f))) :
    Cm G l y_A_add2 b_A_add2 4 none { frames := 5, cells := 1, slots := 36, locals := 127 } V [.ref a, .ref v, .ref d, .int (nI n)] (fun rv V' => rv = none ∧ ∃ q N : Nat, n + 1 ≤ N ∧ N ≤ 36 ∧ V' = uV (uV V 9 L (q, aQ G N (lF (n + 1) (va_up f n v)))) 8 L (a, oAl q (nI (n + 1)) mc)) := by
  refine Cm.of htr (by decide) (Nat.le_of_ble_eq_true rfl) ?_
  intro p e s m args below meth c ls F hr hnm hS hl
  obtain ⟨hx, hb, hml, hown, hts, hK, hlk, -⟩ := id F
  have hl : lv_has ls 4 [(0, .ref a), (1, .ref v), (2, .ref d), (3, .int (nI n))] := hl
  refine lv_iload_n hx hb d_A_add2_0 rfl (lv_at hl 3 rfl) ?_
  refine lv_aload_n hx hb d_A_add2_1 rfl (lv_at hl 2 rfl) ?_
  refine r_alen (k := 9) (i := L) (t := 1) (n := 0) F hS h9 (by decide) (v := (nI cap)) rfl d_A_add2_2 ?_
  refine lv_icmp_ne (tgt := 11) hx hb d_A_add2_3 (by decide) (fun c_3 => ?_) (fun c_3 => absurd c_3 (fun z => absurd ((nI_eq (by omega) (by omega)).mp z) (by omega)))
  refine lv_aload_n hx hb d_A_add2_11 rfl (lv_at hl 2 rfl) ?_
  refine lv_iload_n hx hb d_A_add2_12 rfl (lv_at hl 3 rfl) ?_
  refine lv_aload_n hx hb d_A_add2_13 rfl (lv_at hl 1 rfl) ?_
  refine r_aast (k := 9) (i := L) F hS h9 (kv := kv) (iv := iv) hv ec (vp_in_nI (by omega) (by omega)) d_A_add2_14 (fun H locs hS => ?_)
  rw [nI_clamp (by omega), lF_up] at hS
  have hS : HS G s (uV V 9 L (d, aQ G cap (lF (n + 1) (va_up f n v)))) H _ := hS
  refine lv_aload_n hx hb d_A_add2_15 rfl (lv_at hl 0 rfl) ?_
  refine lv_iload_n hx hb d_A_add2_16 rfl (lv_at hl 3 rfl) ?_
  refine lv_iconst (v := 1) hx hb d_A_add2_17 (by decide) ?_
  refine lv_iadd hx hb d_A_add2_18 ?_
  rw [nI_1]
  refine r_put (k := 8) (i := L) F hS f_A_48 ct_A h8 rfl rfl (Nat.le_of_ble_eq_true rfl) d_A_add2_19 (fun H locs hS => ?_)
  have hS : HS G s (uV (uV V 9 L (d, aQ G cap (lF (n + 1) (va_up f n v)))) 8 L (a, oAl d (nI (n + 1)) mc)) H _ := hS
  exact m_retv F hr hS (Nat.le_of_ble_eq_true rfl) (Nat.le_of_ble_eq_true rfl) ⟨rfl, d, cap, hc, hc2, rfl⟩ d_A_add2_22
set_option maxHeartbeats 4000000 in
set_option maxRecDepth 100000 in
theorem k_A_add2_e (G : Gl) (l : Launch) (htr : l.stackTraces = false) (V : Vw) (L a ci : Nat) (f : Nat → Nat) (mc : Int32) (ec : EC ci) (h14 : V 14 L = none) (v kv iv : Nat) (vs : List Value) (hkv : kv < 8) (hv : V kv iv = some (v, .inr (ci, vs))) (h8 : V 8 L = some (a, oAl (G.2.1 9) (nI 0) mc)) :
    Cm G l y_A_add2 b_A_add2 4 none { frames := 5, cells := 1, slots := 36, locals := 127 } V [.ref a, .ref v, .ref (G.2.1 9), .int (nI 0)] (fun rv V' => rv = none ∧ ∃ q N : Nat, 0 + 1 ≤ N ∧ N ≤ 36 ∧ V' = uV (uV V 9 L (q, aQ G N (lF (0 + 1) (va_up f 0 v)))) 8 L (a, oAl q (nI (0 + 1)) mc)) := by
  refine Cm.of htr (by decide) (Nat.le_of_ble_eq_true rfl) ?_
  intro p e s m args below meth c ls F hr hnm hS hl
  obtain ⟨hx, hb, hml, hown, hts, hK, hlk, -⟩ := id F
  have hl : lv_has ls 4 [(0, .ref a), (1, .ref v), (2, .ref (G.2.1 9)), (3, .int (nI 0))] := hl
  refine lv_iload_n hx hb d_A_add2_0 rfl (lv_at hl 3 rfl) ?_
  refine lv_aload_n hx hb d_A_add2_1 rfl (lv_at hl 2 rfl) ?_
  refine r_elen F hS d_A_add2_2 ?_
  refine lv_icmp_ne (tgt := 11) hx hb d_A_add2_3 (by decide) (fun c_3 => absurd (show nI 0 = 0 by decide) c_3) (fun c_3 => ?_)
  refine lv_aload_n hx hb d_A_add2_6 rfl (lv_at hl 0 rfl) ?_
  refine r_callV (k := 8) (i := L) (q := ("java/util/ArrayList", T_A, 3)) (fs := [.int mc, .ref (G.2.1 9), .int (nI 0)]) (As := []) (rest := []) F hS c_A_129 (k_A_grow G l htr V L a (G.2.1 9) 0 ci f mc ec (fun j hj => absurd hj (by omega)) h14 (by omega) (Or.inl ⟨rfl, rfl⟩) h8) rfl h8 rfl hl.1 rfl (Nat.le_of_ble_eq_true rfl) d_A_add2_7 ⟨Nat.le_of_ble_eq_true rfl, Nat.le_of_ble_eq_true rfl⟩ ⟨Nat.le_of_ble_eq_true rfl, Nat.le_of_ble_eq_true rfl⟩ (fun rv V1 H locs hR hS => ?_)
  obtain ⟨q, N, hN1, hN2, rfl, rfl⟩ := hR
  refine W.eq (g2 := F0 m 10 ls [.ref q]) rfl ?_
  refine lv_astore_n (lv' := [(2, .ref q), (0, .ref a), (1, .ref v), (3, .int (nI 0))]) hx hb d_A_add2_10 rfl hl (by decide) rfl (fun ls hl => ?_)
  refine lv_aload_n hx hb d_A_add2_11 rfl (lv_at hl 0 rfl) ?_
  refine lv_iload_n hx hb d_A_add2_12 rfl (lv_at hl 3 rfl) ?_
  refine lv_aload_n hx hb d_A_add2_13 rfl (lv_at hl 2 rfl) ?_
  refine r_aast (k := 9) (i := L) F hS (uV_self _ _ _ _) (kv := kv) (iv := iv) ((uV_ne (by omega)).trans ((uV_ne (by omega)).trans hv)) ec (vp_in_nI (by omega) (by omega)) d_A_add2_14 (fun H locs hS => ?_)
  rw [nI_clamp (by omega), lF_up] at hS
  have hS : HS G s (uV (uV (uV V 9 L (q, aQ G N (lF 0 f))) 8 L (a, oAl q (nI 0) mc)) 9 L (q, aQ G N (lF (0 + 1) (va_up f 0 v)))) H _ := hS
  refine lv_aload_n hx hb d_A_add2_15 rfl (lv_at hl 1 rfl) ?_
  refine lv_iload_n hx hb d_A_add2_16 rfl (lv_at hl 3 rfl) ?_
  refine lv_iconst (v := 1) hx hb d_A_add2_17 (by decide) ?_
  refine lv_iadd hx hb d_A_add2_18 ?_
  rw [nI_1]
  refine r_put (k := 8) (i := L) F hS f_A_48 ct_A (uV_self _ _ _ _) rfl rfl (Nat.le_of_ble_eq_true rfl) d_A_add2_19 (fun H locs hS => ?_)
  have hS : HS G s (uV (uV (uV (uV V 9 L (q, aQ G N (lF 0 f))) 8 L (a, oAl q (nI 0) mc)) 9 L (q, aQ G N (lF (0 + 1) (va_up f 0 v)))) 8 L (a, oAl q (nI (0 + 1)) mc)) H _ := hS
  exact m_retv F hr hS (Nat.le_of_ble_eq_true rfl) (Nat.le_of_ble_eq_true rfl) ⟨rfl, q, N, hN1, hN2, by rw [uV4 (by decide)]⟩ d_A_add2_22
theorem k_A_add2 (G : Gl) (l : Launch) (htr : l.stackTraces = false) (V : Vw) (L a d n ci : Nat) (f : Nat → Nat) (mc : Int32) (ec : EC ci) (hel : ∀ j, j < n → ∃ (kv iv : Nat) (vs : List Value), kv < 8 ∧ V kv iv = some (f j, .inr (ci, vs))) (h14 : V 14 L = none) (hn : n ≤ 24) (v kv iv : Nat) (vs : List Value) (hkv : kv < 8) (hv : V kv iv = some (v, .inr (ci, vs))) (hD : (n = 0 ∧ d = G.2.1 9) ∨ ∃ cap : Nat, 0 < cap ∧ n ≤ cap ∧ cap ≤ 36 ∧ V 9 L = some (d, aQ G cap (lF n f))) (h8 : V 8 L = some (a, oAl d (nI n) mc)) :
    Cm G l y_A_add2 b_A_add2 4 none { frames := 5, cells := 1, slots := 36, locals := 127 } V [.ref a, .ref v, .ref d, .int (nI n)] (fun rv V' => rv = none ∧ ∃ q N : Nat, n + 1 ≤ N ∧ N ≤ 36 ∧ V' = uV (uV V 9 L (q, aQ G N (lF (n + 1) (va_up f n v)))) 8 L (a, oAl q (nI (n + 1)) mc)) := by
  rcases hD with ⟨rfl, rfl⟩ | ⟨cap, hc0, hc1, hc2, h9⟩
  · exact k_A_add2_e G l htr V L a ci f mc ec h14 v kv iv vs hkv hv h8
  · rcases Nat.lt_or_eq_of_le hc1 with hlt | rfl
    · exact k_A_add2_c G l htr V L a d n ci f mc ec hel h14 hn v kv iv vs hkv hv cap hlt hc2 h8 h9
    · exact k_A_add2_f G l htr V L a d n ci f mc ec hel h14 hn v kv iv vs hkv hv hc0 h8 h9
set_option maxHeartbeats 4000000 in
set_option maxRecDepth 100000 in
theorem k_A_add (G : Gl) (l : Launch) (htr : l.stackTraces = false) (V : Vw) (L a d n ci : Nat) (f : Nat → Nat) (mc : Int32) (ec : EC ci) (hel : ∀ j, j < n → ∃ (kv iv : Nat) (vs : List Value), kv < 8 ∧ V kv iv = some (f j, .inr (ci, vs))) (h14 : V 14 L = none) (hn : n ≤ 24) (v kv iv : Nat) (vs : List Value) (hkv : kv < 8) (hv : V kv iv = some (v, .inr (ci, vs))) (hD : (n = 0 ∧ d = G.2.1 9) ∨ ∃ cap : Nat, 0 < cap ∧ n ≤ cap ∧ cap ≤ 36 ∧ V 9 L = some (d, aQ G cap (lF n f))) (h8 : V 8 L = some (a, oAl d (nI n) mc)) :
    Cm G l y_A_add b_A_add 2 (Option.some Jvm.ClassFile.FieldType.boolean) { frames := 6, cells := 1, slots := 36, locals := 150 } V [.ref a, .ref v] (fun rv V' => rv = some (.int 1) ∧ ∃ q N : Nat, n + 1 ≤ N ∧ N ≤ 36 ∧ V' = uV (uV V 9 L (q, aQ G N (lF (n + 1) (va_up f n v)))) 8 L (a, oAl q (nI (n + 1)) (mc + 1))) := by
  refine Cm.of htr (by decide) (Nat.le_of_ble_eq_true rfl) ?_
  intro p e s m args below meth c ls F hr hnm hS hl
  obtain ⟨hx, hb, hml, hown, hts, hK, hlk, -⟩ := id F
  have hl : lv_has ls 2 [(0, .ref a), (1, .ref v)] := hl
  refine lv_aload_n hx hb d_A_add_0 rfl (lv_at hl 0 rfl) ?_
  refine lv_dup hx hb d_A_add_1 rfl ?_
  refine r_get (k := 8) (i := L) F hS f_A_63.get h8 rfl d_A_add_2 ?_
  refine lv_iconst (v := 1) hx hb d_A_add_5 (by decide) ?_
  refine lv_iadd hx hb d_A_add_6 ?_
  refine r_put (k := 8) (i := L) F hS f_A_63 ct_A h8 rfl rfl (Nat.le_of_ble_eq_true rfl) d_A_add_7 (fun H locs hS => ?_)
  have hS : HS G s (uV V 8 L (a, oAl d (nI n) (mc + 1))) H _ := hS
  refine lv_aload_n hx hb d_A_add_10 rfl (lv_at hl 0 rfl) ?_
  refine lv_aload_n hx hb d_A_add_11 rfl (lv_at hl 1 rfl) ?_
  refine lv_aload_n hx hb d_A_add_12 rfl (lv_at hl 0 rfl) ?_
  refine r_get (k := 8) (i := L) F hS f_A_9.get (uV_self _ _ _ _) rfl d_A_add_13 ?_
  refine lv_aload_n hx hb d_A_add_16 rfl (lv_at hl 0 rfl) ?_
  refine r_get (k := 8) (i := L) F hS f_A_48.get (uV_self _ _ _ _) rfl d_A_add_17 ?_
  refine r_callV (k := 8) (i := L) (q := ("java/util/ArrayList", T_A, 3)) (fs := [.int (mc + 1), .ref d, .int (nI n)]) (As := [.ref v, .ref d, .int (nI n)]) (rest := []) F hS c_A_131 (k_A_add2 G l htr (uV V 8 L (a, oAl d (nI n) (mc + 1))) L a d n ci f (mc + 1) ec (fun j hj => by obtain ⟨kv, iv, vs, hk, he⟩ := hel j hj; exact ⟨kv, iv, vs, hk, (uV_ne (by omega)).trans he⟩) h14 hn v kv iv vs hkv ((uV_ne (by omega)).trans hv) hD (uV_self _ _ _ _)) rfl (uV_self _ _ _ _) rfl hl.1 rfl (Nat.le_of_ble_eq_true rfl) d_A_add_20 ⟨Nat.le_of_ble_eq_true rfl, Nat.le_of_ble_eq_true rfl⟩ ⟨Nat.le_of_ble_eq_true rfl, Nat.le_of_ble_eq_true rfl⟩ (fun rv V1 H locs hR hS => ?_)
  obtain ⟨rfl, q, N, hN1, hN2, rfl⟩ := hR
  refine W.eq (g2 := F0 m 23 ls []) rfl ?_
  refine lv_iconst (v := 1) hx hb d_A_add_23 (by decide) ?_
  exact m_retz F hr hS (Nat.le_of_ble_eq_true rfl) (Nat.le_of_ble_eq_true rfl) rfl ⟨rfl, q, N, hN1, hN2, by rw [uV3 (by decide)]⟩ d_A_add_24
set_option maxHeartbeats 4000000 in
set_option maxRecDepth 100000 in
theorem k_F_copy (G : Gl) (l : Launch) (htr : l.stackTraces = false) (V : Vw) (j fA vA : Nat) (fa : Nat → Int32) (h6 : V 6 0 = some (fA, oF vA)) (h7 : V 7 0 = some (vA, aI G 8 fa)) :
    Cm G l y_F_copy b_F_copy 2 (Option.some (Jvm.ClassFile.FieldType.object "RuleClasses$Facts")) { frames := 2, cells := 2, slots := 9, locals := 40 } V [.ref fA] (fun rv V' => ∃ fB vB : Nat, rv = some (.ref fB) ∧ V' = uV (uV V 7 (j + 1) (vB, aI G 8 (va_cpy fa (fun _ => 0) 0 0 8))) 6 (j + 1) (fB, oF vB)) := by
  refine Cm.of htr (by decide) (Nat.le_of_ble_eq_true rfl) ?_
  intro p e s m args below meth c ls F hr hnm hS hl
  obtain ⟨hx, hb, hml, hown, hts, hK, hlk, -⟩ := id F
  have hl : lv_has ls 2 [(0, .ref fA)] := hl
  refine r_new F hS 6 (j + 1) (ci := 3) (N := 1) rfl uw_F ty_F tyk_F m_592 m_58 m_5 (fs := [.null]) (by decide) (Nat.le_of_ble_eq_true rfl) (Nat.le_of_ble_eq_true rfl) d_F_copy_0 (fun fB H hS => ?_)
  have hS : HS G s (uV V 6 (j + 1) (fB, .inr (3, [.null]))) H _ := hS
  refine lv_dup hx hb d_F_copy_3 rfl ?_
  refine r_callI (b := fB) (As := []) (rest := [.ref fB]) F hS c_F_15 (k_F_init G l htr (uV V 6 (j + 1) (fB, .inr (3, [.null]))) (j + 1) fB (uV_self _ _ _ _)) rfl hl.1 rfl (Nat.le_of_ble_eq_true rfl) d_F_copy_4 ⟨Nat.le_of_ble_eq_true rfl, Nat.le_of_ble_eq_true rfl⟩ ⟨Nat.le_of_ble_eq_true rfl, Nat.le_of_ble_eq_true rfl⟩ (fun rv V1 H locs hR hS => ?_)
  obtain ⟨rfl, vB, rfl⟩ := hR
  refine W.eq (g2 := F0 m 7 ls [.ref fB]) rfl ?_
  refine lv_astore_n (lv' := [(1, .ref fB), (0, .ref fA)]) hx hb d_F_copy_7 rfl hl (by decide) rfl (fun ls hl => ?_)
  refine lv_aload_n hx hb d_F_copy_8 rfl (lv_at hl 1 rfl) ?_
  refine r_get (k := 6) (i := 0) F hS f_F_9.get ((uV_ne (by omega)).trans ((uV_ne (by omega)).trans ((uV_ne (by omega)).trans h6))) rfl d_F_copy_9 ?_
  refine lv_iconst (v := 0) hx hb d_F_copy_12 (by decide) ?_
  refine lv_aload_n hx hb d_F_copy_13 rfl (lv_at hl 0 rfl) ?_
  refine r_get (k := 6) (i := (j + 1)) F hS f_F_9.get (uV_self _ _ _ _) rfl d_F_copy_14 ?_
  refine lv_iconst (v := 0) hx hb d_F_copy_17 (by decide) ?_
  refine lv_bipush (v := 8) hx hb d_F_copy_18 (by decide) ?_
  refine r_icopy (k0 := 7) (i0 := 0) (k := 7) (i := (j + 1)) F hS ((uV_ne (by omega)).trans ((uV_ne (by omega)).trans ((uV_ne (by omega)).trans h7))) ((uV_ne (by omega)).trans (uV_self _ _ _ _)) m_594 m_395 m_394 m_17 (by decide) (by decide) (by decide) hl.1 (Nat.le_of_ble_eq_true rfl) (Nat.le_of_ble_eq_true rfl) d_F_copy_20 (fun H locs hS => ?_)
  rw [show (8 : Int32).toNatClampNeg = 8 from rfl] at hS
  have hS : HS G s (uV (uV (uV (uV V 6 (j + 1) (fB, .inr (3, [.null]))) 7 (j + 1) (vB, aI G 8 (fun _ => 0))) 6 (j + 1) (fB, oF vB)) 7 (j + 1) (vB, aI G 8 (va_cpy fa (fun _ => 0) 0 0 8))) H _ := hS
  refine lv_aload_n hx hb d_F_copy_23 rfl (lv_at hl 0 rfl) ?_
  exact m_reta F hr (Or.inl ⟨_, rfl⟩) hS (Nat.le_of_ble_eq_true rfl) (Nat.le_of_ble_eq_true rfl) (Or.inr ⟨_, rfl⟩) ⟨fB, vB, rfl, by rw [uV3 (by decide), uV_cm _ _ _ (by omega), uV3 (by decide)]⟩ d_F_copy_24

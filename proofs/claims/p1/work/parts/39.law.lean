theorem w_L_92 : MLW "RuleClassesLaw" 92 y_L_today b_L_today 3 (some .int) [(0, 5, 8, 13)] 2 := ⟨m_188, m_190, m_0, by decide, by decide +kernel, m_189⟩
theorem w_L_99 : MLW "RuleClassesLaw" 99 y_L_rule b_L_rule 6 (some .int) [(0, 12, 15, 13), (0, 12, 19, 19)] 5 := ⟨m_273, m_275, m_0, by decide, by decide +kernel, m_274⟩
theorem w_L_103 : MLW "RuleClassesLaw" 103 y_L_op b_L_op 6 (some .int) [(0, 12, 15, 24), (0, 12, 19, 13), (0, 12, 23, 26), (0, 12, 27, 19)] 5 := ⟨m_398, m_400, m_0, by decide, by decide +kernel, m_399⟩
theorem w_L_106 : MLW "RuleClassesLaw" 106 y_L_make b_L_make 4 (some .int) [(0, 9, 12, 24), (0, 9, 15, 26)] 3 := ⟨m_461, m_463, m_0, by decide, by decide +kernel, m_462⟩
theorem w_L_110 : MLW "RuleClassesLaw" 110 y_L_fact b_L_fact 4 (some .int) [(0, 6, 9, 13)] 3 := ⟨m_501, m_503, m_0, by decide, by decide +kernel, m_502⟩
theorem w_L_114 : MLW "RuleClassesLaw" 114 y_L_ask b_L_ask 5 (some .int) [(0, 10, 13, 13)] 4 := ⟨m_508, m_510, m_0, by decide, by decide +kernel, m_509⟩
theorem w_L_118 : MLW "RuleClassesLaw" 118 y_L_fallback b_L_fallback 4 (some .int) [(0, 6, 9, 13)] 3 := ⟨m_542, m_544, m_0, by decide, by decide +kernel, m_543⟩
theorem w_L_121 : MLW "RuleClassesLaw" 121 y_L_edition b_L_edition 6 (some .int) [(0, 12, 15, 13)] 5 := ⟨m_549, m_551, m_0, by decide, by decide +kernel, m_550⟩
theorem w_L_124 : MLW "RuleClassesLaw" 124 y_L_failed b_L_failed 5 (some .int) [(0, 10, 13, 13)] 4 := ⟨m_556, m_558, m_0, by decide, by decide +kernel, m_557⟩
theorem w_L_127 : MLW "RuleClassesLaw" 127 y_L_handle b_L_handle 4 (some .int) [(0, 9, 12, 24), (0, 9, 15, 26), (0, 9, 18, 19)] 3 := ⟨m_563, m_565, m_0, by decide, by decide +kernel, m_564⟩
theorem w_L_130 : MLW "RuleClassesLaw" 130 y_L_by b_L_by 4 (some .int) [(0, 9, 12, 13), (0, 9, 15, 26)] 3 := ⟨m_572, m_574, m_0, by decide, by decide +kernel, m_573⟩
theorem w_L_133 : MLW "RuleClassesLaw" 133 y_L_keep b_L_keep 3 (some .int) [(0, 8, 11, 19)] 2 := ⟨m_580, m_582, m_0, by decide, by decide +kernel, m_581⟩
theorem w_L_137 : MLW "RuleClassesLaw" 137 y_L_compare b_L_compare 5 (some .int) [(0, 10, 13, 24)] 4 := ⟨m_595, m_597, m_0, by decide, by decide +kernel, m_596⟩
theorem w_L_140 : MLW "RuleClassesLaw" 140 y_L_same b_L_same 5 (some .int) [(0, 17, 20, 24)] 4 := ⟨m_602, m_604, m_0, by decide, by decide +kernel, m_603⟩
theorem w_L_143 : MLW "RuleClassesLaw" 143 y_L_shadow b_L_shadow 5 (some .int) [(0, 7, 10, 24), (0, 7, 14, 13)] 4 := ⟨m_613, m_615, m_0, by decide, by decide +kernel, m_614⟩
theorem w_L_147 : MLW "RuleClassesLaw" 147 y_L_otherwise b_L_otherwise 5 (some .int) [(0, 10, 13, 13)] 4 := ⟨m_620, m_622, m_0, by decide, by decide +kernel, m_621⟩
theorem w_L_150 : MLW "RuleClassesLaw" 150 y_L_divide b_L_divide 5 (some .int) [(0, 10, 13, 76)] 4 := ⟨m_627, m_629, m_0, by decide, by decide +kernel, m_628⟩
theorem w_L_153 : MLW "RuleClassesLaw" 153 y_L_told b_L_told 5 (some .int) [(0, 10, 13, 24), (0, 10, 17, 13)] 4 := ⟨m_651, m_653, m_0, by decide, by decide +kernel, m_652⟩
theorem nI_4 (t : Nat) : nI (1 + 4 * t) + 4 = nI (1 + 4 * (t + 1)) := (nI_add (1 + 4 * t) 4).trans (congrArg nI (by omega))
theorem ex_iff {L t : Nat} (hL : L ≤ 4096) (ht : t ≤ 1024) : nI L - 4 < nI (1 + 4 * t) ↔ L < 4 * t + 5 := by
  rw [Int32.lt_iff_toInt_lt, Int32.toInt_sub, nI_toInt (by omega), nI_toInt (by omega), show (4 : Int32).toInt = 4 by decide, Int.bmod_eq_of_le (by omega) (by omega)]
  omega
set_option maxHeartbeats 4000000 in
set_option maxRecDepth 100000 in
theorem law_end (G : Gl) (l : Launch) (htr : l.stackTraces = false) {p : Program} {e : Env} {s : State} {m : MethodId} {below : List Frame} {meth : Method} {c : Code} {b L : Nat} {xs : Nat → Int32} (hL9 : L ≤ 5) (F : Bd G p l s m #[Value.ref b] meth c code 7 "RuleClassesLaw") (hr : meth.sig.returnType = ret) (hX : va_X b L xs s s.heap) (hbl : b < s.heap.size) (hbA : ¬ aB G b) (hG : s.heap.size ≤ G.2.2) (a0 a1 ou : Nat) (t : Nat) (ht : t ≤ 512) (hx9 : L ≤ 4 * t + 4) (V : Vw) (H : Heap) (locs : List Loc) (ls : Array Slot) (cells slots : Nat) (hS : HS G s V H locs) (hce : cells ≤ 64 + 7 * t) (hsl : slots ≤ 2048 + 96 * t) (hl : lv_has ls 7 [(0, .ref b), (1, .ref a0), (2, .ref a1), (3, .ref ou), (4, .int (nI (1 + 4 * t)))]) : W p l e room_1 s m #[Value.ref b] below meth c H locs cells slots (lw_Z below #[Value.ref b] s) (F0 m 33 ls []) := by
  obtain ⟨hx, hb, hml, hown, hts, hK, hlk, -⟩ := id F
  refine lv_iload hx hb d_L_law_33 (lv_at hl 4 rfl) ?_
  refine lv_aload_n hx hb d_L_law_35 rfl (lv_at hl 0 rfl) ?_
  refine va_slen (A := aB G) hx hb hX hbl hbA hS.2.1 d_L_law_36 ?_
  rw [show Int32.ofNat L = nI L from rfl]
  refine lv_iconst (v := 4) hx hb d_L_law_37 (by decide) ?_
  refine lv_isub hx hb d_L_law_38 ?_
  refine lv_icmp_gt (tgt := 1298) hx hb d_L_law_39 (by decide) (fun c_39 => ?_) (fun c_39 => absurd ((ex_iff (by omega) (by omega)).mpr (by omega)) c_39)
  refine lv_iconst (v := 1) hx hb d_L_law_1298 (by decide) ?_
  refine va_forget (fun q hq => Nat.le_trans hG (hS.2.1.2.2 q hq)) ?_
  exact W.widen (by omega) (by omega) (lw_ret hx hb hr hlk d_L_law_1299)
set_option maxHeartbeats 16000000 in
set_option maxRecDepth 100000 in
theorem lp_law (G : Gl) (l : Launch) (htr : l.stackTraces = false) {p : Program} {e : Env} {s : State} {m : MethodId} {below : List Frame} {meth : Method} {c : Code} {b L : Nat} {xs : Nat → Int32} (hL9 : L ≤ 5) (F : Bd G p l s m #[Value.ref b] meth c code 7 "RuleClassesLaw") (hr : meth.sig.returnType = ret) (hX : va_X b L xs s s.heap) (hbl : b < s.heap.size) (hbA : ¬ aB G b) (hG : s.heap.size ≤ G.2.2) (a0 a1 ou : Nat) : ∀ (n t : Nat), L ≤ 4 * (t + n) + 4 → t + n ≤ 512 → ∀ (V : Vw) (th : Int32) (g9 : Nat → Int64) (H : Heap) (locs : List Loc) (ls : Array Slot) (cells slots : Nat), JJ G V a0 a1 ou th g9 (t = 0) → HS G s V H locs → cells ≤ 64 + 7 * t → slots ≤ 2048 + 96 * t → lv_has ls 7 [(0, .ref b), (1, .ref a0), (2, .ref a1), (3, .ref ou), (4, .int (nI (1 + 4 * t)))] → W p l e room_1 s m #[Value.ref b] below meth c H locs cells slots (lw_Z below #[Value.ref b] s) (F0 m 33 ls []) := by
  obtain ⟨hx, hb, hml, hown, hts, hK, hlk, -⟩ := id F
  intro n
  induction n with
  | zero =>
    intro t h1 h2 V th g9 H locs ls cells slots hJ hS hce hsl hl
    exact law_end G l htr hL9 F hr hX hbl hbA hG a0 a1 ou t (by omega) (by omega) V H locs ls cells slots hS hce hsl hl
  | succ n ih =>
    intro t h1 h2 V th g9 H locs ls cells slots hJ hS hce hsl hl
    by_cases hx9 : L ≤ 4 * t + 4
    · exact law_end G l htr hL9 F hr hX hbl hbA hG a0 a1 ou t (by omega) hx9 V H locs ls cells slots hS hce hsl hl
    have h50 := hJ.out
    refine lv_iload hx hb d_L_law_33 (lv_at hl 4 rfl) ?_
    refine lv_aload_n hx hb d_L_law_35 rfl (lv_at hl 0 rfl) ?_
    refine va_slen (A := aB G) hx hb hX hbl hbA hS.2.1 d_L_law_36 ?_
    rw [show Int32.ofNat L = nI L from rfl]
    refine lv_iconst (v := 4) hx hb d_L_law_37 (by decide) ?_
    refine lv_isub hx hb d_L_law_38 ?_
    refine lv_icmp_gt (tgt := 1298) hx hb d_L_law_39 (by decide) (fun c_39 => absurd c_39 (fun z => absurd ((ex_iff (by omega) (by omega)).mp z) (by omega))) (fun c_39 => ?_)
    refine lv_aload_n hx hb d_L_law_42 rfl (lv_at hl 0 rfl) ?_
    refine lv_iload hx hb d_L_law_43 (lv_at hl 4 rfl) ?_
    refine va_sld (A := aB G) hx hb hX hbl hbA hS.2.1 (vp_in_nI (by omega) (by omega)) d_L_law_45 ?_
    rw [nI_clamp (by omega)]
    refine lv_bipush (v := 31) hx hb d_L_law_46 (by decide) ?_
    refine lv_iand hx hb d_L_law_48 ?_
    obtain ⟨v9, hv9⟩ : ∃ v9, v9 = xs (1 + 4 * t) &&& 31 := ⟨_, rfl⟩
    rw [← hv9]
    by_cases hw : 0 ≤ v9 ∧ v9 ≤ 18
    · obtain ⟨vn, hvn, rfl⟩ := (in_iff (n := 18) (by decide)).mp hw
      rcases (show vn = 0 ∨ vn = 1 ∨ vn = 2 ∨ vn = 3 ∨ vn = 4 ∨ vn = 5 ∨ vn = 6 ∨ vn = 7 ∨ vn = 8 ∨ vn = 9 ∨ vn = 10 ∨ vn = 11 ∨ vn = 12 ∨ vn = 13 ∨ vn = 14 ∨ vn = 15 ∨ vn = 16 ∨ vn = 17 ∨ vn = 18 by omega) with rfl | rfl | rfl | rfl | rfl | rfl | rfl | rfl | rfl | rfl | rfl | rfl | rfl | rfl | rfl | rfl | rfl | rfl | rfl
      · refine lv_tableIn (tgt := 140) (off := 91) hx hb d_L_law_49 (by decide) (by decide) (by decide) (by decide) ?_
        refine lv_aload_n hx hb d_L_law_140 rfl (lv_at hl 1 rfl) ?_
        refine lv_aload_n hx hb d_L_law_141 rfl (lv_at hl 0 rfl) ?_
        refine lv_iload hx hb d_L_law_142 (lv_at hl 4 rfl) ?_
        refine lv_iconst (v := 1) hx hb d_L_law_144 (by decide) ?_
        refine lv_iadd hx hb d_L_law_145 ?_
        rw [show nI (1 + 4 * t) + 1 = nI (1 + 4 * t + 1) from nI_add (1 + 4 * t) 1]
        refine va_sld (A := aB G) hx hb hX hbl hbA hS.2.1 (vp_in_nI (by omega) (by omega)) d_L_law_146 ?_
        rw [nI_clamp (by omega)]
        refine r_callW (As := [.ref a0, .int (xs (1 + 4 * t + 1))]) (rest := []) F hS w_L_92 (j_today G l htr V a0 a1 ou th g9 (t = 0) hJ (xs (1 + 4 * t + 1))) rfl hl.1 rfl (Nat.le_of_ble_eq_true rfl) d_L_law_147 ⟨Nat.le_of_ble_eq_true rfl, Nat.le_of_ble_eq_true rfl⟩ ⟨by show cells + 1 ≤ 600002; omega, by show slots + 6 ≤ 7302198; omega⟩ (fun rv V1 H locs hR hS => ?_)
        obtain ⟨k9, rfl, ⟨fo, hfo⟩, hM2⟩ := hR
        refine W.eq (g2 := F0 m 150 ls [.int k9]) rfl ?_
        refine lv_istore (lv' := [(5, .int k9), (0, .ref b), (1, .ref a0), (2, .ref a1), (3, .ref ou), (4, .int (nI (1 + 4 * t)))]) hx hb d_L_law_150 hl (by decide) rfl (fun ls hl => ?_)
        refine lv_aload_n hx hb d_L_law_152 rfl (lv_at hl 3 rfl) ?_
        refine lv_aload_n hx hb d_L_law_153 rfl (lv_at hl 1 rfl) ?_
        refine lv_iload hx hb d_L_law_154 (lv_at hl 5 rfl) ?_
        refine lv_iconst (v := 1) hx hb d_L_law_156 (by decide) ?_
        refine lv_iadd hx hb d_L_law_157 ?_
        rw [show nI (1 + 4 * t) + 1 = nI (1 + 4 * t + 1) from nI_add (1 + 4 * t) 1]
        refine va_sld (A := aB G) hx hb hX hbl hbA hS.2.1 (vp_in_nI (by omega) (by omega)) d_L_law_158 ?_
        rw [nI_clamp (by omega)]
        refine r_callV (k := 20) (i := 0) (q := ("RuleClassesModel", T_M, 30)) (fs := fo) (As := [.int (xs (1 + 4 * t + 1))]) (rest := []) F hS c_L_95 hM2 rfl hfo rfl hl.1 rfl (Nat.le_of_ble_eq_true rfl) d_L_law_159 ⟨Nat.le_of_ble_eq_true rfl, Nat.le_of_ble_eq_true rfl⟩ ⟨by show cells + 1 + 0 ≤ 600002; omega, by show slots + 6 + 0 ≤ 7302198; omega⟩ (fun rv V1 H locs hR hS => ?_)
        obtain ⟨rfl, g2, hJ⟩ := hR
        obtain ⟨fo, hfo⟩ := hJ.o
        have h50 := hJ.out
        refine W.eq (g2 := F0 m 162 ls []) rfl ?_
        refine lv_aload_n hx hb d_L_law_162 rfl (lv_at hl 3 rfl) ?_
        refine r_callV (k := 20) (i := 0) (q := ("RuleClassesModel", T_M, 30)) (fs := fo) (As := []) (rest := []) F hS c_L_96 (j_thrown G l htr V1 a0 a1 ou k9 g2 False hJ) rfl hfo rfl hl.1 rfl (Nat.le_of_ble_eq_true rfl) d_L_law_163 ⟨Nat.le_of_ble_eq_true rfl, Nat.le_of_ble_eq_true rfl⟩ ⟨by show cells + 1 + 0 + 0 ≤ 600002; omega, by show slots + 6 + 0 + 0 ≤ 7302198; omega⟩ (fun rv V1 H locs hR hS => ?_)
        obtain ⟨rfl, hV⟩ := hR
        rw [hV] at hS
        refine W.eq (g2 := F0 m 166 ls [.int k9]) rfl ?_
        refine lv_iload hx hb d_L_law_166 (lv_at hl 0 rfl) ?_
        refine lv_icmp_eq (tgt := 173) hx hb d_L_law_168 (by decide) (fun c_168 => ?_) (fun c_168 => absurd rfl c_168)
        refine lv_goto (tgt := 1292) hx hb d_L_law_173 (by decide) ?_
        refine lv_iinc (v := (nI (1 + 4 * (t + 1)))) (lv' := [(4, .int (nI (1 + 4 * (t + 1)))), (5, .int k9), (0, .ref b), (1, .ref a0), (2, .ref a1), (3, .ref ou)]) hx hb d_L_law_1292 hl (k := 5) rfl (nI_4 t) (by decide) rfl (fun ls hl => ?_)
        refine lv_goto (tgt := 33) hx hb d_L_law_1295 (by decide) ?_
        exact ih (t + 1) (by omega) (by omega) _ _ _ _ _ _ _ _ (hJ.nb (fun z => absurd z (by omega))) hS (by first | omega | (dsimp only; omega)) (by first | omega | (dsimp only; omega)) (lv_sub hl [2, 3, 4, 5, 0] rfl)
      · refine lv_tableIn (tgt := 176) (off := 127) hx hb d_L_law_49 (by decide) (by decide) (by decide) (by decide) ?_
        refine lv_aload_n hx hb d_L_law_176 rfl (lv_at hl 1 rfl) ?_
        refine lv_aload_n hx hb d_L_law_177 rfl (lv_at hl 0 rfl) ?_
        refine lv_iload hx hb d_L_law_178 (lv_at hl 4 rfl) ?_
        refine lv_iconst (v := 1) hx hb d_L_law_180 (by decide) ?_
        refine lv_iadd hx hb d_L_law_181 ?_
        rw [show nI (1 + 4 * t) + 1 = nI (1 + 4 * t + 1) from nI_add (1 + 4 * t) 1]
        refine va_sld (A := aB G) hx hb hX hbl hbA hS.2.1 (vp_in_nI (by omega) (by omega)) d_L_law_182 ?_
        rw [nI_clamp (by omega)]
        refine lv_aload_n hx hb d_L_law_183 rfl (lv_at hl 0 rfl) ?_
        refine lv_iload hx hb d_L_law_184 (lv_at hl 4 rfl) ?_
        refine lv_iconst (v := 2) hx hb d_L_law_186 (by decide) ?_
        refine lv_iadd hx hb d_L_law_187 ?_
        rw [show nI (1 + 4 * t) + 2 = nI (1 + 4 * t + 2) from nI_add (1 + 4 * t) 2]
        refine va_sld (A := aB G) hx hb hX hbl hbA hS.2.1 (vp_in_nI (by omega) (by omega)) d_L_law_188 ?_
        rw [nI_clamp (by omega)]
        refine lv_aload_n hx hb d_L_law_189 rfl (lv_at hl 0 rfl) ?_
        refine lv_iload hx hb d_L_law_190 (lv_at hl 4 rfl) ?_
        refine lv_iconst (v := 3) hx hb d_L_law_192 (by decide) ?_
        refine lv_iadd hx hb d_L_law_193 ?_
        rw [show nI (1 + 4 * t) + 3 = nI (1 + 4 * t + 3) from nI_add (1 + 4 * t) 3]
        refine va_sld (A := aB G) hx hb hX hbl hbA hS.2.1 (vp_in_nI (by omega) (by omega)) d_L_law_194 ?_
        rw [nI_clamp (by omega)]
        refine lv_aload_n hx hb d_L_law_195 rfl (lv_at hl 3 rfl) ?_
        refine r_callW (As := [.ref a0, .int (xs (1 + 4 * t + 1)), .int (xs (1 + 4 * t + 2)), .int (xs (1 + 4 * t + 3)), .ref ou]) (rest := []) F hS w_L_99 (j_rule G l htr V a0 a1 ou th g9 (t = 0) hJ (xs (1 + 4 * t + 1)) (xs (1 + 4 * t + 2)) (xs (1 + 4 * t + 3))) rfl hl.1 rfl (Nat.le_of_ble_eq_true rfl) d_L_law_196 ⟨Nat.le_of_ble_eq_true rfl, Nat.le_of_ble_eq_true rfl⟩ ⟨by show cells + 7 ≤ 600002; omega, by show slots + 96 ≤ 7302198; omega⟩ (fun rv V1 H locs hR hS => ?_)
        obtain ⟨k9, rfl, ⟨fo, hfo⟩, hM2⟩ := hR
        refine W.eq (g2 := F0 m 199 ls [.int k9]) rfl ?_
        refine lv_istore (lv' := [(5, .int k9), (0, .ref b), (1, .ref a0), (2, .ref a1), (3, .ref ou), (4, .int (nI (1 + 4 * t)))]) hx hb d_L_law_199 hl (by decide) rfl (fun ls hl => ?_)
        refine lv_aload_n hx hb d_L_law_201 rfl (lv_at hl 3 rfl) ?_
        refine lv_aload_n hx hb d_L_law_202 rfl (lv_at hl 1 rfl) ?_
        refine lv_iload hx hb d_L_law_203 (lv_at hl 5 rfl) ?_
        refine lv_iconst (v := 1) hx hb d_L_law_205 (by decide) ?_
        refine lv_iadd hx hb d_L_law_206 ?_
        rw [show nI (1 + 4 * t) + 1 = nI (1 + 4 * t + 1) from nI_add (1 + 4 * t) 1]
        refine va_sld (A := aB G) hx hb hX hbl hbA hS.2.1 (vp_in_nI (by omega) (by omega)) d_L_law_207 ?_
        rw [nI_clamp (by omega)]
        refine lv_aload_n hx hb d_L_law_208 rfl (lv_at hl 1 rfl) ?_
        refine lv_iload hx hb d_L_law_209 (lv_at hl 5 rfl) ?_
        refine lv_iconst (v := 2) hx hb d_L_law_211 (by decide) ?_
        refine lv_iadd hx hb d_L_law_212 ?_
        rw [show nI (1 + 4 * t) + 2 = nI (1 + 4 * t + 2) from nI_add (1 + 4 * t) 2]
        refine va_sld (A := aB G) hx hb hX hbl hbA hS.2.1 (vp_in_nI (by omega) (by omega)) d_L_law_213 ?_
        rw [nI_clamp (by omega)]
        refine lv_aload_n hx hb d_L_law_214 rfl (lv_at hl 1 rfl) ?_
        refine lv_iload hx hb d_L_law_215 (lv_at hl 5 rfl) ?_
        refine lv_iconst (v := 3) hx hb d_L_law_217 (by decide) ?_
        refine lv_iadd hx hb d_L_law_218 ?_
        rw [show nI (1 + 4 * t) + 3 = nI (1 + 4 * t + 3) from nI_add (1 + 4 * t) 3]
        refine va_sld (A := aB G) hx hb hX hbl hbA hS.2.1 (vp_in_nI (by omega) (by omega)) d_L_law_219 ?_
        rw [nI_clamp (by omega)]
        refine r_callV (k := 20) (i := 0) (q := ("RuleClassesModel", T_M, 30)) (fs := fo) (As := [.int (xs (1 + 4 * t + 1)), .int (xs (1 + 4 * t + 2)), .int (xs (1 + 4 * t + 3))]) (rest := []) F hS c_L_102 hM2 rfl hfo rfl hl.1 rfl (Nat.le_of_ble_eq_true rfl) d_L_law_220 ⟨Nat.le_of_ble_eq_true rfl, Nat.le_of_ble_eq_true rfl⟩ ⟨by show cells + 7 + 0 ≤ 600002; omega, by show slots + 96 + 0 ≤ 7302198; omega⟩ (fun rv V1 H locs hR hS => ?_)
        obtain ⟨b9, rfl, g2, hJ, hfin⟩ := hR
        obtain ⟨fo, hfo⟩ := hJ.o
        have h50 := hJ.out
        refine W.eq (g2 := F0 m 223 ls [.int b9]) rfl ?_
        refine lv_istore (lv' := [(6, .int b9), (5, .int k9), (0, .ref b), (1, .ref a0), (2, .ref a1), (3, .ref ou), (4, .int (nI (1 + 4 * t)))]) hx hb d_L_law_223 hl (by decide) rfl (fun ls hl => ?_)
        refine lv_aload_n hx hb d_L_law_225 rfl (lv_at hl 4 rfl) ?_
        refine r_callV (k := 20) (i := 0) (q := ("RuleClassesModel", T_M, 30)) (fs := fo) (As := []) (rest := []) F hS c_L_96 (j_thrown G l htr V1 a0 a1 ou k9 g2 False hJ) rfl hfo rfl hl.1 rfl (Nat.le_of_ble_eq_true rfl) d_L_law_226 ⟨Nat.le_of_ble_eq_true rfl, Nat.le_of_ble_eq_true rfl⟩ ⟨by show cells + 7 + 0 + 0 ≤ 600002; omega, by show slots + 96 + 0 + 0 ≤ 7302198; omega⟩ (fun rv V1 H locs hR hS => ?_)
        obtain ⟨rfl, hV⟩ := hR
        rw [hV] at hS
        refine W.eq (g2 := F0 m 229 ls [.int k9]) rfl ?_
        refine lv_iload hx hb d_L_law_229 (lv_at hl 1 rfl) ?_
        refine lv_icmp_eq (tgt := 236) hx hb d_L_law_231 (by decide) (fun c_231 => ?_) (fun c_231 => absurd rfl c_231)
        refine lv_iload hx hb d_L_law_236 (lv_at hl 1 rfl) ?_
        refine lv_if_ne (tgt := 253) hx hb d_L_law_238 (by decide) (fun c_238 => ?_) (fun c_238 => ?_)
        · refine lv_goto (tgt := 1292) hx hb d_L_law_253 (by decide) ?_
          refine lv_iinc (v := (nI (1 + 4 * (t + 1)))) (lv' := [(4, .int (nI (1 + 4 * (t + 1)))), (6, .int b9), (5, .int k9), (0, .ref b), (1, .ref a0), (2, .ref a1), (3, .ref ou)]) hx hb d_L_law_1292 hl (k := 6) rfl (nI_4 t) (by decide) rfl (fun ls hl => ?_)
          refine lv_goto (tgt := 33) hx hb d_L_law_1295 (by decide) ?_
          exact ih (t + 1) (by omega) (by omega) _ _ _ _ _ _ _ _ (hJ.nb (fun z => absurd z (by omega))) hS (by first | omega | (dsimp only; omega)) (by first | omega | (dsimp only; omega)) (lv_sub hl [3, 4, 5, 6, 0] rfl)
        · refine lv_aload_n hx hb d_L_law_241 rfl (lv_at hl 5 rfl) ?_
          refine lv_iconst (v := 0) hx hb d_L_law_242 (by decide) ?_
          refine r_lald (k := 50) (i := 0) F hS h50 (vp_in_nI (n := 0) (by decide) (by decide)) d_L_law_243 ?_
          rw [show (0 : Int32).toNatClampNeg = 0 from rfl]
          refine lv_iload hx hb d_L_law_244 (lv_at hl 0 rfl) ?_
          refine lv_i2l (v := b9.toInt64) hx hb d_L_law_246 rfl ?_
          refine W.lcmp hx hb d_L_law_247 ?_
          refine lv_if_eq (tgt := 253) hx hb d_L_law_248 (by decide) (fun c_248 => ?_) (fun c_248 => absurd ((lg_cmp_eq _ _).mpr (hfin c_238)) c_248)
          refine lv_goto (tgt := 1292) hx hb d_L_law_253 (by decide) ?_
          refine lv_iinc (v := (nI (1 + 4 * (t + 1)))) (lv' := [(4, .int (nI (1 + 4 * (t + 1)))), (6, .int b9), (5, .int k9), (0, .ref b), (1, .ref a0), (2, .ref a1), (3, .ref ou)]) hx hb d_L_law_1292 hl (k := 6) rfl (nI_4 t) (by decide) rfl (fun ls hl => ?_)
          refine lv_goto (tgt := 33) hx hb d_L_law_1295 (by decide) ?_
          exact ih (t + 1) (by omega) (by omega) _ _ _ _ _ _ _ _ (hJ.nb (fun z => absurd z (by omega))) hS (by first | omega | (dsimp only; omega)) (by first | omega | (dsimp only; omega)) (lv_sub hl [3, 4, 5, 6, 0] rfl)
      · refine lv_tableIn (tgt := 256) (off := 207) hx hb d_L_law_49 (by decide) (by decide) (by decide) (by decide) ?_
        refine lv_aload_n hx hb d_L_law_256 rfl (lv_at hl 1 rfl) ?_
        refine lv_aload_n hx hb d_L_law_257 rfl (lv_at hl 0 rfl) ?_
        refine lv_iload hx hb d_L_law_258 (lv_at hl 4 rfl) ?_
        refine lv_iconst (v := 1) hx hb d_L_law_260 (by decide) ?_
        refine lv_iadd hx hb d_L_law_261 ?_
        rw [show nI (1 + 4 * t) + 1 = nI (1 + 4 * t + 1) from nI_add (1 + 4 * t) 1]
        refine va_sld (A := aB G) hx hb hX hbl hbA hS.2.1 (vp_in_nI (by omega) (by omega)) d_L_law_262 ?_
        rw [nI_clamp (by omega)]
        refine lv_aload_n hx hb d_L_law_263 rfl (lv_at hl 0 rfl) ?_
        refine lv_iload hx hb d_L_law_264 (lv_at hl 4 rfl) ?_
        refine lv_iconst (v := 2) hx hb d_L_law_266 (by decide) ?_
        refine lv_iadd hx hb d_L_law_267 ?_
        rw [show nI (1 + 4 * t) + 2 = nI (1 + 4 * t + 2) from nI_add (1 + 4 * t) 2]
        refine va_sld (A := aB G) hx hb hX hbl hbA hS.2.1 (vp_in_nI (by omega) (by omega)) d_L_law_268 ?_
        rw [nI_clamp (by omega)]
        refine lv_aload_n hx hb d_L_law_269 rfl (lv_at hl 0 rfl) ?_
        refine lv_iload hx hb d_L_law_270 (lv_at hl 4 rfl) ?_
        refine lv_iconst (v := 3) hx hb d_L_law_272 (by decide) ?_
        refine lv_iadd hx hb d_L_law_273 ?_
        rw [show nI (1 + 4 * t) + 3 = nI (1 + 4 * t + 3) from nI_add (1 + 4 * t) 3]
        refine va_sld (A := aB G) hx hb hX hbl hbA hS.2.1 (vp_in_nI (by omega) (by omega)) d_L_law_274 ?_
        rw [nI_clamp (by omega)]
        refine lv_aload_n hx hb d_L_law_275 rfl (lv_at hl 3 rfl) ?_
        refine r_callW (As := [.ref a0, .int (xs (1 + 4 * t + 1)), .int (xs (1 + 4 * t + 2)), .int (xs (1 + 4 * t + 3)), .ref ou]) (rest := []) F hS w_L_103 (j_op G l htr V a0 a1 ou th g9 (t = 0) hJ (xs (1 + 4 * t + 1)) (xs (1 + 4 * t + 2)) (xs (1 + 4 * t + 3))) rfl hl.1 rfl (Nat.le_of_ble_eq_true rfl) d_L_law_276 ⟨Nat.le_of_ble_eq_true rfl, Nat.le_of_ble_eq_true rfl⟩ ⟨by show cells + 5 ≤ 600002; omega, by show slots + 30 ≤ 7302198; omega⟩ (fun rv V1 H locs hR hS => ?_)
        obtain ⟨k9, rfl, ⟨fo, hfo⟩, hM2⟩ := hR
        refine W.eq (g2 := F0 m 279 ls [.int k9]) rfl ?_
        refine lv_istore (lv' := [(5, .int k9), (0, .ref b), (1, .ref a0), (2, .ref a1), (3, .ref ou), (4, .int (nI (1 + 4 * t)))]) hx hb d_L_law_279 hl (by decide) rfl (fun ls hl => ?_)
        refine lv_aload_n hx hb d_L_law_281 rfl (lv_at hl 3 rfl) ?_
        refine lv_aload_n hx hb d_L_law_282 rfl (lv_at hl 1 rfl) ?_
        refine lv_iload hx hb d_L_law_283 (lv_at hl 5 rfl) ?_
        refine lv_iconst (v := 1) hx hb d_L_law_285 (by decide) ?_
        refine lv_iadd hx hb d_L_law_286 ?_
        rw [show nI (1 + 4 * t) + 1 = nI (1 + 4 * t + 1) from nI_add (1 + 4 * t) 1]
        refine va_sld (A := aB G) hx hb hX hbl hbA hS.2.1 (vp_in_nI (by omega) (by omega)) d_L_law_287 ?_
        rw [nI_clamp (by omega)]
        refine lv_aload_n hx hb d_L_law_288 rfl (lv_at hl 1 rfl) ?_
        refine lv_iload hx hb d_L_law_289 (lv_at hl 5 rfl) ?_
        refine lv_iconst (v := 2) hx hb d_L_law_291 (by decide) ?_
        refine lv_iadd hx hb d_L_law_292 ?_
        rw [show nI (1 + 4 * t) + 2 = nI (1 + 4 * t + 2) from nI_add (1 + 4 * t) 2]
        refine va_sld (A := aB G) hx hb hX hbl hbA hS.2.1 (vp_in_nI (by omega) (by omega)) d_L_law_293 ?_
        rw [nI_clamp (by omega)]
        refine lv_aload_n hx hb d_L_law_294 rfl (lv_at hl 1 rfl) ?_
        refine lv_iload hx hb d_L_law_295 (lv_at hl 5 rfl) ?_
        refine lv_iconst (v := 3) hx hb d_L_law_297 (by decide) ?_
        refine lv_iadd hx hb d_L_law_298 ?_
        rw [show nI (1 + 4 * t) + 3 = nI (1 + 4 * t + 3) from nI_add (1 + 4 * t) 3]
        refine va_sld (A := aB G) hx hb hX hbl hbA hS.2.1 (vp_in_nI (by omega) (by omega)) d_L_law_299 ?_
        rw [nI_clamp (by omega)]
        refine r_callV (k := 20) (i := 0) (q := ("RuleClassesModel", T_M, 30)) (fs := fo) (As := [.int (xs (1 + 4 * t + 1)), .int (xs (1 + 4 * t + 2)), .int (xs (1 + 4 * t + 3))]) (rest := []) F hS c_L_105 hM2 rfl hfo rfl hl.1 rfl (Nat.le_of_ble_eq_true rfl) d_L_law_300 ⟨Nat.le_of_ble_eq_true rfl, Nat.le_of_ble_eq_true rfl⟩ ⟨by show cells + 5 + 0 ≤ 600002; omega, by show slots + 30 + 0 ≤ 7302198; omega⟩ (fun rv V1 H locs hR hS => ?_)
        obtain ⟨b9, rfl, g2, hJ, hfin⟩ := hR
        obtain ⟨fo, hfo⟩ := hJ.o
        have h50 := hJ.out
        refine W.eq (g2 := F0 m 303 ls [.int b9]) rfl ?_
        refine lv_istore (lv' := [(6, .int b9), (5, .int k9), (0, .ref b), (1, .ref a0), (2, .ref a1), (3, .ref ou), (4, .int (nI (1 + 4 * t)))]) hx hb d_L_law_303 hl (by decide) rfl (fun ls hl => ?_)
        refine lv_aload_n hx hb d_L_law_305 rfl (lv_at hl 4 rfl) ?_
        refine r_callV (k := 20) (i := 0) (q := ("RuleClassesModel", T_M, 30)) (fs := fo) (As := []) (rest := []) F hS c_L_96 (j_thrown G l htr V1 a0 a1 ou k9 g2 False hJ) rfl hfo rfl hl.1 rfl (Nat.le_of_ble_eq_true rfl) d_L_law_306 ⟨Nat.le_of_ble_eq_true rfl, Nat.le_of_ble_eq_true rfl⟩ ⟨by show cells + 5 + 0 + 0 ≤ 600002; omega, by show slots + 30 + 0 + 0 ≤ 7302198; omega⟩ (fun rv V1 H locs hR hS => ?_)
        obtain ⟨rfl, hV⟩ := hR
        rw [hV] at hS
        refine W.eq (g2 := F0 m 309 ls [.int k9]) rfl ?_
        refine lv_iload hx hb d_L_law_309 (lv_at hl 1 rfl) ?_
        refine lv_icmp_eq (tgt := 316) hx hb d_L_law_311 (by decide) (fun c_311 => ?_) (fun c_311 => absurd rfl c_311)
        refine lv_iload hx hb d_L_law_316 (lv_at hl 1 rfl) ?_
        refine lv_if_ne (tgt := 333) hx hb d_L_law_318 (by decide) (fun c_318 => ?_) (fun c_318 => ?_)
        · refine lv_goto (tgt := 1292) hx hb d_L_law_333 (by decide) ?_
          refine lv_iinc (v := (nI (1 + 4 * (t + 1)))) (lv' := [(4, .int (nI (1 + 4 * (t + 1)))), (6, .int b9), (5, .int k9), (0, .ref b), (1, .ref a0), (2, .ref a1), (3, .ref ou)]) hx hb d_L_law_1292 hl (k := 6) rfl (nI_4 t) (by decide) rfl (fun ls hl => ?_)
          refine lv_goto (tgt := 33) hx hb d_L_law_1295 (by decide) ?_
          exact ih (t + 1) (by omega) (by omega) _ _ _ _ _ _ _ _ (hJ.nb (fun z => absurd z (by omega))) hS (by first | omega | (dsimp only; omega)) (by first | omega | (dsimp only; omega)) (lv_sub hl [3, 4, 5, 6, 0] rfl)
        · refine lv_aload_n hx hb d_L_law_321 rfl (lv_at hl 5 rfl) ?_
          refine lv_iconst (v := 0) hx hb d_L_law_322 (by decide) ?_
          refine r_lald (k := 50) (i := 0) F hS h50 (vp_in_nI (n := 0) (by decide) (by decide)) d_L_law_323 ?_
          rw [show (0 : Int32).toNatClampNeg = 0 from rfl]
          refine lv_iload hx hb d_L_law_324 (lv_at hl 0 rfl) ?_
          refine lv_i2l (v := b9.toInt64) hx hb d_L_law_326 rfl ?_
          refine W.lcmp hx hb d_L_law_327 ?_
          refine lv_if_eq (tgt := 333) hx hb d_L_law_328 (by decide) (fun c_328 => ?_) (fun c_328 => absurd ((lg_cmp_eq _ _).mpr (hfin c_318)) c_328)
          refine lv_goto (tgt := 1292) hx hb d_L_law_333 (by decide) ?_
          refine lv_iinc (v := (nI (1 + 4 * (t + 1)))) (lv' := [(4, .int (nI (1 + 4 * (t + 1)))), (6, .int b9), (5, .int k9), (0, .ref b), (1, .ref a0), (2, .ref a1), (3, .ref ou)]) hx hb d_L_law_1292 hl (k := 6) rfl (nI_4 t) (by decide) rfl (fun ls hl => ?_)
          refine lv_goto (tgt := 33) hx hb d_L_law_1295 (by decide) ?_
          exact ih (t + 1) (by omega) (by omega) _ _ _ _ _ _ _ _ (hJ.nb (fun z => absurd z (by omega))) hS (by first | omega | (dsimp only; omega)) (by first | omega | (dsimp only; omega)) (lv_sub hl [3, 4, 5, 6, 0] rfl)
      · refine lv_tableIn (tgt := 336) (off := 287) hx hb d_L_law_49 (by decide) (by decide) (by decide) (by decide) ?_
        refine lv_aload_n hx hb d_L_law_336 rfl (lv_at hl 1 rfl) ?_
        refine lv_aload_n hx hb d_L_law_337 rfl (lv_at hl 0 rfl) ?_
        refine lv_iload hx hb d_L_law_338 (lv_at hl 4 rfl) ?_
        refine lv_iconst (v := 1) hx hb d_L_law_340 (by decide) ?_
        refine lv_iadd hx hb d_L_law_341 ?_
        rw [show nI (1 + 4 * t) + 1 = nI (1 + 4 * t + 1) from nI_add (1 + 4 * t) 1]
        refine va_sld (A := aB G) hx hb hX hbl hbA hS.2.1 (vp_in_nI (by omega) (by omega)) d_L_law_342 ?_
        rw [nI_clamp (by omega)]
        refine lv_aload_n hx hb d_L_law_343 rfl (lv_at hl 3 rfl) ?_
        refine r_callW (As := [.ref a0, .int (xs (1 + 4 * t + 1)), .ref ou]) (rest := []) F hS w_L_106 (j_make G l htr V a0 a1 ou th g9 (t = 0) hJ (xs (1 + 4 * t + 1))) rfl hl.1 rfl (Nat.le_of_ble_eq_true rfl) d_L_law_344 ⟨Nat.le_of_ble_eq_true rfl, Nat.le_of_ble_eq_true rfl⟩ ⟨by show cells + 2 ≤ 600002; omega, by show slots + 12 ≤ 7302198; omega⟩ (fun rv V1 H locs hR hS => ?_)
        obtain ⟨k9, rfl, ⟨fo, hfo⟩, hM2⟩ := hR
        refine W.eq (g2 := F0 m 347 ls [.int k9]) rfl ?_
        refine lv_istore (lv' := [(5, .int k9), (0, .ref b), (1, .ref a0), (2, .ref a1), (3, .ref ou), (4, .int (nI (1 + 4 * t)))]) hx hb d_L_law_347 hl (by decide) rfl (fun ls hl => ?_)
        refine lv_aload_n hx hb d_L_law_349 rfl (lv_at hl 3 rfl) ?_
        refine lv_aload_n hx hb d_L_law_350 rfl (lv_at hl 1 rfl) ?_
        refine lv_iload hx hb d_L_law_351 (lv_at hl 5 rfl) ?_
        refine lv_iconst (v := 1) hx hb d_L_law_353 (by decide) ?_
        refine lv_iadd hx hb d_L_law_354 ?_
        rw [show nI (1 + 4 * t) + 1 = nI (1 + 4 * t + 1) from nI_add (1 + 4 * t) 1]
        refine va_sld (A := aB G) hx hb hX hbl hbA hS.2.1 (vp_in_nI (by omega) (by omega)) d_L_law_355 ?_
        rw [nI_clamp (by omega)]
        refine r_callV (k := 20) (i := 0) (q := ("RuleClassesModel", T_M, 30)) (fs := fo) (As := [.int (xs (1 + 4 * t + 1))]) (rest := []) F hS c_L_109 hM2 rfl hfo rfl hl.1 rfl (Nat.le_of_ble_eq_true rfl) d_L_law_356 ⟨Nat.le_of_ble_eq_true rfl, Nat.le_of_ble_eq_true rfl⟩ ⟨by show cells + 2 + 0 ≤ 600002; omega, by show slots + 12 + 0 ≤ 7302198; omega⟩ (fun rv V1 H locs hR hS => ?_)
        obtain ⟨b9, rfl, g2, hJ, hfin⟩ := hR
        obtain ⟨fo, hfo⟩ := hJ.o
        have h50 := hJ.out
        refine W.eq (g2 := F0 m 359 ls [.int b9]) rfl ?_
        refine lv_istore (lv' := [(6, .int b9), (5, .int k9), (0, .ref b), (1, .ref a0), (2, .ref a1), (3, .ref ou), (4, .int (nI (1 + 4 * t)))]) hx hb d_L_law_359 hl (by decide) rfl (fun ls hl => ?_)
        refine lv_aload_n hx hb d_L_law_361 rfl (lv_at hl 4 rfl) ?_
        refine r_callV (k := 20) (i := 0) (q := ("RuleClassesModel", T_M, 30)) (fs := fo) (As := []) (rest := []) F hS c_L_96 (j_thrown G l htr V1 a0 a1 ou k9 g2 False hJ) rfl hfo rfl hl.1 rfl (Nat.le_of_ble_eq_true rfl) d_L_law_362 ⟨Nat.le_of_ble_eq_true rfl, Nat.le_of_ble_eq_true rfl⟩ ⟨by show cells + 2 + 0 + 0 ≤ 600002; omega, by show slots + 12 + 0 + 0 ≤ 7302198; omega⟩ (fun rv V1 H locs hR hS => ?_)
        obtain ⟨rfl, hV⟩ := hR
        rw [hV] at hS
        refine W.eq (g2 := F0 m 365 ls [.int k9]) rfl ?_
        refine lv_iload hx hb d_L_law_365 (lv_at hl 1 rfl) ?_
        refine lv_icmp_eq (tgt := 372) hx hb d_L_law_367 (by decide) (fun c_367 => ?_) (fun c_367 => absurd rfl c_367)
        refine lv_iload hx hb d_L_law_372 (lv_at hl 1 rfl) ?_
        refine lv_if_ne (tgt := 389) hx hb d_L_law_374 (by decide) (fun c_374 => ?_) (fun c_374 => ?_)
        · refine lv_goto (tgt := 1292) hx hb d_L_law_389 (by decide) ?_
          refine lv_iinc (v := (nI (1 + 4 * (t + 1)))) (lv' := [(4, .int (nI (1 + 4 * (t + 1)))), (6, .int b9), (5, .int k9), (0, .ref b), (1, .ref a0), (2, .ref a1), (3, .ref ou)]) hx hb d_L_law_1292 hl (k := 6) rfl (nI_4 t) (by decide) rfl (fun ls hl => ?_)
          refine lv_goto (tgt := 33) hx hb d_L_law_1295 (by decide) ?_
          exact ih (t + 1) (by omega) (by omega) _ _ _ _ _ _ _ _ (hJ.nb (fun z => absurd z (by omega))) hS (by first | omega | (dsimp only; omega)) (by first | omega | (dsimp only; omega)) (lv_sub hl [3, 4, 5, 6, 0] rfl)
        · refine lv_aload_n hx hb d_L_law_377 rfl (lv_at hl 5 rfl) ?_
          refine lv_iconst (v := 0) hx hb d_L_law_378 (by decide) ?_
          refine r_lald (k := 50) (i := 0) F hS h50 (vp_in_nI (n := 0) (by decide) (by decide)) d_L_law_379 ?_
          rw [show (0 : Int32).toNatClampNeg = 0 from rfl]
          refine lv_iload hx hb d_L_law_380 (lv_at hl 0 rfl) ?_
          refine lv_i2l (v := b9.toInt64) hx hb d_L_law_382 rfl ?_
          refine W.lcmp hx hb d_L_law_383 ?_
          refine lv_if_eq (tgt := 389) hx hb d_L_law_384 (by decide) (fun c_384 => ?_) (fun c_384 => absurd ((lg_cmp_eq _ _).mpr (hfin c_374)) c_384)
          refine lv_goto (tgt := 1292) hx hb d_L_law_389 (by decide) ?_
          refine lv_iinc (v := (nI (1 + 4 * (t + 1)))) (lv' := [(4, .int (nI (1 + 4 * (t + 1)))), (6, .int b9), (5, .int k9), (0, .ref b), (1, .ref a0), (2, .ref a1), (3, .ref ou)]) hx hb d_L_law_1292 hl (k := 6) rfl (nI_4 t) (by decide) rfl (fun ls hl => ?_)
          refine lv_goto (tgt := 33) hx hb d_L_law_1295 (by decide) ?_
          exact ih (t + 1) (by omega) (by omega) _ _ _ _ _ _ _ _ (hJ.nb (fun z => absurd z (by omega))) hS (by first | omega | (dsimp only; omega)) (by first | omega | (dsimp only; omega)) (lv_sub hl [3, 4, 5, 6, 0] rfl)
      · refine lv_tableIn (tgt := 392) (off := 343) hx hb d_L_law_49 (by decide) (by decide) (by decide) (by decide) ?_
        refine lv_aload_n hx hb d_L_law_392 rfl (lv_at hl 1 rfl) ?_
        refine lv_aload_n hx hb d_L_law_393 rfl (lv_at hl 0 rfl) ?_
        refine lv_iload hx hb d_L_law_394 (lv_at hl 4 rfl) ?_
        refine lv_iconst (v := 1) hx hb d_L_law_396 (by decide) ?_
        refine lv_iadd hx hb d_L_law_397 ?_
        rw [show nI (1 + 4 * t) + 1 = nI (1 + 4 * t + 1) from nI_add (1 + 4 * t) 1]
        refine va_sld (A := aB G) hx hb hX hbl hbA hS.2.1 (vp_in_nI (by omega) (by omega)) d_L_law_398 ?_
        rw [nI_clamp (by omega)]
        refine lv_aload_n hx hb d_L_law_399 rfl (lv_at hl 0 rfl) ?_
        refine lv_iload hx hb d_L_law_400 (lv_at hl 4 rfl) ?_
        refine lv_iconst (v := 2) hx hb d_L_law_402 (by decide) ?_
        refine lv_iadd hx hb d_L_law_403 ?_
        rw [show nI (1 + 4 * t) + 2 = nI (1 + 4 * t + 2) from nI_add (1 + 4 * t) 2]
        refine va_sld (A := aB G) hx hb hX hbl hbA hS.2.1 (vp_in_nI (by omega) (by omega)) d_L_law_404 ?_
        rw [nI_clamp (by omega)]
        refine r_callW (As := [.ref a0, .int (xs (1 + 4 * t + 1)), .int (xs (1 + 4 * t + 2))]) (rest := []) F hS w_L_110 (j_fact G l htr V a0 a1 ou th g9 (t = 0) hJ (xs (1 + 4 * t + 1)) (xs (1 + 4 * t + 2))) rfl hl.1 rfl (Nat.le_of_ble_eq_true rfl) d_L_law_405 ⟨Nat.le_of_ble_eq_true rfl, Nat.le_of_ble_eq_true rfl⟩ ⟨by show cells + 2 ≤ 600002; omega, by show slots + 12 ≤ 7302198; omega⟩ (fun rv V1 H locs hR hS => ?_)
        obtain ⟨k9, rfl, ⟨fo, hfo⟩, hM2⟩ := hR
        refine W.eq (g2 := F0 m 408 ls [.int k9]) rfl ?_
        refine lv_istore (lv' := [(5, .int k9), (0, .ref b), (1, .ref a0), (2, .ref a1), (3, .ref ou), (4, .int (nI (1 + 4 * t)))]) hx hb d_L_law_408 hl (by decide) rfl (fun ls hl => ?_)
        refine lv_aload_n hx hb d_L_law_410 rfl (lv_at hl 3 rfl) ?_
        refine lv_aload_n hx hb d_L_law_411 rfl (lv_at hl 1 rfl) ?_
        refine lv_iload hx hb d_L_law_412 (lv_at hl 5 rfl) ?_
        refine lv_iconst (v := 1) hx hb d_L_law_414 (by decide) ?_
        refine lv_iadd hx hb d_L_law_415 ?_
        rw [show nI (1 + 4 * t) + 1 = nI (1 + 4 * t + 1) from nI_add (1 + 4 * t) 1]
        refine va_sld (A := aB G) hx hb hX hbl hbA hS.2.1 (vp_in_nI (by omega) (by omega)) d_L_law_416 ?_
        rw [nI_clamp (by omega)]
        refine lv_aload_n hx hb d_L_law_417 rfl (lv_at hl 1 rfl) ?_
        refine lv_iload hx hb d_L_law_418 (lv_at hl 5 rfl) ?_
        refine lv_iconst (v := 2) hx hb d_L_law_420 (by decide) ?_
        refine lv_iadd hx hb d_L_law_421 ?_
        rw [show nI (1 + 4 * t) + 2 = nI (1 + 4 * t + 2) from nI_add (1 + 4 * t) 2]
        refine va_sld (A := aB G) hx hb hX hbl hbA hS.2.1 (vp_in_nI (by omega) (by omega)) d_L_law_422 ?_
        rw [nI_clamp (by omega)]
        refine r_callV (k := 20) (i := 0) (q := ("RuleClassesModel", T_M, 30)) (fs := fo) (As := [.int (xs (1 + 4 * t + 1)), .int (xs (1 + 4 * t + 2))]) (rest := []) F hS c_L_113 hM2 rfl hfo rfl hl.1 rfl (Nat.le_of_ble_eq_true rfl) d_L_law_423 ⟨Nat.le_of_ble_eq_true rfl, Nat.le_of_ble_eq_true rfl⟩ ⟨by show cells + 2 + 0 ≤ 600002; omega, by show slots + 12 + 0 ≤ 7302198; omega⟩ (fun rv V1 H locs hR hS => ?_)
        obtain ⟨rfl, g2, hJ⟩ := hR
        obtain ⟨fo, hfo⟩ := hJ.o
        have h50 := hJ.out
        refine W.eq (g2 := F0 m 426 ls []) rfl ?_
        refine lv_aload_n hx hb d_L_law_426 rfl (lv_at hl 3 rfl) ?_
        refine r_callV (k := 20) (i := 0) (q := ("RuleClassesModel", T_M, 30)) (fs := fo) (As := []) (rest := []) F hS c_L_96 (j_thrown G l htr V1 a0 a1 ou k9 g2 False hJ) rfl hfo rfl hl.1 rfl (Nat.le_of_ble_eq_true rfl) d_L_law_427 ⟨Nat.le_of_ble_eq_true rfl, Nat.le_of_ble_eq_true rfl⟩ ⟨by show cells + 2 + 0 + 0 ≤ 600002; omega, by show slots + 12 + 0 + 0 ≤ 7302198; omega⟩ (fun rv V1 H locs hR hS => ?_)
        obtain ⟨rfl, hV⟩ := hR
        rw [hV] at hS
        refine W.eq (g2 := F0 m 430 ls [.int k9]) rfl ?_
        refine lv_iload hx hb d_L_law_430 (lv_at hl 0 rfl) ?_
        refine lv_icmp_eq (tgt := 437) hx hb d_L_law_432 (by decide) (fun c_432 => ?_) (fun c_432 => absurd rfl c_432)
        refine lv_goto (tgt := 1292) hx hb d_L_law_437 (by decide) ?_
        refine lv_iinc (v := (nI (1 + 4 * (t + 1)))) (lv' := [(4, .int (nI (1 + 4 * (t + 1)))), (5, .int k9), (0, .ref b), (1, .ref a0), (2, .ref a1), (3, .ref ou)]) hx hb d_L_law_1292 hl (k := 5) rfl (nI_4 t) (by decide) rfl (fun ls hl => ?_)
        refine lv_goto (tgt := 33) hx hb d_L_law_1295 (by decide) ?_
        exact ih (t + 1) (by omega) (by omega) _ _ _ _ _ _ _ _ (hJ.nb (fun z => absurd z (by omega))) hS (by first | omega | (dsimp only; omega)) (by first | omega | (dsimp only; omega)) (lv_sub hl [2, 3, 4, 5, 0] rfl)
      · refine lv_tableIn (tgt := 440) (off := 391) hx hb d_L_law_49 (by decide) (by decide) (by decide) (by decide) ?_
        refine lv_aload_n hx hb d_L_law_440 rfl (lv_at hl 1 rfl) ?_
        refine lv_aload_n hx hb d_L_law_441 rfl (lv_at hl 0 rfl) ?_
        refine lv_iload hx hb d_L_law_442 (lv_at hl 4 rfl) ?_
        refine lv_iconst (v := 1) hx hb d_L_law_444 (by decide) ?_
        refine lv_iadd hx hb d_L_law_445 ?_
        rw [show nI (1 + 4 * t) + 1 = nI (1 + 4 * t + 1) from nI_add (1 + 4 * t) 1]
        refine va_sld (A := aB G) hx hb hX hbl hbA hS.2.1 (vp_in_nI (by omega) (by omega)) d_L_law_446 ?_
        rw [nI_clamp (by omega)]
        refine lv_aload_n hx hb d_L_law_447 rfl (lv_at hl 0 rfl) ?_
        refine lv_iload hx hb d_L_law_448 (lv_at hl 4 rfl) ?_
        refine lv_iconst (v := 2) hx hb d_L_law_450 (by decide) ?_
        refine lv_iadd hx hb d_L_law_451 ?_
        rw [show nI (1 + 4 * t) + 2 = nI (1 + 4 * t + 2) from nI_add (1 + 4 * t) 2]
        refine va_sld (A := aB G) hx hb hX hbl hbA hS.2.1 (vp_in_nI (by omega) (by omega)) d_L_law_452 ?_
        rw [nI_clamp (by omega)]
        refine lv_aload_n hx hb d_L_law_453 rfl (lv_at hl 3 rfl) ?_
        refine r_callW (As := [.ref a0, .int (xs (1 + 4 * t + 1)), .int (xs (1 + 4 * t + 2)), .ref ou]) (rest := []) F hS w_L_114 (j_ask G l htr V a0 a1 ou th g9 (t = 0) hJ (xs (1 + 4 * t + 1)) (xs (1 + 4 * t + 2))) rfl hl.1 rfl (Nat.le_of_ble_eq_true rfl) d_L_law_454 ⟨Nat.le_of_ble_eq_true rfl, Nat.le_of_ble_eq_true rfl⟩ ⟨by show cells + 2 ≤ 600002; omega, by show slots + 12 ≤ 7302198; omega⟩ (fun rv V1 H locs hR hS => ?_)
        obtain ⟨k9, rfl, ⟨fo, hfo⟩, hM2⟩ := hR
        refine W.eq (g2 := F0 m 457 ls [.int k9]) rfl ?_
        refine lv_istore (lv' := [(5, .int k9), (0, .ref b), (1, .ref a0), (2, .ref a1), (3, .ref ou), (4, .int (nI (1 + 4 * t)))]) hx hb d_L_law_457 hl (by decide) rfl (fun ls hl => ?_)
        refine lv_aload_n hx hb d_L_law_459 rfl (lv_at hl 3 rfl) ?_
        refine lv_aload_n hx hb d_L_law_460 rfl (lv_at hl 1 rfl) ?_
        refine lv_iload hx hb d_L_law_461 (lv_at hl 5 rfl) ?_
        refine lv_iconst (v := 1) hx hb d_L_law_463 (by decide) ?_
        refine lv_iadd hx hb d_L_law_464 ?_
        rw [show nI (1 + 4 * t) + 1 = nI (1 + 4 * t + 1) from nI_add (1 + 4 * t) 1]
        refine va_sld (A := aB G) hx hb hX hbl hbA hS.2.1 (vp_in_nI (by omega) (by omega)) d_L_law_465 ?_
        rw [nI_clamp (by omega)]
        refine lv_aload_n hx hb d_L_law_466 rfl (lv_at hl 1 rfl) ?_
        refine lv_iload hx hb d_L_law_467 (lv_at hl 5 rfl) ?_
        refine lv_iconst (v := 2) hx hb d_L_law_469 (by decide) ?_
        refine lv_iadd hx hb d_L_law_470 ?_
        rw [show nI (1 + 4 * t) + 2 = nI (1 + 4 * t + 2) from nI_add (1 + 4 * t) 2]
        refine va_sld (A := aB G) hx hb hX hbl hbA hS.2.1 (vp_in_nI (by omega) (by omega)) d_L_law_471 ?_
        rw [nI_clamp (by omega)]
        refine r_callV (k := 20) (i := 0) (q := ("RuleClassesModel", T_M, 30)) (fs := fo) (As := [.int (xs (1 + 4 * t + 1)), .int (xs (1 + 4 * t + 2))]) (rest := []) F hS c_L_117 hM2 rfl hfo rfl hl.1 rfl (Nat.le_of_ble_eq_true rfl) d_L_law_472 ⟨Nat.le_of_ble_eq_true rfl, Nat.le_of_ble_eq_true rfl⟩ ⟨by show cells + 2 + 0 ≤ 600002; omega, by show slots + 12 + 0 ≤ 7302198; omega⟩ (fun rv V1 H locs hR hS => ?_)
        obtain ⟨b9, rfl, g2, hJ, hfin⟩ := hR
        obtain ⟨fo, hfo⟩ := hJ.o
        have h50 := hJ.out
        refine W.eq (g2 := F0 m 475 ls [.int b9]) rfl ?_
        refine lv_istore (lv' := [(6, .int b9), (5, .int k9), (0, .ref b), (1, .ref a0), (2, .ref a1), (3, .ref ou), (4, .int (nI (1 + 4 * t)))]) hx hb d_L_law_475 hl (by decide) rfl (fun ls hl => ?_)
        refine lv_aload_n hx hb d_L_law_477 rfl (lv_at hl 4 rfl) ?_
        refine r_callV (k := 20) (i := 0) (q := ("RuleClassesModel", T_M, 30)) (fs := fo) (As := []) (rest := []) F hS c_L_96 (j_thrown G l htr V1 a0 a1 ou k9 g2 False hJ) rfl hfo rfl hl.1 rfl (Nat.le_of_ble_eq_true rfl) d_L_law_478 ⟨Nat.le_of_ble_eq_true rfl, Nat.le_of_ble_eq_true rfl⟩ ⟨by show cells + 2 + 0 + 0 ≤ 600002; omega, by show slots + 12 + 0 + 0 ≤ 7302198; omega⟩ (fun rv V1 H locs hR hS => ?_)
        obtain ⟨rfl, hV⟩ := hR
        rw [hV] at hS
        refine W.eq (g2 := F0 m 481 ls [.int k9]) rfl ?_
        refine lv_iload hx hb d_L_law_481 (lv_at hl 1 rfl) ?_
        refine lv_icmp_eq (tgt := 488) hx hb d_L_law_483 (by decide) (fun c_483 => ?_) (fun c_483 => absurd rfl c_483)
        refine lv_iload hx hb d_L_law_488 (lv_at hl 1 rfl) ?_
        refine lv_if_ne (tgt := 505) hx hb d_L_law_490 (by decide) (fun c_490 => ?_) (fun c_490 => ?_)
        · refine lv_goto (tgt := 1292) hx hb d_L_law_505 (by decide) ?_
          refine lv_iinc (v := (nI (1 + 4 * (t + 1)))) (lv' := [(4, .int (nI (1 + 4 * (t + 1)))), (6, .int b9), (5, .int k9), (0, .ref b), (1, .ref a0), (2, .ref a1), (3, .ref ou)]) hx hb d_L_law_1292 hl (k := 6) rfl (nI_4 t) (by decide) rfl (fun ls hl => ?_)
          refine lv_goto (tgt := 33) hx hb d_L_law_1295 (by decide) ?_
          exact ih (t + 1) (by omega) (by omega) _ _ _ _ _ _ _ _ (hJ.nb (fun z => absurd z (by omega))) hS (by first | omega | (dsimp only; omega)) (by first | omega | (dsimp only; omega)) (lv_sub hl [3, 4, 5, 6, 0] rfl)
        · refine lv_aload_n hx hb d_L_law_493 rfl (lv_at hl 5 rfl) ?_
          refine lv_iconst (v := 0) hx hb d_L_law_494 (by decide) ?_
          refine r_lald (k := 50) (i := 0) F hS h50 (vp_in_nI (n := 0) (by decide) (by decide)) d_L_law_495 ?_
          rw [show (0 : Int32).toNatClampNeg = 0 from rfl]
          refine lv_iload hx hb d_L_law_496 (lv_at hl 0 rfl) ?_
          refine lv_i2l (v := b9.toInt64) hx hb d_L_law_498 rfl ?_
          refine W.lcmp hx hb d_L_law_499 ?_
          refine lv_if_eq (tgt := 505) hx hb d_L_law_500 (by decide) (fun c_500 => ?_) (fun c_500 => absurd ((lg_cmp_eq _ _).mpr (hfin c_490)) c_500)
          refine lv_goto (tgt := 1292) hx hb d_L_law_505 (by decide) ?_
          refine lv_iinc (v := (nI (1 + 4 * (t + 1)))) (lv' := [(4, .int (nI (1 + 4 * (t + 1)))), (6, .int b9), (5, .int k9), (0, .ref b), (1, .ref a0), (2, .ref a1), (3, .ref ou)]) hx hb d_L_law_1292 hl (k := 6) rfl (nI_4 t) (by decide) rfl (fun ls hl => ?_)
          refine lv_goto (tgt := 33) hx hb d_L_law_1295 (by decide) ?_
          exact ih (t + 1) (by omega) (by omega) _ _ _ _ _ _ _ _ (hJ.nb (fun z => absurd z (by omega))) hS (by first | omega | (dsimp only; omega)) (by first | omega | (dsimp only; omega)) (lv_sub hl [3, 4, 5, 6, 0] rfl)
      · refine lv_tableIn (tgt := 508) (off := 459) hx hb d_L_law_49 (by decide) (by decide) (by decide) (by decide) ?_
        refine lv_aload_n hx hb d_L_law_508 rfl (lv_at hl 1 rfl) ?_
        refine lv_aload_n hx hb d_L_law_509 rfl (lv_at hl 0 rfl) ?_
        refine lv_iload hx hb d_L_law_510 (lv_at hl 4 rfl) ?_
        refine lv_iconst (v := 1) hx hb d_L_law_512 (by decide) ?_
        refine lv_iadd hx hb d_L_law_513 ?_
        rw [show nI (1 + 4 * t) + 1 = nI (1 + 4 * t + 1) from nI_add (1 + 4 * t) 1]
        refine va_sld (A := aB G) hx hb hX hbl hbA hS.2.1 (vp_in_nI (by omega) (by omega)) d_L_law_514 ?_
        rw [nI_clamp (by omega)]
        refine lv_aload_n hx hb d_L_law_515 rfl (lv_at hl 0 rfl) ?_
        refine lv_iload hx hb d_L_law_516 (lv_at hl 4 rfl) ?_
        refine lv_iconst (v := 2) hx hb d_L_law_518 (by decide) ?_
        refine lv_iadd hx hb d_L_law_519 ?_
        rw [show nI (1 + 4 * t) + 2 = nI (1 + 4 * t + 2) from nI_add (1 + 4 * t) 2]
        refine va_sld (A := aB G) hx hb hX hbl hbA hS.2.1 (vp_in_nI (by omega) (by omega)) d_L_law_520 ?_
        rw [nI_clamp (by omega)]
        refine r_callW (As := [.ref a0, .int (xs (1 + 4 * t + 1)), .int (xs (1 + 4 * t + 2))]) (rest := []) F hS w_L_118 (j_fallback G l htr V a0 a1 ou th g9 (t = 0) hJ (xs (1 + 4 * t + 1)) (xs (1 + 4 * t + 2))) rfl hl.1 rfl (Nat.le_of_ble_eq_true rfl) d_L_law_521 ⟨Nat.le_of_ble_eq_true rfl, Nat.le_of_ble_eq_true rfl⟩ ⟨by show cells + 2 ≤ 600002; omega, by show slots + 12 ≤ 7302198; omega⟩ (fun rv V1 H locs hR hS => ?_)
        obtain ⟨k9, rfl, ⟨fo, hfo⟩, hM2⟩ := hR
        refine W.eq (g2 := F0 m 524 ls [.int k9]) rfl ?_
        refine lv_istore (lv' := [(5, .int k9), (0, .ref b), (1, .ref a0), (2, .ref a1), (3, .ref ou), (4, .int (nI (1 + 4 * t)))]) hx hb d_L_law_524 hl (by decide) rfl (fun ls hl => ?_)
        refine lv_aload_n hx hb d_L_law_526 rfl (lv_at hl 3 rfl) ?_
        refine lv_aload_n hx hb d_L_law_527 rfl (lv_at hl 1 rfl) ?_
        refine lv_iload hx hb d_L_law_528 (lv_at hl 5 rfl) ?_
        refine lv_iconst (v := 1) hx hb d_L_law_530 (by decide) ?_
        refine lv_iadd hx hb d_L_law_531 ?_
        rw [show nI (1 + 4 * t) + 1 = nI (1 + 4 * t + 1) from nI_add (1 + 4 * t) 1]
        refine va_sld (A := aB G) hx hb hX hbl hbA hS.2.1 (vp_in_nI (by omega) (by omega)) d_L_law_532 ?_
        rw [nI_clamp (by omega)]
        refine lv_aload_n hx hb d_L_law_533 rfl (lv_at hl 1 rfl) ?_
        refine lv_iload hx hb d_L_law_534 (lv_at hl 5 rfl) ?_
        refine lv_iconst (v := 2) hx hb d_L_law_536 (by decide) ?_
        refine lv_iadd hx hb d_L_law_537 ?_
        rw [show nI (1 + 4 * t) + 2 = nI (1 + 4 * t + 2) from nI_add (1 + 4 * t) 2]
        refine va_sld (A := aB G) hx hb hX hbl hbA hS.2.1 (vp_in_nI (by omega) (by omega)) d_L_law_538 ?_
        rw [nI_clamp (by omega)]
        refine r_callV (k := 20) (i := 0) (q := ("RuleClassesModel", T_M, 30)) (fs := fo) (As := [.int (xs (1 + 4 * t + 1)), .int (xs (1 + 4 * t + 2))]) (rest := []) F hS c_L_120 hM2 rfl hfo rfl hl.1 rfl (Nat.le_of_ble_eq_true rfl) d_L_law_539 ⟨Nat.le_of_ble_eq_true rfl, Nat.le_of_ble_eq_true rfl⟩ ⟨by show cells + 2 + 0 ≤ 600002; omega, by show slots + 12 + 0 ≤ 7302198; omega⟩ (fun rv V1 H locs hR hS => ?_)
        obtain ⟨rfl, g2, hJ⟩ := hR
        obtain ⟨fo, hfo⟩ := hJ.o
        have h50 := hJ.out
        refine W.eq (g2 := F0 m 542 ls []) rfl ?_
        refine lv_aload_n hx hb d_L_law_542 rfl (lv_at hl 3 rfl) ?_
        refine r_callV (k := 20) (i := 0) (q := ("RuleClassesModel", T_M, 30)) (fs := fo) (As := []) (rest := []) F hS c_L_96 (j_thrown G l htr V1 a0 a1 ou k9 g2 False hJ) rfl hfo rfl hl.1 rfl (Nat.le_of_ble_eq_true rfl) d_L_law_543 ⟨Nat.le_of_ble_eq_true rfl, Nat.le_of_ble_eq_true rfl⟩ ⟨by show cells + 2 + 0 + 0 ≤ 600002; omega, by show slots + 12 + 0 + 0 ≤ 7302198; omega⟩ (fun rv V1 H locs hR hS => ?_)
        obtain ⟨rfl, hV⟩ := hR
        rw [hV] at hS
        refine W.eq (g2 := F0 m 546 ls [.int k9]) rfl ?_
        refine lv_iload hx hb d_L_law_546 (lv_at hl 0 rfl) ?_
        refine lv_icmp_eq (tgt := 553) hx hb d_L_law_548 (by decide) (fun c_548 => ?_) (fun c_548 => absurd rfl c_548)
        refine lv_goto (tgt := 1292) hx hb d_L_law_553 (by decide) ?_
        refine lv_iinc (v := (nI (1 + 4 * (t + 1)))) (lv' := [(4, .int (nI (1 + 4 * (t + 1)))), (5, .int k9), (0, .ref b), (1, .ref a0), (2, .ref a1), (3, .ref ou)]) hx hb d_L_law_1292 hl (k := 5) rfl (nI_4 t) (by decide) rfl (fun ls hl => ?_)
        refine lv_goto (tgt := 33) hx hb d_L_law_1295 (by decide) ?_
        exact ih (t + 1) (by omega) (by omega) _ _ _ _ _ _ _ _ (hJ.nb (fun z => absurd z (by omega))) hS (by first | omega | (dsimp only; omega)) (by first | omega | (dsimp only; omega)) (lv_sub hl [2, 3, 4, 5, 0] rfl)
      · refine lv_tableIn (tgt := 556) (off := 507) hx hb d_L_law_49 (by decide) (by decide) (by decide) (by decide) ?_
        refine lv_aload_n hx hb d_L_law_556 rfl (lv_at hl 1 rfl) ?_
        refine lv_aload_n hx hb d_L_law_557 rfl (lv_at hl 0 rfl) ?_
        refine lv_iload hx hb d_L_law_558 (lv_at hl 4 rfl) ?_
        refine lv_iconst (v := 1) hx hb d_L_law_560 (by decide) ?_
        refine lv_iadd hx hb d_L_law_561 ?_
        rw [show nI (1 + 4 * t) + 1 = nI (1 + 4 * t + 1) from nI_add (1 + 4 * t) 1]
        refine va_sld (A := aB G) hx hb hX hbl hbA hS.2.1 (vp_in_nI (by omega) (by omega)) d_L_law_562 ?_
        rw [nI_clamp (by omega)]
        refine lv_aload_n hx hb d_L_law_563 rfl (lv_at hl 0 rfl) ?_
        refine lv_iload hx hb d_L_law_564 (lv_at hl 4 rfl) ?_
        refine lv_iconst (v := 2) hx hb d_L_law_566 (by decide) ?_
        refine lv_iadd hx hb d_L_law_567 ?_
        rw [show nI (1 + 4 * t) + 2 = nI (1 + 4 * t + 2) from nI_add (1 + 4 * t) 2]
        refine va_sld (A := aB G) hx hb hX hbl hbA hS.2.1 (vp_in_nI (by omega) (by omega)) d_L_law_568 ?_
        rw [nI_clamp (by omega)]
        refine lv_aload_n hx hb d_L_law_569 rfl (lv_at hl 0 rfl) ?_
        refine lv_iload hx hb d_L_law_570 (lv_at hl 4 rfl) ?_
        refine lv_iconst (v := 3) hx hb d_L_law_572 (by decide) ?_
        refine lv_iadd hx hb d_L_law_573 ?_
        rw [show nI (1 + 4 * t) + 3 = nI (1 + 4 * t + 3) from nI_add (1 + 4 * t) 3]
        refine va_sld (A := aB G) hx hb hX hbl hbA hS.2.1 (vp_in_nI (by omega) (by omega)) d_L_law_574 ?_
        rw [nI_clamp (by omega)]
        refine lv_aload_n hx hb d_L_law_575 rfl (lv_at hl 3 rfl) ?_
        refine r_callW (As := [.ref a0, .int (xs (1 + 4 * t + 1)), .int (xs (1 + 4 * t + 2)), .int (xs (1 + 4 * t + 3)), .ref ou]) (rest := []) F hS w_L_121 (j_edition G l htr V a0 a1 ou th g9 (t = 0) hJ (xs (1 + 4 * t + 1)) (xs (1 + 4 * t + 2)) (xs (1 + 4 * t + 3))) rfl hl.1 rfl (Nat.le_of_ble_eq_true rfl) d_L_law_576 ⟨Nat.le_of_ble_eq_true rfl, Nat.le_of_ble_eq_true rfl⟩ ⟨by show cells + 3 ≤ 600002; omega, by show slots + 18 ≤ 7302198; omega⟩ (fun rv V1 H locs hR hS => ?_)
        obtain ⟨k9, rfl, ⟨fo, hfo⟩, hM2⟩ := hR
        refine W.eq (g2 := F0 m 579 ls [.int k9]) rfl ?_
        refine lv_istore (lv' := [(5, .int k9), (0, .ref b), (1, .ref a0), (2, .ref a1), (3, .ref ou), (4, .int (nI (1 + 4 * t)))]) hx hb d_L_law_579 hl (by decide) rfl (fun ls hl => ?_)
        refine lv_aload_n hx hb d_L_law_581 rfl (lv_at hl 3 rfl) ?_
        refine lv_aload_n hx hb d_L_law_582 rfl (lv_at hl 1 rfl) ?_
        refine lv_iload hx hb d_L_law_583 (lv_at hl 5 rfl) ?_
        refine lv_iconst (v := 1) hx hb d_L_law_585 (by decide) ?_
        refine lv_iadd hx hb d_L_law_586 ?_
        rw [show nI (1 + 4 * t) + 1 = nI (1 + 4 * t + 1) from nI_add (1 + 4 * t) 1]
        refine va_sld (A := aB G) hx hb hX hbl hbA hS.2.1 (vp_in_nI (by omega) (by omega)) d_L_law_587 ?_
        rw [nI_clamp (by omega)]
        refine lv_aload_n hx hb d_L_law_588 rfl (lv_at hl 1 rfl) ?_
        refine lv_iload hx hb d_L_law_589 (lv_at hl 5 rfl) ?_
        refine lv_iconst (v := 2) hx hb d_L_law_591 (by decide) ?_
        refine lv_iadd hx hb d_L_law_592 ?_
        rw [show nI (1 + 4 * t) + 2 = nI (1 + 4 * t + 2) from nI_add (1 + 4 * t) 2]
        refine va_sld (A := aB G) hx hb hX hbl hbA hS.2.1 (vp_in_nI (by omega) (by omega)) d_L_law_593 ?_
        rw [nI_clamp (by omega)]
        refine lv_aload_n hx hb d_L_law_594 rfl (lv_at hl 1 rfl) ?_
        refine lv_iload hx hb d_L_law_595 (lv_at hl 5 rfl) ?_
        refine lv_iconst (v := 3) hx hb d_L_law_597 (by decide) ?_
        refine lv_iadd hx hb d_L_law_598 ?_
        rw [show nI (1 + 4 * t) + 3 = nI (1 + 4 * t + 3) from nI_add (1 + 4 * t) 3]
        refine va_sld (A := aB G) hx hb hX hbl hbA hS.2.1 (vp_in_nI (by omega) (by omega)) d_L_law_599 ?_
        rw [nI_clamp (by omega)]
        refine r_callV (k := 20) (i := 0) (q := ("RuleClassesModel", T_M, 30)) (fs := fo) (As := [.int (xs (1 + 4 * t + 1)), .int (xs (1 + 4 * t + 2)), .int (xs (1 + 4 * t + 3))]) (rest := []) F hS c_L_123 hM2 rfl hfo rfl hl.1 rfl (Nat.le_of_ble_eq_true rfl) d_L_law_600 ⟨Nat.le_of_ble_eq_true rfl, Nat.le_of_ble_eq_true rfl⟩ ⟨by show cells + 3 + 0 ≤ 600002; omega, by show slots + 18 + 0 ≤ 7302198; omega⟩ (fun rv V1 H locs hR hS => ?_)
        obtain ⟨b9, rfl, g2, hJ, hfin⟩ := hR
        obtain ⟨fo, hfo⟩ := hJ.o
        have h50 := hJ.out
        refine W.eq (g2 := F0 m 603 ls [.int b9]) rfl ?_
        refine lv_istore (lv' := [(6, .int b9), (5, .int k9), (0, .ref b), (1, .ref a0), (2, .ref a1), (3, .ref ou), (4, .int (nI (1 + 4 * t)))]) hx hb d_L_law_603 hl (by decide) rfl (fun ls hl => ?_)
        refine lv_aload_n hx hb d_L_law_605 rfl (lv_at hl 4 rfl) ?_
        refine r_callV (k := 20) (i := 0) (q := ("RuleClassesModel", T_M, 30)) (fs := fo) (As := []) (rest := []) F hS c_L_96 (j_thrown G l htr V1 a0 a1 ou k9 g2 False hJ) rfl hfo rfl hl.1 rfl (Nat.le_of_ble_eq_true rfl) d_L_law_606 ⟨Nat.le_of_ble_eq_true rfl, Nat.le_of_ble_eq_true rfl⟩ ⟨by show cells + 3 + 0 + 0 ≤ 600002; omega, by show slots + 18 + 0 + 0 ≤ 7302198; omega⟩ (fun rv V1 H locs hR hS => ?_)
        obtain ⟨rfl, hV⟩ := hR
        rw [hV] at hS
        refine W.eq (g2 := F0 m 609 ls [.int k9]) rfl ?_
        refine lv_iload hx hb d_L_law_609 (lv_at hl 1 rfl) ?_
        refine lv_icmp_eq (tgt := 616) hx hb d_L_law_611 (by decide) (fun c_611 => ?_) (fun c_611 => absurd rfl c_611)
        refine lv_iload hx hb d_L_law_616 (lv_at hl 1 rfl) ?_
        refine lv_if_ne (tgt := 633) hx hb d_L_law_618 (by decide) (fun c_618 => ?_) (fun c_618 => ?_)
        · refine lv_goto (tgt := 1292) hx hb d_L_law_633 (by decide) ?_
          refine lv_iinc (v := (nI (1 + 4 * (t + 1)))) (lv' := [(4, .int (nI (1 + 4 * (t + 1)))), (6, .int b9), (5, .int k9), (0, .ref b), (1, .ref a0), (2, .ref a1), (3, .ref ou)]) hx hb d_L_law_1292 hl (k := 6) rfl (nI_4 t) (by decide) rfl (fun ls hl => ?_)
          refine lv_goto (tgt := 33) hx hb d_L_law_1295 (by decide) ?_
          exact ih (t + 1) (by omega) (by omega) _ _ _ _ _ _ _ _ (hJ.nb (fun z => absurd z (by omega))) hS (by first | omega | (dsimp only; omega)) (by first | omega | (dsimp only; omega)) (lv_sub hl [3, 4, 5, 6, 0] rfl)
        · refine lv_aload_n hx hb d_L_law_621 rfl (lv_at hl 5 rfl) ?_
          refine lv_iconst (v := 0) hx hb d_L_law_622 (by decide) ?_
          refine r_lald (k := 50) (i := 0) F hS h50 (vp_in_nI (n := 0) (by decide) (by decide)) d_L_law_623 ?_
          rw [show (0 : Int32).toNatClampNeg = 0 from rfl]
          refine lv_iload hx hb d_L_law_624 (lv_at hl 0 rfl) ?_
          refine lv_i2l (v := b9.toInt64) hx hb d_L_law_626 rfl ?_
          refine W.lcmp hx hb d_L_law_627 ?_
          refine lv_if_eq (tgt := 633) hx hb d_L_law_628 (by decide) (fun c_628 => ?_) (fun c_628 => absurd ((lg_cmp_eq _ _).mpr (hfin c_618)) c_628)
          refine lv_goto (tgt := 1292) hx hb d_L_law_633 (by decide) ?_
          refine lv_iinc (v := (nI (1 + 4 * (t + 1)))) (lv' := [(4, .int (nI (1 + 4 * (t + 1)))), (6, .int b9), (5, .int k9), (0, .ref b), (1, .ref a0), (2, .ref a1), (3, .ref ou)]) hx hb d_L_law_1292 hl (k := 6) rfl (nI_4 t) (by decide) rfl (fun ls hl => ?_)
          refine lv_goto (tgt := 33) hx hb d_L_law_1295 (by decide) ?_
          exact ih (t + 1) (by omega) (by omega) _ _ _ _ _ _ _ _ (hJ.nb (fun z => absurd z (by omega))) hS (by first | omega | (dsimp only; omega)) (by first | omega | (dsimp only; omega)) (lv_sub hl [3, 4, 5, 6, 0] rfl)
      · refine lv_tableIn (tgt := 636) (off := 587) hx hb d_L_law_49 (by decide) (by decide) (by decide) (by decide) ?_
        refine lv_aload_n hx hb d_L_law_636 rfl (lv_at hl 1 rfl) ?_
        refine lv_aload_n hx hb d_L_law_637 rfl (lv_at hl 0 rfl) ?_
        refine lv_iload hx hb d_L_law_638 (lv_at hl 4 rfl) ?_
        refine lv_iconst (v := 1) hx hb d_L_law_640 (by decide) ?_
        refine lv_iadd hx hb d_L_law_641 ?_
        rw [show nI (1 + 4 * t) + 1 = nI (1 + 4 * t + 1) from nI_add (1 + 4 * t) 1]
        refine va_sld (A := aB G) hx hb hX hbl hbA hS.2.1 (vp_in_nI (by omega) (by omega)) d_L_law_642 ?_
        rw [nI_clamp (by omega)]
        refine lv_aload_n hx hb d_L_law_643 rfl (lv_at hl 0 rfl) ?_
        refine lv_iload hx hb d_L_law_644 (lv_at hl 4 rfl) ?_
        refine lv_iconst (v := 2) hx hb d_L_law_646 (by decide) ?_
        refine lv_iadd hx hb d_L_law_647 ?_
        rw [show nI (1 + 4 * t) + 2 = nI (1 + 4 * t + 2) from nI_add (1 + 4 * t) 2]
        refine va_sld (A := aB G) hx hb hX hbl hbA hS.2.1 (vp_in_nI (by omega) (by omega)) d_L_law_648 ?_
        rw [nI_clamp (by omega)]
        refine lv_aload_n hx hb d_L_law_649 rfl (lv_at hl 3 rfl) ?_
        refine r_callW (As := [.ref a0, .int (xs (1 + 4 * t + 1)), .int (xs (1 + 4 * t + 2)), .ref ou]) (rest := []) F hS w_L_124 (j_failed G l htr V a0 a1 ou th g9 (t = 0) hJ (xs (1 + 4 * t + 1)) (xs (1 + 4 * t + 2))) rfl hl.1 rfl (Nat.le_of_ble_eq_true rfl) d_L_law_650 ⟨Nat.le_of_ble_eq_true rfl, Nat.le_of_ble_eq_true rfl⟩ ⟨by show cells + 2 ≤ 600002; omega, by show slots + 12 ≤ 7302198; omega⟩ (fun rv V1 H locs hR hS => ?_)
        obtain ⟨k9, rfl, ⟨fo, hfo⟩, hM2⟩ := hR
        refine W.eq (g2 := F0 m 653 ls [.int k9]) rfl ?_
        refine lv_istore (lv' := [(5, .int k9), (0, .ref b), (1, .ref a0), (2, .ref a1), (3, .ref ou), (4, .int (nI (1 + 4 * t)))]) hx hb d_L_law_653 hl (by decide) rfl (fun ls hl => ?_)
        refine lv_aload_n hx hb d_L_law_655 rfl (lv_at hl 3 rfl) ?_
        refine lv_aload_n hx hb d_L_law_656 rfl (lv_at hl 1 rfl) ?_
        refine lv_iload hx hb d_L_law_657 (lv_at hl 5 rfl) ?_
        refine lv_iconst (v := 1) hx hb d_L_law_659 (by decide) ?_
        refine lv_iadd hx hb d_L_law_660 ?_
        rw [show nI (1 + 4 * t) + 1 = nI (1 + 4 * t + 1) from nI_add (1 + 4 * t) 1]
        refine va_sld (A := aB G) hx hb hX hbl hbA hS.2.1 (vp_in_nI (by omega) (by omega)) d_L_law_661 ?_
        rw [nI_clamp (by omega)]
        refine lv_aload_n hx hb d_L_law_662 rfl (lv_at hl 1 rfl) ?_
        refine lv_iload hx hb d_L_law_663 (lv_at hl 5 rfl) ?_
        refine lv_iconst (v := 2) hx hb d_L_law_665 (by decide) ?_
        refine lv_iadd hx hb d_L_law_666 ?_
        rw [show nI (1 + 4 * t) + 2 = nI (1 + 4 * t + 2) from nI_add (1 + 4 * t) 2]
        refine va_sld (A := aB G) hx hb hX hbl hbA hS.2.1 (vp_in_nI (by omega) (by omega)) d_L_law_667 ?_
        rw [nI_clamp (by omega)]
        refine r_callV (k := 20) (i := 0) (q := ("RuleClassesModel", T_M, 30)) (fs := fo) (As := [.int (xs (1 + 4 * t + 1)), .int (xs (1 + 4 * t + 2))]) (rest := []) F hS c_L_126 hM2 rfl hfo rfl hl.1 rfl (Nat.le_of_ble_eq_true rfl) d_L_law_668 ⟨Nat.le_of_ble_eq_true rfl, Nat.le_of_ble_eq_true rfl⟩ ⟨by show cells + 2 + 0 ≤ 600002; omega, by show slots + 12 + 0 ≤ 7302198; omega⟩ (fun rv V1 H locs hR hS => ?_)
        obtain ⟨b9, rfl, g2, hJ, hfin⟩ := hR
        obtain ⟨fo, hfo⟩ := hJ.o
        have h50 := hJ.out
        refine W.eq (g2 := F0 m 671 ls [.int b9]) rfl ?_
        refine lv_istore (lv' := [(6, .int b9), (5, .int k9), (0, .ref b), (1, .ref a0), (2, .ref a1), (3, .ref ou), (4, .int (nI (1 + 4 * t)))]) hx hb d_L_law_671 hl (by decide) rfl (fun ls hl => ?_)
        refine lv_aload_n hx hb d_L_law_673 rfl (lv_at hl 4 rfl) ?_
        refine r_callV (k := 20) (i := 0) (q := ("RuleClassesModel", T_M, 30)) (fs := fo) (As := []) (rest := []) F hS c_L_96 (j_thrown G l htr V1 a0 a1 ou k9 g2 False hJ) rfl hfo rfl hl.1 rfl (Nat.le_of_ble_eq_true rfl) d_L_law_674 ⟨Nat.le_of_ble_eq_true rfl, Nat.le_of_ble_eq_true rfl⟩ ⟨by show cells + 2 + 0 + 0 ≤ 600002; omega, by show slots + 12 + 0 + 0 ≤ 7302198; omega⟩ (fun rv V1 H locs hR hS => ?_)
        obtain ⟨rfl, hV⟩ := hR
        rw [hV] at hS
        refine W.eq (g2 := F0 m 677 ls [.int k9]) rfl ?_
        refine lv_iload hx hb d_L_law_677 (lv_at hl 1 rfl) ?_
        refine lv_icmp_eq (tgt := 684) hx hb d_L_law_679 (by decide) (fun c_679 => ?_) (fun c_679 => absurd rfl c_679)
        refine lv_iload hx hb d_L_law_684 (lv_at hl 1 rfl) ?_
        refine lv_if_ne (tgt := 701) hx hb d_L_law_686 (by decide) (fun c_686 => ?_) (fun c_686 => ?_)
        · refine lv_goto (tgt := 1292) hx hb d_L_law_701 (by decide) ?_
          refine lv_iinc (v := (nI (1 + 4 * (t + 1)))) (lv' := [(4, .int (nI (1 + 4 * (t + 1)))), (6, .int b9), (5, .int k9), (0, .ref b), (1, .ref a0), (2, .ref a1), (3, .ref ou)]) hx hb d_L_law_1292 hl (k := 6) rfl (nI_4 t) (by decide) rfl (fun ls hl => ?_)
          refine lv_goto (tgt := 33) hx hb d_L_law_1295 (by decide) ?_
          exact ih (t + 1) (by omega) (by omega) _ _ _ _ _ _ _ _ (hJ.nb (fun z => absurd z (by omega))) hS (by first | omega | (dsimp only; omega)) (by first | omega | (dsimp only; omega)) (lv_sub hl [3, 4, 5, 6, 0] rfl)
        · refine lv_aload_n hx hb d_L_law_689 rfl (lv_at hl 5 rfl) ?_
          refine lv_iconst (v := 0) hx hb d_L_law_690 (by decide) ?_
          refine r_lald (k := 50) (i := 0) F hS h50 (vp_in_nI (n := 0) (by decide) (by decide)) d_L_law_691 ?_
          rw [show (0 : Int32).toNatClampNeg = 0 from rfl]
          refine lv_iload hx hb d_L_law_692 (lv_at hl 0 rfl) ?_
          refine lv_i2l (v := b9.toInt64) hx hb d_L_law_694 rfl ?_
          refine W.lcmp hx hb d_L_law_695 ?_
          refine lv_if_eq (tgt := 701) hx hb d_L_law_696 (by decide) (fun c_696 => ?_) (fun c_696 => absurd ((lg_cmp_eq _ _).mpr (hfin c_686)) c_696)
          refine lv_goto (tgt := 1292) hx hb d_L_law_701 (by decide) ?_
          refine lv_iinc (v := (nI (1 + 4 * (t + 1)))) (lv' := [(4, .int (nI (1 + 4 * (t + 1)))), (6, .int b9), (5, .int k9), (0, .ref b), (1, .ref a0), (2, .ref a1), (3, .ref ou)]) hx hb d_L_law_1292 hl (k := 6) rfl (nI_4 t) (by decide) rfl (fun ls hl => ?_)
          refine lv_goto (tgt := 33) hx hb d_L_law_1295 (by decide) ?_
          exact ih (t + 1) (by omega) (by omega) _ _ _ _ _ _ _ _ (hJ.nb (fun z => absurd z (by omega))) hS (by first | omega | (dsimp only; omega)) (by first | omega | (dsimp only; omega)) (lv_sub hl [3, 4, 5, 6, 0] rfl)
      · refine lv_tableIn (tgt := 704) (off := 655) hx hb d_L_law_49 (by decide) (by decide) (by decide) (by decide) ?_
        refine lv_aload_n hx hb d_L_law_704 rfl (lv_at hl 1 rfl) ?_
        refine lv_aload_n hx hb d_L_law_705 rfl (lv_at hl 0 rfl) ?_
        refine lv_iload hx hb d_L_law_706 (lv_at hl 4 rfl) ?_
        refine lv_iconst (v := 1) hx hb d_L_law_708 (by decide) ?_
        refine lv_iadd hx hb d_L_law_709 ?_
        rw [show nI (1 + 4 * t) + 1 = nI (1 + 4 * t + 1) from nI_add (1 + 4 * t) 1]
        refine va_sld (A := aB G) hx hb hX hbl hbA hS.2.1 (vp_in_nI (by omega) (by omega)) d_L_law_710 ?_
        rw [nI_clamp (by omega)]
        refine lv_aload_n hx hb d_L_law_711 rfl (lv_at hl 3 rfl) ?_
        refine r_callW (As := [.ref a0, .int (xs (1 + 4 * t + 1)), .ref ou]) (rest := []) F hS w_L_127 (j_handle G l htr V a0 a1 ou th g9 (t = 0) hJ (xs (1 + 4 * t + 1))) rfl hl.1 rfl (Nat.le_of_ble_eq_true rfl) d_L_law_712 ⟨Nat.le_of_ble_eq_true rfl, Nat.le_of_ble_eq_true rfl⟩ ⟨by show cells + 2 ≤ 600002; omega, by show slots + 12 ≤ 7302198; omega⟩ (fun rv V1 H locs hR hS => ?_)
        obtain ⟨k9, rfl, ⟨fo, hfo⟩, hM2⟩ := hR
        refine W.eq (g2 := F0 m 715 ls [.int k9]) rfl ?_
        refine lv_istore (lv' := [(5, .int k9), (0, .ref b), (1, .ref a0), (2, .ref a1), (3, .ref ou), (4, .int (nI (1 + 4 * t)))]) hx hb d_L_law_715 hl (by decide) rfl (fun ls hl => ?_)
        refine lv_aload_n hx hb d_L_law_717 rfl (lv_at hl 3 rfl) ?_
        refine lv_aload_n hx hb d_L_law_718 rfl (lv_at hl 1 rfl) ?_
        refine lv_iload hx hb d_L_law_719 (lv_at hl 5 rfl) ?_
        refine lv_iconst (v := 1) hx hb d_L_law_721 (by decide) ?_
        refine lv_iadd hx hb d_L_law_722 ?_
        rw [show nI (1 + 4 * t) + 1 = nI (1 + 4 * t + 1) from nI_add (1 + 4 * t) 1]
        refine va_sld (A := aB G) hx hb hX hbl hbA hS.2.1 (vp_in_nI (by omega) (by omega)) d_L_law_723 ?_
        rw [nI_clamp (by omega)]
        refine r_callV (k := 20) (i := 0) (q := ("RuleClassesModel", T_M, 30)) (fs := fo) (As := [.int (xs (1 + 4 * t + 1))]) (rest := []) F hS c_L_129 hM2 rfl hfo rfl hl.1 rfl (Nat.le_of_ble_eq_true rfl) d_L_law_724 ⟨Nat.le_of_ble_eq_true rfl, Nat.le_of_ble_eq_true rfl⟩ ⟨by show cells + 2 + 0 ≤ 600002; omega, by show slots + 12 + 0 ≤ 7302198; omega⟩ (fun rv V1 H locs hR hS => ?_)
        obtain ⟨b9, rfl, g2, hJ, hfin⟩ := hR
        obtain ⟨fo, hfo⟩ := hJ.o
        have h50 := hJ.out
        refine W.eq (g2 := F0 m 727 ls [.int b9]) rfl ?_
        refine lv_istore (lv' := [(6, .int b9), (5, .int k9), (0, .ref b), (1, .ref a0), (2, .ref a1), (3, .ref ou), (4, .int (nI (1 + 4 * t)))]) hx hb d_L_law_727 hl (by decide) rfl (fun ls hl => ?_)
        refine lv_aload_n hx hb d_L_law_729 rfl (lv_at hl 4 rfl) ?_
        refine r_callV (k := 20) (i := 0) (q := ("RuleClassesModel", T_M, 30)) (fs := fo) (As := []) (rest := []) F hS c_L_96 (j_thrown G l htr V1 a0 a1 ou k9 g2 False hJ) rfl hfo rfl hl.1 rfl (Nat.le_of_ble_eq_true rfl) d_L_law_730 ⟨Nat.le_of_ble_eq_true rfl, Nat.le_of_ble_eq_true rfl⟩ ⟨by show cells + 2 + 0 + 0 ≤ 600002; omega, by show slots + 12 + 0 + 0 ≤ 7302198; omega⟩ (fun rv V1 H locs hR hS => ?_)
        obtain ⟨rfl, hV⟩ := hR
        rw [hV] at hS
        refine W.eq (g2 := F0 m 733 ls [.int k9]) rfl ?_
        refine lv_iload hx hb d_L_law_733 (lv_at hl 1 rfl) ?_
        refine lv_icmp_eq (tgt := 740) hx hb d_L_law_735 (by decide) (fun c_735 => ?_) (fun c_735 => absurd rfl c_735)
        refine lv_iload hx hb d_L_law_740 (lv_at hl 1 rfl) ?_
        refine lv_if_ne (tgt := 757) hx hb d_L_law_742 (by decide) (fun c_742 => ?_) (fun c_742 => ?_)
        · refine lv_goto (tgt := 1292) hx hb d_L_law_757 (by decide) ?_
          refine lv_iinc (v := (nI (1 + 4 * (t + 1)))) (lv' := [(4, .int (nI (1 + 4 * (t + 1)))), (6, .int b9), (5, .int k9), (0, .ref b), (1, .ref a0), (2, .ref a1), (3, .ref ou)]) hx hb d_L_law_1292 hl (k := 6) rfl (nI_4 t) (by decide) rfl (fun ls hl => ?_)
          refine lv_goto (tgt := 33) hx hb d_L_law_1295 (by decide) ?_
          exact ih (t + 1) (by omega) (by omega) _ _ _ _ _ _ _ _ (hJ.nb (fun z => absurd z (by omega))) hS (by first | omega | (dsimp only; omega)) (by first | omega | (dsimp only; omega)) (lv_sub hl [3, 4, 5, 6, 0] rfl)
        · refine lv_aload_n hx hb d_L_law_745 rfl (lv_at hl 5 rfl) ?_
          refine lv_iconst (v := 0) hx hb d_L_law_746 (by decide) ?_
          refine r_lald (k := 50) (i := 0) F hS h50 (vp_in_nI (n := 0) (by decide) (by decide)) d_L_law_747 ?_
          rw [show (0 : Int32).toNatClampNeg = 0 from rfl]
          refine lv_iload hx hb d_L_law_748 (lv_at hl 0 rfl) ?_
          refine lv_i2l (v := b9.toInt64) hx hb d_L_law_750 rfl ?_
          refine W.lcmp hx hb d_L_law_751 ?_
          refine lv_if_eq (tgt := 757) hx hb d_L_law_752 (by decide) (fun c_752 => ?_) (fun c_752 => absurd ((lg_cmp_eq _ _).mpr (hfin c_742)) c_752)
          refine lv_goto (tgt := 1292) hx hb d_L_law_757 (by decide) ?_
          refine lv_iinc (v := (nI (1 + 4 * (t + 1)))) (lv' := [(4, .int (nI (1 + 4 * (t + 1)))), (6, .int b9), (5, .int k9), (0, .ref b), (1, .ref a0), (2, .ref a1), (3, .ref ou)]) hx hb d_L_law_1292 hl (k := 6) rfl (nI_4 t) (by decide) rfl (fun ls hl => ?_)
          refine lv_goto (tgt := 33) hx hb d_L_law_1295 (by decide) ?_
          exact ih (t + 1) (by omega) (by omega) _ _ _ _ _ _ _ _ (hJ.nb (fun z => absurd z (by omega))) hS (by first | omega | (dsimp only; omega)) (by first | omega | (dsimp only; omega)) (lv_sub hl [3, 4, 5, 6, 0] rfl)
      · refine lv_tableIn (tgt := 760) (off := 711) hx hb d_L_law_49 (by decide) (by decide) (by decide) (by decide) ?_
        refine lv_aload_n hx hb d_L_law_760 rfl (lv_at hl 1 rfl) ?_
        refine lv_aload_n hx hb d_L_law_761 rfl (lv_at hl 0 rfl) ?_
        refine lv_iload hx hb d_L_law_762 (lv_at hl 4 rfl) ?_
        refine lv_iconst (v := 1) hx hb d_L_law_764 (by decide) ?_
        refine lv_iadd hx hb d_L_law_765 ?_
        rw [show nI (1 + 4 * t) + 1 = nI (1 + 4 * t + 1) from nI_add (1 + 4 * t) 1]
        refine va_sld (A := aB G) hx hb hX hbl hbA hS.2.1 (vp_in_nI (by omega) (by omega)) d_L_law_766 ?_
        rw [nI_clamp (by omega)]
        refine lv_aload_n hx hb d_L_law_767 rfl (lv_at hl 3 rfl) ?_
        refine r_callW (As := [.ref a0, .int (xs (1 + 4 * t + 1)), .ref ou]) (rest := []) F hS w_L_130 (j_by G l htr V a0 a1 ou th g9 (t = 0) hJ (xs (1 + 4 * t + 1))) rfl hl.1 rfl (Nat.le_of_ble_eq_true rfl) d_L_law_768 ⟨Nat.le_of_ble_eq_true rfl, Nat.le_of_ble_eq_true rfl⟩ ⟨by show cells + 2 ≤ 600002; omega, by show slots + 12 ≤ 7302198; omega⟩ (fun rv V1 H locs hR hS => ?_)
        obtain ⟨k9, rfl, ⟨fo, hfo⟩, hM2⟩ := hR
        refine W.eq (g2 := F0 m 771 ls [.int k9]) rfl ?_
        refine lv_istore (lv' := [(5, .int k9), (0, .ref b), (1, .ref a0), (2, .ref a1), (3, .ref ou), (4, .int (nI (1 + 4 * t)))]) hx hb d_L_law_771 hl (by decide) rfl (fun ls hl => ?_)
        refine lv_aload_n hx hb d_L_law_773 rfl (lv_at hl 3 rfl) ?_
        refine lv_aload_n hx hb d_L_law_774 rfl (lv_at hl 1 rfl) ?_
        refine lv_iload hx hb d_L_law_775 (lv_at hl 5 rfl) ?_
        refine lv_iconst (v := 1) hx hb d_L_law_777 (by decide) ?_
        refine lv_iadd hx hb d_L_law_778 ?_
        rw [show nI (1 + 4 * t) + 1 = nI (1 + 4 * t + 1) from nI_add (1 + 4 * t) 1]
        refine va_sld (A := aB G) hx hb hX hbl hbA hS.2.1 (vp_in_nI (by omega) (by omega)) d_L_law_779 ?_
        rw [nI_clamp (by omega)]
        refine r_callV (k := 20) (i := 0) (q := ("RuleClassesModel", T_M, 30)) (fs := fo) (As := [.int (xs (1 + 4 * t + 1))]) (rest := []) F hS c_L_132 hM2 rfl hfo rfl hl.1 rfl (Nat.le_of_ble_eq_true rfl) d_L_law_780 ⟨Nat.le_of_ble_eq_true rfl, Nat.le_of_ble_eq_true rfl⟩ ⟨by show cells + 2 + 0 ≤ 600002; omega, by show slots + 12 + 0 ≤ 7302198; omega⟩ (fun rv V1 H locs hR hS => ?_)
        obtain ⟨b9, rfl, g2, hJ, hfin⟩ := hR
        obtain ⟨fo, hfo⟩ := hJ.o
        have h50 := hJ.out
        refine W.eq (g2 := F0 m 783 ls [.int b9]) rfl ?_
        refine lv_istore (lv' := [(6, .int b9), (5, .int k9), (0, .ref b), (1, .ref a0), (2, .ref a1), (3, .ref ou), (4, .int (nI (1 + 4 * t)))]) hx hb d_L_law_783 hl (by decide) rfl (fun ls hl => ?_)
        refine lv_aload_n hx hb d_L_law_785 rfl (lv_at hl 4 rfl) ?_
        refine r_callV (k := 20) (i := 0) (q := ("RuleClassesModel", T_M, 30)) (fs := fo) (As := []) (rest := []) F hS c_L_96 (j_thrown G l htr V1 a0 a1 ou k9 g2 False hJ) rfl hfo rfl hl.1 rfl (Nat.le_of_ble_eq_true rfl) d_L_law_786 ⟨Nat.le_of_ble_eq_true rfl, Nat.le_of_ble_eq_true rfl⟩ ⟨by show cells + 2 + 0 + 0 ≤ 600002; omega, by show slots + 12 + 0 + 0 ≤ 7302198; omega⟩ (fun rv V1 H locs hR hS => ?_)
        obtain ⟨rfl, hV⟩ := hR
        rw [hV] at hS
        refine W.eq (g2 := F0 m 789 ls [.int k9]) rfl ?_
        refine lv_iload hx hb d_L_law_789 (lv_at hl 1 rfl) ?_
        refine lv_icmp_eq (tgt := 796) hx hb d_L_law_791 (by decide) (fun c_791 => ?_) (fun c_791 => absurd rfl c_791)
        refine lv_iload hx hb d_L_law_796 (lv_at hl 1 rfl) ?_
        refine lv_if_ne (tgt := 813) hx hb d_L_law_798 (by decide) (fun c_798 => ?_) (fun c_798 => ?_)
        · refine lv_goto (tgt := 1292) hx hb d_L_law_813 (by decide) ?_
          refine lv_iinc (v := (nI (1 + 4 * (t + 1)))) (lv' := [(4, .int (nI (1 + 4 * (t + 1)))), (6, .int b9), (5, .int k9), (0, .ref b), (1, .ref a0), (2, .ref a1), (3, .ref ou)]) hx hb d_L_law_1292 hl (k := 6) rfl (nI_4 t) (by decide) rfl (fun ls hl => ?_)
          refine lv_goto (tgt := 33) hx hb d_L_law_1295 (by decide) ?_
          exact ih (t + 1) (by omega) (by omega) _ _ _ _ _ _ _ _ (hJ.nb (fun z => absurd z (by omega))) hS (by first | omega | (dsimp only; omega)) (by first | omega | (dsimp only; omega)) (lv_sub hl [3, 4, 5, 6, 0] rfl)
        · refine lv_aload_n hx hb d_L_law_801 rfl (lv_at hl 5 rfl) ?_
          refine lv_iconst (v := 0) hx hb d_L_law_802 (by decide) ?_
          refine r_lald (k := 50) (i := 0) F hS h50 (vp_in_nI (n := 0) (by decide) (by decide)) d_L_law_803 ?_
          rw [show (0 : Int32).toNatClampNeg = 0 from rfl]
          refine lv_iload hx hb d_L_law_804 (lv_at hl 0 rfl) ?_
          refine lv_i2l (v := b9.toInt64) hx hb d_L_law_806 rfl ?_
          refine W.lcmp hx hb d_L_law_807 ?_
          refine lv_if_eq (tgt := 813) hx hb d_L_law_808 (by decide) (fun c_808 => ?_) (fun c_808 => absurd ((lg_cmp_eq _ _).mpr (hfin c_798)) c_808)
          refine lv_goto (tgt := 1292) hx hb d_L_law_813 (by decide) ?_
          refine lv_iinc (v := (nI (1 + 4 * (t + 1)))) (lv' := [(4, .int (nI (1 + 4 * (t + 1)))), (6, .int b9), (5, .int k9), (0, .ref b), (1, .ref a0), (2, .ref a1), (3, .ref ou)]) hx hb d_L_law_1292 hl (k := 6) rfl (nI_4 t) (by decide) rfl (fun ls hl => ?_)
          refine lv_goto (tgt := 33) hx hb d_L_law_1295 (by decide) ?_
          exact ih (t + 1) (by omega) (by omega) _ _ _ _ _ _ _ _ (hJ.nb (fun z => absurd z (by omega))) hS (by first | omega | (dsimp only; omega)) (by first | omega | (dsimp only; omega)) (lv_sub hl [3, 4, 5, 6, 0] rfl)
      · refine lv_tableIn (tgt := 816) (off := 767) hx hb d_L_law_49 (by decide) (by decide) (by decide) (by decide) ?_
        refine lv_aload_n hx hb d_L_law_816 rfl (lv_at hl 1 rfl) ?_
        refine lv_aload_n hx hb d_L_law_817 rfl (lv_at hl 3 rfl) ?_
        refine r_callW (As := [.ref a0, .ref ou]) (rest := []) F hS w_L_133 (j_keep G l htr V a0 a1 ou th g9 (t = 0) hJ) rfl hl.1 rfl (Nat.le_of_ble_eq_true rfl) d_L_law_818 ⟨Nat.le_of_ble_eq_true rfl, Nat.le_of_ble_eq_true rfl⟩ ⟨by show cells + 3 ≤ 600002; omega, by show slots + 45 ≤ 7302198; omega⟩ (fun rv V1 H locs hR hS => ?_)
        obtain ⟨k9, rfl, ⟨fo, hfo⟩, hM2⟩ := hR
        refine W.eq (g2 := F0 m 821 ls [.int k9]) rfl ?_
        refine lv_istore (lv' := [(5, .int k9), (0, .ref b), (1, .ref a0), (2, .ref a1), (3, .ref ou), (4, .int (nI (1 + 4 * t)))]) hx hb d_L_law_821 hl (by decide) rfl (fun ls hl => ?_)
        refine lv_aload_n hx hb d_L_law_823 rfl (lv_at hl 3 rfl) ?_
        refine r_callV (k := 20) (i := 0) (q := ("RuleClassesModel", T_M, 30)) (fs := fo) (As := []) (rest := []) F hS c_L_136 hM2 rfl hfo rfl hl.1 rfl (Nat.le_of_ble_eq_true rfl) d_L_law_824 ⟨Nat.le_of_ble_eq_true rfl, Nat.le_of_ble_eq_true rfl⟩ ⟨by show cells + 3 + 0 ≤ 600002; omega, by show slots + 45 + 0 ≤ 7302198; omega⟩ (fun rv V1 H locs hR hS => ?_)
        obtain ⟨b9, rfl, g2, hJ, hfin⟩ := hR
        obtain ⟨fo, hfo⟩ := hJ.o
        have h50 := hJ.out
        refine W.eq (g2 := F0 m 827 ls [.int b9]) rfl ?_
        refine lv_istore (lv' := [(6, .int b9), (5, .int k9), (0, .ref b), (1, .ref a0), (2, .ref a1), (3, .ref ou), (4, .int (nI (1 + 4 * t)))]) hx hb d_L_law_827 hl (by decide) rfl (fun ls hl => ?_)
        refine lv_aload_n hx hb d_L_law_829 rfl (lv_at hl 4 rfl) ?_
        refine r_callV (k := 20) (i := 0) (q := ("RuleClassesModel", T_M, 30)) (fs := fo) (As := []) (rest := []) F hS c_L_96 (j_thrown G l htr V1 a0 a1 ou k9 g2 False hJ) rfl hfo rfl hl.1 rfl (Nat.le_of_ble_eq_true rfl) d_L_law_830 ⟨Nat.le_of_ble_eq_true rfl, Nat.le_of_ble_eq_true rfl⟩ ⟨by show cells + 3 + 0 + 0 ≤ 600002; omega, by show slots + 45 + 0 + 0 ≤ 7302198; omega⟩ (fun rv V1 H locs hR hS => ?_)
        obtain ⟨rfl, hV⟩ := hR
        rw [hV] at hS
        refine W.eq (g2 := F0 m 833 ls [.int k9]) rfl ?_
        refine lv_iload hx hb d_L_law_833 (lv_at hl 1 rfl) ?_
        refine lv_icmp_eq (tgt := 840) hx hb d_L_law_835 (by decide) (fun c_835 => ?_) (fun c_835 => absurd rfl c_835)
        refine lv_iload hx hb d_L_law_840 (lv_at hl 1 rfl) ?_
        refine lv_if_ne (tgt := 857) hx hb d_L_law_842 (by decide) (fun c_842 => ?_) (fun c_842 => ?_)
        · refine lv_goto (tgt := 1292) hx hb d_L_law_857 (by decide) ?_
          refine lv_iinc (v := (nI (1 + 4 * (t + 1)))) (lv' := [(4, .int (nI (1 + 4 * (t + 1)))), (6, .int b9), (5, .int k9), (0, .ref b), (1, .ref a0), (2, .ref a1), (3, .ref ou)]) hx hb d_L_law_1292 hl (k := 6) rfl (nI_4 t) (by decide) rfl (fun ls hl => ?_)
          refine lv_goto (tgt := 33) hx hb d_L_law_1295 (by decide) ?_
          exact ih (t + 1) (by omega) (by omega) _ _ _ _ _ _ _ _ (hJ.nb (fun z => absurd z (by omega))) hS (by first | omega | (dsimp only; omega)) (by first | omega | (dsimp only; omega)) (lv_sub hl [3, 4, 5, 6, 0] rfl)
        · refine lv_aload_n hx hb d_L_law_845 rfl (lv_at hl 5 rfl) ?_
          refine lv_iconst (v := 0) hx hb d_L_law_846 (by decide) ?_
          refine r_lald (k := 50) (i := 0) F hS h50 (vp_in_nI (n := 0) (by decide) (by decide)) d_L_law_847 ?_
          rw [show (0 : Int32).toNatClampNeg = 0 from rfl]
          refine lv_iload hx hb d_L_law_848 (lv_at hl 0 rfl) ?_
          refine lv_i2l (v := b9.toInt64) hx hb d_L_law_850 rfl ?_
          refine W.lcmp hx hb d_L_law_851 ?_
          refine lv_if_eq (tgt := 857) hx hb d_L_law_852 (by decide) (fun c_852 => ?_) (fun c_852 => absurd ((lg_cmp_eq _ _).mpr (hfin c_842)) c_852)
          refine lv_goto (tgt := 1292) hx hb d_L_law_857 (by decide) ?_
          refine lv_iinc (v := (nI (1 + 4 * (t + 1)))) (lv' := [(4, .int (nI (1 + 4 * (t + 1)))), (6, .int b9), (5, .int k9), (0, .ref b), (1, .ref a0), (2, .ref a1), (3, .ref ou)]) hx hb d_L_law_1292 hl (k := 6) rfl (nI_4 t) (by decide) rfl (fun ls hl => ?_)
          refine lv_goto (tgt := 33) hx hb d_L_law_1295 (by decide) ?_
          exact ih (t + 1) (by omega) (by omega) _ _ _ _ _ _ _ _ (hJ.nb (fun z => absurd z (by omega))) hS (by first | omega | (dsimp only; omega)) (by first | omega | (dsimp only; omega)) (lv_sub hl [3, 4, 5, 6, 0] rfl)
      · refine lv_tableIn (tgt := 860) (off := 811) hx hb d_L_law_49 (by decide) (by decide) (by decide) (by decide) ?_
        refine lv_aload_n hx hb d_L_law_860 rfl (lv_at hl 1 rfl) ?_
        refine lv_aload_n hx hb d_L_law_861 rfl (lv_at hl 0 rfl) ?_
        refine lv_iload hx hb d_L_law_862 (lv_at hl 4 rfl) ?_
        refine lv_iconst (v := 1) hx hb d_L_law_864 (by decide) ?_
        refine lv_iadd hx hb d_L_law_865 ?_
        rw [show nI (1 + 4 * t) + 1 = nI (1 + 4 * t + 1) from nI_add (1 + 4 * t) 1]
        refine va_sld (A := aB G) hx hb hX hbl hbA hS.2.1 (vp_in_nI (by omega) (by omega)) d_L_law_866 ?_
        rw [nI_clamp (by omega)]
        refine lv_aload_n hx hb d_L_law_867 rfl (lv_at hl 0 rfl) ?_
        refine lv_iload hx hb d_L_law_868 (lv_at hl 4 rfl) ?_
        refine lv_iconst (v := 2) hx hb d_L_law_870 (by decide) ?_
        refine lv_iadd hx hb d_L_law_871 ?_
        rw [show nI (1 + 4 * t) + 2 = nI (1 + 4 * t + 2) from nI_add (1 + 4 * t) 2]
        refine va_sld (A := aB G) hx hb hX hbl hbA hS.2.1 (vp_in_nI (by omega) (by omega)) d_L_law_872 ?_
        rw [nI_clamp (by omega)]
        refine lv_aload_n hx hb d_L_law_873 rfl (lv_at hl 3 rfl) ?_
        refine r_callW (As := [.ref a0, .int (xs (1 + 4 * t + 1)), .int (xs (1 + 4 * t + 2)), .ref ou]) (rest := []) F hS w_L_137 (j_compare G l htr V a0 a1 ou th g9 (t = 0) hJ (xs (1 + 4 * t + 1)) (xs (1 + 4 * t + 2))) rfl hl.1 rfl (Nat.le_of_ble_eq_true rfl) d_L_law_874 ⟨Nat.le_of_ble_eq_true rfl, Nat.le_of_ble_eq_true rfl⟩ ⟨by show cells + 2 ≤ 600002; omega, by show slots + 12 ≤ 7302198; omega⟩ (fun rv V1 H locs hR hS => ?_)
        obtain ⟨k9, rfl, ⟨fo, hfo⟩, hM2⟩ := hR
        refine W.eq (g2 := F0 m 877 ls [.int k9]) rfl ?_
        refine lv_istore (lv' := [(5, .int k9), (0, .ref b), (1, .ref a0), (2, .ref a1), (3, .ref ou), (4, .int (nI (1 + 4 * t)))]) hx hb d_L_law_877 hl (by decide) rfl (fun ls hl => ?_)
        refine lv_aload_n hx hb d_L_law_879 rfl (lv_at hl 3 rfl) ?_
        refine lv_aload_n hx hb d_L_law_880 rfl (lv_at hl 1 rfl) ?_
        refine lv_iload hx hb d_L_law_881 (lv_at hl 5 rfl) ?_
        refine lv_iconst (v := 1) hx hb d_L_law_883 (by decide) ?_
        refine lv_iadd hx hb d_L_law_884 ?_
        rw [show nI (1 + 4 * t) + 1 = nI (1 + 4 * t + 1) from nI_add (1 + 4 * t) 1]
        refine va_sld (A := aB G) hx hb hX hbl hbA hS.2.1 (vp_in_nI (by omega) (by omega)) d_L_law_885 ?_
        rw [nI_clamp (by omega)]
        refine lv_aload_n hx hb d_L_law_886 rfl (lv_at hl 1 rfl) ?_
        refine lv_iload hx hb d_L_law_887 (lv_at hl 5 rfl) ?_
        refine lv_iconst (v := 2) hx hb d_L_law_889 (by decide) ?_
        refine lv_iadd hx hb d_L_law_890 ?_
        rw [show nI (1 + 4 * t) + 2 = nI (1 + 4 * t + 2) from nI_add (1 + 4 * t) 2]
        refine va_sld (A := aB G) hx hb hX hbl hbA hS.2.1 (vp_in_nI (by omega) (by omega)) d_L_law_891 ?_
        rw [nI_clamp (by omega)]
        refine r_callV (k := 20) (i := 0) (q := ("RuleClassesModel", T_M, 30)) (fs := fo) (As := [.int (xs (1 + 4 * t + 1)), .int (xs (1 + 4 * t + 2))]) (rest := []) F hS c_L_139 hM2 rfl hfo rfl hl.1 rfl (Nat.le_of_ble_eq_true rfl) d_L_law_892 ⟨Nat.le_of_ble_eq_true rfl, Nat.le_of_ble_eq_true rfl⟩ ⟨by show cells + 2 + 0 ≤ 600002; omega, by show slots + 12 + 0 ≤ 7302198; omega⟩ (fun rv V1 H locs hR hS => ?_)
        obtain ⟨b9, rfl, g2, hJ, hfin⟩ := hR
        obtain ⟨fo, hfo⟩ := hJ.o
        have h50 := hJ.out
        refine W.eq (g2 := F0 m 895 ls [.int b9]) rfl ?_
        refine lv_istore (lv' := [(6, .int b9), (5, .int k9), (0, .ref b), (1, .ref a0), (2, .ref a1), (3, .ref ou), (4, .int (nI (1 + 4 * t)))]) hx hb d_L_law_895 hl (by decide) rfl (fun ls hl => ?_)
        refine lv_aload_n hx hb d_L_law_897 rfl (lv_at hl 4 rfl) ?_
        refine r_callV (k := 20) (i := 0) (q := ("RuleClassesModel", T_M, 30)) (fs := fo) (As := []) (rest := []) F hS c_L_96 (j_thrown G l htr V1 a0 a1 ou k9 g2 False hJ) rfl hfo rfl hl.1 rfl (Nat.le_of_ble_eq_true rfl) d_L_law_898 ⟨Nat.le_of_ble_eq_true rfl, Nat.le_of_ble_eq_true rfl⟩ ⟨by show cells + 2 + 0 + 0 ≤ 600002; omega, by show slots + 12 + 0 + 0 ≤ 7302198; omega⟩ (fun rv V1 H locs hR hS => ?_)
        obtain ⟨rfl, hV⟩ := hR
        rw [hV] at hS
        refine W.eq (g2 := F0 m 901 ls [.int k9]) rfl ?_
        refine lv_iload hx hb d_L_law_901 (lv_at hl 1 rfl) ?_
        refine lv_icmp_eq (tgt := 908) hx hb d_L_law_903 (by decide) (fun c_903 => ?_) (fun c_903 => absurd rfl c_903)
        refine lv_iload hx hb d_L_law_908 (lv_at hl 1 rfl) ?_
        refine lv_if_ne (tgt := 925) hx hb d_L_law_910 (by decide) (fun c_910 => ?_) (fun c_910 => ?_)
        · refine lv_goto (tgt := 1292) hx hb d_L_law_925 (by decide) ?_
          refine lv_iinc (v := (nI (1 + 4 * (t + 1)))) (lv' := [(4, .int (nI (1 + 4 * (t + 1)))), (6, .int b9), (5, .int k9), (0, .ref b), (1, .ref a0), (2, .ref a1), (3, .ref ou)]) hx hb d_L_law_1292 hl (k := 6) rfl (nI_4 t) (by decide) rfl (fun ls hl => ?_)
          refine lv_goto (tgt := 33) hx hb d_L_law_1295 (by decide) ?_
          exact ih (t + 1) (by omega) (by omega) _ _ _ _ _ _ _ _ (hJ.nb (fun z => absurd z (by omega))) hS (by first | omega | (dsimp only; omega)) (by first | omega | (dsimp only; omega)) (lv_sub hl [3, 4, 5, 6, 0] rfl)
        · refine lv_aload_n hx hb d_L_law_913 rfl (lv_at hl 5 rfl) ?_
          refine lv_iconst (v := 0) hx hb d_L_law_914 (by decide) ?_
          refine r_lald (k := 50) (i := 0) F hS h50 (vp_in_nI (n := 0) (by decide) (by decide)) d_L_law_915 ?_
          rw [show (0 : Int32).toNatClampNeg = 0 from rfl]
          refine lv_iload hx hb d_L_law_916 (lv_at hl 0 rfl) ?_
          refine lv_i2l (v := b9.toInt64) hx hb d_L_law_918 rfl ?_
          refine W.lcmp hx hb d_L_law_919 ?_
          refine lv_if_eq (tgt := 925) hx hb d_L_law_920 (by decide) (fun c_920 => ?_) (fun c_920 => absurd ((lg_cmp_eq _ _).mpr (hfin c_910)) c_920)
          refine lv_goto (tgt := 1292) hx hb d_L_law_925 (by decide) ?_
          refine lv_iinc (v := (nI (1 + 4 * (t + 1)))) (lv' := [(4, .int (nI (1 + 4 * (t + 1)))), (6, .int b9), (5, .int k9), (0, .ref b), (1, .ref a0), (2, .ref a1), (3, .ref ou)]) hx hb d_L_law_1292 hl (k := 6) rfl (nI_4 t) (by decide) rfl (fun ls hl => ?_)
          refine lv_goto (tgt := 33) hx hb d_L_law_1295 (by decide) ?_
          exact ih (t + 1) (by omega) (by omega) _ _ _ _ _ _ _ _ (hJ.nb (fun z => absurd z (by omega))) hS (by first | omega | (dsimp only; omega)) (by first | omega | (dsimp only; omega)) (lv_sub hl [3, 4, 5, 6, 0] rfl)
      · refine lv_tableIn (tgt := 928) (off := 879) hx hb d_L_law_49 (by decide) (by decide) (by decide) (by decide) ?_
        refine lv_aload_n hx hb d_L_law_928 rfl (lv_at hl 1 rfl) ?_
        refine lv_aload_n hx hb d_L_law_929 rfl (lv_at hl 0 rfl) ?_
        refine lv_iload hx hb d_L_law_930 (lv_at hl 4 rfl) ?_
        refine lv_iconst (v := 1) hx hb d_L_law_932 (by decide) ?_
        refine lv_iadd hx hb d_L_law_933 ?_
        rw [show nI (1 + 4 * t) + 1 = nI (1 + 4 * t + 1) from nI_add (1 + 4 * t) 1]
        refine va_sld (A := aB G) hx hb hX hbl hbA hS.2.1 (vp_in_nI (by omega) (by omega)) d_L_law_934 ?_
        rw [nI_clamp (by omega)]
        refine lv_aload_n hx hb d_L_law_935 rfl (lv_at hl 0 rfl) ?_
        refine lv_iload hx hb d_L_law_936 (lv_at hl 4 rfl) ?_
        refine lv_iconst (v := 2) hx hb d_L_law_938 (by decide) ?_
        refine lv_iadd hx hb d_L_law_939 ?_
        rw [show nI (1 + 4 * t) + 2 = nI (1 + 4 * t + 2) from nI_add (1 + 4 * t) 2]
        refine va_sld (A := aB G) hx hb hX hbl hbA hS.2.1 (vp_in_nI (by omega) (by omega)) d_L_law_940 ?_
        rw [nI_clamp (by omega)]
        refine lv_aload_n hx hb d_L_law_941 rfl (lv_at hl 3 rfl) ?_
        refine r_callW (As := [.ref a0, .int (xs (1 + 4 * t + 1)), .int (xs (1 + 4 * t + 2)), .ref ou]) (rest := []) F hS w_L_140 (j_same G l htr V a0 a1 ou th g9 (t = 0) hJ (xs (1 + 4 * t + 1)) (xs (1 + 4 * t + 2))) rfl hl.1 rfl (Nat.le_of_ble_eq_true rfl) d_L_law_942 ⟨Nat.le_of_ble_eq_true rfl, Nat.le_of_ble_eq_true rfl⟩ ⟨by show cells + 2 ≤ 600002; omega, by show slots + 12 ≤ 7302198; omega⟩ (fun rv V1 H locs hR hS => ?_)
        obtain ⟨k9, rfl, ⟨fo, hfo⟩, hM2⟩ := hR
        refine W.eq (g2 := F0 m 945 ls [.int k9]) rfl ?_
        refine lv_istore (lv' := [(5, .int k9), (0, .ref b), (1, .ref a0), (2, .ref a1), (3, .ref ou), (4, .int (nI (1 + 4 * t)))]) hx hb d_L_law_945 hl (by decide) rfl (fun ls hl => ?_)
        refine lv_aload_n hx hb d_L_law_947 rfl (lv_at hl 3 rfl) ?_
        refine lv_aload_n hx hb d_L_law_948 rfl (lv_at hl 1 rfl) ?_
        refine lv_iload hx hb d_L_law_949 (lv_at hl 5 rfl) ?_
        refine lv_iconst (v := 1) hx hb d_L_law_951 (by decide) ?_
        refine lv_iadd hx hb d_L_law_952 ?_
        rw [show nI (1 + 4 * t) + 1 = nI (1 + 4 * t + 1) from nI_add (1 + 4 * t) 1]
        refine va_sld (A := aB G) hx hb hX hbl hbA hS.2.1 (vp_in_nI (by omega) (by omega)) d_L_law_953 ?_
        rw [nI_clamp (by omega)]
        refine lv_aload_n hx hb d_L_law_954 rfl (lv_at hl 1 rfl) ?_
        refine lv_iload hx hb d_L_law_955 (lv_at hl 5 rfl) ?_
        refine lv_iconst (v := 2) hx hb d_L_law_957 (by decide) ?_
        refine lv_iadd hx hb d_L_law_958 ?_
        rw [show nI (1 + 4 * t) + 2 = nI (1 + 4 * t + 2) from nI_add (1 + 4 * t) 2]
        refine va_sld (A := aB G) hx hb hX hbl hbA hS.2.1 (vp_in_nI (by omega) (by omega)) d_L_law_959 ?_
        rw [nI_clamp (by omega)]
        refine r_callV (k := 20) (i := 0) (q := ("RuleClassesModel", T_M, 30)) (fs := fo) (As := [.int (xs (1 + 4 * t + 1)), .int (xs (1 + 4 * t + 2))]) (rest := []) F hS c_L_142 hM2 rfl hfo rfl hl.1 rfl (Nat.le_of_ble_eq_true rfl) d_L_law_960 ⟨Nat.le_of_ble_eq_true rfl, Nat.le_of_ble_eq_true rfl⟩ ⟨by show cells + 2 + 0 ≤ 600002; omega, by show slots + 12 + 0 ≤ 7302198; omega⟩ (fun rv V1 H locs hR hS => ?_)
        obtain ⟨b9, rfl, g2, hJ, hfin⟩ := hR
        obtain ⟨fo, hfo⟩ := hJ.o
        have h50 := hJ.out
        refine W.eq (g2 := F0 m 963 ls [.int b9]) rfl ?_
        refine lv_istore (lv' := [(6, .int b9), (5, .int k9), (0, .ref b), (1, .ref a0), (2, .ref a1), (3, .ref ou), (4, .int (nI (1 + 4 * t)))]) hx hb d_L_law_963 hl (by decide) rfl (fun ls hl => ?_)
        refine lv_aload_n hx hb d_L_law_965 rfl (lv_at hl 4 rfl) ?_
        refine r_callV (k := 20) (i := 0) (q := ("RuleClassesModel", T_M, 30)) (fs := fo) (As := []) (rest := []) F hS c_L_96 (j_thrown G l htr V1 a0 a1 ou k9 g2 False hJ) rfl hfo rfl hl.1 rfl (Nat.le_of_ble_eq_true rfl) d_L_law_966 ⟨Nat.le_of_ble_eq_true rfl, Nat.le_of_ble_eq_true rfl⟩ ⟨by show cells + 2 + 0 + 0 ≤ 600002; omega, by show slots + 12 + 0 + 0 ≤ 7302198; omega⟩ (fun rv V1 H locs hR hS => ?_)
        obtain ⟨rfl, hV⟩ := hR
        rw [hV] at hS
        refine W.eq (g2 := F0 m 969 ls [.int k9]) rfl ?_
        refine lv_iload hx hb d_L_law_969 (lv_at hl 1 rfl) ?_
        refine lv_icmp_eq (tgt := 976) hx hb d_L_law_971 (by decide) (fun c_971 => ?_) (fun c_971 => absurd rfl c_971)
        refine lv_iload hx hb d_L_law_976 (lv_at hl 1 rfl) ?_
        refine lv_if_ne (tgt := 1000) hx hb d_L_law_978 (by decide) (fun c_978 => ?_) (fun c_978 => ?_)
        · refine lv_goto (tgt := 1292) hx hb d_L_law_1000 (by decide) ?_
          refine lv_iinc (v := (nI (1 + 4 * (t + 1)))) (lv' := [(4, .int (nI (1 + 4 * (t + 1)))), (6, .int b9), (5, .int k9), (0, .ref b), (1, .ref a0), (2, .ref a1), (3, .ref ou)]) hx hb d_L_law_1292 hl (k := 6) rfl (nI_4 t) (by decide) rfl (fun ls hl => ?_)
          refine lv_goto (tgt := 33) hx hb d_L_law_1295 (by decide) ?_
          exact ih (t + 1) (by omega) (by omega) _ _ _ _ _ _ _ _ (hJ.nb (fun z => absurd z (by omega))) hS (by first | omega | (dsimp only; omega)) (by first | omega | (dsimp only; omega)) (lv_sub hl [3, 4, 5, 6, 0] rfl)
        · refine lv_aload_n hx hb d_L_law_981 rfl (lv_at hl 5 rfl) ?_
          refine lv_iconst (v := 0) hx hb d_L_law_982 (by decide) ?_
          refine r_lald (k := 50) (i := 0) F hS h50 (vp_in_nI (n := 0) (by decide) (by decide)) d_L_law_983 ?_
          rw [show (0 : Int32).toNatClampNeg = 0 from rfl]
          refine lv_iload hx hb d_L_law_984 (lv_at hl 0 rfl) ?_
          refine lv_if_eq (tgt := 993) hx hb d_L_law_986 (by decide) (fun c_986 => ?_) (fun c_986 => ?_)
          · refine lv_lconst (v := 0) hx hb d_L_law_993 (by decide) ?_
            refine W.lcmp hx hb d_L_law_994 ?_
            refine lv_if_eq (tgt := 1000) hx hb d_L_law_995 (by decide) (fun c_995 => ?_) (fun c_995 => absurd ((lg_cmp_eq _ _).mpr ((hfin c_978).trans (if_pos c_986))) c_995)
            refine lv_goto (tgt := 1292) hx hb d_L_law_1000 (by decide) ?_
            refine lv_iinc (v := (nI (1 + 4 * (t + 1)))) (lv' := [(4, .int (nI (1 + 4 * (t + 1)))), (6, .int b9), (5, .int k9), (0, .ref b), (1, .ref a0), (2, .ref a1), (3, .ref ou)]) hx hb d_L_law_1292 hl (k := 6) rfl (nI_4 t) (by decide) rfl (fun ls hl => ?_)
            refine lv_goto (tgt := 33) hx hb d_L_law_1295 (by decide) ?_
            exact ih (t + 1) (by omega) (by omega) _ _ _ _ _ _ _ _ (hJ.nb (fun z => absurd z (by omega))) hS (by first | omega | (dsimp only; omega)) (by first | omega | (dsimp only; omega)) (lv_sub hl [3, 4, 5, 6, 0] rfl)
          · refine lv_lconst (v := 1) hx hb d_L_law_989 (by decide) ?_
            refine lv_goto (tgt := 994) hx hb d_L_law_990 (by decide) ?_
            refine W.lcmp hx hb d_L_law_994 ?_
            refine lv_if_eq (tgt := 1000) hx hb d_L_law_995 (by decide) (fun c_995 => ?_) (fun c_995 => absurd ((lg_cmp_eq _ _).mpr ((hfin c_978).trans (if_neg c_986))) c_995)
            refine lv_goto (tgt := 1292) hx hb d_L_law_1000 (by decide) ?_
            refine lv_iinc (v := (nI (1 + 4 * (t + 1)))) (lv' := [(4, .int (nI (1 + 4 * (t + 1)))), (6, .int b9), (5, .int k9), (0, .ref b), (1, .ref a0), (2, .ref a1), (3, .ref ou)]) hx hb d_L_law_1292 hl (k := 6) rfl (nI_4 t) (by decide) rfl (fun ls hl => ?_)
            refine lv_goto (tgt := 33) hx hb d_L_law_1295 (by decide) ?_
            exact ih (t + 1) (by omega) (by omega) _ _ _ _ _ _ _ _ (hJ.nb (fun z => absurd z (by omega))) hS (by first | omega | (dsimp only; omega)) (by first | omega | (dsimp only; omega)) (lv_sub hl [3, 4, 5, 6, 0] rfl)
      · refine lv_tableIn (tgt := 1003) (off := 954) hx hb d_L_law_49 (by decide) (by decide) (by decide) (by decide) ?_
        refine lv_aload_n hx hb d_L_law_1003 rfl (lv_at hl 1 rfl) ?_
        refine lv_aload_n hx hb d_L_law_1004 rfl (lv_at hl 0 rfl) ?_
        refine lv_iload hx hb d_L_law_1005 (lv_at hl 4 rfl) ?_
        refine lv_iconst (v := 1) hx hb d_L_law_1007 (by decide) ?_
        refine lv_iadd hx hb d_L_law_1008 ?_
        rw [show nI (1 + 4 * t) + 1 = nI (1 + 4 * t + 1) from nI_add (1 + 4 * t) 1]
        refine va_sld (A := aB G) hx hb hX hbl hbA hS.2.1 (vp_in_nI (by omega) (by omega)) d_L_law_1009 ?_
        rw [nI_clamp (by omega)]
        refine lv_aload_n hx hb d_L_law_1010 rfl (lv_at hl 0 rfl) ?_
        refine lv_iload hx hb d_L_law_1011 (lv_at hl 4 rfl) ?_
        refine lv_iconst (v := 2) hx hb d_L_law_1013 (by decide) ?_
        refine lv_iadd hx hb d_L_law_1014 ?_
        rw [show nI (1 + 4 * t) + 2 = nI (1 + 4 * t + 2) from nI_add (1 + 4 * t) 2]
        refine va_sld (A := aB G) hx hb hX hbl hbA hS.2.1 (vp_in_nI (by omega) (by omega)) d_L_law_1015 ?_
        rw [nI_clamp (by omega)]
        refine lv_aload_n hx hb d_L_law_1016 rfl (lv_at hl 0 rfl) ?_
        refine lv_iload hx hb d_L_law_1017 (lv_at hl 4 rfl) ?_
        refine lv_iconst (v := 3) hx hb d_L_law_1019 (by decide) ?_
        refine lv_iadd hx hb d_L_law_1020 ?_
        rw [show nI (1 + 4 * t) + 3 = nI (1 + 4 * t + 3) from nI_add (1 + 4 * t) 3]
        refine va_sld (A := aB G) hx hb hX hbl hbA hS.2.1 (vp_in_nI (by omega) (by omega)) d_L_law_1021 ?_
        rw [nI_clamp (by omega)]
        refine r_callW (As := [.ref a0, .int (xs (1 + 4 * t + 1)), .int (xs (1 + 4 * t + 2)), .int (xs (1 + 4 * t + 3))]) (rest := []) F hS w_L_143 (j_shadow G l htr V a0 a1 ou th g9 (t = 0) hJ (xs (1 + 4 * t + 1)) (xs (1 + 4 * t + 2)) (xs (1 + 4 * t + 3))) rfl hl.1 rfl (Nat.le_of_ble_eq_true rfl) d_L_law_1022 ⟨Nat.le_of_ble_eq_true rfl, Nat.le_of_ble_eq_true rfl⟩ ⟨by show cells + 3 ≤ 600002; omega, by show slots + 18 ≤ 7302198; omega⟩ (fun rv V1 H locs hR hS => ?_)
        obtain ⟨k9, rfl, ⟨fo, hfo⟩, hM2⟩ := hR
        refine W.eq (g2 := F0 m 1025 ls [.int k9]) rfl ?_
        refine lv_istore (lv' := [(5, .int k9), (0, .ref b), (1, .ref a0), (2, .ref a1), (3, .ref ou), (4, .int (nI (1 + 4 * t)))]) hx hb d_L_law_1025 hl (by decide) rfl (fun ls hl => ?_)
        refine lv_aload_n hx hb d_L_law_1027 rfl (lv_at hl 3 rfl) ?_
        refine lv_aload_n hx hb d_L_law_1028 rfl (lv_at hl 1 rfl) ?_
        refine lv_iload hx hb d_L_law_1029 (lv_at hl 5 rfl) ?_
        refine lv_iconst (v := 1) hx hb d_L_law_1031 (by decide) ?_
        refine lv_iadd hx hb d_L_law_1032 ?_
        rw [show nI (1 + 4 * t) + 1 = nI (1 + 4 * t + 1) from nI_add (1 + 4 * t) 1]
        refine va_sld (A := aB G) hx hb hX hbl hbA hS.2.1 (vp_in_nI (by omega) (by omega)) d_L_law_1033 ?_
        rw [nI_clamp (by omega)]
        refine lv_aload_n hx hb d_L_law_1034 rfl (lv_at hl 1 rfl) ?_
        refine lv_iload hx hb d_L_law_1035 (lv_at hl 5 rfl) ?_
        refine lv_iconst (v := 2) hx hb d_L_law_1037 (by decide) ?_
        refine lv_iadd hx hb d_L_law_1038 ?_
        rw [show nI (1 + 4 * t) + 2 = nI (1 + 4 * t + 2) from nI_add (1 + 4 * t) 2]
        refine va_sld (A := aB G) hx hb hX hbl hbA hS.2.1 (vp_in_nI (by omega) (by omega)) d_L_law_1039 ?_
        rw [nI_clamp (by omega)]
        refine lv_aload_n hx hb d_L_law_1040 rfl (lv_at hl 1 rfl) ?_
        refine lv_iload hx hb d_L_law_1041 (lv_at hl 5 rfl) ?_
        refine lv_iconst (v := 3) hx hb d_L_law_1043 (by decide) ?_
        refine lv_iadd hx hb d_L_law_1044 ?_
        rw [show nI (1 + 4 * t) + 3 = nI (1 + 4 * t + 3) from nI_add (1 + 4 * t) 3]
        refine va_sld (A := aB G) hx hb hX hbl hbA hS.2.1 (vp_in_nI (by omega) (by omega)) d_L_law_1045 ?_
        rw [nI_clamp (by omega)]
        refine r_callV (k := 20) (i := 0) (q := ("RuleClassesModel", T_M, 30)) (fs := fo) (As := [.int (xs (1 + 4 * t + 1)), .int (xs (1 + 4 * t + 2)), .int (xs (1 + 4 * t + 3))]) (rest := []) F hS c_L_146 hM2 rfl hfo rfl hl.1 rfl (Nat.le_of_ble_eq_true rfl) d_L_law_1046 ⟨Nat.le_of_ble_eq_true rfl, Nat.le_of_ble_eq_true rfl⟩ ⟨by show cells + 3 + 0 ≤ 600002; omega, by show slots + 18 + 0 ≤ 7302198; omega⟩ (fun rv V1 H locs hR hS => ?_)
        obtain ⟨rfl, g2, hJ⟩ := hR
        obtain ⟨fo, hfo⟩ := hJ.o
        have h50 := hJ.out
        refine W.eq (g2 := F0 m 1049 ls []) rfl ?_
        refine lv_aload_n hx hb d_L_law_1049 rfl (lv_at hl 3 rfl) ?_
        refine r_callV (k := 20) (i := 0) (q := ("RuleClassesModel", T_M, 30)) (fs := fo) (As := []) (rest := []) F hS c_L_96 (j_thrown G l htr V1 a0 a1 ou k9 g2 False hJ) rfl hfo rfl hl.1 rfl (Nat.le_of_ble_eq_true rfl) d_L_law_1050 ⟨Nat.le_of_ble_eq_true rfl, Nat.le_of_ble_eq_true rfl⟩ ⟨by show cells + 3 + 0 + 0 ≤ 600002; omega, by show slots + 18 + 0 + 0 ≤ 7302198; omega⟩ (fun rv V1 H locs hR hS => ?_)
        obtain ⟨rfl, hV⟩ := hR
        rw [hV] at hS
        refine W.eq (g2 := F0 m 1053 ls [.int k9]) rfl ?_
        refine lv_iload hx hb d_L_law_1053 (lv_at hl 0 rfl) ?_
        refine lv_icmp_eq (tgt := 1060) hx hb d_L_law_1055 (by decide) (fun c_1055 => ?_) (fun c_1055 => absurd rfl c_1055)
        refine lv_goto (tgt := 1292) hx hb d_L_law_1060 (by decide) ?_
        refine lv_iinc (v := (nI (1 + 4 * (t + 1)))) (lv' := [(4, .int (nI (1 + 4 * (t + 1)))), (5, .int k9), (0, .ref b), (1, .ref a0), (2, .ref a1), (3, .ref ou)]) hx hb d_L_law_1292 hl (k := 5) rfl (nI_4 t) (by decide) rfl (fun ls hl => ?_)
        refine lv_goto (tgt := 33) hx hb d_L_law_1295 (by decide) ?_
        exact ih (t + 1) (by omega) (by omega) _ _ _ _ _ _ _ _ (hJ.nb (fun z => absurd z (by omega))) hS (by first | omega | (dsimp only; omega)) (by first | omega | (dsimp only; omega)) (lv_sub hl [2, 3, 4, 5, 0] rfl)
      · refine lv_tableIn (tgt := 1063) (off := 1014) hx hb d_L_law_49 (by decide) (by decide) (by decide) (by decide) ?_
        refine lv_aload_n hx hb d_L_law_1063 rfl (lv_at hl 1 rfl) ?_
        refine lv_aload_n hx hb d_L_law_1064 rfl (lv_at hl 0 rfl) ?_
        refine lv_iload hx hb d_L_law_1065 (lv_at hl 4 rfl) ?_
        refine lv_iconst (v := 1) hx hb d_L_law_1067 (by decide) ?_
        refine lv_iadd hx hb d_L_law_1068 ?_
        rw [show nI (1 + 4 * t) + 1 = nI (1 + 4 * t + 1) from nI_add (1 + 4 * t) 1]
        refine va_sld (A := aB G) hx hb hX hbl hbA hS.2.1 (vp_in_nI (by omega) (by omega)) d_L_law_1069 ?_
        rw [nI_clamp (by omega)]
        refine lv_aload_n hx hb d_L_law_1070 rfl (lv_at hl 0 rfl) ?_
        refine lv_iload hx hb d_L_law_1071 (lv_at hl 4 rfl) ?_
        refine lv_iconst (v := 2) hx hb d_L_law_1073 (by decide) ?_
        refine lv_iadd hx hb d_L_law_1074 ?_
        rw [show nI (1 + 4 * t) + 2 = nI (1 + 4 * t + 2) from nI_add (1 + 4 * t) 2]
        refine va_sld (A := aB G) hx hb hX hbl hbA hS.2.1 (vp_in_nI (by omega) (by omega)) d_L_law_1075 ?_
        rw [nI_clamp (by omega)]
        refine lv_aload_n hx hb d_L_law_1076 rfl (lv_at hl 3 rfl) ?_
        refine r_callW (As := [.ref a0, .int (xs (1 + 4 * t + 1)), .int (xs (1 + 4 * t + 2)), .ref ou]) (rest := []) F hS w_L_147 (j_otherwise G l htr V a0 a1 ou th g9 (t = 0) hJ (xs (1 + 4 * t + 1)) (xs (1 + 4 * t + 2))) rfl hl.1 rfl (Nat.le_of_ble_eq_true rfl) d_L_law_1077 ⟨Nat.le_of_ble_eq_true rfl, Nat.le_of_ble_eq_true rfl⟩ ⟨by show cells + 2 ≤ 600002; omega, by show slots + 12 ≤ 7302198; omega⟩ (fun rv V1 H locs hR hS => ?_)
        obtain ⟨k9, rfl, ⟨fo, hfo⟩, hM2⟩ := hR
        refine W.eq (g2 := F0 m 1080 ls [.int k9]) rfl ?_
        refine lv_istore (lv' := [(5, .int k9), (0, .ref b), (1, .ref a0), (2, .ref a1), (3, .ref ou), (4, .int (nI (1 + 4 * t)))]) hx hb d_L_law_1080 hl (by decide) rfl (fun ls hl => ?_)
        refine lv_aload_n hx hb d_L_law_1082 rfl (lv_at hl 3 rfl) ?_
        refine lv_aload_n hx hb d_L_law_1083 rfl (lv_at hl 1 rfl) ?_
        refine lv_iload hx hb d_L_law_1084 (lv_at hl 5 rfl) ?_
        refine lv_iconst (v := 1) hx hb d_L_law_1086 (by decide) ?_
        refine lv_iadd hx hb d_L_law_1087 ?_
        rw [show nI (1 + 4 * t) + 1 = nI (1 + 4 * t + 1) from nI_add (1 + 4 * t) 1]
        refine va_sld (A := aB G) hx hb hX hbl hbA hS.2.1 (vp_in_nI (by omega) (by omega)) d_L_law_1088 ?_
        rw [nI_clamp (by omega)]
        refine lv_aload_n hx hb d_L_law_1089 rfl (lv_at hl 1 rfl) ?_
        refine lv_iload hx hb d_L_law_1090 (lv_at hl 5 rfl) ?_
        refine lv_iconst (v := 2) hx hb d_L_law_1092 (by decide) ?_
        refine lv_iadd hx hb d_L_law_1093 ?_
        rw [show nI (1 + 4 * t) + 2 = nI (1 + 4 * t + 2) from nI_add (1 + 4 * t) 2]
        refine va_sld (A := aB G) hx hb hX hbl hbA hS.2.1 (vp_in_nI (by omega) (by omega)) d_L_law_1094 ?_
        rw [nI_clamp (by omega)]
        refine r_callV (k := 20) (i := 0) (q := ("RuleClassesModel", T_M, 30)) (fs := fo) (As := [.int (xs (1 + 4 * t + 1)), .int (xs (1 + 4 * t + 2))]) (rest := []) F hS c_L_149 hM2 rfl hfo rfl hl.1 rfl (Nat.le_of_ble_eq_true rfl) d_L_law_1095 ⟨Nat.le_of_ble_eq_true rfl, Nat.le_of_ble_eq_true rfl⟩ ⟨by show cells + 2 + 0 ≤ 600002; omega, by show slots + 12 + 0 ≤ 7302198; omega⟩ (fun rv V1 H locs hR hS => ?_)
        obtain ⟨b9, rfl, g2, hJ, hfin⟩ := hR
        obtain ⟨fo, hfo⟩ := hJ.o
        have h50 := hJ.out
        refine W.eq (g2 := F0 m 1098 ls [.int b9]) rfl ?_
        refine lv_istore (lv' := [(6, .int b9), (5, .int k9), (0, .ref b), (1, .ref a0), (2, .ref a1), (3, .ref ou), (4, .int (nI (1 + 4 * t)))]) hx hb d_L_law_1098 hl (by decide) rfl (fun ls hl => ?_)
        refine lv_aload_n hx hb d_L_law_1100 rfl (lv_at hl 4 rfl) ?_
        refine r_callV (k := 20) (i := 0) (q := ("RuleClassesModel", T_M, 30)) (fs := fo) (As := []) (rest := []) F hS c_L_96 (j_thrown G l htr V1 a0 a1 ou k9 g2 False hJ) rfl hfo rfl hl.1 rfl (Nat.le_of_ble_eq_true rfl) d_L_law_1101 ⟨Nat.le_of_ble_eq_true rfl, Nat.le_of_ble_eq_true rfl⟩ ⟨by show cells + 2 + 0 + 0 ≤ 600002; omega, by show slots + 12 + 0 + 0 ≤ 7302198; omega⟩ (fun rv V1 H locs hR hS => ?_)
        obtain ⟨rfl, hV⟩ := hR
        rw [hV] at hS
        refine W.eq (g2 := F0 m 1104 ls [.int k9]) rfl ?_
        refine lv_iload hx hb d_L_law_1104 (lv_at hl 1 rfl) ?_
        refine lv_icmp_eq (tgt := 1111) hx hb d_L_law_1106 (by decide) (fun c_1106 => ?_) (fun c_1106 => absurd rfl c_1106)
        refine lv_iload hx hb d_L_law_1111 (lv_at hl 1 rfl) ?_
        refine lv_if_ne (tgt := 1128) hx hb d_L_law_1113 (by decide) (fun c_1113 => ?_) (fun c_1113 => ?_)
        · refine lv_goto (tgt := 1292) hx hb d_L_law_1128 (by decide) ?_
          refine lv_iinc (v := (nI (1 + 4 * (t + 1)))) (lv' := [(4, .int (nI (1 + 4 * (t + 1)))), (6, .int b9), (5, .int k9), (0, .ref b), (1, .ref a0), (2, .ref a1), (3, .ref ou)]) hx hb d_L_law_1292 hl (k := 6) rfl (nI_4 t) (by decide) rfl (fun ls hl => ?_)
          refine lv_goto (tgt := 33) hx hb d_L_law_1295 (by decide) ?_
          exact ih (t + 1) (by omega) (by omega) _ _ _ _ _ _ _ _ (hJ.nb (fun z => absurd z (by omega))) hS (by first | omega | (dsimp only; omega)) (by first | omega | (dsimp only; omega)) (lv_sub hl [3, 4, 5, 6, 0] rfl)
        · refine lv_aload_n hx hb d_L_law_1116 rfl (lv_at hl 5 rfl) ?_
          refine lv_iconst (v := 0) hx hb d_L_law_1117 (by decide) ?_
          refine r_lald (k := 50) (i := 0) F hS h50 (vp_in_nI (n := 0) (by decide) (by decide)) d_L_law_1118 ?_
          rw [show (0 : Int32).toNatClampNeg = 0 from rfl]
          refine lv_iload hx hb d_L_law_1119 (lv_at hl 0 rfl) ?_
          refine lv_i2l (v := b9.toInt64) hx hb d_L_law_1121 rfl ?_
          refine W.lcmp hx hb d_L_law_1122 ?_
          refine lv_if_eq (tgt := 1128) hx hb d_L_law_1123 (by decide) (fun c_1123 => ?_) (fun c_1123 => absurd ((lg_cmp_eq _ _).mpr (hfin (by omega) c_1113)) c_1123)
          refine lv_goto (tgt := 1292) hx hb d_L_law_1128 (by decide) ?_
          refine lv_iinc (v := (nI (1 + 4 * (t + 1)))) (lv' := [(4, .int (nI (1 + 4 * (t + 1)))), (6, .int b9), (5, .int k9), (0, .ref b), (1, .ref a0), (2, .ref a1), (3, .ref ou)]) hx hb d_L_law_1292 hl (k := 6) rfl (nI_4 t) (by decide) rfl (fun ls hl => ?_)
          refine lv_goto (tgt := 33) hx hb d_L_law_1295 (by decide) ?_
          exact ih (t + 1) (by omega) (by omega) _ _ _ _ _ _ _ _ (hJ.nb (fun z => absurd z (by omega))) hS (by first | omega | (dsimp only; omega)) (by first | omega | (dsimp only; omega)) (lv_sub hl [3, 4, 5, 6, 0] rfl)
      · refine lv_tableIn (tgt := 1131) (off := 1082) hx hb d_L_law_49 (by decide) (by decide) (by decide) (by decide) ?_
        refine lv_aload_n hx hb d_L_law_1131 rfl (lv_at hl 1 rfl) ?_
        refine lv_aload_n hx hb d_L_law_1132 rfl (lv_at hl 0 rfl) ?_
        refine lv_iload hx hb d_L_law_1133 (lv_at hl 4 rfl) ?_
        refine lv_iconst (v := 1) hx hb d_L_law_1135 (by decide) ?_
        refine lv_iadd hx hb d_L_law_1136 ?_
        rw [show nI (1 + 4 * t) + 1 = nI (1 + 4 * t + 1) from nI_add (1 + 4 * t) 1]
        refine va_sld (A := aB G) hx hb hX hbl hbA hS.2.1 (vp_in_nI (by omega) (by omega)) d_L_law_1137 ?_
        rw [nI_clamp (by omega)]
        refine lv_aload_n hx hb d_L_law_1138 rfl (lv_at hl 0 rfl) ?_
        refine lv_iload hx hb d_L_law_1139 (lv_at hl 4 rfl) ?_
        refine lv_iconst (v := 2) hx hb d_L_law_1141 (by decide) ?_
        refine lv_iadd hx hb d_L_law_1142 ?_
        rw [show nI (1 + 4 * t) + 2 = nI (1 + 4 * t + 2) from nI_add (1 + 4 * t) 2]
        refine va_sld (A := aB G) hx hb hX hbl hbA hS.2.1 (vp_in_nI (by omega) (by omega)) d_L_law_1143 ?_
        rw [nI_clamp (by omega)]
        refine lv_aload_n hx hb d_L_law_1144 rfl (lv_at hl 3 rfl) ?_
        refine r_callW (As := [.ref a0, .int (xs (1 + 4 * t + 1)), .int (xs (1 + 4 * t + 2)), .ref ou]) (rest := []) F hS w_L_150 (j_divide G l htr V a0 a1 ou th g9 (t = 0) hJ (xs (1 + 4 * t + 1)) (xs (1 + 4 * t + 2))) rfl hl.1 rfl (Nat.le_of_ble_eq_true rfl) d_L_law_1145 ⟨Nat.le_of_ble_eq_true rfl, Nat.le_of_ble_eq_true rfl⟩ ⟨by show cells + 1 ≤ 600002; omega, by show slots + 6 ≤ 7302198; omega⟩ (fun rv V1 H locs hR hS => ?_)
        obtain ⟨k9, rfl, ⟨fo, hfo⟩, hM2⟩ := hR
        refine W.eq (g2 := F0 m 1148 ls [.int k9]) rfl ?_
        refine lv_istore (lv' := [(5, .int k9), (0, .ref b), (1, .ref a0), (2, .ref a1), (3, .ref ou), (4, .int (nI (1 + 4 * t)))]) hx hb d_L_law_1148 hl (by decide) rfl (fun ls hl => ?_)
        refine lv_aload_n hx hb d_L_law_1150 rfl (lv_at hl 3 rfl) ?_
        refine lv_aload_n hx hb d_L_law_1151 rfl (lv_at hl 1 rfl) ?_
        refine lv_iload hx hb d_L_law_1152 (lv_at hl 5 rfl) ?_
        refine lv_iconst (v := 1) hx hb d_L_law_1154 (by decide) ?_
        refine lv_iadd hx hb d_L_law_1155 ?_
        rw [show nI (1 + 4 * t) + 1 = nI (1 + 4 * t + 1) from nI_add (1 + 4 * t) 1]
        refine va_sld (A := aB G) hx hb hX hbl hbA hS.2.1 (vp_in_nI (by omega) (by omega)) d_L_law_1156 ?_
        rw [nI_clamp (by omega)]
        refine lv_aload_n hx hb d_L_law_1157 rfl (lv_at hl 1 rfl) ?_
        refine lv_iload hx hb d_L_law_1158 (lv_at hl 5 rfl) ?_
        refine lv_iconst (v := 2) hx hb d_L_law_1160 (by decide) ?_
        refine lv_iadd hx hb d_L_law_1161 ?_
        rw [show nI (1 + 4 * t) + 2 = nI (1 + 4 * t + 2) from nI_add (1 + 4 * t) 2]
        refine va_sld (A := aB G) hx hb hX hbl hbA hS.2.1 (vp_in_nI (by omega) (by omega)) d_L_law_1162 ?_
        rw [nI_clamp (by omega)]
        refine r_callV (k := 20) (i := 0) (q := ("RuleClassesModel", T_M, 30)) (fs := fo) (As := [.int (xs (1 + 4 * t + 1)), .int (xs (1 + 4 * t + 2))]) (rest := []) F hS c_L_152 hM2 rfl hfo rfl hl.1 rfl (Nat.le_of_ble_eq_true rfl) d_L_law_1163 ⟨Nat.le_of_ble_eq_true rfl, Nat.le_of_ble_eq_true rfl⟩ ⟨by show cells + 1 + 0 ≤ 600002; omega, by show slots + 6 + 0 ≤ 7302198; omega⟩ (fun rv V1 H locs hR hS => ?_)
        obtain ⟨b9, rfl, g2, hJ, hfin⟩ := hR
        obtain ⟨fo, hfo⟩ := hJ.o
        have h50 := hJ.out
        refine W.eq (g2 := F0 m 1166 ls [.int b9]) rfl ?_
        refine lv_istore (lv' := [(6, .int b9), (5, .int k9), (0, .ref b), (1, .ref a0), (2, .ref a1), (3, .ref ou), (4, .int (nI (1 + 4 * t)))]) hx hb d_L_law_1166 hl (by decide) rfl (fun ls hl => ?_)
        refine lv_aload_n hx hb d_L_law_1168 rfl (lv_at hl 4 rfl) ?_
        refine r_callV (k := 20) (i := 0) (q := ("RuleClassesModel", T_M, 30)) (fs := fo) (As := []) (rest := []) F hS c_L_96 (j_thrown G l htr V1 a0 a1 ou k9 g2 False hJ) rfl hfo rfl hl.1 rfl (Nat.le_of_ble_eq_true rfl) d_L_law_1169 ⟨Nat.le_of_ble_eq_true rfl, Nat.le_of_ble_eq_true rfl⟩ ⟨by show cells + 1 + 0 + 0 ≤ 600002; omega, by show slots + 6 + 0 + 0 ≤ 7302198; omega⟩ (fun rv V1 H locs hR hS => ?_)
        obtain ⟨rfl, hV⟩ := hR
        rw [hV] at hS
        refine W.eq (g2 := F0 m 1172 ls [.int k9]) rfl ?_
        refine lv_iload hx hb d_L_law_1172 (lv_at hl 1 rfl) ?_
        refine lv_icmp_eq (tgt := 1179) hx hb d_L_law_1174 (by decide) (fun c_1174 => ?_) (fun c_1174 => absurd rfl c_1174)
        refine lv_iload hx hb d_L_law_1179 (lv_at hl 1 rfl) ?_
        refine lv_if_ne (tgt := 1196) hx hb d_L_law_1181 (by decide) (fun c_1181 => ?_) (fun c_1181 => ?_)
        · refine lv_goto (tgt := 1292) hx hb d_L_law_1196 (by decide) ?_
          refine lv_iinc (v := (nI (1 + 4 * (t + 1)))) (lv' := [(4, .int (nI (1 + 4 * (t + 1)))), (6, .int b9), (5, .int k9), (0, .ref b), (1, .ref a0), (2, .ref a1), (3, .ref ou)]) hx hb d_L_law_1292 hl (k := 6) rfl (nI_4 t) (by decide) rfl (fun ls hl => ?_)
          refine lv_goto (tgt := 33) hx hb d_L_law_1295 (by decide) ?_
          exact ih (t + 1) (by omega) (by omega) _ _ _ _ _ _ _ _ (hJ.nb (fun z => absurd z (by omega))) hS (by first | omega | (dsimp only; omega)) (by first | omega | (dsimp only; omega)) (lv_sub hl [3, 4, 5, 6, 0] rfl)
        · refine lv_aload_n hx hb d_L_law_1184 rfl (lv_at hl 5 rfl) ?_
          refine lv_iconst (v := 0) hx hb d_L_law_1185 (by decide) ?_
          refine r_lald (k := 50) (i := 0) F hS h50 (vp_in_nI (n := 0) (by decide) (by decide)) d_L_law_1186 ?_
          rw [show (0 : Int32).toNatClampNeg = 0 from rfl]
          refine lv_iload hx hb d_L_law_1187 (lv_at hl 0 rfl) ?_
          refine lv_i2l (v := b9.toInt64) hx hb d_L_law_1189 rfl ?_
          refine W.lcmp hx hb d_L_law_1190 ?_
          refine lv_if_eq (tgt := 1196) hx hb d_L_law_1191 (by decide) (fun c_1191 => ?_) (fun c_1191 => absurd ((lg_cmp_eq _ _).mpr (hfin c_1181)) c_1191)
          refine lv_goto (tgt := 1292) hx hb d_L_law_1196 (by decide) ?_
          refine lv_iinc (v := (nI (1 + 4 * (t + 1)))) (lv' := [(4, .int (nI (1 + 4 * (t + 1)))), (6, .int b9), (5, .int k9), (0, .ref b), (1, .ref a0), (2, .ref a1), (3, .ref ou)]) hx hb d_L_law_1292 hl (k := 6) rfl (nI_4 t) (by decide) rfl (fun ls hl => ?_)
          refine lv_goto (tgt := 33) hx hb d_L_law_1295 (by decide) ?_
          exact ih (t + 1) (by omega) (by omega) _ _ _ _ _ _ _ _ (hJ.nb (fun z => absurd z (by omega))) hS (by first | omega | (dsimp only; omega)) (by first | omega | (dsimp only; omega)) (lv_sub hl [3, 4, 5, 6, 0] rfl)
      · refine lv_tableIn (tgt := 1199) (off := 1150) hx hb d_L_law_49 (by decide) (by decide) (by decide) (by decide) ?_
        refine lv_aload_n hx hb d_L_law_1199 rfl (lv_at hl 1 rfl) ?_
        refine lv_aload_n hx hb d_L_law_1200 rfl (lv_at hl 0 rfl) ?_
        refine lv_iload hx hb d_L_law_1201 (lv_at hl 4 rfl) ?_
        refine lv_iconst (v := 1) hx hb d_L_law_1203 (by decide) ?_
        refine lv_iadd hx hb d_L_law_1204 ?_
        rw [show nI (1 + 4 * t) + 1 = nI (1 + 4 * t + 1) from nI_add (1 + 4 * t) 1]
        refine va_sld (A := aB G) hx hb hX hbl hbA hS.2.1 (vp_in_nI (by omega) (by omega)) d_L_law_1205 ?_
        rw [nI_clamp (by omega)]
        refine lv_aload_n hx hb d_L_law_1206 rfl (lv_at hl 0 rfl) ?_
        refine lv_iload hx hb d_L_law_1207 (lv_at hl 4 rfl) ?_
        refine lv_iconst (v := 2) hx hb d_L_law_1209 (by decide) ?_
        refine lv_iadd hx hb d_L_law_1210 ?_
        rw [show nI (1 + 4 * t) + 2 = nI (1 + 4 * t + 2) from nI_add (1 + 4 * t) 2]
        refine va_sld (A := aB G) hx hb hX hbl hbA hS.2.1 (vp_in_nI (by omega) (by omega)) d_L_law_1211 ?_
        rw [nI_clamp (by omega)]
        refine lv_aload_n hx hb d_L_law_1212 rfl (lv_at hl 3 rfl) ?_
        refine r_callW (As := [.ref a0, .int (xs (1 + 4 * t + 1)), .int (xs (1 + 4 * t + 2)), .ref ou]) (rest := []) F hS w_L_153 (j_told G l htr V a0 a1 ou th g9 (t = 0) hJ (xs (1 + 4 * t + 1)) (xs (1 + 4 * t + 2))) rfl hl.1 rfl (Nat.le_of_ble_eq_true rfl) d_L_law_1213 ⟨Nat.le_of_ble_eq_true rfl, Nat.le_of_ble_eq_true rfl⟩ ⟨by show cells + 2 ≤ 600002; omega, by show slots + 12 ≤ 7302198; omega⟩ (fun rv V1 H locs hR hS => ?_)
        obtain ⟨k9, rfl, ⟨fo, hfo⟩, hM2⟩ := hR
        refine W.eq (g2 := F0 m 1216 ls [.int k9]) rfl ?_
        refine lv_istore (lv' := [(5, .int k9), (0, .ref b), (1, .ref a0), (2, .ref a1), (3, .ref ou), (4, .int (nI (1 + 4 * t)))]) hx hb d_L_law_1216 hl (by decide) rfl (fun ls hl => ?_)
        refine lv_aload_n hx hb d_L_law_1218 rfl (lv_at hl 3 rfl) ?_
        refine lv_aload_n hx hb d_L_law_1219 rfl (lv_at hl 1 rfl) ?_
        refine lv_iload hx hb d_L_law_1220 (lv_at hl 5 rfl) ?_
        refine lv_iconst (v := 1) hx hb d_L_law_1222 (by decide) ?_
        refine lv_iadd hx hb d_L_law_1223 ?_
        rw [show nI (1 + 4 * t) + 1 = nI (1 + 4 * t + 1) from nI_add (1 + 4 * t) 1]
        refine va_sld (A := aB G) hx hb hX hbl hbA hS.2.1 (vp_in_nI (by omega) (by omega)) d_L_law_1224 ?_
        rw [nI_clamp (by omega)]
        refine lv_aload_n hx hb d_L_law_1225 rfl (lv_at hl 1 rfl) ?_
        refine lv_iload hx hb d_L_law_1226 (lv_at hl 5 rfl) ?_
        refine lv_iconst (v := 2) hx hb d_L_law_1228 (by decide) ?_
        refine lv_iadd hx hb d_L_law_1229 ?_
        rw [show nI (1 + 4 * t) + 2 = nI (1 + 4 * t + 2) from nI_add (1 + 4 * t) 2]
        refine va_sld (A := aB G) hx hb hX hbl hbA hS.2.1 (vp_in_nI (by omega) (by omega)) d_L_law_1230 ?_
        rw [nI_clamp (by omega)]
        refine r_callV (k := 20) (i := 0) (q := ("RuleClassesModel", T_M, 30)) (fs := fo) (As := [.int (xs (1 + 4 * t + 1)), .int (xs (1 + 4 * t + 2))]) (rest := []) F hS c_L_155 hM2 rfl hfo rfl hl.1 rfl (Nat.le_of_ble_eq_true rfl) d_L_law_1231 ⟨Nat.le_of_ble_eq_true rfl, Nat.le_of_ble_eq_true rfl⟩ ⟨by show cells + 2 + 0 ≤ 600002; omega, by show slots + 12 + 0 ≤ 7302198; omega⟩ (fun rv V1 H locs hR hS => ?_)
        obtain ⟨b9, rfl, g2, hJ, hfin⟩ := hR
        obtain ⟨fo, hfo⟩ := hJ.o
        have h50 := hJ.out
        refine W.eq (g2 := F0 m 1234 ls [.int b9]) rfl ?_
        refine lv_istore (lv' := [(6, .int b9), (5, .int k9), (0, .ref b), (1, .ref a0), (2, .ref a1), (3, .ref ou), (4, .int (nI (1 + 4 * t)))]) hx hb d_L_law_1234 hl (by decide) rfl (fun ls hl => ?_)
        refine lv_aload_n hx hb d_L_law_1236 rfl (lv_at hl 4 rfl) ?_
        refine r_callV (k := 20) (i := 0) (q := ("RuleClassesModel", T_M, 30)) (fs := fo) (As := []) (rest := []) F hS c_L_96 (j_thrown G l htr V1 a0 a1 ou k9 g2 False hJ) rfl hfo rfl hl.1 rfl (Nat.le_of_ble_eq_true rfl) d_L_law_1237 ⟨Nat.le_of_ble_eq_true rfl, Nat.le_of_ble_eq_true rfl⟩ ⟨by show cells + 2 + 0 + 0 ≤ 600002; omega, by show slots + 12 + 0 + 0 ≤ 7302198; omega⟩ (fun rv V1 H locs hR hS => ?_)
        obtain ⟨rfl, hV⟩ := hR
        rw [hV] at hS
        refine W.eq (g2 := F0 m 1240 ls [.int k9]) rfl ?_
        refine lv_iload hx hb d_L_law_1240 (lv_at hl 1 rfl) ?_
        refine lv_icmp_eq (tgt := 1247) hx hb d_L_law_1242 (by decide) (fun c_1242 => ?_) (fun c_1242 => absurd rfl c_1242)
        refine lv_iload hx hb d_L_law_1247 (lv_at hl 1 rfl) ?_
        refine lv_if_ne (tgt := 1264) hx hb d_L_law_1249 (by decide) (fun c_1249 => ?_) (fun c_1249 => ?_)
        · refine lv_goto (tgt := 1292) hx hb d_L_law_1264 (by decide) ?_
          refine lv_iinc (v := (nI (1 + 4 * (t + 1)))) (lv' := [(4, .int (nI (1 + 4 * (t + 1)))), (6, .int b9), (5, .int k9), (0, .ref b), (1, .ref a0), (2, .ref a1), (3, .ref ou)]) hx hb d_L_law_1292 hl (k := 6) rfl (nI_4 t) (by decide) rfl (fun ls hl => ?_)
          refine lv_goto (tgt := 33) hx hb d_L_law_1295 (by decide) ?_
          exact ih (t + 1) (by omega) (by omega) _ _ _ _ _ _ _ _ (hJ.nb (fun z => absurd z (by omega))) hS (by first | omega | (dsimp only; omega)) (by first | omega | (dsimp only; omega)) (lv_sub hl [3, 4, 5, 6, 0] rfl)
        · refine lv_aload_n hx hb d_L_law_1252 rfl (lv_at hl 5 rfl) ?_
          refine lv_iconst (v := 0) hx hb d_L_law_1253 (by decide) ?_
          refine r_lald (k := 50) (i := 0) F hS h50 (vp_in_nI (n := 0) (by decide) (by decide)) d_L_law_1254 ?_
          rw [show (0 : Int32).toNatClampNeg = 0 from rfl]
          refine lv_iload hx hb d_L_law_1255 (lv_at hl 0 rfl) ?_
          refine lv_i2l (v := b9.toInt64) hx hb d_L_law_1257 rfl ?_
          refine W.lcmp hx hb d_L_law_1258 ?_
          refine lv_if_eq (tgt := 1264) hx hb d_L_law_1259 (by decide) (fun c_1259 => ?_) (fun c_1259 => absurd ((lg_cmp_eq _ _).mpr (hfin c_1249)) c_1259)
          refine lv_goto (tgt := 1292) hx hb d_L_law_1264 (by decide) ?_
          refine lv_iinc (v := (nI (1 + 4 * (t + 1)))) (lv' := [(4, .int (nI (1 + 4 * (t + 1)))), (6, .int b9), (5, .int k9), (0, .ref b), (1, .ref a0), (2, .ref a1), (3, .ref ou)]) hx hb d_L_law_1292 hl (k := 6) rfl (nI_4 t) (by decide) rfl (fun ls hl => ?_)
          refine lv_goto (tgt := 33) hx hb d_L_law_1295 (by decide) ?_
          exact ih (t + 1) (by omega) (by omega) _ _ _ _ _ _ _ _ (hJ.nb (fun z => absurd z (by omega))) hS (by first | omega | (dsimp only; omega)) (by first | omega | (dsimp only; omega)) (lv_sub hl [3, 4, 5, 6, 0] rfl)
      · refine lv_tableIn (tgt := 1267) (off := 1218) hx hb d_L_law_49 (by decide) (by decide) (by decide) (by decide) ?_
        obtain ⟨b9, hc1, hc2⟩ := j_count G l htr V a0 a1 ou th g9 (t = 0) hJ (xs (1 + 4 * t + 1))
        obtain ⟨fc, hfc⟩ := hJ.c
        obtain ⟨fo, hfo⟩ := hJ.o
        refine lv_aload_n hx hb d_L_law_1267 rfl (lv_at hl 1 rfl) ?_
        refine lv_aload_n hx hb d_L_law_1268 rfl (lv_at hl 0 rfl) ?_
        refine lv_iload hx hb d_L_law_1269 (lv_at hl 4 rfl) ?_
        refine lv_iconst (v := 1) hx hb d_L_law_1271 (by decide) ?_
        refine lv_iadd hx hb d_L_law_1272 ?_
        rw [show nI (1 + 4 * t) + 1 = nI (1 + 4 * t + 1) from nI_add (1 + 4 * t) 1]
        refine va_sld (A := aB G) hx hb hX hbl hbA hS.2.1 (vp_in_nI (by omega) (by omega)) d_L_law_1273 ?_
        rw [nI_clamp (by omega)]
        refine r_callV (k := 0) (i := 0) (q := ("RuleClasses", T_C, 15)) (fs := fc) (As := [.int (xs (1 + 4 * t + 1))]) (rest := []) F hS c_L_156 hc1 rfl hfc rfl hl.1 rfl (Nat.le_of_ble_eq_true rfl) d_L_law_1274 ⟨Nat.le_of_ble_eq_true rfl, Nat.le_of_ble_eq_true rfl⟩ ⟨by show cells + 0 ≤ 600002; omega, by show slots + 0 ≤ 7302198; omega⟩ (fun rv V1 H locs hR hS => ?_)
        obtain ⟨rfl, hV⟩ := hR
        rw [hV] at hS
        refine W.eq (g2 := F0 m 1277 ls [.int b9]) rfl ?_
        refine lv_aload_n hx hb d_L_law_1277 rfl (lv_at hl 2 rfl) ?_
        refine lv_aload_n hx hb d_L_law_1278 rfl (lv_at hl 0 rfl) ?_
        refine lv_iload hx hb d_L_law_1279 (lv_at hl 4 rfl) ?_
        refine lv_iconst (v := 1) hx hb d_L_law_1281 (by decide) ?_
        refine lv_iadd hx hb d_L_law_1282 ?_
        rw [show nI (1 + 4 * t) + 1 = nI (1 + 4 * t + 1) from nI_add (1 + 4 * t) 1]
        refine va_sld (A := aB G) hx hb hX hbl hbA hS.2.1 (vp_in_nI (by omega) (by omega)) d_L_law_1283 ?_
        rw [nI_clamp (by omega)]
        refine r_callV (k := 20) (i := 0) (q := ("RuleClassesModel", T_M, 30)) (fs := fo) (As := [.int (xs (1 + 4 * t + 1))]) (rest := [.int b9]) F hS c_L_159 hc2 rfl hfo rfl hl.1 rfl (Nat.le_of_ble_eq_true rfl) d_L_law_1284 ⟨Nat.le_of_ble_eq_true rfl, Nat.le_of_ble_eq_true rfl⟩ ⟨by show cells + 0 + 0 ≤ 600002; omega, by show slots + 0 + 0 ≤ 7302198; omega⟩ (fun rv V1 H locs hR hS => ?_)
        obtain ⟨rfl, hJ⟩ := hR
        refine W.eq (g2 := F0 m 1287 ls [.int b9, .int b9]) rfl ?_
        refine lv_icmp_eq (tgt := 1292) hx hb d_L_law_1287 (by decide) (fun c_1287 => ?_) (fun c_1287 => absurd rfl c_1287)
        refine lv_iinc (v := (nI (1 + 4 * (t + 1)))) (lv' := [(4, .int (nI (1 + 4 * (t + 1)))), (0, .ref b), (1, .ref a0), (2, .ref a1), (3, .ref ou)]) hx hb d_L_law_1292 hl (k := 4) rfl (nI_4 t) (by decide) rfl (fun ls hl => ?_)
        refine lv_goto (tgt := 33) hx hb d_L_law_1295 (by decide) ?_
        exact ih (t + 1) (by omega) (by omega) _ _ _ _ _ _ _ _ (hJ.nb (fun z => absurd z (by omega))) hS (by first | omega | (dsimp only; omega)) (by first | omega | (dsimp only; omega)) (lv_sub hl [1, 2, 3, 4, 0] rfl)
    · refine lv_tableOut (tgt := 1292) hx hb d_L_law_49 ((not_rg hw).imp (fun z => Int32.lt_iff_toInt_lt.mp z) (fun z => (show (18 : Int32).toInt < v9.toInt from Int32.lt_iff_toInt_lt.mp z))) (by decide) ?_
      refine lv_iinc (v := (nI (1 + 4 * (t + 1)))) (lv' := [(4, .int (nI (1 + 4 * (t + 1)))), (0, .ref b), (1, .ref a0), (2, .ref a1), (3, .ref ou)]) hx hb d_L_law_1292 hl (k := 4) rfl (nI_4 t) (by decide) rfl (fun ls hl => ?_)
      refine lv_goto (tgt := 33) hx hb d_L_law_1295 (by decide) ?_
      exact ih (t + 1) (by omega) (by omega) _ _ _ _ _ _ _ _ (hJ.nb (fun z => absurd z (by omega))) hS (by first | omega | (dsimp only; omega)) (by first | omega | (dsimp only; omega)) (lv_sub hl [1, 2, 3, 4, 0] rfl)

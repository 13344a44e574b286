theorem w_L_92 : MLW "RuleClassesLaw" 92 y_L_today b_L_today 3 (some .int) [(0, 5, 8, 13)] 2 := ⟨m_188, m_190, m_0, by decide, by decide +kernel, m_189⟩
theorem w_L_96 : MLW "RuleClassesLaw" 96 y_L_rule b_L_rule 6 (some .int) [(0, 12, 15, 13), (0, 12, 19, 19)] 5 := ⟨m_273, m_275, m_0, by decide, by decide +kernel, m_274⟩
theorem w_L_100 : MLW "RuleClassesLaw" 100 y_L_op b_L_op 6 (some .int) [(0, 12, 15, 24), (0, 12, 19, 13), (0, 12, 23, 26), (0, 12, 27, 19)] 5 := ⟨m_398, m_400, m_0, by decide, by decide +kernel, m_399⟩
theorem w_L_103 : MLW "RuleClassesLaw" 103 y_L_make b_L_make 4 (some .int) [(0, 9, 12, 24), (0, 9, 15, 26)] 3 := ⟨m_461, m_463, m_0, by decide, by decide +kernel, m_462⟩
theorem w_L_107 : MLW "RuleClassesLaw" 107 y_L_fact b_L_fact 4 (some .int) [(0, 6, 9, 13)] 3 := ⟨m_501, m_503, m_0, by decide, by decide +kernel, m_502⟩
theorem w_L_111 : MLW "RuleClassesLaw" 111 y_L_ask b_L_ask 5 (some .int) [(0, 10, 13, 13)] 4 := ⟨m_508, m_510, m_0, by decide, by decide +kernel, m_509⟩
theorem w_L_115 : MLW "RuleClassesLaw" 115 y_L_fallback b_L_fallback 4 (some .int) [(0, 6, 9, 13)] 3 := ⟨m_542, m_544, m_0, by decide, by decide +kernel, m_543⟩
theorem w_L_118 : MLW "RuleClassesLaw" 118 y_L_edition b_L_edition 6 (some .int) [(0, 12, 15, 13)] 5 := ⟨m_549, m_551, m_0, by decide, by decide +kernel, m_550⟩
theorem w_L_121 : MLW "RuleClassesLaw" 121 y_L_failed b_L_failed 5 (some .int) [(0, 10, 13, 13)] 4 := ⟨m_556, m_558, m_0, by decide, by decide +kernel, m_557⟩
theorem w_L_124 : MLW "RuleClassesLaw" 124 y_L_handle b_L_handle 4 (some .int) [(0, 9, 12, 24), (0, 9, 15, 26), (0, 9, 18, 19)] 3 := ⟨m_563, m_565, m_0, by decide, by decide +kernel, m_564⟩
theorem w_L_127 : MLW "RuleClassesLaw" 127 y_L_by b_L_by 4 (some .int) [(0, 9, 12, 13), (0, 9, 15, 26)] 3 := ⟨m_572, m_574, m_0, by decide, by decide +kernel, m_573⟩
theorem w_L_130 : MLW "RuleClassesLaw" 130 y_L_keep b_L_keep 3 (some .int) [(0, 8, 11, 19)] 2 := ⟨m_580, m_582, m_0, by decide, by decide +kernel, m_581⟩
theorem w_L_134 : MLW "RuleClassesLaw" 134 y_L_compare b_L_compare 5 (some .int) [(0, 10, 13, 24)] 4 := ⟨m_595, m_597, m_0, by decide, by decide +kernel, m_596⟩
theorem w_L_137 : MLW "RuleClassesLaw" 137 y_L_same b_L_same 5 (some .int) [(0, 17, 20, 24)] 4 := ⟨m_602, m_604, m_0, by decide, by decide +kernel, m_603⟩
theorem w_L_140 : MLW "RuleClassesLaw" 140 y_L_shadow b_L_shadow 5 (some .int) [(0, 7, 10, 24), (0, 7, 14, 13)] 4 := ⟨m_613, m_615, m_0, by decide, by decide +kernel, m_614⟩
theorem w_L_144 : MLW "RuleClassesLaw" 144 y_L_otherwise b_L_otherwise 5 (some .int) [(0, 10, 13, 13)] 4 := ⟨m_620, m_622, m_0, by decide, by decide +kernel, m_621⟩
theorem w_L_147 : MLW "RuleClassesLaw" 147 y_L_divide b_L_divide 5 (some .int) [(0, 10, 13, 76)] 4 := ⟨m_627, m_629, m_0, by decide, by decide +kernel, m_628⟩
theorem w_L_150 : MLW "RuleClassesLaw" 150 y_L_told b_L_told 5 (some .int) [(0, 10, 13, 24), (0, 10, 17, 13)] 4 := ⟨m_651, m_653, m_0, by decide, by decide +kernel, m_652⟩
theorem nI_4 (t : Nat) : nI (1 + 4 * t) + 4 = nI (1 + 4 * (t + 1)) := (nI_add (1 + 4 * t) 4).trans (congrArg nI (by omega))
theorem ex_iff {L t : Nat} (hL : L ≤ 4096) (ht : t ≤ 1024) : nI L - 4 < nI (1 + 4 * t) ↔ L < 4 * t + 5 := by
  rw [Int32.lt_iff_toInt_lt, Int32.toInt_sub, nI_toInt (by omega), nI_toInt (by omega), show (4 : Int32).toInt = 4 by decide, Int.bmod_eq_of_le (by omega) (by omega)]
  omega
set_option maxHeartbeats 4000000 in
set_option maxRecDepth 100000 in
theorem law_end (G : Gl) (l : Launch) (htr : l.stackTraces = false) {p : Program} {e : Env} {s : State} {m : MethodId} {below : List Frame} {meth : Method} {c : Code} {b L : Nat} {xs : Nat → Int32} (hL9 : L ≤ 2049) (F : Bd G p l s m #[Value.ref b] meth c code 7 "RuleClassesLaw") (hr : meth.sig.returnType = ret) (hX : va_X b L xs s s.heap) (hbl : b < s.heap.size) (hbA : ¬ aB G b) (hG : s.heap.size ≤ G.2.2) (a0 a1 ou : Nat) (t : Nat) (ht : t ≤ 512) (hx9 : L ≤ 4 * t + 4) (V : Vw) (H : Heap) (locs : List Loc) (ls : Array Slot) (cells slots : Nat) (hS : HS G s V H locs) (hce : cells ≤ 64 + 7 * t) (hsl : slots ≤ 2048 + 96 * t) (hl : lv_has ls 7 [(0, .ref b), (1, .ref a0), (2, .ref a1), (3, .ref ou), (4, .int (nI (1 + 4 * t)))]) : W p l e room_1 s m #[Value.ref b] below meth c H locs cells slots (lw_Z below #[Value.ref b] s) (F0 m 33 ls []) := by
  obtain ⟨hx, hb, hml, hown, hts, hK, hlk, -⟩ := id F
  refine lv_iload hx hb d_L_law_33 (lv_at hl 4 rfl) ?_
  refine lv_aload_n hx hb d_L_law_35 rfl (lv_at hl 0 rfl) ?_
  refine va_slen (A := aB G) hx hb hX hbl hbA hS.2.1 d_L_law_36 ?_
  rw [show Int32.ofNat L = nI L from rfl]
  refine lv_iconst (v := 4) hx hb d_L_law_37 (by decide) ?_
  refine lv_isub hx hb d_L_law_38 ?_
  refine lv_icmp_gt (tgt := 855) hx hb d_L_law_39 (by decide) (fun c_39 => ?_) (fun c_39 => absurd ((ex_iff (by omega) (by omega)).mpr (by omega)) c_39)
  refine lv_iconst (v := 1) hx hb d_L_law_855 (by decide) ?_
  refine va_forget (fun q hq => Nat.le_trans hG (hS.2.1.2.2 q hq)) ?_
  exact W.widen (by omega) (by omega) (lw_ret hx hb hr hlk d_L_law_856)
set_option maxHeartbeats 16000000 in
set_option maxRecDepth 100000 in
theorem lp_law (G : Gl) (l : Launch) (htr : l.stackTraces = false) {p : Program} {e : Env} {s : State} {m : MethodId} {below : List Frame} {meth : Method} {c : Code} {b L : Nat} {xs : Nat → Int32} (hL9 : L ≤ 2049) (F : Bd G p l s m #[Value.ref b] meth c code 7 "RuleClassesLaw") (hr : meth.sig.returnType = ret) (hX : va_X b L xs s s.heap) (hbl : b < s.heap.size) (hbA : ¬ aB G b) (hG : s.heap.size ≤ G.2.2) (a0 a1 ou : Nat) : ∀ (n t : Nat), L ≤ 4 * (t + n) + 4 → t + n ≤ 512 → ∀ (V : Vw) (th : Int32) (g9 : Nat → Int64) (H : Heap) (locs : List Loc) (ls : Array Slot) (cells slots : Nat), JJ G V a0 a1 ou th g9 (t = 0) → HS G s V H locs → cells ≤ 64 + 7 * t → slots ≤ 2048 + 96 * t → lv_has ls 7 [(0, .ref b), (1, .ref a0), (2, .ref a1), (3, .ref ou), (4, .int (nI (1 + 4 * t)))] → W p l e room_1 s m #[Value.ref b] below meth c H locs cells slots (lw_Z below #[Value.ref b] s) (F0 m 33 ls []) := by
  obtain ⟨hx, hb, hml, hown, hts, hK, hlk, -⟩ := id F
  intro n
  induction n with
  | zero =>
    intro t h1 h2 V th g9 H locs ls cells slots hJ hS hce hsl hl
    exact law_end G l htr hL9 F hr hX hbl hbA hG a0 a1 ou t (by omega) (by omega) V H locs ls cells slots hS hce hsl hl
  | succ n ih =>
    intro t h1 h2 V th g9 H locs ls cells slots hJ hS hce hsl hl
    by_cases hx9 : L ≤ 4 * t + 4
    · exact law_end G l htr hL9 F hr hX hbl hbA hG a0 a1 ou t (by omega) hx9 V H locs ls cells slots hS hce hsl hl
    have h50 := hJ.out
    refine lv_iload hx hb d_L_law_33 (lv_at hl 4 rfl) ?_
    refine lv_aload_n hx hb d_L_law_35 rfl (lv_at hl 0 rfl) ?_
    refine va_slen (A := aB G) hx hb hX hbl hbA hS.2.1 d_L_law_36 ?_
    rw [show Int32.ofNat L = nI L from rfl]
    refine lv_iconst (v := 4) hx hb d_L_law_37 (by decide) ?_
    refine lv_isub hx hb d_L_law_38 ?_
    refine lv_icmp_gt (tgt := 855) hx hb d_L_law_39 (by decide) (fun c_39 => absurd c_39 (fun z => absurd ((ex_iff (by omega) (by omega)).mp z) (by omega))) (fun c_39 => ?_)
    refine lv_aload_n hx hb d_L_law_42 rfl (lv_at hl 0 rfl) ?_
    refine lv_iload hx hb d_L_law_43 (lv_at hl 4 rfl) ?_
    refine va_sld (A := aB G) hx hb hX hbl hbA hS.2.1 (vp_in_nI (by omega) (by omega)) d_L_law_45 ?_
    rw [nI_clamp (by omega)]
    refine lv_bipush (v := 31) hx hb d_L_law_46 (by decide) ?_
    refine lv_iand hx hb d_L_law_48 ?_
    obtain ⟨v9, hv9⟩ : ∃ v9, v9 = xs (1 + 4 * t) &&& 31 := ⟨_, rfl⟩
    rw [← hv9]
    by_cases hw : 0 ≤ v9 ∧ v9 ≤ 18
    · obtain ⟨vn, hvn, rfl⟩ := (in_iff (n := 18) (by decide)).mp hw
      rcases (show vn = 0 ∨ vn = 1 ∨ vn = 2 ∨ vn = 3 ∨ vn = 4 ∨ vn = 5 ∨ vn = 6 ∨ vn = 7 ∨ vn = 8 ∨ vn = 9 ∨ vn = 10 ∨ vn = 11 ∨ vn = 12 ∨ vn = 13 ∨ vn = 14 ∨ vn = 15 ∨ vn = 16 ∨ vn = 17 ∨ vn = 18 by omega) with rfl | rfl | rfl | rfl | rfl | rfl | rfl | rfl | rfl | rfl | rfl | rfl | rfl | rfl | rfl | rfl | rfl | rfl | rfl
      · refine lv_tableIn (tgt := 140) (off := 91) hx hb d_L_law_49 (by decide) (by decide) (by decide) (by decide) ?_
        refine lv_aload_n hx hb d_L_law_140 rfl (lv_at hl 1 rfl) ?_
        refine lv_aload_n hx hb d_L_law_141 rfl (lv_at hl 0 rfl) ?_
        refine lv_iload hx hb d_L_law_142 (lv_at hl 4 rfl) ?_
        refine lv_iconst (v := 1) hx hb d_L_law_144 (by decide) ?_
        refine lv_iadd hx hb d_L_law_145 ?_
        rw [show nI (1 + 4 * t) + 1 = nI (1 + 4 * t + 1) from nI_add (1 + 4 * t) 1]
        refine va_sld (A := aB G) hx hb hX hbl hbA hS.2.1 (vp_in_nI (by omega) (by omega)) d_L_law_146 ?_
        rw [nI_clamp (by omega)]
        refine r_callW (As := [.ref a0, .int (xs (1 + 4 * t + 1))]) (rest := []) F hS w_L_92 (j_today G l htr V a0 a1 ou th g9 (t = 0) hJ (xs (1 + 4 * t + 1))) rfl hl.1 rfl (Nat.le_of_ble_eq_true rfl) d_L_law_147 ⟨Nat.le_of_ble_eq_true rfl, Nat.le_of_ble_eq_true rfl⟩ ⟨by show cells + 1 ≤ 601024; omega, by show slots + 6 ≤ 7293000; omega⟩ (fun rv V1 H locs hR hS => ?_)
        obtain ⟨k9, rfl, ⟨fo, hfo⟩, hM2⟩ := hR
        refine W.eq (g2 := F0 m 150 ls [.int k9]) rfl ?_
        refine lv_istore (lv' := [(5, .int k9), (0, .ref b), (1, .ref a0), (2, .ref a1), (3, .ref ou), (4, .int (nI (1 + 4 * t)))]) hx hb d_L_law_150 hl (by decide) rfl (fun ls hl => ?_)
        refine lv_aload_n hx hb d_L_law_152 rfl (lv_at hl 3 rfl) ?_
        refine lv_aload_n hx hb d_L_law_153 rfl (lv_at hl 1 rfl) ?_
        refine lv_iload hx hb d_L_law_154 (lv_at hl 5 rfl) ?_
        refine lv_iconst (v := 1) hx hb d_L_law_156 (by decide) ?_
        refine lv_iadd hx hb d_L_law_157 ?_
        rw [show nI (1 + 4 * t) + 1 = nI (1 + 4 * t + 1) from nI_add (1 + 4 * t) 1]
        refine va_sld (A := aB G) hx hb hX hbl hbA hS.2.1 (vp_in_nI (by omega) (by omega)) d_L_law_158 ?_
        rw [nI_clamp (by omega)]
        refine r_callV (k := 20) (i := 0) (q := ("RuleClassesModel", T_M, 30)) (fs := fo) (As := [.int (xs (1 + 4 * t + 1))]) (rest := []) F hS c_L_95 hM2 rfl hfo rfl hl.1 rfl (Nat.le_of_ble_eq_true rfl) d_L_law_159 ⟨Nat.le_of_ble_eq_true rfl, Nat.le_of_ble_eq_true rfl⟩ ⟨by show cells + 1 + 0 ≤ 601024; omega, by show slots + 6 + 0 ≤ 7293000; omega⟩ (fun rv V1 H locs hR hS => ?_)
        obtain ⟨rfl, g2, hJ⟩ := hR
        obtain ⟨fo, hfo⟩ := hJ.o
        have h50 := hJ.out
        refine W.eq (g2 := F0 m 162 ls []) rfl ?_
        refine lv_goto (tgt := 849) hx hb d_L_law_162 (by decide) ?_
        refine lv_iinc (v := (nI (1 + 4 * (t + 1)))) (lv' := [(4, .int (nI (1 + 4 * (t + 1)))), (5, .int k9), (0, .ref b), (1, .ref a0), (2, .ref a1), (3, .ref ou)]) hx hb d_L_law_849 hl (k := 5) rfl (nI_4 t) (by decide) rfl (fun ls hl => ?_)
        refine lv_goto (tgt := 33) hx hb d_L_law_852 (by decide) ?_
        exact ih (t + 1) (by omega) (by omega) _ _ _ _ _ _ _ _ (hJ.nb (fun z => absurd z (by omega))) hS (by first | omega | (dsimp only; omega)) (by first | omega | (dsimp only; omega)) (lv_sub hl [2, 3, 4, 5, 0] rfl)
      · refine lv_tableIn (tgt := 165) (off := 116) hx hb d_L_law_49 (by decide) (by decide) (by decide) (by decide) ?_
        refine lv_aload_n hx hb d_L_law_165 rfl (lv_at hl 1 rfl) ?_
        refine lv_aload_n hx hb d_L_law_166 rfl (lv_at hl 0 rfl) ?_
        refine lv_iload hx hb d_L_law_167 (lv_at hl 4 rfl) ?_
        refine lv_iconst (v := 1) hx hb d_L_law_169 (by decide) ?_
        refine lv_iadd hx hb d_L_law_170 ?_
        rw [show nI (1 + 4 * t) + 1 = nI (1 + 4 * t + 1) from nI_add (1 + 4 * t) 1]
        refine va_sld (A := aB G) hx hb hX hbl hbA hS.2.1 (vp_in_nI (by omega) (by omega)) d_L_law_171 ?_
        rw [nI_clamp (by omega)]
        refine lv_aload_n hx hb d_L_law_172 rfl (lv_at hl 0 rfl) ?_
        refine lv_iload hx hb d_L_law_173 (lv_at hl 4 rfl) ?_
        refine lv_iconst (v := 2) hx hb d_L_law_175 (by decide) ?_
        refine lv_iadd hx hb d_L_law_176 ?_
        rw [show nI (1 + 4 * t) + 2 = nI (1 + 4 * t + 2) from nI_add (1 + 4 * t) 2]
        refine va_sld (A := aB G) hx hb hX hbl hbA hS.2.1 (vp_in_nI (by omega) (by omega)) d_L_law_177 ?_
        rw [nI_clamp (by omega)]
        refine lv_aload_n hx hb d_L_law_178 rfl (lv_at hl 0 rfl) ?_
        refine lv_iload hx hb d_L_law_179 (lv_at hl 4 rfl) ?_
        refine lv_iconst (v := 3) hx hb d_L_law_181 (by decide) ?_
        refine lv_iadd hx hb d_L_law_182 ?_
        rw [show nI (1 + 4 * t) + 3 = nI (1 + 4 * t + 3) from nI_add (1 + 4 * t) 3]
        refine va_sld (A := aB G) hx hb hX hbl hbA hS.2.1 (vp_in_nI (by omega) (by omega)) d_L_law_183 ?_
        rw [nI_clamp (by omega)]
        refine lv_aload_n hx hb d_L_law_184 rfl (lv_at hl 3 rfl) ?_
        refine r_callW (As := [.ref a0, .int (xs (1 + 4 * t + 1)), .int (xs (1 + 4 * t + 2)), .int (xs (1 + 4 * t + 3)), .ref ou]) (rest := []) F hS w_L_96 (j_rule G l htr V a0 a1 ou th g9 (t = 0) hJ (xs (1 + 4 * t + 1)) (xs (1 + 4 * t + 2)) (xs (1 + 4 * t + 3))) rfl hl.1 rfl (Nat.le_of_ble_eq_true rfl) d_L_law_185 ⟨Nat.le_of_ble_eq_true rfl, Nat.le_of_ble_eq_true rfl⟩ ⟨by show cells + 7 ≤ 601024; omega, by show slots + 96 ≤ 7293000; omega⟩ (fun rv V1 H locs hR hS => ?_)
        obtain ⟨k9, rfl, ⟨fo, hfo⟩, hM2⟩ := hR
        refine W.eq (g2 := F0 m 188 ls [.int k9]) rfl ?_
        refine lv_istore (lv' := [(5, .int k9), (0, .ref b), (1, .ref a0), (2, .ref a1), (3, .ref ou), (4, .int (nI (1 + 4 * t)))]) hx hb d_L_law_188 hl (by decide) rfl (fun ls hl => ?_)
        refine lv_aload_n hx hb d_L_law_190 rfl (lv_at hl 3 rfl) ?_
        refine lv_aload_n hx hb d_L_law_191 rfl (lv_at hl 1 rfl) ?_
        refine lv_iload hx hb d_L_law_192 (lv_at hl 5 rfl) ?_
        refine lv_iconst (v := 1) hx hb d_L_law_194 (by decide) ?_
        refine lv_iadd hx hb d_L_law_195 ?_
        rw [show nI (1 + 4 * t) + 1 = nI (1 + 4 * t + 1) from nI_add (1 + 4 * t) 1]
        refine va_sld (A := aB G) hx hb hX hbl hbA hS.2.1 (vp_in_nI (by omega) (by omega)) d_L_law_196 ?_
        rw [nI_clamp (by omega)]
        refine lv_aload_n hx hb d_L_law_197 rfl (lv_at hl 1 rfl) ?_
        refine lv_iload hx hb d_L_law_198 (lv_at hl 5 rfl) ?_
        refine lv_iconst (v := 2) hx hb d_L_law_200 (by decide) ?_
        refine lv_iadd hx hb d_L_law_201 ?_
        rw [show nI (1 + 4 * t) + 2 = nI (1 + 4 * t + 2) from nI_add (1 + 4 * t) 2]
        refine va_sld (A := aB G) hx hb hX hbl hbA hS.2.1 (vp_in_nI (by omega) (by omega)) d_L_law_202 ?_
        rw [nI_clamp (by omega)]
        refine lv_aload_n hx hb d_L_law_203 rfl (lv_at hl 1 rfl) ?_
        refine lv_iload hx hb d_L_law_204 (lv_at hl 5 rfl) ?_
        refine lv_iconst (v := 3) hx hb d_L_law_206 (by decide) ?_
        refine lv_iadd hx hb d_L_law_207 ?_
        rw [show nI (1 + 4 * t) + 3 = nI (1 + 4 * t + 3) from nI_add (1 + 4 * t) 3]
        refine va_sld (A := aB G) hx hb hX hbl hbA hS.2.1 (vp_in_nI (by omega) (by omega)) d_L_law_208 ?_
        rw [nI_clamp (by omega)]
        refine r_callV (k := 20) (i := 0) (q := ("RuleClassesModel", T_M, 30)) (fs := fo) (As := [.int (xs (1 + 4 * t + 1)), .int (xs (1 + 4 * t + 2)), .int (xs (1 + 4 * t + 3))]) (rest := []) F hS c_L_99 hM2 rfl hfo rfl hl.1 rfl (Nat.le_of_ble_eq_true rfl) d_L_law_209 ⟨Nat.le_of_ble_eq_true rfl, Nat.le_of_ble_eq_true rfl⟩ ⟨by show cells + 7 + 0 ≤ 601024; omega, by show slots + 96 + 0 ≤ 7293000; omega⟩ (fun rv V1 H locs hR hS => ?_)
        obtain ⟨b9, rfl, g2, hJ, hfin⟩ := hR
        obtain ⟨fo, hfo⟩ := hJ.o
        have h50 := hJ.out
        refine W.eq (g2 := F0 m 212 ls [.int b9]) rfl ?_
        refine lv_istore (lv' := [(6, .int b9), (5, .int k9), (0, .ref b), (1, .ref a0), (2, .ref a1), (3, .ref ou), (4, .int (nI (1 + 4 * t)))]) hx hb d_L_law_212 hl (by decide) rfl (fun ls hl => ?_)
        refine lv_goto (tgt := 849) hx hb d_L_law_214 (by decide) ?_
        refine lv_iinc (v := (nI (1 + 4 * (t + 1)))) (lv' := [(4, .int (nI (1 + 4 * (t + 1)))), (6, .int b9), (5, .int k9), (0, .ref b), (1, .ref a0), (2, .ref a1), (3, .ref ou)]) hx hb d_L_law_849 hl (k := 6) rfl (nI_4 t) (by decide) rfl (fun ls hl => ?_)
        refine lv_goto (tgt := 33) hx hb d_L_law_852 (by decide) ?_
        exact ih (t + 1) (by omega) (by omega) _ _ _ _ _ _ _ _ (hJ.nb (fun z => absurd z (by omega))) hS (by first | omega | (dsimp only; omega)) (by first | omega | (dsimp only; omega)) (lv_sub hl [3, 4, 5, 6, 0] rfl)
      · refine lv_tableIn (tgt := 217) (off := 168) hx hb d_L_law_49 (by decide) (by decide) (by decide) (by decide) ?_
        refine lv_aload_n hx hb d_L_law_217 rfl (lv_at hl 1 rfl) ?_
        refine lv_aload_n hx hb d_L_law_218 rfl (lv_at hl 0 rfl) ?_
        refine lv_iload hx hb d_L_law_219 (lv_at hl 4 rfl) ?_
        refine lv_iconst (v := 1) hx hb d_L_law_221 (by decide) ?_
        refine lv_iadd hx hb d_L_law_222 ?_
        rw [show nI (1 + 4 * t) + 1 = nI (1 + 4 * t + 1) from nI_add (1 + 4 * t) 1]
        refine va_sld (A := aB G) hx hb hX hbl hbA hS.2.1 (vp_in_nI (by omega) (by omega)) d_L_law_223 ?_
        rw [nI_clamp (by omega)]
        refine lv_aload_n hx hb d_L_law_224 rfl (lv_at hl 0 rfl) ?_
        refine lv_iload hx hb d_L_law_225 (lv_at hl 4 rfl) ?_
        refine lv_iconst (v := 2) hx hb d_L_law_227 (by decide) ?_
        refine lv_iadd hx hb d_L_law_228 ?_
        rw [show nI (1 + 4 * t) + 2 = nI (1 + 4 * t + 2) from nI_add (1 + 4 * t) 2]
        refine va_sld (A := aB G) hx hb hX hbl hbA hS.2.1 (vp_in_nI (by omega) (by omega)) d_L_law_229 ?_
        rw [nI_clamp (by omega)]
        refine lv_aload_n hx hb d_L_law_230 rfl (lv_at hl 0 rfl) ?_
        refine lv_iload hx hb d_L_law_231 (lv_at hl 4 rfl) ?_
        refine lv_iconst (v := 3) hx hb d_L_law_233 (by decide) ?_
        refine lv_iadd hx hb d_L_law_234 ?_
        rw [show nI (1 + 4 * t) + 3 = nI (1 + 4 * t + 3) from nI_add (1 + 4 * t) 3]
        refine va_sld (A := aB G) hx hb hX hbl hbA hS.2.1 (vp_in_nI (by omega) (by omega)) d_L_law_235 ?_
        rw [nI_clamp (by omega)]
        refine lv_aload_n hx hb d_L_law_236 rfl (lv_at hl 3 rfl) ?_
        refine r_callW (As := [.ref a0, .int (xs (1 + 4 * t + 1)), .int (xs (1 + 4 * t + 2)), .int (xs (1 + 4 * t + 3)), .ref ou]) (rest := []) F hS w_L_100 (j_op G l htr V a0 a1 ou th g9 (t = 0) hJ (xs (1 + 4 * t + 1)) (xs (1 + 4 * t + 2)) (xs (1 + 4 * t + 3))) rfl hl.1 rfl (Nat.le_of_ble_eq_true rfl) d_L_law_237 ⟨Nat.le_of_ble_eq_true rfl, Nat.le_of_ble_eq_true rfl⟩ ⟨by show cells + 5 ≤ 601024; omega, by show slots + 30 ≤ 7293000; omega⟩ (fun rv V1 H locs hR hS => ?_)
        obtain ⟨k9, rfl, ⟨fo, hfo⟩, hM2⟩ := hR
        refine W.eq (g2 := F0 m 240 ls [.int k9]) rfl ?_
        refine lv_istore (lv' := [(5, .int k9), (0, .ref b), (1, .ref a0), (2, .ref a1), (3, .ref ou), (4, .int (nI (1 + 4 * t)))]) hx hb d_L_law_240 hl (by decide) rfl (fun ls hl => ?_)
        refine lv_aload_n hx hb d_L_law_242 rfl (lv_at hl 3 rfl) ?_
        refine lv_aload_n hx hb d_L_law_243 rfl (lv_at hl 1 rfl) ?_
        refine lv_iload hx hb d_L_law_244 (lv_at hl 5 rfl) ?_
        refine lv_iconst (v := 1) hx hb d_L_law_246 (by decide) ?_
        refine lv_iadd hx hb d_L_law_247 ?_
        rw [show nI (1 + 4 * t) + 1 = nI (1 + 4 * t + 1) from nI_add (1 + 4 * t) 1]
        refine va_sld (A := aB G) hx hb hX hbl hbA hS.2.1 (vp_in_nI (by omega) (by omega)) d_L_law_248 ?_
        rw [nI_clamp (by omega)]
        refine lv_aload_n hx hb d_L_law_249 rfl (lv_at hl 1 rfl) ?_
        refine lv_iload hx hb d_L_law_250 (lv_at hl 5 rfl) ?_
        refine lv_iconst (v := 2) hx hb d_L_law_252 (by decide) ?_
        refine lv_iadd hx hb d_L_law_253 ?_
        rw [show nI (1 + 4 * t) + 2 = nI (1 + 4 * t + 2) from nI_add (1 + 4 * t) 2]
        refine va_sld (A := aB G) hx hb hX hbl hbA hS.2.1 (vp_in_nI (by omega) (by omega)) d_L_law_254 ?_
        rw [nI_clamp (by omega)]
        refine lv_aload_n hx hb d_L_law_255 rfl (lv_at hl 1 rfl) ?_
        refine lv_iload hx hb d_L_law_256 (lv_at hl 5 rfl) ?_
        refine lv_iconst (v := 3) hx hb d_L_law_258 (by decide) ?_
        refine lv_iadd hx hb d_L_law_259 ?_
        rw [show nI (1 + 4 * t) + 3 = nI (1 + 4 * t + 3) from nI_add (1 + 4 * t) 3]
        refine va_sld (A := aB G) hx hb hX hbl hbA hS.2.1 (vp_in_nI (by omega) (by omega)) d_L_law_260 ?_
        rw [nI_clamp (by omega)]
        refine r_callV (k := 20) (i := 0) (q := ("RuleClassesModel", T_M, 30)) (fs := fo) (As := [.int (xs (1 + 4 * t + 1)), .int (xs (1 + 4 * t + 2)), .int (xs (1 + 4 * t + 3))]) (rest := []) F hS c_L_102 hM2 rfl hfo rfl hl.1 rfl (Nat.le_of_ble_eq_true rfl) d_L_law_261 ⟨Nat.le_of_ble_eq_true rfl, Nat.le_of_ble_eq_true rfl⟩ ⟨by show cells + 5 + 0 ≤ 601024; omega, by show slots + 30 + 0 ≤ 7293000; omega⟩ (fun rv V1 H locs hR hS => ?_)
        obtain ⟨b9, rfl, g2, hJ, hfin⟩ := hR
        obtain ⟨fo, hfo⟩ := hJ.o
        have h50 := hJ.out
        refine W.eq (g2 := F0 m 264 ls [.int b9]) rfl ?_
        refine lv_istore (lv' := [(6, .int b9), (5, .int k9), (0, .ref b), (1, .ref a0), (2, .ref a1), (3, .ref ou), (4, .int (nI (1 + 4 * t)))]) hx hb d_L_law_264 hl (by decide) rfl (fun ls hl => ?_)
        refine lv_goto (tgt := 849) hx hb d_L_law_266 (by decide) ?_
        refine lv_iinc (v := (nI (1 + 4 * (t + 1)))) (lv' := [(4, .int (nI (1 + 4 * (t + 1)))), (6, .int b9), (5, .int k9), (0, .ref b), (1, .ref a0), (2, .ref a1), (3, .ref ou)]) hx hb d_L_law_849 hl (k := 6) rfl (nI_4 t) (by decide) rfl (fun ls hl => ?_)
        refine lv_goto (tgt := 33) hx hb d_L_law_852 (by decide) ?_
        exact ih (t + 1) (by omega) (by omega) _ _ _ _ _ _ _ _ (hJ.nb (fun z => absurd z (by omega))) hS (by first | omega | (dsimp only; omega)) (by first | omega | (dsimp only; omega)) (lv_sub hl [3, 4, 5, 6, 0] rfl)
      · refine lv_tableIn (tgt := 269) (off := 220) hx hb d_L_law_49 (by decide) (by decide) (by decide) (by decide) ?_
        refine lv_aload_n hx hb d_L_law_269 rfl (lv_at hl 1 rfl) ?_
        refine lv_aload_n hx hb d_L_law_270 rfl (lv_at hl 0 rfl) ?_
        refine lv_iload hx hb d_L_law_271 (lv_at hl 4 rfl) ?_
        refine lv_iconst (v := 1) hx hb d_L_law_273 (by decide) ?_
        refine lv_iadd hx hb d_L_law_274 ?_
        rw [show nI (1 + 4 * t) + 1 = nI (1 + 4 * t + 1) from nI_add (1 + 4 * t) 1]
        refine va_sld (A := aB G) hx hb hX hbl hbA hS.2.1 (vp_in_nI (by omega) (by omega)) d_L_law_275 ?_
        rw [nI_clamp (by omega)]
        refine lv_aload_n hx hb d_L_law_276 rfl (lv_at hl 3 rfl) ?_
        refine r_callW (As := [.ref a0, .int (xs (1 + 4 * t + 1)), .ref ou]) (rest := []) F hS w_L_103 (j_make G l htr V a0 a1 ou th g9 (t = 0) hJ (xs (1 + 4 * t + 1))) rfl hl.1 rfl (Nat.le_of_ble_eq_true rfl) d_L_law_277 ⟨Nat.le_of_ble_eq_true rfl, Nat.le_of_ble_eq_true rfl⟩ ⟨by show cells + 2 ≤ 601024; omega, by show slots + 12 ≤ 7293000; omega⟩ (fun rv V1 H locs hR hS => ?_)
        obtain ⟨k9, rfl, ⟨fo, hfo⟩, hM2⟩ := hR
        refine W.eq (g2 := F0 m 280 ls [.int k9]) rfl ?_
        refine lv_istore (lv' := [(5, .int k9), (0, .ref b), (1, .ref a0), (2, .ref a1), (3, .ref ou), (4, .int (nI (1 + 4 * t)))]) hx hb d_L_law_280 hl (by decide) rfl (fun ls hl => ?_)
        refine lv_aload_n hx hb d_L_law_282 rfl (lv_at hl 3 rfl) ?_
        refine lv_aload_n hx hb d_L_law_283 rfl (lv_at hl 1 rfl) ?_
        refine lv_iload hx hb d_L_law_284 (lv_at hl 5 rfl) ?_
        refine lv_iconst (v := 1) hx hb d_L_law_286 (by decide) ?_
        refine lv_iadd hx hb d_L_law_287 ?_
        rw [show nI (1 + 4 * t) + 1 = nI (1 + 4 * t + 1) from nI_add (1 + 4 * t) 1]
        refine va_sld (A := aB G) hx hb hX hbl hbA hS.2.1 (vp_in_nI (by omega) (by omega)) d_L_law_288 ?_
        rw [nI_clamp (by omega)]
        refine r_callV (k := 20) (i := 0) (q := ("RuleClassesModel", T_M, 30)) (fs := fo) (As := [.int (xs (1 + 4 * t + 1))]) (rest := []) F hS c_L_106 hM2 rfl hfo rfl hl.1 rfl (Nat.le_of_ble_eq_true rfl) d_L_law_289 ⟨Nat.le_of_ble_eq_true rfl, Nat.le_of_ble_eq_true rfl⟩ ⟨by show cells + 2 + 0 ≤ 601024; omega, by show slots + 12 + 0 ≤ 7293000; omega⟩ (fun rv V1 H locs hR hS => ?_)
        obtain ⟨b9, rfl, g2, hJ, hfin⟩ := hR
        obtain ⟨fo, hfo⟩ := hJ.o
        have h50 := hJ.out
        refine W.eq (g2 := F0 m 292 ls [.int b9]) rfl ?_
        refine lv_istore (lv' := [(6, .int b9), (5, .int k9), (0, .ref b), (1, .ref a0), (2, .ref a1), (3, .ref ou), (4, .int (nI (1 + 4 * t)))]) hx hb d_L_law_292 hl (by decide) rfl (fun ls hl => ?_)
        refine lv_goto (tgt := 849) hx hb d_L_law_294 (by decide) ?_
        refine lv_iinc (v := (nI (1 + 4 * (t + 1)))) (lv' := [(4, .int (nI (1 + 4 * (t + 1)))), (6, .int b9), (5, .int k9), (0, .ref b), (1, .ref a0), (2, .ref a1), (3, .ref ou)]) hx hb d_L_law_849 hl (k := 6) rfl (nI_4 t) (by decide) rfl (fun ls hl => ?_)
        refine lv_goto (tgt := 33) hx hb d_L_law_852 (by decide) ?_
        exact ih (t + 1) (by omega) (by omega) _ _ _ _ _ _ _ _ (hJ.nb (fun z => absurd z (by omega))) hS (by first | omega | (dsimp only; omega)) (by first | omega | (dsimp only; omega)) (lv_sub hl [3, 4, 5, 6, 0] rfl)
      · refine lv_tableIn (tgt := 297) (off := 248) hx hb d_L_law_49 (by decide) (by decide) (by decide) (by decide) ?_
        refine lv_aload_n hx hb d_L_law_297 rfl (lv_at hl 1 rfl) ?_
        refine lv_aload_n hx hb d_L_law_298 rfl (lv_at hl 0 rfl) ?_
        refine lv_iload hx hb d_L_law_299 (lv_at hl 4 rfl) ?_
        refine lv_iconst (v := 1) hx hb d_L_law_301 (by decide) ?_
        refine lv_iadd hx hb d_L_law_302 ?_
        rw [show nI (1 + 4 * t) + 1 = nI (1 + 4 * t + 1) from nI_add (1 + 4 * t) 1]
        refine va_sld (A := aB G) hx hb hX hbl hbA hS.2.1 (vp_in_nI (by omega) (by omega)) d_L_law_303 ?_
        rw [nI_clamp (by omega)]
        refine lv_aload_n hx hb d_L_law_304 rfl (lv_at hl 0 rfl) ?_
        refine lv_iload hx hb d_L_law_305 (lv_at hl 4 rfl) ?_
        refine lv_iconst (v := 2) hx hb d_L_law_307 (by decide) ?_
        refine lv_iadd hx hb d_L_law_308 ?_
        rw [show nI (1 + 4 * t) + 2 = nI (1 + 4 * t + 2) from nI_add (1 + 4 * t) 2]
        refine va_sld (A := aB G) hx hb hX hbl hbA hS.2.1 (vp_in_nI (by omega) (by omega)) d_L_law_309 ?_
        rw [nI_clamp (by omega)]
        refine r_callW (As := [.ref a0, .int (xs (1 + 4 * t + 1)), .int (xs (1 + 4 * t + 2))]) (rest := []) F hS w_L_107 (j_fact G l htr V a0 a1 ou th g9 (t = 0) hJ (xs (1 + 4 * t + 1)) (xs (1 + 4 * t + 2))) rfl hl.1 rfl (Nat.le_of_ble_eq_true rfl) d_L_law_310 ⟨Nat.le_of_ble_eq_true rfl, Nat.le_of_ble_eq_true rfl⟩ ⟨by show cells + 2 ≤ 601024; omega, by show slots + 12 ≤ 7293000; omega⟩ (fun rv V1 H locs hR hS => ?_)
        obtain ⟨k9, rfl, ⟨fo, hfo⟩, hM2⟩ := hR
        refine W.eq (g2 := F0 m 313 ls [.int k9]) rfl ?_
        refine lv_istore (lv' := [(5, .int k9), (0, .ref b), (1, .ref a0), (2, .ref a1), (3, .ref ou), (4, .int (nI (1 + 4 * t)))]) hx hb d_L_law_313 hl (by decide) rfl (fun ls hl => ?_)
        refine lv_aload_n hx hb d_L_law_315 rfl (lv_at hl 3 rfl) ?_
        refine lv_aload_n hx hb d_L_law_316 rfl (lv_at hl 1 rfl) ?_
        refine lv_iload hx hb d_L_law_317 (lv_at hl 5 rfl) ?_
        refine lv_iconst (v := 1) hx hb d_L_law_319 (by decide) ?_
        refine lv_iadd hx hb d_L_law_320 ?_
        rw [show nI (1 + 4 * t) + 1 = nI (1 + 4 * t + 1) from nI_add (1 + 4 * t) 1]
        refine va_sld (A := aB G) hx hb hX hbl hbA hS.2.1 (vp_in_nI (by omega) (by omega)) d_L_law_321 ?_
        rw [nI_clamp (by omega)]
        refine lv_aload_n hx hb d_L_law_322 rfl (lv_at hl 1 rfl) ?_
        refine lv_iload hx hb d_L_law_323 (lv_at hl 5 rfl) ?_
        refine lv_iconst (v := 2) hx hb d_L_law_325 (by decide) ?_
        refine lv_iadd hx hb d_L_law_326 ?_
        rw [show nI (1 + 4 * t) + 2 = nI (1 + 4 * t + 2) from nI_add (1 + 4 * t) 2]
        refine va_sld (A := aB G) hx hb hX hbl hbA hS.2.1 (vp_in_nI (by omega) (by omega)) d_L_law_327 ?_
        rw [nI_clamp (by omega)]
        refine r_callV (k := 20) (i := 0) (q := ("RuleClassesModel", T_M, 30)) (fs := fo) (As := [.int (xs (1 + 4 * t + 1)), .int (xs (1 + 4 * t + 2))]) (rest := []) F hS c_L_110 hM2 rfl hfo rfl hl.1 rfl (Nat.le_of_ble_eq_true rfl) d_L_law_328 ⟨Nat.le_of_ble_eq_true rfl, Nat.le_of_ble_eq_true rfl⟩ ⟨by show cells + 2 + 0 ≤ 601024; omega, by show slots + 12 + 0 ≤ 7293000; omega⟩ (fun rv V1 H locs hR hS => ?_)
        obtain ⟨rfl, g2, hJ⟩ := hR
        obtain ⟨fo, hfo⟩ := hJ.o
        have h50 := hJ.out
        refine W.eq (g2 := F0 m 331 ls []) rfl ?_
        refine lv_goto (tgt := 849) hx hb d_L_law_331 (by decide) ?_
        refine lv_iinc (v := (nI (1 + 4 * (t + 1)))) (lv' := [(4, .int (nI (1 + 4 * (t + 1)))), (5, .int k9), (0, .ref b), (1, .ref a0), (2, .ref a1), (3, .ref ou)]) hx hb d_L_law_849 hl (k := 5) rfl (nI_4 t) (by decide) rfl (fun ls hl => ?_)
        refine lv_goto (tgt := 33) hx hb d_L_law_852 (by decide) ?_
        exact ih (t + 1) (by omega) (by omega) _ _ _ _ _ _ _ _ (hJ.nb (fun z => absurd z (by omega))) hS (by first | omega | (dsimp only; omega)) (by first | omega | (dsimp only; omega)) (lv_sub hl [2, 3, 4, 5, 0] rfl)
      · refine lv_tableIn (tgt := 334) (off := 285) hx hb d_L_law_49 (by decide) (by decide) (by decide) (by decide) ?_
        refine lv_aload_n hx hb d_L_law_334 rfl (lv_at hl 1 rfl) ?_
        refine lv_aload_n hx hb d_L_law_335 rfl (lv_at hl 0 rfl) ?_
        refine lv_iload hx hb d_L_law_336 (lv_at hl 4 rfl) ?_
        refine lv_iconst (v := 1) hx hb d_L_law_338 (by decide) ?_
        refine lv_iadd hx hb d_L_law_339 ?_
        rw [show nI (1 + 4 * t) + 1 = nI (1 + 4 * t + 1) from nI_add (1 + 4 * t) 1]
        refine va_sld (A := aB G) hx hb hX hbl hbA hS.2.1 (vp_in_nI (by omega) (by omega)) d_L_law_340 ?_
        rw [nI_clamp (by omega)]
        refine lv_aload_n hx hb d_L_law_341 rfl (lv_at hl 0 rfl) ?_
        refine lv_iload hx hb d_L_law_342 (lv_at hl 4 rfl) ?_
        refine lv_iconst (v := 2) hx hb d_L_law_344 (by decide) ?_
        refine lv_iadd hx hb d_L_law_345 ?_
        rw [show nI (1 + 4 * t) + 2 = nI (1 + 4 * t + 2) from nI_add (1 + 4 * t) 2]
        refine va_sld (A := aB G) hx hb hX hbl hbA hS.2.1 (vp_in_nI (by omega) (by omega)) d_L_law_346 ?_
        rw [nI_clamp (by omega)]
        refine lv_aload_n hx hb d_L_law_347 rfl (lv_at hl 3 rfl) ?_
        refine r_callW (As := [.ref a0, .int (xs (1 + 4 * t + 1)), .int (xs (1 + 4 * t + 2)), .ref ou]) (rest := []) F hS w_L_111 (j_ask G l htr V a0 a1 ou th g9 (t = 0) hJ (xs (1 + 4 * t + 1)) (xs (1 + 4 * t + 2))) rfl hl.1 rfl (Nat.le_of_ble_eq_true rfl) d_L_law_348 ⟨Nat.le_of_ble_eq_true rfl, Nat.le_of_ble_eq_true rfl⟩ ⟨by show cells + 2 ≤ 601024; omega, by show slots + 12 ≤ 7293000; omega⟩ (fun rv V1 H locs hR hS => ?_)
        obtain ⟨k9, rfl, ⟨fo, hfo⟩, hM2⟩ := hR
        refine W.eq (g2 := F0 m 351 ls [.int k9]) rfl ?_
        refine lv_istore (lv' := [(5, .int k9), (0, .ref b), (1, .ref a0), (2, .ref a1), (3, .ref ou), (4, .int (nI (1 + 4 * t)))]) hx hb d_L_law_351 hl (by decide) rfl (fun ls hl => ?_)
        refine lv_aload_n hx hb d_L_law_353 rfl (lv_at hl 3 rfl) ?_
        refine lv_aload_n hx hb d_L_law_354 rfl (lv_at hl 1 rfl) ?_
        refine lv_iload hx hb d_L_law_355 (lv_at hl 5 rfl) ?_
        refine lv_iconst (v := 1) hx hb d_L_law_357 (by decide) ?_
        refine lv_iadd hx hb d_L_law_358 ?_
        rw [show nI (1 + 4 * t) + 1 = nI (1 + 4 * t + 1) from nI_add (1 + 4 * t) 1]
        refine va_sld (A := aB G) hx hb hX hbl hbA hS.2.1 (vp_in_nI (by omega) (by omega)) d_L_law_359 ?_
        rw [nI_clamp (by omega)]
        refine lv_aload_n hx hb d_L_law_360 rfl (lv_at hl 1 rfl) ?_
        refine lv_iload hx hb d_L_law_361 (lv_at hl 5 rfl) ?_
        refine lv_iconst (v := 2) hx hb d_L_law_363 (by decide) ?_
        refine lv_iadd hx hb d_L_law_364 ?_
        rw [show nI (1 + 4 * t) + 2 = nI (1 + 4 * t + 2) from nI_add (1 + 4 * t) 2]
        refine va_sld (A := aB G) hx hb hX hbl hbA hS.2.1 (vp_in_nI (by omega) (by omega)) d_L_law_365 ?_
        rw [nI_clamp (by omega)]
        refine r_callV (k := 20) (i := 0) (q := ("RuleClassesModel", T_M, 30)) (fs := fo) (As := [.int (xs (1 + 4 * t + 1)), .int (xs (1 + 4 * t + 2))]) (rest := []) F hS c_L_114 hM2 rfl hfo rfl hl.1 rfl (Nat.le_of_ble_eq_true rfl) d_L_law_366 ⟨Nat.le_of_ble_eq_true rfl, Nat.le_of_ble_eq_true rfl⟩ ⟨by show cells + 2 + 0 ≤ 601024; omega, by show slots + 12 + 0 ≤ 7293000; omega⟩ (fun rv V1 H locs hR hS => ?_)
        obtain ⟨b9, rfl, g2, hJ, hfin⟩ := hR
        obtain ⟨fo, hfo⟩ := hJ.o
        have h50 := hJ.out
        refine W.eq (g2 := F0 m 369 ls [.int b9]) rfl ?_
        refine lv_istore (lv' := [(6, .int b9), (5, .int k9), (0, .ref b), (1, .ref a0), (2, .ref a1), (3, .ref ou), (4, .int (nI (1 + 4 * t)))]) hx hb d_L_law_369 hl (by decide) rfl (fun ls hl => ?_)
        refine lv_goto (tgt := 849) hx hb d_L_law_371 (by decide) ?_
        refine lv_iinc (v := (nI (1 + 4 * (t + 1)))) (lv' := [(4, .int (nI (1 + 4 * (t + 1)))), (6, .int b9), (5, .int k9), (0, .ref b), (1, .ref a0), (2, .ref a1), (3, .ref ou)]) hx hb d_L_law_849 hl (k := 6) rfl (nI_4 t) (by decide) rfl (fun ls hl => ?_)
        refine lv_goto (tgt := 33) hx hb d_L_law_852 (by decide) ?_
        exact ih (t + 1) (by omega) (by omega) _ _ _ _ _ _ _ _ (hJ.nb (fun z => absurd z (by omega))) hS (by first | omega | (dsimp only; omega)) (by first | omega | (dsimp only; omega)) (lv_sub hl [3, 4, 5, 6, 0] rfl)
      · refine lv_tableIn (tgt := 374) (off := 325) hx hb d_L_law_49 (by decide) (by decide) (by decide) (by decide) ?_
        refine lv_aload_n hx hb d_L_law_374 rfl (lv_at hl 1 rfl) ?_
        refine lv_aload_n hx hb d_L_law_375 rfl (lv_at hl 0 rfl) ?_
        refine lv_iload hx hb d_L_law_376 (lv_at hl 4 rfl) ?_
        refine lv_iconst (v := 1) hx hb d_L_law_378 (by decide) ?_
        refine lv_iadd hx hb d_L_law_379 ?_
        rw [show nI (1 + 4 * t) + 1 = nI (1 + 4 * t + 1) from nI_add (1 + 4 * t) 1]
        refine va_sld (A := aB G) hx hb hX hbl hbA hS.2.1 (vp_in_nI (by omega) (by omega)) d_L_law_380 ?_
        rw [nI_clamp (by omega)]
        refine lv_aload_n hx hb d_L_law_381 rfl (lv_at hl 0 rfl) ?_
        refine lv_iload hx hb d_L_law_382 (lv_at hl 4 rfl) ?_
        refine lv_iconst (v := 2) hx hb d_L_law_384 (by decide) ?_
        refine lv_iadd hx hb d_L_law_385 ?_
        rw [show nI (1 + 4 * t) + 2 = nI (1 + 4 * t + 2) from nI_add (1 + 4 * t) 2]
        refine va_sld (A := aB G) hx hb hX hbl hbA hS.2.1 (vp_in_nI (by omega) (by omega)) d_L_law_386 ?_
        rw [nI_clamp (by omega)]
        refine r_callW (As := [.ref a0, .int (xs (1 + 4 * t + 1)), .int (xs (1 + 4 * t + 2))]) (rest := []) F hS w_L_115 (j_fallback G l htr V a0 a1 ou th g9 (t = 0) hJ (xs (1 + 4 * t + 1)) (xs (1 + 4 * t + 2))) rfl hl.1 rfl (Nat.le_of_ble_eq_true rfl) d_L_law_387 ⟨Nat.le_of_ble_eq_true rfl, Nat.le_of_ble_eq_true rfl⟩ ⟨by show cells + 2 ≤ 601024; omega, by show slots + 12 ≤ 7293000; omega⟩ (fun rv V1 H locs hR hS => ?_)
        obtain ⟨k9, rfl, ⟨fo, hfo⟩, hM2⟩ := hR
        refine W.eq (g2 := F0 m 390 ls [.int k9]) rfl ?_
        refine lv_istore (lv' := [(5, .int k9), (0, .ref b), (1, .ref a0), (2, .ref a1), (3, .ref ou), (4, .int (nI (1 + 4 * t)))]) hx hb d_L_law_390 hl (by decide) rfl (fun ls hl => ?_)
        refine lv_aload_n hx hb d_L_law_392 rfl (lv_at hl 3 rfl) ?_
        refine lv_aload_n hx hb d_L_law_393 rfl (lv_at hl 1 rfl) ?_
        refine lv_iload hx hb d_L_law_394 (lv_at hl 5 rfl) ?_
        refine lv_iconst (v := 1) hx hb d_L_law_396 (by decide) ?_
        refine lv_iadd hx hb d_L_law_397 ?_
        rw [show nI (1 + 4 * t) + 1 = nI (1 + 4 * t + 1) from nI_add (1 + 4 * t) 1]
        refine va_sld (A := aB G) hx hb hX hbl hbA hS.2.1 (vp_in_nI (by omega) (by omega)) d_L_law_398 ?_
        rw [nI_clamp (by omega)]
        refine lv_aload_n hx hb d_L_law_399 rfl (lv_at hl 1 rfl) ?_
        refine lv_iload hx hb d_L_law_400 (lv_at hl 5 rfl) ?_
        refine lv_iconst (v := 2) hx hb d_L_law_402 (by decide) ?_
        refine lv_iadd hx hb d_L_law_403 ?_
        rw [show nI (1 + 4 * t) + 2 = nI (1 + 4 * t + 2) from nI_add (1 + 4 * t) 2]
        refine va_sld (A := aB G) hx hb hX hbl hbA hS.2.1 (vp_in_nI (by omega) (by omega)) d_L_law_404 ?_
        rw [nI_clamp (by omega)]
        refine r_callV (k := 20) (i := 0) (q := ("RuleClassesModel", T_M, 30)) (fs := fo) (As := [.int (xs (1 + 4 * t + 1)), .int (xs (1 + 4 * t + 2))]) (rest := []) F hS c_L_117 hM2 rfl hfo rfl hl.1 rfl (Nat.le_of_ble_eq_true rfl) d_L_law_405 ⟨Nat.le_of_ble_eq_true rfl, Nat.le_of_ble_eq_true rfl⟩ ⟨by show cells + 2 + 0 ≤ 601024; omega, by show slots + 12 + 0 ≤ 7293000; omega⟩ (fun rv V1 H locs hR hS => ?_)
        obtain ⟨rfl, g2, hJ⟩ := hR
        obtain ⟨fo, hfo⟩ := hJ.o
        have h50 := hJ.out
        refine W.eq (g2 := F0 m 408 ls []) rfl ?_
        refine lv_goto (tgt := 849) hx hb d_L_law_408 (by decide) ?_
        refine lv_iinc (v := (nI (1 + 4 * (t + 1)))) (lv' := [(4, .int (nI (1 + 4 * (t + 1)))), (5, .int k9), (0, .ref b), (1, .ref a0), (2, .ref a1), (3, .ref ou)]) hx hb d_L_law_849 hl (k := 5) rfl (nI_4 t) (by decide) rfl (fun ls hl => ?_)
        refine lv_goto (tgt := 33) hx hb d_L_law_852 (by decide) ?_
        exact ih (t + 1) (by omega) (by omega) _ _ _ _ _ _ _ _ (hJ.nb (fun z => absurd z (by omega))) hS (by first | omega | (dsimp only; omega)) (by first | omega | (dsimp only; omega)) (lv_sub hl [2, 3, 4, 5, 0] rfl)
      · refine lv_tableIn (tgt := 411) (off := 362) hx hb d_L_law_49 (by decide) (by decide) (by decide) (by decide) ?_
        refine lv_aload_n hx hb d_L_law_411 rfl (lv_at hl 1 rfl) ?_
        refine lv_aload_n hx hb d_L_law_412 rfl (lv_at hl 0 rfl) ?_
        refine lv_iload hx hb d_L_law_413 (lv_at hl 4 rfl) ?_
        refine lv_iconst (v := 1) hx hb d_L_law_415 (by decide) ?_
        refine lv_iadd hx hb d_L_law_416 ?_
        rw [show nI (1 + 4 * t) + 1 = nI (1 + 4 * t + 1) from nI_add (1 + 4 * t) 1]
        refine va_sld (A := aB G) hx hb hX hbl hbA hS.2.1 (vp_in_nI (by omega) (by omega)) d_L_law_417 ?_
        rw [nI_clamp (by omega)]
        refine lv_aload_n hx hb d_L_law_418 rfl (lv_at hl 0 rfl) ?_
        refine lv_iload hx hb d_L_law_419 (lv_at hl 4 rfl) ?_
        refine lv_iconst (v := 2) hx hb d_L_law_421 (by decide) ?_
        refine lv_iadd hx hb d_L_law_422 ?_
        rw [show nI (1 + 4 * t) + 2 = nI (1 + 4 * t + 2) from nI_add (1 + 4 * t) 2]
        refine va_sld (A := aB G) hx hb hX hbl hbA hS.2.1 (vp_in_nI (by omega) (by omega)) d_L_law_423 ?_
        rw [nI_clamp (by omega)]
        refine lv_aload_n hx hb d_L_law_424 rfl (lv_at hl 0 rfl) ?_
        refine lv_iload hx hb d_L_law_425 (lv_at hl 4 rfl) ?_
        refine lv_iconst (v := 3) hx hb d_L_law_427 (by decide) ?_
        refine lv_iadd hx hb d_L_law_428 ?_
        rw [show nI (1 + 4 * t) + 3 = nI (1 + 4 * t + 3) from nI_add (1 + 4 * t) 3]
        refine va_sld (A := aB G) hx hb hX hbl hbA hS.2.1 (vp_in_nI (by omega) (by omega)) d_L_law_429 ?_
        rw [nI_clamp (by omega)]
        refine lv_aload_n hx hb d_L_law_430 rfl (lv_at hl 3 rfl) ?_
        refine r_callW (As := [.ref a0, .int (xs (1 + 4 * t + 1)), .int (xs (1 + 4 * t + 2)), .int (xs (1 + 4 * t + 3)), .ref ou]) (rest := []) F hS w_L_118 (j_edition G l htr V a0 a1 ou th g9 (t = 0) hJ (xs (1 + 4 * t + 1)) (xs (1 + 4 * t + 2)) (xs (1 + 4 * t + 3))) rfl hl.1 rfl (Nat.le_of_ble_eq_true rfl) d_L_law_431 ⟨Nat.le_of_ble_eq_true rfl, Nat.le_of_ble_eq_true rfl⟩ ⟨by show cells + 3 ≤ 601024; omega, by show slots + 18 ≤ 7293000; omega⟩ (fun rv V1 H locs hR hS => ?_)
        obtain ⟨k9, rfl, ⟨fo, hfo⟩, hM2⟩ := hR
        refine W.eq (g2 := F0 m 434 ls [.int k9]) rfl ?_
        refine lv_istore (lv' := [(5, .int k9), (0, .ref b), (1, .ref a0), (2, .ref a1), (3, .ref ou), (4, .int (nI (1 + 4 * t)))]) hx hb d_L_law_434 hl (by decide) rfl (fun ls hl => ?_)
        refine lv_aload_n hx hb d_L_law_436 rfl (lv_at hl 3 rfl) ?_
        refine lv_aload_n hx hb d_L_law_437 rfl (lv_at hl 1 rfl) ?_
        refine lv_iload hx hb d_L_law_438 (lv_at hl 5 rfl) ?_
        refine lv_iconst (v := 1) hx hb d_L_law_440 (by decide) ?_
        refine lv_iadd hx hb d_L_law_441 ?_
        rw [show nI (1 + 4 * t) + 1 = nI (1 + 4 * t + 1) from nI_add (1 + 4 * t) 1]
        refine va_sld (A := aB G) hx hb hX hbl hbA hS.2.1 (vp_in_nI (by omega) (by omega)) d_L_law_442 ?_
        rw [nI_clamp (by omega)]
        refine lv_aload_n hx hb d_L_law_443 rfl (lv_at hl 1 rfl) ?_
        refine lv_iload hx hb d_L_law_444 (lv_at hl 5 rfl) ?_
        refine lv_iconst (v := 2) hx hb d_L_law_446 (by decide) ?_
        refine lv_iadd hx hb d_L_law_447 ?_
        rw [show nI (1 + 4 * t) + 2 = nI (1 + 4 * t + 2) from nI_add (1 + 4 * t) 2]
        refine va_sld (A := aB G) hx hb hX hbl hbA hS.2.1 (vp_in_nI (by omega) (by omega)) d_L_law_448 ?_
        rw [nI_clamp (by omega)]
        refine lv_aload_n hx hb d_L_law_449 rfl (lv_at hl 1 rfl) ?_
        refine lv_iload hx hb d_L_law_450 (lv_at hl 5 rfl) ?_
        refine lv_iconst (v := 3) hx hb d_L_law_452 (by decide) ?_
        refine lv_iadd hx hb d_L_law_453 ?_
        rw [show nI (1 + 4 * t) + 3 = nI (1 + 4 * t + 3) from nI_add (1 + 4 * t) 3]
        refine va_sld (A := aB G) hx hb hX hbl hbA hS.2.1 (vp_in_nI (by omega) (by omega)) d_L_law_454 ?_
        rw [nI_clamp (by omega)]
        refine r_callV (k := 20) (i := 0) (q := ("RuleClassesModel", T_M, 30)) (fs := fo) (As := [.int (xs (1 + 4 * t + 1)), .int (xs (1 + 4 * t + 2)), .int (xs (1 + 4 * t + 3))]) (rest := []) F hS c_L_120 hM2 rfl hfo rfl hl.1 rfl (Nat.le_of_ble_eq_true rfl) d_L_law_455 ⟨Nat.le_of_ble_eq_true rfl, Nat.le_of_ble_eq_true rfl⟩ ⟨by show cells + 3 + 0 ≤ 601024; omega, by show slots + 18 + 0 ≤ 7293000; omega⟩ (fun rv V1 H locs hR hS => ?_)
        obtain ⟨b9, rfl, g2, hJ, hfin⟩ := hR
        obtain ⟨fo, hfo⟩ := hJ.o
        have h50 := hJ.out
        refine W.eq (g2 := F0 m 458 ls [.int b9]) rfl ?_
        refine lv_istore (lv' := [(6, .int b9), (5, .int k9), (0, .ref b), (1, .ref a0), (2, .ref a1), (3, .ref ou), (4, .int (nI (1 + 4 * t)))]) hx hb d_L_law_458 hl (by decide) rfl (fun ls hl => ?_)
        refine lv_goto (tgt := 849) hx hb d_L_law_460 (by decide) ?_
        refine lv_iinc (v := (nI (1 + 4 * (t + 1)))) (lv' := [(4, .int (nI (1 + 4 * (t + 1)))), (6, .int b9), (5, .int k9), (0, .ref b), (1, .ref a0), (2, .ref a1), (3, .ref ou)]) hx hb d_L_law_849 hl (k := 6) rfl (nI_4 t) (by decide) rfl (fun ls hl => ?_)
        refine lv_goto (tgt := 33) hx hb d_L_law_852 (by decide) ?_
        exact ih (t + 1) (by omega) (by omega) _ _ _ _ _ _ _ _ (hJ.nb (fun z => absurd z (by omega))) hS (by first | omega | (dsimp only; omega)) (by first | omega | (dsimp only; omega)) (lv_sub hl [3, 4, 5, 6, 0] rfl)
      · refine lv_tableIn (tgt := 463) (off := 414) hx hb d_L_law_49 (by decide) (by decide) (by decide) (by decide) ?_
        refine lv_aload_n hx hb d_L_law_463 rfl (lv_at hl 1 rfl) ?_
        refine lv_aload_n hx hb d_L_law_464 rfl (lv_at hl 0 rfl) ?_
        refine lv_iload hx hb d_L_law_465 (lv_at hl 4 rfl) ?_
        refine lv_iconst (v := 1) hx hb d_L_law_467 (by decide) ?_
        refine lv_iadd hx hb d_L_law_468 ?_
        rw [show nI (1 + 4 * t) + 1 = nI (1 + 4 * t + 1) from nI_add (1 + 4 * t) 1]
        refine va_sld (A := aB G) hx hb hX hbl hbA hS.2.1 (vp_in_nI (by omega) (by omega)) d_L_law_469 ?_
        rw [nI_clamp (by omega)]
        refine lv_aload_n hx hb d_L_law_470 rfl (lv_at hl 0 rfl) ?_
        refine lv_iload hx hb d_L_law_471 (lv_at hl 4 rfl) ?_
        refine lv_iconst (v := 2) hx hb d_L_law_473 (by decide) ?_
        refine lv_iadd hx hb d_L_law_474 ?_
        rw [show nI (1 + 4 * t) + 2 = nI (1 + 4 * t + 2) from nI_add (1 + 4 * t) 2]
        refine va_sld (A := aB G) hx hb hX hbl hbA hS.2.1 (vp_in_nI (by omega) (by omega)) d_L_law_475 ?_
        rw [nI_clamp (by omega)]
        refine lv_aload_n hx hb d_L_law_476 rfl (lv_at hl 3 rfl) ?_
        refine r_callW (As := [.ref a0, .int (xs (1 + 4 * t + 1)), .int (xs (1 + 4 * t + 2)), .ref ou]) (rest := []) F hS w_L_121 (j_failed G l htr V a0 a1 ou th g9 (t = 0) hJ (xs (1 + 4 * t + 1)) (xs (1 + 4 * t + 2))) rfl hl.1 rfl (Nat.le_of_ble_eq_true rfl) d_L_law_477 ⟨Nat.le_of_ble_eq_true rfl, Nat.le_of_ble_eq_true rfl⟩ ⟨by show cells + 2 ≤ 601024; omega, by show slots + 12 ≤ 7293000; omega⟩ (fun rv V1 H locs hR hS => ?_)
        obtain ⟨k9, rfl, ⟨fo, hfo⟩, hM2⟩ := hR
        refine W.eq (g2 := F0 m 480 ls [.int k9]) rfl ?_
        refine lv_istore (lv' := [(5, .int k9), (0, .ref b), (1, .ref a0), (2, .ref a1), (3, .ref ou), (4, .int (nI (1 + 4 * t)))]) hx hb d_L_law_480 hl (by decide) rfl (fun ls hl => ?_)
        refine lv_aload_n hx hb d_L_law_482 rfl (lv_at hl 3 rfl) ?_
        refine lv_aload_n hx hb d_L_law_483 rfl (lv_at hl 1 rfl) ?_
        refine lv_iload hx hb d_L_law_484 (lv_at hl 5 rfl) ?_
        refine lv_iconst (v := 1) hx hb d_L_law_486 (by decide) ?_
        refine lv_iadd hx hb d_L_law_487 ?_
        rw [show nI (1 + 4 * t) + 1 = nI (1 + 4 * t + 1) from nI_add (1 + 4 * t) 1]
        refine va_sld (A := aB G) hx hb hX hbl hbA hS.2.1 (vp_in_nI (by omega) (by omega)) d_L_law_488 ?_
        rw [nI_clamp (by omega)]
        refine lv_aload_n hx hb d_L_law_489 rfl (lv_at hl 1 rfl) ?_
        refine lv_iload hx hb d_L_law_490 (lv_at hl 5 rfl) ?_
        refine lv_iconst (v := 2) hx hb d_L_law_492 (by decide) ?_
        refine lv_iadd hx hb d_L_law_493 ?_
        rw [show nI (1 + 4 * t) + 2 = nI (1 + 4 * t + 2) from nI_add (1 + 4 * t) 2]
        refine va_sld (A := aB G) hx hb hX hbl hbA hS.2.1 (vp_in_nI (by omega) (by omega)) d_L_law_494 ?_
        rw [nI_clamp (by omega)]
        refine r_callV (k := 20) (i := 0) (q := ("RuleClassesModel", T_M, 30)) (fs := fo) (As := [.int (xs (1 + 4 * t + 1)), .int (xs (1 + 4 * t + 2))]) (rest := []) F hS c_L_123 hM2 rfl hfo rfl hl.1 rfl (Nat.le_of_ble_eq_true rfl) d_L_law_495 ⟨Nat.le_of_ble_eq_true rfl, Nat.le_of_ble_eq_true rfl⟩ ⟨by show cells + 2 + 0 ≤ 601024; omega, by show slots + 12 + 0 ≤ 7293000; omega⟩ (fun rv V1 H locs hR hS => ?_)
        obtain ⟨b9, rfl, g2, hJ, hfin⟩ := hR
        obtain ⟨fo, hfo⟩ := hJ.o
        have h50 := hJ.out
        refine W.eq (g2 := F0 m 498 ls [.int b9]) rfl ?_
        refine lv_istore (lv' := [(6, .int b9), (5, .int k9), (0, .ref b), (1, .ref a0), (2, .ref a1), (3, .ref ou), (4, .int (nI (1 + 4 * t)))]) hx hb d_L_law_498 hl (by decide) rfl (fun ls hl => ?_)
        refine lv_goto (tgt := 849) hx hb d_L_law_500 (by decide) ?_
        refine lv_iinc (v := (nI (1 + 4 * (t + 1)))) (lv' := [(4, .int (nI (1 + 4 * (t + 1)))), (6, .int b9), (5, .int k9), (0, .ref b), (1, .ref a0), (2, .ref a1), (3, .ref ou)]) hx hb d_L_law_849 hl (k := 6) rfl (nI_4 t) (by decide) rfl (fun ls hl => ?_)
        refine lv_goto (tgt := 33) hx hb d_L_law_852 (by decide) ?_
        exact ih (t + 1) (by omega) (by omega) _ _ _ _ _ _ _ _ (hJ.nb (fun z => absurd z (by omega))) hS (by first | omega | (dsimp only; omega)) (by first | omega | (dsimp only; omega)) (lv_sub hl [3, 4, 5, 6, 0] rfl)
      · refine lv_tableIn (tgt := 503) (off := 454) hx hb d_L_law_49 (by decide) (by decide) (by decide) (by decide) ?_
        refine lv_aload_n hx hb d_L_law_503 rfl (lv_at hl 1 rfl) ?_
        refine lv_aload_n hx hb d_L_law_504 rfl (lv_at hl 0 rfl) ?_
        refine lv_iload hx hb d_L_law_505 (lv_at hl 4 rfl) ?_
        refine lv_iconst (v := 1) hx hb d_L_law_507 (by decide) ?_
        refine lv_iadd hx hb d_L_law_508 ?_
        rw [show nI (1 + 4 * t) + 1 = nI (1 + 4 * t + 1) from nI_add (1 + 4 * t) 1]
        refine va_sld (A := aB G) hx hb hX hbl hbA hS.2.1 (vp_in_nI (by omega) (by omega)) d_L_law_509 ?_
        rw [nI_clamp (by omega)]
        refine lv_aload_n hx hb d_L_law_510 rfl (lv_at hl 3 rfl) ?_
        refine r_callW (As := [.ref a0, .int (xs (1 + 4 * t + 1)), .ref ou]) (rest := []) F hS w_L_124 (j_handle G l htr V a0 a1 ou th g9 (t = 0) hJ (xs (1 + 4 * t + 1))) rfl hl.1 rfl (Nat.le_of_ble_eq_true rfl) d_L_law_511 ⟨Nat.le_of_ble_eq_true rfl, Nat.le_of_ble_eq_true rfl⟩ ⟨by show cells + 2 ≤ 601024; omega, by show slots + 12 ≤ 7293000; omega⟩ (fun rv V1 H locs hR hS => ?_)
        obtain ⟨k9, rfl, ⟨fo, hfo⟩, hM2⟩ := hR
        refine W.eq (g2 := F0 m 514 ls [.int k9]) rfl ?_
        refine lv_istore (lv' := [(5, .int k9), (0, .ref b), (1, .ref a0), (2, .ref a1), (3, .ref ou), (4, .int (nI (1 + 4 * t)))]) hx hb d_L_law_514 hl (by decide) rfl (fun ls hl => ?_)
        refine lv_aload_n hx hb d_L_law_516 rfl (lv_at hl 3 rfl) ?_
        refine lv_aload_n hx hb d_L_law_517 rfl (lv_at hl 1 rfl) ?_
        refine lv_iload hx hb d_L_law_518 (lv_at hl 5 rfl) ?_
        refine lv_iconst (v := 1) hx hb d_L_law_520 (by decide) ?_
        refine lv_iadd hx hb d_L_law_521 ?_
        rw [show nI (1 + 4 * t) + 1 = nI (1 + 4 * t + 1) from nI_add (1 + 4 * t) 1]
        refine va_sld (A := aB G) hx hb hX hbl hbA hS.2.1 (vp_in_nI (by omega) (by omega)) d_L_law_522 ?_
        rw [nI_clamp (by omega)]
        refine r_callV (k := 20) (i := 0) (q := ("RuleClassesModel", T_M, 30)) (fs := fo) (As := [.int (xs (1 + 4 * t + 1))]) (rest := []) F hS c_L_126 hM2 rfl hfo rfl hl.1 rfl (Nat.le_of_ble_eq_true rfl) d_L_law_523 ⟨Nat.le_of_ble_eq_true rfl, Nat.le_of_ble_eq_true rfl⟩ ⟨by show cells + 2 + 0 ≤ 601024; omega, by show slots + 12 + 0 ≤ 7293000; omega⟩ (fun rv V1 H locs hR hS => ?_)
        obtain ⟨b9, rfl, g2, hJ, hfin⟩ := hR
        obtain ⟨fo, hfo⟩ := hJ.o
        have h50 := hJ.out
        refine W.eq (g2 := F0 m 526 ls [.int b9]) rfl ?_
        refine lv_istore (lv' := [(6, .int b9), (5, .int k9), (0, .ref b), (1, .ref a0), (2, .ref a1), (3, .ref ou), (4, .int (nI (1 + 4 * t)))]) hx hb d_L_law_526 hl (by decide) rfl (fun ls hl => ?_)
        refine lv_goto (tgt := 849) hx hb d_L_law_528 (by decide) ?_
        refine lv_iinc (v := (nI (1 + 4 * (t + 1)))) (lv' := [(4, .int (nI (1 + 4 * (t + 1)))), (6, .int b9), (5, .int k9), (0, .ref b), (1, .ref a0), (2, .ref a1), (3, .ref ou)]) hx hb d_L_law_849 hl (k := 6) rfl (nI_4 t) (by decide) rfl (fun ls hl => ?_)
        refine lv_goto (tgt := 33) hx hb d_L_law_852 (by decide) ?_
        exact ih (t + 1) (by omega) (by omega) _ _ _ _ _ _ _ _ (hJ.nb (fun z => absurd z (by omega))) hS (by first | omega | (dsimp only; omega)) (by first | omega | (dsimp only; omega)) (lv_sub hl [3, 4, 5, 6, 0] rfl)
      · refine lv_tableIn (tgt := 531) (off := 482) hx hb d_L_law_49 (by decide) (by decide) (by decide) (by decide) ?_
        refine lv_aload_n hx hb d_L_law_531 rfl (lv_at hl 1 rfl) ?_
        refine lv_aload_n hx hb d_L_law_532 rfl (lv_at hl 0 rfl) ?_
        refine lv_iload hx hb d_L_law_533 (lv_at hl 4 rfl) ?_
        refine lv_iconst (v := 1) hx hb d_L_law_535 (by decide) ?_
        refine lv_iadd hx hb d_L_law_536 ?_
        rw [show nI (1 + 4 * t) + 1 = nI (1 + 4 * t + 1) from nI_add (1 + 4 * t) 1]
        refine va_sld (A := aB G) hx hb hX hbl hbA hS.2.1 (vp_in_nI (by omega) (by omega)) d_L_law_537 ?_
        rw [nI_clamp (by omega)]
        refine lv_aload_n hx hb d_L_law_538 rfl (lv_at hl 3 rfl) ?_
        refine r_callW (As := [.ref a0, .int (xs (1 + 4 * t + 1)), .ref ou]) (rest := []) F hS w_L_127 (j_by G l htr V a0 a1 ou th g9 (t = 0) hJ (xs (1 + 4 * t + 1))) rfl hl.1 rfl (Nat.le_of_ble_eq_true rfl) d_L_law_539 ⟨Nat.le_of_ble_eq_true rfl, Nat.le_of_ble_eq_true rfl⟩ ⟨by show cells + 2 ≤ 601024; omega, by show slots + 12 ≤ 7293000; omega⟩ (fun rv V1 H locs hR hS => ?_)
        obtain ⟨k9, rfl, ⟨fo, hfo⟩, hM2⟩ := hR
        refine W.eq (g2 := F0 m 542 ls [.int k9]) rfl ?_
        refine lv_istore (lv' := [(5, .int k9), (0, .ref b), (1, .ref a0), (2, .ref a1), (3, .ref ou), (4, .int (nI (1 + 4 * t)))]) hx hb d_L_law_542 hl (by decide) rfl (fun ls hl => ?_)
        refine lv_aload_n hx hb d_L_law_544 rfl (lv_at hl 3 rfl) ?_
        refine lv_aload_n hx hb d_L_law_545 rfl (lv_at hl 1 rfl) ?_
        refine lv_iload hx hb d_L_law_546 (lv_at hl 5 rfl) ?_
        refine lv_iconst (v := 1) hx hb d_L_law_548 (by decide) ?_
        refine lv_iadd hx hb d_L_law_549 ?_
        rw [show nI (1 + 4 * t) + 1 = nI (1 + 4 * t + 1) from nI_add (1 + 4 * t) 1]
        refine va_sld (A := aB G) hx hb hX hbl hbA hS.2.1 (vp_in_nI (by omega) (by omega)) d_L_law_550 ?_
        rw [nI_clamp (by omega)]
        refine r_callV (k := 20) (i := 0) (q := ("RuleClassesModel", T_M, 30)) (fs := fo) (As := [.int (xs (1 + 4 * t + 1))]) (rest := []) F hS c_L_129 hM2 rfl hfo rfl hl.1 rfl (Nat.le_of_ble_eq_true rfl) d_L_law_551 ⟨Nat.le_of_ble_eq_true rfl, Nat.le_of_ble_eq_true rfl⟩ ⟨by show cells + 2 + 0 ≤ 601024; omega, by show slots + 12 + 0 ≤ 7293000; omega⟩ (fun rv V1 H locs hR hS => ?_)
        obtain ⟨b9, rfl, g2, hJ, hfin⟩ := hR
        obtain ⟨fo, hfo⟩ := hJ.o
        have h50 := hJ.out
        refine W.eq (g2 := F0 m 554 ls [.int b9]) rfl ?_
        refine lv_istore (lv' := [(6, .int b9), (5, .int k9), (0, .ref b), (1, .ref a0), (2, .ref a1), (3, .ref ou), (4, .int (nI (1 + 4 * t)))]) hx hb d_L_law_554 hl (by decide) rfl (fun ls hl => ?_)
        refine lv_goto (tgt := 849) hx hb d_L_law_556 (by decide) ?_
        refine lv_iinc (v := (nI (1 + 4 * (t + 1)))) (lv' := [(4, .int (nI (1 + 4 * (t + 1)))), (6, .int b9), (5, .int k9), (0, .ref b), (1, .ref a0), (2, .ref a1), (3, .ref ou)]) hx hb d_L_law_849 hl (k := 6) rfl (nI_4 t) (by decide) rfl (fun ls hl => ?_)
        refine lv_goto (tgt := 33) hx hb d_L_law_852 (by decide) ?_
        exact ih (t + 1) (by omega) (by omega) _ _ _ _ _ _ _ _ (hJ.nb (fun z => absurd z (by omega))) hS (by first | omega | (dsimp only; omega)) (by first | omega | (dsimp only; omega)) (lv_sub hl [3, 4, 5, 6, 0] rfl)
      · refine lv_tableIn (tgt := 559) (off := 510) hx hb d_L_law_49 (by decide) (by decide) (by decide) (by decide) ?_
        refine lv_aload_n hx hb d_L_law_559 rfl (lv_at hl 1 rfl) ?_
        refine lv_aload_n hx hb d_L_law_560 rfl (lv_at hl 3 rfl) ?_
        refine r_callW (As := [.ref a0, .ref ou]) (rest := []) F hS w_L_130 (j_keep G l htr V a0 a1 ou th g9 (t = 0) hJ) rfl hl.1 rfl (Nat.le_of_ble_eq_true rfl) d_L_law_561 ⟨Nat.le_of_ble_eq_true rfl, Nat.le_of_ble_eq_true rfl⟩ ⟨by show cells + 3 ≤ 601024; omega, by show slots + 45 ≤ 7293000; omega⟩ (fun rv V1 H locs hR hS => ?_)
        obtain ⟨k9, rfl, ⟨fo, hfo⟩, hM2⟩ := hR
        refine W.eq (g2 := F0 m 564 ls [.int k9]) rfl ?_
        refine lv_istore (lv' := [(5, .int k9), (0, .ref b), (1, .ref a0), (2, .ref a1), (3, .ref ou), (4, .int (nI (1 + 4 * t)))]) hx hb d_L_law_564 hl (by decide) rfl (fun ls hl => ?_)
        refine lv_aload_n hx hb d_L_law_566 rfl (lv_at hl 3 rfl) ?_
        refine r_callV (k := 20) (i := 0) (q := ("RuleClassesModel", T_M, 30)) (fs := fo) (As := []) (rest := []) F hS c_L_133 hM2 rfl hfo rfl hl.1 rfl (Nat.le_of_ble_eq_true rfl) d_L_law_567 ⟨Nat.le_of_ble_eq_true rfl, Nat.le_of_ble_eq_true rfl⟩ ⟨by show cells + 3 + 0 ≤ 601024; omega, by show slots + 45 + 0 ≤ 7293000; omega⟩ (fun rv V1 H locs hR hS => ?_)
        obtain ⟨b9, rfl, g2, hJ, hfin⟩ := hR
        obtain ⟨fo, hfo⟩ := hJ.o
        have h50 := hJ.out
        refine W.eq (g2 := F0 m 570 ls [.int b9]) rfl ?_
        refine lv_istore (lv' := [(6, .int b9), (5, .int k9), (0, .ref b), (1, .ref a0), (2, .ref a1), (3, .ref ou), (4, .int (nI (1 + 4 * t)))]) hx hb d_L_law_570 hl (by decide) rfl (fun ls hl => ?_)
        refine lv_goto (tgt := 849) hx hb d_L_law_572 (by decide) ?_
        refine lv_iinc (v := (nI (1 + 4 * (t + 1)))) (lv' := [(4, .int (nI (1 + 4 * (t + 1)))), (6, .int b9), (5, .int k9), (0, .ref b), (1, .ref a0), (2, .ref a1), (3, .ref ou)]) hx hb d_L_law_849 hl (k := 6) rfl (nI_4 t) (by decide) rfl (fun ls hl => ?_)
        refine lv_goto (tgt := 33) hx hb d_L_law_852 (by decide) ?_
        exact ih (t + 1) (by omega) (by omega) _ _ _ _ _ _ _ _ (hJ.nb (fun z => absurd z (by omega))) hS (by first | omega | (dsimp only; omega)) (by first | omega | (dsimp only; omega)) (lv_sub hl [3, 4, 5, 6, 0] rfl)
      · refine lv_tableIn (tgt := 575) (off := 526) hx hb d_L_law_49 (by decide) (by decide) (by decide) (by decide) ?_
        refine lv_aload_n hx hb d_L_law_575 rfl (lv_at hl 1 rfl) ?_
        refine lv_aload_n hx hb d_L_law_576 rfl (lv_at hl 0 rfl) ?_
        refine lv_iload hx hb d_L_law_577 (lv_at hl 4 rfl) ?_
        refine lv_iconst (v := 1) hx hb d_L_law_579 (by decide) ?_
        refine lv_iadd hx hb d_L_law_580 ?_
        rw [show nI (1 + 4 * t) + 1 = nI (1 + 4 * t + 1) from nI_add (1 + 4 * t) 1]
        refine va_sld (A := aB G) hx hb hX hbl hbA hS.2.1 (vp_in_nI (by omega) (by omega)) d_L_law_581 ?_
        rw [nI_clamp (by omega)]
        refine lv_aload_n hx hb d_L_law_582 rfl (lv_at hl 0 rfl) ?_
        refine lv_iload hx hb d_L_law_583 (lv_at hl 4 rfl) ?_
        refine lv_iconst (v := 2) hx hb d_L_law_585 (by decide) ?_
        refine lv_iadd hx hb d_L_law_586 ?_
        rw [show nI (1 + 4 * t) + 2 = nI (1 + 4 * t + 2) from nI_add (1 + 4 * t) 2]
        refine va_sld (A := aB G) hx hb hX hbl hbA hS.2.1 (vp_in_nI (by omega) (by omega)) d_L_law_587 ?_
        rw [nI_clamp (by omega)]
        refine lv_aload_n hx hb d_L_law_588 rfl (lv_at hl 3 rfl) ?_
        refine r_callW (As := [.ref a0, .int (xs (1 + 4 * t + 1)), .int (xs (1 + 4 * t + 2)), .ref ou]) (rest := []) F hS w_L_134 (j_compare G l htr V a0 a1 ou th g9 (t = 0) hJ (xs (1 + 4 * t + 1)) (xs (1 + 4 * t + 2))) rfl hl.1 rfl (Nat.le_of_ble_eq_true rfl) d_L_law_589 ⟨Nat.le_of_ble_eq_true rfl, Nat.le_of_ble_eq_true rfl⟩ ⟨by show cells + 2 ≤ 601024; omega, by show slots + 12 ≤ 7293000; omega⟩ (fun rv V1 H locs hR hS => ?_)
        obtain ⟨k9, rfl, ⟨fo, hfo⟩, hM2⟩ := hR
        refine W.eq (g2 := F0 m 592 ls [.int k9]) rfl ?_
        refine lv_istore (lv' := [(5, .int k9), (0, .ref b), (1, .ref a0), (2, .ref a1), (3, .ref ou), (4, .int (nI (1 + 4 * t)))]) hx hb d_L_law_592 hl (by decide) rfl (fun ls hl => ?_)
        refine lv_aload_n hx hb d_L_law_594 rfl (lv_at hl 3 rfl) ?_
        refine lv_aload_n hx hb d_L_law_595 rfl (lv_at hl 1 rfl) ?_
        refine lv_iload hx hb d_L_law_596 (lv_at hl 5 rfl) ?_
        refine lv_iconst (v := 1) hx hb d_L_law_598 (by decide) ?_
        refine lv_iadd hx hb d_L_law_599 ?_
        rw [show nI (1 + 4 * t) + 1 = nI (1 + 4 * t + 1) from nI_add (1 + 4 * t) 1]
        refine va_sld (A := aB G) hx hb hX hbl hbA hS.2.1 (vp_in_nI (by omega) (by omega)) d_L_law_600 ?_
        rw [nI_clamp (by omega)]
        refine lv_aload_n hx hb d_L_law_601 rfl (lv_at hl 1 rfl) ?_
        refine lv_iload hx hb d_L_law_602 (lv_at hl 5 rfl) ?_
        refine lv_iconst (v := 2) hx hb d_L_law_604 (by decide) ?_
        refine lv_iadd hx hb d_L_law_605 ?_
        rw [show nI (1 + 4 * t) + 2 = nI (1 + 4 * t + 2) from nI_add (1 + 4 * t) 2]
        refine va_sld (A := aB G) hx hb hX hbl hbA hS.2.1 (vp_in_nI (by omega) (by omega)) d_L_law_606 ?_
        rw [nI_clamp (by omega)]
        refine r_callV (k := 20) (i := 0) (q := ("RuleClassesModel", T_M, 30)) (fs := fo) (As := [.int (xs (1 + 4 * t + 1)), .int (xs (1 + 4 * t + 2))]) (rest := []) F hS c_L_136 hM2 rfl hfo rfl hl.1 rfl (Nat.le_of_ble_eq_true rfl) d_L_law_607 ⟨Nat.le_of_ble_eq_true rfl, Nat.le_of_ble_eq_true rfl⟩ ⟨by show cells + 2 + 0 ≤ 601024; omega, by show slots + 12 + 0 ≤ 7293000; omega⟩ (fun rv V1 H locs hR hS => ?_)
        obtain ⟨b9, rfl, g2, hJ, hfin⟩ := hR
        obtain ⟨fo, hfo⟩ := hJ.o
        have h50 := hJ.out
        refine W.eq (g2 := F0 m 610 ls [.int b9]) rfl ?_
        refine lv_istore (lv' := [(6, .int b9), (5, .int k9), (0, .ref b), (1, .ref a0), (2, .ref a1), (3, .ref ou), (4, .int (nI (1 + 4 * t)))]) hx hb d_L_law_610 hl (by decide) rfl (fun ls hl => ?_)
        refine lv_goto (tgt := 849) hx hb d_L_law_612 (by decide) ?_
        refine lv_iinc (v := (nI (1 + 4 * (t + 1)))) (lv' := [(4, .int (nI (1 + 4 * (t + 1)))), (6, .int b9), (5, .int k9), (0, .ref b), (1, .ref a0), (2, .ref a1), (3, .ref ou)]) hx hb d_L_law_849 hl (k := 6) rfl (nI_4 t) (by decide) rfl (fun ls hl => ?_)
        refine lv_goto (tgt := 33) hx hb d_L_law_852 (by decide) ?_
        exact ih (t + 1) (by omega) (by omega) _ _ _ _ _ _ _ _ (hJ.nb (fun z => absurd z (by omega))) hS (by first | omega | (dsimp only; omega)) (by first | omega | (dsimp only; omega)) (lv_sub hl [3, 4, 5, 6, 0] rfl)
      · refine lv_tableIn (tgt := 615) (off := 566) hx hb d_L_law_49 (by decide) (by decide) (by decide) (by decide) ?_
        refine lv_aload_n hx hb d_L_law_615 rfl (lv_at hl 1 rfl) ?_
        refine lv_aload_n hx hb d_L_law_616 rfl (lv_at hl 0 rfl) ?_
        refine lv_iload hx hb d_L_law_617 (lv_at hl 4 rfl) ?_
        refine lv_iconst (v := 1) hx hb d_L_law_619 (by decide) ?_
        refine lv_iadd hx hb d_L_law_620 ?_
        rw [show nI (1 + 4 * t) + 1 = nI (1 + 4 * t + 1) from nI_add (1 + 4 * t) 1]
        refine va_sld (A := aB G) hx hb hX hbl hbA hS.2.1 (vp_in_nI (by omega) (by omega)) d_L_law_621 ?_
        rw [nI_clamp (by omega)]
        refine lv_aload_n hx hb d_L_law_622 rfl (lv_at hl 0 rfl) ?_
        refine lv_iload hx hb d_L_law_623 (lv_at hl 4 rfl) ?_
        refine lv_iconst (v := 2) hx hb d_L_law_625 (by decide) ?_
        refine lv_iadd hx hb d_L_law_626 ?_
        rw [show nI (1 + 4 * t) + 2 = nI (1 + 4 * t + 2) from nI_add (1 + 4 * t) 2]
        refine va_sld (A := aB G) hx hb hX hbl hbA hS.2.1 (vp_in_nI (by omega) (by omega)) d_L_law_627 ?_
        rw [nI_clamp (by omega)]
        refine lv_aload_n hx hb d_L_law_628 rfl (lv_at hl 3 rfl) ?_
        refine r_callW (As := [.ref a0, .int (xs (1 + 4 * t + 1)), .int (xs (1 + 4 * t + 2)), .ref ou]) (rest := []) F hS w_L_137 (j_same G l htr V a0 a1 ou th g9 (t = 0) hJ (xs (1 + 4 * t + 1)) (xs (1 + 4 * t + 2))) rfl hl.1 rfl (Nat.le_of_ble_eq_true rfl) d_L_law_629 ⟨Nat.le_of_ble_eq_true rfl, Nat.le_of_ble_eq_true rfl⟩ ⟨by show cells + 2 ≤ 601024; omega, by show slots + 12 ≤ 7293000; omega⟩ (fun rv V1 H locs hR hS => ?_)
        obtain ⟨k9, rfl, ⟨fo, hfo⟩, hM2⟩ := hR
        refine W.eq (g2 := F0 m 632 ls [.int k9]) rfl ?_
        refine lv_istore (lv' := [(5, .int k9), (0, .ref b), (1, .ref a0), (2, .ref a1), (3, .ref ou), (4, .int (nI (1 + 4 * t)))]) hx hb d_L_law_632 hl (by decide) rfl (fun ls hl => ?_)
        refine lv_aload_n hx hb d_L_law_634 rfl (lv_at hl 3 rfl) ?_
        refine lv_aload_n hx hb d_L_law_635 rfl (lv_at hl 1 rfl) ?_
        refine lv_iload hx hb d_L_law_636 (lv_at hl 5 rfl) ?_
        refine lv_iconst (v := 1) hx hb d_L_law_638 (by decide) ?_
        refine lv_iadd hx hb d_L_law_639 ?_
        rw [show nI (1 + 4 * t) + 1 = nI (1 + 4 * t + 1) from nI_add (1 + 4 * t) 1]
        refine va_sld (A := aB G) hx hb hX hbl hbA hS.2.1 (vp_in_nI (by omega) (by omega)) d_L_law_640 ?_
        rw [nI_clamp (by omega)]
        refine lv_aload_n hx hb d_L_law_641 rfl (lv_at hl 1 rfl) ?_
        refine lv_iload hx hb d_L_law_642 (lv_at hl 5 rfl) ?_
        refine lv_iconst (v := 2) hx hb d_L_law_644 (by decide) ?_
        refine lv_iadd hx hb d_L_law_645 ?_
        rw [show nI (1 + 4 * t) + 2 = nI (1 + 4 * t + 2) from nI_add (1 + 4 * t) 2]
        refine va_sld (A := aB G) hx hb hX hbl hbA hS.2.1 (vp_in_nI (by omega) (by omega)) d_L_law_646 ?_
        rw [nI_clamp (by omega)]
        refine r_callV (k := 20) (i := 0) (q := ("RuleClassesModel", T_M, 30)) (fs := fo) (As := [.int (xs (1 + 4 * t + 1)), .int (xs (1 + 4 * t + 2))]) (rest := []) F hS c_L_139 hM2 rfl hfo rfl hl.1 rfl (Nat.le_of_ble_eq_true rfl) d_L_law_647 ⟨Nat.le_of_ble_eq_true rfl, Nat.le_of_ble_eq_true rfl⟩ ⟨by show cells + 2 + 0 ≤ 601024; omega, by show slots + 12 + 0 ≤ 7293000; omega⟩ (fun rv V1 H locs hR hS => ?_)
        obtain ⟨b9, rfl, g2, hJ, hfin⟩ := hR
        obtain ⟨fo, hfo⟩ := hJ.o
        have h50 := hJ.out
        refine W.eq (g2 := F0 m 650 ls [.int b9]) rfl ?_
        refine lv_istore (lv' := [(6, .int b9), (5, .int k9), (0, .ref b), (1, .ref a0), (2, .ref a1), (3, .ref ou), (4, .int (nI (1 + 4 * t)))]) hx hb d_L_law_650 hl (by decide) rfl (fun ls hl => ?_)
        refine lv_goto (tgt := 849) hx hb d_L_law_652 (by decide) ?_
        refine lv_iinc (v := (nI (1 + 4 * (t + 1)))) (lv' := [(4, .int (nI (1 + 4 * (t + 1)))), (6, .int b9), (5, .int k9), (0, .ref b), (1, .ref a0), (2, .ref a1), (3, .ref ou)]) hx hb d_L_law_849 hl (k := 6) rfl (nI_4 t) (by decide) rfl (fun ls hl => ?_)
        refine lv_goto (tgt := 33) hx hb d_L_law_852 (by decide) ?_
        exact ih (t + 1) (by omega) (by omega) _ _ _ _ _ _ _ _ (hJ.nb (fun z => absurd z (by omega))) hS (by first | omega | (dsimp only; omega)) (by first | omega | (dsimp only; omega)) (lv_sub hl [3, 4, 5, 6, 0] rfl)
      · refine lv_tableIn (tgt := 655) (off := 606) hx hb d_L_law_49 (by decide) (by decide) (by decide) (by decide) ?_
        refine lv_aload_n hx hb d_L_law_655 rfl (lv_at hl 1 rfl) ?_
        refine lv_aload_n hx hb d_L_law_656 rfl (lv_at hl 0 rfl) ?_
        refine lv_iload hx hb d_L_law_657 (lv_at hl 4 rfl) ?_
        refine lv_iconst (v := 1) hx hb d_L_law_659 (by decide) ?_
        refine lv_iadd hx hb d_L_law_660 ?_
        rw [show nI (1 + 4 * t) + 1 = nI (1 + 4 * t + 1) from nI_add (1 + 4 * t) 1]
        refine va_sld (A := aB G) hx hb hX hbl hbA hS.2.1 (vp_in_nI (by omega) (by omega)) d_L_law_661 ?_
        rw [nI_clamp (by omega)]
        refine lv_aload_n hx hb d_L_law_662 rfl (lv_at hl 0 rfl) ?_
        refine lv_iload hx hb d_L_law_663 (lv_at hl 4 rfl) ?_
        refine lv_iconst (v := 2) hx hb d_L_law_665 (by decide) ?_
        refine lv_iadd hx hb d_L_law_666 ?_
        rw [show nI (1 + 4 * t) + 2 = nI (1 + 4 * t + 2) from nI_add (1 + 4 * t) 2]
        refine va_sld (A := aB G) hx hb hX hbl hbA hS.2.1 (vp_in_nI (by omega) (by omega)) d_L_law_667 ?_
        rw [nI_clamp (by omega)]
        refine lv_aload_n hx hb d_L_law_668 rfl (lv_at hl 0 rfl) ?_
        refine lv_iload hx hb d_L_law_669 (lv_at hl 4 rfl) ?_
        refine lv_iconst (v := 3) hx hb d_L_law_671 (by decide) ?_
        refine lv_iadd hx hb d_L_law_672 ?_
        rw [show nI (1 + 4 * t) + 3 = nI (1 + 4 * t + 3) from nI_add (1 + 4 * t) 3]
        refine va_sld (A := aB G) hx hb hX hbl hbA hS.2.1 (vp_in_nI (by omega) (by omega)) d_L_law_673 ?_
        rw [nI_clamp (by omega)]
        refine r_callW (As := [.ref a0, .int (xs (1 + 4 * t + 1)), .int (xs (1 + 4 * t + 2)), .int (xs (1 + 4 * t + 3))]) (rest := []) F hS w_L_140 (j_shadow G l htr V a0 a1 ou th g9 (t = 0) hJ (xs (1 + 4 * t + 1)) (xs (1 + 4 * t + 2)) (xs (1 + 4 * t + 3))) rfl hl.1 rfl (Nat.le_of_ble_eq_true rfl) d_L_law_674 ⟨Nat.le_of_ble_eq_true rfl, Nat.le_of_ble_eq_true rfl⟩ ⟨by show cells + 3 ≤ 601024; omega, by show slots + 18 ≤ 7293000; omega⟩ (fun rv V1 H locs hR hS => ?_)
        obtain ⟨k9, rfl, ⟨fo, hfo⟩, hM2⟩ := hR
        refine W.eq (g2 := F0 m 677 ls [.int k9]) rfl ?_
        refine lv_istore (lv' := [(5, .int k9), (0, .ref b), (1, .ref a0), (2, .ref a1), (3, .ref ou), (4, .int (nI (1 + 4 * t)))]) hx hb d_L_law_677 hl (by decide) rfl (fun ls hl => ?_)
        refine lv_aload_n hx hb d_L_law_679 rfl (lv_at hl 3 rfl) ?_
        refine lv_aload_n hx hb d_L_law_680 rfl (lv_at hl 1 rfl) ?_
        refine lv_iload hx hb d_L_law_681 (lv_at hl 5 rfl) ?_
        refine lv_iconst (v := 1) hx hb d_L_law_683 (by decide) ?_
        refine lv_iadd hx hb d_L_law_684 ?_
        rw [show nI (1 + 4 * t) + 1 = nI (1 + 4 * t + 1) from nI_add (1 + 4 * t) 1]
        refine va_sld (A := aB G) hx hb hX hbl hbA hS.2.1 (vp_in_nI (by omega) (by omega)) d_L_law_685 ?_
        rw [nI_clamp (by omega)]
        refine lv_aload_n hx hb d_L_law_686 rfl (lv_at hl 1 rfl) ?_
        refine lv_iload hx hb d_L_law_687 (lv_at hl 5 rfl) ?_
        refine lv_iconst (v := 2) hx hb d_L_law_689 (by decide) ?_
        refine lv_iadd hx hb d_L_law_690 ?_
        rw [show nI (1 + 4 * t) + 2 = nI (1 + 4 * t + 2) from nI_add (1 + 4 * t) 2]
        refine va_sld (A := aB G) hx hb hX hbl hbA hS.2.1 (vp_in_nI (by omega) (by omega)) d_L_law_691 ?_
        rw [nI_clamp (by omega)]
        refine lv_aload_n hx hb d_L_law_692 rfl (lv_at hl 1 rfl) ?_
        refine lv_iload hx hb d_L_law_693 (lv_at hl 5 rfl) ?_
        refine lv_iconst (v := 3) hx hb d_L_law_695 (by decide) ?_
        refine lv_iadd hx hb d_L_law_696 ?_
        rw [show nI (1 + 4 * t) + 3 = nI (1 + 4 * t + 3) from nI_add (1 + 4 * t) 3]
        refine va_sld (A := aB G) hx hb hX hbl hbA hS.2.1 (vp_in_nI (by omega) (by omega)) d_L_law_697 ?_
        rw [nI_clamp (by omega)]
        refine r_callV (k := 20) (i := 0) (q := ("RuleClassesModel", T_M, 30)) (fs := fo) (As := [.int (xs (1 + 4 * t + 1)), .int (xs (1 + 4 * t + 2)), .int (xs (1 + 4 * t + 3))]) (rest := []) F hS c_L_143 hM2 rfl hfo rfl hl.1 rfl (Nat.le_of_ble_eq_true rfl) d_L_law_698 ⟨Nat.le_of_ble_eq_true rfl, Nat.le_of_ble_eq_true rfl⟩ ⟨by show cells + 3 + 0 ≤ 601024; omega, by show slots + 18 + 0 ≤ 7293000; omega⟩ (fun rv V1 H locs hR hS => ?_)
        obtain ⟨rfl, g2, hJ⟩ := hR
        obtain ⟨fo, hfo⟩ := hJ.o
        have h50 := hJ.out
        refine W.eq (g2 := F0 m 701 ls []) rfl ?_
        refine lv_goto (tgt := 849) hx hb d_L_law_701 (by decide) ?_
        refine lv_iinc (v := (nI (1 + 4 * (t + 1)))) (lv' := [(4, .int (nI (1 + 4 * (t + 1)))), (5, .int k9), (0, .ref b), (1, .ref a0), (2, .ref a1), (3, .ref ou)]) hx hb d_L_law_849 hl (k := 5) rfl (nI_4 t) (by decide) rfl (fun ls hl => ?_)
        refine lv_goto (tgt := 33) hx hb d_L_law_852 (by decide) ?_
        exact ih (t + 1) (by omega) (by omega) _ _ _ _ _ _ _ _ (hJ.nb (fun z => absurd z (by omega))) hS (by first | omega | (dsimp only; omega)) (by first | omega | (dsimp only; omega)) (lv_sub hl [2, 3, 4, 5, 0] rfl)
      · refine lv_tableIn (tgt := 704) (off := 655) hx hb d_L_law_49 (by decide) (by decide) (by decide) (by decide) ?_
        refine lv_aload_n hx hb d_L_law_704 rfl (lv_at hl 1 rfl) ?_
        refine lv_aload_n hx hb d_L_law_705 rfl (lv_at hl 0 rfl) ?_
        refine lv_iload hx hb d_L_law_706 (lv_at hl 4 rfl) ?_
        refine lv_iconst (v := 1) hx hb d_L_law_708 (by decide) ?_
        refine lv_iadd hx hb d_L_law_709 ?_
        rw [show nI (1 + 4 * t) + 1 = nI (1 + 4 * t + 1) from nI_add (1 + 4 * t) 1]
        refine va_sld (A := aB G) hx hb hX hbl hbA hS.2.1 (vp_in_nI (by omega) (by omega)) d_L_law_710 ?_
        rw [nI_clamp (by omega)]
        refine lv_aload_n hx hb d_L_law_711 rfl (lv_at hl 0 rfl) ?_
        refine lv_iload hx hb d_L_law_712 (lv_at hl 4 rfl) ?_
        refine lv_iconst (v := 2) hx hb d_L_law_714 (by decide) ?_
        refine lv_iadd hx hb d_L_law_715 ?_
        rw [show nI (1 + 4 * t) + 2 = nI (1 + 4 * t + 2) from nI_add (1 + 4 * t) 2]
        refine va_sld (A := aB G) hx hb hX hbl hbA hS.2.1 (vp_in_nI (by omega) (by omega)) d_L_law_716 ?_
        rw [nI_clamp (by omega)]
        refine lv_aload_n hx hb d_L_law_717 rfl (lv_at hl 3 rfl) ?_
        refine r_callW (As := [.ref a0, .int (xs (1 + 4 * t + 1)), .int (xs (1 + 4 * t + 2)), .ref ou]) (rest := []) F hS w_L_144 (j_otherwise G l htr V a0 a1 ou th g9 (t = 0) hJ (xs (1 + 4 * t + 1)) (xs (1 + 4 * t + 2))) rfl hl.1 rfl (Nat.le_of_ble_eq_true rfl) d_L_law_718 ⟨Nat.le_of_ble_eq_true rfl, Nat.le_of_ble_eq_true rfl⟩ ⟨by show cells + 2 ≤ 601024; omega, by show slots + 12 ≤ 7293000; omega⟩ (fun rv V1 H locs hR hS => ?_)
        obtain ⟨k9, rfl, ⟨fo, hfo⟩, hM2⟩ := hR
        refine W.eq (g2 := F0 m 721 ls [.int k9]) rfl ?_
        refine lv_istore (lv' := [(5, .int k9), (0, .ref b), (1, .ref a0), (2, .ref a1), (3, .ref ou), (4, .int (nI (1 + 4 * t)))]) hx hb d_L_law_721 hl (by decide) rfl (fun ls hl => ?_)
        refine lv_aload_n hx hb d_L_law_723 rfl (lv_at hl 3 rfl) ?_
        refine lv_aload_n hx hb d_L_law_724 rfl (lv_at hl 1 rfl) ?_
        refine lv_iload hx hb d_L_law_725 (lv_at hl 5 rfl) ?_
        refine lv_iconst (v := 1) hx hb d_L_law_727 (by decide) ?_
        refine lv_iadd hx hb d_L_law_728 ?_
        rw [show nI (1 + 4 * t) + 1 = nI (1 + 4 * t + 1) from nI_add (1 + 4 * t) 1]
        refine va_sld (A := aB G) hx hb hX hbl hbA hS.2.1 (vp_in_nI (by omega) (by omega)) d_L_law_729 ?_
        rw [nI_clamp (by omega)]
        refine lv_aload_n hx hb d_L_law_730 rfl (lv_at hl 1 rfl) ?_
        refine lv_iload hx hb d_L_law_731 (lv_at hl 5 rfl) ?_
        refine lv_iconst (v := 2) hx hb d_L_law_733 (by decide) ?_
        refine lv_iadd hx hb d_L_law_734 ?_
        rw [show nI (1 + 4 * t) + 2 = nI (1 + 4 * t + 2) from nI_add (1 + 4 * t) 2]
        refine va_sld (A := aB G) hx hb hX hbl hbA hS.2.1 (vp_in_nI (by omega) (by omega)) d_L_law_735 ?_
        rw [nI_clamp (by omega)]
        refine r_callV (k := 20) (i := 0) (q := ("RuleClassesModel", T_M, 30)) (fs := fo) (As := [.int (xs (1 + 4 * t + 1)), .int (xs (1 + 4 * t + 2))]) (rest := []) F hS c_L_146 hM2 rfl hfo rfl hl.1 rfl (Nat.le_of_ble_eq_true rfl) d_L_law_736 ⟨Nat.le_of_ble_eq_true rfl, Nat.le_of_ble_eq_true rfl⟩ ⟨by show cells + 2 + 0 ≤ 601024; omega, by show slots + 12 + 0 ≤ 7293000; omega⟩ (fun rv V1 H locs hR hS => ?_)
        obtain ⟨b9, rfl, g2, hJ, hfin⟩ := hR
        obtain ⟨fo, hfo⟩ := hJ.o
        have h50 := hJ.out
        refine W.eq (g2 := F0 m 739 ls [.int b9]) rfl ?_
        refine lv_istore (lv' := [(6, .int b9), (5, .int k9), (0, .ref b), (1, .ref a0), (2, .ref a1), (3, .ref ou), (4, .int (nI (1 + 4 * t)))]) hx hb d_L_law_739 hl (by decide) rfl (fun ls hl => ?_)
        refine lv_goto (tgt := 849) hx hb d_L_law_741 (by decide) ?_
        refine lv_iinc (v := (nI (1 + 4 * (t + 1)))) (lv' := [(4, .int (nI (1 + 4 * (t + 1)))), (6, .int b9), (5, .int k9), (0, .ref b), (1, .ref a0), (2, .ref a1), (3, .ref ou)]) hx hb d_L_law_849 hl (k := 6) rfl (nI_4 t) (by decide) rfl (fun ls hl => ?_)
        refine lv_goto (tgt := 33) hx hb d_L_law_852 (by decide) ?_
        exact ih (t + 1) (by omega) (by omega) _ _ _ _ _ _ _ _ (hJ.nb (fun z => absurd z (by omega))) hS (by first | omega | (dsimp only; omega)) (by first | omega | (dsimp only; omega)) (lv_sub hl [3, 4, 5, 6, 0] rfl)
      · refine lv_tableIn (tgt := 744) (off := 695) hx hb d_L_law_49 (by decide) (by decide) (by decide) (by decide) ?_
        refine lv_aload_n hx hb d_L_law_744 rfl (lv_at hl 1 rfl) ?_
        refine lv_aload_n hx hb d_L_law_745 rfl (lv_at hl 0 rfl) ?_
        refine lv_iload hx hb d_L_law_746 (lv_at hl 4 rfl) ?_
        refine lv_iconst (v := 1) hx hb d_L_law_748 (by decide) ?_
        refine lv_iadd hx hb d_L_law_749 ?_
        rw [show nI (1 + 4 * t) + 1 = nI (1 + 4 * t + 1) from nI_add (1 + 4 * t) 1]
        refine va_sld (A := aB G) hx hb hX hbl hbA hS.2.1 (vp_in_nI (by omega) (by omega)) d_L_law_750 ?_
        rw [nI_clamp (by omega)]
        refine lv_aload_n hx hb d_L_law_751 rfl (lv_at hl 0 rfl) ?_
        refine lv_iload hx hb d_L_law_752 (lv_at hl 4 rfl) ?_
        refine lv_iconst (v := 2) hx hb d_L_law_754 (by decide) ?_
        refine lv_iadd hx hb d_L_law_755 ?_
        rw [show nI (1 + 4 * t) + 2 = nI (1 + 4 * t + 2) from nI_add (1 + 4 * t) 2]
        refine va_sld (A := aB G) hx hb hX hbl hbA hS.2.1 (vp_in_nI (by omega) (by omega)) d_L_law_756 ?_
        rw [nI_clamp (by omega)]
        refine lv_aload_n hx hb d_L_law_757 rfl (lv_at hl 3 rfl) ?_
        refine r_callW (As := [.ref a0, .int (xs (1 + 4 * t + 1)), .int (xs (1 + 4 * t + 2)), .ref ou]) (rest := []) F hS w_L_147 (j_divide G l htr V a0 a1 ou th g9 (t = 0) hJ (xs (1 + 4 * t + 1)) (xs (1 + 4 * t + 2))) rfl hl.1 rfl (Nat.le_of_ble_eq_true rfl) d_L_law_758 ⟨Nat.le_of_ble_eq_true rfl, Nat.le_of_ble_eq_true rfl⟩ ⟨by show cells + 1 ≤ 601024; omega, by show slots + 6 ≤ 7293000; omega⟩ (fun rv V1 H locs hR hS => ?_)
        obtain ⟨k9, rfl, ⟨fo, hfo⟩, hM2⟩ := hR
        refine W.eq (g2 := F0 m 761 ls [.int k9]) rfl ?_
        refine lv_istore (lv' := [(5, .int k9), (0, .ref b), (1, .ref a0), (2, .ref a1), (3, .ref ou), (4, .int (nI (1 + 4 * t)))]) hx hb d_L_law_761 hl (by decide) rfl (fun ls hl => ?_)
        refine lv_aload_n hx hb d_L_law_763 rfl (lv_at hl 3 rfl) ?_
        refine lv_aload_n hx hb d_L_law_764 rfl (lv_at hl 1 rfl) ?_
        refine lv_iload hx hb d_L_law_765 (lv_at hl 5 rfl) ?_
        refine lv_iconst (v := 1) hx hb d_L_law_767 (by decide) ?_
        refine lv_iadd hx hb d_L_law_768 ?_
        rw [show nI (1 + 4 * t) + 1 = nI (1 + 4 * t + 1) from nI_add (1 + 4 * t) 1]
        refine va_sld (A := aB G) hx hb hX hbl hbA hS.2.1 (vp_in_nI (by omega) (by omega)) d_L_law_769 ?_
        rw [nI_clamp (by omega)]
        refine lv_aload_n hx hb d_L_law_770 rfl (lv_at hl 1 rfl) ?_
        refine lv_iload hx hb d_L_law_771 (lv_at hl 5 rfl) ?_
        refine lv_iconst (v := 2) hx hb d_L_law_773 (by decide) ?_
        refine lv_iadd hx hb d_L_law_774 ?_
        rw [show nI (1 + 4 * t) + 2 = nI (1 + 4 * t + 2) from nI_add (1 + 4 * t) 2]
        refine va_sld (A := aB G) hx hb hX hbl hbA hS.2.1 (vp_in_nI (by omega) (by omega)) d_L_law_775 ?_
        rw [nI_clamp (by omega)]
        refine r_callV (k := 20) (i := 0) (q := ("RuleClassesModel", T_M, 30)) (fs := fo) (As := [.int (xs (1 + 4 * t + 1)), .int (xs (1 + 4 * t + 2))]) (rest := []) F hS c_L_149 hM2 rfl hfo rfl hl.1 rfl (Nat.le_of_ble_eq_true rfl) d_L_law_776 ⟨Nat.le_of_ble_eq_true rfl, Nat.le_of_ble_eq_true rfl⟩ ⟨by show cells + 1 + 0 ≤ 601024; omega, by show slots + 6 + 0 ≤ 7293000; omega⟩ (fun rv V1 H locs hR hS => ?_)
        obtain ⟨b9, rfl, g2, hJ, hfin⟩ := hR
        obtain ⟨fo, hfo⟩ := hJ.o
        have h50 := hJ.out
        refine W.eq (g2 := F0 m 779 ls [.int b9]) rfl ?_
        refine lv_istore (lv' := [(6, .int b9), (5, .int k9), (0, .ref b), (1, .ref a0), (2, .ref a1), (3, .ref ou), (4, .int (nI (1 + 4 * t)))]) hx hb d_L_law_779 hl (by decide) rfl (fun ls hl => ?_)
        refine lv_goto (tgt := 849) hx hb d_L_law_781 (by decide) ?_
        refine lv_iinc (v := (nI (1 + 4 * (t + 1)))) (lv' := [(4, .int (nI (1 + 4 * (t + 1)))), (6, .int b9), (5, .int k9), (0, .ref b), (1, .ref a0), (2, .ref a1), (3, .ref ou)]) hx hb d_L_law_849 hl (k := 6) rfl (nI_4 t) (by decide) rfl (fun ls hl => ?_)
        refine lv_goto (tgt := 33) hx hb d_L_law_852 (by decide) ?_
        exact ih (t + 1) (by omega) (by omega) _ _ _ _ _ _ _ _ (hJ.nb (fun z => absurd z (by omega))) hS (by first | omega | (dsimp only; omega)) (by first | omega | (dsimp only; omega)) (lv_sub hl [3, 4, 5, 6, 0] rfl)
      · refine lv_tableIn (tgt := 784) (off := 735) hx hb d_L_law_49 (by decide) (by decide) (by decide) (by decide) ?_
        refine lv_aload_n hx hb d_L_law_784 rfl (lv_at hl 1 rfl) ?_
        refine lv_aload_n hx hb d_L_law_785 rfl (lv_at hl 0 rfl) ?_
        refine lv_iload hx hb d_L_law_786 (lv_at hl 4 rfl) ?_
        refine lv_iconst (v := 1) hx hb d_L_law_788 (by decide) ?_
        refine lv_iadd hx hb d_L_law_789 ?_
        rw [show nI (1 + 4 * t) + 1 = nI (1 + 4 * t + 1) from nI_add (1 + 4 * t) 1]
        refine va_sld (A := aB G) hx hb hX hbl hbA hS.2.1 (vp_in_nI (by omega) (by omega)) d_L_law_790 ?_
        rw [nI_clamp (by omega)]
        refine lv_aload_n hx hb d_L_law_791 rfl (lv_at hl 0 rfl) ?_
        refine lv_iload hx hb d_L_law_792 (lv_at hl 4 rfl) ?_
        refine lv_iconst (v := 2) hx hb d_L_law_794 (by decide) ?_
        refine lv_iadd hx hb d_L_law_795 ?_
        rw [show nI (1 + 4 * t) + 2 = nI (1 + 4 * t + 2) from nI_add (1 + 4 * t) 2]
        refine va_sld (A := aB G) hx hb hX hbl hbA hS.2.1 (vp_in_nI (by omega) (by omega)) d_L_law_796 ?_
        rw [nI_clamp (by omega)]
        refine lv_aload_n hx hb d_L_law_797 rfl (lv_at hl 3 rfl) ?_
        refine r_callW (As := [.ref a0, .int (xs (1 + 4 * t + 1)), .int (xs (1 + 4 * t + 2)), .ref ou]) (rest := []) F hS w_L_150 (j_told G l htr V a0 a1 ou th g9 (t = 0) hJ (xs (1 + 4 * t + 1)) (xs (1 + 4 * t + 2))) rfl hl.1 rfl (Nat.le_of_ble_eq_true rfl) d_L_law_798 ⟨Nat.le_of_ble_eq_true rfl, Nat.le_of_ble_eq_true rfl⟩ ⟨by show cells + 2 ≤ 601024; omega, by show slots + 12 ≤ 7293000; omega⟩ (fun rv V1 H locs hR hS => ?_)
        obtain ⟨k9, rfl, ⟨fo, hfo⟩, hM2⟩ := hR
        refine W.eq (g2 := F0 m 801 ls [.int k9]) rfl ?_
        refine lv_istore (lv' := [(5, .int k9), (0, .ref b), (1, .ref a0), (2, .ref a1), (3, .ref ou), (4, .int (nI (1 + 4 * t)))]) hx hb d_L_law_801 hl (by decide) rfl (fun ls hl => ?_)
        refine lv_aload_n hx hb d_L_law_803 rfl (lv_at hl 3 rfl) ?_
        refine lv_aload_n hx hb d_L_law_804 rfl (lv_at hl 1 rfl) ?_
        refine lv_iload hx hb d_L_law_805 (lv_at hl 5 rfl) ?_
        refine lv_iconst (v := 1) hx hb d_L_law_807 (by decide) ?_
        refine lv_iadd hx hb d_L_law_808 ?_
        rw [show nI (1 + 4 * t) + 1 = nI (1 + 4 * t + 1) from nI_add (1 + 4 * t) 1]
        refine va_sld (A := aB G) hx hb hX hbl hbA hS.2.1 (vp_in_nI (by omega) (by omega)) d_L_law_809 ?_
        rw [nI_clamp (by omega)]
        refine lv_aload_n hx hb d_L_law_810 rfl (lv_at hl 1 rfl) ?_
        refine lv_iload hx hb d_L_law_811 (lv_at hl 5 rfl) ?_
        refine lv_iconst (v := 2) hx hb d_L_law_813 (by decide) ?_
        refine lv_iadd hx hb d_L_law_814 ?_
        rw [show nI (1 + 4 * t) + 2 = nI (1 + 4 * t + 2) from nI_add (1 + 4 * t) 2]
        refine va_sld (A := aB G) hx hb hX hbl hbA hS.2.1 (vp_in_nI (by omega) (by omega)) d_L_law_815 ?_
        rw [nI_clamp (by omega)]
        refine r_callV (k := 20) (i := 0) (q := ("RuleClassesModel", T_M, 30)) (fs := fo) (As := [.int (xs (1 + 4 * t + 1)), .int (xs (1 + 4 * t + 2))]) (rest := []) F hS c_L_152 hM2 rfl hfo rfl hl.1 rfl (Nat.le_of_ble_eq_true rfl) d_L_law_816 ⟨Nat.le_of_ble_eq_true rfl, Nat.le_of_ble_eq_true rfl⟩ ⟨by show cells + 2 + 0 ≤ 601024; omega, by show slots + 12 + 0 ≤ 7293000; omega⟩ (fun rv V1 H locs hR hS => ?_)
        obtain ⟨b9, rfl, g2, hJ, hfin⟩ := hR
        obtain ⟨fo, hfo⟩ := hJ.o
        have h50 := hJ.out
        refine W.eq (g2 := F0 m 819 ls [.int b9]) rfl ?_
        refine lv_istore (lv' := [(6, .int b9), (5, .int k9), (0, .ref b), (1, .ref a0), (2, .ref a1), (3, .ref ou), (4, .int (nI (1 + 4 * t)))]) hx hb d_L_law_819 hl (by decide) rfl (fun ls hl => ?_)
        refine lv_goto (tgt := 849) hx hb d_L_law_821 (by decide) ?_
        refine lv_iinc (v := (nI (1 + 4 * (t + 1)))) (lv' := [(4, .int (nI (1 + 4 * (t + 1)))), (6, .int b9), (5, .int k9), (0, .ref b), (1, .ref a0), (2, .ref a1), (3, .ref ou)]) hx hb d_L_law_849 hl (k := 6) rfl (nI_4 t) (by decide) rfl (fun ls hl => ?_)
        refine lv_goto (tgt := 33) hx hb d_L_law_852 (by decide) ?_
        exact ih (t + 1) (by omega) (by omega) _ _ _ _ _ _ _ _ (hJ.nb (fun z => absurd z (by omega))) hS (by first | omega | (dsimp only; omega)) (by first | omega | (dsimp only; omega)) (lv_sub hl [3, 4, 5, 6, 0] rfl)
      · refine lv_tableIn (tgt := 824) (off := 775) hx hb d_L_law_49 (by decide) (by decide) (by decide) (by decide) ?_
        obtain ⟨b9, hc1, hc2⟩ := j_count G l htr V a0 a1 ou th g9 (t = 0) hJ (xs (1 + 4 * t + 1))
        obtain ⟨fc, hfc⟩ := hJ.c
        obtain ⟨fo, hfo⟩ := hJ.o
        refine lv_aload_n hx hb d_L_law_824 rfl (lv_at hl 1 rfl) ?_
        refine lv_aload_n hx hb d_L_law_825 rfl (lv_at hl 0 rfl) ?_
        refine lv_iload hx hb d_L_law_826 (lv_at hl 4 rfl) ?_
        refine lv_iconst (v := 1) hx hb d_L_law_828 (by decide) ?_
        refine lv_iadd hx hb d_L_law_829 ?_
        rw [show nI (1 + 4 * t) + 1 = nI (1 + 4 * t + 1) from nI_add (1 + 4 * t) 1]
        refine va_sld (A := aB G) hx hb hX hbl hbA hS.2.1 (vp_in_nI (by omega) (by omega)) d_L_law_830 ?_
        rw [nI_clamp (by omega)]
        refine r_callV (k := 0) (i := 0) (q := ("RuleClasses", T_C, 15)) (fs := fc) (As := [.int (xs (1 + 4 * t + 1))]) (rest := []) F hS c_L_153 hc1 rfl hfc rfl hl.1 rfl (Nat.le_of_ble_eq_true rfl) d_L_law_831 ⟨Nat.le_of_ble_eq_true rfl, Nat.le_of_ble_eq_true rfl⟩ ⟨by show cells + 0 ≤ 601024; omega, by show slots + 0 ≤ 7293000; omega⟩ (fun rv V1 H locs hR hS => ?_)
        obtain ⟨rfl, hV⟩ := hR
        rw [hV] at hS
        refine W.eq (g2 := F0 m 834 ls [.int b9]) rfl ?_
        refine lv_aload_n hx hb d_L_law_834 rfl (lv_at hl 2 rfl) ?_
        refine lv_aload_n hx hb d_L_law_835 rfl (lv_at hl 0 rfl) ?_
        refine lv_iload hx hb d_L_law_836 (lv_at hl 4 rfl) ?_
        refine lv_iconst (v := 1) hx hb d_L_law_838 (by decide) ?_
        refine lv_iadd hx hb d_L_law_839 ?_
        rw [show nI (1 + 4 * t) + 1 = nI (1 + 4 * t + 1) from nI_add (1 + 4 * t) 1]
        refine va_sld (A := aB G) hx hb hX hbl hbA hS.2.1 (vp_in_nI (by omega) (by omega)) d_L_law_840 ?_
        rw [nI_clamp (by omega)]
        refine r_callV (k := 20) (i := 0) (q := ("RuleClassesModel", T_M, 30)) (fs := fo) (As := [.int (xs (1 + 4 * t + 1))]) (rest := [.int b9]) F hS c_L_156 hc2 rfl hfo rfl hl.1 rfl (Nat.le_of_ble_eq_true rfl) d_L_law_841 ⟨Nat.le_of_ble_eq_true rfl, Nat.le_of_ble_eq_true rfl⟩ ⟨by show cells + 0 + 0 ≤ 601024; omega, by show slots + 0 + 0 ≤ 7293000; omega⟩ (fun rv V1 H locs hR hS => ?_)
        obtain ⟨rfl, hJ⟩ := hR
        refine W.eq (g2 := F0 m 844 ls [.int b9, .int b9]) rfl ?_
        refine lv_icmp_eq (tgt := 849) hx hb d_L_law_844 (by decide) (fun c_844 => ?_) (fun c_844 => absurd rfl c_844)
        refine lv_iinc (v := (nI (1 + 4 * (t + 1)))) (lv' := [(4, .int (nI (1 + 4 * (t + 1)))), (0, .ref b), (1, .ref a0), (2, .ref a1), (3, .ref ou)]) hx hb d_L_law_849 hl (k := 4) rfl (nI_4 t) (by decide) rfl (fun ls hl => ?_)
        refine lv_goto (tgt := 33) hx hb d_L_law_852 (by decide) ?_
        exact ih (t + 1) (by omega) (by omega) _ _ _ _ _ _ _ _ (hJ.nb (fun z => absurd z (by omega))) hS (by first | omega | (dsimp only; omega)) (by first | omega | (dsimp only; omega)) (lv_sub hl [1, 2, 3, 4, 0] rfl)
    · refine lv_tableOut (tgt := 849) hx hb d_L_law_49 ((not_rg hw).imp (fun z => Int32.lt_iff_toInt_lt.mp z) (fun z => (show (18 : Int32).toInt < v9.toInt from Int32.lt_iff_toInt_lt.mp z))) (by decide) ?_
      refine lv_iinc (v := (nI (1 + 4 * (t + 1)))) (lv' := [(4, .int (nI (1 + 4 * (t + 1)))), (0, .ref b), (1, .ref a0), (2, .ref a1), (3, .ref ou)]) hx hb d_L_law_849 hl (k := 4) rfl (nI_4 t) (by decide) rfl (fun ls hl => ?_)
      refine lv_goto (tgt := 33) hx hb d_L_law_852 (by decide) ?_
      exact ih (t + 1) (by omega) (by omega) _ _ _ _ _ _ _ _ (hJ.nb (fun z => absurd z (by omega))) hS (by first | omega | (dsimp only; omega)) (by first | omega | (dsimp only; omega)) (lv_sub hl [1, 2, 3, 4, 0] rfl)

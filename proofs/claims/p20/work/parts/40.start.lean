theorem arr_k {s : State} {args : Array Value} {ty : FieldType} (h : (Cond.arrayClass ty).before args s = true) : ∃ cA : ClassId, ArrOfT s cA ty ∧ s.vm.findClass ("[" ++ ty.toString) = some cA := by
  obtain ⟨c, k, comp, h1, h2, h3⟩ := Cond.arrayClass_spec h
  exact ⟨c, fun n z => ⟨fun k h => (by cases h), k, h2, comp, h3⟩, h1⟩
theorem arr_o {s : State} {args : Array Value} {C : String} (h : (Cond.arrayOver (.object C)).before args s = true) : ∃ cA : ClassId, ArrOfT s cA (.object C) ∧ va_RA s cA (.object C) := by
  obtain ⟨comp, c, k, h1, -, h2, h3, h4⟩ := Cond.arrayOver_spec h
  exact ⟨c, fun n z => ⟨fun k h => (by cases h), k, h2, comp, h3⟩, k, comp, h2, h3, h1, h4⟩
set_option maxHeartbeats 8000000 in
set_option maxRecDepth 100000 in
theorem kk_start {s : State} {args : Array Value} (hts : ∀ w ∈ lw_tbl, w.before args s = true) (hgv : (Jvm.Cond.and given_1 narrow_1).before args s = true) : ∃ G : Gl, G.2.2 = s.heap.size ∧ KK G s := by
  have hs := flat_of_before _ hgv
  have htT : ∀ w ∈ TBL, w.before args s = true := fun w h => hts w (List.mem_filter.mp h).1
  have hA : ∀ a : Nat, a < s.heap.size → ¬ (fun q : Nat => s.heap.size ≤ q) a := fun a h => Nat.not_le.mpr h
  obtain ⟨c0, i0, k0⟩ := u_known (C := "java/util/ArrayList") (T := T_A) (N := 3) (n := 3) htT uw_A (htT _ m_32)
  obtain ⟨c1, i1, k1⟩ := u_known (C := "RuleClasses") (T := T_C) (N := 15) (n := 15) htT uw_C (htT _ m_24)
  obtain ⟨c2, i2, k2⟩ := u_known (C := "RuleClasses$Edition") (T := T_E) (N := 10) (n := 10) htT uw_E (htT _ m_300)
  obtain ⟨c3, i3, k3⟩ := u_known (C := "RuleClasses$Facts") (T := T_F) (N := 1) (n := 1) htT uw_F (htT _ m_58)
  obtain ⟨c4, i4, k4⟩ := u_known (C := "RuleClasses$Run") (T := T_U) (N := 7) (n := 7) htT uw_U (htT _ m_77)
  obtain ⟨c5, i5, k5⟩ := u_known (C := "RuleClassesModel") (T := T_M) (N := 30) (n := 30) htT uw_M (htT _ m_663)
  obtain ⟨aI, hI1, hI2⟩ := arr_k (htT _ m_69)
  obtain ⟨aJ, hJ1, hJ2⟩ := arr_k (htT _ m_760)
  obtain ⟨aZ, hZ1, hZ2⟩ := arr_k (htT _ m_759)
  obtain ⟨aO, hO1, hO2⟩ := arr_o (C := "java/lang/Object") (hts _ (List.mem_append_right _ (List.mem_append_right _ (List.mem_append_left _ (List.mem_of_getElem? (i := 150) (by decide +kernel))))))
  obtain ⟨mi, hmi⟩ := va_Mi.of (C := "[Ljava/lang/Object;") (hs (Cond.isRef (Term.mirror "[Ljava/lang/Object;")) (by decide +kernel))
  obtain ⟨t9, ht9, hT9⟩ := va_Tof (A := fun q => s.heap.size ≤ q) (tm := Term.static "java/util/ArrayList" "DEFAULTCAPACITY_EMPTY_ELEMENTDATA" "[Ljava/lang/Object;") (ty := .object "java/lang/Object") (N := 0) (f := fun _ => .null) (by decide) (hs (Cond.arrayOf (Term.static "java/util/ArrayList" "DEFAULTCAPACITY_EMPTY_ELEMENTDATA" "[Ljava/lang/Object;") (.object "java/lang/Object")) (by decide +kernel)) (va_eqt (hs (Cond.eq (Term.length (Term.static "java/util/ArrayList" "DEFAULTCAPACITY_EMPTY_ELEMENTDATA" "[Ljava/lang/Object;")) (Term.int 0)) (by decide +kernel))) (fun j hj => absurd hj (by omega)) hA
  have hZ9 := va_Zof (A := fun q => s.heap.size ≤ q) (hts _ (List.mem_append_right _ (List.mem_append_left _ (List.mem_of_getElem? (i := 44) (by decide +kernel))))) (htT _ m_4) ht9 hA
  have hU1 : vx_Zq "java/lang/Throwable" "UNASSIGNED_STACK" "[Ljava/lang/StackTraceElement;" (fun q => s.heap.size ≤ q) s s.heap := vx_Zqof (hts _ (List.mem_append_right _ (List.mem_append_left _ (List.mem_of_getElem? (i := 226) (by decide +kernel))))) (htT _ m_9) (hs (Cond.isRef (Term.static "java/lang/Throwable" "UNASSIGNED_STACK" "[Ljava/lang/StackTraceElement;")) (by decide +kernel)) hA
  have hU2 : vx_Zq "java/lang/Throwable" "SUPPRESSED_SENTINEL" "Ljava/util/List;" (fun q => s.heap.size ≤ q) s s.heap := vx_Zqof (hts _ (List.mem_append_right _ (List.mem_append_left _ (List.mem_of_getElem? (i := 228) (by decide +kernel))))) (htT _ m_9) (hs (Cond.isRef (Term.static "java/lang/Throwable" "SUPPRESSED_SENTINEL" "Ljava/util/List;")) (by decide +kernel)) hA
  have hC1 : ∀ q ∈ CSP, va_Nw (.castable q.1 q.2) s := List.forall_mem_cons.mpr ⟨va_Nw.of (A := args) rfl (hts _ (List.mem_append_right _ (List.mem_append_left _ (List.mem_of_getElem? (i := 201) (by decide +kernel))))), List.forall_mem_cons.mpr ⟨va_Nw.of (A := args) rfl (hts _ (List.mem_append_right _ (List.mem_append_right _ (List.mem_append_left _ (List.mem_of_getElem? (i := 46) (by decide +kernel)))))), List.forall_mem_cons.mpr ⟨va_Nw.of (A := args) rfl (hts _ (List.mem_append_right _ (List.mem_append_right _ (List.mem_append_left _ (List.mem_of_getElem? (i := 177) (by decide +kernel)))))), List.forall_mem_cons.mpr ⟨va_Nw.of (A := args) rfl (hts _ (List.mem_append_right _ (List.mem_append_right _ (List.mem_append_left _ (List.mem_of_getElem? (i := 202) (by decide +kernel)))))), List.forall_mem_cons.mpr ⟨va_Nw.of (A := args) rfl (hts _ (List.mem_append_right _ (List.mem_append_right _ (List.mem_append_right _ (List.mem_append_left _ (List.mem_of_getElem? (i := 157) (by decide +kernel))))))), List.forall_mem_cons.mpr ⟨va_Nw.of (A := args) rfl (hts _ (List.mem_append_right _ (List.mem_append_right _ (List.mem_append_right _ (List.mem_append_right _ (List.mem_of_getElem? (i := 160) (by decide +kernel))))))), List.forall_mem_cons.mpr ⟨va_Nw.of (A := args) rfl (hts _ (List.mem_append_right _ (List.mem_append_right _ (List.mem_append_right _ (List.mem_append_right _ (List.mem_of_getElem? (i := 161) (by decide +kernel))))))), List.forall_mem_cons.mpr ⟨va_Nw.of (A := args) rfl (hts _ (List.mem_append_right _ (List.mem_append_right _ (List.mem_append_right _ (List.mem_append_right _ (List.mem_of_getElem? (i := 165) (by decide +kernel))))))), List.forall_mem_cons.mpr ⟨va_Nw.of (A := args) rfl (hts _ (List.mem_append_right _ (List.mem_append_right _ (List.mem_append_right _ (List.mem_append_right _ (List.mem_of_getElem? (i := 166) (by decide +kernel))))))), List.forall_mem_cons.mpr ⟨va_Nw.of (A := args) rfl (hts _ (List.mem_append_right _ (List.mem_append_right _ (List.mem_append_right _ (List.mem_append_right _ (List.mem_of_getElem? (i := 167) (by decide +kernel))))))), List.forall_mem_cons.mpr ⟨va_Nw.of (A := args) rfl (hts _ (List.mem_append_right _ (List.mem_append_right _ (List.mem_append_right _ (List.mem_append_right _ (List.mem_of_getElem? (i := 168) (by decide +kernel))))))), List.forall_mem_cons.mpr ⟨va_Nw.of (A := args) rfl (hts _ (List.mem_append_right _ (List.mem_append_right _ (List.mem_append_right _ (List.mem_append_right _ (List.mem_of_getElem? (i := 169) (by decide +kernel))))))), List.forall_mem_cons.mpr ⟨va_Nw.of (A := args) rfl (hts _ (List.mem_append_right _ (List.mem_append_right _ (List.mem_append_right _ (List.mem_append_right _ (List.mem_of_getElem? (i := 170) (by decide +kernel))))))), fun _ h => absurd h List.not_mem_nil⟩⟩⟩⟩⟩⟩⟩⟩⟩⟩⟩⟩⟩
  have hS215 : ∃ sa, vk_R "RuleClasses" 215 "a number outside its range" sa s := by
    obtain ⟨a, -, -, -, ea, -⟩ := Cond.exactly_spec (hs (Cond.exactly (Term.string "RuleClasses" 215) "java/lang/String") (by decide +kernel))
    exact ⟨a, vk_R.of (A := args) (hts _ (List.mem_append_right _ (List.mem_append_right _ (List.mem_append_left _ (List.mem_of_getElem? (i := 2) (by decide +kernel)))))) ea⟩
  have hS84 : ∃ sa, vk_R "RuleClasses" 84 "no room for an edition" sa s := by
    obtain ⟨a, -, -, -, ea, -⟩ := Cond.exactly_spec (hs (Cond.exactly (Term.string "RuleClasses" 84) "java/lang/String") (by decide +kernel))
    exact ⟨a, vk_R.of (A := args) (hts _ (List.mem_append_right _ (List.mem_append_right _ (List.mem_append_left _ (List.mem_of_getElem? (i := 53) (by decide +kernel)))))) ea⟩
  have hS222 : ∃ sa, vk_R "RuleClasses" 222 "no such edition" sa s := by
    obtain ⟨a, -, -, -, ea, -⟩ := Cond.exactly_spec (hs (Cond.exactly (Term.string "RuleClasses" 222) "java/lang/String") (by decide +kernel))
    exact ⟨a, vk_R.of (A := args) (hts _ (List.mem_append_right _ (List.mem_append_right _ (List.mem_append_left _ (List.mem_of_getElem? (i := 184) (by decide +kernel)))))) ea⟩
  have hS218 : ∃ sa, vk_R "RuleClasses" 218 "the edition is made" sa s := by
    obtain ⟨a, -, -, -, ea, -⟩ := Cond.exactly_spec (hs (Cond.exactly (Term.string "RuleClasses" 218) "java/lang/String") (by decide +kernel))
    exact ⟨a, vk_R.of (A := args) (hts _ (List.mem_append_right _ (List.mem_append_right _ (List.mem_append_left _ (List.mem_of_getElem? (i := 209) (by decide +kernel)))))) ea⟩
  have hS115 : ∃ sa, vk_R "RuleClasses" 115 "no room for an op" sa s := by
    obtain ⟨a, -, -, -, ea, -⟩ := Cond.exactly_spec (hs (Cond.exactly (Term.string "RuleClasses" 115) "java/lang/String") (by decide +kernel))
    exact ⟨a, vk_R.of (A := args) (hts _ (List.mem_append_right _ (List.mem_append_right _ (List.mem_append_left _ (List.mem_of_getElem? (i := 216) (by decide +kernel)))))) ea⟩
  have hS163 : ∃ sa, vk_R "RuleClasses" 163 "the edition is not made" sa s := by
    obtain ⟨a, -, -, -, ea, -⟩ := Cond.exactly_spec (hs (Cond.exactly (Term.string "RuleClasses" 163) "java/lang/String") (by decide +kernel))
    exact ⟨a, vk_R.of (A := args) (hts _ (List.mem_append_right _ (List.mem_append_right _ (List.mem_append_right _ (List.mem_append_left _ (List.mem_of_getElem? (i := 90) (by decide +kernel))))))) ea⟩
  have hS169 : ∃ sa, vk_R "RuleClasses" 169 "no room for a handle" sa s := by
    obtain ⟨a, -, -, -, ea, -⟩ := Cond.exactly_spec (hs (Cond.exactly (Term.string "RuleClasses" 169) "java/lang/String") (by decide +kernel))
    exact ⟨a, vk_R.of (A := args) (hts _ (List.mem_append_right _ (List.mem_append_right _ (List.mem_append_right _ (List.mem_append_left _ (List.mem_of_getElem? (i := 91) (by decide +kernel))))))) ea⟩
  have hS177 : ∃ sa, vk_R "RuleClasses" 177 "the handle has ended" sa s := by
    obtain ⟨a, -, -, -, ea, -⟩ := Cond.exactly_spec (hs (Cond.exactly (Term.string "RuleClasses" 177) "java/lang/String") (by decide +kernel))
    exact ⟨a, vk_R.of (A := args) (hts _ (List.mem_append_right _ (List.mem_append_right _ (List.mem_append_right _ (List.mem_append_left _ (List.mem_of_getElem? (i := 99) (by decide +kernel))))))) ea⟩
  have hS182 : ∃ sa, vk_R "RuleClasses" 182 "no room for a kept question" sa s := by
    obtain ⟨a, -, -, -, ea, -⟩ := Cond.exactly_spec (hs (Cond.exactly (Term.string "RuleClasses" 182) "java/lang/String") (by decide +kernel))
    exact ⟨a, vk_R.of (A := args) (hts _ (List.mem_append_right _ (List.mem_append_right _ (List.mem_append_right _ (List.mem_append_left _ (List.mem_of_getElem? (i := 107) (by decide +kernel))))))) ea⟩
  have hS201 : ∃ sa, vk_R "RuleClasses" 201 "/ by zero" sa s := by
    obtain ⟨a, -, -, -, ea, -⟩ := Cond.exactly_spec (hs (Cond.exactly (Term.string "RuleClasses" 201) "java/lang/String") (by decide +kernel))
    exact ⟨a, vk_R.of (A := args) (hts _ (List.mem_append_right _ (List.mem_append_right _ (List.mem_append_right _ (List.mem_append_left _ (List.mem_of_getElem? (i := 164) (by decide +kernel))))))) ea⟩
  have hS9 : ∀ q ∈ STR, ∃ sa, vk_R "RuleClasses" q.1 q.2 sa s := List.forall_mem_cons.mpr ⟨hS215, List.forall_mem_cons.mpr ⟨hS84, List.forall_mem_cons.mpr ⟨hS222, List.forall_mem_cons.mpr ⟨hS218, List.forall_mem_cons.mpr ⟨hS115, List.forall_mem_cons.mpr ⟨hS163, List.forall_mem_cons.mpr ⟨hS169, List.forall_mem_cons.mpr ⟨hS177, List.forall_mem_cons.mpr ⟨hS182, List.forall_mem_cons.mpr ⟨hS201, fun _ h => absurd h List.not_mem_nil⟩⟩⟩⟩⟩⟩⟩⟩⟩⟩
  have hD9 : ∀ y ∈ DCL, va_Nw (.declares y) s := List.forall_mem_cons.mpr ⟨va_Nw.of (A := args) rfl (hts _ (List.mem_append_right _ (List.mem_append_left _ (List.mem_of_getElem? (i := 202) (by decide +kernel))))), List.forall_mem_cons.mpr ⟨va_Nw.of (A := args) rfl (hts _ (List.mem_append_right _ (List.mem_append_left _ (List.mem_of_getElem? (i := 203) (by decide +kernel))))), List.forall_mem_cons.mpr ⟨va_Nw.of (A := args) rfl (hts _ (List.mem_append_right _ (List.mem_append_left _ (List.mem_of_getElem? (i := 204) (by decide +kernel))))), List.forall_mem_cons.mpr ⟨va_Nw.of (A := args) rfl (hts _ (List.mem_append_right _ (List.mem_append_left _ (List.mem_of_getElem? (i := 205) (by decide +kernel))))), List.forall_mem_cons.mpr ⟨va_Nw.of (A := args) rfl (hts _ (List.mem_append_right _ (List.mem_append_left _ (List.mem_of_getElem? (i := 206) (by decide +kernel))))), List.forall_mem_cons.mpr ⟨va_Nw.of (A := args) rfl (hts _ (List.mem_append_right _ (List.mem_append_left _ (List.mem_of_getElem? (i := 207) (by decide +kernel))))), List.forall_mem_cons.mpr ⟨va_Nw.of (A := args) rfl (hts _ (List.mem_append_right _ (List.mem_append_right _ (List.mem_append_right _ (List.mem_append_right _ (List.mem_of_getElem? (i := 164) (by decide +kernel))))))), fun _ h => absurd h List.not_mem_nil⟩⟩⟩⟩⟩⟩⟩
  have hN9 : va_Nw (.methodLinkNest "RuleClasses" 21 y_F_init "RuleClasses") s := va_Nw.of (A := args) rfl (hts _ (List.mem_append_right _ (List.mem_append_left _ (List.mem_of_getElem? (i := 59) (by decide +kernel)))))
  have hX9 : ∀ a ∈ XN, ∀ b ∈ XN, a ≠ b → va_Nc a b s := List.forall_mem_cons.mpr ⟨List.forall_mem_cons.mpr ⟨fun h => absurd rfl h, List.forall_mem_cons.mpr ⟨fun _ => va_Nc.of (args := args) (hs (Cond.not (Cond.castable "java/lang/IllegalArgumentException" "java/lang/UnsupportedOperationException")) (by decide +kernel)), List.forall_mem_cons.mpr ⟨fun _ => va_Nc.of (args := args) (hs (Cond.not (Cond.castable "java/lang/IllegalArgumentException" "java/util/NoSuchElementException")) (by decide +kernel)), List.forall_mem_cons.mpr ⟨fun _ => va_Nc.of (args := args) (hs (Cond.not (Cond.castable "java/lang/IllegalArgumentException" "java/lang/IllegalStateException")) (by decide +kernel)), List.forall_mem_cons.mpr ⟨fun _ => va_Nc.of (args := args) (hs (Cond.not (Cond.castable "java/lang/IllegalArgumentException" "java/lang/ArithmeticException")) (by decide +kernel)), fun _ h => absurd h List.not_mem_nil⟩⟩⟩⟩⟩, List.forall_mem_cons.mpr ⟨List.forall_mem_cons.mpr ⟨fun _ => va_Nc.of (args := args) (hs (Cond.not (Cond.castable "java/lang/UnsupportedOperationException" "java/lang/IllegalArgumentException")) (by decide +kernel)), List.forall_mem_cons.mpr ⟨fun h => absurd rfl h, List.forall_mem_cons.mpr ⟨fun _ => va_Nc.of (args := args) (hs (Cond.not (Cond.castable "java/lang/UnsupportedOperationException" "java/util/NoSuchElementException")) (by decide +kernel)), List.forall_mem_cons.mpr ⟨fun _ => va_Nc.of (args := args) (hs (Cond.not (Cond.castable "java/lang/UnsupportedOperationException" "java/lang/IllegalStateException")) (by decide +kernel)), List.forall_mem_cons.mpr ⟨fun _ => va_Nc.of (args := args) (hs (Cond.not (Cond.castable "java/lang/UnsupportedOperationException" "java/lang/ArithmeticException")) (by decide +kernel)), fun _ h => absurd h List.not_mem_nil⟩⟩⟩⟩⟩, List.forall_mem_cons.mpr ⟨List.forall_mem_cons.mpr ⟨fun _ => va_Nc.of (args := args) (hs (Cond.not (Cond.castable "java/util/NoSuchElementException" "java/lang/IllegalArgumentException")) (by decide +kernel)), List.forall_mem_cons.mpr ⟨fun _ => va_Nc.of (args := args) (hs (Cond.not (Cond.castable "java/util/NoSuchElementException" "java/lang/UnsupportedOperationException")) (by decide +kernel)), List.forall_mem_cons.mpr ⟨fun h => absurd rfl h, List.forall_mem_cons.mpr ⟨fun _ => va_Nc.of (args := args) (hs (Cond.not (Cond.castable "java/util/NoSuchElementException" "java/lang/IllegalStateException")) (by decide +kernel)), List.forall_mem_cons.mpr ⟨fun _ => va_Nc.of (args := args) (hs (Cond.not (Cond.castable "java/util/NoSuchElementException" "java/lang/ArithmeticException")) (by decide +kernel)), fun _ h => absurd h List.not_mem_nil⟩⟩⟩⟩⟩, List.forall_mem_cons.mpr ⟨List.forall_mem_cons.mpr ⟨fun _ => va_Nc.of (args := args) (hs (Cond.not (Cond.castable "java/lang/IllegalStateException" "java/lang/IllegalArgumentException")) (by decide +kernel)), List.forall_mem_cons.mpr ⟨fun _ => va_Nc.of (args := args) (hs (Cond.not (Cond.castable "java/lang/IllegalStateException" "java/lang/UnsupportedOperationException")) (by decide +kernel)), List.forall_mem_cons.mpr ⟨fun _ => va_Nc.of (args := args) (hs (Cond.not (Cond.castable "java/lang/IllegalStateException" "java/util/NoSuchElementException")) (by decide +kernel)), List.forall_mem_cons.mpr ⟨fun h => absurd rfl h, List.forall_mem_cons.mpr ⟨fun _ => va_Nc.of (args := args) (hs (Cond.not (Cond.castable "java/lang/IllegalStateException" "java/lang/ArithmeticException")) (by decide +kernel)), fun _ h => absurd h List.not_mem_nil⟩⟩⟩⟩⟩, List.forall_mem_cons.mpr ⟨List.forall_mem_cons.mpr ⟨fun _ => va_Nc.of (args := args) (hs (Cond.not (Cond.castable "java/lang/ArithmeticException" "java/lang/IllegalArgumentException")) (by decide +kernel)), List.forall_mem_cons.mpr ⟨fun _ => va_Nc.of (args := args) (hs (Cond.not (Cond.castable "java/lang/ArithmeticException" "java/lang/UnsupportedOperationException")) (by decide +kernel)), List.forall_mem_cons.mpr ⟨fun _ => va_Nc.of (args := args) (hs (Cond.not (Cond.castable "java/lang/ArithmeticException" "java/util/NoSuchElementException")) (by decide +kernel)), List.forall_mem_cons.mpr ⟨fun _ => va_Nc.of (args := args) (hs (Cond.not (Cond.castable "java/lang/ArithmeticException" "java/lang/IllegalStateException")) (by decide +kernel)), List.forall_mem_cons.mpr ⟨fun h => absurd rfl h, fun _ h => absurd h List.not_mem_nil⟩⟩⟩⟩⟩, fun _ h => absurd h List.not_mem_nil⟩⟩⟩⟩⟩
  refine ⟨((fun k => if k = 0 then c0 else if k = 1 then c1 else if k = 2 then c2 else if k = 3 then c3 else if k = 4 then c4 else c5, fun k => if k = 0 then i0 else if k = 1 then i1 else if k = 2 then i2 else if k = 3 then i3 else if k = 4 then i4 else i5), fun k => if k = 0 then aI else if k = 1 then aO else if k = 2 then aJ else if k = 3 then aZ else if k = 8 then mi else t9, s.heap.size), rfl, ⟨?_, ?_⟩, ⟨hU1, hU2⟩, ⟨hZ9, hT9⟩, hC1, hS9, hN9, va_AO.of (A := args) (hts _ (List.mem_append_right _ (List.mem_append_right _ (List.mem_append_left _ (List.mem_of_getElem? (i := 150) (by decide +kernel)))))), hmi, hD9, hX9⟩
  · intro k q hq
    match k, hq with
    | 0, hq => cases hq; exact k0
    | 1, hq => cases hq; exact k1
    | 2, hq => cases hq; exact k2
    | 3, hq => cases hq; exact k3
    | 4, hq => cases hq; exact k4
    | 5, hq => cases hq; exact k5
    | k + 6, hq => simp [vwCl] at hq
  · intro k q hq
    match k, hq with
    | 0, hq => cases hq; exact ⟨hI1, hI2⟩
    | 1, hq => cases hq; exact ⟨hO1, hO2⟩
    | 2, hq => cases hq; exact ⟨hJ1, hJ2⟩
    | 3, hq => cases hq; exact ⟨hZ1, hZ2⟩
    | k + 4, hq => simp [KT] at hq
set_option maxHeartbeats 8000000 in
set_option maxRecDepth 100000 in
theorem whole_start {p : Program} {e : Env} {s : State} {m : MethodId} {below : List Frame} {meth : Method} {c : Code} (l : Launch) (htr : l.stackTraces = false) {b L : Nat} {xs : Nat → Int32} (hL : L ≤ 2049) (C0 : lw_At p s m meth c b L xs) : W p l e room_1 s m #[Value.ref b] below meth c s.heap [] 0 0 (lw_Z below #[Value.ref b] s) (entryFrame m ([Value.ref b] : List Value).toArray 7) := by
  obtain ⟨hx, hb, hr, hml, hown, hts, hX, hbl, hlocks, hgv⟩ := id C0
  obtain ⟨G, hG, hK⟩ := kk_start hts hgv
  have hbA : ¬ aB G b := fun z => absurd (hG ▸ z : s.heap.size ≤ b) (Nat.not_le.mpr hbl)
  have F : Bd G p l s m #[Value.ref b] meth c code 7 "RuleClassesLaw" := ⟨hx, hb, hml, hown, fun w h => hts w (List.mem_filter.mp h).1, hK, hlocks, htr⟩
  have hS : HS G s (fun _ _ => none : Vw) s.heap [] := ⟨⟨(fun k i q h => by cases h), (fun k i k2 i2 q q2 h => by cases h)⟩, va_S.rf, Nat.le_of_eq hG⟩
  have hl := lv_entry ([.ref b]) (n := 7) (Nat.le_of_ble_eq_true rfl)
  rw [lg_entry_eq]
  generalize (lg_sl ([.ref b]) ++ List.replicate (7 - (lg_sl ([.ref b])).length) Slot.unset).toArray = ls at hl ⊢
  have hl : lv_has ls 7 [(0, .ref b)] := hl
  refine r_new F hS 0 0 (ci := 1) (N := 15) rfl uw_C ty_C tyk_C m_23 m_24 m_1 (fs := [.int 0, .null, .null, .null, .null, .null, .null, .null, .null, .null, .int 0, .int 0, .int 0, .int 0, .int 0]) (by decide) (Nat.le_of_ble_eq_true rfl) (Nat.le_of_ble_eq_true rfl) d_L_law_0 (fun a0 H hS => ?_)
  have hS : HS G s (uV (fun _ _ => none : Vw) 0 0 (a0, .inr (1, [.int 0, .null, .null, .null, .null, .null, .null, .null, .null, .null, .int 0, .int 0, .int 0, .int 0, .int 0]))) H _ := hS
  refine lv_dup hx hb d_L_law_3 rfl ?_
  refine lv_aload_n hx hb d_L_law_4 rfl (lv_at hl 0 rfl) ?_
  refine lv_iconst (v := 0) hx hb d_L_law_5 (by decide) ?_
  refine r_callX (As := [.ref b, .int 0]) (rest := [.ref a0, .ref a0]) F hS hX hbl hbA c_L_81 (k_L_cell G l htr _ b L xs hbA (by omega)) rfl hl.1 rfl (Nat.le_of_ble_eq_true rfl) d_L_law_6 ⟨Nat.le_of_ble_eq_true rfl, Nat.le_of_ble_eq_true rfl⟩ ⟨Nat.le_of_ble_eq_true rfl, Nat.le_of_ble_eq_true rfl⟩ (fun rv V1 H locs hR hS => ?_)
  obtain ⟨rfl, hV⟩ := hR
  rw [hV] at hS
  refine W.eq (g2 := F0 m 9 ls [.int (if 0 < L then xs 0 else 0), .ref a0, .ref a0]) rfl ?_
  refine r_callI (b := a0) (As := [.int (if 0 < L then xs 0 else 0)]) (rest := [.ref a0]) F hS c_L_87 (c_init G l htr _ a0 _ (uV_self _ _ _ _) ⟨rfl, rfl⟩) rfl hl.1 rfl (Nat.le_of_ble_eq_true rfl) d_L_law_9 ⟨Nat.le_of_ble_eq_true rfl, Nat.le_of_ble_eq_true rfl⟩ ⟨Nat.le_of_ble_eq_true rfl, Nat.le_of_ble_eq_true rfl⟩ (fun rv V1 H locs hR hS => ?_)
  obtain ⟨rfl, hC, hO1⟩ := hR
  refine W.eq (g2 := F0 m 12 ls [.ref a0]) rfl ?_
  refine lv_astore_n (lv' := [(1, .ref a0), (0, .ref b)]) hx hb d_L_law_12 rfl hl (by decide) rfl (fun ls hl => ?_)
  refine r_new F hS 20 0 (ci := 5) (N := 30) rfl uw_M ty_M tyk_M m_662 m_663 m_8 (fs := [.int 0, .int 0, .int 0, .int 0, .int 0, .int 0, .int 0, .int 0, .null, .null, .null, .null, .null, .null, .null, .null, .null, .null, .null, .null, .null, .null, .null, .null, .null, .int 0, .int 0, .int 0, .long 0, .null]) (by decide) (Nat.le_of_ble_eq_true rfl) (Nat.le_of_ble_eq_true rfl) d_L_law_13 (fun a1 H hS => ?_)
  have hS : HS G s (uV V1 20 0 (a1, .inr (5, [.int 0, .int 0, .int 0, .int 0, .int 0, .int 0, .int 0, .int 0, .null, .null, .null, .null, .null, .null, .null, .null, .null, .null, .null, .null, .null, .null, .null, .null, .null, .int 0, .int 0, .int 0, .long 0, .null]))) H _ := hS
  refine lv_dup hx hb d_L_law_16 rfl ?_
  refine lv_aload_n hx hb d_L_law_17 rfl (lv_at hl 1 rfl) ?_
  refine lv_iconst (v := 0) hx hb d_L_law_18 (by decide) ?_
  refine r_callX (As := [.ref b, .int 0]) (rest := [.ref a1, .ref a1]) F hS hX hbl hbA c_L_81 (k_L_cell G l htr _ b L xs hbA (by omega)) rfl hl.1 rfl (Nat.le_of_ble_eq_true rfl) d_L_law_19 ⟨Nat.le_of_ble_eq_true rfl, Nat.le_of_ble_eq_true rfl⟩ ⟨Nat.le_of_ble_eq_true rfl, Nat.le_of_ble_eq_true rfl⟩ (fun rv V2 H locs hR hS => ?_)
  obtain ⟨rfl, hV⟩ := hR
  rw [hV] at hS
  refine W.eq (g2 := F0 m 22 ls [.int (if 0 < L then xs 0 else 0), .ref a1, .ref a1]) rfl ?_
  refine r_callI (b := a1) (As := [.int (if 0 < L then xs 0 else 0)]) (rest := [.ref a1]) F hS c_L_91 (k_M_init G l htr _ a1 _ (uV_self _ _ _ _)) rfl hl.1 rfl (Nat.le_of_ble_eq_true rfl) d_L_law_22 ⟨Nat.le_of_ble_eq_true rfl, Nat.le_of_ble_eq_true rfl⟩ ⟨Nat.le_of_ble_eq_true rfl, Nat.le_of_ble_eq_true rfl⟩ (fun rv V2 H locs hR hS => ?_)
  obtain ⟨rfl, m0, A, mss, e1, e2, e3, hI⟩ := hR
  refine W.eq (g2 := F0 m 25 ls [.ref a1]) rfl ?_
  refine lv_astore_n (lv' := [(2, .ref a1), (1, .ref a0), (0, .ref b)]) hx hb d_L_law_25 rfl hl (by decide) rfl (fun ls hl => ?_)
  refine lv_iconst (v := 1) hx hb d_L_law_26 (by decide) ?_
  refine r_newl F hS 50 0 m_760 (N := 1) (by decide) (by decide) (by decide) (Nat.le_of_ble_eq_true rfl) (Nat.le_of_ble_eq_true rfl) d_L_law_27 (fun ou H hS => ?_)
  have hS : HS G s (uV V2 50 0 (ou, aL G 1 (fun _ => 0))) H _ := hS
  refine lv_astore_n (lv' := [(3, .ref ou), (2, .ref a1), (1, .ref a0), (0, .ref b)]) hx hb d_L_law_29 rfl hl (by decide) rfl (fun ls hl => ?_)
  refine lv_iconst (v := 1) hx hb d_L_law_30 (by decide) ?_
  refine lv_istore (lv' := [(4, .int 1), (3, .ref ou), (2, .ref a1), (1, .ref a0), (0, .ref b)]) hx hb d_L_law_31 hl (by decide) rfl (fun ls hl => ?_)
  have hJ : JJ G (uV V2 50 0 (ou, aL G 1 (fun _ => 0))) a0 a1 ou 0 (fun _ => 0) True := JJ.new (V := V1) hC ⟨m0, A, mss, e1, e2, e3⟩ (fun k i hk => (uV_ne (by omega)).trans ((hI k i (Or.inl hk)).trans (uV_ne (by omega)))) (fun k h1 h2 => uV_ne (by omega)) (uV_self _ _ _ _)
  exact lp_law G l htr hL F hr hX hbl hbA (Nat.le_of_eq hG.symm) a0 a1 ou 512 0 (by omega) (by omega) _ _ _ _ _ _ _ _ (hJ.nb (fun _ => trivial)) hS (Nat.le_of_ble_eq_true rfl) (Nat.le_of_ble_eq_true rfl) (lv_sub hl [4, 3, 2, 1, 0] rfl)

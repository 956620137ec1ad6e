def v_X8_init : List Cond := .code yX8_init cX8_init 6 none :: ([.code objectInit ⟨#[0xb1]⟩ 1 none, .methodLink RX8 1 objectInit, .instanceMethod objectInit, .code Lib.Math.min.name Lib.Math.min.code 2 (some .int), .methodLink RX8 9 Lib.Math.min.name, .static Lib.Math.min.name, .initialized "java/lang/Math", .code Lib.Math.max.name Lib.Math.max.code 2 (some .int), .methodLink RX8 15 Lib.Math.max.name, .static Lib.Math.max.name, .classLink RX8 18 RX3, .instantiable RX3 2, .initialized RX3, .code yX3_init cX3_init 2 none, .methodLink RX3 1 objectInit, .fieldLink RX3 7 "TwinRoots$Limits" "mostKeys" "I", .fieldLink RX3 13 "TwinRoots$Limits" "mostChildren" "I", .methodLink RX8 20 yX3_init, .instanceMethod yX3_init, .classLink RX8 23 RX0, .instantiable RX0 7, .initialized RX0, .code yX0_init cX0_init 3 none, .methodLink RX0 1 objectInit, .fieldLink RX0 7 "TwinRoots$Disk" "words" "I", .fieldLink RX0 13 "TwinRoots$Disk" "blocks" "I", .arrayClass .int, .fieldLink RX0 16 "TwinRoots$Disk" "cells" "[I", .fieldLink RX0 20 "TwinRoots$Disk" "image" "[I", .fieldLink RX0 23 "TwinRoots$Disk" "writesAhead" "I", .methodLink RX8 25 yX0_init, .instanceMethod yX0_init, .fieldLink RX8 28 "TwinRoots" "disk" "LTwinRoots$Disk;", .classLink RX8 32 RX2, .instantiable RX2 6, .initialized RX2, .code yX2_init cX2_init 4 none, .methodLink RX2 3 objectInit, .classLink RX2 9 RX4, .fieldLink RX2 11 "TwinRoots$Forest" "pages" "[LTwinRoots$Page;", .instantiable RX4 4, .initialized RX4, .code yX4_init cX4_init 2 none, .methodLink RX4 3 objectInit, .fieldLink RX4 9 "TwinRoots$Page" "leaf" "Z", .fieldLink RX4 15 "TwinRoots$Page" "keys" "[I", .fieldLink RX4 19 "TwinRoots$Page" "refs" "[I", .methodLink RX2 17 yX4_init, .instanceMethod yX4_init, .fieldLink RX2 20 "TwinRoots$Forest" "empty" "LTwinRoots$Page;", .fieldLink RX2 24 "TwinRoots$Forest" "line" "[I", .methodLink RX8 34 yX2_init, .instanceMethod yX2_init, .fieldLink RX8 35 "TwinRoots" "forest" "LTwinRoots$Forest;", .classLink RX8 39 RX6, .instantiable RX6 10, .initialized RX6, .code yX6_init cX6_init 4 none, .methodLink RX6 3 objectInit, .fieldLink RX6 9 "TwinRoots$Survey" "disk" "LTwinRoots$Disk;", .fieldLink RX6 15 "TwinRoots$Survey" "forest" "LTwinRoots$Forest;", .fieldLink RX6 19 "TwinRoots$Survey" "limits" "LTwinRoots$Limits;", .fieldLink RX6 23 "TwinRoots$Disk" "blocks" "I", .fieldLink RX6 29 "TwinRoots$Survey" "line" "[I", .arrayClass .long, .fieldLink RX6 33 "TwinRoots$Survey" "lowest" "[J", .fieldLink RX6 37 "TwinRoots$Survey" "ceiling" "[J", .methodLink RX8 41 yX6_init, .instanceMethod yX6_init, .fieldLink RX8 44 "TwinRoots" "survey" "LTwinRoots$Survey;", .classLink RX8 48 RX5, .instantiable RX5 8, .initialized RX5, .code yX5_init cX5_init 3 none, .methodLink RX5 3 objectInit, .classLink RX5 9 RX4, .fieldLink RX5 11 "TwinRoots$Plan" "drafts" "[LTwinRoots$Page;", .methodLink RX5 17 yX4_init, .fieldLink RX5 20 "TwinRoots$Plan" "targets" "[I", .fieldLink RX5 24 "TwinRoots$Plan" "blank" "LTwinRoots$Page;", .methodLink RX8 50 yX5_init, .instanceMethod yX5_init, .fieldLink RX8 51 "TwinRoots" "plan" "LTwinRoots$Plan;", .classLink RX8 55 RX1, .instantiable RX1 9, .initialized RX1, .code yX1_init cX1_init 5 none, .methodLink RX1 3 objectInit, .fieldLink RX1 9 "TwinRoots$Editor" "limits" "LTwinRoots$Limits;", .fieldLink RX1 15 "TwinRoots$Editor" "forest" "LTwinRoots$Forest;", .fieldLink RX1 19 "TwinRoots$Editor" "plan" "LTwinRoots$Plan;", .fieldLink RX1 23 "TwinRoots$Editor" "pathBlocks" "[I", .fieldLink RX1 27 "TwinRoots$Editor" "pathPlaces" "[I", .classLink RX1 30 RX4, .methodLink RX1 32 yX4_init, .fieldLink RX1 35 "TwinRoots$Editor" "node" "LTwinRoots$Page;", .fieldLink RX1 39 "TwinRoots$Editor" "mate" "LTwinRoots$Page;", .fieldLink RX1 42 "TwinRoots$Editor" "above" "LTwinRoots$Page;", .methodLink RX8 57 yX1_init, .instanceMethod yX1_init, .fieldLink RX8 60 "TwinRoots" "editor" "LTwinRoots$Editor;", .classLink RX8 64 RX7, .instantiable RX7 4, .initialized RX7, .code yX7_init cX7_init 1 none, .methodLink RX7 3 objectInit, .instanceMethod yX7_init, .fieldLink RX8 67 "TwinRoots" "rootZero" "LTwinRoots$Told;", .fieldLink RX8 71 "TwinRoots" "rootOne" "LTwinRoots$Told;", .fieldLink RX8 74 "TwinRoots" "working" "LTwinRoots$Told;", .fieldLink RX8 77 "TwinRoots" "down" "Z"] ++ (wsX30 ++ (wsX00 ++ (wsX80 ++ (wsX20 ++ (wsX40 ++ (wsX60 ++ (wsX50 ++ (wsX10 ++ (wsX70 ++ ([])))))))))))
set_option maxRecDepth 20000 in
theorem g_X8_init_X3_init : GoodIn v_X8_init v_X3_init := goodIn_r _ [14, 1, 15, 3, 16, 17, 112, 113] (by decide +kernel) (by decide +kernel)
set_option maxRecDepth 20000 in
theorem g_X8_init_X0_init : GoodIn v_X8_init v_X0_init := goodIn_r _ [23, 1, 24, 3, 25, 26, 27, 28, 29, 30, 114, 115, 116, 117, 118, 119, 120] (by decide +kernel) (by decide +kernel)
set_option maxRecDepth 20000 in
theorem g_X8_init_X2_init : GoodIn v_X8_init v_X2_init := goodIn_r _ [37, 1, 38, 3, 39, 40, 41, 42, 43, 44, 45, 27, 46, 47, 48, 49, 50, 51, 132, 133, 134, 135, 136, 137, 138, 139, 140, 141] (by decide +kernel) (by decide +kernel)
set_option maxRecDepth 20000 in
theorem g_X8_init_X6_init : GoodIn v_X8_init v_X6_init := goodIn_r _ [58, 1, 59, 3, 60, 61, 62, 63, 27, 64, 65, 66, 67, 142, 143, 144, 145, 146, 147, 148, 149, 150, 151, 114, 115, 116, 117, 118, 119, 120] (by decide +kernel) (by decide +kernel)
set_option maxRecDepth 20000 in
theorem g_X8_init_X5_init : GoodIn v_X8_init v_X5_init := goodIn_r _ [74, 1, 75, 3, 76, 77, 41, 42, 43, 44, 45, 27, 46, 47, 78, 49, 79, 80, 152, 153, 154, 155, 156, 157, 158, 159, 138, 139, 140, 141] (by decide +kernel) (by decide +kernel)
set_option maxRecDepth 20000 in
theorem g_X8_init_X1_init : GoodIn v_X8_init v_X1_init := goodIn_r _ [87, 1, 88, 3, 89, 90, 91, 27, 92, 93, 94, 41, 42, 43, 44, 45, 46, 47, 95, 49, 96, 97, 98, 160, 161, 162, 163, 164, 165, 166, 167, 168, 138, 139, 140, 141] (by decide +kernel) (by decide +kernel)
set_option maxRecDepth 20000 in
theorem g_X8_init_X7_init : GoodIn v_X8_init v_X7_init := goodIn_r _ [105, 1, 106, 3] (by decide +kernel) (by decide +kernel)
set_option maxHeartbeats 4000000 in
set_option maxRecDepth 100000 in
/-- TwinRoots(words, blocks): all of a fresh object -/
theorem c_X8_init (l : Launch) (dC : Nat → ClassId) (dI : Nat → Nat → Nat) (sz : Nat) (h0 : Nat) (p0 : Int32) (p1 : Int32) : Met l yX8_init v_X8_init ({ frames := 3, cells := 302, slots := 10944, locals := 57 } : Room) (va_Pc [.ref h0, .int p0, .int p1] (fun U => U.heap.size = sz ∧ va_P (dC, dI) vwCl [(h0, .inr (8, [.null, .null, .null, .null, .null, .null, .null, .null, .int 0, .long 0, .int 0]))] U.heap ∧ va_K (dC, dI) vwCl [] U ∧ va_D (fun _ => True) [(h0, .inr (8, [.null, .null, .null, .null, .null, .null, .null, .null, .int 0, .long 0, .int 0]))] ∧ va_AO RX4 U ∧ va_Nw (.methodLinkNest RX8 66 yX7_init "TwinRoots") U)) (va_Qv (fun (u : Nat × Nat × Nat × Nat × Nat × Nat × Nat × Nat × Nat × Nat × Nat × Nat × Nat × Nat × ClassId × ClassId) => match u with | (qd, qf, qs, qp, qe, q0, q1, qk, qc, qi, hm, l1, l2, l3, cC, cI) => True) (fun (u : Nat × Nat × Nat × Nat × Nat × Nat × Nat × Nat × Nat × Nat × Nat × Nat × Nat × Nat × ClassId × ClassId) (t : State) => match u with | (qd, qf, qs, qp, qe, q0, q1, qk, qc, qi, hm, l1, l2, l3, cC, cI) => va_P (dC, dI) vwCl [(h0, .inr (8, [.ref qd, .ref qf, .ref qs, .ref qp, .ref qe, .ref q0, .ref q1, .ref qk, .int 0, .long 0, .int 1])), (qd, .inr (0, [.int (nI (nW p0)), .int (nI (nB p1)), .int 0, .ref qc, .ref qi, .int (-1), .int 0])), (qc, .inl (cC, (nW p0) * (nB p1), .inl (fun _ => 0))), (qi, .inl (cI, nW p0, .inl (fun _ => 0))), (qs, .inr (6, [.ref qd, .ref qf, .ref hm, .ref l1, .ref l2, .ref l3, .int 0, .long 0, .int 0, .long 0])), (q0, .inr (7, [.int 0, .int 0, .int 0, .long 0])), (q1, .inr (7, [.int 0, .int 0, .int 0, .long 0])), (qk, .inr (7, [.int 0, .int 0, .int 0, .long 0]))] t.heap ∧ va_K (dC, dI) vwCl [(cC, .int), (cI, .int)] t ∧ va_D (va_A [(h0, .inr (8, [.null, .null, .null, .null, .null, .null, .null, .null, .int 0, .long 0, .int 0]))] sz) [(h0, .inr (8, [.ref qd, .ref qf, .ref qs, .ref qp, .ref qe, .ref q0, .ref q1, .ref qk, .int 0, .long 0, .int 1])), (qd, .inr (0, [.int (nI (nW p0)), .int (nI (nB p1)), .int 0, .ref qc, .ref qi, .int (-1), .int 0])), (qc, .inl (cC, (nW p0) * (nB p1), .inl (fun _ => 0))), (qi, .inl (cI, nW p0, .inl (fun _ => 0))), (qs, .inr (6, [.ref qd, .ref qf, .ref hm, .ref l1, .ref l2, .ref l3, .int 0, .long 0, .int 0, .long 0])), (q0, .inr (7, [.int 0, .int 0, .int 0, .long 0])), (q1, .inr (7, [.int 0, .int 0, .int 0, .long 0])), (qk, .inr (7, [.int 0, .int 0, .int 0, .long 0]))]) (va_A [(h0, .inr (8, [.null, .null, .null, .null, .null, .null, .null, .null, .int 0, .long 0, .int 0]))] sz)) 302 10944 (va_A [(h0, .inr (8, [.null, .null, .null, .null, .null, .null, .null, .null, .int 0, .long 0, .int 0]))] sz) := by
  refine Met.ofW (cc := cX8_init) (maxL := 6) (ret := none) (by decide) rfl ?_
  intro p e s m args below meth c s₁ B hml hv
  obtain ⟨rfl, hsz, hP, hK, hD0, hAO, hNw⟩ := hv
  have hx := B.exec
  have hb := B.bytes
  have hr := B.returns
  have hts := atoms_spec (ws := v_X8_init) B.pre
  have hown : s.vm.findClass RX8 = some m.cls := findClass_of_methodNamed B.named
  have hlocks := B.notSynchronized
  have hin : meth.name = "<init>" := (name_of_methodNamed B.named B.method).1
  subst hsz
  have hD := hD0.self (sz := s.heap.size)
  generalize hAe : va_A [(h0, .inr (8, [.null, .null, .null, .null, .null, .null, .null, .null, .int 0, .long 0, .int 0]))] s.heap.size = A at hD ⊢
  have hA : ∀ q : Nat, s.heap.size ≤ q → A q := fun q h => by rw [← hAe]; exact Or.inr h
  have hS : va_S A s.heap s.heap [] := va_S.rf
  have hP : va_P (dC, dI) vwCl [(h0, .inr (8, [.null, .null, .null, .null, .null, .null, .null, .null, .int 0, .long 0, .int 0]))] s.heap := hP
  have hl := lv_entry ([.ref h0, .int p0, .int p1]) (n := 6) (Nat.le_of_ble_eq_true rfl)
  rw [lg_entry_eq]
  generalize (lg_sl ([.ref h0, .int p0, .int p1]) ++ List.replicate (6 - (lg_sl ([.ref h0, .int p0, .int p1])).length) Slot.unset).toArray = ls at hl ⊢
  have hl : lv_has ls 6 [(0, .ref h0), (1, .int p0), (2, .int p1)] := hl
  have k_1 := hts (.code objectInit ⟨#[0xb1]⟩ 1 none) (List.mem_of_getElem? (i := 1) rfl)
  have k_2 := hts (.methodLink RX8 1 objectInit) (List.mem_of_getElem? (i := 2) rfl)
  have k_3 := hts (.instanceMethod objectInit) (List.mem_of_getElem? (i := 3) rfl)
  have k_4 := hts (.code Lib.Math.min.name Lib.Math.min.code 2 (some .int)) (List.mem_of_getElem? (i := 4) rfl)
  have k_5 := hts (.methodLink RX8 9 Lib.Math.min.name) (List.mem_of_getElem? (i := 5) rfl)
  have k_6 := hts (.static Lib.Math.min.name) (List.mem_of_getElem? (i := 6) rfl)
  have k_7 := hts (.initialized "java/lang/Math") (List.mem_of_getElem? (i := 7) rfl)
  have k_8 := hts (.code Lib.Math.max.name Lib.Math.max.code 2 (some .int)) (List.mem_of_getElem? (i := 8) rfl)
  have k_9 := hts (.methodLink RX8 15 Lib.Math.max.name) (List.mem_of_getElem? (i := 9) rfl)
  have k_10 := hts (.static Lib.Math.max.name) (List.mem_of_getElem? (i := 10) rfl)
  have k_11 := (fun _ h => List.mem_cons_of_mem _ (List.mem_append_right _ (List.mem_append_left _ h)) : ∀ w ∈ wsX30, w ∈ v_X8_init)
  have k_12 := hts (.classLink RX8 18 RX3) (List.mem_of_getElem? (i := 11) rfl)
  have k_13 := hts (.instantiable RX3 2) (List.mem_of_getElem? (i := 12) rfl)
  have k_14 := hts (.initialized RX3) (List.mem_of_getElem? (i := 13) rfl)
  have k_15 := hts (.methodLink RX8 20 yX3_init) (List.mem_of_getElem? (i := 18) rfl)
  have k_16 := hts (.instanceMethod yX3_init) (List.mem_of_getElem? (i := 19) rfl)
  have k_17 := (fun _ h => List.mem_cons_of_mem _ (List.mem_append_right _ (List.mem_append_right _ (List.mem_append_left _ h))) : ∀ w ∈ wsX00, w ∈ v_X8_init)
  have k_18 := hts (.classLink RX8 23 RX0) (List.mem_of_getElem? (i := 20) rfl)
  have k_19 := hts (.instantiable RX0 7) (List.mem_of_getElem? (i := 21) rfl)
  have k_20 := hts (.initialized RX0) (List.mem_of_getElem? (i := 22) rfl)
  have k_21 := hts (.methodLink RX8 25 yX0_init) (List.mem_of_getElem? (i := 31) rfl)
  have k_22 := hts (.instanceMethod yX0_init) (List.mem_of_getElem? (i := 32) rfl)
  have k_23 := (fun _ h => List.mem_cons_of_mem _ (List.mem_append_right _ (List.mem_append_right _ (List.mem_append_right _ (List.mem_append_left _ h)))) : ∀ w ∈ wsX80, w ∈ v_X8_init)
  have k_24 := hts (.fieldLink RX8 28 "TwinRoots" "disk" "LTwinRoots$Disk;") (List.mem_of_getElem? (i := 33) rfl)
  have k_25 := (fun _ h => List.mem_cons_of_mem _ (List.mem_append_right _ (List.mem_append_right _ (List.mem_append_right _ (List.mem_append_right _ (List.mem_append_left _ h))))) : ∀ w ∈ wsX20, w ∈ v_X8_init)
  have k_26 := hts (.classLink RX8 32 RX2) (List.mem_of_getElem? (i := 34) rfl)
  have k_27 := hts (.instantiable RX2 6) (List.mem_of_getElem? (i := 35) rfl)
  have k_28 := hts (.initialized RX2) (List.mem_of_getElem? (i := 36) rfl)
  have k_29 := hts (.methodLink RX8 34 yX2_init) (List.mem_of_getElem? (i := 52) rfl)
  have k_30 := hts (.instanceMethod yX2_init) (List.mem_of_getElem? (i := 53) rfl)
  have k_31 := hts (.fieldLink RX8 35 "TwinRoots" "forest" "LTwinRoots$Forest;") (List.mem_of_getElem? (i := 54) rfl)
  have k_32 := (fun _ h => List.mem_cons_of_mem _ (List.mem_append_right _ (List.mem_append_right _ (List.mem_append_right _ (List.mem_append_right _ (List.mem_append_right _ (List.mem_append_right _ (List.mem_append_left _ h))))))) : ∀ w ∈ wsX60, w ∈ v_X8_init)
  have k_33 := hts (.classLink RX8 39 RX6) (List.mem_of_getElem? (i := 55) rfl)
  have k_34 := hts (.instantiable RX6 10) (List.mem_of_getElem? (i := 56) rfl)
  have k_35 := hts (.initialized RX6) (List.mem_of_getElem? (i := 57) rfl)
  have k_36 := hts (.methodLink RX8 41 yX6_init) (List.mem_of_getElem? (i := 68) rfl)
  have k_37 := hts (.instanceMethod yX6_init) (List.mem_of_getElem? (i := 69) rfl)
  have k_38 := hts (.fieldLink RX8 44 "TwinRoots" "survey" "LTwinRoots$Survey;") (List.mem_of_getElem? (i := 70) rfl)
  have k_39 := (fun _ h => List.mem_cons_of_mem _ (List.mem_append_right _ (List.mem_append_right _ (List.mem_append_right _ (List.mem_append_right _ (List.mem_append_right _ (List.mem_append_right _ (List.mem_append_right _ (List.mem_append_left _ h)))))))) : ∀ w ∈ wsX50, w ∈ v_X8_init)
  have k_40 := hts (.classLink RX8 48 RX5) (List.mem_of_getElem? (i := 71) rfl)
  have k_41 := hts (.instantiable RX5 8) (List.mem_of_getElem? (i := 72) rfl)
  have k_42 := hts (.initialized RX5) (List.mem_of_getElem? (i := 73) rfl)
  have k_43 := hts (.methodLink RX8 50 yX5_init) (List.mem_of_getElem? (i := 81) rfl)
  have k_44 := hts (.instanceMethod yX5_init) (List.mem_of_getElem? (i := 82) rfl)
  have k_45 := hts (.fieldLink RX8 51 "TwinRoots" "plan" "LTwinRoots$Plan;") (List.mem_of_getElem? (i := 83) rfl)
  have k_46 := (fun _ h => List.mem_cons_of_mem _ (List.mem_append_right _ (List.mem_append_right _ (List.mem_append_right _ (List.mem_append_right _ (List.mem_append_right _ (List.mem_append_right _ (List.mem_append_right _ (List.mem_append_right _ (List.mem_append_left _ h))))))))) : ∀ w ∈ wsX10, w ∈ v_X8_init)
  have k_47 := hts (.classLink RX8 55 RX1) (List.mem_of_getElem? (i := 84) rfl)
  have k_48 := hts (.instantiable RX1 9) (List.mem_of_getElem? (i := 85) rfl)
  have k_49 := hts (.initialized RX1) (List.mem_of_getElem? (i := 86) rfl)
  have k_50 := hts (.methodLink RX8 57 yX1_init) (List.mem_of_getElem? (i := 99) rfl)
  have k_51 := hts (.instanceMethod yX1_init) (List.mem_of_getElem? (i := 100) rfl)
  have k_52 := hts (.fieldLink RX8 60 "TwinRoots" "editor" "LTwinRoots$Editor;") (List.mem_of_getElem? (i := 101) rfl)
  have k_53 := (fun _ h => List.mem_cons_of_mem _ (List.mem_append_right _ (List.mem_append_right _ (List.mem_append_right _ (List.mem_append_right _ (List.mem_append_right _ (List.mem_append_right _ (List.mem_append_right _ (List.mem_append_right _ (List.mem_append_right _ (List.mem_append_left _ h)))))))))) : ∀ w ∈ wsX70, w ∈ v_X8_init)
  have k_54 := hts (.classLink RX8 64 RX7) (List.mem_of_getElem? (i := 102) rfl)
  have k_55 := hts (.instantiable RX7 4) (List.mem_of_getElem? (i := 103) rfl)
  have k_56 := hts (.initialized RX7) (List.mem_of_getElem? (i := 104) rfl)
  have k_57 := hts (.instanceMethod yX7_init) (List.mem_of_getElem? (i := 107) rfl)
  have k_58 := hts (.fieldLink RX8 67 "TwinRoots" "rootZero" "LTwinRoots$Told;") (List.mem_of_getElem? (i := 108) rfl)
  have k_59 := hts (.fieldLink RX8 71 "TwinRoots" "rootOne" "LTwinRoots$Told;") (List.mem_of_getElem? (i := 109) rfl)
  have k_60 := hts (.fieldLink RX8 74 "TwinRoots" "working" "LTwinRoots$Told;") (List.mem_of_getElem? (i := 110) rfl)
  have k_61 := hts (.fieldLink RX8 77 "TwinRoots" "down" "Z") (List.mem_of_getElem? (i := 111) rfl)
  have zw0 := (clW_nI p0).2.1
  have zw := (clW_nI p0).2.2
  have zb0 := (clB_nI p1).2.1
  have zb := (clB_nI p1).2.2
  have zwb := nWB p0 p1
  refine lv_aload_n hx hb dX8_init_0 rfl (lv_at hl 0 rfl) ?_
  refine W.objInit hx hb hown k_2 k_3 k_1 rfl (by rw [hml]; exact hl.1) rfl dX8_init_1 (Nat.le_of_ble_eq_true rfl) (Nat.le_of_ble_eq_true rfl) ?_
  refine W.eq (g2 := F0 m 4 ls []) rfl ?_
  refine lv_bipush (v := 12) hx hb dX8_init_4 (by decide) ?_
  refine lv_bipush (v := 40) hx hb dX8_init_6 (by decide) ?_
  refine lv_iload_n hx hb dX8_init_8 rfl (lv_at hl 1 rfl) ?_
  refine va_mmin hx hb (by rw [hml]; exact hl.1.symm) hown k_5 k_6 k_7 k_4 (Nat.le_of_ble_eq_true rfl) (Nat.le_of_ble_eq_true rfl) (show 0 ≤ 302 by omega) (show 0 ≤ 10944 by omega) dX8_init_9 ?_
  refine va_mmax hx hb (by rw [hml]; exact hl.1.symm) hown k_9 k_10 k_7 k_8 (Nat.le_of_ble_eq_true rfl) (Nat.le_of_ble_eq_true rfl) (show 0 ≤ 302 by omega) (show 0 ≤ 10944 by omega) dX8_init_12 ?_
  refine lv_topi (fun z_1 ez_1 => ?_)
  obtain rfl : z_1 = nI (nW p0) := ez_1.trans ((clW_nI p0).1)
  refine lv_istore_n (lv' := [(3, .int (nI (nW p0))), (0, .ref h0), (1, .int p0), (2, .int p1)]) hx hb dX8_init_15 rfl hl (by decide) rfl (fun ls hl => ?_)
  refine lv_iconst (v := 4) hx hb dX8_init_16 (by decide) ?_
  refine lv_bipush (v := 64) hx hb dX8_init_17 (by decide) ?_
  refine lv_iload_n hx hb dX8_init_19 rfl (lv_at hl 3 rfl) ?_
  refine va_mmin hx hb (by rw [hml]; exact hl.1.symm) hown k_5 k_6 k_7 k_4 (Nat.le_of_ble_eq_true rfl) (Nat.le_of_ble_eq_true rfl) (show 0 ≤ 302 by omega) (show 0 ≤ 10944 by omega) dX8_init_20 ?_
  refine va_mmax hx hb (by rw [hml]; exact hl.1.symm) hown k_9 k_10 k_7 k_8 (Nat.le_of_ble_eq_true rfl) (Nat.le_of_ble_eq_true rfl) (show 0 ≤ 302 by omega) (show 0 ≤ 10944 by omega) dX8_init_23 ?_
  refine lv_topi (fun z_2 ez_2 => ?_)
  obtain rfl : z_2 = nI (nB p1) := ez_2.trans ((clB_nI p1).1)
  refine lv_istore (lv' := [(4, .int (nI (nB p1))), (3, .int (nI (nW p0))), (0, .ref h0), (1, .int p0), (2, .int p1)]) hx hb dX8_init_26 hl (by decide) rfl (fun ls hl => ?_)
  refine va_new (ci := 3) (fs := [.int 0, .int 0]) (C := RX3) (T := TX3) (N := 2) hx hb hts k_11 tyX3 tyX3_ok hown k_12 k_13 k_14 hK hP hD hS hA rfl (fun j hj => by rcases (show j = 0 ∨ j = 1 by omega) with rfl | rfl <;> rfl) (show 0 + 1 ≤ 302 by omega) (show 0 + 2 ≤ 10944 by omega) dX8_init_28 (fun q_3 H hP hD hS => ?_)
  have hP : va_P (dC, dI) vwCl [(h0, .inr (8, [.null, .null, .null, .null, .null, .null, .null, .null, .int 0, .long 0, .int 0])), (q_3, .inr (3, [.int 0, .int 0]))] H := hP
  have hD : va_D A [(h0, .inr (8, [.null, .null, .null, .null, .null, .null, .null, .null, .int 0, .long 0, .int 0])), (q_3, .inr (3, [.int 0, .int 0]))] := hD
  refine W.widen (k := 1) (n := 2) (by omega) (by omega) ?_
  refine lv_dup hx hb dX8_init_31 rfl ?_
  refine lv_iload_n hx hb dX8_init_32 rfl (lv_at hl 1 rfl) ?_
  have hPc := hP.sub (ws' := [(q_3, .inr (3, [.int 0, .int 0]))]) [1] rfl
  have hDc := hD.sub (ws' := [(q_3, .inr (3, [.int 0, .int 0]))]) [1] (by decide) rfl
  have hKc := hK.sub (tys' := []) [] rfl
  have hFc := va_free (wc := [(q_3, .inr (3, [.int 0, .int 0]))]) hD hS hA [1] rfl
  refine va_callv (va_runI (As := [.int (nI (nW p0))]) (rest := [.ref q_3]) ⟨hx, hb, hml, hown, hts⟩ (c_X3_init l dC dI H.size q_3 (nI (nW p0))) (cwI 1 hts g_X8_init_X3_init rfl rfl rfl k_14 k_15 k_16 rfl (by decide +kernel) ⟨Nat.le_of_ble_eq_true rfl, Nat.le_of_ble_eq_true rfl⟩) ⟨fun a U g mk q => by obtain ⟨q0, q1, qP, qK, qD⟩ := q; exact ⟨q0, q1, qP, va_K.moved (u := U) (U := U.calling g mk a) (Vm.Alike.refl U.vm) qK, qD⟩, fun U hU hW => ⟨rfl, by rw [hU], by rw [hU]; exact hPc, va_K.moved hW.alike hKc, hDc.weaken (fun _ _ _ _ => trivial)⟩⟩ rfl rfl hl.1 rfl (lv_room (Nat.le_of_ble_eq_true rfl)) dX8_init_33 ⟨(show 1 + 0 ≤ 302 by omega), (show 2 + 0 ≤ 10944 by omega)⟩) hS (fun q _ h => hFc q h) hFc (fun u t H1 locs ht hvm hw hB hz1 hk1 hS => ?_)
  obtain ⟨hP1, hK1, hD1⟩ := hB
  rw [ht] at hP1
  have hK1 := va_K.moved hvm.symm hK1
  try dsimp only at hw
  obtain ⟨hP, hD⟩ := va_join (wr := [(h0, .inr (8, [.null, .null, .null, .null, .null, .null, .null, .null, .int 0, .long 0, .int 0]))]) (w1 := []) hP hD [1] [0] rfl rfl (by decide) (by decide) hk1 hFc hP1 hD1
  have hK := (hK.sub (tys' := []) [] rfl).app hK1
  generalize H1 = H at hP hS ⊢
  have hP : va_P (dC, dI) vwCl [(h0, .inr (8, [.null, .null, .null, .null, .null, .null, .null, .null, .int 0, .long 0, .int 0]))] H := hP
  have hD : va_D A [(h0, .inr (8, [.null, .null, .null, .null, .null, .null, .null, .null, .int 0, .long 0, .int 0]))] := hD
  have hK : va_K (dC, dI) vwCl [] s := hK
  refine lv_astore (lv' := [(5, .ref q_3), (4, .int (nI (nB p1))), (3, .int (nI (nW p0))), (0, .ref h0), (1, .int p0), (2, .int p1)]) hx hb dX8_init_36 hl (by decide) rfl (fun ls hl => ?_)
  refine lv_aload_n hx hb dX8_init_38 rfl (lv_at hl 3 rfl) ?_
  refine va_new (ci := 0) (fs := [.int 0, .int 0, .int 0, .null, .null, .int 0, .int 0]) (C := RX0) (T := TX0) (N := 7) hx hb hts k_17 tyX0 tyX0_ok hown k_18 k_19 k_20 hK hP hD hS hA rfl (fun j hj => by rcases (show j = 0 ∨ j = 1 ∨ j = 2 ∨ j = 3 ∨ j = 4 ∨ j = 5 ∨ j = 6 by omega) with rfl | rfl | rfl | rfl | rfl | rfl | rfl <;> rfl) (show 1 + 1 ≤ 302 by omega) (show 2 + 7 ≤ 10944 by omega) dX8_init_39 (fun q_5 H hP hD hS => ?_)
  have hP : va_P (dC, dI) vwCl [(h0, .inr (8, [.null, .null, .null, .null, .null, .null, .null, .null, .int 0, .long 0, .int 0])), (q_5, .inr (0, [.int 0, .int 0, .int 0, .null, .null, .int 0, .int 0]))] H := hP
  have hD : va_D A [(h0, .inr (8, [.null, .null, .null, .null, .null, .null, .null, .null, .int 0, .long 0, .int 0])), (q_5, .inr (0, [.int 0, .int 0, .int 0, .null, .null, .int 0, .int 0]))] := hD
  refine W.widen (k := 2) (n := 9) (by omega) (by omega) ?_
  refine lv_dup hx hb dX8_init_42 rfl ?_
  refine lv_iload_n hx hb dX8_init_43 rfl (lv_at hl 2 rfl) ?_
  refine lv_iload hx hb dX8_init_44 (lv_at hl 1 rfl) ?_
  have hPc := hP.sub (ws' := [(q_5, .inr (0, [.int 0, .int 0, .int 0, .null, .null, .int 0, .int 0]))]) [1] rfl
  have hDc := hD.sub (ws' := [(q_5, .inr (0, [.int 0, .int 0, .int 0, .null, .null, .int 0, .int 0]))]) [1] (by decide) rfl
  have hKc := hK.sub (tys' := []) [] rfl
  have hFc := va_free (wc := [(q_5, .inr (0, [.int 0, .int 0, .int 0, .null, .null, .int 0, .int 0]))]) hD hS hA [1] rfl
  refine va_callv (va_runI (As := [.int (nI (nW p0)), .int (nI (nB p1))]) (rest := [.ref q_5, .ref h0]) ⟨hx, hb, hml, hown, hts⟩ (c_X0_init l dC dI H.size q_5 (nW p0) (nB p1) (by first | assumption | omega | decide) (by first | assumption | omega | decide) (by first | assumption | omega | decide) (by first | assumption | omega | decide) (by first | assumption | omega | decide)) (cwI 2 hts g_X8_init_X0_init rfl rfl rfl k_20 k_21 k_22 rfl (by decide +kernel) ⟨Nat.le_of_ble_eq_true rfl, Nat.le_of_ble_eq_true rfl⟩) ⟨fun a U g mk q => by obtain ⟨q0, q1, qP, qK, qD⟩ := q; exact ⟨q0, q1, qP, va_K.moved (u := U) (U := U.calling g mk a) (Vm.Alike.refl U.vm) qK, qD⟩, fun U hU hW => ⟨rfl, by rw [hU], by rw [hU]; exact hPc, va_K.moved hW.alike hKc, hDc.weaken (fun _ _ _ _ => trivial)⟩⟩ rfl rfl hl.1 rfl (lv_room (Nat.le_of_ble_eq_true rfl)) dX8_init_46 ⟨(show 2 + 2 ≤ 302 by omega), (show 9 + 2600 ≤ 10944 by omega)⟩) hS (fun q _ h => hFc q h) hFc (fun u t H1 locs ht hvm hw hB hz1 hk1 hS => ?_)
  obtain ⟨qc_7, qi_8, cC_9, cI_10⟩ := u
  obtain ⟨hP1, hK1, hD1⟩ := hB
  rw [ht] at hP1
  have hK1 := va_K.moved hvm.symm hK1
  try dsimp only at hw
  obtain ⟨hP, hD⟩ := va_join (wr := [(h0, .inr (8, [.null, .null, .null, .null, .null, .null, .null, .null, .int 0, .long 0, .int 0]))]) (w1 := [(q_5, .inr (0, [.int (nI (nW p0)), .int (nI (nB p1)), .int 0, .ref qc_7, .ref qi_8, .int (-1), .int 0])), (qc_7, .inl (cC_9, (nW p0) * (nB p1), .inl (fun _ => 0))), (qi_8, .inl (cI_10, nW p0, .inl (fun _ => 0)))]) hP hD [1] [0] rfl rfl (by decide) (by decide) hk1 hFc hP1 hD1
  have hK := (hK.sub (tys' := []) [] rfl).app hK1
  generalize H1 = H at hP hS ⊢
  have hP : va_P (dC, dI) vwCl [(h0, .inr (8, [.null, .null, .null, .null, .null, .null, .null, .null, .int 0, .long 0, .int 0])), (q_5, .inr (0, [.int (nI (nW p0)), .int (nI (nB p1)), .int 0, .ref qc_7, .ref qi_8, .int (-1), .int 0])), (qc_7, .inl (cC_9, (nW p0) * (nB p1), .inl (fun _ => 0))), (qi_8, .inl (cI_10, nW p0, .inl (fun _ => 0)))] H := hP
  have hD : va_D A [(h0, .inr (8, [.null, .null, .null, .null, .null, .null, .null, .null, .int 0, .long 0, .int 0])), (q_5, .inr (0, [.int (nI (nW p0)), .int (nI (nB p1)), .int 0, .ref qc_7, .ref qi_8, .int (-1), .int 0])), (qc_7, .inl (cC_9, (nW p0) * (nB p1), .inl (fun _ => 0))), (qi_8, .inl (cI_10, nW p0, .inl (fun _ => 0)))] := hD
  have hK : va_K (dC, dI) vwCl [(cC_9, .int), (cI_10, .int)] s := hK
  refine W.widen (k := 4) (n := 2609) (by omega) (by omega) ?_
  refine va_putF (D := (dC, dI)) (ci := 8) (v := .ref q_5) (ty := (.object "TwinRoots$Disk")) (C := RX8) (T := TX8) (N := 11) hx hb hts k_23 tyX8 tyX8_ok nmX8 hown hK hP hD hS 0 rfl rfl 0 (by decide) k_24 (fun _ h9 => h9) rfl hin rfl (by decide +kernel) rfl rfl (Nat.le_of_ble_eq_true rfl) dX8_init_49 (fun H locs hP hD hS => ?_)
  have hP : va_P (dC, dI) vwCl [(h0, .inr (8, [.ref q_5, .null, .null, .null, .null, .null, .null, .null, .int 0, .long 0, .int 0])), (q_5, .inr (0, [.int (nI (nW p0)), .int (nI (nB p1)), .int 0, .ref qc_7, .ref qi_8, .int (-1), .int 0])), (qc_7, .inl (cC_9, (nW p0) * (nB p1), .inl (fun _ => 0))), (qi_8, .inl (cI_10, nW p0, .inl (fun _ => 0)))] H := hP
  have hD : va_D A [(h0, .inr (8, [.ref q_5, .null, .null, .null, .null, .null, .null, .null, .int 0, .long 0, .int 0])), (q_5, .inr (0, [.int (nI (nW p0)), .int (nI (nB p1)), .int 0, .ref qc_7, .ref qi_8, .int (-1), .int 0])), (qc_7, .inl (cC_9, (nW p0) * (nB p1), .inl (fun _ => 0))), (qi_8, .inl (cI_10, nW p0, .inl (fun _ => 0)))] := hD
  refine lv_aload_n hx hb dX8_init_52 rfl (lv_at hl 3 rfl) ?_
  refine va_new (ci := 2) (fs := [.int 0, .null, .null, .null, .int 0, .int 0]) (C := RX2) (T := TX2) (N := 6) hx hb hts k_25 tyX2 tyX2_ok hown k_26 k_27 k_28 hK hP hD hS hA rfl (fun j hj => by rcases (show j = 0 ∨ j = 1 ∨ j = 2 ∨ j = 3 ∨ j = 4 ∨ j = 5 by omega) with rfl | rfl | rfl | rfl | rfl | rfl <;> rfl) (show 4 + 1 ≤ 302 by omega) (show 2609 + 6 ≤ 10944 by omega) dX8_init_53 (fun q_11 H hP hD hS => ?_)
  have hP : va_P (dC, dI) vwCl [(h0, .inr (8, [.ref q_5, .null, .null, .null, .null, .null, .null, .null, .int 0, .long 0, .int 0])), (q_5, .inr (0, [.int (nI (nW p0)), .int (nI (nB p1)), .int 0, .ref qc_7, .ref qi_8, .int (-1), .int 0])), (qc_7, .inl (cC_9, (nW p0) * (nB p1), .inl (fun _ => 0))), (qi_8, .inl (cI_10, nW p0, .inl (fun _ => 0))), (q_11, .inr (2, [.int 0, .null, .null, .null, .int 0, .int 0]))] H := hP
  have hD : va_D A [(h0, .inr (8, [.ref q_5, .null, .null, .null, .null, .null, .null, .null, .int 0, .long 0, .int 0])), (q_5, .inr (0, [.int (nI (nW p0)), .int (nI (nB p1)), .int 0, .ref qc_7, .ref qi_8, .int (-1), .int 0])), (qc_7, .inl (cC_9, (nW p0) * (nB p1), .inl (fun _ => 0))), (qi_8, .inl (cI_10, nW p0, .inl (fun _ => 0))), (q_11, .inr (2, [.int 0, .null, .null, .null, .int 0, .int 0]))] := hD
  refine W.widen (k := 5) (n := 2615) (by omega) (by omega) ?_
  refine lv_dup hx hb dX8_init_56 rfl ?_
  refine lv_iload_n hx hb dX8_init_57 rfl (lv_at hl 2 rfl) ?_
  refine lv_iload hx hb dX8_init_58 (lv_at hl 1 rfl) ?_
  have hPc := hP.sub (ws' := [(q_11, .inr (2, [.int 0, .null, .null, .null, .int 0, .int 0]))]) [4] rfl
  have hDc := hD.sub (ws' := [(q_11, .inr (2, [.int 0, .null, .null, .null, .int 0, .int 0]))]) [4] (by decide) rfl
  have hKc := hK.sub (tys' := []) [] rfl
  have hFc := va_free (wc := [(q_11, .inr (2, [.int 0, .null, .null, .null, .int 0, .int 0]))]) hD hS hA [4] rfl
  refine va_callv (va_runI (As := [.int (nI (nW p0)), .int (nI (nB p1))]) (rest := [.ref q_11, .ref h0]) ⟨hx, hb, hml, hown, hts⟩ (c_X2_init l dC dI H.size q_11 (nW p0) (nB p1) (by first | assumption | omega | decide) (by first | assumption | omega | decide) (by first | assumption | omega | decide) (by first | assumption | omega | decide) (by first | assumption | omega | decide)) (cwI 2 hts g_X8_init_X2_init rfl rfl rfl k_28 k_29 k_30 rfl (by decide +kernel) ⟨Nat.le_of_ble_eq_true rfl, Nat.le_of_ble_eq_true rfl⟩) ⟨fun a U g mk q => by obtain ⟨q0, q1, qP, qK, qD, qX0⟩ := q; exact ⟨q0, q1, qP, va_K.moved (u := U) (U := U.calling g mk a) (Vm.Alike.refl U.vm) qK, qD, va_AO.moved (u := U) (U := U.calling g mk a) (Vm.Alike.refl U.vm) qX0⟩, fun U hU hW => ⟨rfl, by rw [hU], by rw [hU]; exact hPc, va_K.moved hW.alike hKc, hDc.weaken (fun _ _ _ _ => trivial), va_AO.moved hW.alike hAO⟩⟩ rfl rfl hl.1 rfl (lv_room (Nat.le_of_ble_eq_true rfl)) dX8_init_60 ⟨(show 5 + 197 ≤ 302 by omega), (show 2615 + 5588 ≤ 10944 by omega)⟩) hS (fun q _ h => hFc q h) hFc (fun u t H1 locs ht hvm hw hB hz1 hk1 hS => ?_)
  obtain ⟨hP1, hK1, hD1⟩ := hB
  rw [ht] at hP1
  have hK1 := va_K.moved hvm.symm hK1
  try dsimp only at hw
  obtain ⟨hP, hD⟩ := va_join (wr := [(h0, .inr (8, [.ref q_5, .null, .null, .null, .null, .null, .null, .null, .int 0, .long 0, .int 0])), (q_5, .inr (0, [.int (nI (nW p0)), .int (nI (nB p1)), .int 0, .ref qc_7, .ref qi_8, .int (-1), .int 0])), (qc_7, .inl (cC_9, (nW p0) * (nB p1), .inl (fun _ => 0))), (qi_8, .inl (cI_10, nW p0, .inl (fun _ => 0)))]) (w1 := []) hP hD [4] [0, 1, 2, 3] rfl rfl (by decide) (by decide) hk1 hFc hP1 hD1
  have hK := (hK.sub (tys' := [(cC_9, .int), (cI_10, .int)]) [0, 1] rfl).app hK1
  generalize H1 = H at hP hS ⊢
  have hP : va_P (dC, dI) vwCl [(h0, .inr (8, [.ref q_5, .null, .null, .null, .null, .null, .null, .null, .int 0, .long 0, .int 0])), (q_5, .inr (0, [.int (nI (nW p0)), .int (nI (nB p1)), .int 0, .ref qc_7, .ref qi_8, .int (-1), .int 0])), (qc_7, .inl (cC_9, (nW p0) * (nB p1), .inl (fun _ => 0))), (qi_8, .inl (cI_10, nW p0, .inl (fun _ => 0)))] H := hP
  have hD : va_D A [(h0, .inr (8, [.ref q_5, .null, .null, .null, .null, .null, .null, .null, .int 0, .long 0, .int 0])), (q_5, .inr (0, [.int (nI (nW p0)), .int (nI (nB p1)), .int 0, .ref qc_7, .ref qi_8, .int (-1), .int 0])), (qc_7, .inl (cC_9, (nW p0) * (nB p1), .inl (fun _ => 0))), (qi_8, .inl (cI_10, nW p0, .inl (fun _ => 0)))] := hD
  have hK : va_K (dC, dI) vwCl [(cC_9, .int), (cI_10, .int)] s := hK
  refine W.widen (k := 202) (n := 8203) (by omega) (by omega) ?_
  refine va_putF (D := (dC, dI)) (ci := 8) (v := .ref q_11) (ty := (.object "TwinRoots$Forest")) (C := RX8) (T := TX8) (N := 11) hx hb hts k_23 tyX8 tyX8_ok nmX8 hown hK hP hD hS 0 rfl rfl 1 (by decide) k_31 (fun _ h9 => h9) rfl hin rfl (by decide +kernel) rfl rfl (Nat.le_of_ble_eq_true rfl) dX8_init_63 (fun H locs hP hD hS => ?_)
  have hP : va_P (dC, dI) vwCl [(h0, .inr (8, [.ref q_5, .ref q_11, .null, .null, .null, .null, .null, .null, .int 0, .long 0, .int 0])), (q_5, .inr (0, [.int (nI (nW p0)), .int (nI (nB p1)), .int 0, .ref qc_7, .ref qi_8, .int (-1), .int 0])), (qc_7, .inl (cC_9, (nW p0) * (nB p1), .inl (fun _ => 0))), (qi_8, .inl (cI_10, nW p0, .inl (fun _ => 0)))] H := hP
  have hD : va_D A [(h0, .inr (8, [.ref q_5, .ref q_11, .null, .null, .null, .null, .null, .null, .int 0, .long 0, .int 0])), (q_5, .inr (0, [.int (nI (nW p0)), .int (nI (nB p1)), .int 0, .ref qc_7, .ref qi_8, .int (-1), .int 0])), (qc_7, .inl (cC_9, (nW p0) * (nB p1), .inl (fun _ => 0))), (qi_8, .inl (cI_10, nW p0, .inl (fun _ => 0)))] := hD
  refine lv_aload_n hx hb dX8_init_66 rfl (lv_at hl 3 rfl) ?_
  refine va_new (ci := 6) (fs := [.null, .null, .null, .null, .null, .null, .int 0, .long 0, .int 0, .long 0]) (C := RX6) (T := TX6) (N := 10) hx hb hts k_32 tyX6 tyX6_ok hown k_33 k_34 k_35 hK hP hD hS hA rfl (fun j hj => by rcases (show j = 0 ∨ j = 1 ∨ j = 2 ∨ j = 3 ∨ j = 4 ∨ j = 5 ∨ j = 6 ∨ j = 7 ∨ j = 8 ∨ j = 9 by omega) with rfl | rfl | rfl | rfl | rfl | rfl | rfl | rfl | rfl | rfl <;> rfl) (show 202 + 1 ≤ 302 by omega) (show 8203 + 10 ≤ 10944 by omega) dX8_init_67 (fun q_13 H hP hD hS => ?_)
  have hP : va_P (dC, dI) vwCl [(h0, .inr (8, [.ref q_5, .ref q_11, .null, .null, .null, .null, .null, .null, .int 0, .long 0, .int 0])), (q_5, .inr (0, [.int (nI (nW p0)), .int (nI (nB p1)), .int 0, .ref qc_7, .ref qi_8, .int (-1), .int 0])), (qc_7, .inl (cC_9, (nW p0) * (nB p1), .inl (fun _ => 0))), (qi_8, .inl (cI_10, nW p0, .inl (fun _ => 0))), (q_13, .inr (6, [.null, .null, .null, .null, .null, .null, .int 0, .long 0, .int 0, .long 0]))] H := hP
  have hD : va_D A [(h0, .inr (8, [.ref q_5, .ref q_11, .null, .null, .null, .null, .null, .null, .int 0, .long 0, .int 0])), (q_5, .inr (0, [.int (nI (nW p0)), .int (nI (nB p1)), .int 0, .ref qc_7, .ref qi_8, .int (-1), .int 0])), (qc_7, .inl (cC_9, (nW p0) * (nB p1), .inl (fun _ => 0))), (qi_8, .inl (cI_10, nW p0, .inl (fun _ => 0))), (q_13, .inr (6, [.null, .null, .null, .null, .null, .null, .int 0, .long 0, .int 0, .long 0]))] := hD
  refine W.widen (k := 203) (n := 8213) (by omega) (by omega) ?_
  refine lv_dup hx hb dX8_init_70 rfl ?_
  refine lv_aload_n hx hb dX8_init_71 rfl (lv_at hl 3 rfl) ?_
  refine va_get (D := (dC, dI)) (ci := 8) (v := .ref q_5) (C := RX8) (T := TX8) (N := 11) hx hb hts k_23 hown hK hP 0 rfl rfl 0 (by decide) k_24 (fun _ h9 => h9) rfl dX8_init_72 ?_
  refine lv_aload_n hx hb dX8_init_75 rfl (lv_at hl 3 rfl) ?_
  refine va_get (D := (dC, dI)) (ci := 8) (v := .ref q_11) (C := RX8) (T := TX8) (N := 11) hx hb hts k_23 hown hK hP 0 rfl rfl 1 (by decide) k_31 (fun _ h9 => h9) rfl dX8_init_76 ?_
  refine lv_aload hx hb dX8_init_79 (lv_at hl 0 rfl) ?_
  have hPc := hP.sub (ws' := [(q_13, .inr (6, [.null, .null, .null, .null, .null, .null, .int 0, .long 0, .int 0, .long 0])), (q_5, .inr (0, [.int (nI (nW p0)), .int (nI (nB p1)), .int 0, .ref qc_7, .ref qi_8, .int (-1), .int 0]))]) [4, 1] rfl
  have hDc := hD.sub (ws' := [(q_13, .inr (6, [.null, .null, .null, .null, .null, .null, .int 0, .long 0, .int 0, .long 0])), (q_5, .inr (0, [.int (nI (nW p0)), .int (nI (nB p1)), .int 0, .ref qc_7, .ref qi_8, .int (-1), .int 0]))]) [4, 1] (by decide) rfl
  have hKc := hK.sub (tys' := []) [] rfl
  have hFc := va_free (wc := [(q_13, .inr (6, [.null, .null, .null, .null, .null, .null, .int 0, .long 0, .int 0, .long 0])), (q_5, .inr (0, [.int (nI (nW p0)), .int (nI (nB p1)), .int 0, .ref qc_7, .ref qi_8, .int (-1), .int 0]))]) hD hS hA [4, 1] rfl
  refine va_callv (va_runI (As := [.ref q_5, .ref q_11, .ref q_3]) (rest := [.ref q_13, .ref h0]) ⟨hx, hb, hml, hown, hts⟩ (c_X6_init l dC dI H.size q_13 q_5 q_11 q_3 (nW p0) (nB p1) qc_7 qi_8 0 (-1) 0 (by first | assumption | omega | decide) (by first | assumption | omega | decide) (by first | assumption | omega | decide) (by first | assumption | omega | decide) (by first | assumption | omega | decide)) (cwI 3 hts g_X8_init_X6_init rfl rfl rfl k_35 k_36 k_37 rfl (by decide +kernel) ⟨Nat.le_of_ble_eq_true rfl, Nat.le_of_ble_eq_true rfl⟩) ⟨fun a U g mk q => by obtain ⟨q0, q1, qP, qK, qD⟩ := q; exact ⟨q0, q1, qP, va_K.moved (u := U) (U := U.calling g mk a) (Vm.Alike.refl U.vm) qK, qD⟩, fun U hU hW => ⟨rfl, by rw [hU], by rw [hU]; exact hPc, va_K.moved hW.alike hKc, hDc.weaken (fun _ _ _ _ => trivial)⟩⟩ rfl rfl hl.1 rfl (lv_room (Nat.le_of_ble_eq_true rfl)) dX8_init_81 ⟨(show 203 + 3 ≤ 302 by omega), (show 8213 + 192 ≤ 10944 by omega)⟩) hS (fun q _ h => hFc q h) hFc (fun u t H1 locs ht hvm hw hB hz1 hk1 hS => ?_)
  obtain ⟨l1_15, l2_16, l3_17⟩ := u
  obtain ⟨hP1, hK1, hD1⟩ := hB
  rw [ht] at hP1
  have hK1 := va_K.moved hvm.symm hK1
  try dsimp only at hw
  obtain ⟨hP, hD⟩ := va_join (wr := [(h0, .inr (8, [.ref q_5, .ref q_11, .null, .null, .null, .null, .null, .null, .int 0, .long 0, .int 0])), (qc_7, .inl (cC_9, (nW p0) * (nB p1), .inl (fun _ => 0))), (qi_8, .inl (cI_10, nW p0, .inl (fun _ => 0)))]) (w1 := [(q_13, .inr (6, [.ref q_5, .ref q_11, .ref q_3, .ref l1_15, .ref l2_16, .ref l3_17, .int 0, .long 0, .int 0, .long 0])), (q_5, .inr (0, [.int (nI (nW p0)), .int (nI (nB p1)), .int 0, .ref qc_7, .ref qi_8, .int (-1), .int 0]))]) hP hD [4, 1] [0, 2, 3] rfl rfl (by decide) (by decide) hk1 hFc hP1 hD1
  have hK := (hK.sub (tys' := [(cC_9, .int), (cI_10, .int)]) [0, 1] rfl).app hK1
  generalize H1 = H at hP hS ⊢
  have hP : va_P (dC, dI) vwCl [(h0, .inr (8, [.ref q_5, .ref q_11, .null, .null, .null, .null, .null, .null, .int 0, .long 0, .int 0])), (qc_7, .inl (cC_9, (nW p0) * (nB p1), .inl (fun _ => 0))), (qi_8, .inl (cI_10, nW p0, .inl (fun _ => 0))), (q_13, .inr (6, [.ref q_5, .ref q_11, .ref q_3, .ref l1_15, .ref l2_16, .ref l3_17, .int 0, .long 0, .int 0, .long 0])), (q_5, .inr (0, [.int (nI (nW p0)), .int (nI (nB p1)), .int 0, .ref qc_7, .ref qi_8, .int (-1), .int 0]))] H := hP
  have hD : va_D A [(h0, .inr (8, [.ref q_5, .ref q_11, .null, .null, .null, .null, .null, .null, .int 0, .long 0, .int 0])), (qc_7, .inl (cC_9, (nW p0) * (nB p1), .inl (fun _ => 0))), (qi_8, .inl (cI_10, nW p0, .inl (fun _ => 0))), (q_13, .inr (6, [.ref q_5, .ref q_11, .ref q_3, .ref l1_15, .ref l2_16, .ref l3_17, .int 0, .long 0, .int 0, .long 0])), (q_5, .inr (0, [.int (nI (nW p0)), .int (nI (nB p1)), .int 0, .ref qc_7, .ref qi_8, .int (-1), .int 0]))] := hD
  have hK : va_K (dC, dI) vwCl [(cC_9, .int), (cI_10, .int)] s := hK
  refine W.widen (k := 206) (n := 8405) (by omega) (by omega) ?_
  refine va_putF (D := (dC, dI)) (ci := 8) (v := .ref q_13) (ty := (.object "TwinRoots$Survey")) (C := RX8) (T := TX8) (N := 11) hx hb hts k_23 tyX8 tyX8_ok nmX8 hown hK hP hD hS 0 rfl rfl 2 (by decide) k_38 (fun _ h9 => h9) rfl hin rfl (by decide +kernel) rfl rfl (Nat.le_of_ble_eq_true rfl) dX8_init_84 (fun H locs hP hD hS => ?_)
  have hP : va_P (dC, dI) vwCl [(h0, .inr (8, [.ref q_5, .ref q_11, .ref q_13, .null, .null, .null, .null, .null, .int 0, .long 0, .int 0])), (qc_7, .inl (cC_9, (nW p0) * (nB p1), .inl (fun _ => 0))), (qi_8, .inl (cI_10, nW p0, .inl (fun _ => 0))), (q_13, .inr (6, [.ref q_5, .ref q_11, .ref q_3, .ref l1_15, .ref l2_16, .ref l3_17, .int 0, .long 0, .int 0, .long 0])), (q_5, .inr (0, [.int (nI (nW p0)), .int (nI (nB p1)), .int 0, .ref qc_7, .ref qi_8, .int (-1), .int 0]))] H := hP
  have hD : va_D A [(h0, .inr (8, [.ref q_5, .ref q_11, .ref q_13, .null, .null, .null, .null, .null, .int 0, .long 0, .int 0])), (qc_7, .inl (cC_9, (nW p0) * (nB p1), .inl (fun _ => 0))), (qi_8, .inl (cI_10, nW p0, .inl (fun _ => 0))), (q_13, .inr (6, [.ref q_5, .ref q_11, .ref q_3, .ref l1_15, .ref l2_16, .ref l3_17, .int 0, .long 0, .int 0, .long 0])), (q_5, .inr (0, [.int (nI (nW p0)), .int (nI (nB p1)), .int 0, .ref qc_7, .ref qi_8, .int (-1), .int 0]))] := hD
  refine lv_aload_n hx hb dX8_init_87 rfl (lv_at hl 3 rfl) ?_
  refine va_new (ci := 5) (fs := [.int 0, .long 0, .long 0, .int 0, .null, .null, .null, .long 0]) (C := RX5) (T := TX5) (N := 8) hx hb hts k_39 tyX5 tyX5_ok hown k_40 k_41 k_42 hK hP hD hS hA rfl (fun j hj => by rcases (show j = 0 ∨ j = 1 ∨ j = 2 ∨ j = 3 ∨ j = 4 ∨ j = 5 ∨ j = 6 ∨ j = 7 by omega) with rfl | rfl | rfl | rfl | rfl | rfl | rfl | rfl <;> rfl) (show 206 + 1 ≤ 302 by omega) (show 8405 + 8 ≤ 10944 by omega) dX8_init_88 (fun q_18 H hP hD hS => ?_)
  have hP : va_P (dC, dI) vwCl [(h0, .inr (8, [.ref q_5, .ref q_11, .ref q_13, .null, .null, .null, .null, .null, .int 0, .long 0, .int 0])), (qc_7, .inl (cC_9, (nW p0) * (nB p1), .inl (fun _ => 0))), (qi_8, .inl (cI_10, nW p0, .inl (fun _ => 0))), (q_13, .inr (6, [.ref q_5, .ref q_11, .ref q_3, .ref l1_15, .ref l2_16, .ref l3_17, .int 0, .long 0, .int 0, .long 0])), (q_5, .inr (0, [.int (nI (nW p0)), .int (nI (nB p1)), .int 0, .ref qc_7, .ref qi_8, .int (-1), .int 0])), (q_18, .inr (5, [.int 0, .long 0, .long 0, .int 0, .null, .null, .null, .long 0]))] H := hP
  have hD : va_D A [(h0, .inr (8, [.ref q_5, .ref q_11, .ref q_13, .null, .null, .null, .null, .null, .int 0, .long 0, .int 0])), (qc_7, .inl (cC_9, (nW p0) * (nB p1), .inl (fun _ => 0))), (qi_8, .inl (cI_10, nW p0, .inl (fun _ => 0))), (q_13, .inr (6, [.ref q_5, .ref q_11, .ref q_3, .ref l1_15, .ref l2_16, .ref l3_17, .int 0, .long 0, .int 0, .long 0])), (q_5, .inr (0, [.int (nI (nW p0)), .int (nI (nB p1)), .int 0, .ref qc_7, .ref qi_8, .int (-1), .int 0])), (q_18, .inr (5, [.int 0, .long 0, .long 0, .int 0, .null, .null, .null, .long 0]))] := hD
  refine W.widen (k := 207) (n := 8413) (by omega) (by omega) ?_
  refine lv_dup hx hb dX8_init_91 rfl ?_
  refine lv_iload_n hx hb dX8_init_92 rfl (lv_at hl 2 rfl) ?_
  have hPc := hP.sub (ws' := [(q_18, .inr (5, [.int 0, .long 0, .long 0, .int 0, .null, .null, .null, .long 0]))]) [5] rfl
  have hDc := hD.sub (ws' := [(q_18, .inr (5, [.int 0, .long 0, .long 0, .int 0, .null, .null, .null, .long 0]))]) [5] (by decide) rfl
  have hKc := hK.sub (tys' := []) [] rfl
  have hFc := va_free (wc := [(q_18, .inr (5, [.int 0, .long 0, .long 0, .int 0, .null, .null, .null, .long 0]))]) hD hS hA [5] rfl
  refine va_callv (va_runI (As := [.int (nI (nW p0))]) (rest := [.ref q_18, .ref h0]) ⟨hx, hb, hml, hown, hts⟩ (c_X5_init l dC dI H.size q_18 (nW p0) (by first | assumption | omega | decide)) (cwI 1 hts g_X8_init_X5_init rfl rfl rfl k_42 k_43 k_44 rfl (by decide +kernel) ⟨Nat.le_of_ble_eq_true rfl, Nat.le_of_ble_eq_true rfl⟩) ⟨fun a U g mk q => by obtain ⟨q0, q1, qP, qK, qD, qX0⟩ := q; exact ⟨q0, q1, qP, va_K.moved (u := U) (U := U.calling g mk a) (Vm.Alike.refl U.vm) qK, qD, va_AO.moved (u := U) (U := U.calling g mk a) (Vm.Alike.refl U.vm) qX0⟩, fun U hU hW => ⟨rfl, by rw [hU], by rw [hU]; exact hPc, va_K.moved hW.alike hKc, hDc.weaken (fun _ _ _ _ => trivial), va_AO.moved hW.alike hAO⟩⟩ rfl rfl hl.1 rfl (lv_room (Nat.le_of_ble_eq_true rfl)) dX8_init_93 ⟨(show 207 + 80 ≤ 302 by omega), (show 8413 + 2234 ≤ 10944 by omega)⟩) hS (fun q _ h => hFc q h) hFc (fun u t H1 locs ht hvm hw hB hz1 hk1 hS => ?_)
  obtain ⟨hP1, hK1, hD1⟩ := hB
  rw [ht] at hP1
  have hK1 := va_K.moved hvm.symm hK1
  try dsimp only at hw
  obtain ⟨hP, hD⟩ := va_join (wr := [(h0, .inr (8, [.ref q_5, .ref q_11, .ref q_13, .null, .null, .null, .null, .null, .int 0, .long 0, .int 0])), (qc_7, .inl (cC_9, (nW p0) * (nB p1), .inl (fun _ => 0))), (qi_8, .inl (cI_10, nW p0, .inl (fun _ => 0))), (q_13, .inr (6, [.ref q_5, .ref q_11, .ref q_3, .ref l1_15, .ref l2_16, .ref l3_17, .int 0, .long 0, .int 0, .long 0])), (q_5, .inr (0, [.int (nI (nW p0)), .int (nI (nB p1)), .int 0, .ref qc_7, .ref qi_8, .int (-1), .int 0]))]) (w1 := []) hP hD [5] [0, 1, 2, 3, 4] rfl rfl (by decide) (by decide) hk1 hFc hP1 hD1
  have hK := (hK.sub (tys' := [(cC_9, .int), (cI_10, .int)]) [0, 1] rfl).app hK1
  generalize H1 = H at hP hS ⊢
  have hP : va_P (dC, dI) vwCl [(h0, .inr (8, [.ref q_5, .ref q_11, .ref q_13, .null, .null, .null, .null, .null, .int 0, .long 0, .int 0])), (qc_7, .inl (cC_9, (nW p0) * (nB p1), .inl (fun _ => 0))), (qi_8, .inl (cI_10, nW p0, .inl (fun _ => 0))), (q_13, .inr (6, [.ref q_5, .ref q_11, .ref q_3, .ref l1_15, .ref l2_16, .ref l3_17, .int 0, .long 0, .int 0, .long 0])), (q_5, .inr (0, [.int (nI (nW p0)), .int (nI (nB p1)), .int 0, .ref qc_7, .ref qi_8, .int (-1), .int 0]))] H := hP
  have hD : va_D A [(h0, .inr (8, [.ref q_5, .ref q_11, .ref q_13, .null, .null, .null, .null, .null, .int 0, .long 0, .int 0])), (qc_7, .inl (cC_9, (nW p0) * (nB p1), .inl (fun _ => 0))), (qi_8, .inl (cI_10, nW p0, .inl (fun _ => 0))), (q_13, .inr (6, [.ref q_5, .ref q_11, .ref q_3, .ref l1_15, .ref l2_16, .ref l3_17, .int 0, .long 0, .int 0, .long 0])), (q_5, .inr (0, [.int (nI (nW p0)), .int (nI (nB p1)), .int 0, .ref qc_7, .ref qi_8, .int (-1), .int 0]))] := hD
  have hK : va_K (dC, dI) vwCl [(cC_9, .int), (cI_10, .int)] s := hK
  refine W.widen (k := 287) (n := 10647) (by omega) (by omega) ?_
  refine va_putF (D := (dC, dI)) (ci := 8) (v := .ref q_18) (ty := (.object "TwinRoots$Plan")) (C := RX8) (T := TX8) (N := 11) hx hb hts k_23 tyX8 tyX8_ok nmX8 hown hK hP hD hS 0 rfl rfl 3 (by decide) k_45 (fun _ h9 => h9) rfl hin rfl (by decide +kernel) rfl rfl (Nat.le_of_ble_eq_true rfl) dX8_init_96 (fun H locs hP hD hS => ?_)
  have hP : va_P (dC, dI) vwCl [(h0, .inr (8, [.ref q_5, .ref q_11, .ref q_13, .ref q_18, .null, .null, .null, .null, .int 0, .long 0, .int 0])), (qc_7, .inl (cC_9, (nW p0) * (nB p1), .inl (fun _ => 0))), (qi_8, .inl (cI_10, nW p0, .inl (fun _ => 0))), (q_13, .inr (6, [.ref q_5, .ref q_11, .ref q_3, .ref l1_15, .ref l2_16, .ref l3_17, .int 0, .long 0, .int 0, .long 0])), (q_5, .inr (0, [.int (nI (nW p0)), .int (nI (nB p1)), .int 0, .ref qc_7, .ref qi_8, .int (-1), .int 0]))] H := hP
  have hD : va_D A [(h0, .inr (8, [.ref q_5, .ref q_11, .ref q_13, .ref q_18, .null, .null, .null, .null, .int 0, .long 0, .int 0])), (qc_7, .inl (cC_9, (nW p0) * (nB p1), .inl (fun _ => 0))), (qi_8, .inl (cI_10, nW p0, .inl (fun _ => 0))), (q_13, .inr (6, [.ref q_5, .ref q_11, .ref q_3, .ref l1_15, .ref l2_16, .ref l3_17, .int 0, .long 0, .int 0, .long 0])), (q_5, .inr (0, [.int (nI (nW p0)), .int (nI (nB p1)), .int 0, .ref qc_7, .ref qi_8, .int (-1), .int 0]))] := hD
  refine lv_aload_n hx hb dX8_init_99 rfl (lv_at hl 3 rfl) ?_
  refine va_new (ci := 1) (fs := [.null, .null, .null, .null, .null, .int 0, .null, .null, .null]) (C := RX1) (T := TX1) (N := 9) hx hb hts k_46 tyX1 tyX1_ok hown k_47 k_48 k_49 hK hP hD hS hA rfl (fun j hj => by rcases (show j = 0 ∨ j = 1 ∨ j = 2 ∨ j = 3 ∨ j = 4 ∨ j = 5 ∨ j = 6 ∨ j = 7 ∨ j = 8 by omega) with rfl | rfl | rfl | rfl | rfl | rfl | rfl | rfl | rfl <;> rfl) (show 287 + 1 ≤ 302 by omega) (show 10647 + 9 ≤ 10944 by omega) dX8_init_100 (fun q_20 H hP hD hS => ?_)
  have hP : va_P (dC, dI) vwCl [(h0, .inr (8, [.ref q_5, .ref q_11, .ref q_13, .ref q_18, .null, .null, .null, .null, .int 0, .long 0, .int 0])), (qc_7, .inl (cC_9, (nW p0) * (nB p1), .inl (fun _ => 0))), (qi_8, .inl (cI_10, nW p0, .inl (fun _ => 0))), (q_13, .inr (6, [.ref q_5, .ref q_11, .ref q_3, .ref l1_15, .ref l2_16, .ref l3_17, .int 0, .long 0, .int 0, .long 0])), (q_5, .inr (0, [.int (nI (nW p0)), .int (nI (nB p1)), .int 0, .ref qc_7, .ref qi_8, .int (-1), .int 0])), (q_20, .inr (1, [.null, .null, .null, .null, .null, .int 0, .null, .null, .null]))] H := hP
  have hD : va_D A [(h0, .inr (8, [.ref q_5, .ref q_11, .ref q_13, .ref q_18, .null, .null, .null, .null, .int 0, .long 0, .int 0])), (qc_7, .inl (cC_9, (nW p0) * (nB p1), .inl (fun _ => 0))), (qi_8, .inl (cI_10, nW p0, .inl (fun _ => 0))), (q_13, .inr (6, [.ref q_5, .ref q_11, .ref q_3, .ref l1_15, .ref l2_16, .ref l3_17, .int 0, .long 0, .int 0, .long 0])), (q_5, .inr (0, [.int (nI (nW p0)), .int (nI (nB p1)), .int 0, .ref qc_7, .ref qi_8, .int (-1), .int 0])), (q_20, .inr (1, [.null, .null, .null, .null, .null, .int 0, .null, .null, .null]))] := hD
  refine W.widen (k := 288) (n := 10656) (by omega) (by omega) ?_
  refine lv_dup hx hb dX8_init_103 rfl ?_
  refine lv_iload_n hx hb dX8_init_104 rfl (lv_at hl 2 rfl) ?_
  refine lv_aload hx hb dX8_init_105 (lv_at hl 0 rfl) ?_
  refine lv_aload_n hx hb dX8_init_107 rfl (lv_at hl 3 rfl) ?_
  refine va_get (D := (dC, dI)) (ci := 8) (v := .ref q_11) (C := RX8) (T := TX8) (N := 11) hx hb hts k_23 hown hK hP 0 rfl rfl 1 (by decide) k_31 (fun _ h9 => h9) rfl dX8_init_108 ?_
  refine lv_aload_n hx hb dX8_init_111 rfl (lv_at hl 3 rfl) ?_
  refine va_get (D := (dC, dI)) (ci := 8) (v := .ref q_18) (C := RX8) (T := TX8) (N := 11) hx hb hts k_23 hown hK hP 0 rfl rfl 3 (by decide) k_45 (fun _ h9 => h9) rfl dX8_init_112 ?_
  have hPc := hP.sub (ws' := [(q_20, .inr (1, [.null, .null, .null, .null, .null, .int 0, .null, .null, .null]))]) [5] rfl
  have hDc := hD.sub (ws' := [(q_20, .inr (1, [.null, .null, .null, .null, .null, .int 0, .null, .null, .null]))]) [5] (by decide) rfl
  have hKc := hK.sub (tys' := []) [] rfl
  have hFc := va_free (wc := [(q_20, .inr (1, [.null, .null, .null, .null, .null, .int 0, .null, .null, .null]))]) hD hS hA [5] rfl
  refine va_callv (va_runI (As := [.int (nI (nW p0)), .ref q_3, .ref q_11, .ref q_18]) (rest := [.ref q_20, .ref h0]) ⟨hx, hb, hml, hown, hts⟩ (c_X1_init l dC dI H.size q_20 (nW p0) q_3 q_11 q_18 (by first | assumption | omega | decide)) (cwI 4 hts g_X8_init_X1_init rfl rfl rfl k_49 k_50 k_51 rfl (by decide +kernel) ⟨Nat.le_of_ble_eq_true rfl, Nat.le_of_ble_eq_true rfl⟩) ⟨fun a U g mk q => by obtain ⟨q0, q1, qP, qK, qD⟩ := q; exact ⟨q0, q1, qP, va_K.moved (u := U) (U := U.calling g mk a) (Vm.Alike.refl U.vm) qK, qD⟩, fun U hU hW => ⟨rfl, by rw [hU], by rw [hU]; exact hPc, va_K.moved hW.alike hKc, hDc.weaken (fun _ _ _ _ => trivial)⟩⟩ rfl rfl hl.1 rfl (lv_room (Nat.le_of_ble_eq_true rfl)) dX8_init_115 ⟨(show 288 + 11 ≤ 302 by omega), (show 10656 + 276 ≤ 10944 by omega)⟩) hS (fun q _ h => hFc q h) hFc (fun u t H1 locs ht hvm hw hB hz1 hk1 hS => ?_)
  obtain ⟨hP1, hK1, hD1⟩ := hB
  rw [ht] at hP1
  have hK1 := va_K.moved hvm.symm hK1
  try dsimp only at hw
  obtain ⟨hP, hD⟩ := va_join (wr := [(h0, .inr (8, [.ref q_5, .ref q_11, .ref q_13, .ref q_18, .null, .null, .null, .null, .int 0, .long 0, .int 0])), (qc_7, .inl (cC_9, (nW p0) * (nB p1), .inl (fun _ => 0))), (qi_8, .inl (cI_10, nW p0, .inl (fun _ => 0))), (q_13, .inr (6, [.ref q_5, .ref q_11, .ref q_3, .ref l1_15, .ref l2_16, .ref l3_17, .int 0, .long 0, .int 0, .long 0])), (q_5, .inr (0, [.int (nI (nW p0)), .int (nI (nB p1)), .int 0, .ref qc_7, .ref qi_8, .int (-1), .int 0]))]) (w1 := []) hP hD [5] [0, 1, 2, 3, 4] rfl rfl (by decide) (by decide) hk1 hFc hP1 hD1
  have hK := (hK.sub (tys' := [(cC_9, .int), (cI_10, .int)]) [0, 1] rfl).app hK1
  generalize H1 = H at hP hS ⊢
  have hP : va_P (dC, dI) vwCl [(h0, .inr (8, [.ref q_5, .ref q_11, .ref q_13, .ref q_18, .null, .null, .null, .null, .int 0, .long 0, .int 0])), (qc_7, .inl (cC_9, (nW p0) * (nB p1), .inl (fun _ => 0))), (qi_8, .inl (cI_10, nW p0, .inl (fun _ => 0))), (q_13, .inr (6, [.ref q_5, .ref q_11, .ref q_3, .ref l1_15, .ref l2_16, .ref l3_17, .int 0, .long 0, .int 0, .long 0])), (q_5, .inr (0, [.int (nI (nW p0)), .int (nI (nB p1)), .int 0, .ref qc_7, .ref qi_8, .int (-1), .int 0]))] H := hP
  have hD : va_D A [(h0, .inr (8, [.ref q_5, .ref q_11, .ref q_13, .ref q_18, .null, .null, .null, .null, .int 0, .long 0, .int 0])), (qc_7, .inl (cC_9, (nW p0) * (nB p1), .inl (fun _ => 0))), (qi_8, .inl (cI_10, nW p0, .inl (fun _ => 0))), (q_13, .inr (6, [.ref q_5, .ref q_11, .ref q_3, .ref l1_15, .ref l2_16, .ref l3_17, .int 0, .long 0, .int 0, .long 0])), (q_5, .inr (0, [.int (nI (nW p0)), .int (nI (nB p1)), .int 0, .ref qc_7, .ref qi_8, .int (-1), .int 0]))] := hD
  have hK : va_K (dC, dI) vwCl [(cC_9, .int), (cI_10, .int)] s := hK
  refine W.widen (k := 299) (n := 10932) (by omega) (by omega) ?_
  refine va_putF (D := (dC, dI)) (ci := 8) (v := .ref q_20) (ty := (.object "TwinRoots$Editor")) (C := RX8) (T := TX8) (N := 11) hx hb hts k_23 tyX8 tyX8_ok nmX8 hown hK hP hD hS 0 rfl rfl 4 (by decide) k_52 (fun _ h9 => h9) rfl hin rfl (by decide +kernel) rfl rfl (Nat.le_of_ble_eq_true rfl) dX8_init_118 (fun H locs hP hD hS => ?_)
  have hP : va_P (dC, dI) vwCl [(h0, .inr (8, [.ref q_5, .ref q_11, .ref q_13, .ref q_18, .ref q_20, .null, .null, .null, .int 0, .long 0, .int 0])), (qc_7, .inl (cC_9, (nW p0) * (nB p1), .inl (fun _ => 0))), (qi_8, .inl (cI_10, nW p0, .inl (fun _ => 0))), (q_13, .inr (6, [.ref q_5, .ref q_11, .ref q_3, .ref l1_15, .ref l2_16, .ref l3_17, .int 0, .long 0, .int 0, .long 0])), (q_5, .inr (0, [.int (nI (nW p0)), .int (nI (nB p1)), .int 0, .ref qc_7, .ref qi_8, .int (-1), .int 0]))] H := hP
  have hD : va_D A [(h0, .inr (8, [.ref q_5, .ref q_11, .ref q_13, .ref q_18, .ref q_20, .null, .null, .null, .int 0, .long 0, .int 0])), (qc_7, .inl (cC_9, (nW p0) * (nB p1), .inl (fun _ => 0))), (qi_8, .inl (cI_10, nW p0, .inl (fun _ => 0))), (q_13, .inr (6, [.ref q_5, .ref q_11, .ref q_3, .ref l1_15, .ref l2_16, .ref l3_17, .int 0, .long 0, .int 0, .long 0])), (q_5, .inr (0, [.int (nI (nW p0)), .int (nI (nB p1)), .int 0, .ref qc_7, .ref qi_8, .int (-1), .int 0]))] := hD
  refine lv_aload_n hx hb dX8_init_121 rfl (lv_at hl 3 rfl) ?_
  refine va_new (ci := 7) (fs := [.int 0, .int 0, .int 0, .long 0]) (C := RX7) (T := TX7) (N := 4) hx hb hts k_53 tyX7 tyX7_ok hown k_54 k_55 k_56 hK hP hD hS hA rfl (fun j hj => by rcases (show j = 0 ∨ j = 1 ∨ j = 2 ∨ j = 3 by omega) with rfl | rfl | rfl | rfl <;> rfl) (show 299 + 1 ≤ 302 by omega) (show 10932 + 4 ≤ 10944 by omega) dX8_init_122 (fun q_22 H hP hD hS => ?_)
  have hP : va_P (dC, dI) vwCl [(h0, .inr (8, [.ref q_5, .ref q_11, .ref q_13, .ref q_18, .ref q_20, .null, .null, .null, .int 0, .long 0, .int 0])), (qc_7, .inl (cC_9, (nW p0) * (nB p1), .inl (fun _ => 0))), (qi_8, .inl (cI_10, nW p0, .inl (fun _ => 0))), (q_13, .inr (6, [.ref q_5, .ref q_11, .ref q_3, .ref l1_15, .ref l2_16, .ref l3_17, .int 0, .long 0, .int 0, .long 0])), (q_5, .inr (0, [.int (nI (nW p0)), .int (nI (nB p1)), .int 0, .ref qc_7, .ref qi_8, .int (-1), .int 0])), (q_22, .inr (7, [.int 0, .int 0, .int 0, .long 0]))] H := hP
  have hD : va_D A [(h0, .inr (8, [.ref q_5, .ref q_11, .ref q_13, .ref q_18, .ref q_20, .null, .null, .null, .int 0, .long 0, .int 0])), (qc_7, .inl (cC_9, (nW p0) * (nB p1), .inl (fun _ => 0))), (qi_8, .inl (cI_10, nW p0, .inl (fun _ => 0))), (q_13, .inr (6, [.ref q_5, .ref q_11, .ref q_3, .ref l1_15, .ref l2_16, .ref l3_17, .int 0, .long 0, .int 0, .long 0])), (q_5, .inr (0, [.int (nI (nW p0)), .int (nI (nB p1)), .int 0, .ref qc_7, .ref qi_8, .int (-1), .int 0])), (q_22, .inr (7, [.int 0, .int 0, .int 0, .long 0]))] := hD
  refine W.widen (k := 300) (n := 10936) (by omega) (by omega) ?_
  refine lv_dup hx hb dX8_init_125 rfl ?_
  have hPc := hP.sub (ws' := [(q_22, .inr (7, [.int 0, .int 0, .int 0, .long 0]))]) [5] rfl
  have hDc := hD.sub (ws' := [(q_22, .inr (7, [.int 0, .int 0, .int 0, .long 0]))]) [5] (by decide) rfl
  have hKc := hK.sub (tys' := []) [] rfl
  have hFc := va_free (wc := [(q_22, .inr (7, [.int 0, .int 0, .int 0, .long 0]))]) hD hS hA [5] rfl
  refine va_callv (va_runIN (As := []) (rest := [.ref q_22, .ref h0]) ⟨hx, hb, hml, hown, hts⟩ (c_X7_init l dC dI H.size q_22 0 0 0 0) ⟨va_cnB 0 hts g_X8_init_X7_init rfl rfl rfl hNw k_56 (by decide +kernel) ⟨Nat.le_of_ble_eq_true rfl, Nat.le_of_ble_eq_true rfl⟩, rfl, k_57⟩ ⟨fun a U g mk q => by obtain ⟨q0, q1, qP, qK, qD⟩ := q; exact ⟨q0, q1, qP, va_K.moved (u := U) (U := U.calling g mk a) (Vm.Alike.refl U.vm) qK, qD⟩, fun U hU hW => ⟨rfl, by rw [hU], by rw [hU]; exact hPc, va_K.moved hW.alike hKc, hDc.weaken (fun _ _ _ _ => trivial)⟩⟩ rfl rfl hl.1 rfl (lv_room (Nat.le_of_ble_eq_true rfl)) dX8_init_126 ⟨(show 300 + 0 ≤ 302 by omega), (show 10936 + 0 ≤ 10944 by omega)⟩) hS (fun q _ h => hFc q h) hFc (fun u t H1 locs ht hvm hw hB hz1 hk1 hS => ?_)
  obtain ⟨hP1, hK1, hD1⟩ := hB
  rw [ht] at hP1
  have hK1 := va_K.moved hvm.symm hK1
  try dsimp only at hw
  obtain ⟨hP, hD⟩ := va_join (wr := [(h0, .inr (8, [.ref q_5, .ref q_11, .ref q_13, .ref q_18, .ref q_20, .null, .null, .null, .int 0, .long 0, .int 0])), (qc_7, .inl (cC_9, (nW p0) * (nB p1), .inl (fun _ => 0))), (qi_8, .inl (cI_10, nW p0, .inl (fun _ => 0))), (q_13, .inr (6, [.ref q_5, .ref q_11, .ref q_3, .ref l1_15, .ref l2_16, .ref l3_17, .int 0, .long 0, .int 0, .long 0])), (q_5, .inr (0, [.int (nI (nW p0)), .int (nI (nB p1)), .int 0, .ref qc_7, .ref qi_8, .int (-1), .int 0]))]) (w1 := [(q_22, .inr (7, [.int 0, .int 0, .int 0, .long 0]))]) hP hD [5] [0, 1, 2, 3, 4] rfl rfl (by decide) (by decide) hk1 hFc hP1 hD1
  have hK := (hK.sub (tys' := [(cC_9, .int), (cI_10, .int)]) [0, 1] rfl).app hK1
  generalize H1 = H at hP hS ⊢
  have hP : va_P (dC, dI) vwCl [(h0, .inr (8, [.ref q_5, .ref q_11, .ref q_13, .ref q_18, .ref q_20, .null, .null, .null, .int 0, .long 0, .int 0])), (qc_7, .inl (cC_9, (nW p0) * (nB p1), .inl (fun _ => 0))), (qi_8, .inl (cI_10, nW p0, .inl (fun _ => 0))), (q_13, .inr (6, [.ref q_5, .ref q_11, .ref q_3, .ref l1_15, .ref l2_16, .ref l3_17, .int 0, .long 0, .int 0, .long 0])), (q_5, .inr (0, [.int (nI (nW p0)), .int (nI (nB p1)), .int 0, .ref qc_7, .ref qi_8, .int (-1), .int 0])), (q_22, .inr (7, [.int 0, .int 0, .int 0, .long 0]))] H := hP
  have hD : va_D A [(h0, .inr (8, [.ref q_5, .ref q_11, .ref q_13, .ref q_18, .ref q_20, .null, .null, .null, .int 0, .long 0, .int 0])), (qc_7, .inl (cC_9, (nW p0) * (nB p1), .inl (fun _ => 0))), (qi_8, .inl (cI_10, nW p0, .inl (fun _ => 0))), (q_13, .inr (6, [.ref q_5, .ref q_11, .ref q_3, .ref l1_15, .ref l2_16, .ref l3_17, .int 0, .long 0, .int 0, .long 0])), (q_5, .inr (0, [.int (nI (nW p0)), .int (nI (nB p1)), .int 0, .ref qc_7, .ref qi_8, .int (-1), .int 0])), (q_22, .inr (7, [.int 0, .int 0, .int 0, .long 0]))] := hD
  have hK : va_K (dC, dI) vwCl [(cC_9, .int), (cI_10, .int)] s := hK
  refine va_putF (D := (dC, dI)) (ci := 8) (v := .ref q_22) (ty := (.object "TwinRoots$Told")) (C := RX8) (T := TX8) (N := 11) hx hb hts k_23 tyX8 tyX8_ok nmX8 hown hK hP hD hS 0 rfl rfl 5 (by decide) k_58 (fun _ h9 => h9) rfl hin rfl (by decide +kernel) rfl rfl (Nat.le_of_ble_eq_true rfl) dX8_init_129 (fun H locs hP hD hS => ?_)
  have hP : va_P (dC, dI) vwCl [(h0, .inr (8, [.ref q_5, .ref q_11, .ref q_13, .ref q_18, .ref q_20, .ref q_22, .null, .null, .int 0, .long 0, .int 0])), (qc_7, .inl (cC_9, (nW p0) * (nB p1), .inl (fun _ => 0))), (qi_8, .inl (cI_10, nW p0, .inl (fun _ => 0))), (q_13, .inr (6, [.ref q_5, .ref q_11, .ref q_3, .ref l1_15, .ref l2_16, .ref l3_17, .int 0, .long 0, .int 0, .long 0])), (q_5, .inr (0, [.int (nI (nW p0)), .int (nI (nB p1)), .int 0, .ref qc_7, .ref qi_8, .int (-1), .int 0])), (q_22, .inr (7, [.int 0, .int 0, .int 0, .long 0]))] H := hP
  have hD : va_D A [(h0, .inr (8, [.ref q_5, .ref q_11, .ref q_13, .ref q_18, .ref q_20, .ref q_22, .null, .null, .int 0, .long 0, .int 0])), (qc_7, .inl (cC_9, (nW p0) * (nB p1), .inl (fun _ => 0))), (qi_8, .inl (cI_10, nW p0, .inl (fun _ => 0))), (q_13, .inr (6, [.ref q_5, .ref q_11, .ref q_3, .ref l1_15, .ref l2_16, .ref l3_17, .int 0, .long 0, .int 0, .long 0])), (q_5, .inr (0, [.int (nI (nW p0)), .int (nI (nB p1)), .int 0, .ref qc_7, .ref qi_8, .int (-1), .int 0])), (q_22, .inr (7, [.int 0, .int 0, .int 0, .long 0]))] := hD
  refine lv_aload_n hx hb dX8_init_132 rfl (lv_at hl 3 rfl) ?_
  refine va_new (ci := 7) (fs := [.int 0, .int 0, .int 0, .long 0]) (C := RX7) (T := TX7) (N := 4) hx hb hts k_53 tyX7 tyX7_ok hown k_54 k_55 k_56 hK hP hD hS hA rfl (fun j hj => by rcases (show j = 0 ∨ j = 1 ∨ j = 2 ∨ j = 3 by omega) with rfl | rfl | rfl | rfl <;> rfl) (show 300 + 1 ≤ 302 by omega) (show 10936 + 4 ≤ 10944 by omega) dX8_init_133 (fun q_24 H hP hD hS => ?_)
  have hP : va_P (dC, dI) vwCl [(h0, .inr (8, [.ref q_5, .ref q_11, .ref q_13, .ref q_18, .ref q_20, .ref q_22, .null, .null, .int 0, .long 0, .int 0])), (qc_7, .inl (cC_9, (nW p0) * (nB p1), .inl (fun _ => 0))), (qi_8, .inl (cI_10, nW p0, .inl (fun _ => 0))), (q_13, .inr (6, [.ref q_5, .ref q_11, .ref q_3, .ref l1_15, .ref l2_16, .ref l3_17, .int 0, .long 0, .int 0, .long 0])), (q_5, .inr (0, [.int (nI (nW p0)), .int (nI (nB p1)), .int 0, .ref qc_7, .ref qi_8, .int (-1), .int 0])), (q_22, .inr (7, [.int 0, .int 0, .int 0, .long 0])), (q_24, .inr (7, [.int 0, .int 0, .int 0, .long 0]))] H := hP
  have hD : va_D A [(h0, .inr (8, [.ref q_5, .ref q_11, .ref q_13, .ref q_18, .ref q_20, .ref q_22, .null, .null, .int 0, .long 0, .int 0])), (qc_7, .inl (cC_9, (nW p0) * (nB p1), .inl (fun _ => 0))), (qi_8, .inl (cI_10, nW p0, .inl (fun _ => 0))), (q_13, .inr (6, [.ref q_5, .ref q_11, .ref q_3, .ref l1_15, .ref l2_16, .ref l3_17, .int 0, .long 0, .int 0, .long 0])), (q_5, .inr (0, [.int (nI (nW p0)), .int (nI (nB p1)), .int 0, .ref qc_7, .ref qi_8, .int (-1), .int 0])), (q_22, .inr (7, [.int 0, .int 0, .int 0, .long 0])), (q_24, .inr (7, [.int 0, .int 0, .int 0, .long 0]))] := hD
  refine W.widen (k := 301) (n := 10940) (by omega) (by omega) ?_
  refine lv_dup hx hb dX8_init_136 rfl ?_
  have hPc := hP.sub (ws' := [(q_24, .inr (7, [.int 0, .int 0, .int 0, .long 0]))]) [6] rfl
  have hDc := hD.sub (ws' := [(q_24, .inr (7, [.int 0, .int 0, .int 0, .long 0]))]) [6] (by decide) rfl
  have hKc := hK.sub (tys' := []) [] rfl
  have hFc := va_free (wc := [(q_24, .inr (7, [.int 0, .int 0, .int 0, .long 0]))]) hD hS hA [6] rfl
  refine va_callv (va_runIN (As := []) (rest := [.ref q_24, .ref h0]) ⟨hx, hb, hml, hown, hts⟩ (c_X7_init l dC dI H.size q_24 0 0 0 0) ⟨va_cnB 0 hts g_X8_init_X7_init rfl rfl rfl hNw k_56 (by decide +kernel) ⟨Nat.le_of_ble_eq_true rfl, Nat.le_of_ble_eq_true rfl⟩, rfl, k_57⟩ ⟨fun a U g mk q => by obtain ⟨q0, q1, qP, qK, qD⟩ := q; exact ⟨q0, q1, qP, va_K.moved (u := U) (U := U.calling g mk a) (Vm.Alike.refl U.vm) qK, qD⟩, fun U hU hW => ⟨rfl, by rw [hU], by rw [hU]; exact hPc, va_K.moved hW.alike hKc, hDc.weaken (fun _ _ _ _ => trivial)⟩⟩ rfl rfl hl.1 rfl (lv_room (Nat.le_of_ble_eq_true rfl)) dX8_init_137 ⟨(show 301 + 0 ≤ 302 by omega), (show 10940 + 0 ≤ 10944 by omega)⟩) hS (fun q _ h => hFc q h) hFc (fun u t H1 locs ht hvm hw hB hz1 hk1 hS => ?_)
  obtain ⟨hP1, hK1, hD1⟩ := hB
  rw [ht] at hP1
  have hK1 := va_K.moved hvm.symm hK1
  try dsimp only at hw
  obtain ⟨hP, hD⟩ := va_join (wr := [(h0, .inr (8, [.ref q_5, .ref q_11, .ref q_13, .ref q_18, .ref q_20, .ref q_22, .null, .null, .int 0, .long 0, .int 0])), (qc_7, .inl (cC_9, (nW p0) * (nB p1), .inl (fun _ => 0))), (qi_8, .inl (cI_10, nW p0, .inl (fun _ => 0))), (q_13, .inr (6, [.ref q_5, .ref q_11, .ref q_3, .ref l1_15, .ref l2_16, .ref l3_17, .int 0, .long 0, .int 0, .long 0])), (q_5, .inr (0, [.int (nI (nW p0)), .int (nI (nB p1)), .int 0, .ref qc_7, .ref qi_8, .int (-1), .int 0])), (q_22, .inr (7, [.int 0, .int 0, .int 0, .long 0]))]) (w1 := [(q_24, .inr (7, [.int 0, .int 0, .int 0, .long 0]))]) hP hD [6] [0, 1, 2, 3, 4, 5] rfl rfl (by decide) (by decide) hk1 hFc hP1 hD1
  have hK := (hK.sub (tys' := [(cC_9, .int), (cI_10, .int)]) [0, 1] rfl).app hK1
  generalize H1 = H at hP hS ⊢
  have hP : va_P (dC, dI) vwCl [(h0, .inr (8, [.ref q_5, .ref q_11, .ref q_13, .ref q_18, .ref q_20, .ref q_22, .null, .null, .int 0, .long 0, .int 0])), (qc_7, .inl (cC_9, (nW p0) * (nB p1), .inl (fun _ => 0))), (qi_8, .inl (cI_10, nW p0, .inl (fun _ => 0))), (q_13, .inr (6, [.ref q_5, .ref q_11, .ref q_3, .ref l1_15, .ref l2_16, .ref l3_17, .int 0, .long 0, .int 0, .long 0])), (q_5, .inr (0, [.int (nI (nW p0)), .int (nI (nB p1)), .int 0, .ref qc_7, .ref qi_8, .int (-1), .int 0])), (q_22, .inr (7, [.int 0, .int 0, .int 0, .long 0])), (q_24, .inr (7, [.int 0, .int 0, .int 0, .long 0]))] H := hP
  have hD : va_D A [(h0, .inr (8, [.ref q_5, .ref q_11, .ref q_13, .ref q_18, .ref q_20, .ref q_22, .null, .null, .int 0, .long 0, .int 0])), (qc_7, .inl (cC_9, (nW p0) * (nB p1), .inl (fun _ => 0))), (qi_8, .inl (cI_10, nW p0, .inl (fun _ => 0))), (q_13, .inr (6, [.ref q_5, .ref q_11, .ref q_3, .ref l1_15, .ref l2_16, .ref l3_17, .int 0, .long 0, .int 0, .long 0])), (q_5, .inr (0, [.int (nI (nW p0)), .int (nI (nB p1)), .int 0, .ref qc_7, .ref qi_8, .int (-1), .int 0])), (q_22, .inr (7, [.int 0, .int 0, .int 0, .long 0])), (q_24, .inr (7, [.int 0, .int 0, .int 0, .long 0]))] := hD
  have hK : va_K (dC, dI) vwCl [(cC_9, .int), (cI_10, .int)] s := hK
  refine va_putF (D := (dC, dI)) (ci := 8) (v := .ref q_24) (ty := (.object "TwinRoots$Told")) (C := RX8) (T := TX8) (N := 11) hx hb hts k_23 tyX8 tyX8_ok nmX8 hown hK hP hD hS 0 rfl rfl 6 (by decide) k_59 (fun _ h9 => h9) rfl hin rfl (by decide +kernel) rfl rfl (Nat.le_of_ble_eq_true rfl) dX8_init_140 (fun H locs hP hD hS => ?_)
  have hP : va_P (dC, dI) vwCl [(h0, .inr (8, [.ref q_5, .ref q_11, .ref q_13, .ref q_18, .ref q_20, .ref q_22, .ref q_24, .null, .int 0, .long 0, .int 0])), (qc_7, .inl (cC_9, (nW p0) * (nB p1), .inl (fun _ => 0))), (qi_8, .inl (cI_10, nW p0, .inl (fun _ => 0))), (q_13, .inr (6, [.ref q_5, .ref q_11, .ref q_3, .ref l1_15, .ref l2_16, .ref l3_17, .int 0, .long 0, .int 0, .long 0])), (q_5, .inr (0, [.int (nI (nW p0)), .int (nI (nB p1)), .int 0, .ref qc_7, .ref qi_8, .int (-1), .int 0])), (q_22, .inr (7, [.int 0, .int 0, .int 0, .long 0])), (q_24, .inr (7, [.int 0, .int 0, .int 0, .long 0]))] H := hP
  have hD : va_D A [(h0, .inr (8, [.ref q_5, .ref q_11, .ref q_13, .ref q_18, .ref q_20, .ref q_22, .ref q_24, .null, .int 0, .long 0, .int 0])), (qc_7, .inl (cC_9, (nW p0) * (nB p1), .inl (fun _ => 0))), (qi_8, .inl (cI_10, nW p0, .inl (fun _ => 0))), (q_13, .inr (6, [.ref q_5, .ref q_11, .ref q_3, .ref l1_15, .ref l2_16, .ref l3_17, .int 0, .long 0, .int 0, .long 0])), (q_5, .inr (0, [.int (nI (nW p0)), .int (nI (nB p1)), .int 0, .ref qc_7, .ref qi_8, .int (-1), .int 0])), (q_22, .inr (7, [.int 0, .int 0, .int 0, .long 0])), (q_24, .inr (7, [.int 0, .int 0, .int 0, .long 0]))] := hD
  refine lv_aload_n hx hb dX8_init_143 rfl (lv_at hl 3 rfl) ?_
  refine va_new (ci := 7) (fs := [.int 0, .int 0, .int 0, .long 0]) (C := RX7) (T := TX7) (N := 4) hx hb hts k_53 tyX7 tyX7_ok hown k_54 k_55 k_56 hK hP hD hS hA rfl (fun j hj => by rcases (show j = 0 ∨ j = 1 ∨ j = 2 ∨ j = 3 by omega) with rfl | rfl | rfl | rfl <;> rfl) (show 301 + 1 ≤ 302 by omega) (show 10940 + 4 ≤ 10944 by omega) dX8_init_144 (fun q_26 H hP hD hS => ?_)
  have hP : va_P (dC, dI) vwCl [(h0, .inr (8, [.ref q_5, .ref q_11, .ref q_13, .ref q_18, .ref q_20, .ref q_22, .ref q_24, .null, .int 0, .long 0, .int 0])), (qc_7, .inl (cC_9, (nW p0) * (nB p1), .inl (fun _ => 0))), (qi_8, .inl (cI_10, nW p0, .inl (fun _ => 0))), (q_13, .inr (6, [.ref q_5, .ref q_11, .ref q_3, .ref l1_15, .ref l2_16, .ref l3_17, .int 0, .long 0, .int 0, .long 0])), (q_5, .inr (0, [.int (nI (nW p0)), .int (nI (nB p1)), .int 0, .ref qc_7, .ref qi_8, .int (-1), .int 0])), (q_22, .inr (7, [.int 0, .int 0, .int 0, .long 0])), (q_24, .inr (7, [.int 0, .int 0, .int 0, .long 0])), (q_26, .inr (7, [.int 0, .int 0, .int 0, .long 0]))] H := hP
  have hD : va_D A [(h0, .inr (8, [.ref q_5, .ref q_11, .ref q_13, .ref q_18, .ref q_20, .ref q_22, .ref q_24, .null, .int 0, .long 0, .int 0])), (qc_7, .inl (cC_9, (nW p0) * (nB p1), .inl (fun _ => 0))), (qi_8, .inl (cI_10, nW p0, .inl (fun _ => 0))), (q_13, .inr (6, [.ref q_5, .ref q_11, .ref q_3, .ref l1_15, .ref l2_16, .ref l3_17, .int 0, .long 0, .int 0, .long 0])), (q_5, .inr (0, [.int (nI (nW p0)), .int (nI (nB p1)), .int 0, .ref qc_7, .ref qi_8, .int (-1), .int 0])), (q_22, .inr (7, [.int 0, .int 0, .int 0, .long 0])), (q_24, .inr (7, [.int 0, .int 0, .int 0, .long 0])), (q_26, .inr (7, [.int 0, .int 0, .int 0, .long 0]))] := hD
  refine W.widen (k := 302) (n := 10944) (by omega) (by omega) ?_
  refine lv_dup hx hb dX8_init_147 rfl ?_
  have hPc := hP.sub (ws' := [(q_26, .inr (7, [.int 0, .int 0, .int 0, .long 0]))]) [7] rfl
  have hDc := hD.sub (ws' := [(q_26, .inr (7, [.int 0, .int 0, .int 0, .long 0]))]) [7] (by decide) rfl
  have hKc := hK.sub (tys' := []) [] rfl
  have hFc := va_free (wc := [(q_26, .inr (7, [.int 0, .int 0, .int 0, .long 0]))]) hD hS hA [7] rfl
  refine va_callv (va_runIN (As := []) (rest := [.ref q_26, .ref h0]) ⟨hx, hb, hml, hown, hts⟩ (c_X7_init l dC dI H.size q_26 0 0 0 0) ⟨va_cnB 0 hts g_X8_init_X7_init rfl rfl rfl hNw k_56 (by decide +kernel) ⟨Nat.le_of_ble_eq_true rfl, Nat.le_of_ble_eq_true rfl⟩, rfl, k_57⟩ ⟨fun a U g mk q => by obtain ⟨q0, q1, qP, qK, qD⟩ := q; exact ⟨q0, q1, qP, va_K.moved (u := U) (U := U.calling g mk a) (Vm.Alike.refl U.vm) qK, qD⟩, fun U hU hW => ⟨rfl, by rw [hU], by rw [hU]; exact hPc, va_K.moved hW.alike hKc, hDc.weaken (fun _ _ _ _ => trivial)⟩⟩ rfl rfl hl.1 rfl (lv_room (Nat.le_of_ble_eq_true rfl)) dX8_init_148 ⟨(show 302 + 0 ≤ 302 by omega), (show 10944 + 0 ≤ 10944 by omega)⟩) hS (fun q _ h => hFc q h) hFc (fun u t H1 locs ht hvm hw hB hz1 hk1 hS => ?_)
  obtain ⟨hP1, hK1, hD1⟩ := hB
  rw [ht] at hP1
  have hK1 := va_K.moved hvm.symm hK1
  try dsimp only at hw
  obtain ⟨hP, hD⟩ := va_join (wr := [(h0, .inr (8, [.ref q_5, .ref q_11, .ref q_13, .ref q_18, .ref q_20, .ref q_22, .ref q_24, .null, .int 0, .long 0, .int 0])), (qc_7, .inl (cC_9, (nW p0) * (nB p1), .inl (fun _ => 0))), (qi_8, .inl (cI_10, nW p0, .inl (fun _ => 0))), (q_13, .inr (6, [.ref q_5, .ref q_11, .ref q_3, .ref l1_15, .ref l2_16, .ref l3_17, .int 0, .long 0, .int 0, .long 0])), (q_5, .inr (0, [.int (nI (nW p0)), .int (nI (nB p1)), .int 0, .ref qc_7, .ref qi_8, .int (-1), .int 0])), (q_22, .inr (7, [.int 0, .int 0, .int 0, .long 0])), (q_24, .inr (7, [.int 0, .int 0, .int 0, .long 0]))]) (w1 := [(q_26, .inr (7, [.int 0, .int 0, .int 0, .long 0]))]) hP hD [7] [0, 1, 2, 3, 4, 5, 6] rfl rfl (by decide) (by decide) hk1 hFc hP1 hD1
  have hK := (hK.sub (tys' := [(cC_9, .int), (cI_10, .int)]) [0, 1] rfl).app hK1
  generalize H1 = H at hP hS ⊢
  have hP : va_P (dC, dI) vwCl [(h0, .inr (8, [.ref q_5, .ref q_11, .ref q_13, .ref q_18, .ref q_20, .ref q_22, .ref q_24, .null, .int 0, .long 0, .int 0])), (qc_7, .inl (cC_9, (nW p0) * (nB p1), .inl (fun _ => 0))), (qi_8, .inl (cI_10, nW p0, .inl (fun _ => 0))), (q_13, .inr (6, [.ref q_5, .ref q_11, .ref q_3, .ref l1_15, .ref l2_16, .ref l3_17, .int 0, .long 0, .int 0, .long 0])), (q_5, .inr (0, [.int (nI (nW p0)), .int (nI (nB p1)), .int 0, .ref qc_7, .ref qi_8, .int (-1), .int 0])), (q_22, .inr (7, [.int 0, .int 0, .int 0, .long 0])), (q_24, .inr (7, [.int 0, .int 0, .int 0, .long 0])), (q_26, .inr (7, [.int 0, .int 0, .int 0, .long 0]))] H := hP
  have hD : va_D A [(h0, .inr (8, [.ref q_5, .ref q_11, .ref q_13, .ref q_18, .ref q_20, .ref q_22, .ref q_24, .null, .int 0, .long 0, .int 0])), (qc_7, .inl (cC_9, (nW p0) * (nB p1), .inl (fun _ => 0))), (qi_8, .inl (cI_10, nW p0, .inl (fun _ => 0))), (q_13, .inr (6, [.ref q_5, .ref q_11, .ref q_3, .ref l1_15, .ref l2_16, .ref l3_17, .int 0, .long 0, .int 0, .long 0])), (q_5, .inr (0, [.int (nI (nW p0)), .int (nI (nB p1)), .int 0, .ref qc_7, .ref qi_8, .int (-1), .int 0])), (q_22, .inr (7, [.int 0, .int 0, .int 0, .long 0])), (q_24, .inr (7, [.int 0, .int 0, .int 0, .long 0])), (q_26, .inr (7, [.int 0, .int 0, .int 0, .long 0]))] := hD
  have hK : va_K (dC, dI) vwCl [(cC_9, .int), (cI_10, .int)] s := hK
  refine va_putF (D := (dC, dI)) (ci := 8) (v := .ref q_26) (ty := (.object "TwinRoots$Told")) (C := RX8) (T := TX8) (N := 11) hx hb hts k_23 tyX8 tyX8_ok nmX8 hown hK hP hD hS 0 rfl rfl 7 (by decide) k_60 (fun _ h9 => h9) rfl hin rfl (by decide +kernel) rfl rfl (Nat.le_of_ble_eq_true rfl) dX8_init_151 (fun H locs hP hD hS => ?_)
  have hP : va_P (dC, dI) vwCl [(h0, .inr (8, [.ref q_5, .ref q_11, .ref q_13, .ref q_18, .ref q_20, .ref q_22, .ref q_24, .ref q_26, .int 0, .long 0, .int 0])), (qc_7, .inl (cC_9, (nW p0) * (nB p1), .inl (fun _ => 0))), (qi_8, .inl (cI_10, nW p0, .inl (fun _ => 0))), (q_13, .inr (6, [.ref q_5, .ref q_11, .ref q_3, .ref l1_15, .ref l2_16, .ref l3_17, .int 0, .long 0, .int 0, .long 0])), (q_5, .inr (0, [.int (nI (nW p0)), .int (nI (nB p1)), .int 0, .ref qc_7, .ref qi_8, .int (-1), .int 0])), (q_22, .inr (7, [.int 0, .int 0, .int 0, .long 0])), (q_24, .inr (7, [.int 0, .int 0, .int 0, .long 0])), (q_26, .inr (7, [.int 0, .int 0, .int 0, .long 0]))] H := hP
  have hD : va_D A [(h0, .inr (8, [.ref q_5, .ref q_11, .ref q_13, .ref q_18, .ref q_20, .ref q_22, .ref q_24, .ref q_26, .int 0, .long 0, .int 0])), (qc_7, .inl (cC_9, (nW p0) * (nB p1), .inl (fun _ => 0))), (qi_8, .inl (cI_10, nW p0, .inl (fun _ => 0))), (q_13, .inr (6, [.ref q_5, .ref q_11, .ref q_3, .ref l1_15, .ref l2_16, .ref l3_17, .int 0, .long 0, .int 0, .long 0])), (q_5, .inr (0, [.int (nI (nW p0)), .int (nI (nB p1)), .int 0, .ref qc_7, .ref qi_8, .int (-1), .int 0])), (q_22, .inr (7, [.int 0, .int 0, .int 0, .long 0])), (q_24, .inr (7, [.int 0, .int 0, .int 0, .long 0])), (q_26, .inr (7, [.int 0, .int 0, .int 0, .long 0]))] := hD
  refine lv_aload_n hx hb dX8_init_154 rfl (lv_at hl 3 rfl) ?_
  refine lv_iconst (v := 1) hx hb dX8_init_155 (by decide) ?_
  refine va_put (D := (dC, dI)) (ci := 8) (v := .int 1) (ty := .boolean) (C := RX8) (T := TX8) (N := 11) hx hb hts k_23 tyX8 tyX8_ok nmX8 hown hK hP hD hS 0 rfl rfl 10 (by decide) k_61 (fun _ h9 => h9) rfl (by decide +kernel) rfl rfl (Nat.le_of_ble_eq_true rfl) dX8_init_156 (fun H locs hP hD hS => ?_)
  have hP : va_P (dC, dI) vwCl [(h0, .inr (8, [.ref q_5, .ref q_11, .ref q_13, .ref q_18, .ref q_20, .ref q_22, .ref q_24, .ref q_26, .int 0, .long 0, .int 1])), (qc_7, .inl (cC_9, (nW p0) * (nB p1), .inl (fun _ => 0))), (qi_8, .inl (cI_10, nW p0, .inl (fun _ => 0))), (q_13, .inr (6, [.ref q_5, .ref q_11, .ref q_3, .ref l1_15, .ref l2_16, .ref l3_17, .int 0, .long 0, .int 0, .long 0])), (q_5, .inr (0, [.int (nI (nW p0)), .int (nI (nB p1)), .int 0, .ref qc_7, .ref qi_8, .int (-1), .int 0])), (q_22, .inr (7, [.int 0, .int 0, .int 0, .long 0])), (q_24, .inr (7, [.int 0, .int 0, .int 0, .long 0])), (q_26, .inr (7, [.int 0, .int 0, .int 0, .long 0]))] H := hP
  have hD : va_D A [(h0, .inr (8, [.ref q_5, .ref q_11, .ref q_13, .ref q_18, .ref q_20, .ref q_22, .ref q_24, .ref q_26, .int 0, .long 0, .int 1])), (qc_7, .inl (cC_9, (nW p0) * (nB p1), .inl (fun _ => 0))), (qi_8, .inl (cI_10, nW p0, .inl (fun _ => 0))), (q_13, .inr (6, [.ref q_5, .ref q_11, .ref q_3, .ref l1_15, .ref l2_16, .ref l3_17, .int 0, .long 0, .int 0, .long 0])), (q_5, .inr (0, [.int (nI (nW p0)), .int (nI (nB p1)), .int 0, .ref qc_7, .ref qi_8, .int (-1), .int 0])), (q_22, .inr (7, [.int 0, .int 0, .int 0, .long 0])), (q_24, .inr (7, [.int 0, .int 0, .int 0, .long 0])), (q_26, .inr (7, [.int 0, .int 0, .int 0, .long 0]))] := hD
  have hP9 := hP.sub (ws' := [(h0, .inr (8, [.ref q_5, .ref q_11, .ref q_13, .ref q_18, .ref q_20, .ref q_22, .ref q_24, .ref q_26, .int 0, .long 0, .int 1])), (q_5, .inr (0, [.int (nI (nW p0)), .int (nI (nB p1)), .int 0, .ref qc_7, .ref qi_8, .int (-1), .int 0])), (qc_7, .inl (cC_9, (nW p0) * (nB p1), .inl (fun _ => 0))), (qi_8, .inl (cI_10, nW p0, .inl (fun _ => 0))), (q_13, .inr (6, [.ref q_5, .ref q_11, .ref q_3, .ref l1_15, .ref l2_16, .ref l3_17, .int 0, .long 0, .int 0, .long 0])), (q_22, .inr (7, [.int 0, .int 0, .int 0, .long 0])), (q_24, .inr (7, [.int 0, .int 0, .int 0, .long 0])), (q_26, .inr (7, [.int 0, .int 0, .int 0, .long 0]))]) [0, 4, 1, 2, 3, 5, 6, 7] rfl
  have hD9 := hD.sub (ws' := [(h0, .inr (8, [.ref q_5, .ref q_11, .ref q_13, .ref q_18, .ref q_20, .ref q_22, .ref q_24, .ref q_26, .int 0, .long 0, .int 1])), (q_5, .inr (0, [.int (nI (nW p0)), .int (nI (nB p1)), .int 0, .ref qc_7, .ref qi_8, .int (-1), .int 0])), (qc_7, .inl (cC_9, (nW p0) * (nB p1), .inl (fun _ => 0))), (qi_8, .inl (cI_10, nW p0, .inl (fun _ => 0))), (q_13, .inr (6, [.ref q_5, .ref q_11, .ref q_3, .ref l1_15, .ref l2_16, .ref l3_17, .int 0, .long 0, .int 0, .long 0])), (q_22, .inr (7, [.int 0, .int 0, .int 0, .long 0])), (q_24, .inr (7, [.int 0, .int 0, .int 0, .long 0])), (q_26, .inr (7, [.int 0, .int 0, .int 0, .long 0]))]) [0, 4, 1, 2, 3, 5, 6, 7] (by decide) rfl
  have hK9 := hK.sub (tys' := [(cC_9, .int), (cI_10, .int)]) [0, 1] rfl
  exact W.vret hx hb hr (fun t ht hW => ⟨⟨(q_5, q_11, q_13, q_18, q_20, q_22, q_24, q_26, qc_7, qi_8, q_3, l1_15, l2_16, l3_17, cC_9, cI_10), rfl, trivial, by rw [ht]; exact hP9, va_K.moved hW.alike hK9, hD9⟩, hS.F ht⟩) hS.2.2 dX8_init_159
def v_X8_put : List Cond := .code yX8_put cX8_put 5 (some .int) :: ([.fieldLink RX8 77 "TwinRoots" "down" "Z"] ++ (wsX80 ++ ([])))
set_option maxHeartbeats 4000000 in
set_option maxRecDepth 100000 in
theorem c_X8_put (l : Launch) (dC : Nat → ClassId) (dI : Nat → Nat → Nat) (sz : Nat) (h0 : Nat) (qd : Nat) (qf : Nat) (qs : Nat) (qp : Nat) (qe : Nat) (q0 : Nat) (q1 : Nat) (qk : Nat) (lt : Int32) (fr : Int64) (p0 : Int32) (p1 : Int32) : Met l yX8_put v_X8_put ({ frames := 0, cells := 0, slots := 0, locals := 0 } : Room) (va_Pc [.ref h0, .int p0, .int p1] (fun U => U.heap.size = sz ∧ va_P (dC, dI) vwCl [(h0, .inr (8, [.ref qd, .ref qf, .ref qs, .ref qp, .ref qe, .ref q0, .ref q1, .ref qk, .int lt, .long fr, .int 1]))] U.heap ∧ va_K (dC, dI) vwCl [] U ∧ va_D (fun _ => True) [(h0, .inr (8, [.ref qd, .ref qf, .ref qs, .ref qp, .ref qe, .ref q0, .ref q1, .ref qk, .int lt, .long fr, .int 1]))])) (va_Qi (fun (r : Int32) (_ : Unit) => r = 3) (fun (_ : Unit) (t : State) => va_P (dC, dI) vwCl [(h0, .inr (8, [.ref qd, .ref qf, .ref qs, .ref qp, .ref qe, .ref q0, .ref q1, .ref qk, .int lt, .long fr, .int 1]))] t.heap ∧ va_K (dC, dI) vwCl [] t ∧ va_D (va_A [(h0, .inr (8, [.ref qd, .ref qf, .ref qs, .ref qp, .ref qe, .ref q0, .ref q1, .ref qk, .int lt, .long fr, .int 1]))] sz) [(h0, .inr (8, [.ref qd, .ref qf, .ref qs, .ref qp, .ref qe, .ref q0, .ref q1, .ref qk, .int lt, .long fr, .int 1]))]) (va_A [(h0, .inr (8, [.ref qd, .ref qf, .ref qs, .ref qp, .ref qe, .ref q0, .ref q1, .ref qk, .int lt, .long fr, .int 1]))] sz)) 0 0 (va_A [(h0, .inr (8, [.ref qd, .ref qf, .ref qs, .ref qp, .ref qe, .ref q0, .ref q1, .ref qk, .int lt, .long fr, .int 1]))] sz) := by
  refine Met.ofW (cc := cX8_put) (maxL := 5) (ret := (some .int)) (by decide) rfl ?_
  intro p e s m args below meth c s₁ B hml hv
  obtain ⟨rfl, hsz, hP, hK, hD0⟩ := hv
  have hx := B.exec
  have hb := B.bytes
  have hr := B.returns
  have hts := atoms_spec (ws := v_X8_put) B.pre
  have hown : s.vm.findClass RX8 = some m.cls := findClass_of_methodNamed B.named
  have hlocks := B.notSynchronized
  subst hsz
  have hD := hD0.self (sz := s.heap.size)
  generalize hAe : va_A [(h0, .inr (8, [.ref qd, .ref qf, .ref qs, .ref qp, .ref qe, .ref q0, .ref q1, .ref qk, .int lt, .long fr, .int 1]))] s.heap.size = A at hD ⊢
  have hA : ∀ q : Nat, s.heap.size ≤ q → A q := fun q h => by rw [← hAe]; exact Or.inr h
  have hS : va_S A s.heap s.heap [] := va_S.rf
  have hP : va_P (dC, dI) vwCl [(h0, .inr (8, [.ref qd, .ref qf, .ref qs, .ref qp, .ref qe, .ref q0, .ref q1, .ref qk, .int lt, .long fr, .int 1]))] s.heap := hP
  have hl := lv_entry ([.ref h0, .int p0, .int p1]) (n := 5) (Nat.le_of_ble_eq_true rfl)
  rw [lg_entry_eq]
  generalize (lg_sl ([.ref h0, .int p0, .int p1]) ++ List.replicate (5 - (lg_sl ([.ref h0, .int p0, .int p1])).length) Slot.unset).toArray = ls at hl ⊢
  have hl : lv_has ls 5 [(0, .ref h0), (1, .int p0), (2, .int p1)] := hl
  have k_1 := (fun _ h => List.mem_cons_of_mem _ (List.mem_append_right _ (List.mem_append_left _ h)) : ∀ w ∈ wsX80, w ∈ v_X8_put)
  have k_2 := hts (.fieldLink RX8 77 "TwinRoots" "down" "Z") (List.mem_of_getElem? (i := 1) rfl)
  refine lv_aload_n hx hb dX8_put_0 rfl (lv_at hl 0 rfl) ?_
  refine va_get (D := (dC, dI)) (ci := 8) (v := .int 1) (C := RX8) (T := TX8) (N := 11) hx hb hts k_1 hown hK hP 0 rfl rfl 10 (by decide) k_2 (fun _ h9 => h9) rfl dX8_put_1 ?_
  refine lv_if_eq (tgt := 9) hx hb dX8_put_4 (by decide) (fun c_1 => ?_) (fun c_1 => ?_)
  · exact absurd c_1 (by decide)
  refine lv_iconst (v := 3) hx hb dX8_put_7 (by decide) ?_
  have hP9 := hP.sub (ws' := [(h0, .inr (8, [.ref qd, .ref qf, .ref qs, .ref qp, .ref qe, .ref q0, .ref q1, .ref qk, .int lt, .long fr, .int 1]))]) [0] rfl
  have hD9 := hD.sub (ws' := [(h0, .inr (8, [.ref qd, .ref qf, .ref qs, .ref qp, .ref qe, .ref q0, .ref q1, .ref qk, .int lt, .long fr, .int 1]))]) [0] (by decide) rfl
  have hK9 := hK.sub (tys' := []) [] rfl
  exact W.iret (v := 3) hx hb hr (fun t ht hW => ⟨⟨3, (), rfl, rfl, by rw [ht]; exact hP9, va_K.moved hW.alike hK9, hD9⟩, hS.F ht⟩) hS.2.2 dX8_put_8
def v_X8_remove : List Cond := .code yX8_remove cX8_remove 3 (some .int) :: ([.fieldLink RX8 77 "TwinRoots" "down" "Z"] ++ (wsX80 ++ ([])))
set_option maxHeartbeats 4000000 in
set_option maxRecDepth 100000 in
theorem c_X8_remove (l : Launch) (dC : Nat → ClassId) (dI : Nat → Nat → Nat) (sz : Nat) (h0 : Nat) (qd : Nat) (qf : Nat) (qs : Nat) (qp : Nat) (qe : Nat) (q0 : Nat) (q1 : Nat) (qk : Nat) (lt : Int32) (fr : Int64) (p0 : Int32) : Met l yX8_remove v_X8_remove ({ frames := 0, cells := 0, slots := 0, locals := 0 } : Room) (va_Pc [.ref h0, .int p0] (fun U => U.heap.size = sz ∧ va_P (dC, dI) vwCl [(h0, .inr (8, [.ref qd, .ref qf, .ref qs, .ref qp, .ref qe, .ref q0, .ref q1, .ref qk, .int lt, .long fr, .int 1]))] U.heap ∧ va_K (dC, dI) vwCl [] U ∧ va_D (fun _ => True) [(h0, .inr (8, [.ref qd, .ref qf, .ref qs, .ref qp, .ref qe, .ref q0, .ref q1, .ref qk, .int lt, .long fr, .int 1]))])) (va_Qi (fun (r : Int32) (_ : Unit) => r = 3) (fun (_ : Unit) (t : State) => va_P (dC, dI) vwCl [(h0, .inr (8, [.ref qd, .ref qf, .ref qs, .ref qp, .ref qe, .ref q0, .ref q1, .ref qk, .int lt, .long fr, .int 1]))] t.heap ∧ va_K (dC, dI) vwCl [] t ∧ va_D (va_A [(h0, .inr (8, [.ref qd, .ref qf, .ref qs, .ref qp, .ref qe, .ref q0, .ref q1, .ref qk, .int lt, .long fr, .int 1]))] sz) [(h0, .inr (8, [.ref qd, .ref qf, .ref qs, .ref qp, .ref qe, .ref q0, .ref q1, .ref qk, .int lt, .long fr, .int 1]))]) (va_A [(h0, .inr (8, [.ref qd, .ref qf, .ref qs, .ref qp, .ref qe, .ref q0, .ref q1, .ref qk, .int lt, .long fr, .int 1]))] sz)) 0 0 (va_A [(h0, .inr (8, [.ref qd, .ref qf, .ref qs, .ref qp, .ref qe, .ref q0, .ref q1, .ref qk, .int lt, .long fr, .int 1]))] sz) := by
  refine Met.ofW (cc := cX8_remove) (maxL := 3) (ret := (some .int)) (by decide) rfl ?_
  intro p e s m args below meth c s₁ B hml hv
  obtain ⟨rfl, hsz, hP, hK, hD0⟩ := hv
  have hx := B.exec
  have hb := B.bytes
  have hr := B.returns
  have hts := atoms_spec (ws := v_X8_remove) B.pre
  have hown : s.vm.findClass RX8 = some m.cls := findClass_of_methodNamed B.named
  have hlocks := B.notSynchronized
  subst hsz
  have hD := hD0.self (sz := s.heap.size)
  generalize hAe : va_A [(h0, .inr (8, [.ref qd, .ref qf, .ref qs, .ref qp, .ref qe, .ref q0, .ref q1, .ref qk, .int lt, .long fr, .int 1]))] s.heap.size = A at hD ⊢
  have hA : ∀ q : Nat, s.heap.size ≤ q → A q := fun q h => by rw [← hAe]; exact Or.inr h
  have hS : va_S A s.heap s.heap [] := va_S.rf
  have hP : va_P (dC, dI) vwCl [(h0, .inr (8, [.ref qd, .ref qf, .ref qs, .ref qp, .ref qe, .ref q0, .ref q1, .ref qk, .int lt, .long fr, .int 1]))] s.heap := hP
  have hl := lv_entry ([.ref h0, .int p0]) (n := 3) (Nat.le_of_ble_eq_true rfl)
  rw [lg_entry_eq]
  generalize (lg_sl ([.ref h0, .int p0]) ++ List.replicate (3 - (lg_sl ([.ref h0, .int p0])).length) Slot.unset).toArray = ls at hl ⊢
  have hl : lv_has ls 3 [(0, .ref h0), (1, .int p0)] := hl
  have k_1 := (fun _ h => List.mem_cons_of_mem _ (List.mem_append_right _ (List.mem_append_left _ h)) : ∀ w ∈ wsX80, w ∈ v_X8_remove)
  have k_2 := hts (.fieldLink RX8 77 "TwinRoots" "down" "Z") (List.mem_of_getElem? (i := 1) rfl)
  refine lv_aload_n hx hb dX8_remove_0 rfl (lv_at hl 0 rfl) ?_
  refine va_get (D := (dC, dI)) (ci := 8) (v := .int 1) (C := RX8) (T := TX8) (N := 11) hx hb hts k_1 hown hK hP 0 rfl rfl 10 (by decide) k_2 (fun _ h9 => h9) rfl dX8_remove_1 ?_
  refine lv_if_eq (tgt := 9) hx hb dX8_remove_4 (by decide) (fun c_1 => ?_) (fun c_1 => ?_)
  · exact absurd c_1 (by decide)
  refine lv_iconst (v := 3) hx hb dX8_remove_7 (by decide) ?_
  have hP9 := hP.sub (ws' := [(h0, .inr (8, [.ref qd, .ref qf, .ref qs, .ref qp, .ref qe, .ref q0, .ref q1, .ref qk, .int lt, .long fr, .int 1]))]) [0] rfl
  have hD9 := hD.sub (ws' := [(h0, .inr (8, [.ref qd, .ref qf, .ref qs, .ref qp, .ref qe, .ref q0, .ref q1, .ref qk, .int lt, .long fr, .int 1]))]) [0] (by decide) rfl
  have hK9 := hK.sub (tys' := []) [] rfl
  exact W.iret (v := 3) hx hb hr (fun t ht hW => ⟨⟨3, (), rfl, rfl, by rw [ht]; exact hP9, va_K.moved hW.alike hK9, hD9⟩, hS.F ht⟩) hS.2.2 dX8_remove_8
def v_X8_get : List Cond := .code yX8_get cX8_get 2 (some .int) :: ([.fieldLink RX8 77 "TwinRoots" "down" "Z"] ++ (wsX80 ++ ([])))
set_option maxHeartbeats 4000000 in
set_option maxRecDepth 100000 in
theorem c_X8_get (l : Launch) (dC : Nat → ClassId) (dI : Nat → Nat → Nat) (sz : Nat) (h0 : Nat) (qd : Nat) (qf : Nat) (qs : Nat) (qp : Nat) (qe : Nat) (q0 : Nat) (q1 : Nat) (qk : Nat) (lt : Int32) (fr : Int64) (p0 : Int32) : Met l yX8_get v_X8_get ({ frames := 0, cells := 0, slots := 0, locals := 0 } : Room) (va_Pc [.ref h0, .int p0] (fun U => U.heap.size = sz ∧ va_P (dC, dI) vwCl [(h0, .inr (8, [.ref qd, .ref qf, .ref qs, .ref qp, .ref qe, .ref q0, .ref q1, .ref qk, .int lt, .long fr, .int 1]))] U.heap ∧ va_K (dC, dI) vwCl [] U ∧ va_D (fun _ => True) [(h0, .inr (8, [.ref qd, .ref qf, .ref qs, .ref qp, .ref qe, .ref q0, .ref q1, .ref qk, .int lt, .long fr, .int 1]))])) (va_Qi (fun (r : Int32) (_ : Unit) => r = 0) (fun (_ : Unit) (t : State) => va_P (dC, dI) vwCl [(h0, .inr (8, [.ref qd, .ref qf, .ref qs, .ref qp, .ref qe, .ref q0, .ref q1, .ref qk, .int lt, .long fr, .int 1]))] t.heap ∧ va_K (dC, dI) vwCl [] t ∧ va_D (va_A [(h0, .inr (8, [.ref qd, .ref qf, .ref qs, .ref qp, .ref qe, .ref q0, .ref q1, .ref qk, .int lt, .long fr, .int 1]))] sz) [(h0, .inr (8, [.ref qd, .ref qf, .ref qs, .ref qp, .ref qe, .ref q0, .ref q1, .ref qk, .int lt, .long fr, .int 1]))]) (va_A [(h0, .inr (8, [.ref qd, .ref qf, .ref qs, .ref qp, .ref qe, .ref q0, .ref q1, .ref qk, .int lt, .long fr, .int 1]))] sz)) 0 0 (va_A [(h0, .inr (8, [.ref qd, .ref qf, .ref qs, .ref qp, .ref qe, .ref q0, .ref q1, .ref qk, .int lt, .long fr, .int 1]))] sz) := by
  refine Met.ofW (cc := cX8_get) (maxL := 2) (ret := (some .int)) (by decide) rfl ?_
  intro p e s m args below meth c s₁ B hml hv
  obtain ⟨rfl, hsz, hP, hK, hD0⟩ := hv
  have hx := B.exec
  have hb := B.bytes
  have hr := B.returns
  have hts := atoms_spec (ws := v_X8_get) B.pre
  have hown : s.vm.findClass RX8 = some m.cls := findClass_of_methodNamed B.named
  have hlocks := B.notSynchronized
  subst hsz
  have hD := hD0.self (sz := s.heap.size)
  generalize hAe : va_A [(h0, .inr (8, [.ref qd, .ref qf, .ref qs, .ref qp, .ref qe, .ref q0, .ref q1, .ref qk, .int lt, .long fr, .int 1]))] s.heap.size = A at hD ⊢
  have hA : ∀ q : Nat, s.heap.size ≤ q → A q := fun q h => by rw [← hAe]; exact Or.inr h
  have hS : va_S A s.heap s.heap [] := va_S.rf
  have hP : va_P (dC, dI) vwCl [(h0, .inr (8, [.ref qd, .ref qf, .ref qs, .ref qp, .ref qe, .ref q0, .ref q1, .ref qk, .int lt, .long fr, .int 1]))] s.heap := hP
  have hl := lv_entry ([.ref h0, .int p0]) (n := 2) (Nat.le_of_ble_eq_true rfl)
  rw [lg_entry_eq]
  generalize (lg_sl ([.ref h0, .int p0]) ++ List.replicate (2 - (lg_sl ([.ref h0, .int p0])).length) Slot.unset).toArray = ls at hl ⊢
  have hl : lv_has ls 2 [(0, .ref h0), (1, .int p0)] := hl
  have k_1 := (fun _ h => List.mem_cons_of_mem _ (List.mem_append_right _ (List.mem_append_left _ h)) : ∀ w ∈ wsX80, w ∈ v_X8_get)
  have k_2 := hts (.fieldLink RX8 77 "TwinRoots" "down" "Z") (List.mem_of_getElem? (i := 1) rfl)
  refine lv_aload_n hx hb dX8_get_0 rfl (lv_at hl 0 rfl) ?_
  refine va_get (D := (dC, dI)) (ci := 8) (v := .int 1) (C := RX8) (T := TX8) (N := 11) hx hb hts k_1 hown hK hP 0 rfl rfl 10 (by decide) k_2 (fun _ h9 => h9) rfl dX8_get_1 ?_
  refine lv_if_eq (tgt := 11) hx hb dX8_get_4 (by decide) (fun c_1 => ?_) (fun c_1 => ?_)
  · exact absurd c_1 (by decide)
  refine lv_iconst (v := 0) hx hb dX8_get_7 (by decide) ?_
  refine lv_goto (tgt := 30) hx hb dX8_get_8 (by decide) ?_
  have hP9 := hP.sub (ws' := [(h0, .inr (8, [.ref qd, .ref qf, .ref qs, .ref qp, .ref qe, .ref q0, .ref q1, .ref qk, .int lt, .long fr, .int 1]))]) [0] rfl
  have hD9 := hD.sub (ws' := [(h0, .inr (8, [.ref qd, .ref qf, .ref qs, .ref qp, .ref qe, .ref q0, .ref q1, .ref qk, .int lt, .long fr, .int 1]))]) [0] (by decide) rfl
  have hK9 := hK.sub (tys' := []) [] rfl
  exact W.iret (v := 0) hx hb hr (fun t ht hW => ⟨⟨0, (), rfl, rfl, by rw [ht]; exact hP9, va_K.moved hW.alike hK9, hD9⟩, hS.F ht⟩) hS.2.2 dX8_get_30
def v_X8_contains : List Cond := .code yX8_contains cX8_contains 2 (some .boolean) :: ([.fieldLink RX8 77 "TwinRoots" "down" "Z"] ++ (wsX80 ++ ([])))
set_option maxHeartbeats 4000000 in
set_option maxRecDepth 100000 in
theorem c_X8_contains (l : Launch) (dC : Nat → ClassId) (dI : Nat → Nat → Nat) (sz : Nat) (h0 : Nat) (qd : Nat) (qf : Nat) (qs : Nat) (qp : Nat) (qe : Nat) (q0 : Nat) (q1 : Nat) (qk : Nat) (lt : Int32) (fr : Int64) (p0 : Int32) : Met l yX8_contains v_X8_contains ({ frames := 0, cells := 0, slots := 0, locals := 0 } : Room) (va_Pc [.ref h0, .int p0] (fun U => U.heap.size = sz ∧ va_P (dC, dI) vwCl [(h0, .inr (8, [.ref qd, .ref qf, .ref qs, .ref qp, .ref qe, .ref q0, .ref q1, .ref qk, .int lt, .long fr, .int 1]))] U.heap ∧ va_K (dC, dI) vwCl [] U ∧ va_D (fun _ => True) [(h0, .inr (8, [.ref qd, .ref qf, .ref qs, .ref qp, .ref qe, .ref q0, .ref q1, .ref qk, .int lt, .long fr, .int 1]))])) (va_Qi (fun (r : Int32) (_ : Unit) => r = 0) (fun (_ : Unit) (t : State) => va_P (dC, dI) vwCl [(h0, .inr (8, [.ref qd, .ref qf, .ref qs, .ref qp, .ref qe, .ref q0, .ref q1, .ref qk, .int lt, .long fr, .int 1]))] t.heap ∧ va_K (dC, dI) vwCl [] t ∧ va_D (va_A [(h0, .inr (8, [.ref qd, .ref qf, .ref qs, .ref qp, .ref qe, .ref q0, .ref q1, .ref qk, .int lt, .long fr, .int 1]))] sz) [(h0, .inr (8, [.ref qd, .ref qf, .ref qs, .ref qp, .ref qe, .ref q0, .ref q1, .ref qk, .int lt, .long fr, .int 1]))]) (va_A [(h0, .inr (8, [.ref qd, .ref qf, .ref qs, .ref qp, .ref qe, .ref q0, .ref q1, .ref qk, .int lt, .long fr, .int 1]))] sz)) 0 0 (va_A [(h0, .inr (8, [.ref qd, .ref qf, .ref qs, .ref qp, .ref qe, .ref q0, .ref q1, .ref qk, .int lt, .long fr, .int 1]))] sz) := by
  refine Met.ofW (cc := cX8_contains) (maxL := 2) (ret := (some .boolean)) (by decide) rfl ?_
  intro p e s m args below meth c s₁ B hml hv
  obtain ⟨rfl, hsz, hP, hK, hD0⟩ := hv
  have hx := B.exec
  have hb := B.bytes
  have hr := B.returns
  have hts := atoms_spec (ws := v_X8_contains) B.pre
  have hown : s.vm.findClass RX8 = some m.cls := findClass_of_methodNamed B.named
  have hlocks := B.notSynchronized
  subst hsz
  have hD := hD0.self (sz := s.heap.size)
  generalize hAe : va_A [(h0, .inr (8, [.ref qd, .ref qf, .ref qs, .ref qp, .ref qe, .ref q0, .ref q1, .ref qk, .int lt, .long fr, .int 1]))] s.heap.size = A at hD ⊢
  have hA : ∀ q : Nat, s.heap.size ≤ q → A q := fun q h => by rw [← hAe]; exact Or.inr h
  have hS : va_S A s.heap s.heap [] := va_S.rf
  have hP : va_P (dC, dI) vwCl [(h0, .inr (8, [.ref qd, .ref qf, .ref qs, .ref qp, .ref qe, .ref q0, .ref q1, .ref qk, .int lt, .long fr, .int 1]))] s.heap := hP
  have hl := lv_entry ([.ref h0, .int p0]) (n := 2) (Nat.le_of_ble_eq_true rfl)
  rw [lg_entry_eq]
  generalize (lg_sl ([.ref h0, .int p0]) ++ List.replicate (2 - (lg_sl ([.ref h0, .int p0])).length) Slot.unset).toArray = ls at hl ⊢
  have hl : lv_has ls 2 [(0, .ref h0), (1, .int p0)] := hl
  have k_1 := (fun _ h => List.mem_cons_of_mem _ (List.mem_append_right _ (List.mem_append_left _ h)) : ∀ w ∈ wsX80, w ∈ v_X8_contains)
  have k_2 := hts (.fieldLink RX8 77 "TwinRoots" "down" "Z") (List.mem_of_getElem? (i := 1) rfl)
  refine lv_aload_n hx hb dX8_contains_0 rfl (lv_at hl 0 rfl) ?_
  refine va_get (D := (dC, dI)) (ci := 8) (v := .int 1) (C := RX8) (T := TX8) (N := 11) hx hb hts k_1 hown hK hP 0 rfl rfl 10 (by decide) k_2 (fun _ h9 => h9) rfl dX8_contains_1 ?_
  refine lv_if_ne (tgt := 33) hx hb dX8_contains_4 (by decide) (fun c_1 => ?_) (fun c_1 => ?_)
  rotate_left
  · exact absurd c_1 (by decide)
  refine lv_iconst (v := 0) hx hb dX8_contains_33 (by decide) ?_
  have hP9 := hP.sub (ws' := [(h0, .inr (8, [.ref qd, .ref qf, .ref qs, .ref qp, .ref qe, .ref q0, .ref q1, .ref qk, .int lt, .long fr, .int 1]))]) [0] rfl
  have hD9 := hD.sub (ws' := [(h0, .inr (8, [.ref qd, .ref qf, .ref qs, .ref qp, .ref qe, .ref q0, .ref q1, .ref qk, .int lt, .long fr, .int 1]))]) [0] (by decide) rfl
  have hK9 := hK.sub (tys' := []) [] rfl
  exact W.zret (v := 0) hx hb hr rfl (fun t ht hW => ⟨⟨0, (), rfl, rfl, by rw [ht]; exact hP9, va_K.moved hW.alike hK9, hD9⟩, hS.F ht⟩) hS.2.2 dX8_contains_34
def v_X8_was : List Cond := .code yX8_was cX8_was 2 (some .int) :: ([.fieldLink RX8 77 "TwinRoots" "down" "Z"] ++ (wsX80 ++ ([])))
set_option maxHeartbeats 4000000 in
set_option maxRecDepth 100000 in
theorem c_X8_was (l : Launch) (dC : Nat → ClassId) (dI : Nat → Nat → Nat) (sz : Nat) (h0 : Nat) (qd : Nat) (qf : Nat) (qs : Nat) (qp : Nat) (qe : Nat) (q0 : Nat) (q1 : Nat) (qk : Nat) (lt : Int32) (fr : Int64) (p0 : Int32) : Met l yX8_was v_X8_was ({ frames := 0, cells := 0, slots := 0, locals := 0 } : Room) (va_Pc [.ref h0, .int p0] (fun U => U.heap.size = sz ∧ va_P (dC, dI) vwCl [(h0, .inr (8, [.ref qd, .ref qf, .ref qs, .ref qp, .ref qe, .ref q0, .ref q1, .ref qk, .int lt, .long fr, .int 1]))] U.heap ∧ va_K (dC, dI) vwCl [] U ∧ va_D (fun _ => True) [(h0, .inr (8, [.ref qd, .ref qf, .ref qs, .ref qp, .ref qe, .ref q0, .ref q1, .ref qk, .int lt, .long fr, .int 1]))])) (va_Qi (fun (r : Int32) (_ : Unit) => r = 0) (fun (_ : Unit) (t : State) => va_P (dC, dI) vwCl [(h0, .inr (8, [.ref qd, .ref qf, .ref qs, .ref qp, .ref qe, .ref q0, .ref q1, .ref qk, .int lt, .long fr, .int 1]))] t.heap ∧ va_K (dC, dI) vwCl [] t ∧ va_D (va_A [(h0, .inr (8, [.ref qd, .ref qf, .ref qs, .ref qp, .ref qe, .ref q0, .ref q1, .ref qk, .int lt, .long fr, .int 1]))] sz) [(h0, .inr (8, [.ref qd, .ref qf, .ref qs, .ref qp, .ref qe, .ref q0, .ref q1, .ref qk, .int lt, .long fr, .int 1]))]) (va_A [(h0, .inr (8, [.ref qd, .ref qf, .ref qs, .ref qp, .ref qe, .ref q0, .ref q1, .ref qk, .int lt, .long fr, .int 1]))] sz)) 0 0 (va_A [(h0, .inr (8, [.ref qd, .ref qf, .ref qs, .ref qp, .ref qe, .ref q0, .ref q1, .ref qk, .int lt, .long fr, .int 1]))] sz) := by
  refine Met.ofW (cc := cX8_was) (maxL := 2) (ret := (some .int)) (by decide) rfl ?_
  intro p e s m args below meth c s₁ B hml hv
  obtain ⟨rfl, hsz, hP, hK, hD0⟩ := hv
  have hx := B.exec
  have hb := B.bytes
  have hr := B.returns
  have hts := atoms_spec (ws := v_X8_was) B.pre
  have hown : s.vm.findClass RX8 = some m.cls := findClass_of_methodNamed B.named
  have hlocks := B.notSynchronized
  subst hsz
  have hD := hD0.self (sz := s.heap.size)
  generalize hAe : va_A [(h0, .inr (8, [.ref qd, .ref qf, .ref qs, .ref qp, .ref qe, .ref q0, .ref q1, .ref qk, .int lt, .long fr, .int 1]))] s.heap.size = A at hD ⊢
  have hA : ∀ q : Nat, s.heap.size ≤ q → A q := fun q h => by rw [← hAe]; exact Or.inr h
  have hS : va_S A s.heap s.heap [] := va_S.rf
  have hP : va_P (dC, dI) vwCl [(h0, .inr (8, [.ref qd, .ref qf, .ref qs, .ref qp, .ref qe, .ref q0, .ref q1, .ref qk, .int lt, .long fr, .int 1]))] s.heap := hP
  have hl := lv_entry ([.ref h0, .int p0]) (n := 2) (Nat.le_of_ble_eq_true rfl)
  rw [lg_entry_eq]
  generalize (lg_sl ([.ref h0, .int p0]) ++ List.replicate (2 - (lg_sl ([.ref h0, .int p0])).length) Slot.unset).toArray = ls at hl ⊢
  have hl : lv_has ls 2 [(0, .ref h0), (1, .int p0)] := hl
  have k_1 := (fun _ h => List.mem_cons_of_mem _ (List.mem_append_right _ (List.mem_append_left _ h)) : ∀ w ∈ wsX80, w ∈ v_X8_was)
  have k_2 := hts (.fieldLink RX8 77 "TwinRoots" "down" "Z") (List.mem_of_getElem? (i := 1) rfl)
  refine lv_aload_n hx hb dX8_was_0 rfl (lv_at hl 0 rfl) ?_
  refine va_get (D := (dC, dI)) (ci := 8) (v := .int 1) (C := RX8) (T := TX8) (N := 11) hx hb hts k_1 hown hK hP 0 rfl rfl 10 (by decide) k_2 (fun _ h9 => h9) rfl dX8_was_1 ?_
  refine lv_if_eq (tgt := 11) hx hb dX8_was_4 (by decide) (fun c_1 => ?_) (fun c_1 => ?_)
  · exact absurd c_1 (by decide)
  refine lv_iconst (v := 0) hx hb dX8_was_7 (by decide) ?_
  refine lv_goto (tgt := 34) hx hb dX8_was_8 (by decide) ?_
  have hP9 := hP.sub (ws' := [(h0, .inr (8, [.ref qd, .ref qf, .ref qs, .ref qp, .ref qe, .ref q0, .ref q1, .ref qk, .int lt, .long fr, .int 1]))]) [0] rfl
  have hD9 := hD.sub (ws' := [(h0, .inr (8, [.ref qd, .ref qf, .ref qs, .ref qp, .ref qe, .ref q0, .ref q1, .ref qk, .int lt, .long fr, .int 1]))]) [0] (by decide) rfl
  have hK9 := hK.sub (tys' := []) [] rfl
  exact W.iret (v := 0) hx hb hr (fun t ht hW => ⟨⟨0, (), rfl, rfl, by rw [ht]; exact hP9, va_K.moved hW.alike hK9, hD9⟩, hS.F ht⟩) hS.2.2 dX8_was_34
def v_X8_size : List Cond := .code yX8_size cX8_size 1 (some .int) :: ([.fieldLink RX8 77 "TwinRoots" "down" "Z"] ++ (wsX80 ++ ([])))
set_option maxHeartbeats 4000000 in
set_option maxRecDepth 100000 in
theorem c_X8_size (l : Launch) (dC : Nat → ClassId) (dI : Nat → Nat → Nat) (sz : Nat) (h0 : Nat) (qd : Nat) (qf : Nat) (qs : Nat) (qp : Nat) (qe : Nat) (q0 : Nat) (q1 : Nat) (qk : Nat) (lt : Int32) (fr : Int64) : Met l yX8_size v_X8_size ({ frames := 0, cells := 0, slots := 0, locals := 0 } : Room) (va_Pc [.ref h0] (fun U => U.heap.size = sz ∧ va_P (dC, dI) vwCl [(h0, .inr (8, [.ref qd, .ref qf, .ref qs, .ref qp, .ref qe, .ref q0, .ref q1, .ref qk, .int lt, .long fr, .int 1]))] U.heap ∧ va_K (dC, dI) vwCl [] U ∧ va_D (fun _ => True) [(h0, .inr (8, [.ref qd, .ref qf, .ref qs, .ref qp, .ref qe, .ref q0, .ref q1, .ref qk, .int lt, .long fr, .int 1]))])) (va_Qi (fun (r : Int32) (_ : Unit) => r = -1) (fun (_ : Unit) (t : State) => va_P (dC, dI) vwCl [(h0, .inr (8, [.ref qd, .ref qf, .ref qs, .ref qp, .ref qe, .ref q0, .ref q1, .ref qk, .int lt, .long fr, .int 1]))] t.heap ∧ va_K (dC, dI) vwCl [] t ∧ va_D (va_A [(h0, .inr (8, [.ref qd, .ref qf, .ref qs, .ref qp, .ref qe, .ref q0, .ref q1, .ref qk, .int lt, .long fr, .int 1]))] sz) [(h0, .inr (8, [.ref qd, .ref qf, .ref qs, .ref qp, .ref qe, .ref q0, .ref q1, .ref qk, .int lt, .long fr, .int 1]))]) (va_A [(h0, .inr (8, [.ref qd, .ref qf, .ref qs, .ref qp, .ref qe, .ref q0, .ref q1, .ref qk, .int lt, .long fr, .int 1]))] sz)) 0 0 (va_A [(h0, .inr (8, [.ref qd, .ref qf, .ref qs, .ref qp, .ref qe, .ref q0, .ref q1, .ref qk, .int lt, .long fr, .int 1]))] sz) := by
  refine Met.ofW (cc := cX8_size) (maxL := 1) (ret := (some .int)) (by decide) rfl ?_
  intro p e s m args below meth c s₁ B hml hv
  obtain ⟨rfl, hsz, hP, hK, hD0⟩ := hv
  have hx := B.exec
  have hb := B.bytes
  have hr := B.returns
  have hts := atoms_spec (ws := v_X8_size) B.pre
  have hown : s.vm.findClass RX8 = some m.cls := findClass_of_methodNamed B.named
  have hlocks := B.notSynchronized
  subst hsz
  have hD := hD0.self (sz := s.heap.size)
  generalize hAe : va_A [(h0, .inr (8, [.ref qd, .ref qf, .ref qs, .ref qp, .ref qe, .ref q0, .ref q1, .ref qk, .int lt, .long fr, .int 1]))] s.heap.size = A at hD ⊢
  have hA : ∀ q : Nat, s.heap.size ≤ q → A q := fun q h => by rw [← hAe]; exact Or.inr h
  have hS : va_S A s.heap s.heap [] := va_S.rf
  have hP : va_P (dC, dI) vwCl [(h0, .inr (8, [.ref qd, .ref qf, .ref qs, .ref qp, .ref qe, .ref q0, .ref q1, .ref qk, .int lt, .long fr, .int 1]))] s.heap := hP
  have hl := lv_entry ([.ref h0]) (n := 1) (Nat.le_of_ble_eq_true rfl)
  rw [lg_entry_eq]
  generalize (lg_sl ([.ref h0]) ++ List.replicate (1 - (lg_sl ([.ref h0])).length) Slot.unset).toArray = ls at hl ⊢
  have hl : lv_has ls 1 [(0, .ref h0)] := hl
  have k_1 := (fun _ h => List.mem_cons_of_mem _ (List.mem_append_right _ (List.mem_append_left _ h)) : ∀ w ∈ wsX80, w ∈ v_X8_size)
  have k_2 := hts (.fieldLink RX8 77 "TwinRoots" "down" "Z") (List.mem_of_getElem? (i := 1) rfl)
  refine lv_aload_n hx hb dX8_size_0 rfl (lv_at hl 0 rfl) ?_
  refine va_get (D := (dC, dI)) (ci := 8) (v := .int 1) (C := RX8) (T := TX8) (N := 11) hx hb hts k_1 hown hK hP 0 rfl rfl 10 (by decide) k_2 (fun _ h9 => h9) rfl dX8_size_1 ?_
  refine lv_if_eq (tgt := 11) hx hb dX8_size_4 (by decide) (fun c_1 => ?_) (fun c_1 => ?_)
  · exact absurd c_1 (by decide)
  refine lv_iconst (v := -1) hx hb dX8_size_7 (by decide) ?_
  refine lv_goto (tgt := 18) hx hb dX8_size_8 (by decide) ?_
  have hP9 := hP.sub (ws' := [(h0, .inr (8, [.ref qd, .ref qf, .ref qs, .ref qp, .ref qe, .ref q0, .ref q1, .ref qk, .int lt, .long fr, .int 1]))]) [0] rfl
  have hD9 := hD.sub (ws' := [(h0, .inr (8, [.ref qd, .ref qf, .ref qs, .ref qp, .ref qe, .ref q0, .ref q1, .ref qk, .int lt, .long fr, .int 1]))]) [0] (by decide) rfl
  have hK9 := hK.sub (tys' := []) [] rfl
  exact W.iret (v := (-1)) hx hb hr (fun t ht hW => ⟨⟨(-1), (), rfl, rfl, by rw [ht]; exact hP9, va_K.moved hW.alike hK9, hD9⟩, hS.F ht⟩) hS.2.2 dX8_size_18
def v_X8_rank : List Cond := .code yX8_rank cX8_rank 4 (some .int) :: ([.fieldLink RX8 77 "TwinRoots" "down" "Z"] ++ (wsX80 ++ ([])))
set_option maxHeartbeats 4000000 in
set_option maxRecDepth 100000 in
theorem c_X8_rank (l : Launch) (dC : Nat → ClassId) (dI : Nat → Nat → Nat) (sz : Nat) (h0 : Nat) (qd : Nat) (qf : Nat) (qs : Nat) (qp : Nat) (qe : Nat) (q0 : Nat) (q1 : Nat) (qk : Nat) (lt : Int32) (fr : Int64) (p0 : Int32) : Met l yX8_rank v_X8_rank ({ frames := 0, cells := 0, slots := 0, locals := 0 } : Room) (va_Pc [.ref h0, .int p0] (fun U => U.heap.size = sz ∧ va_P (dC, dI) vwCl [(h0, .inr (8, [.ref qd, .ref qf, .ref qs, .ref qp, .ref qe, .ref q0, .ref q1, .ref qk, .int lt, .long fr, .int 1]))] U.heap ∧ va_K (dC, dI) vwCl [] U ∧ va_D (fun _ => True) [(h0, .inr (8, [.ref qd, .ref qf, .ref qs, .ref qp, .ref qe, .ref q0, .ref q1, .ref qk, .int lt, .long fr, .int 1]))])) (va_Qi (fun (r : Int32) (_ : Unit) => r = -1) (fun (_ : Unit) (t : State) => va_P (dC, dI) vwCl [(h0, .inr (8, [.ref qd, .ref qf, .ref qs, .ref qp, .ref qe, .ref q0, .ref q1, .ref qk, .int lt, .long fr, .int 1]))] t.heap ∧ va_K (dC, dI) vwCl [] t ∧ va_D (va_A [(h0, .inr (8, [.ref qd, .ref qf, .ref qs, .ref qp, .ref qe, .ref q0, .ref q1, .ref qk, .int lt, .long fr, .int 1]))] sz) [(h0, .inr (8, [.ref qd, .ref qf, .ref qs, .ref qp, .ref qe, .ref q0, .ref q1, .ref qk, .int lt, .long fr, .int 1]))]) (va_A [(h0, .inr (8, [.ref qd, .ref qf, .ref qs, .ref qp, .ref qe, .ref q0, .ref q1, .ref qk, .int lt, .long fr, .int 1]))] sz)) 0 0 (va_A [(h0, .inr (8, [.ref qd, .ref qf, .ref qs, .ref qp, .ref qe, .ref q0, .ref q1, .ref qk, .int lt, .long fr, .int 1]))] sz) := by
  refine Met.ofW (cc := cX8_rank) (maxL := 4) (ret := (some .int)) (by decide) rfl ?_
  intro p e s m args below meth c s₁ B hml hv
  obtain ⟨rfl, hsz, hP, hK, hD0⟩ := hv
  have hx := B.exec
  have hb := B.bytes
  have hr := B.returns
  have hts := atoms_spec (ws := v_X8_rank) B.pre
  have hown : s.vm.findClass RX8 = some m.cls := findClass_of_methodNamed B.named
  have hlocks := B.notSynchronized
  subst hsz
  have hD := hD0.self (sz := s.heap.size)
  generalize hAe : va_A [(h0, .inr (8, [.ref qd, .ref qf, .ref qs, .ref qp, .ref qe, .ref q0, .ref q1, .ref qk, .int lt, .long fr, .int 1]))] s.heap.size = A at hD ⊢
  have hA : ∀ q : Nat, s.heap.size ≤ q → A q := fun q h => by rw [← hAe]; exact Or.inr h
  have hS : va_S A s.heap s.heap [] := va_S.rf
  have hP : va_P (dC, dI) vwCl [(h0, .inr (8, [.ref qd, .ref qf, .ref qs, .ref qp, .ref qe, .ref q0, .ref q1, .ref qk, .int lt, .long fr, .int 1]))] s.heap := hP
  have hl := lv_entry ([.ref h0, .int p0]) (n := 4) (Nat.le_of_ble_eq_true rfl)
  rw [lg_entry_eq]
  generalize (lg_sl ([.ref h0, .int p0]) ++ List.replicate (4 - (lg_sl ([.ref h0, .int p0])).length) Slot.unset).toArray = ls at hl ⊢
  have hl : lv_has ls 4 [(0, .ref h0), (1, .int p0)] := hl
  have k_1 := (fun _ h => List.mem_cons_of_mem _ (List.mem_append_right _ (List.mem_append_left _ h)) : ∀ w ∈ wsX80, w ∈ v_X8_rank)
  have k_2 := hts (.fieldLink RX8 77 "TwinRoots" "down" "Z") (List.mem_of_getElem? (i := 1) rfl)
  refine lv_aload_n hx hb dX8_rank_0 rfl (lv_at hl 0 rfl) ?_
  refine va_get (D := (dC, dI)) (ci := 8) (v := .int 1) (C := RX8) (T := TX8) (N := 11) hx hb hts k_1 hown hK hP 0 rfl rfl 10 (by decide) k_2 (fun _ h9 => h9) rfl dX8_rank_1 ?_
  refine lv_if_eq (tgt := 9) hx hb dX8_rank_4 (by decide) (fun c_1 => ?_) (fun c_1 => ?_)
  · exact absurd c_1 (by decide)
  refine lv_iconst (v := -1) hx hb dX8_rank_7 (by decide) ?_
  have hP9 := hP.sub (ws' := [(h0, .inr (8, [.ref qd, .ref qf, .ref qs, .ref qp, .ref qe, .ref q0, .ref q1, .ref qk, .int lt, .long fr, .int 1]))]) [0] rfl
  have hD9 := hD.sub (ws' := [(h0, .inr (8, [.ref qd, .ref qf, .ref qs, .ref qp, .ref qe, .ref q0, .ref q1, .ref qk, .int lt, .long fr, .int 1]))]) [0] (by decide) rfl
  have hK9 := hK.sub (tys' := []) [] rfl
  exact W.iret (v := (-1)) hx hb hr (fun t ht hW => ⟨⟨(-1), (), rfl, rfl, by rw [ht]; exact hP9, va_K.moved hW.alike hK9, hD9⟩, hS.F ht⟩) hS.2.2 dX8_rank_8
def v_X8_key : List Cond := .code yX8_key cX8_key 5 (some .int) :: ([.fieldLink RX8 77 "TwinRoots" "down" "Z"] ++ (wsX80 ++ ([])))
set_option maxHeartbeats 4000000 in
set_option maxRecDepth 100000 in
theorem c_X8_key (l : Launch) (dC : Nat → ClassId) (dI : Nat → Nat → Nat) (sz : Nat) (h0 : Nat) (qd : Nat) (qf : Nat) (qs : Nat) (qp : Nat) (qe : Nat) (q0 : Nat) (q1 : Nat) (qk : Nat) (lt : Int32) (fr : Int64) (p0 : Int32) : Met l yX8_key v_X8_key ({ frames := 0, cells := 0, slots := 0, locals := 0 } : Room) (va_Pc [.ref h0, .int p0] (fun U => U.heap.size = sz ∧ va_P (dC, dI) vwCl [(h0, .inr (8, [.ref qd, .ref qf, .ref qs, .ref qp, .ref qe, .ref q0, .ref q1, .ref qk, .int lt, .long fr, .int 1]))] U.heap ∧ va_K (dC, dI) vwCl [] U ∧ va_D (fun _ => True) [(h0, .inr (8, [.ref qd, .ref qf, .ref qs, .ref qp, .ref qe, .ref q0, .ref q1, .ref qk, .int lt, .long fr, .int 1]))])) (va_Qi (fun (r : Int32) (_ : Unit) => r = 0) (fun (_ : Unit) (t : State) => va_P (dC, dI) vwCl [(h0, .inr (8, [.ref qd, .ref qf, .ref qs, .ref qp, .ref qe, .ref q0, .ref q1, .ref qk, .int lt, .long fr, .int 1]))] t.heap ∧ va_K (dC, dI) vwCl [] t ∧ va_D (va_A [(h0, .inr (8, [.ref qd, .ref qf, .ref qs, .ref qp, .ref qe, .ref q0, .ref q1, .ref qk, .int lt, .long fr, .int 1]))] sz) [(h0, .inr (8, [.ref qd, .ref qf, .ref qs, .ref qp, .ref qe, .ref q0, .ref q1, .ref qk, .int lt, .long fr, .int 1]))]) (va_A [(h0, .inr (8, [.ref qd, .ref qf, .ref qs, .ref qp, .ref qe, .ref q0, .ref q1, .ref qk, .int lt, .long fr, .int 1]))] sz)) 0 0 (va_A [(h0, .inr (8, [.ref qd, .ref qf, .ref qs, .ref qp, .ref qe, .ref q0, .ref q1, .ref qk, .int lt, .long fr, .int 1]))] sz) := by
  refine Met.ofW (cc := cX8_key) (maxL := 5) (ret := (some .int)) (by decide) rfl ?_
  intro p e s m args below meth c s₁ B hml hv
  obtain ⟨rfl, hsz, hP, hK, hD0⟩ := hv
  have hx := B.exec
  have hb := B.bytes
  have hr := B.returns
  have hts := atoms_spec (ws := v_X8_key) B.pre
  have hown : s.vm.findClass RX8 = some m.cls := findClass_of_methodNamed B.named
  have hlocks := B.notSynchronized
  subst hsz
  have hD := hD0.self (sz := s.heap.size)
  generalize hAe : va_A [(h0, .inr (8, [.ref qd, .ref qf, .ref qs, .ref qp, .ref qe, .ref q0, .ref q1, .ref qk, .int lt, .long fr, .int 1]))] s.heap.size = A at hD ⊢
  have hA : ∀ q : Nat, s.heap.size ≤ q → A q := fun q h => by rw [← hAe]; exact Or.inr h
  have hS : va_S A s.heap s.heap [] := va_S.rf
  have hP : va_P (dC, dI) vwCl [(h0, .inr (8, [.ref qd, .ref qf, .ref qs, .ref qp, .ref qe, .ref q0, .ref q1, .ref qk, .int lt, .long fr, .int 1]))] s.heap := hP
  have hl := lv_entry ([.ref h0, .int p0]) (n := 5) (Nat.le_of_ble_eq_true rfl)
  rw [lg_entry_eq]
  generalize (lg_sl ([.ref h0, .int p0]) ++ List.replicate (5 - (lg_sl ([.ref h0, .int p0])).length) Slot.unset).toArray = ls at hl ⊢
  have hl : lv_has ls 5 [(0, .ref h0), (1, .int p0)] := hl
  have k_1 := (fun _ h => List.mem_cons_of_mem _ (List.mem_append_right _ (List.mem_append_left _ h)) : ∀ w ∈ wsX80, w ∈ v_X8_key)
  have k_2 := hts (.fieldLink RX8 77 "TwinRoots" "down" "Z") (List.mem_of_getElem? (i := 1) rfl)
  refine lv_aload_n hx hb dX8_key_0 rfl (lv_at hl 0 rfl) ?_
  refine va_get (D := (dC, dI)) (ci := 8) (v := .int 1) (C := RX8) (T := TX8) (N := 11) hx hb hts k_1 hown hK hP 0 rfl rfl 10 (by decide) k_2 (fun _ h9 => h9) rfl dX8_key_1 ?_
  refine lv_if_ne (tgt := 11) hx hb dX8_key_4 (by decide) (fun c_1 => ?_) (fun c_1 => ?_)
  rotate_left
  · exact absurd c_1 (by decide)
  refine lv_iconst (v := 0) hx hb dX8_key_11 (by decide) ?_
  have hP9 := hP.sub (ws' := [(h0, .inr (8, [.ref qd, .ref qf, .ref qs, .ref qp, .ref qe, .ref q0, .ref q1, .ref qk, .int lt, .long fr, .int 1]))]) [0] rfl
  have hD9 := hD.sub (ws' := [(h0, .inr (8, [.ref qd, .ref qf, .ref qs, .ref qp, .ref qe, .ref q0, .ref q1, .ref qk, .int lt, .long fr, .int 1]))]) [0] (by decide) rfl
  have hK9 := hK.sub (tys' := []) [] rfl
  exact W.iret (v := 0) hx hb hr (fun t ht hW => ⟨⟨0, (), rfl, rfl, by rw [ht]; exact hP9, va_K.moved hW.alike hK9, hD9⟩, hS.F ht⟩) hS.2.2 dX8_key_12
def v_X8_sum : List Cond := .code yX8_sum cX8_sum 5 (some .int) :: ([.fieldLink RX8 77 "TwinRoots" "down" "Z"] ++ (wsX80 ++ ([])))
set_option maxHeartbeats 4000000 in
set_option maxRecDepth 100000 in
theorem c_X8_sum (l : Launch) (dC : Nat → ClassId) (dI : Nat → Nat → Nat) (sz : Nat) (h0 : Nat) (qd : Nat) (qf : Nat) (qs : Nat) (qp : Nat) (qe : Nat) (q0 : Nat) (q1 : Nat) (qk : Nat) (lt : Int32) (fr : Int64) (p0 : Int32) (p1 : Int32) : Met l yX8_sum v_X8_sum ({ frames := 0, cells := 0, slots := 0, locals := 0 } : Room) (va_Pc [.ref h0, .int p0, .int p1] (fun U => U.heap.size = sz ∧ va_P (dC, dI) vwCl [(h0, .inr (8, [.ref qd, .ref qf, .ref qs, .ref qp, .ref qe, .ref q0, .ref q1, .ref qk, .int lt, .long fr, .int 1]))] U.heap ∧ va_K (dC, dI) vwCl [] U ∧ va_D (fun _ => True) [(h0, .inr (8, [.ref qd, .ref qf, .ref qs, .ref qp, .ref qe, .ref q0, .ref q1, .ref qk, .int lt, .long fr, .int 1]))])) (va_Qi (fun (r : Int32) (_ : Unit) => r = 0) (fun (_ : Unit) (t : State) => va_P (dC, dI) vwCl [(h0, .inr (8, [.ref qd, .ref qf, .ref qs, .ref qp, .ref qe, .ref q0, .ref q1, .ref qk, .int lt, .long fr, .int 1]))] t.heap ∧ va_K (dC, dI) vwCl [] t ∧ va_D (va_A [(h0, .inr (8, [.ref qd, .ref qf, .ref qs, .ref qp, .ref qe, .ref q0, .ref q1, .ref qk, .int lt, .long fr, .int 1]))] sz) [(h0, .inr (8, [.ref qd, .ref qf, .ref qs, .ref qp, .ref qe, .ref q0, .ref q1, .ref qk, .int lt, .long fr, .int 1]))]) (va_A [(h0, .inr (8, [.ref qd, .ref qf, .ref qs, .ref qp, .ref qe, .ref q0, .ref q1, .ref qk, .int lt, .long fr, .int 1]))] sz)) 0 0 (va_A [(h0, .inr (8, [.ref qd, .ref qf, .ref qs, .ref qp, .ref qe, .ref q0, .ref q1, .ref qk, .int lt, .long fr, .int 1]))] sz) := by
  refine Met.ofW (cc := cX8_sum) (maxL := 5) (ret := (some .int)) (by decide) rfl ?_
  intro p e s m args below meth c s₁ B hml hv
  obtain ⟨rfl, hsz, hP, hK, hD0⟩ := hv
  have hx := B.exec
  have hb := B.bytes
  have hr := B.returns
  have hts := atoms_spec (ws := v_X8_sum) B.pre
  have hown : s.vm.findClass RX8 = some m.cls := findClass_of_methodNamed B.named
  have hlocks := B.notSynchronized
  subst hsz
  have hD := hD0.self (sz := s.heap.size)
  generalize hAe : va_A [(h0, .inr (8, [.ref qd, .ref qf, .ref qs, .ref qp, .ref qe, .ref q0, .ref q1, .ref qk, .int lt, .long fr, .int 1]))] s.heap.size = A at hD ⊢
  have hA : ∀ q : Nat, s.heap.size ≤ q → A q := fun q h => by rw [← hAe]; exact Or.inr h
  have hS : va_S A s.heap s.heap [] := va_S.rf
  have hP : va_P (dC, dI) vwCl [(h0, .inr (8, [.ref qd, .ref qf, .ref qs, .ref qp, .ref qe, .ref q0, .ref q1, .ref qk, .int lt, .long fr, .int 1]))] s.heap := hP
  have hl := lv_entry ([.ref h0, .int p0, .int p1]) (n := 5) (Nat.le_of_ble_eq_true rfl)
  rw [lg_entry_eq]
  generalize (lg_sl ([.ref h0, .int p0, .int p1]) ++ List.replicate (5 - (lg_sl ([.ref h0, .int p0, .int p1])).length) Slot.unset).toArray = ls at hl ⊢
  have hl : lv_has ls 5 [(0, .ref h0), (1, .int p0), (2, .int p1)] := hl
  have k_1 := (fun _ h => List.mem_cons_of_mem _ (List.mem_append_right _ (List.mem_append_left _ h)) : ∀ w ∈ wsX80, w ∈ v_X8_sum)
  have k_2 := hts (.fieldLink RX8 77 "TwinRoots" "down" "Z") (List.mem_of_getElem? (i := 1) rfl)
  refine lv_aload_n hx hb dX8_sum_0 rfl (lv_at hl 0 rfl) ?_
  refine va_get (D := (dC, dI)) (ci := 8) (v := .int 1) (C := RX8) (T := TX8) (N := 11) hx hb hts k_1 hown hK hP 0 rfl rfl 10 (by decide) k_2 (fun _ h9 => h9) rfl dX8_sum_1 ?_
  refine lv_if_ne (tgt := 12) hx hb dX8_sum_4 (by decide) (fun c_1 => ?_) (fun c_1 => ?_)
  rotate_left
  · exact absurd c_1 (by decide)
  refine lv_iconst (v := 0) hx hb dX8_sum_12 (by decide) ?_
  have hP9 := hP.sub (ws' := [(h0, .inr (8, [.ref qd, .ref qf, .ref qs, .ref qp, .ref qe, .ref q0, .ref q1, .ref qk, .int lt, .long fr, .int 1]))]) [0] rfl
  have hD9 := hD.sub (ws' := [(h0, .inr (8, [.ref qd, .ref qf, .ref qs, .ref qp, .ref qe, .ref q0, .ref q1, .ref qk, .int lt, .long fr, .int 1]))]) [0] (by decide) rfl
  have hK9 := hK.sub (tys' := []) [] rfl
  exact W.iret (v := 0) hx hb hr (fun t ht hW => ⟨⟨0, (), rfl, rfl, by rw [ht]; exact hP9, va_K.moved hW.alike hK9, hD9⟩, hS.F ht⟩) hS.2.2 dX8_sum_13
def v_X8_commit : List Cond := .code yX8_commit cX8_commit 2 (some .int) :: ([.fieldLink RX8 77 "TwinRoots" "down" "Z"] ++ (wsX80 ++ ([])))
set_option maxHeartbeats 4000000 in
set_option maxRecDepth 100000 in
theorem c_X8_commit (l : Launch) (dC : Nat → ClassId) (dI : Nat → Nat → Nat) (sz : Nat) (h0 : Nat) (qd : Nat) (qf : Nat) (qs : Nat) (qp : Nat) (qe : Nat) (q0 : Nat) (q1 : Nat) (qk : Nat) (lt : Int32) (fr : Int64) : Met l yX8_commit v_X8_commit ({ frames := 0, cells := 0, slots := 0, locals := 0 } : Room) (va_Pc [.ref h0] (fun U => U.heap.size = sz ∧ va_P (dC, dI) vwCl [(h0, .inr (8, [.ref qd, .ref qf, .ref qs, .ref qp, .ref qe, .ref q0, .ref q1, .ref qk, .int lt, .long fr, .int 1]))] U.heap ∧ va_K (dC, dI) vwCl [] U ∧ va_D (fun _ => True) [(h0, .inr (8, [.ref qd, .ref qf, .ref qs, .ref qp, .ref qe, .ref q0, .ref q1, .ref qk, .int lt, .long fr, .int 1]))])) (va_Qi (fun (r : Int32) (_ : Unit) => r = 3) (fun (_ : Unit) (t : State) => va_P (dC, dI) vwCl [(h0, .inr (8, [.ref qd, .ref qf, .ref qs, .ref qp, .ref qe, .ref q0, .ref q1, .ref qk, .int lt, .long fr, .int 1]))] t.heap ∧ va_K (dC, dI) vwCl [] t ∧ va_D (va_A [(h0, .inr (8, [.ref qd, .ref qf, .ref qs, .ref qp, .ref qe, .ref q0, .ref q1, .ref qk, .int lt, .long fr, .int 1]))] sz) [(h0, .inr (8, [.ref qd, .ref qf, .ref qs, .ref qp, .ref qe, .ref q0, .ref q1, .ref qk, .int lt, .long fr, .int 1]))]) (va_A [(h0, .inr (8, [.ref qd, .ref qf, .ref qs, .ref qp, .ref qe, .ref q0, .ref q1, .ref qk, .int lt, .long fr, .int 1]))] sz)) 0 0 (va_A [(h0, .inr (8, [.ref qd, .ref qf, .ref qs, .ref qp, .ref qe, .ref q0, .ref q1, .ref qk, .int lt, .long fr, .int 1]))] sz) := by
  refine Met.ofW (cc := cX8_commit) (maxL := 2) (ret := (some .int)) (by decide) rfl ?_
  intro p e s m args below meth c s₁ B hml hv
  obtain ⟨rfl, hsz, hP, hK, hD0⟩ := hv
  have hx := B.exec
  have hb := B.bytes
  have hr := B.returns
  have hts := atoms_spec (ws := v_X8_commit) B.pre
  have hown : s.vm.findClass RX8 = some m.cls := findClass_of_methodNamed B.named
  have hlocks := B.notSynchronized
  subst hsz
  have hD := hD0.self (sz := s.heap.size)
  generalize hAe : va_A [(h0, .inr (8, [.ref qd, .ref qf, .ref qs, .ref qp, .ref qe, .ref q0, .ref q1, .ref qk, .int lt, .long fr, .int 1]))] s.heap.size = A at hD ⊢
  have hA : ∀ q : Nat, s.heap.size ≤ q → A q := fun q h => by rw [← hAe]; exact Or.inr h
  have hS : va_S A s.heap s.heap [] := va_S.rf
  have hP : va_P (dC, dI) vwCl [(h0, .inr (8, [.ref qd, .ref qf, .ref qs, .ref qp, .ref qe, .ref q0, .ref q1, .ref qk, .int lt, .long fr, .int 1]))] s.heap := hP
  have hl := lv_entry ([.ref h0]) (n := 2) (Nat.le_of_ble_eq_true rfl)
  rw [lg_entry_eq]
  generalize (lg_sl ([.ref h0]) ++ List.replicate (2 - (lg_sl ([.ref h0])).length) Slot.unset).toArray = ls at hl ⊢
  have hl : lv_has ls 2 [(0, .ref h0)] := hl
  have k_1 := (fun _ h => List.mem_cons_of_mem _ (List.mem_append_right _ (List.mem_append_left _ h)) : ∀ w ∈ wsX80, w ∈ v_X8_commit)
  have k_2 := hts (.fieldLink RX8 77 "TwinRoots" "down" "Z") (List.mem_of_getElem? (i := 1) rfl)
  refine lv_aload_n hx hb dX8_commit_0 rfl (lv_at hl 0 rfl) ?_
  refine va_get (D := (dC, dI)) (ci := 8) (v := .int 1) (C := RX8) (T := TX8) (N := 11) hx hb hts k_1 hown hK hP 0 rfl rfl 10 (by decide) k_2 (fun _ h9 => h9) rfl dX8_commit_1 ?_
  refine lv_if_eq (tgt := 9) hx hb dX8_commit_4 (by decide) (fun c_1 => ?_) (fun c_1 => ?_)
  · exact absurd c_1 (by decide)
  refine lv_iconst (v := 3) hx hb dX8_commit_7 (by decide) ?_
  have hP9 := hP.sub (ws' := [(h0, .inr (8, [.ref qd, .ref qf, .ref qs, .ref qp, .ref qe, .ref q0, .ref q1, .ref qk, .int lt, .long fr, .int 1]))]) [0] rfl
  have hD9 := hD.sub (ws' := [(h0, .inr (8, [.ref qd, .ref qf, .ref qs, .ref qp, .ref qe, .ref q0, .ref q1, .ref qk, .int lt, .long fr, .int 1]))]) [0] (by decide) rfl
  have hK9 := hK.sub (tys' := []) [] rfl
  exact W.iret (v := 3) hx hb hr (fun t ht hW => ⟨⟨3, (), rfl, rfl, by rw [ht]; exact hP9, va_K.moved hW.alike hK9, hD9⟩, hS.F ht⟩) hS.2.2 dX8_commit_8
def v_X8_block : List Cond := .code yX8_block cX8_block 2 (some .int) :: ([.fieldLink RX8 77 "TwinRoots" "down" "Z"] ++ (wsX80 ++ ([])))
set_option maxHeartbeats 4000000 in
set_option maxRecDepth 100000 in
theorem c_X8_block (l : Launch) (dC : Nat → ClassId) (dI : Nat → Nat → Nat) (sz : Nat) (h0 : Nat) (qd : Nat) (qf : Nat) (qs : Nat) (qp : Nat) (qe : Nat) (q0 : Nat) (q1 : Nat) (qk : Nat) (lt : Int32) (fr : Int64) (p0 : Int32) : Met l yX8_block v_X8_block ({ frames := 0, cells := 0, slots := 0, locals := 0 } : Room) (va_Pc [.ref h0, .int p0] (fun U => U.heap.size = sz ∧ va_P (dC, dI) vwCl [(h0, .inr (8, [.ref qd, .ref qf, .ref qs, .ref qp, .ref qe, .ref q0, .ref q1, .ref qk, .int lt, .long fr, .int 1]))] U.heap ∧ va_K (dC, dI) vwCl [] U ∧ va_D (fun _ => True) [(h0, .inr (8, [.ref qd, .ref qf, .ref qs, .ref qp, .ref qe, .ref q0, .ref q1, .ref qk, .int lt, .long fr, .int 1]))])) (va_Qi (fun (r : Int32) (_ : Unit) => r = -1) (fun (_ : Unit) (t : State) => va_P (dC, dI) vwCl [(h0, .inr (8, [.ref qd, .ref qf, .ref qs, .ref qp, .ref qe, .ref q0, .ref q1, .ref qk, .int lt, .long fr, .int 1]))] t.heap ∧ va_K (dC, dI) vwCl [] t ∧ va_D (va_A [(h0, .inr (8, [.ref qd, .ref qf, .ref qs, .ref qp, .ref qe, .ref q0, .ref q1, .ref qk, .int lt, .long fr, .int 1]))] sz) [(h0, .inr (8, [.ref qd, .ref qf, .ref qs, .ref qp, .ref qe, .ref q0, .ref q1, .ref qk, .int lt, .long fr, .int 1]))]) (va_A [(h0, .inr (8, [.ref qd, .ref qf, .ref qs, .ref qp, .ref qe, .ref q0, .ref q1, .ref qk, .int lt, .long fr, .int 1]))] sz)) 0 0 (va_A [(h0, .inr (8, [.ref qd, .ref qf, .ref qs, .ref qp, .ref qe, .ref q0, .ref q1, .ref qk, .int lt, .long fr, .int 1]))] sz) := by
  refine Met.ofW (cc := cX8_block) (maxL := 2) (ret := (some .int)) (by decide) rfl ?_
  intro p e s m args below meth c s₁ B hml hv
  obtain ⟨rfl, hsz, hP, hK, hD0⟩ := hv
  have hx := B.exec
  have hb := B.bytes
  have hr := B.returns
  have hts := atoms_spec (ws := v_X8_block) B.pre
  have hown : s.vm.findClass RX8 = some m.cls := findClass_of_methodNamed B.named
  have hlocks := B.notSynchronized
  subst hsz
  have hD := hD0.self (sz := s.heap.size)
  generalize hAe : va_A [(h0, .inr (8, [.ref qd, .ref qf, .ref qs, .ref qp, .ref qe, .ref q0, .ref q1, .ref qk, .int lt, .long fr, .int 1]))] s.heap.size = A at hD ⊢
  have hA : ∀ q : Nat, s.heap.size ≤ q → A q := fun q h => by rw [← hAe]; exact Or.inr h
  have hS : va_S A s.heap s.heap [] := va_S.rf
  have hP : va_P (dC, dI) vwCl [(h0, .inr (8, [.ref qd, .ref qf, .ref qs, .ref qp, .ref qe, .ref q0, .ref q1, .ref qk, .int lt, .long fr, .int 1]))] s.heap := hP
  have hl := lv_entry ([.ref h0, .int p0]) (n := 2) (Nat.le_of_ble_eq_true rfl)
  rw [lg_entry_eq]
  generalize (lg_sl ([.ref h0, .int p0]) ++ List.replicate (2 - (lg_sl ([.ref h0, .int p0])).length) Slot.unset).toArray = ls at hl ⊢
  have hl : lv_has ls 2 [(0, .ref h0), (1, .int p0)] := hl
  have k_1 := (fun _ h => List.mem_cons_of_mem _ (List.mem_append_right _ (List.mem_append_left _ h)) : ∀ w ∈ wsX80, w ∈ v_X8_block)
  have k_2 := hts (.fieldLink RX8 77 "TwinRoots" "down" "Z") (List.mem_of_getElem? (i := 1) rfl)
  refine lv_aload_n hx hb dX8_block_0 rfl (lv_at hl 0 rfl) ?_
  refine va_get (D := (dC, dI)) (ci := 8) (v := .int 1) (C := RX8) (T := TX8) (N := 11) hx hb hts k_1 hown hK hP 0 rfl rfl 10 (by decide) k_2 (fun _ h9 => h9) rfl dX8_block_1 ?_
  refine lv_if_ne (tgt := 22) hx hb dX8_block_4 (by decide) (fun c_1 => ?_) (fun c_1 => ?_)
  rotate_left
  · exact absurd c_1 (by decide)
  refine lv_iconst (v := -1) hx hb dX8_block_22 (by decide) ?_
  have hP9 := hP.sub (ws' := [(h0, .inr (8, [.ref qd, .ref qf, .ref qs, .ref qp, .ref qe, .ref q0, .ref q1, .ref qk, .int lt, .long fr, .int 1]))]) [0] rfl
  have hD9 := hD.sub (ws' := [(h0, .inr (8, [.ref qd, .ref qf, .ref qs, .ref qp, .ref qe, .ref q0, .ref q1, .ref qk, .int lt, .long fr, .int 1]))]) [0] (by decide) rfl
  have hK9 := hK.sub (tys' := []) [] rfl
  exact W.iret (v := (-1)) hx hb hr (fun t ht hW => ⟨⟨(-1), (), rfl, rfl, by rw [ht]; exact hP9, va_K.moved hW.alike hK9, hD9⟩, hS.F ht⟩) hS.2.2 dX8_block_23
def v_X8_arm : List Cond := .code yX8_arm cX8_arm 3 none :: ([.fieldLink RX8 28 "TwinRoots" "disk" "LTwinRoots$Disk;", .code yX0_setCut cX0_setCut 3 none, .code Lib.Math.max.name Lib.Math.max.code 2 (some .int), .methodLink RX0 26 Lib.Math.max.name, .static Lib.Math.max.name, .initialized "java/lang/Math", .fieldLink RX0 23 "TwinRoots$Disk" "writesAhead" "I", .fieldLink RX0 7 "TwinRoots$Disk" "words" "I", .code Lib.Math.min.name Lib.Math.min.code 2 (some .int), .methodLink RX0 32 Lib.Math.min.name, .static Lib.Math.min.name, .fieldLink RX0 35 "TwinRoots$Disk" "wordsOfCut" "I", .methodLink RX8 81 yX0_setCut, .instanceMethod yX0_setCut, .selects RX0 yX0_setCut yX0_setCut, .initialized RX0] ++ (wsX80 ++ (wsX00 ++ ([]))))
set_option maxRecDepth 20000 in
theorem g_X8_arm_X0_setCut : GoodIn v_X8_arm (wsV RX8 81 RX0 yX0_setCut v_X0_setCut) := goodIn_r _ [13, 14, 15, 16, 2, 3, 4, 5, 6, 7, 8, 9, 10, 11, 12, 28, 29, 30, 31, 32, 33, 34] (by decide +kernel) (by decide +kernel)
set_option maxHeartbeats 4000000 in
set_option maxRecDepth 100000 in
/-- arm -/
theorem c_X8_arm (l : Launch) (dC : Nat → ClassId) (dI : Nat → Nat → Nat) (sz : Nat) (h0 : Nat) (qd : Nat) (qf : Nat) (qs : Nat) (qp : Nat) (qe : Nat) (q0 : Nat) (q1 : Nat) (qk : Nat) (lt : Int32) (fr : Int64) (w : Nat) (b : Nat) (qc : Nat) (qi : Nat) (wr : Int32) (wa : Int32) (wc : Int32) (p0 : Int32) (p1 : Int32) : Met l yX8_arm v_X8_arm ({ frames := 2, cells := 0, slots := 0, locals := 37 } : Room) (va_Pc [.ref h0, .int p0, .int p1] (fun U => U.heap.size = sz ∧ va_P (dC, dI) vwCl [(h0, .inr (8, [.ref qd, .ref qf, .ref qs, .ref qp, .ref qe, .ref q0, .ref q1, .ref qk, .int lt, .long fr, .int 1])), (qd, .inr (0, [.int (nI w), .int (nI b), .int wr, .ref qc, .ref qi, .int wa, .int wc]))] U.heap ∧ va_K (dC, dI) vwCl [] U ∧ va_D (fun _ => True) [(h0, .inr (8, [.ref qd, .ref qf, .ref qs, .ref qp, .ref qe, .ref q0, .ref q1, .ref qk, .int lt, .long fr, .int 1])), (qd, .inr (0, [.int (nI w), .int (nI b), .int wr, .ref qc, .ref qi, .int wa, .int wc]))])) (va_Qv (fun (_ : Unit) => True) (fun (_ : Unit) (t : State) => va_P (dC, dI) vwCl [] t.heap ∧ va_K (dC, dI) vwCl [] t ∧ va_D (va_A [(h0, .inr (8, [.ref qd, .ref qf, .ref qs, .ref qp, .ref qe, .ref q0, .ref q1, .ref qk, .int lt, .long fr, .int 1])), (qd, .inr (0, [.int (nI w), .int (nI b), .int wr, .ref qc, .ref qi, .int wa, .int wc]))] sz) []) (va_A [(h0, .inr (8, [.ref qd, .ref qf, .ref qs, .ref qp, .ref qe, .ref q0, .ref q1, .ref qk, .int lt, .long fr, .int 1])), (qd, .inr (0, [.int (nI w), .int (nI b), .int wr, .ref qc, .ref qi, .int wa, .int wc]))] sz)) 0 0 (va_A [(h0, .inr (8, [.ref qd, .ref qf, .ref qs, .ref qp, .ref qe, .ref q0, .ref q1, .ref qk, .int lt, .long fr, .int 1])), (qd, .inr (0, [.int (nI w), .int (nI b), .int wr, .ref qc, .ref qi, .int wa, .int wc]))] sz) := by
  refine Met.ofW (cc := cX8_arm) (maxL := 3) (ret := none) (by decide) rfl ?_
  intro p e s m args below meth c s₁ B hml hv
  obtain ⟨rfl, hsz, hP, hK, hD0⟩ := hv
  have hx := B.exec
  have hb := B.bytes
  have hr := B.returns
  have hts := atoms_spec (ws := v_X8_arm) B.pre
  have hown : s.vm.findClass RX8 = some m.cls := findClass_of_methodNamed B.named
  have hlocks := B.notSynchronized
  subst hsz
  have hD := hD0.self (sz := s.heap.size)
  generalize hAe : va_A [(h0, .inr (8, [.ref qd, .ref qf, .ref qs, .ref qp, .ref qe, .ref q0, .ref q1, .ref qk, .int lt, .long fr, .int 1])), (qd, .inr (0, [.int (nI w), .int (nI b), .int wr, .ref qc, .ref qi, .int wa, .int wc]))] s.heap.size = A at hD ⊢
  have hA : ∀ q : Nat, s.heap.size ≤ q → A q := fun q h => by rw [← hAe]; exact Or.inr h
  have hS : va_S A s.heap s.heap [] := va_S.rf
  have hP : va_P (dC, dI) vwCl [(h0, .inr (8, [.ref qd, .ref qf, .ref qs, .ref qp, .ref qe, .ref q0, .ref q1, .ref qk, .int lt, .long fr, .int 1])), (qd, .inr (0, [.int (nI w), .int (nI b), .int wr, .ref qc, .ref qi, .int wa, .int wc]))] s.heap := hP
  have hl := lv_entry ([.ref h0, .int p0, .int p1]) (n := 3) (Nat.le_of_ble_eq_true rfl)
  rw [lg_entry_eq]
  generalize (lg_sl ([.ref h0, .int p0, .int p1]) ++ List.replicate (3 - (lg_sl ([.ref h0, .int p0, .int p1])).length) Slot.unset).toArray = ls at hl ⊢
  have hl : lv_has ls 3 [(0, .ref h0), (1, .int p0), (2, .int p1)] := hl
  have k_1 := (fun _ h => List.mem_cons_of_mem _ (List.mem_append_right _ (List.mem_append_left _ h)) : ∀ w ∈ wsX80, w ∈ v_X8_arm)
  have k_2 := hts (.fieldLink RX8 28 "TwinRoots" "disk" "LTwinRoots$Disk;") (List.mem_of_getElem? (i := 1) rfl)
  refine lv_aload_n hx hb dX8_arm_0 rfl (lv_at hl 0 rfl) ?_
  refine va_get (D := (dC, dI)) (ci := 8) (v := .ref qd) (C := RX8) (T := TX8) (N := 11) hx hb hts k_1 hown hK hP 0 rfl rfl 0 (by decide) k_2 (fun _ h9 => h9) rfl dX8_arm_1 ?_
  refine lv_iload_n hx hb dX8_arm_4 rfl (lv_at hl 1 rfl) ?_
  refine lv_iload_n hx hb dX8_arm_5 rfl (lv_at hl 2 rfl) ?_
  have hPc := hP.sub (ws' := [(qd, .inr (0, [.int (nI w), .int (nI b), .int wr, .ref qc, .ref qi, .int wa, .int wc]))]) [1] rfl
  have hDc := hD.sub (ws' := [(qd, .inr (0, [.int (nI w), .int (nI b), .int wr, .ref qc, .ref qi, .int wa, .int wc]))]) [1] (by decide) rfl
  have hKc := hK.sub (tys' := []) [] rfl
  have hFc := va_free (wc := [(qd, .inr (0, [.int (nI w), .int (nI b), .int wr, .ref qc, .ref qi, .int wa, .int wc]))]) hD hS hA [1] rfl
  refine va_callv (va_runV (As := [.int p0, .int p1]) (rest := []) ⟨hx, hb, hml, hown, hts⟩ (c_X0_setCut l dC dI s.heap.size qd w b qc qi wr wa wc p0 p1) (cwV 2 hts g_X8_arm_X0_setCut rfl rfl rfl (by decide +kernel) ⟨Nat.le_of_ble_eq_true rfl, Nat.le_of_ble_eq_true rfl⟩) ⟨fun a U g mk q => by obtain ⟨q0, q1, qP, qK, qD⟩ := q; exact ⟨q0, q1, qP, va_K.moved (u := U) (U := U.calling g mk a) (Vm.Alike.refl U.vm) qK, qD⟩, va_recv hKc hPc (ci := 0) (q0 := 0) rfl rfl, fun U hU hW => ⟨rfl, by rw [hU], by rw [hU]; exact hPc, va_K.moved hW.alike hKc, hDc.weaken (fun _ _ _ _ => trivial)⟩⟩ rfl rfl hl.1 rfl (lv_room (Nat.le_of_ble_eq_true rfl)) dX8_arm_6 ⟨(show 0 + 0 ≤ 0 by omega), (show 0 + 0 ≤ 0 by omega)⟩) hS (fun q _ h => hFc q h) hFc (fun u t H1 locs ht hvm hw hB hz1 hk1 hS => ?_)
  obtain ⟨wa2_2, wc2_3⟩ := u
  obtain ⟨hP1, hK1, hD1⟩ := hB
  rw [ht] at hP1
  have hK1 := va_K.moved hvm.symm hK1
  try dsimp only at hw
  obtain ⟨hP, hD⟩ := va_join (wr := [(h0, .inr (8, [.ref qd, .ref qf, .ref qs, .ref qp, .ref qe, .ref q0, .ref q1, .ref qk, .int lt, .long fr, .int 1]))]) (w1 := [(qd, .inr (0, [.int (nI w), .int (nI b), .int wr, .ref qc, .ref qi, .int wa2_2, .int wc2_3]))]) hP hD [1] [0] rfl rfl (by decide) (by decide) hk1 hFc hP1 hD1
  have hK := (hK.sub (tys' := []) [] rfl).app hK1
  generalize H1 = H at hP hS ⊢
  have hP : va_P (dC, dI) vwCl [(h0, .inr (8, [.ref qd, .ref qf, .ref qs, .ref qp, .ref qe, .ref q0, .ref q1, .ref qk, .int lt, .long fr, .int 1])), (qd, .inr (0, [.int (nI w), .int (nI b), .int wr, .ref qc, .ref qi, .int wa2_2, .int wc2_3]))] H := hP
  have hD : va_D A [(h0, .inr (8, [.ref qd, .ref qf, .ref qs, .ref qp, .ref qe, .ref q0, .ref q1, .ref qk, .int lt, .long fr, .int 1])), (qd, .inr (0, [.int (nI w), .int (nI b), .int wr, .ref qc, .ref qi, .int wa2_2, .int wc2_3]))] := hD
  have hK : va_K (dC, dI) vwCl [] s := hK
  have hP9 := hP.sub (ws' := []) [] rfl
  have hD9 := hD.sub (ws' := []) [] (by decide) rfl
  have hK9 := hK.sub (tys' := []) [] rfl
  exact W.vret hx hb hr (fun t ht hW => ⟨⟨(), rfl, trivial, by rw [ht]; exact hP9, va_K.moved hW.alike hK9, hD9⟩, hS.F ht⟩) hS.2.2 dX8_arm_9
def v_X8_decay : List Cond := .code yX8_decay cX8_decay 4 (some .boolean) :: ([.fieldLink RX8 28 "TwinRoots" "disk" "LTwinRoots$Disk;", .code yX0_turn cX0_turn 5 (some .boolean), .code yX0_cellOf cX0_cellOf 4 (some .int), .fieldLink RX0 13 "TwinRoots$Disk" "blocks" "I", .fieldLink RX0 7 "TwinRoots$Disk" "words" "I", .methodLink RX0 38 yX0_cellOf, .instanceMethod yX0_cellOf, .selects RX0 yX0_cellOf yX0_cellOf, .initialized RX0, .fieldLink RX0 16 "TwinRoots$Disk" "cells" "[I", .methodLink RX8 188 yX0_turn, .instanceMethod yX0_turn, .selects RX0 yX0_turn yX0_turn] ++ (wsX80 ++ (wsX00 ++ ([]))))
set_option maxRecDepth 20000 in
theorem g_X8_decay_X0_turn : GoodIn v_X8_decay (wsV RX8 188 RX0 yX0_turn v_X0_turn) := goodIn_r _ [11, 12, 13, 9, 2, 3, 4, 5, 6, 7, 8, 9, 10, 25, 26, 27, 28, 29, 30, 31] (by decide +kernel) (by decide +kernel)
set_option maxHeartbeats 4000000 in
set_option maxRecDepth 100000 in
/-- decay -/
theorem c_X8_decay (l : Launch) (dC : Nat → ClassId) (dI : Nat → Nat → Nat) (sz : Nat) (h0 : Nat) (qd : Nat) (qf : Nat) (qs : Nat) (qp : Nat) (qe : Nat) (q0 : Nat) (q1 : Nat) (qk : Nat) (lt : Int32) (fr : Int64) (w : Nat) (b : Nat) (qc : Nat) (qi : Nat) (wr : Int32) (wa : Int32) (wc : Int32) (p0 : Int32) (p1 : Int32) (p2 : Int32) (cC : ClassId) (f : Nat → Int32) (zw0 : 12 ≤ w) (zw : w ≤ 40) (zb0 : 4 ≤ b) (zb : b ≤ 64) (zwb : w * b ≤ 2560) : Met l yX8_decay v_X8_decay ({ frames := 2, cells := 0, slots := 0, locals := 47 } : Room) (va_Pc [.ref h0, .int p0, .int p1, .int p2] (fun U => U.heap.size = sz ∧ va_P (dC, dI) vwCl [(h0, .inr (8, [.ref qd, .ref qf, .ref qs, .ref qp, .ref qe, .ref q0, .ref q1, .ref qk, .int lt, .long fr, .int 1])), (qd, .inr (0, [.int (nI w), .int (nI b), .int wr, .ref qc, .ref qi, .int wa, .int wc])), (qc, .inl (cC, w * b, .inl f))] U.heap ∧ va_K (dC, dI) vwCl [(cC, .int)] U ∧ va_D (fun _ => True) [(h0, .inr (8, [.ref qd, .ref qf, .ref qs, .ref qp, .ref qe, .ref q0, .ref q1, .ref qk, .int lt, .long fr, .int 1])), (qd, .inr (0, [.int (nI w), .int (nI b), .int wr, .ref qc, .ref qi, .int wa, .int wc])), (qc, .inl (cC, w * b, .inl f))])) (va_Qi (fun (r : Int32) (_ : Unit) => r = decF w b p0 p1) (fun (_ : Unit) (t : State) => va_P (dC, dI) vwCl [] t.heap ∧ va_K (dC, dI) vwCl [] t ∧ va_D (va_A [(h0, .inr (8, [.ref qd, .ref qf, .ref qs, .ref qp, .ref qe, .ref q0, .ref q1, .ref qk, .int lt, .long fr, .int 1])), (qd, .inr (0, [.int (nI w), .int (nI b), .int wr, .ref qc, .ref qi, .int wa, .int wc])), (qc, .inl (cC, w * b, .inl f))] sz) []) (va_A [(h0, .inr (8, [.ref qd, .ref qf, .ref qs, .ref qp, .ref qe, .ref q0, .ref q1, .ref qk, .int lt, .long fr, .int 1])), (qd, .inr (0, [.int (nI w), .int (nI b), .int wr, .ref qc, .ref qi, .int wa, .int wc])), (qc, .inl (cC, w * b, .inl f))] sz)) 0 0 (va_A [(h0, .inr (8, [.ref qd, .ref qf, .ref qs, .ref qp, .ref qe, .ref q0, .ref q1, .ref qk, .int lt, .long fr, .int 1])), (qd, .inr (0, [.int (nI w), .int (nI b), .int wr, .ref qc, .ref qi, .int wa, .int wc])), (qc, .inl (cC, w * b, .inl f))] sz) := by
  refine Met.ofW (cc := cX8_decay) (maxL := 4) (ret := (some .boolean)) (by decide) rfl ?_
  intro p e s m args below meth c s₁ B hml hv
  obtain ⟨rfl, hsz, hP, hK, hD0⟩ := hv
  have hx := B.exec
  have hb := B.bytes
  have hr := B.returns
  have hts := atoms_spec (ws := v_X8_decay) B.pre
  have hown : s.vm.findClass RX8 = some m.cls := findClass_of_methodNamed B.named
  have hlocks := B.notSynchronized
  subst hsz
  have hD := hD0.self (sz := s.heap.size)
  generalize hAe : va_A [(h0, .inr (8, [.ref qd, .ref qf, .ref qs, .ref qp, .ref qe, .ref q0, .ref q1, .ref qk, .int lt, .long fr, .int 1])), (qd, .inr (0, [.int (nI w), .int (nI b), .int wr, .ref qc, .ref qi, .int wa, .int wc])), (qc, .inl (cC, w * b, .inl f))] s.heap.size = A at hD ⊢
  have hA : ∀ q : Nat, s.heap.size ≤ q → A q := fun q h => by rw [← hAe]; exact Or.inr h
  have hS : va_S A s.heap s.heap [] := va_S.rf
  have hP : va_P (dC, dI) vwCl [(h0, .inr (8, [.ref qd, .ref qf, .ref qs, .ref qp, .ref qe, .ref q0, .ref q1, .ref qk, .int lt, .long fr, .int 1])), (qd, .inr (0, [.int (nI w), .int (nI b), .int wr, .ref qc, .ref qi, .int wa, .int wc])), (qc, .inl (cC, w * b, .inl f))] s.heap := hP
  have hl := lv_entry ([.ref h0, .int p0, .int p1, .int p2]) (n := 4) (Nat.le_of_ble_eq_true rfl)
  rw [lg_entry_eq]
  generalize (lg_sl ([.ref h0, .int p0, .int p1, .int p2]) ++ List.replicate (4 - (lg_sl ([.ref h0, .int p0, .int p1, .int p2])).length) Slot.unset).toArray = ls at hl ⊢
  have hl : lv_has ls 4 [(0, .ref h0), (1, .int p0), (2, .int p1), (3, .int p2)] := hl
  have k_1 := (fun _ h => List.mem_cons_of_mem _ (List.mem_append_right _ (List.mem_append_left _ h)) : ∀ w ∈ wsX80, w ∈ v_X8_decay)
  have k_2 := hts (.fieldLink RX8 28 "TwinRoots" "disk" "LTwinRoots$Disk;") (List.mem_of_getElem? (i := 1) rfl)
  refine lv_aload_n hx hb dX8_decay_0 rfl (lv_at hl 0 rfl) ?_
  refine va_get (D := (dC, dI)) (ci := 8) (v := .ref qd) (C := RX8) (T := TX8) (N := 11) hx hb hts k_1 hown hK hP 0 rfl rfl 0 (by decide) k_2 (fun _ h9 => h9) rfl dX8_decay_1 ?_
  refine lv_iload_n hx hb dX8_decay_4 rfl (lv_at hl 1 rfl) ?_
  refine lv_iload_n hx hb dX8_decay_5 rfl (lv_at hl 2 rfl) ?_
  refine lv_iload_n hx hb dX8_decay_6 rfl (lv_at hl 3 rfl) ?_
  have hPc := hP.sub (ws' := [(qd, .inr (0, [.int (nI w), .int (nI b), .int wr, .ref qc, .ref qi, .int wa, .int wc])), (qc, .inl (cC, w * b, .inl f))]) [1, 2] rfl
  have hDc := hD.sub (ws' := [(qd, .inr (0, [.int (nI w), .int (nI b), .int wr, .ref qc, .ref qi, .int wa, .int wc])), (qc, .inl (cC, w * b, .inl f))]) [1, 2] (by decide) rfl
  have hKc := hK.sub (tys' := [(cC, .int)]) [0] rfl
  have hFc := va_free (wc := [(qd, .inr (0, [.int (nI w), .int (nI b), .int wr, .ref qc, .ref qi, .int wa, .int wc])), (qc, .inl (cC, w * b, .inl f))]) hD hS hA [1, 2] rfl
  refine va_calli (va_runV (As := [.int p0, .int p1, .int p2]) (rest := []) ⟨hx, hb, hml, hown, hts⟩ (c_X0_turn l dC dI s.heap.size qd w b qc qi wr wa wc p0 p1 p2 cC f (by first | assumption | omega | decide) (by first | assumption | omega | decide) (by first | assumption | omega | decide) (by first | assumption | omega | decide) (by first | assumption | omega | decide)) (cwV 3 hts g_X8_decay_X0_turn rfl rfl rfl (by decide +kernel) ⟨Nat.le_of_ble_eq_true rfl, Nat.le_of_ble_eq_true rfl⟩) ⟨fun a U g mk q => by obtain ⟨q0, q1, qP, qK, qD⟩ := q; exact ⟨q0, q1, qP, va_K.moved (u := U) (U := U.calling g mk a) (Vm.Alike.refl U.vm) qK, qD⟩, va_recv hKc hPc (ci := 0) (q0 := 0) rfl rfl, fun U hU hW => ⟨rfl, by rw [hU], by rw [hU]; exact hPc, va_K.moved hW.alike hKc, hDc.weaken (fun _ _ _ _ => trivial)⟩⟩ rfl rfl hl.1 rfl (lv_room (Nat.le_of_ble_eq_true rfl)) dX8_decay_7 ⟨(show 0 + 0 ≤ 0 by omega), (show 0 + 0 ≤ 0 by omega)⟩) hS (fun q _ h => hFc q h) hFc (fun r_1 u t H1 locs ht hvm hw hB hz1 hk1 hS => ?_)
  obtain ⟨f2_2, rfl⟩ : ∃ z, z = u := ⟨_, rfl⟩
  obtain ⟨hP1, hK1, hD1⟩ := hB
  rw [ht] at hP1
  have hK1 := va_K.moved hvm.symm hK1
  try dsimp only at hw
  obtain ⟨hP, hD⟩ := va_join (wr := [(h0, .inr (8, [.ref qd, .ref qf, .ref qs, .ref qp, .ref qe, .ref q0, .ref q1, .ref qk, .int lt, .long fr, .int 1]))]) (w1 := [(qd, .inr (0, [.int (nI w), .int (nI b), .int wr, .ref qc, .ref qi, .int wa, .int wc])), (qc, .inl (cC, w * b, .inl f2_2))]) hP hD [1, 2] [0] rfl rfl (by decide) (by decide) hk1 hFc hP1 hD1
  have hK := (hK.sub (tys' := []) [] rfl).app hK1
  generalize H1 = H at hP hS ⊢
  have hP : va_P (dC, dI) vwCl [(h0, .inr (8, [.ref qd, .ref qf, .ref qs, .ref qp, .ref qe, .ref q0, .ref q1, .ref qk, .int lt, .long fr, .int 1])), (qd, .inr (0, [.int (nI w), .int (nI b), .int wr, .ref qc, .ref qi, .int wa, .int wc])), (qc, .inl (cC, w * b, .inl f2_2))] H := hP
  have hD : va_D A [(h0, .inr (8, [.ref qd, .ref qf, .ref qs, .ref qp, .ref qe, .ref q0, .ref q1, .ref qk, .int lt, .long fr, .int 1])), (qd, .inr (0, [.int (nI w), .int (nI b), .int wr, .ref qc, .ref qi, .int wa, .int wc])), (qc, .inl (cC, w * b, .inl f2_2))] := hD
  have hK : va_K (dC, dI) vwCl [(cC, .int)] s := hK
  obtain rfl : r_1 = decF w b p0 p1 := hw
  have hP9 := hP.sub (ws' := []) [] rfl
  have hD9 := hD.sub (ws' := []) [] (by decide) rfl
  have hK9 := hK.sub (tys' := []) [] rfl
  exact W.zret (v := (decF w b p0 p1)) hx hb hr decF_nar (fun t ht hW => ⟨⟨(decF w b p0 p1), (), rfl, rfl, by rw [ht]; exact hP9, va_K.moved hW.alike hK9, hD9⟩, hS.F ht⟩) hS.2.2 dX8_decay_10
def v_X8_word : List Cond := .code yX8_word cX8_word 3 (some .int) :: ([.fieldLink RX8 28 "TwinRoots" "disk" "LTwinRoots$Disk;", .code yX0_read cX0_read 4 (some .int), .code yX0_cellOf cX0_cellOf 4 (some .int), .fieldLink RX0 13 "TwinRoots$Disk" "blocks" "I", .fieldLink RX0 7 "TwinRoots$Disk" "words" "I", .methodLink RX0 38 yX0_cellOf, .instanceMethod yX0_cellOf, .selects RX0 yX0_cellOf yX0_cellOf, .initialized RX0, .fieldLink RX0 16 "TwinRoots$Disk" "cells" "[I", .methodLink RX8 192 yX0_read, .instanceMethod yX0_read, .selects RX0 yX0_read yX0_read] ++ (wsX80 ++ (wsX00 ++ ([]))))
set_option maxRecDepth 20000 in
theorem g_X8_word_X0_read : GoodIn v_X8_word (wsV RX8 192 RX0 yX0_read v_X0_read) := goodIn_r _ [11, 12, 13, 9, 2, 3, 4, 5, 6, 7, 8, 9, 10, 25, 26, 27, 28, 29, 30, 31] (by decide +kernel) (by decide +kernel)
set_option maxHeartbeats 4000000 in
set_option maxRecDepth 100000 in
/-- word on a disk of 0 -/
theorem c_X8_word (l : Launch) (dC : Nat → ClassId) (dI : Nat → Nat → Nat) (sz : Nat) (h0 : Nat) (qd : Nat) (qf : Nat) (qs : Nat) (qp : Nat) (qe : Nat) (q0 : Nat) (q1 : Nat) (qk : Nat) (lt : Int32) (fr : Int64) (w : Nat) (b : Nat) (qc : Nat) (qi : Nat) (wr : Int32) (wa : Int32) (wc : Int32) (p0 : Int32) (p1 : Int32) (cC : ClassId) (zw0 : 12 ≤ w) (zw : w ≤ 40) (zb0 : 4 ≤ b) (zb : b ≤ 64) (zwb : w * b ≤ 2560) : Met l yX8_word v_X8_word ({ frames := 2, cells := 0, slots := 0, locals := 46 } : Room) (va_Pc [.ref h0, .int p0, .int p1] (fun U => U.heap.size = sz ∧ va_P (dC, dI) vwCl [(h0, .inr (8, [.ref qd, .ref qf, .ref qs, .ref qp, .ref qe, .ref q0, .ref q1, .ref qk, .int lt, .long fr, .int 1])), (qd, .inr (0, [.int (nI w), .int (nI b), .int wr, .ref qc, .ref qi, .int wa, .int wc])), (qc, .inl (cC, w * b, .inl (fun _ => 0)))] U.heap ∧ va_K (dC, dI) vwCl [(cC, .int)] U ∧ va_D (fun _ => True) [(h0, .inr (8, [.ref qd, .ref qf, .ref qs, .ref qp, .ref qe, .ref q0, .ref q1, .ref qk, .int lt, .long fr, .int 1])), (qd, .inr (0, [.int (nI w), .int (nI b), .int wr, .ref qc, .ref qi, .int wa, .int wc])), (qc, .inl (cC, w * b, .inl (fun _ => 0)))])) (va_Qi (fun (r : Int32) (_ : Unit) => r = 0) (fun (_ : Unit) (t : State) => va_P (dC, dI) vwCl [] t.heap ∧ va_K (dC, dI) vwCl [] t ∧ va_D (va_A [(h0, .inr (8, [.ref qd, .ref qf, .ref qs, .ref qp, .ref qe, .ref q0, .ref q1, .ref qk, .int lt, .long fr, .int 1])), (qd, .inr (0, [.int (nI w), .int (nI b), .int wr, .ref qc, .ref qi, .int wa, .int wc])), (qc, .inl (cC, w * b, .inl (fun _ => 0)))] sz) []) (va_A [(h0, .inr (8, [.ref qd, .ref qf, .ref qs, .ref qp, .ref qe, .ref q0, .ref q1, .ref qk, .int lt, .long fr, .int 1])), (qd, .inr (0, [.int (nI w), .int (nI b), .int wr, .ref qc, .ref qi, .int wa, .int wc])), (qc, .inl (cC, w * b, .inl (fun _ => 0)))] sz)) 0 0 (va_A [(h0, .inr (8, [.ref qd, .ref qf, .ref qs, .ref qp, .ref qe, .ref q0, .ref q1, .ref qk, .int lt, .long fr, .int 1])), (qd, .inr (0, [.int (nI w), .int (nI b), .int wr, .ref qc, .ref qi, .int wa, .int wc])), (qc, .inl (cC, w * b, .inl (fun _ => 0)))] sz) := by
  refine Met.ofW (cc := cX8_word) (maxL := 3) (ret := (some .int)) (by decide) rfl ?_
  intro p e s m args below meth c s₁ B hml hv
  obtain ⟨rfl, hsz, hP, hK, hD0⟩ := hv
  have hx := B.exec
  have hb := B.bytes
  have hr := B.returns
  have hts := atoms_spec (ws := v_X8_word) B.pre
  have hown : s.vm.findClass RX8 = some m.cls := findClass_of_methodNamed B.named
  have hlocks := B.notSynchronized
  subst hsz
  have hD := hD0.self (sz := s.heap.size)
  generalize hAe : va_A [(h0, .inr (8, [.ref qd, .ref qf, .ref qs, .ref qp, .ref qe, .ref q0, .ref q1, .ref qk, .int lt, .long fr, .int 1])), (qd, .inr (0, [.int (nI w), .int (nI b), .int wr, .ref qc, .ref qi, .int wa, .int wc])), (qc, .inl (cC, w * b, .inl (fun _ => 0)))] s.heap.size = A at hD ⊢
  have hA : ∀ q : Nat, s.heap.size ≤ q → A q := fun q h => by rw [← hAe]; exact Or.inr h
  have hS : va_S A s.heap s.heap [] := va_S.rf
  have hP : va_P (dC, dI) vwCl [(h0, .inr (8, [.ref qd, .ref qf, .ref qs, .ref qp, .ref qe, .ref q0, .ref q1, .ref qk, .int lt, .long fr, .int 1])), (qd, .inr (0, [.int (nI w), .int (nI b), .int wr, .ref qc, .ref qi, .int wa, .int wc])), (qc, .inl (cC, w * b, .inl (fun _ => 0)))] s.heap := hP
  have hl := lv_entry ([.ref h0, .int p0, .int p1]) (n := 3) (Nat.le_of_ble_eq_true rfl)
  rw [lg_entry_eq]
  generalize (lg_sl ([.ref h0, .int p0, .int p1]) ++ List.replicate (3 - (lg_sl ([.ref h0, .int p0, .int p1])).length) Slot.unset).toArray = ls at hl ⊢
  have hl : lv_has ls 3 [(0, .ref h0), (1, .int p0), (2, .int p1)] := hl
  have k_1 := (fun _ h => List.mem_cons_of_mem _ (List.mem_append_right _ (List.mem_append_left _ h)) : ∀ w ∈ wsX80, w ∈ v_X8_word)
  have k_2 := hts (.fieldLink RX8 28 "TwinRoots" "disk" "LTwinRoots$Disk;") (List.mem_of_getElem? (i := 1) rfl)
  refine lv_aload_n hx hb dX8_word_0 rfl (lv_at hl 0 rfl) ?_
  refine va_get (D := (dC, dI)) (ci := 8) (v := .ref qd) (C := RX8) (T := TX8) (N := 11) hx hb hts k_1 hown hK hP 0 rfl rfl 0 (by decide) k_2 (fun _ h9 => h9) rfl dX8_word_1 ?_
  refine lv_iload_n hx hb dX8_word_4 rfl (lv_at hl 1 rfl) ?_
  refine lv_iload_n hx hb dX8_word_5 rfl (lv_at hl 2 rfl) ?_
  have hPc := hP.sub (ws' := [(qd, .inr (0, [.int (nI w), .int (nI b), .int wr, .ref qc, .ref qi, .int wa, .int wc])), (qc, .inl (cC, w * b, .inl (fun _ => 0)))]) [1, 2] rfl
  have hDc := hD.sub (ws' := [(qd, .inr (0, [.int (nI w), .int (nI b), .int wr, .ref qc, .ref qi, .int wa, .int wc])), (qc, .inl (cC, w * b, .inl (fun _ => 0)))]) [1, 2] (by decide) rfl
  have hKc := hK.sub (tys' := [(cC, .int)]) [0] rfl
  have hFc := va_free (wc := [(qd, .inr (0, [.int (nI w), .int (nI b), .int wr, .ref qc, .ref qi, .int wa, .int wc])), (qc, .inl (cC, w * b, .inl (fun _ => 0)))]) hD hS hA [1, 2] rfl
  refine va_calli (va_runV (As := [.int p0, .int p1]) (rest := []) ⟨hx, hb, hml, hown, hts⟩ (c_X0_read l dC dI s.heap.size qd w b qc qi wr wa wc p0 p1 cC (by first | assumption | omega | decide) (by first | assumption | omega | decide) (by first | assumption | omega | decide) (by first | assumption | omega | decide) (by first | assumption | omega | decide)) (cwV 2 hts g_X8_word_X0_read rfl rfl rfl (by decide +kernel) ⟨Nat.le_of_ble_eq_true rfl, Nat.le_of_ble_eq_true rfl⟩) ⟨fun a U g mk q => by obtain ⟨q0, q1, qP, qK, qD⟩ := q; exact ⟨q0, q1, qP, va_K.moved (u := U) (U := U.calling g mk a) (Vm.Alike.refl U.vm) qK, qD⟩, va_recv hKc hPc (ci := 0) (q0 := 0) rfl rfl, fun U hU hW => ⟨rfl, by rw [hU], by rw [hU]; exact hPc, va_K.moved hW.alike hKc, hDc.weaken (fun _ _ _ _ => trivial)⟩⟩ rfl rfl hl.1 rfl (lv_room (Nat.le_of_ble_eq_true rfl)) dX8_word_6 ⟨(show 0 + 0 ≤ 0 by omega), (show 0 + 0 ≤ 0 by omega)⟩) hS (fun q _ h => hFc q h) hFc (fun r_1 u t H1 locs ht hvm hw hB hz1 hk1 hS => ?_)
  obtain ⟨hP1, hK1, hD1⟩ := hB
  rw [ht] at hP1
  have hK1 := va_K.moved hvm.symm hK1
  try dsimp only at hw
  obtain ⟨hP, hD⟩ := va_join (wr := [(h0, .inr (8, [.ref qd, .ref qf, .ref qs, .ref qp, .ref qe, .ref q0, .ref q1, .ref qk, .int lt, .long fr, .int 1]))]) (w1 := [(qd, .inr (0, [.int (nI w), .int (nI b), .int wr, .ref qc, .ref qi, .int wa, .int wc])), (qc, .inl (cC, w * b, .inl (fun _ => 0)))]) hP hD [1, 2] [0] rfl rfl (by decide) (by decide) hk1 hFc hP1 hD1
  have hK := (hK.sub (tys' := []) [] rfl).app hK1
  generalize H1 = H at hP hS ⊢
  have hP : va_P (dC, dI) vwCl [(h0, .inr (8, [.ref qd, .ref qf, .ref qs, .ref qp, .ref qe, .ref q0, .ref q1, .ref qk, .int lt, .long fr, .int 1])), (qd, .inr (0, [.int (nI w), .int (nI b), .int wr, .ref qc, .ref qi, .int wa, .int wc])), (qc, .inl (cC, w * b, .inl (fun _ => 0)))] H := hP
  have hD : va_D A [(h0, .inr (8, [.ref qd, .ref qf, .ref qs, .ref qp, .ref qe, .ref q0, .ref q1, .ref qk, .int lt, .long fr, .int 1])), (qd, .inr (0, [.int (nI w), .int (nI b), .int wr, .ref qc, .ref qi, .int wa, .int wc])), (qc, .inl (cC, w * b, .inl (fun _ => 0)))] := hD
  have hK : va_K (dC, dI) vwCl [(cC, .int)] s := hK
  obtain rfl : r_1 = 0 := hw
  have hP9 := hP.sub (ws' := []) [] rfl
  have hD9 := hD.sub (ws' := []) [] (by decide) rfl
  have hK9 := hK.sub (tys' := []) [] rfl
  exact W.iret (v := 0) hx hb hr (fun t ht hW => ⟨⟨0, (), rfl, rfl, by rw [ht]; exact hP9, va_K.moved hW.alike hK9, hD9⟩, hS.F ht⟩) hS.2.2 dX8_word_9
def v_X8_count : List Cond := .code yX8_count cX8_count 2 (some .int) :: ([.fieldLink RX8 28 "TwinRoots" "disk" "LTwinRoots$Disk;", .fieldLink RX8 195 "TwinRoots$Disk" "blocks" "I", .fieldLink RX8 202 "TwinRoots$Disk" "words" "I", .fieldLink RX8 205 "TwinRoots$Disk" "writes" "I", .fieldLink RX8 77 "TwinRoots" "down" "Z"] ++ (wsX80 ++ (wsX00 ++ ([]))))
set_option maxHeartbeats 4000000 in
set_option maxRecDepth 100000 in
/-- count on a fresh object -/
theorem c_X8_count (l : Launch) (dC : Nat → ClassId) (dI : Nat → Nat → Nat) (sz : Nat) (h0 : Nat) (qd : Nat) (qf : Nat) (qs : Nat) (qp : Nat) (qe : Nat) (q0 : Nat) (q1 : Nat) (qk : Nat) (lt : Int32) (fr : Int64) (w : Nat) (b : Nat) (qc : Nat) (qi : Nat) (wa : Int32) (wc : Int32) (p0 : Int32) : Met l yX8_count v_X8_count ({ frames := 0, cells := 0, slots := 0, locals := 0 } : Room) (va_Pc [.ref h0, .int p0] (fun U => U.heap.size = sz ∧ va_P (dC, dI) vwCl [(h0, .inr (8, [.ref qd, .ref qf, .ref qs, .ref qp, .ref qe, .ref q0, .ref q1, .ref qk, .int lt, .long fr, .int 1])), (qd, .inr (0, [.int (nI w), .int (nI b), .int 0, .ref qc, .ref qi, .int wa, .int wc]))] U.heap ∧ va_K (dC, dI) vwCl [] U ∧ va_D (fun _ => True) [(h0, .inr (8, [.ref qd, .ref qf, .ref qs, .ref qp, .ref qe, .ref q0, .ref q1, .ref qk, .int lt, .long fr, .int 1])), (qd, .inr (0, [.int (nI w), .int (nI b), .int 0, .ref qc, .ref qi, .int wa, .int wc]))])) (va_Qi (fun (r : Int32) (_ : Unit) => r = cntF w b p0) (fun (_ : Unit) (t : State) => va_P (dC, dI) vwCl [] t.heap ∧ va_K (dC, dI) vwCl [] t ∧ va_D (va_A [(h0, .inr (8, [.ref qd, .ref qf, .ref qs, .ref qp, .ref qe, .ref q0, .ref q1, .ref qk, .int lt, .long fr, .int 1])), (qd, .inr (0, [.int (nI w), .int (nI b), .int 0, .ref qc, .ref qi, .int wa, .int wc]))] sz) []) (va_A [(h0, .inr (8, [.ref qd, .ref qf, .ref qs, .ref qp, .ref qe, .ref q0, .ref q1, .ref qk, .int lt, .long fr, .int 1])), (qd, .inr (0, [.int (nI w), .int (nI b), .int 0, .ref qc, .ref qi, .int wa, .int wc]))] sz)) 0 0 (va_A [(h0, .inr (8, [.ref qd, .ref qf, .ref qs, .ref qp, .ref qe, .ref q0, .ref q1, .ref qk, .int lt, .long fr, .int 1])), (qd, .inr (0, [.int (nI w), .int (nI b), .int 0, .ref qc, .ref qi, .int wa, .int wc]))] sz) := by
  refine Met.ofW (cc := cX8_count) (maxL := 2) (ret := (some .int)) (by decide) rfl ?_
  intro p e s m args below meth c s₁ B hml hv
  obtain ⟨rfl, hsz, hP, hK, hD0⟩ := hv
  have hx := B.exec
  have hb := B.bytes
  have hr := B.returns
  have hts := atoms_spec (ws := v_X8_count) B.pre
  have hown : s.vm.findClass RX8 = some m.cls := findClass_of_methodNamed B.named
  have hlocks := B.notSynchronized
  subst hsz
  have hD := hD0.self (sz := s.heap.size)
  generalize hAe : va_A [(h0, .inr (8, [.ref qd, .ref qf, .ref qs, .ref qp, .ref qe, .ref q0, .ref q1, .ref qk, .int lt, .long fr, .int 1])), (qd, .inr (0, [.int (nI w), .int (nI b), .int 0, .ref qc, .ref qi, .int wa, .int wc]))] s.heap.size = A at hD ⊢
  have hA : ∀ q : Nat, s.heap.size ≤ q → A q := fun q h => by rw [← hAe]; exact Or.inr h
  have hS : va_S A s.heap s.heap [] := va_S.rf
  have hP : va_P (dC, dI) vwCl [(h0, .inr (8, [.ref qd, .ref qf, .ref qs, .ref qp, .ref qe, .ref q0, .ref q1, .ref qk, .int lt, .long fr, .int 1])), (qd, .inr (0, [.int (nI w), .int (nI b), .int 0, .ref qc, .ref qi, .int wa, .int wc]))] s.heap := hP
  have hl := lv_entry ([.ref h0, .int p0]) (n := 2) (Nat.le_of_ble_eq_true rfl)
  rw [lg_entry_eq]
  generalize (lg_sl ([.ref h0, .int p0]) ++ List.replicate (2 - (lg_sl ([.ref h0, .int p0])).length) Slot.unset).toArray = ls at hl ⊢
  have hl : lv_has ls 2 [(0, .ref h0), (1, .int p0)] := hl
  have k_1 := (fun _ h => List.mem_cons_of_mem _ (List.mem_append_right _ (List.mem_append_left _ h)) : ∀ w ∈ wsX80, w ∈ v_X8_count)
  have k_2 := hts (.fieldLink RX8 28 "TwinRoots" "disk" "LTwinRoots$Disk;") (List.mem_of_getElem? (i := 1) rfl)
  have k_3 := (fun _ h => List.mem_cons_of_mem _ (List.mem_append_right _ (List.mem_append_right _ (List.mem_append_left _ h))) : ∀ w ∈ wsX00, w ∈ v_X8_count)
  have k_4 := hts (.fieldLink RX8 195 "TwinRoots$Disk" "blocks" "I") (List.mem_of_getElem? (i := 2) rfl)
  have k_5 := hts (.fieldLink RX8 202 "TwinRoots$Disk" "words" "I") (List.mem_of_getElem? (i := 3) rfl)
  have k_6 := hts (.fieldLink RX8 205 "TwinRoots$Disk" "writes" "I") (List.mem_of_getElem? (i := 4) rfl)
  have k_7 := hts (.fieldLink RX8 77 "TwinRoots" "down" "Z") (List.mem_of_getElem? (i := 5) rfl)
  refine lv_iload_n hx hb dX8_count_0 rfl (lv_at hl 1 rfl) ?_
  by_cases h_1 : p0 = 0
  · refine lv_tableIn (off := 35) (tgt := 36) hx hb dX8_count_1 (by rw [h_1]; decide) (by rw [h_1]; decide) (by rw [h_1]; decide) (by decide) ?_
    refine lv_aload_n hx hb dX8_count_36 rfl (lv_at hl 0 rfl) ?_
    refine va_get (D := (dC, dI)) (ci := 8) (v := .ref qd) (C := RX8) (T := TX8) (N := 11) hx hb hts k_1 hown hK hP 0 rfl rfl 0 (by decide) k_2 (fun _ h9 => h9) rfl dX8_count_37 ?_
    refine va_get (D := (dC, dI)) (ci := 0) (v := .int (nI b)) (C := RX0) (T := TX0) (N := 7) hx hb hts k_3 hown hK hP 1 rfl rfl 1 (by decide) k_4 (fun _ h9 => h9) rfl dX8_count_40 ?_
    have hP9 := hP.sub (ws' := []) [] rfl
    have hD9 := hD.sub (ws' := []) [] (by decide) rfl
    have hK9 := hK.sub (tys' := []) [] rfl
    exact W.iret (v := (nI b)) hx hb hr (fun t ht hW => ⟨⟨(nI b), (), rfl, by rw [h_1]; first | rfl | decide | simp [cntF], by rw [ht]; exact hP9, va_K.moved hW.alike hK9, hD9⟩, hS.F ht⟩) hS.2.2 dX8_count_43
  by_cases h_2 : p0 = 1
  · refine lv_tableIn (off := 43) (tgt := 44) hx hb dX8_count_1 (by rw [h_2]; decide) (by rw [h_2]; decide) (by rw [h_2]; decide) (by decide) ?_
    refine lv_aload_n hx hb dX8_count_44 rfl (lv_at hl 0 rfl) ?_
    refine va_get (D := (dC, dI)) (ci := 8) (v := .ref qd) (C := RX8) (T := TX8) (N := 11) hx hb hts k_1 hown hK hP 0 rfl rfl 0 (by decide) k_2 (fun _ h9 => h9) rfl dX8_count_45 ?_
    refine va_get (D := (dC, dI)) (ci := 0) (v := .int (nI w)) (C := RX0) (T := TX0) (N := 7) hx hb hts k_3 hown hK hP 1 rfl rfl 0 (by decide) k_5 (fun _ h9 => h9) rfl dX8_count_48 ?_
    have hP9 := hP.sub (ws' := []) [] rfl
    have hD9 := hD.sub (ws' := []) [] (by decide) rfl
    have hK9 := hK.sub (tys' := []) [] rfl
    exact W.iret (v := (nI w)) hx hb hr (fun t ht hW => ⟨⟨(nI w), (), rfl, by rw [h_2]; first | rfl | decide | simp [cntF], by rw [ht]; exact hP9, va_K.moved hW.alike hK9, hD9⟩, hS.F ht⟩) hS.2.2 dX8_count_51
  by_cases h_3 : p0 = 2
  · refine lv_tableIn (off := 51) (tgt := 52) hx hb dX8_count_1 (by rw [h_3]; decide) (by rw [h_3]; decide) (by rw [h_3]; decide) (by decide) ?_
    refine lv_aload_n hx hb dX8_count_52 rfl (lv_at hl 0 rfl) ?_
    refine va_get (D := (dC, dI)) (ci := 8) (v := .ref qd) (C := RX8) (T := TX8) (N := 11) hx hb hts k_1 hown hK hP 0 rfl rfl 0 (by decide) k_2 (fun _ h9 => h9) rfl dX8_count_53 ?_
    refine va_get (D := (dC, dI)) (ci := 0) (v := .int 0) (C := RX0) (T := TX0) (N := 7) hx hb hts k_3 hown hK hP 1 rfl rfl 2 (by decide) k_6 (fun _ h9 => h9) rfl dX8_count_56 ?_
    have hP9 := hP.sub (ws' := []) [] rfl
    have hD9 := hD.sub (ws' := []) [] (by decide) rfl
    have hK9 := hK.sub (tys' := []) [] rfl
    exact W.iret (v := 0) hx hb hr (fun t ht hW => ⟨⟨0, (), rfl, by rw [h_3]; first | rfl | decide | simp [cntF], by rw [ht]; exact hP9, va_K.moved hW.alike hK9, hD9⟩, hS.F ht⟩) hS.2.2 dX8_count_59
  by_cases h_4 : p0 = 3
  · refine lv_tableIn (off := 59) (tgt := 60) hx hb dX8_count_1 (by rw [h_4]; decide) (by rw [h_4]; decide) (by rw [h_4]; decide) (by decide) ?_
    refine lv_aload_n hx hb dX8_count_60 rfl (lv_at hl 0 rfl) ?_
    refine va_get (D := (dC, dI)) (ci := 8) (v := .int 1) (C := RX8) (T := TX8) (N := 11) hx hb hts k_1 hown hK hP 0 rfl rfl 10 (by decide) k_7 (fun _ h9 => h9) rfl dX8_count_61 ?_
    refine lv_if_eq (tgt := 71) hx hb dX8_count_64 (by decide) (fun c_5 => ?_) (fun c_5 => ?_)
    · exact absurd c_5 (by decide)
    refine lv_iconst (v := 1) hx hb dX8_count_67 (by decide) ?_
    refine lv_goto (tgt := 72) hx hb dX8_count_68 (by decide) ?_
    have hP9 := hP.sub (ws' := []) [] rfl
    have hD9 := hD.sub (ws' := []) [] (by decide) rfl
    have hK9 := hK.sub (tys' := []) [] rfl
    exact W.iret (v := 1) hx hb hr (fun t ht hW => ⟨⟨1, (), rfl, by rw [h_4]; first | rfl | decide | simp [cntF], by rw [ht]; exact hP9, va_K.moved hW.alike hK9, hD9⟩, hS.F ht⟩) hS.2.2 dX8_count_72
  by_cases h_6 : p0 = 4
  · refine lv_tableIn (off := 72) (tgt := 73) hx hb dX8_count_1 (by rw [h_6]; decide) (by rw [h_6]; decide) (by rw [h_6]; decide) (by decide) ?_
    refine lv_aload_n hx hb dX8_count_73 rfl (lv_at hl 0 rfl) ?_
    refine va_get (D := (dC, dI)) (ci := 8) (v := .int 1) (C := RX8) (T := TX8) (N := 11) hx hb hts k_1 hown hK hP 0 rfl rfl 10 (by decide) k_7 (fun _ h9 => h9) rfl dX8_count_74 ?_
    refine lv_if_eq (tgt := 84) hx hb dX8_count_77 (by decide) (fun c_7 => ?_) (fun c_7 => ?_)
    · exact absurd c_7 (by decide)
    refine lv_iconst (v := -1) hx hb dX8_count_80 (by decide) ?_
    refine lv_goto (tgt := 95) hx hb dX8_count_81 (by decide) ?_
    have hP9 := hP.sub (ws' := []) [] rfl
    have hD9 := hD.sub (ws' := []) [] (by decide) rfl
    have hK9 := hK.sub (tys' := []) [] rfl
    exact W.iret (v := (-1)) hx hb hr (fun t ht hW => ⟨⟨(-1), (), rfl, by rw [h_6]; first | rfl | decide | simp [cntF], by rw [ht]; exact hP9, va_K.moved hW.alike hK9, hD9⟩, hS.F ht⟩) hS.2.2 dX8_count_95
  have th_1 : ¬ p0.toInt = 0 := lv_neT h_1 (by decide)
  have th_2 : ¬ p0.toInt = 1 := lv_neT h_2 (by decide)
  have th_3 : ¬ p0.toInt = 2 := lv_neT h_3 (by decide)
  have th_4 : ¬ p0.toInt = 3 := lv_neT h_4 (by decide)
  have th_6 : ¬ p0.toInt = 4 := lv_neT h_6 (by decide)
  refine lv_tableOut (tgt := 96) hx hb dX8_count_1 (by omega) (by decide) ?_
  refine lv_aload_n hx hb dX8_count_96 rfl (lv_at hl 0 rfl) ?_
  refine va_get (D := (dC, dI)) (ci := 8) (v := .int 1) (C := RX8) (T := TX8) (N := 11) hx hb hts k_1 hown hK hP 0 rfl rfl 10 (by decide) k_7 (fun _ h9 => h9) rfl dX8_count_97 ?_
  refine lv_if_eq (tgt := 107) hx hb dX8_count_100 (by decide) (fun c_8 => ?_) (fun c_8 => ?_)
  · exact absurd c_8 (by decide)
  refine lv_iconst (v := 0) hx hb dX8_count_103 (by decide) ?_
  refine lv_goto (tgt := 112) hx hb dX8_count_104 (by decide) ?_
  have hP9 := hP.sub (ws' := []) [] rfl
  have hD9 := hD.sub (ws' := []) [] (by decide) rfl
  have hK9 := hK.sub (tys' := []) [] rfl
  exact W.iret (v := 0) hx hb hr (fun t ht hW => ⟨⟨0, (), rfl, by simp [cntF, h_1, h_2, h_3, h_4, h_6], by rw [ht]; exact hP9, va_K.moved hW.alike hK9, hD9⟩, hS.F ht⟩) hS.2.2 dX8_count_112
def v_X8_told_0 : List Cond := .code yX8_told cX8_told 2 (some (.object "TwinRoots$Told")) :: ([.fieldLink RX8 67 "TwinRoots" "rootZero" "LTwinRoots$Told;"] ++ (wsX80 ++ ([])))
set_option maxHeartbeats 4000000 in
set_option maxRecDepth 100000 in
theorem c_X8_told_0 (l : Launch) (dC : Nat → ClassId) (dI : Nat → Nat → Nat) (sz : Nat) (h0 : Nat) (qd : Nat) (qf : Nat) (qs : Nat) (qp : Nat) (qe : Nat) (q0 : Nat) (q1 : Nat) (qk : Nat) (lt : Int32) (fr : Int64) (dn : Int32) : Met l yX8_told v_X8_told_0 ({ frames := 0, cells := 0, slots := 0, locals := 0 } : Room) (va_Pc [.ref h0, .int 0] (fun U => U.heap.size = sz ∧ va_P (dC, dI) vwCl [(h0, .inr (8, [.ref qd, .ref qf, .ref qs, .ref qp, .ref qe, .ref q0, .ref q1, .ref qk, .int lt, .long fr, .int dn]))] U.heap ∧ va_K (dC, dI) vwCl [] U ∧ va_D (fun _ => True) [(h0, .inr (8, [.ref qd, .ref qf, .ref qs, .ref qp, .ref qe, .ref q0, .ref q1, .ref qk, .int lt, .long fr, .int dn]))])) (va_Qr (fun (_ : Unit) => True) (fun (_ : Unit) (ra : Nat) (t : State) => ra = q0 ∧ va_P (dC, dI) vwCl [(h0, .inr (8, [.ref qd, .ref qf, .ref qs, .ref qp, .ref qe, .ref q0, .ref q1, .ref qk, .int lt, .long fr, .int dn]))] t.heap ∧ va_K (dC, dI) vwCl [] t ∧ va_D (va_A [(h0, .inr (8, [.ref qd, .ref qf, .ref qs, .ref qp, .ref qe, .ref q0, .ref q1, .ref qk, .int lt, .long fr, .int dn]))] sz) [(h0, .inr (8, [.ref qd, .ref qf, .ref qs, .ref qp, .ref qe, .ref q0, .ref q1, .ref qk, .int lt, .long fr, .int dn]))]) (va_A [(h0, .inr (8, [.ref qd, .ref qf, .ref qs, .ref qp, .ref qe, .ref q0, .ref q1, .ref qk, .int lt, .long fr, .int dn]))] sz)) 0 0 (va_A [(h0, .inr (8, [.ref qd, .ref qf, .ref qs, .ref qp, .ref qe, .ref q0, .ref q1, .ref qk, .int lt, .long fr, .int dn]))] sz) := by
  refine Met.ofW (cc := cX8_told) (maxL := 2) (ret := (some (.object "TwinRoots$Told"))) (by decide) rfl ?_
  intro p e s m args below meth c s₁ B hml hv
  obtain ⟨rfl, hsz, hP, hK, hD0⟩ := hv
  have hx := B.exec
  have hb := B.bytes
  have hr := B.returns
  have hts := atoms_spec (ws := v_X8_told_0) B.pre
  have hown : s.vm.findClass RX8 = some m.cls := findClass_of_methodNamed B.named
  have hlocks := B.notSynchronized
  subst hsz
  have hD := hD0.self (sz := s.heap.size)
  generalize hAe : va_A [(h0, .inr (8, [.ref qd, .ref qf, .ref qs, .ref qp, .ref qe, .ref q0, .ref q1, .ref qk, .int lt, .long fr, .int dn]))] s.heap.size = A at hD ⊢
  have hA : ∀ q : Nat, s.heap.size ≤ q → A q := fun q h => by rw [← hAe]; exact Or.inr h
  have hS : va_S A s.heap s.heap [] := va_S.rf
  have hP : va_P (dC, dI) vwCl [(h0, .inr (8, [.ref qd, .ref qf, .ref qs, .ref qp, .ref qe, .ref q0, .ref q1, .ref qk, .int lt, .long fr, .int dn]))] s.heap := hP
  have hl := lv_entry ([.ref h0, .int 0]) (n := 2) (Nat.le_of_ble_eq_true rfl)
  rw [lg_entry_eq]
  generalize (lg_sl ([.ref h0, .int 0]) ++ List.replicate (2 - (lg_sl ([.ref h0, .int 0])).length) Slot.unset).toArray = ls at hl ⊢
  have hl : lv_has ls 2 [(0, .ref h0), (1, .int 0)] := hl
  have k_1 := (fun _ h => List.mem_cons_of_mem _ (List.mem_append_right _ (List.mem_append_left _ h)) : ∀ w ∈ wsX80, w ∈ v_X8_told_0)
  have k_2 := hts (.fieldLink RX8 67 "TwinRoots" "rootZero" "LTwinRoots$Told;") (List.mem_of_getElem? (i := 1) rfl)
  refine lv_iload_n hx hb dX8_told_0 rfl (lv_at hl 1 rfl) ?_
  refine lv_iconst (v := 1) hx hb dX8_told_1 (by decide) ?_
  refine lv_icmp_ne (tgt := 12) hx hb dX8_told_2 (by decide) (fun c_1 => ?_) (fun c_1 => ?_)
  rotate_left
  · exact absurd c_1 (by decide)
  refine lv_aload_n hx hb dX8_told_12 rfl (lv_at hl 0 rfl) ?_
  refine va_get (D := (dC, dI)) (ci := 8) (v := .ref q0) (C := RX8) (T := TX8) (N := 11) hx hb hts k_1 hown hK hP 0 rfl rfl 5 (by decide) k_2 (fun _ h9 => h9) rfl dX8_told_13 ?_
  have hP9 := hP.sub (ws' := [(h0, .inr (8, [.ref qd, .ref qf, .ref qs, .ref qp, .ref qe, .ref q0, .ref q1, .ref qk, .int lt, .long fr, .int dn]))]) [0] rfl
  have hD9 := hD.sub (ws' := [(h0, .inr (8, [.ref qd, .ref qf, .ref qs, .ref qp, .ref qe, .ref q0, .ref q1, .ref qk, .int lt, .long fr, .int dn]))]) [0] (by decide) rfl
  have hK9 := hK.sub (tys' := []) [] rfl
  exact W.aret (v := .ref q0) hx hb hr (Or.inl ⟨_, rfl⟩) (Or.inr ⟨_, rfl⟩) (fun t ht hW => ⟨⟨(), q0, rfl, trivial, rfl, by rw [ht]; exact hP9, va_K.moved hW.alike hK9, hD9⟩, hS.F ht⟩) hS.2.2 dX8_told_16
def v_X8_told_1 : List Cond := .code yX8_told cX8_told 2 (some (.object "TwinRoots$Told")) :: ([.fieldLink RX8 71 "TwinRoots" "rootOne" "LTwinRoots$Told;"] ++ (wsX80 ++ ([])))
set_option maxHeartbeats 4000000 in
set_option maxRecDepth 100000 in
theorem c_X8_told_1 (l : Launch) (dC : Nat → ClassId) (dI : Nat → Nat → Nat) (sz : Nat) (h0 : Nat) (qd : Nat) (qf : Nat) (qs : Nat) (qp : Nat) (qe : Nat) (q0 : Nat) (q1 : Nat) (qk : Nat) (lt : Int32) (fr : Int64) (dn : Int32) : Met l yX8_told v_X8_told_1 ({ frames := 0, cells := 0, slots := 0, locals := 0 } : Room) (va_Pc [.ref h0, .int 1] (fun U => U.heap.size = sz ∧ va_P (dC, dI) vwCl [(h0, .inr (8, [.ref qd, .ref qf, .ref qs, .ref qp, .ref qe, .ref q0, .ref q1, .ref qk, .int lt, .long fr, .int dn]))] U.heap ∧ va_K (dC, dI) vwCl [] U ∧ va_D (fun _ => True) [(h0, .inr (8, [.ref qd, .ref qf, .ref qs, .ref qp, .ref qe, .ref q0, .ref q1, .ref qk, .int lt, .long fr, .int dn]))])) (va_Qr (fun (_ : Unit) => True) (fun (_ : Unit) (ra : Nat) (t : State) => ra = q1 ∧ va_P (dC, dI) vwCl [(h0, .inr (8, [.ref qd, .ref qf, .ref qs, .ref qp, .ref qe, .ref q0, .ref q1, .ref qk, .int lt, .long fr, .int dn]))] t.heap ∧ va_K (dC, dI) vwCl [] t ∧ va_D (va_A [(h0, .inr (8, [.ref qd, .ref qf, .ref qs, .ref qp, .ref qe, .ref q0, .ref q1, .ref qk, .int lt, .long fr, .int dn]))] sz) [(h0, .inr (8, [.ref qd, .ref qf, .ref qs, .ref qp, .ref qe, .ref q0, .ref q1, .ref qk, .int lt, .long fr, .int dn]))]) (va_A [(h0, .inr (8, [.ref qd, .ref qf, .ref qs, .ref qp, .ref qe, .ref q0, .ref q1, .ref qk, .int lt, .long fr, .int dn]))] sz)) 0 0 (va_A [(h0, .inr (8, [.ref qd, .ref qf, .ref qs, .ref qp, .ref qe, .ref q0, .ref q1, .ref qk, .int lt, .long fr, .int dn]))] sz) := by
  refine Met.ofW (cc := cX8_told) (maxL := 2) (ret := (some (.object "TwinRoots$Told"))) (by decide) rfl ?_
  intro p e s m args below meth c s₁ B hml hv
  obtain ⟨rfl, hsz, hP, hK, hD0⟩ := hv
  have hx := B.exec
  have hb := B.bytes
  have hr := B.returns
  have hts := atoms_spec (ws := v_X8_told_1) B.pre
  have hown : s.vm.findClass RX8 = some m.cls := findClass_of_methodNamed B.named
  have hlocks := B.notSynchronized
  subst hsz
  have hD := hD0.self (sz := s.heap.size)
  generalize hAe : va_A [(h0, .inr (8, [.ref qd, .ref qf, .ref qs, .ref qp, .ref qe, .ref q0, .ref q1, .ref qk, .int lt, .long fr, .int dn]))] s.heap.size = A at hD ⊢
  have hA : ∀ q : Nat, s.heap.size ≤ q → A q := fun q h => by rw [← hAe]; exact Or.inr h
  have hS : va_S A s.heap s.heap [] := va_S.rf
  have hP : va_P (dC, dI) vwCl [(h0, .inr (8, [.ref qd, .ref qf, .ref qs, .ref qp, .ref qe, .ref q0, .ref q1, .ref qk, .int lt, .long fr, .int dn]))] s.heap := hP
  have hl := lv_entry ([.ref h0, .int 1]) (n := 2) (Nat.le_of_ble_eq_true rfl)
  rw [lg_entry_eq]
  generalize (lg_sl ([.ref h0, .int 1]) ++ List.replicate (2 - (lg_sl ([.ref h0, .int 1])).length) Slot.unset).toArray = ls at hl ⊢
  have hl : lv_has ls 2 [(0, .ref h0), (1, .int 1)] := hl
  have k_1 := (fun _ h => List.mem_cons_of_mem _ (List.mem_append_right _ (List.mem_append_left _ h)) : ∀ w ∈ wsX80, w ∈ v_X8_told_1)
  have k_2 := hts (.fieldLink RX8 71 "TwinRoots" "rootOne" "LTwinRoots$Told;") (List.mem_of_getElem? (i := 1) rfl)
  refine lv_iload_n hx hb dX8_told_0 rfl (lv_at hl 1 rfl) ?_
  refine lv_iconst (v := 1) hx hb dX8_told_1 (by decide) ?_
  refine lv_icmp_ne (tgt := 12) hx hb dX8_told_2 (by decide) (fun c_1 => ?_) (fun c_1 => ?_)
  · exact absurd (by decide) c_1
  refine lv_aload_n hx hb dX8_told_5 rfl (lv_at hl 0 rfl) ?_
  refine va_get (D := (dC, dI)) (ci := 8) (v := .ref q1) (C := RX8) (T := TX8) (N := 11) hx hb hts k_1 hown hK hP 0 rfl rfl 6 (by decide) k_2 (fun _ h9 => h9) rfl dX8_told_6 ?_
  refine lv_goto (tgt := 16) hx hb dX8_told_9 (by decide) ?_
  have hP9 := hP.sub (ws' := [(h0, .inr (8, [.ref qd, .ref qf, .ref qs, .ref qp, .ref qe, .ref q0, .ref q1, .ref qk, .int lt, .long fr, .int dn]))]) [0] rfl
  have hD9 := hD.sub (ws' := [(h0, .inr (8, [.ref qd, .ref qf, .ref qs, .ref qp, .ref qe, .ref q0, .ref q1, .ref qk, .int lt, .long fr, .int dn]))]) [0] (by decide) rfl
  have hK9 := hK.sub (tys' := []) [] rfl
  exact W.aret (v := .ref q1) hx hb hr (Or.inl ⟨_, rfl⟩) (Or.inr ⟨_, rfl⟩) (fun t ht hW => ⟨⟨(), q1, rfl, trivial, rfl, by rw [ht]; exact hP9, va_K.moved hW.alike hK9, hD9⟩, hS.F ht⟩) hS.2.2 dX8_told_16
def v_X8_writeRoot_0 : List Cond := .code yX8_writeRoot cX8_writeRoot 2 (some .boolean) :: ([.code yX8_told cX8_told 2 (some (.object "TwinRoots$Told")), .fieldLink RX8 67 "TwinRoots" "rootZero" "LTwinRoots$Told;", .methodLink RX8 143 yX8_told, .instanceMethod yX8_told, .selects RX8 yX8_told yX8_told, .initialized RX8, .fieldLink RX8 28 "TwinRoots" "disk" "LTwinRoots$Disk;", .code yX7_layOut cX7_layOut 2 none, .code yX0_startImage cX0_startImage 2 none, .fieldLink RX0 20 "TwinRoots$Disk" "image" "[I", .methodLink RX7 29 yX0_startImage, .instanceMethod yX0_startImage, .selects RX0 yX0_startImage yX0_startImage, .initialized RX0, .constant RX7 34 (1414677326), .code yX0_lay cX0_lay 3 none, .methodLink RX7 35 yX0_lay, .instanceMethod yX0_lay, .selects RX0 yX0_lay yX0_lay, .fieldLink RX7 9 "TwinRoots$Told" "epoch" "I", .fieldLink RX7 15 "TwinRoots$Told" "top" "I", .fieldLink RX7 18 "TwinRoots$Told" "keys" "I", .methodLink RX8 220 yX7_layOut, .instanceMethod yX7_layOut, .selects RX7 yX7_layOut yX7_layOut, .initialized RX7, .code yX0_write cX0_write 6 (some .boolean), .fieldLink RX0 7 "TwinRoots$Disk" "words" "I", .code yX0_sealOf cX0_sealOf 5 (some .int), .code Lib.Math.max.name Lib.Math.max.code 2 (some .int), .methodLink RX0 26 Lib.Math.max.name, .static Lib.Math.max.name, .initialized "java/lang/Math", .methodLink RX0 41 yX0_sealOf, .static yX0_sealOf, .methodLink RX0 45 yX0_lay, .fieldLink RX0 23 "TwinRoots$Disk" "writesAhead" "I", .code yX0_cellOf cX0_cellOf 4 (some .int), .fieldLink RX0 13 "TwinRoots$Disk" "blocks" "I", .methodLink RX0 38 yX0_cellOf, .instanceMethod yX0_cellOf, .selects RX0 yX0_cellOf yX0_cellOf, .fieldLink RX0 16 "TwinRoots$Disk" "cells" "[I", .fieldLink RX0 49 "TwinRoots$Disk" "writes" "I", .methodLink RX8 224 yX0_write, .instanceMethod yX0_write, .selects RX0 yX0_write yX0_write] ++ (wsX80 ++ (wsX00 ++ (wsX70 ++ ([])))))
set_option maxRecDepth 20000 in
theorem g_X8_writeRoot_0_X8_told_0 : GoodIn v_X8_writeRoot_0 (wsV RX8 143 RX8 yX8_told v_X8_told_0) := goodIn_r _ [3, 4, 5, 6, 1, 2, 48, 49, 50, 51, 52, 53, 54, 55, 56, 57, 58] (by decide +kernel) (by decide +kernel)
set_option maxRecDepth 20000 in
theorem g_X8_writeRoot_0_X7_layOut : GoodIn v_X8_writeRoot_0 (wsV RX8 220 RX7 yX7_layOut v_X7_layOut) := goodIn_r _ [23, 24, 25, 26, 8, 9, 10, 11, 12, 13, 14, 15, 16, 17, 18, 19, 20, 21, 22, 59, 60, 61, 62, 63, 64, 65, 66, 67, 68, 69] (by decide +kernel) (by decide +kernel)
set_option maxRecDepth 20000 in
theorem g_X8_writeRoot_0_X0_write : GoodIn v_X8_writeRoot_0 (wsV RX8 224 RX0 yX0_write v_X0_write) := goodIn_r _ [45, 46, 47, 14, 27, 28, 10, 29, 30, 31, 32, 33, 34, 35, 14, 16, 36, 18, 19, 37, 38, 39, 40, 41, 42, 43, 44, 59, 60, 61, 62, 63, 64, 65] (by decide +kernel) (by decide +kernel)
set_option maxHeartbeats 4000000 in
set_option maxRecDepth 100000 in
theorem c_X8_writeRoot_0 (l : Launch) (dC : Nat → ClassId) (dI : Nat → Nat → Nat) (sz : Nat) (h0 : Nat) (qd : Nat) (qf : Nat) (qs : Nat) (qp : Nat) (qe : Nat) (q0 : Nat) (q1 : Nat) (qk : Nat) (lt : Int32) (fr : Int64) (dn : Int32) (w : Nat) (b : Nat) (qc : Nat) (qi : Nat) (wr : Int32) (wc : Int32) (e1 : Int32) (e2 : Int32) (e3 : Int32) (e4 : Int64) (cC : ClassId) (cI : ClassId) (f : Nat → Int32) (g : Nat → Int32) (zw0 : 12 ≤ w) (zw : w ≤ 40) (zb0 : 4 ≤ b) (zb : b ≤ 64) (zwb : w * b ≤ 2560) : Met l yX8_writeRoot v_X8_writeRoot_0 ({ frames := 3, cells := 0, slots := 0, locals := 62 } : Room) (va_Pc [.ref h0, .int 0] (fun U => U.heap.size = sz ∧ va_P (dC, dI) vwCl [(h0, .inr (8, [.ref qd, .ref qf, .ref qs, .ref qp, .ref qe, .ref q0, .ref q1, .ref qk, .int lt, .long fr, .int dn])), (qd, .inr (0, [.int (nI w), .int (nI b), .int wr, .ref qc, .ref qi, .int (-1), .int wc])), (qc, .inl (cC, w * b, .inl f)), (qi, .inl (cI, w, .inl g)), (q0, .inr (7, [.int e1, .int e2, .int e3, .long e4]))] U.heap ∧ va_K (dC, dI) vwCl [(cC, .int), (cI, .int)] U ∧ va_D (fun _ => True) [(h0, .inr (8, [.ref qd, .ref qf, .ref qs, .ref qp, .ref qe, .ref q0, .ref q1, .ref qk, .int lt, .long fr, .int dn])), (qd, .inr (0, [.int (nI w), .int (nI b), .int wr, .ref qc, .ref qi, .int (-1), .int wc])), (qc, .inl (cC, w * b, .inl f)), (qi, .inl (cI, w, .inl g)), (q0, .inr (7, [.int e1, .int e2, .int e3, .long e4]))])) (va_Qi (fun (r : Int32) (u : Int32 × (Nat → Int32) × (Nat → Int32)) => match u with | (wr2, f2, g2) => r = 1) (fun (u : Int32 × (Nat → Int32) × (Nat → Int32)) (t : State) => match u with | (wr2, f2, g2) => va_P (dC, dI) vwCl [(h0, .inr (8, [.ref qd, .ref qf, .ref qs, .ref qp, .ref qe, .ref q0, .ref q1, .ref qk, .int lt, .long fr, .int dn])), (qd, .inr (0, [.int (nI w), .int (nI b), .int wr2, .ref qc, .ref qi, .int (-1), .int wc])), (qc, .inl (cC, w * b, .inl f2)), (qi, .inl (cI, w, .inl g2)), (q0, .inr (7, [.int e1, .int e2, .int e3, .long e4]))] t.heap ∧ va_K (dC, dI) vwCl [(cC, .int), (cI, .int)] t ∧ va_D (va_A [(h0, .inr (8, [.ref qd, .ref qf, .ref qs, .ref qp, .ref qe, .ref q0, .ref q1, .ref qk, .int lt, .long fr, .int dn])), (qd, .inr (0, [.int (nI w), .int (nI b), .int wr, .ref qc, .ref qi, .int (-1), .int wc])), (qc, .inl (cC, w * b, .inl f)), (qi, .inl (cI, w, .inl g)), (q0, .inr (7, [.int e1, .int e2, .int e3, .long e4]))] sz) [(h0, .inr (8, [.ref qd, .ref qf, .ref qs, .ref qp, .ref qe, .ref q0, .ref q1, .ref qk, .int lt, .long fr, .int dn])), (qd, .inr (0, [.int (nI w), .int (nI b), .int wr2, .ref qc, .ref qi, .int (-1), .int wc])), (qc, .inl (cC, w * b, .inl f2)), (qi, .inl (cI, w, .inl g2)), (q0, .inr (7, [.int e1, .int e2, .int e3, .long e4]))]) (va_A [(h0, .inr (8, [.ref qd, .ref qf, .ref qs, .ref qp, .ref qe, .ref q0, .ref q1, .ref qk, .int lt, .long fr, .int dn])), (qd, .inr (0, [.int (nI w), .int (nI b), .int wr, .ref qc, .ref qi, .int (-1), .int wc])), (qc, .inl (cC, w * b, .inl f)), (qi, .inl (cI, w, .inl g)), (q0, .inr (7, [.int e1, .int e2, .int e3, .long e4]))] sz)) 0 0 (va_A [(h0, .inr (8, [.ref qd, .ref qf, .ref qs, .ref qp, .ref qe, .ref q0, .ref q1, .ref qk, .int lt, .long fr, .int dn])), (qd, .inr (0, [.int (nI w), .int (nI b), .int wr, .ref qc, .ref qi, .int (-1), .int wc])), (qc, .inl (cC, w * b, .inl f)), (qi, .inl (cI, w, .inl g)), (q0, .inr (7, [.int e1, .int e2, .int e3, .long e4]))] sz) := by
  refine Met.ofW (cc := cX8_writeRoot) (maxL := 2) (ret := (some .boolean)) (by decide) rfl ?_
  intro p e s m args below meth c s₁ B hml hv
  obtain ⟨rfl, hsz, hP, hK, hD0⟩ := hv
  have hx := B.exec
  have hb := B.bytes
  have hr := B.returns
  have hts := atoms_spec (ws := v_X8_writeRoot_0) B.pre
  have hown : s.vm.findClass RX8 = some m.cls := findClass_of_methodNamed B.named
  have hlocks := B.notSynchronized
  subst hsz
  have hD := hD0.self (sz := s.heap.size)
  generalize hAe : va_A [(h0, .inr (8, [.ref qd, .ref qf, .ref qs, .ref qp, .ref qe, .ref q0, .ref q1, .ref qk, .int lt, .long fr, .int dn])), (qd, .inr (0, [.int (nI w), .int (nI b), .int wr, .ref qc, .ref qi, .int (-1), .int wc])), (qc, .inl (cC, w * b, .inl f)), (qi, .inl (cI, w, .inl g)), (q0, .inr (7, [.int e1, .int e2, .int e3, .long e4]))] s.heap.size = A at hD ⊢
  have hA : ∀ q : Nat, s.heap.size ≤ q → A q := fun q h => by rw [← hAe]; exact Or.inr h
  have hS : va_S A s.heap s.heap [] := va_S.rf
  have hP : va_P (dC, dI) vwCl [(h0, .inr (8, [.ref qd, .ref qf, .ref qs, .ref qp, .ref qe, .ref q0, .ref q1, .ref qk, .int lt, .long fr, .int dn])), (qd, .inr (0, [.int (nI w), .int (nI b), .int wr, .ref qc, .ref qi, .int (-1), .int wc])), (qc, .inl (cC, w * b, .inl f)), (qi, .inl (cI, w, .inl g)), (q0, .inr (7, [.int e1, .int e2, .int e3, .long e4]))] s.heap := hP
  have hl := lv_entry ([.ref h0, .int 0]) (n := 2) (Nat.le_of_ble_eq_true rfl)
  rw [lg_entry_eq]
  generalize (lg_sl ([.ref h0, .int 0]) ++ List.replicate (2 - (lg_sl ([.ref h0, .int 0])).length) Slot.unset).toArray = ls at hl ⊢
  have hl : lv_has ls 2 [(0, .ref h0), (1, .int 0)] := hl
  have k_1 := (fun _ h => List.mem_cons_of_mem _ (List.mem_append_right _ (List.mem_append_left _ h)) : ∀ w ∈ wsX80, w ∈ v_X8_writeRoot_0)
  have k_2 := hts (.fieldLink RX8 28 "TwinRoots" "disk" "LTwinRoots$Disk;") (List.mem_of_getElem? (i := 7) rfl)
  refine lv_aload_n hx hb dX8_writeRoot_0 rfl (lv_at hl 0 rfl) ?_
  refine lv_iload_n hx hb dX8_writeRoot_1 rfl (lv_at hl 1 rfl) ?_
  have hPc := hP.sub (ws' := [(h0, .inr (8, [.ref qd, .ref qf, .ref qs, .ref qp, .ref qe, .ref q0, .ref q1, .ref qk, .int lt, .long fr, .int dn]))]) [0] rfl
  have hDc := hD.sub (ws' := [(h0, .inr (8, [.ref qd, .ref qf, .ref qs, .ref qp, .ref qe, .ref q0, .ref q1, .ref qk, .int lt, .long fr, .int dn]))]) [0] (by decide) rfl
  have hKc := hK.sub (tys' := []) [] rfl
  have hFc := va_free (wc := [(h0, .inr (8, [.ref qd, .ref qf, .ref qs, .ref qp, .ref qe, .ref q0, .ref q1, .ref qk, .int lt, .long fr, .int dn]))]) hD hS hA [0] rfl
  refine va_callr (va_runV (As := [.int 0]) (rest := []) ⟨hx, hb, hml, hown, hts⟩ (c_X8_told_0 l dC dI s.heap.size h0 qd qf qs qp qe q0 q1 qk lt fr dn) (cwV 1 hts g_X8_writeRoot_0_X8_told_0 rfl rfl rfl (by decide +kernel) ⟨Nat.le_of_ble_eq_true rfl, Nat.le_of_ble_eq_true rfl⟩) ⟨fun a U g mk q => by obtain ⟨q0, q1, qP, qK, qD⟩ := q; exact ⟨q0, q1, qP, va_K.moved (u := U) (U := U.calling g mk a) (Vm.Alike.refl U.vm) qK, qD⟩, va_recv hKc hPc (ci := 8) (q0 := 0) rfl rfl, fun U hU hW => ⟨rfl, by rw [hU], by rw [hU]; exact hPc, va_K.moved hW.alike hKc, hDc.weaken (fun _ _ _ _ => trivial)⟩⟩ rfl rfl hl.1 rfl (lv_room (Nat.le_of_ble_eq_true rfl)) dX8_writeRoot_2 ⟨(show 0 + 0 ≤ 0 by omega), (show 0 + 0 ≤ 0 by omega)⟩) hS (fun q _ h => hFc q h) hFc (fun u r_1 t H1 locs ht hvm hw hB hz1 hk1 hS => ?_)
  obtain ⟨hra, hP1, hK1, hD1⟩ := hB
  have hra := hra.symm
  subst hra
  rw [ht] at hP1
  have hK1 := va_K.moved hvm.symm hK1
  try dsimp only at hw
  obtain ⟨hP, hD⟩ := va_join (wr := [(qd, .inr (0, [.int (nI w), .int (nI b), .int wr, .ref qc, .ref qi, .int (-1), .int wc])), (qc, .inl (cC, w * b, .inl f)), (qi, .inl (cI, w, .inl g)), (q0, .inr (7, [.int e1, .int e2, .int e3, .long e4]))]) (w1 := [(h0, .inr (8, [.ref qd, .ref qf, .ref qs, .ref qp, .ref qe, .ref q0, .ref q1, .ref qk, .int lt, .long fr, .int dn]))]) hP hD [0] [1, 2, 3, 4] rfl rfl (by decide) (by decide) hk1 hFc hP1 hD1
  have hK := (hK.sub (tys' := [(cC, .int), (cI, .int)]) [0, 1] rfl).app hK1
  generalize H1 = H at hP hS ⊢
  have hP : va_P (dC, dI) vwCl [(qd, .inr (0, [.int (nI w), .int (nI b), .int wr, .ref qc, .ref qi, .int (-1), .int wc])), (qc, .inl (cC, w * b, .inl f)), (qi, .inl (cI, w, .inl g)), (q0, .inr (7, [.int e1, .int e2, .int e3, .long e4])), (h0, .inr (8, [.ref qd, .ref qf, .ref qs, .ref qp, .ref qe, .ref q0, .ref q1, .ref qk, .int lt, .long fr, .int dn]))] H := hP
  have hD : va_D A [(qd, .inr (0, [.int (nI w), .int (nI b), .int wr, .ref qc, .ref qi, .int (-1), .int wc])), (qc, .inl (cC, w * b, .inl f)), (qi, .inl (cI, w, .inl g)), (q0, .inr (7, [.int e1, .int e2, .int e3, .long e4])), (h0, .inr (8, [.ref qd, .ref qf, .ref qs, .ref qp, .ref qe, .ref q0, .ref q1, .ref qk, .int lt, .long fr, .int dn]))] := hD
  have hK : va_K (dC, dI) vwCl [(cC, .int), (cI, .int)] s := hK
  refine lv_aload_n hx hb dX8_writeRoot_5 rfl (lv_at hl 0 rfl) ?_
  refine va_get (D := (dC, dI)) (ci := 8) (v := .ref qd) (C := RX8) (T := TX8) (N := 11) hx hb hts k_1 hown hK hP 4 rfl rfl 0 (by decide) k_2 (fun _ h9 => h9) rfl dX8_writeRoot_6 ?_
  have hPc := hP.sub (ws' := [(q0, .inr (7, [.int e1, .int e2, .int e3, .long e4])), (qd, .inr (0, [.int (nI w), .int (nI b), .int wr, .ref qc, .ref qi, .int (-1), .int wc])), (qi, .inl (cI, w, .inl g))]) [3, 0, 2] rfl
  have hDc := hD.sub (ws' := [(q0, .inr (7, [.int e1, .int e2, .int e3, .long e4])), (qd, .inr (0, [.int (nI w), .int (nI b), .int wr, .ref qc, .ref qi, .int (-1), .int wc])), (qi, .inl (cI, w, .inl g))]) [3, 0, 2] (by decide) rfl
  have hKc := hK.sub (tys' := [(cI, .int)]) [1] rfl
  have hFc := va_free (wc := [(q0, .inr (7, [.int e1, .int e2, .int e3, .long e4])), (qd, .inr (0, [.int (nI w), .int (nI b), .int wr, .ref qc, .ref qi, .int (-1), .int wc])), (qi, .inl (cI, w, .inl g))]) hD hS hA [3, 0, 2] rfl
  refine va_callv (va_runV (As := [.ref qd]) (rest := []) ⟨hx, hb, hml, hown, hts⟩ (c_X7_layOut l dC dI H.size q0 qd w b qc qi wr (-1) wc e1 e2 e3 e4 cI g (by first | assumption | omega | decide)) (cwV 1 hts g_X8_writeRoot_0_X7_layOut rfl rfl rfl (by decide +kernel) ⟨Nat.le_of_ble_eq_true rfl, Nat.le_of_ble_eq_true rfl⟩) ⟨fun a U g mk q => by obtain ⟨q0, q1, qP, qK, qD⟩ := q; exact ⟨q0, q1, qP, va_K.moved (u := U) (U := U.calling g mk a) (Vm.Alike.refl U.vm) qK, qD⟩, va_recv hKc hPc (ci := 7) (q0 := 0) rfl rfl, fun U hU hW => ⟨rfl, by rw [hU], by rw [hU]; exact hPc, va_K.moved hW.alike hKc, hDc.weaken (fun _ _ _ _ => trivial)⟩⟩ rfl rfl hl.1 rfl (lv_room (Nat.le_of_ble_eq_true rfl)) dX8_writeRoot_9 ⟨(show 0 + 0 ≤ 0 by omega), (show 0 + 0 ≤ 0 by omega)⟩) hS (fun q _ h => hFc q h) hFc (fun u t H1 locs ht hvm hw hB hz1 hk1 hS => ?_)
  obtain ⟨g2_3, rfl⟩ : ∃ z, z = u := ⟨_, rfl⟩
  obtain ⟨hP1, hK1, hD1⟩ := hB
  rw [ht] at hP1
  have hK1 := va_K.moved hvm.symm hK1
  try dsimp only at hw
  obtain ⟨hP, hD⟩ := va_join (wr := [(qc, .inl (cC, w * b, .inl f)), (h0, .inr (8, [.ref qd, .ref qf, .ref qs, .ref qp, .ref qe, .ref q0, .ref q1, .ref qk, .int lt, .long fr, .int dn]))]) (w1 := [(q0, .inr (7, [.int e1, .int e2, .int e3, .long e4])), (qd, .inr (0, [.int (nI w), .int (nI b), .int wr, .ref qc, .ref qi, .int (-1), .int wc])), (qi, .inl (cI, w, .inl g2_3))]) hP hD [3, 0, 2] [1, 4] rfl rfl (by decide) (by decide) hk1 hFc hP1 hD1
  have hK := (hK.sub (tys' := [(cC, .int)]) [0] rfl).app hK1
  generalize H1 = H at hP hS ⊢
  have hP : va_P (dC, dI) vwCl [(qc, .inl (cC, w * b, .inl f)), (h0, .inr (8, [.ref qd, .ref qf, .ref qs, .ref qp, .ref qe, .ref q0, .ref q1, .ref qk, .int lt, .long fr, .int dn])), (q0, .inr (7, [.int e1, .int e2, .int e3, .long e4])), (qd, .inr (0, [.int (nI w), .int (nI b), .int wr, .ref qc, .ref qi, .int (-1), .int wc])), (qi, .inl (cI, w, .inl g2_3))] H := hP
  have hD : va_D A [(qc, .inl (cC, w * b, .inl f)), (h0, .inr (8, [.ref qd, .ref qf, .ref qs, .ref qp, .ref qe, .ref q0, .ref q1, .ref qk, .int lt, .long fr, .int dn])), (q0, .inr (7, [.int e1, .int e2, .int e3, .long e4])), (qd, .inr (0, [.int (nI w), .int (nI b), .int wr, .ref qc, .ref qi, .int (-1), .int wc])), (qi, .inl (cI, w, .inl g2_3))] := hD
  have hK : va_K (dC, dI) vwCl [(cC, .int), (cI, .int)] s := hK
  refine lv_aload_n hx hb dX8_writeRoot_12 rfl (lv_at hl 0 rfl) ?_
  refine va_get (D := (dC, dI)) (ci := 8) (v := .ref qd) (C := RX8) (T := TX8) (N := 11) hx hb hts k_1 hown hK hP 1 rfl rfl 0 (by decide) k_2 (fun _ h9 => h9) rfl dX8_writeRoot_13 ?_
  refine lv_iload_n hx hb dX8_writeRoot_16 rfl (lv_at hl 1 rfl) ?_
  have hPc := hP.sub (ws' := [(qd, .inr (0, [.int (nI w), .int (nI b), .int wr, .ref qc, .ref qi, .int (-1), .int wc])), (qc, .inl (cC, w * b, .inl f)), (qi, .inl (cI, w, .inl g2_3))]) [3, 0, 4] rfl
  have hDc := hD.sub (ws' := [(qd, .inr (0, [.int (nI w), .int (nI b), .int wr, .ref qc, .ref qi, .int (-1), .int wc])), (qc, .inl (cC, w * b, .inl f)), (qi, .inl (cI, w, .inl g2_3))]) [3, 0, 4] (by decide) rfl
  have hKc := hK.sub (tys' := [(cC, .int), (cI, .int)]) [0, 1] rfl
  have hFc := va_free (wc := [(qd, .inr (0, [.int (nI w), .int (nI b), .int wr, .ref qc, .ref qi, .int (-1), .int wc])), (qc, .inl (cC, w * b, .inl f)), (qi, .inl (cI, w, .inl g2_3))]) hD hS hA [3, 0, 4] rfl
  refine va_calli (va_runV (As := [.int 0]) (rest := []) ⟨hx, hb, hml, hown, hts⟩ (c_X0_write l dC dI H.size qd w b qc qi wr wc 0 cC cI f g2_3 (by first | assumption | omega | decide) (by first | assumption | omega | decide) (by first | assumption | omega | decide) (by first | assumption | omega | decide) (by first | assumption | omega | decide)) (cwV 1 hts g_X8_writeRoot_0_X0_write rfl rfl rfl (by decide +kernel) ⟨Nat.le_of_ble_eq_true rfl, Nat.le_of_ble_eq_true rfl⟩) ⟨fun a U g mk q => by obtain ⟨q0, q1, qP, qK, qD⟩ := q; exact ⟨q0, q1, qP, va_K.moved (u := U) (U := U.calling g mk a) (Vm.Alike.refl U.vm) qK, qD⟩, va_recv hKc hPc (ci := 0) (q0 := 0) rfl rfl, fun U hU hW => ⟨rfl, by rw [hU], by rw [hU]; exact hPc, va_K.moved hW.alike hKc, hDc.weaken (fun _ _ _ _ => trivial)⟩⟩ rfl rfl hl.1 rfl (lv_room (Nat.le_of_ble_eq_true rfl)) dX8_writeRoot_17 ⟨(show 0 + 0 ≤ 0 by omega), (show 0 + 0 ≤ 0 by omega)⟩) hS (fun q _ h => hFc q h) hFc (fun r_4 u t H1 locs ht hvm hw hB hz1 hk1 hS => ?_)
  obtain ⟨wr2_5, f2_6, g2_7⟩ := u
  obtain ⟨hP1, hK1, hD1⟩ := hB
  rw [ht] at hP1
  have hK1 := va_K.moved hvm.symm hK1
  try dsimp only at hw
  obtain ⟨hP, hD⟩ := va_join (wr := [(h0, .inr (8, [.ref qd, .ref qf, .ref qs, .ref qp, .ref qe, .ref q0, .ref q1, .ref qk, .int lt, .long fr, .int dn])), (q0, .inr (7, [.int e1, .int e2, .int e3, .long e4]))]) (w1 := [(qd, .inr (0, [.int (nI w), .int (nI b), .int wr2_5, .ref qc, .ref qi, .int (-1), .int wc])), (qc, .inl (cC, w * b, .inl f2_6)), (qi, .inl (cI, w, .inl g2_7))]) hP hD [3, 0, 4] [1, 2] rfl rfl (by decide) (by decide) hk1 hFc hP1 hD1
  have hK := (hK.sub (tys' := []) [] rfl).app hK1
  generalize H1 = H at hP hS ⊢
  have hP : va_P (dC, dI) vwCl [(h0, .inr (8, [.ref qd, .ref qf, .ref qs, .ref qp, .ref qe, .ref q0, .ref q1, .ref qk, .int lt, .long fr, .int dn])), (q0, .inr (7, [.int e1, .int e2, .int e3, .long e4])), (qd, .inr (0, [.int (nI w), .int (nI b), .int wr2_5, .ref qc, .ref qi, .int (-1), .int wc])), (qc, .inl (cC, w * b, .inl f2_6)), (qi, .inl (cI, w, .inl g2_7))] H := hP
  have hD : va_D A [(h0, .inr (8, [.ref qd, .ref qf, .ref qs, .ref qp, .ref qe, .ref q0, .ref q1, .ref qk, .int lt, .long fr, .int dn])), (q0, .inr (7, [.int e1, .int e2, .int e3, .long e4])), (qd, .inr (0, [.int (nI w), .int (nI b), .int wr2_5, .ref qc, .ref qi, .int (-1), .int wc])), (qc, .inl (cC, w * b, .inl f2_6)), (qi, .inl (cI, w, .inl g2_7))] := hD
  have hK : va_K (dC, dI) vwCl [(cC, .int), (cI, .int)] s := hK
  obtain rfl : r_4 = 1 := hw
  have hP9 := hP.sub (ws' := [(h0, .inr (8, [.ref qd, .ref qf, .ref qs, .ref qp, .ref qe, .ref q0, .ref q1, .ref qk, .int lt, .long fr, .int dn])), (qd, .inr (0, [.int (nI w), .int (nI b), .int wr2_5, .ref qc, .ref qi, .int (-1), .int wc])), (qc, .inl (cC, w * b, .inl f2_6)), (qi, .inl (cI, w, .inl g2_7)), (q0, .inr (7, [.int e1, .int e2, .int e3, .long e4]))]) [0, 2, 3, 4, 1] rfl
  have hD9 := hD.sub (ws' := [(h0, .inr (8, [.ref qd, .ref qf, .ref qs, .ref qp, .ref qe, .ref q0, .ref q1, .ref qk, .int lt, .long fr, .int dn])), (qd, .inr (0, [.int (nI w), .int (nI b), .int wr2_5, .ref qc, .ref qi, .int (-1), .int wc])), (qc, .inl (cC, w * b, .inl f2_6)), (qi, .inl (cI, w, .inl g2_7)), (q0, .inr (7, [.int e1, .int e2, .int e3, .long e4]))]) [0, 2, 3, 4, 1] (by decide) rfl
  have hK9 := hK.sub (tys' := [(cC, .int), (cI, .int)]) [0, 1] rfl
  exact W.zret (v := 1) hx hb hr rfl (fun t ht hW => ⟨⟨1, (wr2_5, f2_6, g2_7), rfl, rfl, by rw [ht]; exact hP9, va_K.moved hW.alike hK9, hD9⟩, hS.F ht⟩) hS.2.2 dX8_writeRoot_20
def v_X8_writeRoot_1 : List Cond := .code yX8_writeRoot cX8_writeRoot 2 (some .boolean) :: ([.code yX8_told cX8_told 2 (some (.object "TwinRoots$Told")), .fieldLink RX8 71 "TwinRoots" "rootOne" "LTwinRoots$Told;", .methodLink RX8 143 yX8_told, .instanceMethod yX8_told, .selects RX8 yX8_told yX8_told, .initialized RX8, .fieldLink RX8 28 "TwinRoots" "disk" "LTwinRoots$Disk;", .code yX7_layOut cX7_layOut 2 none, .code yX0_startImage cX0_startImage 2 none, .fieldLink RX0 20 "TwinRoots$Disk" "image" "[I", .methodLink RX7 29 yX0_startImage, .instanceMethod yX0_startImage, .selects RX0 yX0_startImage yX0_startImage, .initialized RX0, .constant RX7 34 (1414677326), .code yX0_lay cX0_lay 3 none, .methodLink RX7 35 yX0_lay, .instanceMethod yX0_lay, .selects RX0 yX0_lay yX0_lay, .fieldLink RX7 9 "TwinRoots$Told" "epoch" "I", .fieldLink RX7 15 "TwinRoots$Told" "top" "I", .fieldLink RX7 18 "TwinRoots$Told" "keys" "I", .methodLink RX8 220 yX7_layOut, .instanceMethod yX7_layOut, .selects RX7 yX7_layOut yX7_layOut, .initialized RX7, .code yX0_write cX0_write 6 (some .boolean), .fieldLink RX0 7 "TwinRoots$Disk" "words" "I", .code yX0_sealOf cX0_sealOf 5 (some .int), .code Lib.Math.max.name Lib.Math.max.code 2 (some .int), .methodLink RX0 26 Lib.Math.max.name, .static Lib.Math.max.name, .initialized "java/lang/Math", .methodLink RX0 41 yX0_sealOf, .static yX0_sealOf, .methodLink RX0 45 yX0_lay, .fieldLink RX0 23 "TwinRoots$Disk" "writesAhead" "I", .code yX0_cellOf cX0_cellOf 4 (some .int), .fieldLink RX0 13 "TwinRoots$Disk" "blocks" "I", .methodLink RX0 38 yX0_cellOf, .instanceMethod yX0_cellOf, .selects RX0 yX0_cellOf yX0_cellOf, .fieldLink RX0 16 "TwinRoots$Disk" "cells" "[I", .fieldLink RX0 49 "TwinRoots$Disk" "writes" "I", .methodLink RX8 224 yX0_write, .instanceMethod yX0_write, .selects RX0 yX0_write yX0_write] ++ (wsX80 ++ (wsX00 ++ (wsX70 ++ ([])))))
set_option maxRecDepth 20000 in
theorem g_X8_writeRoot_1_X8_told_1 : GoodIn v_X8_writeRoot_1 (wsV RX8 143 RX8 yX8_told v_X8_told_1) := goodIn_r _ [3, 4, 5, 6, 1, 2, 48, 49, 50, 51, 52, 53, 54, 55, 56, 57, 58] (by decide +kernel) (by decide +kernel)
set_option maxRecDepth 20000 in
theorem g_X8_writeRoot_1_X7_layOut : GoodIn v_X8_writeRoot_1 (wsV RX8 220 RX7 yX7_layOut v_X7_layOut) := goodIn_r _ [23, 24, 25, 26, 8, 9, 10, 11, 12, 13, 14, 15, 16, 17, 18, 19, 20, 21, 22, 59, 60, 61, 62, 63, 64, 65, 66, 67, 68, 69] (by decide +kernel) (by decide +kernel)
set_option maxRecDepth 20000 in
theorem g_X8_writeRoot_1_X0_write : GoodIn v_X8_writeRoot_1 (wsV RX8 224 RX0 yX0_write v_X0_write) := goodIn_r _ [45, 46, 47, 14, 27, 28, 10, 29, 30, 31, 32, 33, 34, 35, 14, 16, 36, 18, 19, 37, 38, 39, 40, 41, 42, 43, 44, 59, 60, 61, 62, 63, 64, 65] (by decide +kernel) (by decide +kernel)
set_option maxHeartbeats 4000000 in
set_option maxRecDepth 100000 in
theorem c_X8_writeRoot_1 (l : Launch) (dC : Nat → ClassId) (dI : Nat → Nat → Nat) (sz : Nat) (h0 : Nat) (qd : Nat) (qf : Nat) (qs : Nat) (qp : Nat) (qe : Nat) (q0 : Nat) (q1 : Nat) (qk : Nat) (lt : Int32) (fr : Int64) (dn : Int32) (w : Nat) (b : Nat) (qc : Nat) (qi : Nat) (wr : Int32) (wc : Int32) (e1 : Int32) (e2 : Int32) (e3 : Int32) (e4 : Int64) (cC : ClassId) (cI : ClassId) (f : Nat → Int32) (g : Nat → Int32) (zw0 : 12 ≤ w) (zw : w ≤ 40) (zb0 : 4 ≤ b) (zb : b ≤ 64) (zwb : w * b ≤ 2560) : Met l yX8_writeRoot v_X8_writeRoot_1 ({ frames := 3, cells := 0, slots := 0, locals := 62 } : Room) (va_Pc [.ref h0, .int 1] (fun U => U.heap.size = sz ∧ va_P (dC, dI) vwCl [(h0, .inr (8, [.ref qd, .ref qf, .ref qs, .ref qp, .ref qe, .ref q0, .ref q1, .ref qk, .int lt, .long fr, .int dn])), (qd, .inr (0, [.int (nI w), .int (nI b), .int wr, .ref qc, .ref qi, .int (-1), .int wc])), (qc, .inl (cC, w * b, .inl f)), (qi, .inl (cI, w, .inl g)), (q1, .inr (7, [.int e1, .int e2, .int e3, .long e4]))] U.heap ∧ va_K (dC, dI) vwCl [(cC, .int), (cI, .int)] U ∧ va_D (fun _ => True) [(h0, .inr (8, [.ref qd, .ref qf, .ref qs, .ref qp, .ref qe, .ref q0, .ref q1, .ref qk, .int lt, .long fr, .int dn])), (qd, .inr (0, [.int (nI w), .int (nI b), .int wr, .ref qc, .ref qi, .int (-1), .int wc])), (qc, .inl (cC, w * b, .inl f)), (qi, .inl (cI, w, .inl g)), (q1, .inr (7, [.int e1, .int e2, .int e3, .long e4]))])) (va_Qi (fun (r : Int32) (u : Int32 × (Nat → Int32) × (Nat → Int32)) => match u with | (wr2, f2, g2) => r = 1) (fun (u : Int32 × (Nat → Int32) × (Nat → Int32)) (t : State) => match u with | (wr2, f2, g2) => va_P (dC, dI) vwCl [(h0, .inr (8, [.ref qd, .ref qf, .ref qs, .ref qp, .ref qe, .ref q0, .ref q1, .ref qk, .int lt, .long fr, .int dn])), (qd, .inr (0, [.int (nI w), .int (nI b), .int wr2, .ref qc, .ref qi, .int (-1), .int wc])), (qc, .inl (cC, w * b, .inl f2)), (qi, .inl (cI, w, .inl g2)), (q1, .inr (7, [.int e1, .int e2, .int e3, .long e4]))] t.heap ∧ va_K (dC, dI) vwCl [(cC, .int), (cI, .int)] t ∧ va_D (va_A [(h0, .inr (8, [.ref qd, .ref qf, .ref qs, .ref qp, .ref qe, .ref q0, .ref q1, .ref qk, .int lt, .long fr, .int dn])), (qd, .inr (0, [.int (nI w), .int (nI b), .int wr, .ref qc, .ref qi, .int (-1), .int wc])), (qc, .inl (cC, w * b, .inl f)), (qi, .inl (cI, w, .inl g)), (q1, .inr (7, [.int e1, .int e2, .int e3, .long e4]))] sz) [(h0, .inr (8, [.ref qd, .ref qf, .ref qs, .ref qp, .ref qe, .ref q0, .ref q1, .ref qk, .int lt, .long fr, .int dn])), (qd, .inr (0, [.int (nI w), .int (nI b), .int wr2, .ref qc, .ref qi, .int (-1), .int wc])), (qc, .inl (cC, w * b, .inl f2)), (qi, .inl (cI, w, .inl g2)), (q1, .inr (7, [.int e1, .int e2, .int e3, .long e4]))]) (va_A [(h0, .inr (8, [.ref qd, .ref qf, .ref qs, .ref qp, .ref qe, .ref q0, .ref q1, .ref qk, .int lt, .long fr, .int dn])), (qd, .inr (0, [.int (nI w), .int (nI b), .int wr, .ref qc, .ref qi, .int (-1), .int wc])), (qc, .inl (cC, w * b, .inl f)), (qi, .inl (cI, w, .inl g)), (q1, .inr (7, [.int e1, .int e2, .int e3, .long e4]))] sz)) 0 0 (va_A [(h0, .inr (8, [.ref qd, .ref qf, .ref qs, .ref qp, .ref qe, .ref q0, .ref q1, .ref qk, .int lt, .long fr, .int dn])), (qd, .inr (0, [.int (nI w), .int (nI b), .int wr, .ref qc, .ref qi, .int (-1), .int wc])), (qc, .inl (cC, w * b, .inl f)), (qi, .inl (cI, w, .inl g)), (q1, .inr (7, [.int e1, .int e2, .int e3, .long e4]))] sz) := by
  refine Met.ofW (cc := cX8_writeRoot) (maxL := 2) (ret := (some .boolean)) (by decide) rfl ?_
  intro p e s m args below meth c s₁ B hml hv
  obtain ⟨rfl, hsz, hP, hK, hD0⟩ := hv
  have hx := B.exec
  have hb := B.bytes
  have hr := B.returns
  have hts := atoms_spec (ws := v_X8_writeRoot_1) B.pre
  have hown : s.vm.findClass RX8 = some m.cls := findClass_of_methodNamed B.named
  have hlocks := B.notSynchronized
  subst hsz
  have hD := hD0.self (sz := s.heap.size)
  generalize hAe : va_A [(h0, .inr (8, [.ref qd, .ref qf, .ref qs, .ref qp, .ref qe, .ref q0, .ref q1, .ref qk, .int lt, .long fr, .int dn])), (qd, .inr (0, [.int (nI w), .int (nI b), .int wr, .ref qc, .ref qi, .int (-1), .int wc])), (qc, .inl (cC, w * b, .inl f)), (qi, .inl (cI, w, .inl g)), (q1, .inr (7, [.int e1, .int e2, .int e3, .long e4]))] s.heap.size = A at hD ⊢
  have hA : ∀ q : Nat, s.heap.size ≤ q → A q := fun q h => by rw [← hAe]; exact Or.inr h
  have hS : va_S A s.heap s.heap [] := va_S.rf
  have hP : va_P (dC, dI) vwCl [(h0, .inr (8, [.ref qd, .ref qf, .ref qs, .ref qp, .ref qe, .ref q0, .ref q1, .ref qk, .int lt, .long fr, .int dn])), (qd, .inr (0, [.int (nI w), .int (nI b), .int wr, .ref qc, .ref qi, .int (-1), .int wc])), (qc, .inl (cC, w * b, .inl f)), (qi, .inl (cI, w, .inl g)), (q1, .inr (7, [.int e1, .int e2, .int e3, .long e4]))] s.heap := hP
  have hl := lv_entry ([.ref h0, .int 1]) (n := 2) (Nat.le_of_ble_eq_true rfl)
  rw [lg_entry_eq]
  generalize (lg_sl ([.ref h0, .int 1]) ++ List.replicate (2 - (lg_sl ([.ref h0, .int 1])).length) Slot.unset).toArray = ls at hl ⊢
  have hl : lv_has ls 2 [(0, .ref h0), (1, .int 1)] := hl
  have k_1 := (fun _ h => List.mem_cons_of_mem _ (List.mem_append_right _ (List.mem_append_left _ h)) : ∀ w ∈ wsX80, w ∈ v_X8_writeRoot_1)
  have k_2 := hts (.fieldLink RX8 28 "TwinRoots" "disk" "LTwinRoots$Disk;") (List.mem_of_getElem? (i := 7) rfl)
  refine lv_aload_n hx hb dX8_writeRoot_0 rfl (lv_at hl 0 rfl) ?_
  refine lv_iload_n hx hb dX8_writeRoot_1 rfl (lv_at hl 1 rfl) ?_
  have hPc := hP.sub (ws' := [(h0, .inr (8, [.ref qd, .ref qf, .ref qs, .ref qp, .ref qe, .ref q0, .ref q1, .ref qk, .int lt, .long fr, .int dn]))]) [0] rfl
  have hDc := hD.sub (ws' := [(h0, .inr (8, [.ref qd, .ref qf, .ref qs, .ref qp, .ref qe, .ref q0, .ref q1, .ref qk, .int lt, .long fr, .int dn]))]) [0] (by decide) rfl
  have hKc := hK.sub (tys' := []) [] rfl
  have hFc := va_free (wc := [(h0, .inr (8, [.ref qd, .ref qf, .ref qs, .ref qp, .ref qe, .ref q0, .ref q1, .ref qk, .int lt, .long fr, .int dn]))]) hD hS hA [0] rfl
  refine va_callr (va_runV (As := [.int 1]) (rest := []) ⟨hx, hb, hml, hown, hts⟩ (c_X8_told_1 l dC dI s.heap.size h0 qd qf qs qp qe q0 q1 qk lt fr dn) (cwV 1 hts g_X8_writeRoot_1_X8_told_1 rfl rfl rfl (by decide +kernel) ⟨Nat.le_of_ble_eq_true rfl, Nat.le_of_ble_eq_true rfl⟩) ⟨fun a U g mk q => by obtain ⟨q0, q1, qP, qK, qD⟩ := q; exact ⟨q0, q1, qP, va_K.moved (u := U) (U := U.calling g mk a) (Vm.Alike.refl U.vm) qK, qD⟩, va_recv hKc hPc (ci := 8) (q0 := 0) rfl rfl, fun U hU hW => ⟨rfl, by rw [hU], by rw [hU]; exact hPc, va_K.moved hW.alike hKc, hDc.weaken (fun _ _ _ _ => trivial)⟩⟩ rfl rfl hl.1 rfl (lv_room (Nat.le_of_ble_eq_true rfl)) dX8_writeRoot_2 ⟨(show 0 + 0 ≤ 0 by omega), (show 0 + 0 ≤ 0 by omega)⟩) hS (fun q _ h => hFc q h) hFc (fun u r_1 t H1 locs ht hvm hw hB hz1 hk1 hS => ?_)
  obtain ⟨hra, hP1, hK1, hD1⟩ := hB
  have hra := hra.symm
  subst hra
  rw [ht] at hP1
  have hK1 := va_K.moved hvm.symm hK1
  try dsimp only at hw
  obtain ⟨hP, hD⟩ := va_join (wr := [(qd, .inr (0, [.int (nI w), .int (nI b), .int wr, .ref qc, .ref qi, .int (-1), .int wc])), (qc, .inl (cC, w * b, .inl f)), (qi, .inl (cI, w, .inl g)), (q1, .inr (7, [.int e1, .int e2, .int e3, .long e4]))]) (w1 := [(h0, .inr (8, [.ref qd, .ref qf, .ref qs, .ref qp, .ref qe, .ref q0, .ref q1, .ref qk, .int lt, .long fr, .int dn]))]) hP hD [0] [1, 2, 3, 4] rfl rfl (by decide) (by decide) hk1 hFc hP1 hD1
  have hK := (hK.sub (tys' := [(cC, .int), (cI, .int)]) [0, 1] rfl).app hK1
  generalize H1 = H at hP hS ⊢
  have hP : va_P (dC, dI) vwCl [(qd, .inr (0, [.int (nI w), .int (nI b), .int wr, .ref qc, .ref qi, .int (-1), .int wc])), (qc, .inl (cC, w * b, .inl f)), (qi, .inl (cI, w, .inl g)), (q1, .inr (7, [.int e1, .int e2, .int e3, .long e4])), (h0, .inr (8, [.ref qd, .ref qf, .ref qs, .ref qp, .ref qe, .ref q0, .ref q1, .ref qk, .int lt, .long fr, .int dn]))] H := hP
  have hD : va_D A [(qd, .inr (0, [.int (nI w), .int (nI b), .int wr, .ref qc, .ref qi, .int (-1), .int wc])), (qc, .inl (cC, w * b, .inl f)), (qi, .inl (cI, w, .inl g)), (q1, .inr (7, [.int e1, .int e2, .int e3, .long e4])), (h0, .inr (8, [.ref qd, .ref qf, .ref qs, .ref qp, .ref qe, .ref q0, .ref q1, .ref qk, .int lt, .long fr, .int dn]))] := hD
  have hK : va_K (dC, dI) vwCl [(cC, .int), (cI, .int)] s := hK
  refine lv_aload_n hx hb dX8_writeRoot_5 rfl (lv_at hl 0 rfl) ?_
  refine va_get (D := (dC, dI)) (ci := 8) (v := .ref qd) (C := RX8) (T := TX8) (N := 11) hx hb hts k_1 hown hK hP 4 rfl rfl 0 (by decide) k_2 (fun _ h9 => h9) rfl dX8_writeRoot_6 ?_
  have hPc := hP.sub (ws' := [(q1, .inr (7, [.int e1, .int e2, .int e3, .long e4])), (qd, .inr (0, [.int (nI w), .int (nI b), .int wr, .ref qc, .ref qi, .int (-1), .int wc])), (qi, .inl (cI, w, .inl g))]) [3, 0, 2] rfl
  have hDc := hD.sub (ws' := [(q1, .inr (7, [.int e1, .int e2, .int e3, .long e4])), (qd, .inr (0, [.int (nI w), .int (nI b), .int wr, .ref qc, .ref qi, .int (-1), .int wc])), (qi, .inl (cI, w, .inl g))]) [3, 0, 2] (by decide) rfl
  have hKc := hK.sub (tys' := [(cI, .int)]) [1] rfl
  have hFc := va_free (wc := [(q1, .inr (7, [.int e1, .int e2, .int e3, .long e4])), (qd, .inr (0, [.int (nI w), .int (nI b), .int wr, .ref qc, .ref qi, .int (-1), .int wc])), (qi, .inl (cI, w, .inl g))]) hD hS hA [3, 0, 2] rfl
  refine va_callv (va_runV (As := [.ref qd]) (rest := []) ⟨hx, hb, hml, hown, hts⟩ (c_X7_layOut l dC dI H.size q1 qd w b qc qi wr (-1) wc e1 e2 e3 e4 cI g (by first | assumption | omega | decide)) (cwV 1 hts g_X8_writeRoot_1_X7_layOut rfl rfl rfl (by decide +kernel) ⟨Nat.le_of_ble_eq_true rfl, Nat.le_of_ble_eq_true rfl⟩) ⟨fun a U g mk q => by obtain ⟨q0, q1, qP, qK, qD⟩ := q; exact ⟨q0, q1, qP, va_K.moved (u := U) (U := U.calling g mk a) (Vm.Alike.refl U.vm) qK, qD⟩, va_recv hKc hPc (ci := 7) (q0 := 0) rfl rfl, fun U hU hW => ⟨rfl, by rw [hU], by rw [hU]; exact hPc, va_K.moved hW.alike hKc, hDc.weaken (fun _ _ _ _ => trivial)⟩⟩ rfl rfl hl.1 rfl (lv_room (Nat.le_of_ble_eq_true rfl)) dX8_writeRoot_9 ⟨(show 0 + 0 ≤ 0 by omega), (show 0 + 0 ≤ 0 by omega)⟩) hS (fun q _ h => hFc q h) hFc (fun u t H1 locs ht hvm hw hB hz1 hk1 hS => ?_)
  obtain ⟨g2_3, rfl⟩ : ∃ z, z = u := ⟨_, rfl⟩
  obtain ⟨hP1, hK1, hD1⟩ := hB
  rw [ht] at hP1
  have hK1 := va_K.moved hvm.symm hK1
  try dsimp only at hw
  obtain ⟨hP, hD⟩ := va_join (wr := [(qc, .inl (cC, w * b, .inl f)), (h0, .inr (8, [.ref qd, .ref qf, .ref qs, .ref qp, .ref qe, .ref q0, .ref q1, .ref qk, .int lt, .long fr, .int dn]))]) (w1 := [(q1, .inr (7, [.int e1, .int e2, .int e3, .long e4])), (qd, .inr (0, [.int (nI w), .int (nI b), .int wr, .ref qc, .ref qi, .int (-1), .int wc])), (qi, .inl (cI, w, .inl g2_3))]) hP hD [3, 0, 2] [1, 4] rfl rfl (by decide) (by decide) hk1 hFc hP1 hD1
  have hK := (hK.sub (tys' := [(cC, .int)]) [0] rfl).app hK1
  generalize H1 = H at hP hS ⊢
  have hP : va_P (dC, dI) vwCl [(qc, .inl (cC, w * b, .inl f)), (h0, .inr (8, [.ref qd, .ref qf, .ref qs, .ref qp, .ref qe, .ref q0, .ref q1, .ref qk, .int lt, .long fr, .int dn])), (q1, .inr (7, [.int e1, .int e2, .int e3, .long e4])), (qd, .inr (0, [.int (nI w), .int (nI b), .int wr, .ref qc, .ref qi, .int (-1), .int wc])), (qi, .inl (cI, w, .inl g2_3))] H := hP
  have hD : va_D A [(qc, .inl (cC, w * b, .inl f)), (h0, .inr (8, [.ref qd, .ref qf, .ref qs, .ref qp, .ref qe, .ref q0, .ref q1, .ref qk, .int lt, .long fr, .int dn])), (q1, .inr (7, [.int e1, .int e2, .int e3, .long e4])), (qd, .inr (0, [.int (nI w), .int (nI b), .int wr, .ref qc, .ref qi, .int (-1), .int wc])), (qi, .inl (cI, w, .inl g2_3))] := hD
  have hK : va_K (dC, dI) vwCl [(cC, .int), (cI, .int)] s := hK
  refine lv_aload_n hx hb dX8_writeRoot_12 rfl (lv_at hl 0 rfl) ?_
  refine va_get (D := (dC, dI)) (ci := 8) (v := .ref qd) (C := RX8) (T := TX8) (N := 11) hx hb hts k_1 hown hK hP 1 rfl rfl 0 (by decide) k_2 (fun _ h9 => h9) rfl dX8_writeRoot_13 ?_
  refine lv_iload_n hx hb dX8_writeRoot_16 rfl (lv_at hl 1 rfl) ?_
  have hPc := hP.sub (ws' := [(qd, .inr (0, [.int (nI w), .int (nI b), .int wr, .ref qc, .ref qi, .int (-1), .int wc])), (qc, .inl (cC, w * b, .inl f)), (qi, .inl (cI, w, .inl g2_3))]) [3, 0, 4] rfl
  have hDc := hD.sub (ws' := [(qd, .inr (0, [.int (nI w), .int (nI b), .int wr, .ref qc, .ref qi, .int (-1), .int wc])), (qc, .inl (cC, w * b, .inl f)), (qi, .inl (cI, w, .inl g2_3))]) [3, 0, 4] (by decide) rfl
  have hKc := hK.sub (tys' := [(cC, .int), (cI, .int)]) [0, 1] rfl
  have hFc := va_free (wc := [(qd, .inr (0, [.int (nI w), .int (nI b), .int wr, .ref qc, .ref qi, .int (-1), .int wc])), (qc, .inl (cC, w * b, .inl f)), (qi, .inl (cI, w, .inl g2_3))]) hD hS hA [3, 0, 4] rfl
  refine va_calli (va_runV (As := [.int 1]) (rest := []) ⟨hx, hb, hml, hown, hts⟩ (c_X0_write l dC dI H.size qd w b qc qi wr wc 1 cC cI f g2_3 (by first | assumption | omega | decide) (by first | assumption | omega | decide) (by first | assumption | omega | decide) (by first | assumption | omega | decide) (by first | assumption | omega | decide)) (cwV 1 hts g_X8_writeRoot_1_X0_write rfl rfl rfl (by decide +kernel) ⟨Nat.le_of_ble_eq_true rfl, Nat.le_of_ble_eq_true rfl⟩) ⟨fun a U g mk q => by obtain ⟨q0, q1, qP, qK, qD⟩ := q; exact ⟨q0, q1, qP, va_K.moved (u := U) (U := U.calling g mk a) (Vm.Alike.refl U.vm) qK, qD⟩, va_recv hKc hPc (ci := 0) (q0 := 0) rfl rfl, fun U hU hW => ⟨rfl, by rw [hU], by rw [hU]; exact hPc, va_K.moved hW.alike hKc, hDc.weaken (fun _ _ _ _ => trivial)⟩⟩ rfl rfl hl.1 rfl (lv_room (Nat.le_of_ble_eq_true rfl)) dX8_writeRoot_17 ⟨(show 0 + 0 ≤ 0 by omega), (show 0 + 0 ≤ 0 by omega)⟩) hS (fun q _ h => hFc q h) hFc (fun r_4 u t H1 locs ht hvm hw hB hz1 hk1 hS => ?_)
  obtain ⟨wr2_5, f2_6, g2_7⟩ := u
  obtain ⟨hP1, hK1, hD1⟩ := hB
  rw [ht] at hP1
  have hK1 := va_K.moved hvm.symm hK1
  try dsimp only at hw
  obtain ⟨hP, hD⟩ := va_join (wr := [(h0, .inr (8, [.ref qd, .ref qf, .ref qs, .ref qp, .ref qe, .ref q0, .ref q1, .ref qk, .int lt, .long fr, .int dn])), (q1, .inr (7, [.int e1, .int e2, .int e3, .long e4]))]) (w1 := [(qd, .inr (0, [.int (nI w), .int (nI b), .int wr2_5, .ref qc, .ref qi, .int (-1), .int wc])), (qc, .inl (cC, w * b, .inl f2_6)), (qi, .inl (cI, w, .inl g2_7))]) hP hD [3, 0, 4] [1, 2] rfl rfl (by decide) (by decide) hk1 hFc hP1 hD1
  have hK := (hK.sub (tys' := []) [] rfl).app hK1
  generalize H1 = H at hP hS ⊢
  have hP : va_P (dC, dI) vwCl [(h0, .inr (8, [.ref qd, .ref qf, .ref qs, .ref qp, .ref qe, .ref q0, .ref q1, .ref qk, .int lt, .long fr, .int dn])), (q1, .inr (7, [.int e1, .int e2, .int e3, .long e4])), (qd, .inr (0, [.int (nI w), .int (nI b), .int wr2_5, .ref qc, .ref qi, .int (-1), .int wc])), (qc, .inl (cC, w * b, .inl f2_6)), (qi, .inl (cI, w, .inl g2_7))] H := hP
  have hD : va_D A [(h0, .inr (8, [.ref qd, .ref qf, .ref qs, .ref qp, .ref qe, .ref q0, .ref q1, .ref qk, .int lt, .long fr, .int dn])), (q1, .inr (7, [.int e1, .int e2, .int e3, .long e4])), (qd, .inr (0, [.int (nI w), .int (nI b), .int wr2_5, .ref qc, .ref qi, .int (-1), .int wc])), (qc, .inl (cC, w * b, .inl f2_6)), (qi, .inl (cI, w, .inl g2_7))] := hD
  have hK : va_K (dC, dI) vwCl [(cC, .int), (cI, .int)] s := hK
  obtain rfl : r_4 = 1 := hw
  have hP9 := hP.sub (ws' := [(h0, .inr (8, [.ref qd, .ref qf, .ref qs, .ref qp, .ref qe, .ref q0, .ref q1, .ref qk, .int lt, .long fr, .int dn])), (qd, .inr (0, [.int (nI w), .int (nI b), .int wr2_5, .ref qc, .ref qi, .int (-1), .int wc])), (qc, .inl (cC, w * b, .inl f2_6)), (qi, .inl (cI, w, .inl g2_7)), (q1, .inr (7, [.int e1, .int e2, .int e3, .long e4]))]) [0, 2, 3, 4, 1] rfl
  have hD9 := hD.sub (ws' := [(h0, .inr (8, [.ref qd, .ref qf, .ref qs, .ref qp, .ref qe, .ref q0, .ref q1, .ref qk, .int lt, .long fr, .int dn])), (qd, .inr (0, [.int (nI w), .int (nI b), .int wr2_5, .ref qc, .ref qi, .int (-1), .int wc])), (qc, .inl (cC, w * b, .inl f2_6)), (qi, .inl (cI, w, .inl g2_7)), (q1, .inr (7, [.int e1, .int e2, .int e3, .long e4]))]) [0, 2, 3, 4, 1] (by decide) rfl
  have hK9 := hK.sub (tys' := [(cC, .int), (cI, .int)]) [0, 1] rfl
  exact W.zret (v := 1) hx hb hr rfl (fun t ht hW => ⟨⟨1, (wr2_5, f2_6, g2_7), rfl, rfl, by rw [ht]; exact hP9, va_K.moved hW.alike hK9, hD9⟩, hS.F ht⟩) hS.2.2 dX8_writeRoot_20
def v_X8_comeUp : List Cond := .code yX8_comeUp cX8_comeUp 2 none :: ([.fieldLink RX8 140 "TwinRoots" "latest" "I", .fieldLink RX8 74 "TwinRoots" "working" "LTwinRoots$Told;", .code yX8_told cX8_told 2 (some (.object "TwinRoots$Told")), .fieldLink RX8 67 "TwinRoots" "rootZero" "LTwinRoots$Told;", .methodLink RX8 143 yX8_told, .instanceMethod yX8_told, .selects RX8 yX8_told yX8_told, .initialized RX8, .code yX7_copy cX7_copy 2 none, .fieldLink RX7 9 "TwinRoots$Told" "epoch" "I", .fieldLink RX7 15 "TwinRoots$Told" "top" "I", .fieldLink RX7 18 "TwinRoots$Told" "keys" "I", .fieldLink RX7 21 "TwinRoots$Told" "reach" "J", .code yX7_tell cX7_tell 6 none, .methodLink RX7 25 yX7_tell, .instanceMethod yX7_tell, .selects RX7 yX7_tell yX7_tell, .initialized RX7, .methodLink RX8 184 yX7_copy, .instanceMethod yX7_copy, .selects RX7 yX7_copy yX7_copy, .fieldLink RX8 99 "TwinRoots" "fresh" "J", .fieldLink RX8 77 "TwinRoots" "down" "Z"] ++ (wsX80 ++ (wsX70 ++ ([]))))
set_option maxRecDepth 20000 in
theorem g_X8_comeUp_X8_told_0 : GoodIn v_X8_comeUp (wsV RX8 143 RX8 yX8_told v_X8_told_0) := goodIn_r _ [5, 6, 7, 8, 3, 4, 24, 25, 26, 27, 28, 29, 30, 31, 32, 33, 34] (by decide +kernel) (by decide +kernel)
set_option maxRecDepth 20000 in
theorem g_X8_comeUp_X7_copy : GoodIn v_X8_comeUp (wsV RX8 184 RX7 yX7_copy v_X7_copy) := goodIn_r _ [19, 20, 21, 18, 9, 10, 11, 12, 13, 14, 15, 16, 17, 18, 35, 36, 37, 38] (by decide +kernel) (by decide +kernel)
set_option maxHeartbeats 4000000 in
set_option maxRecDepth 100000 in
/-- comeUp(0) -/
theorem c_X8_comeUp (l : Launch) (dC : Nat → ClassId) (dI : Nat → Nat → Nat) (sz : Nat) (h0 : Nat) (qd : Nat) (qf : Nat) (qs : Nat) (qp : Nat) (qe : Nat) (q0 : Nat) (q1 : Nat) (qk : Nat) (lt : Int32) (fr : Int64) (dn : Int32) (e1 : Int32) (e2 : Int32) (e3 : Int32) (e4 : Int64) (d1 : Int32) (d2 : Int32) (d3 : Int32) (d4 : Int64) : Met l yX8_comeUp v_X8_comeUp ({ frames := 2, cells := 0, slots := 0, locals := 46 } : Room) (va_Pc [.ref h0, .int 0] (fun U => U.heap.size = sz ∧ va_P (dC, dI) vwCl [(h0, .inr (8, [.ref qd, .ref qf, .ref qs, .ref qp, .ref qe, .ref q0, .ref q1, .ref qk, .int lt, .long fr, .int dn])), (q0, .inr (7, [.int e1, .int e2, .int e3, .long e4])), (qk, .inr (7, [.int d1, .int d2, .int d3, .long d4]))] U.heap ∧ va_K (dC, dI) vwCl [] U ∧ va_D (fun _ => True) [(h0, .inr (8, [.ref qd, .ref qf, .ref qs, .ref qp, .ref qe, .ref q0, .ref q1, .ref qk, .int lt, .long fr, .int dn])), (q0, .inr (7, [.int e1, .int e2, .int e3, .long e4])), (qk, .inr (7, [.int d1, .int d2, .int d3, .long d4]))])) (va_Qv (fun (_ : Unit) => True) (fun (_ : Unit) (t : State) => va_P (dC, dI) vwCl [] t.heap ∧ va_K (dC, dI) vwCl [] t ∧ va_D (va_A [(h0, .inr (8, [.ref qd, .ref qf, .ref qs, .ref qp, .ref qe, .ref q0, .ref q1, .ref qk, .int lt, .long fr, .int dn])), (q0, .inr (7, [.int e1, .int e2, .int e3, .long e4])), (qk, .inr (7, [.int d1, .int d2, .int d3, .long d4]))] sz) []) (va_A [(h0, .inr (8, [.ref qd, .ref qf, .ref qs, .ref qp, .ref qe, .ref q0, .ref q1, .ref qk, .int lt, .long fr, .int dn])), (q0, .inr (7, [.int e1, .int e2, .int e3, .long e4])), (qk, .inr (7, [.int d1, .int d2, .int d3, .long d4]))] sz)) 0 0 (va_A [(h0, .inr (8, [.ref qd, .ref qf, .ref qs, .ref qp, .ref qe, .ref q0, .ref q1, .ref qk, .int lt, .long fr, .int dn])), (q0, .inr (7, [.int e1, .int e2, .int e3, .long e4])), (qk, .inr (7, [.int d1, .int d2, .int d3, .long d4]))] sz) := by
  refine Met.ofW (cc := cX8_comeUp) (maxL := 2) (ret := none) (by decide) rfl ?_
  intro p e s m args below meth c s₁ B hml hv
  obtain ⟨rfl, hsz, hP, hK, hD0⟩ := hv
  have hx := B.exec
  have hb := B.bytes
  have hr := B.returns
  have hts := atoms_spec (ws := v_X8_comeUp) B.pre
  have hown : s.vm.findClass RX8 = some m.cls := findClass_of_methodNamed B.named
  have hlocks := B.notSynchronized
  subst hsz
  have hD := hD0.self (sz := s.heap.size)
  generalize hAe : va_A [(h0, .inr (8, [.ref qd, .ref qf, .ref qs, .ref qp, .ref qe, .ref q0, .ref q1, .ref qk, .int lt, .long fr, .int dn])), (q0, .inr (7, [.int e1, .int e2, .int e3, .long e4])), (qk, .inr (7, [.int d1, .int d2, .int d3, .long d4]))] s.heap.size = A at hD ⊢
  have hA : ∀ q : Nat, s.heap.size ≤ q → A q := fun q h => by rw [← hAe]; exact Or.inr h
  have hS : va_S A s.heap s.heap [] := va_S.rf
  have hP : va_P (dC, dI) vwCl [(h0, .inr (8, [.ref qd, .ref qf, .ref qs, .ref qp, .ref qe, .ref q0, .ref q1, .ref qk, .int lt, .long fr, .int dn])), (q0, .inr (7, [.int e1, .int e2, .int e3, .long e4])), (qk, .inr (7, [.int d1, .int d2, .int d3, .long d4]))] s.heap := hP
  have hl := lv_entry ([.ref h0, .int 0]) (n := 2) (Nat.le_of_ble_eq_true rfl)
  rw [lg_entry_eq]
  generalize (lg_sl ([.ref h0, .int 0]) ++ List.replicate (2 - (lg_sl ([.ref h0, .int 0])).length) Slot.unset).toArray = ls at hl ⊢
  have hl : lv_has ls 2 [(0, .ref h0), (1, .int 0)] := hl
  have k_1 := (fun _ h => List.mem_cons_of_mem _ (List.mem_append_right _ (List.mem_append_left _ h)) : ∀ w ∈ wsX80, w ∈ v_X8_comeUp)
  have k_2 := hts (.fieldLink RX8 140 "TwinRoots" "latest" "I") (List.mem_of_getElem? (i := 1) rfl)
  have k_3 := hts (.fieldLink RX8 74 "TwinRoots" "working" "LTwinRoots$Told;") (List.mem_of_getElem? (i := 2) rfl)
  have k_4 := hts (.fieldLink RX8 99 "TwinRoots" "fresh" "J") (List.mem_of_getElem? (i := 22) rfl)
  have k_5 := hts (.fieldLink RX8 77 "TwinRoots" "down" "Z") (List.mem_of_getElem? (i := 23) rfl)
  refine lv_aload_n hx hb dX8_comeUp_0 rfl (lv_at hl 0 rfl) ?_
  refine lv_iload_n hx hb dX8_comeUp_1 rfl (lv_at hl 1 rfl) ?_
  refine va_put (D := (dC, dI)) (ci := 8) (v := .int 0) (ty := .int) (C := RX8) (T := TX8) (N := 11) hx hb hts k_1 tyX8 tyX8_ok nmX8 hown hK hP hD hS 0 rfl rfl 8 (by decide) k_2 (fun _ h9 => h9) rfl (by decide +kernel) rfl rfl (Nat.le_of_ble_eq_true rfl) dX8_comeUp_2 (fun H locs hP hD hS => ?_)
  have hP : va_P (dC, dI) vwCl [(h0, .inr (8, [.ref qd, .ref qf, .ref qs, .ref qp, .ref qe, .ref q0, .ref q1, .ref qk, .int 0, .long fr, .int dn])), (q0, .inr (7, [.int e1, .int e2, .int e3, .long e4])), (qk, .inr (7, [.int d1, .int d2, .int d3, .long d4]))] H := hP
  have hD : va_D A [(h0, .inr (8, [.ref qd, .ref qf, .ref qs, .ref qp, .ref qe, .ref q0, .ref q1, .ref qk, .int 0, .long fr, .int dn])), (q0, .inr (7, [.int e1, .int e2, .int e3, .long e4])), (qk, .inr (7, [.int d1, .int d2, .int d3, .long d4]))] := hD
  refine lv_aload_n hx hb dX8_comeUp_5 rfl (lv_at hl 0 rfl) ?_
  refine va_get (D := (dC, dI)) (ci := 8) (v := .ref qk) (C := RX8) (T := TX8) (N := 11) hx hb hts k_1 hown hK hP 0 rfl rfl 7 (by decide) k_3 (fun _ h9 => h9) rfl dX8_comeUp_6 ?_
  refine lv_aload_n hx hb dX8_comeUp_9 rfl (lv_at hl 0 rfl) ?_
  refine lv_iload_n hx hb dX8_comeUp_10 rfl (lv_at hl 1 rfl) ?_
  have hPc := hP.sub (ws' := [(h0, .inr (8, [.ref qd, .ref qf, .ref qs, .ref qp, .ref qe, .ref q0, .ref q1, .ref qk, .int 0, .long fr, .int dn]))]) [0] rfl
  have hDc := hD.sub (ws' := [(h0, .inr (8, [.ref qd, .ref qf, .ref qs, .ref qp, .ref qe, .ref q0, .ref q1, .ref qk, .int 0, .long fr, .int dn]))]) [0] (by decide) rfl
  have hKc := hK.sub (tys' := []) [] rfl
  have hFc := va_free (wc := [(h0, .inr (8, [.ref qd, .ref qf, .ref qs, .ref qp, .ref qe, .ref q0, .ref q1, .ref qk, .int 0, .long fr, .int dn]))]) hD hS hA [0] rfl
  refine va_callr (va_runV (As := [.int 0]) (rest := [.ref qk]) ⟨hx, hb, hml, hown, hts⟩ (c_X8_told_0 l dC dI H.size h0 qd qf qs qp qe q0 q1 qk 0 fr dn) (cwV 1 hts g_X8_comeUp_X8_told_0 rfl rfl rfl (by decide +kernel) ⟨Nat.le_of_ble_eq_true rfl, Nat.le_of_ble_eq_true rfl⟩) ⟨fun a U g mk q => by obtain ⟨q0, q1, qP, qK, qD⟩ := q; exact ⟨q0, q1, qP, va_K.moved (u := U) (U := U.calling g mk a) (Vm.Alike.refl U.vm) qK, qD⟩, va_recv hKc hPc (ci := 8) (q0 := 0) rfl rfl, fun U hU hW => ⟨rfl, by rw [hU], by rw [hU]; exact hPc, va_K.moved hW.alike hKc, hDc.weaken (fun _ _ _ _ => trivial)⟩⟩ rfl rfl hl.1 rfl (lv_room (Nat.le_of_ble_eq_true rfl)) dX8_comeUp_11 ⟨(show 0 + 0 ≤ 0 by omega), (show 0 + 0 ≤ 0 by omega)⟩) hS (fun q _ h => hFc q h) hFc (fun u r_1 t H1 locs ht hvm hw hB hz1 hk1 hS => ?_)
  obtain ⟨hra, hP1, hK1, hD1⟩ := hB
  have hra := hra.symm
  subst hra
  rw [ht] at hP1
  have hK1 := va_K.moved hvm.symm hK1
  try dsimp only at hw
  obtain ⟨hP, hD⟩ := va_join (wr := [(q0, .inr (7, [.int e1, .int e2, .int e3, .long e4])), (qk, .inr (7, [.int d1, .int d2, .int d3, .long d4]))]) (w1 := [(h0, .inr (8, [.ref qd, .ref qf, .ref qs, .ref qp, .ref qe, .ref q0, .ref q1, .ref qk, .int 0, .long fr, .int dn]))]) hP hD [0] [1, 2] rfl rfl (by decide) (by decide) hk1 hFc hP1 hD1
  have hK := (hK.sub (tys' := []) [] rfl).app hK1
  generalize H1 = H at hP hS ⊢
  have hP : va_P (dC, dI) vwCl [(q0, .inr (7, [.int e1, .int e2, .int e3, .long e4])), (qk, .inr (7, [.int d1, .int d2, .int d3, .long d4])), (h0, .inr (8, [.ref qd, .ref qf, .ref qs, .ref qp, .ref qe, .ref q0, .ref q1, .ref qk, .int 0, .long fr, .int dn]))] H := hP
  have hD : va_D A [(q0, .inr (7, [.int e1, .int e2, .int e3, .long e4])), (qk, .inr (7, [.int d1, .int d2, .int d3, .long d4])), (h0, .inr (8, [.ref qd, .ref qf, .ref qs, .ref qp, .ref qe, .ref q0, .ref q1, .ref qk, .int 0, .long fr, .int dn]))] := hD
  have hK : va_K (dC, dI) vwCl [] s := hK
  have hPc := hP.sub (ws' := [(qk, .inr (7, [.int d1, .int d2, .int d3, .long d4])), (q0, .inr (7, [.int e1, .int e2, .int e3, .long e4]))]) [1, 0] rfl
  have hDc := hD.sub (ws' := [(qk, .inr (7, [.int d1, .int d2, .int d3, .long d4])), (q0, .inr (7, [.int e1, .int e2, .int e3, .long e4]))]) [1, 0] (by decide) rfl
  have hKc := hK.sub (tys' := []) [] rfl
  have hFc := va_free (wc := [(qk, .inr (7, [.int d1, .int d2, .int d3, .long d4])), (q0, .inr (7, [.int e1, .int e2, .int e3, .long e4]))]) hD hS hA [1, 0] rfl
  refine va_callv (va_runV (As := [.ref q0]) (rest := []) ⟨hx, hb, hml, hown, hts⟩ (c_X7_copy l dC dI H.size qk q0 d1 d2 d3 d4 e1 e2 e3 e4) (cwV 1 hts g_X8_comeUp_X7_copy rfl rfl rfl (by decide +kernel) ⟨Nat.le_of_ble_eq_true rfl, Nat.le_of_ble_eq_true rfl⟩) ⟨fun a U g mk q => by obtain ⟨q0, q1, qP, qK, qD⟩ := q; exact ⟨q0, q1, qP, va_K.moved (u := U) (U := U.calling g mk a) (Vm.Alike.refl U.vm) qK, qD⟩, va_recv hKc hPc (ci := 7) (q0 := 0) rfl rfl, fun U hU hW => ⟨rfl, by rw [hU], by rw [hU]; exact hPc, va_K.moved hW.alike hKc, hDc.weaken (fun _ _ _ _ => trivial)⟩⟩ rfl rfl hl.1 rfl (lv_room (Nat.le_of_ble_eq_true rfl)) dX8_comeUp_14 ⟨(show 0 + 0 ≤ 0 by omega), (show 0 + 0 ≤ 0 by omega)⟩) hS (fun q _ h => hFc q h) hFc (fun u t H1 locs ht hvm hw hB hz1 hk1 hS => ?_)
  obtain ⟨hP1, hK1, hD1⟩ := hB
  rw [ht] at hP1
  have hK1 := va_K.moved hvm.symm hK1
  try dsimp only at hw
  obtain ⟨hP, hD⟩ := va_join (wr := [(h0, .inr (8, [.ref qd, .ref qf, .ref qs, .ref qp, .ref qe, .ref q0, .ref q1, .ref qk, .int 0, .long fr, .int dn]))]) (w1 := [(qk, .inr (7, [.int e1, .int e2, .int e3, .long e4])), (q0, .inr (7, [.int e1, .int e2, .int e3, .long e4]))]) hP hD [1, 0] [2] rfl rfl (by decide) (by decide) hk1 hFc hP1 hD1
  have hK := (hK.sub (tys' := []) [] rfl).app hK1
  generalize H1 = H at hP hS ⊢
  have hP : va_P (dC, dI) vwCl [(h0, .inr (8, [.ref qd, .ref qf, .ref qs, .ref qp, .ref qe, .ref q0, .ref q1, .ref qk, .int 0, .long fr, .int dn])), (qk, .inr (7, [.int e1, .int e2, .int e3, .long e4])), (q0, .inr (7, [.int e1, .int e2, .int e3, .long e4]))] H := hP
  have hD : va_D A [(h0, .inr (8, [.ref qd, .ref qf, .ref qs, .ref qp, .ref qe, .ref q0, .ref q1, .ref qk, .int 0, .long fr, .int dn])), (qk, .inr (7, [.int e1, .int e2, .int e3, .long e4])), (q0, .inr (7, [.int e1, .int e2, .int e3, .long e4]))] := hD
  have hK : va_K (dC, dI) vwCl [] s := hK
  refine lv_aload_n hx hb dX8_comeUp_17 rfl (lv_at hl 0 rfl) ?_
  refine lv_lconst (v := 0) hx hb dX8_comeUp_18 (by decide) ?_
  refine va_put (D := (dC, dI)) (ci := 8) (v := .long 0) (ty := .long) (C := RX8) (T := TX8) (N := 11) hx hb hts k_1 tyX8 tyX8_ok nmX8 hown hK hP hD hS 0 rfl rfl 9 (by decide) k_4 (fun _ h9 => h9) rfl (by decide +kernel) rfl rfl (Nat.le_of_ble_eq_true rfl) dX8_comeUp_19 (fun H locs hP hD hS => ?_)
  have hP : va_P (dC, dI) vwCl [(h0, .inr (8, [.ref qd, .ref qf, .ref qs, .ref qp, .ref qe, .ref q0, .ref q1, .ref qk, .int 0, .long 0, .int dn])), (qk, .inr (7, [.int e1, .int e2, .int e3, .long e4])), (q0, .inr (7, [.int e1, .int e2, .int e3, .long e4]))] H := hP
  have hD : va_D A [(h0, .inr (8, [.ref qd, .ref qf, .ref qs, .ref qp, .ref qe, .ref q0, .ref q1, .ref qk, .int 0, .long 0, .int dn])), (qk, .inr (7, [.int e1, .int e2, .int e3, .long e4])), (q0, .inr (7, [.int e1, .int e2, .int e3, .long e4]))] := hD
  refine lv_aload_n hx hb dX8_comeUp_22 rfl (lv_at hl 0 rfl) ?_
  refine lv_iconst (v := 0) hx hb dX8_comeUp_23 (by decide) ?_
  refine va_put (D := (dC, dI)) (ci := 8) (v := .int 0) (ty := .boolean) (C := RX8) (T := TX8) (N := 11) hx hb hts k_1 tyX8 tyX8_ok nmX8 hown hK hP hD hS 0 rfl rfl 10 (by decide) k_5 (fun _ h9 => h9) rfl (by decide +kernel) rfl rfl (Nat.le_of_ble_eq_true rfl) dX8_comeUp_24 (fun H locs hP hD hS => ?_)
  have hP : va_P (dC, dI) vwCl [(h0, .inr (8, [.ref qd, .ref qf, .ref qs, .ref qp, .ref qe, .ref q0, .ref q1, .ref qk, .int 0, .long 0, .int 0])), (qk, .inr (7, [.int e1, .int e2, .int e3, .long e4])), (q0, .inr (7, [.int e1, .int e2, .int e3, .long e4]))] H := hP
  have hD : va_D A [(h0, .inr (8, [.ref qd, .ref qf, .ref qs, .ref qp, .ref qe, .ref q0, .ref q1, .ref qk, .int 0, .long 0, .int 0])), (qk, .inr (7, [.int e1, .int e2, .int e3, .long e4])), (q0, .inr (7, [.int e1, .int e2, .int e3, .long e4]))] := hD
  have hP9 := hP.sub (ws' := []) [] rfl
  have hD9 := hD.sub (ws' := []) [] (by decide) rfl
  have hK9 := hK.sub (tys' := []) [] rfl
  exact W.vret hx hb hr (fun t ht hW => ⟨⟨(), rfl, trivial, by rw [ht]; exact hP9, va_K.moved hW.alike hK9, hD9⟩, hS.F ht⟩) hS.2.2 dX8_comeUp_27
def v_X8_format : List Cond := .code yX8_format cX8_format 1 none :: ([.fieldLink RX8 28 "TwinRoots" "disk" "LTwinRoots$Disk;", .code yX0_setCut cX0_setCut 3 none, .code Lib.Math.max.name Lib.Math.max.code 2 (some .int), .methodLink RX0 26 Lib.Math.max.name, .static Lib.Math.max.name, .initialized "java/lang/Math", .fieldLink RX0 23 "TwinRoots$Disk" "writesAhead" "I", .fieldLink RX0 7 "TwinRoots$Disk" "words" "I", .code Lib.Math.min.name Lib.Math.min.code 2 (some .int), .methodLink RX0 32 Lib.Math.min.name, .static Lib.Math.min.name, .fieldLink RX0 35 "TwinRoots$Disk" "wordsOfCut" "I", .methodLink RX8 81 yX0_setCut, .instanceMethod yX0_setCut, .selects RX0 yX0_setCut yX0_setCut, .initialized RX0, .fieldLink RX8 67 "TwinRoots" "rootZero" "LTwinRoots$Told;", .code yX7_tell cX7_tell 6 none, .fieldLink RX7 9 "TwinRoots$Told" "epoch" "I", .fieldLink RX7 15 "TwinRoots$Told" "top" "I", .fieldLink RX7 18 "TwinRoots$Told" "keys" "I", .fieldLink RX7 21 "TwinRoots$Told" "reach" "J", .methodLink RX8 84 yX7_tell, .instanceMethod yX7_tell, .selects RX7 yX7_tell yX7_tell, .initialized RX7, .fieldLink RX8 71 "TwinRoots" "rootOne" "LTwinRoots$Told;", .code yX8_writeRoot cX8_writeRoot 2 (some .boolean), .code yX8_told cX8_told 2 (some (.object "TwinRoots$Told")), .methodLink RX8 143 yX8_told, .instanceMethod yX8_told, .selects RX8 yX8_told yX8_told, .initialized RX8, .code yX7_layOut cX7_layOut 2 none, .code yX0_startImage cX0_startImage 2 none, .fieldLink RX0 20 "TwinRoots$Disk" "image" "[I", .methodLink RX7 29 yX0_startImage, .instanceMethod yX0_startImage, .selects RX0 yX0_startImage yX0_startImage, .constant RX7 34 (1414677326), .code yX0_lay cX0_lay 3 none, .methodLink RX7 35 yX0_lay, .instanceMethod yX0_lay, .selects RX0 yX0_lay yX0_lay, .methodLink RX8 220 yX7_layOut, .instanceMethod yX7_layOut, .selects RX7 yX7_layOut yX7_layOut, .code yX0_write cX0_write 6 (some .boolean), .code yX0_sealOf cX0_sealOf 5 (some .int), .methodLink RX0 41 yX0_sealOf, .static yX0_sealOf, .methodLink RX0 45 yX0_lay, .code yX0_cellOf cX0_cellOf 4 (some .int), .fieldLink RX0 13 "TwinRoots$Disk" "blocks" "I", .methodLink RX0 38 yX0_cellOf, .instanceMethod yX0_cellOf, .selects RX0 yX0_cellOf yX0_cellOf, .fieldLink RX0 16 "TwinRoots$Disk" "cells" "[I", .fieldLink RX0 49 "TwinRoots$Disk" "writes" "I", .methodLink RX8 224 yX0_write, .instanceMethod yX0_write, .selects RX0 yX0_write yX0_write, .methodLink RX8 88 yX8_writeRoot, .instanceMethod yX8_writeRoot, .selects RX8 yX8_writeRoot yX8_writeRoot, .code yX8_comeUp cX8_comeUp 2 none, .fieldLink RX8 140 "TwinRoots" "latest" "I", .fieldLink RX8 74 "TwinRoots" "working" "LTwinRoots$Told;", .code yX7_copy cX7_copy 2 none, .methodLink RX7 25 yX7_tell, .methodLink RX8 184 yX7_copy, .instanceMethod yX7_copy, .selects RX7 yX7_copy yX7_copy, .fieldLink RX8 99 "TwinRoots" "fresh" "J", .fieldLink RX8 77 "TwinRoots" "down" "Z", .methodLink RX8 92 yX8_comeUp, .instanceMethod yX8_comeUp, .selects RX8 yX8_comeUp yX8_comeUp] ++ (wsX80 ++ (wsX00 ++ (wsX70 ++ ([])))))
set_option maxRecDepth 20000 in
theorem g_X8_format_X0_setCut_m1 : GoodIn v_X8_format (wsV RX8 81 RX0 yX0_setCut v_X0_setCut_m1) := goodIn_r _ [13, 14, 15, 16, 2, 3, 4, 5, 6, 7, 8, 9, 10, 11, 12, 90, 91, 92, 93, 94, 95, 96] (by decide +kernel) (by decide +kernel)
set_option maxRecDepth 20000 in
theorem g_X8_format_X7_tell : GoodIn v_X8_format (wsV RX8 84 RX7 yX7_tell v_X7_tell) := goodIn_r _ [23, 24, 25, 26, 18, 19, 20, 21, 22, 97, 98, 99, 100] (by decide +kernel) (by decide +kernel)
set_option maxRecDepth 20000 in
theorem g_X8_format_X8_writeRoot_0 : GoodIn v_X8_format (wsV RX8 88 RX8 yX8_writeRoot v_X8_writeRoot_0) := goodIn_r _ [63, 64, 65, 33, 28, 29, 17, 30, 31, 32, 33, 1, 34, 35, 36, 37, 38, 39, 16, 40, 41, 42, 43, 44, 19, 20, 21, 45, 46, 47, 26, 48, 8, 49, 3, 4, 5, 6, 50, 51, 52, 7, 53, 54, 55, 56, 57, 58, 59, 60, 61, 62, 79, 80, 81, 82, 83, 84, 85, 86, 87, 88, 89, 90, 91, 92, 93, 94, 95, 96, 97, 98, 99, 100] (by decide +kernel) (by decide +kernel)
set_option maxRecDepth 20000 in
theorem g_X8_format_X8_writeRoot_1 : GoodIn v_X8_format (wsV RX8 88 RX8 yX8_writeRoot v_X8_writeRoot_1) := goodIn_r _ [63, 64, 65, 33, 28, 29, 27, 30, 31, 32, 33, 1, 34, 35, 36, 37, 38, 39, 16, 40, 41, 42, 43, 44, 19, 20, 21, 45, 46, 47, 26, 48, 8, 49, 3, 4, 5, 6, 50, 51, 52, 7, 53, 54, 55, 56, 57, 58, 59, 60, 61, 62, 79, 80, 81, 82, 83, 84, 85, 86, 87, 88, 89, 90, 91, 92, 93, 94, 95, 96, 97, 98, 99, 100] (by decide +kernel) (by decide +kernel)
set_option maxRecDepth 20000 in
theorem g_X8_format_X8_comeUp : GoodIn v_X8_format (wsV RX8 92 RX8 yX8_comeUp v_X8_comeUp) := goodIn_r _ [76, 77, 78, 33, 66, 67, 68, 29, 17, 30, 31, 32, 33, 69, 19, 20, 21, 22, 18, 70, 24, 25, 26, 71, 72, 73, 74, 75, 79, 80, 81, 82, 83, 84, 85, 86, 87, 88, 89, 97, 98, 99, 100] (by decide +kernel) (by decide +kernel)
set_option maxHeartbeats 4000000 in
set_option maxRecDepth 100000 in
/-- format returns -/
theorem c_X8_format (l : Launch) (dC : Nat → ClassId) (dI : Nat → Nat → Nat) (sz : Nat) (h0 : Nat) (qd : Nat) (qf : Nat) (qs : Nat) (qp : Nat) (qe : Nat) (q0 : Nat) (q1 : Nat) (qk : Nat) (lt : Int32) (fr : Int64) (dn : Int32) (w : Nat) (b : Nat) (qc : Nat) (qi : Nat) (wr : Int32) (wa : Int32) (wc : Int32) (e1 : Int32) (e2 : Int32) (e3 : Int32) (e4 : Int64) (d1 : Int32) (d2 : Int32) (d3 : Int32) (d4 : Int64) (k1 : Int32) (k2 : Int32) (k3 : Int32) (k4 : Int64) (cC : ClassId) (cI : ClassId) (f : Nat → Int32) (g : Nat → Int32) (zw0 : 12 ≤ w) (zw : w ≤ 40) (zb0 : 4 ≤ b) (zb : b ≤ 64) (zwb : w * b ≤ 2560) : Met l yX8_format v_X8_format ({ frames := 4, cells := 0, slots := 0, locals := 83 } : Room) (va_Pc [.ref h0] (fun U => U.heap.size = sz ∧ va_P (dC, dI) vwCl [(h0, .inr (8, [.ref qd, .ref qf, .ref qs, .ref qp, .ref qe, .ref q0, .ref q1, .ref qk, .int lt, .long fr, .int dn])), (qd, .inr (0, [.int (nI w), .int (nI b), .int wr, .ref qc, .ref qi, .int wa, .int wc])), (qc, .inl (cC, w * b, .inl f)), (qi, .inl (cI, w, .inl g)), (q0, .inr (7, [.int e1, .int e2, .int e3, .long e4])), (q1, .inr (7, [.int d1, .int d2, .int d3, .long d4])), (qk, .inr (7, [.int k1, .int k2, .int k3, .long k4]))] U.heap ∧ va_K (dC, dI) vwCl [(cC, .int), (cI, .int)] U ∧ va_D (fun _ => True) [(h0, .inr (8, [.ref qd, .ref qf, .ref qs, .ref qp, .ref qe, .ref q0, .ref q1, .ref qk, .int lt, .long fr, .int dn])), (qd, .inr (0, [.int (nI w), .int (nI b), .int wr, .ref qc, .ref qi, .int wa, .int wc])), (qc, .inl (cC, w * b, .inl f)), (qi, .inl (cI, w, .inl g)), (q0, .inr (7, [.int e1, .int e2, .int e3, .long e4])), (q1, .inr (7, [.int d1, .int d2, .int d3, .long d4])), (qk, .inr (7, [.int k1, .int k2, .int k3, .long k4]))])) (va_Qv (fun (_ : Unit) => True) (fun (_ : Unit) (t : State) => va_P (dC, dI) vwCl [] t.heap ∧ va_K (dC, dI) vwCl [] t ∧ va_D (va_A [(h0, .inr (8, [.ref qd, .ref qf, .ref qs, .ref qp, .ref qe, .ref q0, .ref q1, .ref qk, .int lt, .long fr, .int dn])), (qd, .inr (0, [.int (nI w), .int (nI b), .int wr, .ref qc, .ref qi, .int wa, .int wc])), (qc, .inl (cC, w * b, .inl f)), (qi, .inl (cI, w, .inl g)), (q0, .inr (7, [.int e1, .int e2, .int e3, .long e4])), (q1, .inr (7, [.int d1, .int d2, .int d3, .long d4])), (qk, .inr (7, [.int k1, .int k2, .int k3, .long k4]))] sz) []) (va_A [(h0, .inr (8, [.ref qd, .ref qf, .ref qs, .ref qp, .ref qe, .ref q0, .ref q1, .ref qk, .int lt, .long fr, .int dn])), (qd, .inr (0, [.int (nI w), .int (nI b), .int wr, .ref qc, .ref qi, .int wa, .int wc])), (qc, .inl (cC, w * b, .inl f)), (qi, .inl (cI, w, .inl g)), (q0, .inr (7, [.int e1, .int e2, .int e3, .long e4])), (q1, .inr (7, [.int d1, .int d2, .int d3, .long d4])), (qk, .inr (7, [.int k1, .int k2, .int k3, .long k4]))] sz)) 0 0 (va_A [(h0, .inr (8, [.ref qd, .ref qf, .ref qs, .ref qp, .ref qe, .ref q0, .ref q1, .ref qk, .int lt, .long fr, .int dn])), (qd, .inr (0, [.int (nI w), .int (nI b), .int wr, .ref qc, .ref qi, .int wa, .int wc])), (qc, .inl (cC, w * b, .inl f)), (qi, .inl (cI, w, .inl g)), (q0, .inr (7, [.int e1, .int e2, .int e3, .long e4])), (q1, .inr (7, [.int d1, .int d2, .int d3, .long d4])), (qk, .inr (7, [.int k1, .int k2, .int k3, .long k4]))] sz) := by
  refine Met.ofW (cc := cX8_format) (maxL := 1) (ret := none) (by decide) rfl ?_
  intro p e s m args below meth c s₁ B hml hv
  obtain ⟨rfl, hsz, hP, hK, hD0⟩ := hv
  have hx := B.exec
  have hb := B.bytes
  have hr := B.returns
  have hts := atoms_spec (ws := v_X8_format) B.pre
  have hown : s.vm.findClass RX8 = some m.cls := findClass_of_methodNamed B.named
  have hlocks := B.notSynchronized
  subst hsz
  have hD := hD0.self (sz := s.heap.size)
  generalize hAe : va_A [(h0, .inr (8, [.ref qd, .ref qf, .ref qs, .ref qp, .ref qe, .ref q0, .ref q1, .ref qk, .int lt, .long fr, .int dn])), (qd, .inr (0, [.int (nI w), .int (nI b), .int wr, .ref qc, .ref qi, .int wa, .int wc])), (qc, .inl (cC, w * b, .inl f)), (qi, .inl (cI, w, .inl g)), (q0, .inr (7, [.int e1, .int e2, .int e3, .long e4])), (q1, .inr (7, [.int d1, .int d2, .int d3, .long d4])), (qk, .inr (7, [.int k1, .int k2, .int k3, .long k4]))] s.heap.size = A at hD ⊢
  have hA : ∀ q : Nat, s.heap.size ≤ q → A q := fun q h => by rw [← hAe]; exact Or.inr h
  have hS : va_S A s.heap s.heap [] := va_S.rf
  have hP : va_P (dC, dI) vwCl [(h0, .inr (8, [.ref qd, .ref qf, .ref qs, .ref qp, .ref qe, .ref q0, .ref q1, .ref qk, .int lt, .long fr, .int dn])), (qd, .inr (0, [.int (nI w), .int (nI b), .int wr, .ref qc, .ref qi, .int wa, .int wc])), (qc, .inl (cC, w * b, .inl f)), (qi, .inl (cI, w, .inl g)), (q0, .inr (7, [.int e1, .int e2, .int e3, .long e4])), (q1, .inr (7, [.int d1, .int d2, .int d3, .long d4])), (qk, .inr (7, [.int k1, .int k2, .int k3, .long k4]))] s.heap := hP
  have hl := lv_entry ([.ref h0]) (n := 1) (Nat.le_of_ble_eq_true rfl)
  rw [lg_entry_eq]
  generalize (lg_sl ([.ref h0]) ++ List.replicate (1 - (lg_sl ([.ref h0])).length) Slot.unset).toArray = ls at hl ⊢
  have hl : lv_has ls 1 [(0, .ref h0)] := hl
  have k_1 := (fun _ h => List.mem_cons_of_mem _ (List.mem_append_right _ (List.mem_append_left _ h)) : ∀ w ∈ wsX80, w ∈ v_X8_format)
  have k_2 := hts (.fieldLink RX8 28 "TwinRoots" "disk" "LTwinRoots$Disk;") (List.mem_of_getElem? (i := 1) rfl)
  have k_3 := hts (.fieldLink RX8 67 "TwinRoots" "rootZero" "LTwinRoots$Told;") (List.mem_of_getElem? (i := 17) rfl)
  have k_4 := hts (.fieldLink RX8 71 "TwinRoots" "rootOne" "LTwinRoots$Told;") (List.mem_of_getElem? (i := 27) rfl)
  refine lv_aload_n hx hb dX8_format_0 rfl (lv_at hl 0 rfl) ?_
  refine va_get (D := (dC, dI)) (ci := 8) (v := .ref qd) (C := RX8) (T := TX8) (N := 11) hx hb hts k_1 hown hK hP 0 rfl rfl 0 (by decide) k_2 (fun _ h9 => h9) rfl dX8_format_1 ?_
  refine lv_iconst (v := -1) hx hb dX8_format_4 (by decide) ?_
  refine lv_iconst (v := 0) hx hb dX8_format_5 (by decide) ?_
  have hPc := hP.sub (ws' := [(qd, .inr (0, [.int (nI w), .int (nI b), .int wr, .ref qc, .ref qi, .int wa, .int wc]))]) [1] rfl
  have hDc := hD.sub (ws' := [(qd, .inr (0, [.int (nI w), .int (nI b), .int wr, .ref qc, .ref qi, .int wa, .int wc]))]) [1] (by decide) rfl
  have hKc := hK.sub (tys' := []) [] rfl
  have hFc := va_free (wc := [(qd, .inr (0, [.int (nI w), .int (nI b), .int wr, .ref qc, .ref qi, .int wa, .int wc]))]) hD hS hA [1] rfl
  refine va_callv (va_runV (As := [.int (-1), .int 0]) (rest := []) ⟨hx, hb, hml, hown, hts⟩ (c_X0_setCut_m1 l dC dI s.heap.size qd w b qc qi wr wa wc) (cwV 2 hts g_X8_format_X0_setCut_m1 rfl rfl rfl (by decide +kernel) ⟨Nat.le_of_ble_eq_true rfl, Nat.le_of_ble_eq_true rfl⟩) ⟨fun a U g mk q => by obtain ⟨q0, q1, qP, qK, qD⟩ := q; exact ⟨q0, q1, qP, va_K.moved (u := U) (U := U.calling g mk a) (Vm.Alike.refl U.vm) qK, qD⟩, va_recv hKc hPc (ci := 0) (q0 := 0) rfl rfl, fun U hU hW => ⟨rfl, by rw [hU], by rw [hU]; exact hPc, va_K.moved hW.alike hKc, hDc.weaken (fun _ _ _ _ => trivial)⟩⟩ rfl rfl hl.1 rfl (lv_room (Nat.le_of_ble_eq_true rfl)) dX8_format_6 ⟨(show 0 + 0 ≤ 0 by omega), (show 0 + 0 ≤ 0 by omega)⟩) hS (fun q _ h => hFc q h) hFc (fun u t H1 locs ht hvm hw hB hz1 hk1 hS => ?_)
  obtain ⟨wc2_2, rfl⟩ : ∃ z, z = u := ⟨_, rfl⟩
  obtain ⟨hP1, hK1, hD1⟩ := hB
  rw [ht] at hP1
  have hK1 := va_K.moved hvm.symm hK1
  try dsimp only at hw
  obtain ⟨hP, hD⟩ := va_join (wr := [(h0, .inr (8, [.ref qd, .ref qf, .ref qs, .ref qp, .ref qe, .ref q0, .ref q1, .ref qk, .int lt, .long fr, .int dn])), (qc, .inl (cC, w * b, .inl f)), (qi, .inl (cI, w, .inl g)), (q0, .inr (7, [.int e1, .int e2, .int e3, .long e4])), (q1, .inr (7, [.int d1, .int d2, .int d3, .long d4])), (qk, .inr (7, [.int k1, .int k2, .int k3, .long k4]))]) (w1 := [(qd, .inr (0, [.int (nI w), .int (nI b), .int wr, .ref qc, .ref qi, .int (-1), .int wc2_2]))]) hP hD [1] [0, 2, 3, 4, 5, 6] rfl rfl (by decide) (by decide) hk1 hFc hP1 hD1
  have hK := (hK.sub (tys' := [(cC, .int), (cI, .int)]) [0, 1] rfl).app hK1
  generalize H1 = H at hP hS ⊢
  have hP : va_P (dC, dI) vwCl [(h0, .inr (8, [.ref qd, .ref qf, .ref qs, .ref qp, .ref qe, .ref q0, .ref q1, .ref qk, .int lt, .long fr, .int dn])), (qc, .inl (cC, w * b, .inl f)), (qi, .inl (cI, w, .inl g)), (q0, .inr (7, [.int e1, .int e2, .int e3, .long e4])), (q1, .inr (7, [.int d1, .int d2, .int d3, .long d4])), (qk, .inr (7, [.int k1, .int k2, .int k3, .long k4])), (qd, .inr (0, [.int (nI w), .int (nI b), .int wr, .ref qc, .ref qi, .int (-1), .int wc2_2]))] H := hP
  have hD : va_D A [(h0, .inr (8, [.ref qd, .ref qf, .ref qs, .ref qp, .ref qe, .ref q0, .ref q1, .ref qk, .int lt, .long fr, .int dn])), (qc, .inl (cC, w * b, .inl f)), (qi, .inl (cI, w, .inl g)), (q0, .inr (7, [.int e1, .int e2, .int e3, .long e4])), (q1, .inr (7, [.int d1, .int d2, .int d3, .long d4])), (qk, .inr (7, [.int k1, .int k2, .int k3, .long k4])), (qd, .inr (0, [.int (nI w), .int (nI b), .int wr, .ref qc, .ref qi, .int (-1), .int wc2_2]))] := hD
  have hK : va_K (dC, dI) vwCl [(cC, .int), (cI, .int)] s := hK
  refine lv_aload_n hx hb dX8_format_9 rfl (lv_at hl 0 rfl) ?_
  refine va_get (D := (dC, dI)) (ci := 8) (v := .ref q0) (C := RX8) (T := TX8) (N := 11) hx hb hts k_1 hown hK hP 0 rfl rfl 5 (by decide) k_3 (fun _ h9 => h9) rfl dX8_format_10 ?_
  refine lv_iconst (v := 0) hx hb dX8_format_13 (by decide) ?_
  refine lv_iconst (v := 0) hx hb dX8_format_14 (by decide) ?_
  refine lv_iconst (v := 0) hx hb dX8_format_15 (by decide) ?_
  refine lv_lconst (v := 0) hx hb dX8_format_16 (by decide) ?_
  have hPc := hP.sub (ws' := [(q0, .inr (7, [.int e1, .int e2, .int e3, .long e4]))]) [3] rfl
  have hDc := hD.sub (ws' := [(q0, .inr (7, [.int e1, .int e2, .int e3, .long e4]))]) [3] (by decide) rfl
  have hKc := hK.sub (tys' := []) [] rfl
  have hFc := va_free (wc := [(q0, .inr (7, [.int e1, .int e2, .int e3, .long e4]))]) hD hS hA [3] rfl
  refine va_callv (va_runV (As := [.int 0, .int 0, .int 0, .long 0]) (rest := []) ⟨hx, hb, hml, hown, hts⟩ (c_X7_tell l dC dI H.size q0 e1 e2 e3 e4 0 0 0 0) (cwV 4 hts g_X8_format_X7_tell rfl rfl rfl (by decide +kernel) ⟨Nat.le_of_ble_eq_true rfl, Nat.le_of_ble_eq_true rfl⟩) ⟨fun a U g mk q => by obtain ⟨q0, q1, qP, qK, qD⟩ := q; exact ⟨q0, q1, qP, va_K.moved (u := U) (U := U.calling g mk a) (Vm.Alike.refl U.vm) qK, qD⟩, va_recv hKc hPc (ci := 7) (q0 := 0) rfl rfl, fun U hU hW => ⟨rfl, by rw [hU], by rw [hU]; exact hPc, va_K.moved hW.alike hKc, hDc.weaken (fun _ _ _ _ => trivial)⟩⟩ rfl rfl hl.1 rfl (lv_room (Nat.le_of_ble_eq_true rfl)) dX8_format_17 ⟨(show 0 + 0 ≤ 0 by omega), (show 0 + 0 ≤ 0 by omega)⟩) hS (fun q _ h => hFc q h) hFc (fun u t H1 locs ht hvm hw hB hz1 hk1 hS => ?_)
  obtain ⟨hP1, hK1, hD1⟩ := hB
  rw [ht] at hP1
  have hK1 := va_K.moved hvm.symm hK1
  try dsimp only at hw
  obtain ⟨hP, hD⟩ := va_join (wr := [(h0, .inr (8, [.ref qd, .ref qf, .ref qs, .ref qp, .ref qe, .ref q0, .ref q1, .ref qk, .int lt, .long fr, .int dn])), (qc, .inl (cC, w * b, .inl f)), (qi, .inl (cI, w, .inl g)), (q1, .inr (7, [.int d1, .int d2, .int d3, .long d4])), (qk, .inr (7, [.int k1, .int k2, .int k3, .long k4])), (qd, .inr (0, [.int (nI w), .int (nI b), .int wr, .ref qc, .ref qi, .int (-1), .int wc2_2]))]) (w1 := [(q0, .inr (7, [.int 0, .int 0, .int 0, .long 0]))]) hP hD [3] [0, 1, 2, 4, 5, 6] rfl rfl (by decide) (by decide) hk1 hFc hP1 hD1
  have hK := (hK.sub (tys' := [(cC, .int), (cI, .int)]) [0, 1] rfl).app hK1
  generalize H1 = H at hP hS ⊢
  have hP : va_P (dC, dI) vwCl [(h0, .inr (8, [.ref qd, .ref qf, .ref qs, .ref qp, .ref qe, .ref q0, .ref q1, .ref qk, .int lt, .long fr, .int dn])), (qc, .inl (cC, w * b, .inl f)), (qi, .inl (cI, w, .inl g)), (q1, .inr (7, [.int d1, .int d2, .int d3, .long d4])), (qk, .inr (7, [.int k1, .int k2, .int k3, .long k4])), (qd, .inr (0, [.int (nI w), .int (nI b), .int wr, .ref qc, .ref qi, .int (-1), .int wc2_2])), (q0, .inr (7, [.int 0, .int 0, .int 0, .long 0]))] H := hP
  have hD : va_D A [(h0, .inr (8, [.ref qd, .ref qf, .ref qs, .ref qp, .ref qe, .ref q0, .ref q1, .ref qk, .int lt, .long fr, .int dn])), (qc, .inl (cC, w * b, .inl f)), (qi, .inl (cI, w, .inl g)), (q1, .inr (7, [.int d1, .int d2, .int d3, .long d4])), (qk, .inr (7, [.int k1, .int k2, .int k3, .long k4])), (qd, .inr (0, [.int (nI w), .int (nI b), .int wr, .ref qc, .ref qi, .int (-1), .int wc2_2])), (q0, .inr (7, [.int 0, .int 0, .int 0, .long 0]))] := hD
  have hK : va_K (dC, dI) vwCl [(cC, .int), (cI, .int)] s := hK
  refine lv_aload_n hx hb dX8_format_20 rfl (lv_at hl 0 rfl) ?_
  refine va_get (D := (dC, dI)) (ci := 8) (v := .ref q1) (C := RX8) (T := TX8) (N := 11) hx hb hts k_1 hown hK hP 0 rfl rfl 6 (by decide) k_4 (fun _ h9 => h9) rfl dX8_format_21 ?_
  refine lv_iconst (v := 0) hx hb dX8_format_24 (by decide) ?_
  refine lv_iconst (v := 0) hx hb dX8_format_25 (by decide) ?_
  refine lv_iconst (v := 0) hx hb dX8_format_26 (by decide) ?_
  refine lv_lconst (v := 0) hx hb dX8_format_27 (by decide) ?_
  have hPc := hP.sub (ws' := [(q1, .inr (7, [.int d1, .int d2, .int d3, .long d4]))]) [3] rfl
  have hDc := hD.sub (ws' := [(q1, .inr (7, [.int d1, .int d2, .int d3, .long d4]))]) [3] (by decide) rfl
  have hKc := hK.sub (tys' := []) [] rfl
  have hFc := va_free (wc := [(q1, .inr (7, [.int d1, .int d2, .int d3, .long d4]))]) hD hS hA [3] rfl
  refine va_callv (va_runV (As := [.int 0, .int 0, .int 0, .long 0]) (rest := []) ⟨hx, hb, hml, hown, hts⟩ (c_X7_tell l dC dI H.size q1 d1 d2 d3 d4 0 0 0 0) (cwV 4 hts g_X8_format_X7_tell rfl rfl rfl (by decide +kernel) ⟨Nat.le_of_ble_eq_true rfl, Nat.le_of_ble_eq_true rfl⟩) ⟨fun a U g mk q => by obtain ⟨q0, q1, qP, qK, qD⟩ := q; exact ⟨q0, q1, qP, va_K.moved (u := U) (U := U.calling g mk a) (Vm.Alike.refl U.vm) qK, qD⟩, va_recv hKc hPc (ci := 7) (q0 := 0) rfl rfl, fun U hU hW => ⟨rfl, by rw [hU], by rw [hU]; exact hPc, va_K.moved hW.alike hKc, hDc.weaken (fun _ _ _ _ => trivial)⟩⟩ rfl rfl hl.1 rfl (lv_room (Nat.le_of_ble_eq_true rfl)) dX8_format_28 ⟨(show 0 + 0 ≤ 0 by omega), (show 0 + 0 ≤ 0 by omega)⟩) hS (fun q _ h => hFc q h) hFc (fun u t H1 locs ht hvm hw hB hz1 hk1 hS => ?_)
  obtain ⟨hP1, hK1, hD1⟩ := hB
  rw [ht] at hP1
  have hK1 := va_K.moved hvm.symm hK1
  try dsimp only at hw
  obtain ⟨hP, hD⟩ := va_join (wr := [(h0, .inr (8, [.ref qd, .ref qf, .ref qs, .ref qp, .ref qe, .ref q0, .ref q1, .ref qk, .int lt, .long fr, .int dn])), (qc, .inl (cC, w * b, .inl f)), (qi, .inl (cI, w, .inl g)), (qk, .inr (7, [.int k1, .int k2, .int k3, .long k4])), (qd, .inr (0, [.int (nI w), .int (nI b), .int wr, .ref qc, .ref qi, .int (-1), .int wc2_2])), (q0, .inr (7, [.int 0, .int 0, .int 0, .long 0]))]) (w1 := [(q1, .inr (7, [.int 0, .int 0, .int 0, .long 0]))]) hP hD [3] [0, 1, 2, 4, 5, 6] rfl rfl (by decide) (by decide) hk1 hFc hP1 hD1
  have hK := (hK.sub (tys' := [(cC, .int), (cI, .int)]) [0, 1] rfl).app hK1
  generalize H1 = H at hP hS ⊢
  have hP : va_P (dC, dI) vwCl [(h0, .inr (8, [.ref qd, .ref qf, .ref qs, .ref qp, .ref qe, .ref q0, .ref q1, .ref qk, .int lt, .long fr, .int dn])), (qc, .inl (cC, w * b, .inl f)), (qi, .inl (cI, w, .inl g)), (qk, .inr (7, [.int k1, .int k2, .int k3, .long k4])), (qd, .inr (0, [.int (nI w), .int (nI b), .int wr, .ref qc, .ref qi, .int (-1), .int wc2_2])), (q0, .inr (7, [.int 0, .int 0, .int 0, .long 0])), (q1, .inr (7, [.int 0, .int 0, .int 0, .long 0]))] H := hP
  have hD : va_D A [(h0, .inr (8, [.ref qd, .ref qf, .ref qs, .ref qp, .ref qe, .ref q0, .ref q1, .ref qk, .int lt, .long fr, .int dn])), (qc, .inl (cC, w * b, .inl f)), (qi, .inl (cI, w, .inl g)), (qk, .inr (7, [.int k1, .int k2, .int k3, .long k4])), (qd, .inr (0, [.int (nI w), .int (nI b), .int wr, .ref qc, .ref qi, .int (-1), .int wc2_2])), (q0, .inr (7, [.int 0, .int 0, .int 0, .long 0])), (q1, .inr (7, [.int 0, .int 0, .int 0, .long 0]))] := hD
  have hK : va_K (dC, dI) vwCl [(cC, .int), (cI, .int)] s := hK
  refine lv_aload_n hx hb dX8_format_31 rfl (lv_at hl 0 rfl) ?_
  refine lv_iconst (v := 0) hx hb dX8_format_32 (by decide) ?_
  have hPc := hP.sub (ws' := [(h0, .inr (8, [.ref qd, .ref qf, .ref qs, .ref qp, .ref qe, .ref q0, .ref q1, .ref qk, .int lt, .long fr, .int dn])), (qd, .inr (0, [.int (nI w), .int (nI b), .int wr, .ref qc, .ref qi, .int (-1), .int wc2_2])), (qc, .inl (cC, w * b, .inl f)), (qi, .inl (cI, w, .inl g)), (q0, .inr (7, [.int 0, .int 0, .int 0, .long 0]))]) [0, 4, 1, 2, 5] rfl
  have hDc := hD.sub (ws' := [(h0, .inr (8, [.ref qd, .ref qf, .ref qs, .ref qp, .ref qe, .ref q0, .ref q1, .ref qk, .int lt, .long fr, .int dn])), (qd, .inr (0, [.int (nI w), .int (nI b), .int wr, .ref qc, .ref qi, .int (-1), .int wc2_2])), (qc, .inl (cC, w * b, .inl f)), (qi, .inl (cI, w, .inl g)), (q0, .inr (7, [.int 0, .int 0, .int 0, .long 0]))]) [0, 4, 1, 2, 5] (by decide) rfl
  have hKc := hK.sub (tys' := [(cC, .int), (cI, .int)]) [0, 1] rfl
  have hFc := va_free (wc := [(h0, .inr (8, [.ref qd, .ref qf, .ref qs, .ref qp, .ref qe, .ref q0, .ref q1, .ref qk, .int lt, .long fr, .int dn])), (qd, .inr (0, [.int (nI w), .int (nI b), .int wr, .ref qc, .ref qi, .int (-1), .int wc2_2])), (qc, .inl (cC, w * b, .inl f)), (qi, .inl (cI, w, .inl g)), (q0, .inr (7, [.int 0, .int 0, .int 0, .long 0]))]) hD hS hA [0, 4, 1, 2, 5] rfl
  refine va_calli (va_runV (As := [.int 0]) (rest := []) ⟨hx, hb, hml, hown, hts⟩ (c_X8_writeRoot_0 l dC dI H.size h0 qd qf qs qp qe q0 q1 qk lt fr dn w b qc qi wr wc2_2 0 0 0 0 cC cI f g (by first | assumption | omega | decide) (by first | assumption | omega | decide) (by first | assumption | omega | decide) (by first | assumption | omega | decide) (by first | assumption | omega | decide)) (cwV 1 hts g_X8_format_X8_writeRoot_0 rfl rfl rfl (by decide +kernel) ⟨Nat.le_of_ble_eq_true rfl, Nat.le_of_ble_eq_true rfl⟩) ⟨fun a U g mk q => by obtain ⟨q0, q1, qP, qK, qD⟩ := q; exact ⟨q0, q1, qP, va_K.moved (u := U) (U := U.calling g mk a) (Vm.Alike.refl U.vm) qK, qD⟩, va_recv hKc hPc (ci := 8) (q0 := 0) rfl rfl, fun U hU hW => ⟨rfl, by rw [hU], by rw [hU]; exact hPc, va_K.moved hW.alike hKc, hDc.weaken (fun _ _ _ _ => trivial)⟩⟩ rfl rfl hl.1 rfl (lv_room (Nat.le_of_ble_eq_true rfl)) dX8_format_33 ⟨(show 0 + 0 ≤ 0 by omega), (show 0 + 0 ≤ 0 by omega)⟩) hS (fun q _ h => hFc q h) hFc (fun r_5 u t H1 locs ht hvm hw hB hz1 hk1 hS => ?_)
  obtain ⟨wr2_6, f2_7, g2_8⟩ := u
  obtain ⟨hP1, hK1, hD1⟩ := hB
  rw [ht] at hP1
  have hK1 := va_K.moved hvm.symm hK1
  try dsimp only at hw
  obtain ⟨hP, hD⟩ := va_join (wr := [(qk, .inr (7, [.int k1, .int k2, .int k3, .long k4])), (q1, .inr (7, [.int 0, .int 0, .int 0, .long 0]))]) (w1 := [(h0, .inr (8, [.ref qd, .ref qf, .ref qs, .ref qp, .ref qe, .ref q0, .ref q1, .ref qk, .int lt, .long fr, .int dn])), (qd, .inr (0, [.int (nI w), .int (nI b), .int wr2_6, .ref qc, .ref qi, .int (-1), .int wc2_2])), (qc, .inl (cC, w * b, .inl f2_7)), (qi, .inl (cI, w, .inl g2_8)), (q0, .inr (7, [.int 0, .int 0, .int 0, .long 0]))]) hP hD [0, 4, 1, 2, 5] [3, 6] rfl rfl (by decide) (by decide) hk1 hFc hP1 hD1
  have hK := (hK.sub (tys' := []) [] rfl).app hK1
  generalize H1 = H at hP hS ⊢
  have hP : va_P (dC, dI) vwCl [(qk, .inr (7, [.int k1, .int k2, .int k3, .long k4])), (q1, .inr (7, [.int 0, .int 0, .int 0, .long 0])), (h0, .inr (8, [.ref qd, .ref qf, .ref qs, .ref qp, .ref qe, .ref q0, .ref q1, .ref qk, .int lt, .long fr, .int dn])), (qd, .inr (0, [.int (nI w), .int (nI b), .int wr2_6, .ref qc, .ref qi, .int (-1), .int wc2_2])), (qc, .inl (cC, w * b, .inl f2_7)), (qi, .inl (cI, w, .inl g2_8)), (q0, .inr (7, [.int 0, .int 0, .int 0, .long 0]))] H := hP
  have hD : va_D A [(qk, .inr (7, [.int k1, .int k2, .int k3, .long k4])), (q1, .inr (7, [.int 0, .int 0, .int 0, .long 0])), (h0, .inr (8, [.ref qd, .ref qf, .ref qs, .ref qp, .ref qe, .ref q0, .ref q1, .ref qk, .int lt, .long fr, .int dn])), (qd, .inr (0, [.int (nI w), .int (nI b), .int wr2_6, .ref qc, .ref qi, .int (-1), .int wc2_2])), (qc, .inl (cC, w * b, .inl f2_7)), (qi, .inl (cI, w, .inl g2_8)), (q0, .inr (7, [.int 0, .int 0, .int 0, .long 0]))] := hD
  have hK : va_K (dC, dI) vwCl [(cC, .int), (cI, .int)] s := hK
  obtain rfl : r_5 = 1 := hw
  refine lv_pop hx hb dX8_format_36 rfl ?_
  refine lv_aload_n hx hb dX8_format_37 rfl (lv_at hl 0 rfl) ?_
  refine lv_iconst (v := 1) hx hb dX8_format_38 (by decide) ?_
  have hPc := hP.sub (ws' := [(h0, .inr (8, [.ref qd, .ref qf, .ref qs, .ref qp, .ref qe, .ref q0, .ref q1, .ref qk, .int lt, .long fr, .int dn])), (qd, .inr (0, [.int (nI w), .int (nI b), .int wr2_6, .ref qc, .ref qi, .int (-1), .int wc2_2])), (qc, .inl (cC, w * b, .inl f2_7)), (qi, .inl (cI, w, .inl g2_8)), (q1, .inr (7, [.int 0, .int 0, .int 0, .long 0]))]) [2, 3, 4, 5, 1] rfl
  have hDc := hD.sub (ws' := [(h0, .inr (8, [.ref qd, .ref qf, .ref qs, .ref qp, .ref qe, .ref q0, .ref q1, .ref qk, .int lt, .long fr, .int dn])), (qd, .inr (0, [.int (nI w), .int (nI b), .int wr2_6, .ref qc, .ref qi, .int (-1), .int wc2_2])), (qc, .inl (cC, w * b, .inl f2_7)), (qi, .inl (cI, w, .inl g2_8)), (q1, .inr (7, [.int 0, .int 0, .int 0, .long 0]))]) [2, 3, 4, 5, 1] (by decide) rfl
  have hKc := hK.sub (tys' := [(cC, .int), (cI, .int)]) [0, 1] rfl
  have hFc := va_free (wc := [(h0, .inr (8, [.ref qd, .ref qf, .ref qs, .ref qp, .ref qe, .ref q0, .ref q1, .ref qk, .int lt, .long fr, .int dn])), (qd, .inr (0, [.int (nI w), .int (nI b), .int wr2_6, .ref qc, .ref qi, .int (-1), .int wc2_2])), (qc, .inl (cC, w * b, .inl f2_7)), (qi, .inl (cI, w, .inl g2_8)), (q1, .inr (7, [.int 0, .int 0, .int 0, .long 0]))]) hD hS hA [2, 3, 4, 5, 1] rfl
  refine va_calli (va_runV (As := [.int 1]) (rest := []) ⟨hx, hb, hml, hown, hts⟩ (c_X8_writeRoot_1 l dC dI H.size h0 qd qf qs qp qe q0 q1 qk lt fr dn w b qc qi wr2_6 wc2_2 0 0 0 0 cC cI f2_7 g2_8 (by first | assumption | omega | decide) (by first | assumption | omega | decide) (by first | assumption | omega | decide) (by first | assumption | omega | decide) (by first | assumption | omega | decide)) (cwV 1 hts g_X8_format_X8_writeRoot_1 rfl rfl rfl (by decide +kernel) ⟨Nat.le_of_ble_eq_true rfl, Nat.le_of_ble_eq_true rfl⟩) ⟨fun a U g mk q => by obtain ⟨q0, q1, qP, qK, qD⟩ := q; exact ⟨q0, q1, qP, va_K.moved (u := U) (U := U.calling g mk a) (Vm.Alike.refl U.vm) qK, qD⟩, va_recv hKc hPc (ci := 8) (q0 := 0) rfl rfl, fun U hU hW => ⟨rfl, by rw [hU], by rw [hU]; exact hPc, va_K.moved hW.alike hKc, hDc.weaken (fun _ _ _ _ => trivial)⟩⟩ rfl rfl hl.1 rfl (lv_room (Nat.le_of_ble_eq_true rfl)) dX8_format_39 ⟨(show 0 + 0 ≤ 0 by omega), (show 0 + 0 ≤ 0 by omega)⟩) hS (fun q _ h => hFc q h) hFc (fun r_9 u t H1 locs ht hvm hw hB hz1 hk1 hS => ?_)
  obtain ⟨wr2_10, f2_11, g2_12⟩ := u
  obtain ⟨hP1, hK1, hD1⟩ := hB
  rw [ht] at hP1
  have hK1 := va_K.moved hvm.symm hK1
  try dsimp only at hw
  obtain ⟨hP, hD⟩ := va_join (wr := [(qk, .inr (7, [.int k1, .int k2, .int k3, .long k4])), (q0, .inr (7, [.int 0, .int 0, .int 0, .long 0]))]) (w1 := [(h0, .inr (8, [.ref qd, .ref qf, .ref qs, .ref qp, .ref qe, .ref q0, .ref q1, .ref qk, .int lt, .long fr, .int dn])), (qd, .inr (0, [.int (nI w), .int (nI b), .int wr2_10, .ref qc, .ref qi, .int (-1), .int wc2_2])), (qc, .inl (cC, w * b, .inl f2_11)), (qi, .inl (cI, w, .inl g2_12)), (q1, .inr (7, [.int 0, .int 0, .int 0, .long 0]))]) hP hD [2, 3, 4, 5, 1] [0, 6] rfl rfl (by decide) (by decide) hk1 hFc hP1 hD1
  have hK := (hK.sub (tys' := []) [] rfl).app hK1
  generalize H1 = H at hP hS ⊢
  have hP : va_P (dC, dI) vwCl [(qk, .inr (7, [.int k1, .int k2, .int k3, .long k4])), (q0, .inr (7, [.int 0, .int 0, .int 0, .long 0])), (h0, .inr (8, [.ref qd, .ref qf, .ref qs, .ref qp, .ref qe, .ref q0, .ref q1, .ref qk, .int lt, .long fr, .int dn])), (qd, .inr (0, [.int (nI w), .int (nI b), .int wr2_10, .ref qc, .ref qi, .int (-1), .int wc2_2])), (qc, .inl (cC, w * b, .inl f2_11)), (qi, .inl (cI, w, .inl g2_12)), (q1, .inr (7, [.int 0, .int 0, .int 0, .long 0]))] H := hP
  have hD : va_D A [(qk, .inr (7, [.int k1, .int k2, .int k3, .long k4])), (q0, .inr (7, [.int 0, .int 0, .int 0, .long 0])), (h0, .inr (8, [.ref qd, .ref qf, .ref qs, .ref qp, .ref qe, .ref q0, .ref q1, .ref qk, .int lt, .long fr, .int dn])), (qd, .inr (0, [.int (nI w), .int (nI b), .int wr2_10, .ref qc, .ref qi, .int (-1), .int wc2_2])), (qc, .inl (cC, w * b, .inl f2_11)), (qi, .inl (cI, w, .inl g2_12)), (q1, .inr (7, [.int 0, .int 0, .int 0, .long 0]))] := hD
  have hK : va_K (dC, dI) vwCl [(cC, .int), (cI, .int)] s := hK
  obtain rfl : r_9 = 1 := hw
  refine lv_pop hx hb dX8_format_42 rfl ?_
  refine lv_aload_n hx hb dX8_format_43 rfl (lv_at hl 0 rfl) ?_
  refine lv_iconst (v := 0) hx hb dX8_format_44 (by decide) ?_
  have hPc := hP.sub (ws' := [(h0, .inr (8, [.ref qd, .ref qf, .ref qs, .ref qp, .ref qe, .ref q0, .ref q1, .ref qk, .int lt, .long fr, .int dn])), (q0, .inr (7, [.int 0, .int 0, .int 0, .long 0])), (qk, .inr (7, [.int k1, .int k2, .int k3, .long k4]))]) [2, 1, 0] rfl
  have hDc := hD.sub (ws' := [(h0, .inr (8, [.ref qd, .ref qf, .ref qs, .ref qp, .ref qe, .ref q0, .ref q1, .ref qk, .int lt, .long fr, .int dn])), (q0, .inr (7, [.int 0, .int 0, .int 0, .long 0])), (qk, .inr (7, [.int k1, .int k2, .int k3, .long k4]))]) [2, 1, 0] (by decide) rfl
  have hKc := hK.sub (tys' := []) [] rfl
  have hFc := va_free (wc := [(h0, .inr (8, [.ref qd, .ref qf, .ref qs, .ref qp, .ref qe, .ref q0, .ref q1, .ref qk, .int lt, .long fr, .int dn])), (q0, .inr (7, [.int 0, .int 0, .int 0, .long 0])), (qk, .inr (7, [.int k1, .int k2, .int k3, .long k4]))]) hD hS hA [2, 1, 0] rfl
  refine va_callv (va_runV (As := [.int 0]) (rest := []) ⟨hx, hb, hml, hown, hts⟩ (c_X8_comeUp l dC dI H.size h0 qd qf qs qp qe q0 q1 qk lt fr dn 0 0 0 0 k1 k2 k3 k4) (cwV 1 hts g_X8_format_X8_comeUp rfl rfl rfl (by decide +kernel) ⟨Nat.le_of_ble_eq_true rfl, Nat.le_of_ble_eq_true rfl⟩) ⟨fun a U g mk q => by obtain ⟨q0, q1, qP, qK, qD⟩ := q; exact ⟨q0, q1, qP, va_K.moved (u := U) (U := U.calling g mk a) (Vm.Alike.refl U.vm) qK, qD⟩, va_recv hKc hPc (ci := 8) (q0 := 0) rfl rfl, fun U hU hW => ⟨rfl, by rw [hU], by rw [hU]; exact hPc, va_K.moved hW.alike hKc, hDc.weaken (fun _ _ _ _ => trivial)⟩⟩ rfl rfl hl.1 rfl (lv_room (Nat.le_of_ble_eq_true rfl)) dX8_format_45 ⟨(show 0 + 0 ≤ 0 by omega), (show 0 + 0 ≤ 0 by omega)⟩) hS (fun q _ h => hFc q h) hFc (fun u t H1 locs ht hvm hw hB hz1 hk1 hS => ?_)
  obtain ⟨hP1, hK1, hD1⟩ := hB
  rw [ht] at hP1
  have hK1 := va_K.moved hvm.symm hK1
  try dsimp only at hw
  obtain ⟨hP, hD⟩ := va_join (wr := [(qd, .inr (0, [.int (nI w), .int (nI b), .int wr2_10, .ref qc, .ref qi, .int (-1), .int wc2_2])), (qc, .inl (cC, w * b, .inl f2_11)), (qi, .inl (cI, w, .inl g2_12)), (q1, .inr (7, [.int 0, .int 0, .int 0, .long 0]))]) (w1 := []) hP hD [2, 1, 0] [3, 4, 5, 6] rfl rfl (by decide) (by decide) hk1 hFc hP1 hD1
  have hK := (hK.sub (tys' := [(cC, .int), (cI, .int)]) [0, 1] rfl).app hK1
  generalize H1 = H at hP hS ⊢
  have hP : va_P (dC, dI) vwCl [(qd, .inr (0, [.int (nI w), .int (nI b), .int wr2_10, .ref qc, .ref qi, .int (-1), .int wc2_2])), (qc, .inl (cC, w * b, .inl f2_11)), (qi, .inl (cI, w, .inl g2_12)), (q1, .inr (7, [.int 0, .int 0, .int 0, .long 0]))] H := hP
  have hD : va_D A [(qd, .inr (0, [.int (nI w), .int (nI b), .int wr2_10, .ref qc, .ref qi, .int (-1), .int wc2_2])), (qc, .inl (cC, w * b, .inl f2_11)), (qi, .inl (cI, w, .inl g2_12)), (q1, .inr (7, [.int 0, .int 0, .int 0, .long 0]))] := hD
  have hK : va_K (dC, dI) vwCl [(cC, .int), (cI, .int)] s := hK
  have hP9 := hP.sub (ws' := []) [] rfl
  have hD9 := hD.sub (ws' := []) [] (by decide) rfl
  have hK9 := hK.sub (tys' := []) [] rfl
  exact W.vret hx hb hr (fun t ht hW => ⟨⟨(), rfl, trivial, by rw [ht]; exact hP9, va_K.moved hW.alike hK9, hD9⟩, hS.F ht⟩) hS.2.2 dX8_format_48
def v_X8_recover : List Cond := .code yX8_recover cX8_recover 5 (some .int) :: ([.fieldLink RX8 77 "TwinRoots" "down" "Z", .fieldLink RX8 44 "TwinRoots" "survey" "LTwinRoots$Survey;", .fieldLink RX8 67 "TwinRoots" "rootZero" "LTwinRoots$Told;", .code yX6_findsRight cX6_findsRight 3 (some .boolean), .fieldLink RX6 40 "TwinRoots$Survey" "lineEnd" "I", .fieldLink RX6 43 "TwinRoots$Survey" "reached" "J", .fieldLink RX6 47 "TwinRoots$Survey" "keysFound" "I", .constantLong RX6 50 (-2147483649), .fieldLink RX6 52 "TwinRoots$Survey" "lastKey" "J", .fieldLink RX6 9 "TwinRoots$Survey" "disk" "LTwinRoots$Disk;", .code yX0_read cX0_read 4 (some .int), .code yX0_cellOf cX0_cellOf 4 (some .int), .fieldLink RX0 13 "TwinRoots$Disk" "blocks" "I", .fieldLink RX0 7 "TwinRoots$Disk" "words" "I", .methodLink RX0 38 yX0_cellOf, .instanceMethod yX0_cellOf, .selects RX0 yX0_cellOf yX0_cellOf, .initialized RX0, .fieldLink RX0 16 "TwinRoots$Disk" "cells" "[I", .methodLink RX6 55 yX0_read, .instanceMethod yX0_read, .selects RX0 yX0_read yX0_read, .code yX7_tell cX7_tell 6 none, .fieldLink RX7 9 "TwinRoots$Told" "epoch" "I", .fieldLink RX7 15 "TwinRoots$Told" "top" "I", .fieldLink RX7 18 "TwinRoots$Told" "keys" "I", .fieldLink RX7 21 "TwinRoots$Told" "reach" "J", .methodLink RX6 59 yX7_tell, .instanceMethod yX7_tell, .selects RX7 yX7_tell yX7_tell, .initialized RX7, .constant RX6 65 (1414677326), .methodLink RX8 176 yX6_findsRight, .instanceMethod yX6_findsRight, .selects RX6 yX6_findsRight yX6_findsRight, .initialized RX6, .fieldLink RX8 71 "TwinRoots" "rootOne" "LTwinRoots$Told;"] ++ (wsX80 ++ (wsX60 ++ (wsX00 ++ (wsX70 ++ ([]))))))
set_option maxRecDepth 20000 in
theorem g_X8_recover_X6_findsRight : GoodIn v_X8_recover (wsV RX8 176 RX6 yX6_findsRight v_X6_findsRight) := goodIn_r _ [33, 34, 35, 36, 4, 5, 6, 7, 8, 9, 10, 11, 12, 13, 14, 15, 16, 17, 18, 19, 20, 21, 22, 23, 24, 25, 26, 27, 28, 29, 30, 31, 32, 49, 50, 51, 52, 53, 54, 55, 56, 57, 58, 59, 60, 61, 62, 63, 64, 65, 66, 67, 68, 69] (by decide +kernel) (by decide +kernel)
set_option maxHeartbeats 4000000 in
set_option maxRecDepth 100000 in
/-- recover on a disk of 0: NOTHING -/
theorem c_X8_recover (l : Launch) (dC : Nat → ClassId) (dI : Nat → Nat → Nat) (sz : Nat) (h0 : Nat) (qd : Nat) (qf : Nat) (qs : Nat) (qp : Nat) (qe : Nat) (q0 : Nat) (q1 : Nat) (qk : Nat) (lt : Int32) (fr : Int64) (dn : Int32) (hf : Nat) (hm : Nat) (l1 : Nat) (l2 : Nat) (l3 : Nat) (w : Nat) (b : Nat) (qc : Nat) (qi : Nat) (wr : Int32) (wa : Int32) (wc : Int32) (s1 : Int32) (s3 : Int32) (s2 : Int64) (s4 : Int64) (e1 : Int32) (e2 : Int32) (e3 : Int32) (e4 : Int64) (d1 : Int32) (d2 : Int32) (d3 : Int32) (d4 : Int64) (cC : ClassId) (zw0 : 12 ≤ w) (zw : w ≤ 40) (zb0 : 4 ≤ b) (zb : b ≤ 64) (zwb : w * b ≤ 2560) : Met l yX8_recover v_X8_recover ({ frames := 3, cells := 0, slots := 0, locals := 68 } : Room) (va_Pc [.ref h0] (fun U => U.heap.size = sz ∧ va_P (dC, dI) vwCl [(h0, .inr (8, [.ref qd, .ref qf, .ref qs, .ref qp, .ref qe, .ref q0, .ref q1, .ref qk, .int lt, .long fr, .int dn])), (qs, .inr (6, [.ref qd, .ref hf, .ref hm, .ref l1, .ref l2, .ref l3, .int s1, .long s2, .int s3, .long s4])), (qd, .inr (0, [.int (nI w), .int (nI b), .int wr, .ref qc, .ref qi, .int wa, .int wc])), (qc, .inl (cC, w * b, .inl (fun _ => 0))), (q0, .inr (7, [.int e1, .int e2, .int e3, .long e4])), (q1, .inr (7, [.int d1, .int d2, .int d3, .long d4]))] U.heap ∧ va_K (dC, dI) vwCl [(cC, .int)] U ∧ va_D (fun _ => True) [(h0, .inr (8, [.ref qd, .ref qf, .ref qs, .ref qp, .ref qe, .ref q0, .ref q1, .ref qk, .int lt, .long fr, .int dn])), (qs, .inr (6, [.ref qd, .ref hf, .ref hm, .ref l1, .ref l2, .ref l3, .int s1, .long s2, .int s3, .long s4])), (qd, .inr (0, [.int (nI w), .int (nI b), .int wr, .ref qc, .ref qi, .int wa, .int wc])), (qc, .inl (cC, w * b, .inl (fun _ => 0))), (q0, .inr (7, [.int e1, .int e2, .int e3, .long e4])), (q1, .inr (7, [.int d1, .int d2, .int d3, .long d4]))])) (va_Qi (fun (r : Int32) (_ : Unit) => r = 4) (fun (_ : Unit) (t : State) => va_P (dC, dI) vwCl [] t.heap ∧ va_K (dC, dI) vwCl [] t ∧ va_D (va_A [(h0, .inr (8, [.ref qd, .ref qf, .ref qs, .ref qp, .ref qe, .ref q0, .ref q1, .ref qk, .int lt, .long fr, .int dn])), (qs, .inr (6, [.ref qd, .ref hf, .ref hm, .ref l1, .ref l2, .ref l3, .int s1, .long s2, .int s3, .long s4])), (qd, .inr (0, [.int (nI w), .int (nI b), .int wr, .ref qc, .ref qi, .int wa, .int wc])), (qc, .inl (cC, w * b, .inl (fun _ => 0))), (q0, .inr (7, [.int e1, .int e2, .int e3, .long e4])), (q1, .inr (7, [.int d1, .int d2, .int d3, .long d4]))] sz) []) (va_A [(h0, .inr (8, [.ref qd, .ref qf, .ref qs, .ref qp, .ref qe, .ref q0, .ref q1, .ref qk, .int lt, .long fr, .int dn])), (qs, .inr (6, [.ref qd, .ref hf, .ref hm, .ref l1, .ref l2, .ref l3, .int s1, .long s2, .int s3, .long s4])), (qd, .inr (0, [.int (nI w), .int (nI b), .int wr, .ref qc, .ref qi, .int wa, .int wc])), (qc, .inl (cC, w * b, .inl (fun _ => 0))), (q0, .inr (7, [.int e1, .int e2, .int e3, .long e4])), (q1, .inr (7, [.int d1, .int d2, .int d3, .long d4]))] sz)) 0 0 (va_A [(h0, .inr (8, [.ref qd, .ref qf, .ref qs, .ref qp, .ref qe, .ref q0, .ref q1, .ref qk, .int lt, .long fr, .int dn])), (qs, .inr (6, [.ref qd, .ref hf, .ref hm, .ref l1, .ref l2, .ref l3, .int s1, .long s2, .int s3, .long s4])), (qd, .inr (0, [.int (nI w), .int (nI b), .int wr, .ref qc, .ref qi, .int wa, .int wc])), (qc, .inl (cC, w * b, .inl (fun _ => 0))), (q0, .inr (7, [.int e1, .int e2, .int e3, .long e4])), (q1, .inr (7, [.int d1, .int d2, .int d3, .long d4]))] sz) := by
  refine Met.ofW (cc := cX8_recover) (maxL := 5) (ret := (some .int)) (by decide) rfl ?_
  intro p e s m args below meth c s₁ B hml hv
  obtain ⟨rfl, hsz, hP, hK, hD0⟩ := hv
  have hx := B.exec
  have hb := B.bytes
  have hr := B.returns
  have hts := atoms_spec (ws := v_X8_recover) B.pre
  have hown : s.vm.findClass RX8 = some m.cls := findClass_of_methodNamed B.named
  have hlocks := B.notSynchronized
  subst hsz
  have hD := hD0.self (sz := s.heap.size)
  generalize hAe : va_A [(h0, .inr (8, [.ref qd, .ref qf, .ref qs, .ref qp, .ref qe, .ref q0, .ref q1, .ref qk, .int lt, .long fr, .int dn])), (qs, .inr (6, [.ref qd, .ref hf, .ref hm, .ref l1, .ref l2, .ref l3, .int s1, .long s2, .int s3, .long s4])), (qd, .inr (0, [.int (nI w), .int (nI b), .int wr, .ref qc, .ref qi, .int wa, .int wc])), (qc, .inl (cC, w * b, .inl (fun _ => 0))), (q0, .inr (7, [.int e1, .int e2, .int e3, .long e4])), (q1, .inr (7, [.int d1, .int d2, .int d3, .long d4]))] s.heap.size = A at hD ⊢
  have hA : ∀ q : Nat, s.heap.size ≤ q → A q := fun q h => by rw [← hAe]; exact Or.inr h
  have hS : va_S A s.heap s.heap [] := va_S.rf
  have hP : va_P (dC, dI) vwCl [(h0, .inr (8, [.ref qd, .ref qf, .ref qs, .ref qp, .ref qe, .ref q0, .ref q1, .ref qk, .int lt, .long fr, .int dn])), (qs, .inr (6, [.ref qd, .ref hf, .ref hm, .ref l1, .ref l2, .ref l3, .int s1, .long s2, .int s3, .long s4])), (qd, .inr (0, [.int (nI w), .int (nI b), .int wr, .ref qc, .ref qi, .int wa, .int wc])), (qc, .inl (cC, w * b, .inl (fun _ => 0))), (q0, .inr (7, [.int e1, .int e2, .int e3, .long e4])), (q1, .inr (7, [.int d1, .int d2, .int d3, .long d4]))] s.heap := hP
  have hl := lv_entry ([.ref h0]) (n := 5) (Nat.le_of_ble_eq_true rfl)
  rw [lg_entry_eq]
  generalize (lg_sl ([.ref h0]) ++ List.replicate (5 - (lg_sl ([.ref h0])).length) Slot.unset).toArray = ls at hl ⊢
  have hl : lv_has ls 5 [(0, .ref h0)] := hl
  have k_1 := (fun _ h => List.mem_cons_of_mem _ (List.mem_append_right _ (List.mem_append_left _ h)) : ∀ w ∈ wsX80, w ∈ v_X8_recover)
  have k_2 := hts (.fieldLink RX8 77 "TwinRoots" "down" "Z") (List.mem_of_getElem? (i := 1) rfl)
  have k_3 := hts (.fieldLink RX8 44 "TwinRoots" "survey" "LTwinRoots$Survey;") (List.mem_of_getElem? (i := 2) rfl)
  have k_4 := hts (.fieldLink RX8 67 "TwinRoots" "rootZero" "LTwinRoots$Told;") (List.mem_of_getElem? (i := 3) rfl)
  have k_5 := hts (.fieldLink RX8 71 "TwinRoots" "rootOne" "LTwinRoots$Told;") (List.mem_of_getElem? (i := 37) rfl)
  refine lv_aload_n hx hb dX8_recover_0 rfl (lv_at hl 0 rfl) ?_
  refine lv_iconst (v := 1) hx hb dX8_recover_1 (by decide) ?_
  refine va_put (D := (dC, dI)) (ci := 8) (v := .int 1) (ty := .boolean) (C := RX8) (T := TX8) (N := 11) hx hb hts k_1 tyX8 tyX8_ok nmX8 hown hK hP hD hS 0 rfl rfl 10 (by decide) k_2 (fun _ h9 => h9) rfl (by decide +kernel) rfl rfl (Nat.le_of_ble_eq_true rfl) dX8_recover_2 (fun H locs hP hD hS => ?_)
  have hP : va_P (dC, dI) vwCl [(h0, .inr (8, [.ref qd, .ref qf, .ref qs, .ref qp, .ref qe, .ref q0, .ref q1, .ref qk, .int lt, .long fr, .int 1])), (qs, .inr (6, [.ref qd, .ref hf, .ref hm, .ref l1, .ref l2, .ref l3, .int s1, .long s2, .int s3, .long s4])), (qd, .inr (0, [.int (nI w), .int (nI b), .int wr, .ref qc, .ref qi, .int wa, .int wc])), (qc, .inl (cC, w * b, .inl (fun _ => 0))), (q0, .inr (7, [.int e1, .int e2, .int e3, .long e4])), (q1, .inr (7, [.int d1, .int d2, .int d3, .long d4]))] H := hP
  have hD : va_D A [(h0, .inr (8, [.ref qd, .ref qf, .ref qs, .ref qp, .ref qe, .ref q0, .ref q1, .ref qk, .int lt, .long fr, .int 1])), (qs, .inr (6, [.ref qd, .ref hf, .ref hm, .ref l1, .ref l2, .ref l3, .int s1, .long s2, .int s3, .long s4])), (qd, .inr (0, [.int (nI w), .int (nI b), .int wr, .ref qc, .ref qi, .int wa, .int wc])), (qc, .inl (cC, w * b, .inl (fun _ => 0))), (q0, .inr (7, [.int e1, .int e2, .int e3, .long e4])), (q1, .inr (7, [.int d1, .int d2, .int d3, .long d4]))] := hD
  refine lv_aload_n hx hb dX8_recover_5 rfl (lv_at hl 0 rfl) ?_
  refine va_get (D := (dC, dI)) (ci := 8) (v := .ref qs) (C := RX8) (T := TX8) (N := 11) hx hb hts k_1 hown hK hP 0 rfl rfl 2 (by decide) k_3 (fun _ h9 => h9) rfl dX8_recover_6 ?_
  refine lv_iconst (v := 0) hx hb dX8_recover_9 (by decide) ?_
  refine lv_aload_n hx hb dX8_recover_10 rfl (lv_at hl 0 rfl) ?_
  refine va_get (D := (dC, dI)) (ci := 8) (v := .ref q0) (C := RX8) (T := TX8) (N := 11) hx hb hts k_1 hown hK hP 0 rfl rfl 5 (by decide) k_4 (fun _ h9 => h9) rfl dX8_recover_11 ?_
  have hPc := hP.sub (ws' := [(qs, .inr (6, [.ref qd, .ref hf, .ref hm, .ref l1, .ref l2, .ref l3, .int s1, .long s2, .int s3, .long s4])), (qd, .inr (0, [.int (nI w), .int (nI b), .int wr, .ref qc, .ref qi, .int wa, .int wc])), (qc, .inl (cC, w * b, .inl (fun _ => 0))), (q0, .inr (7, [.int e1, .int e2, .int e3, .long e4]))]) [1, 2, 3, 4] rfl
  have hDc := hD.sub (ws' := [(qs, .inr (6, [.ref qd, .ref hf, .ref hm, .ref l1, .ref l2, .ref l3, .int s1, .long s2, .int s3, .long s4])), (qd, .inr (0, [.int (nI w), .int (nI b), .int wr, .ref qc, .ref qi, .int wa, .int wc])), (qc, .inl (cC, w * b, .inl (fun _ => 0))), (q0, .inr (7, [.int e1, .int e2, .int e3, .long e4]))]) [1, 2, 3, 4] (by decide) rfl
  have hKc := hK.sub (tys' := [(cC, .int)]) [0] rfl
  have hFc := va_free (wc := [(qs, .inr (6, [.ref qd, .ref hf, .ref hm, .ref l1, .ref l2, .ref l3, .int s1, .long s2, .int s3, .long s4])), (qd, .inr (0, [.int (nI w), .int (nI b), .int wr, .ref qc, .ref qi, .int wa, .int wc])), (qc, .inl (cC, w * b, .inl (fun _ => 0))), (q0, .inr (7, [.int e1, .int e2, .int e3, .long e4]))]) hD hS hA [1, 2, 3, 4] rfl
  refine va_calli (va_runV (As := [.int 0, .ref q0]) (rest := []) ⟨hx, hb, hml, hown, hts⟩ (c_X6_findsRight l dC dI H.size qs qd hf hm l1 l2 l3 q0 w b qc qi wr wa wc 0 s1 s3 s2 s4 e1 e2 e3 e4 cC (by first | assumption | omega | decide) (by first | assumption | omega | decide) (by first | assumption | omega | decide) (by first | assumption | omega | decide) (by first | assumption | omega | decide)) (cwV 2 hts g_X8_recover_X6_findsRight rfl rfl rfl (by decide +kernel) ⟨Nat.le_of_ble_eq_true rfl, Nat.le_of_ble_eq_true rfl⟩) ⟨fun a U g mk q => by obtain ⟨q0, q1, qP, qK, qD⟩ := q; exact ⟨q0, q1, qP, va_K.moved (u := U) (U := U.calling g mk a) (Vm.Alike.refl U.vm) qK, qD⟩, va_recv hKc hPc (ci := 6) (q0 := 0) rfl rfl, fun U hU hW => ⟨rfl, by rw [hU], by rw [hU]; exact hPc, va_K.moved hW.alike hKc, hDc.weaken (fun _ _ _ _ => trivial)⟩⟩ rfl rfl hl.1 rfl (lv_room (Nat.le_of_ble_eq_true rfl)) dX8_recover_14 ⟨(show 0 + 0 ≤ 0 by omega), (show 0 + 0 ≤ 0 by omega)⟩) hS (fun q _ h => hFc q h) hFc (fun r_1 u t H1 locs ht hvm hw hB hz1 hk1 hS => ?_)
  obtain ⟨t1_2, t3_3, t2_4, t4_5, g1_6, g2_7, g3_8, g4_9⟩ := u
  obtain ⟨hP1, hK1, hD1⟩ := hB
  rw [ht] at hP1
  have hK1 := va_K.moved hvm.symm hK1
  try dsimp only at hw
  obtain ⟨hP, hD⟩ := va_join (wr := [(h0, .inr (8, [.ref qd, .ref qf, .ref qs, .ref qp, .ref qe, .ref q0, .ref q1, .ref qk, .int lt, .long fr, .int 1])), (q1, .inr (7, [.int d1, .int d2, .int d3, .long d4]))]) (w1 := [(qs, .inr (6, [.ref qd, .ref hf, .ref hm, .ref l1, .ref l2, .ref l3, .int t1_2, .long t2_4, .int t3_3, .long t4_5])), (qd, .inr (0, [.int (nI w), .int (nI b), .int wr, .ref qc, .ref qi, .int wa, .int wc])), (qc, .inl (cC, w * b, .inl (fun _ => 0))), (q0, .inr (7, [.int g1_6, .int g2_7, .int g3_8, .long g4_9]))]) hP hD [1, 2, 3, 4] [0, 5] rfl rfl (by decide) (by decide) hk1 hFc hP1 hD1
  have hK := (hK.sub (tys' := []) [] rfl).app hK1
  generalize H1 = H at hP hS ⊢
  have hP : va_P (dC, dI) vwCl [(h0, .inr (8, [.ref qd, .ref qf, .ref qs, .ref qp, .ref qe, .ref q0, .ref q1, .ref qk, .int lt, .long fr, .int 1])), (q1, .inr (7, [.int d1, .int d2, .int d3, .long d4])), (qs, .inr (6, [.ref qd, .ref hf, .ref hm, .ref l1, .ref l2, .ref l3, .int t1_2, .long t2_4, .int t3_3, .long t4_5])), (qd, .inr (0, [.int (nI w), .int (nI b), .int wr, .ref qc, .ref qi, .int wa, .int wc])), (qc, .inl (cC, w * b, .inl (fun _ => 0))), (q0, .inr (7, [.int g1_6, .int g2_7, .int g3_8, .long g4_9]))] H := hP
  have hD : va_D A [(h0, .inr (8, [.ref qd, .ref qf, .ref qs, .ref qp, .ref qe, .ref q0, .ref q1, .ref qk, .int lt, .long fr, .int 1])), (q1, .inr (7, [.int d1, .int d2, .int d3, .long d4])), (qs, .inr (6, [.ref qd, .ref hf, .ref hm, .ref l1, .ref l2, .ref l3, .int t1_2, .long t2_4, .int t3_3, .long t4_5])), (qd, .inr (0, [.int (nI w), .int (nI b), .int wr, .ref qc, .ref qi, .int wa, .int wc])), (qc, .inl (cC, w * b, .inl (fun _ => 0))), (q0, .inr (7, [.int g1_6, .int g2_7, .int g3_8, .long g4_9]))] := hD
  have hK : va_K (dC, dI) vwCl [(cC, .int)] s := hK
  obtain rfl : r_1 = 0 := hw
  refine lv_istore_n (lv' := [(1, .int 0), (0, .ref h0)]) hx hb dX8_recover_17 rfl hl (by decide) rfl (fun ls hl => ?_)
  refine lv_aload_n hx hb dX8_recover_18 rfl (lv_at hl 1 rfl) ?_
  refine va_get (D := (dC, dI)) (ci := 8) (v := .ref qs) (C := RX8) (T := TX8) (N := 11) hx hb hts k_1 hown hK hP 0 rfl rfl 2 (by decide) k_3 (fun _ h9 => h9) rfl dX8_recover_19 ?_
  refine lv_iconst (v := 1) hx hb dX8_recover_22 (by decide) ?_
  refine lv_aload_n hx hb dX8_recover_23 rfl (lv_at hl 1 rfl) ?_
  refine va_get (D := (dC, dI)) (ci := 8) (v := .ref q1) (C := RX8) (T := TX8) (N := 11) hx hb hts k_1 hown hK hP 0 rfl rfl 6 (by decide) k_5 (fun _ h9 => h9) rfl dX8_recover_24 ?_
  have hPc := hP.sub (ws' := [(qs, .inr (6, [.ref qd, .ref hf, .ref hm, .ref l1, .ref l2, .ref l3, .int t1_2, .long t2_4, .int t3_3, .long t4_5])), (qd, .inr (0, [.int (nI w), .int (nI b), .int wr, .ref qc, .ref qi, .int wa, .int wc])), (qc, .inl (cC, w * b, .inl (fun _ => 0))), (q1, .inr (7, [.int d1, .int d2, .int d3, .long d4]))]) [2, 3, 4, 1] rfl
  have hDc := hD.sub (ws' := [(qs, .inr (6, [.ref qd, .ref hf, .ref hm, .ref l1, .ref l2, .ref l3, .int t1_2, .long t2_4, .int t3_3, .long t4_5])), (qd, .inr (0, [.int (nI w), .int (nI b), .int wr, .ref qc, .ref qi, .int wa, .int wc])), (qc, .inl (cC, w * b, .inl (fun _ => 0))), (q1, .inr (7, [.int d1, .int d2, .int d3, .long d4]))]) [2, 3, 4, 1] (by decide) rfl
  have hKc := hK.sub (tys' := [(cC, .int)]) [0] rfl
  have hFc := va_free (wc := [(qs, .inr (6, [.ref qd, .ref hf, .ref hm, .ref l1, .ref l2, .ref l3, .int t1_2, .long t2_4, .int t3_3, .long t4_5])), (qd, .inr (0, [.int (nI w), .int (nI b), .int wr, .ref qc, .ref qi, .int wa, .int wc])), (qc, .inl (cC, w * b, .inl (fun _ => 0))), (q1, .inr (7, [.int d1, .int d2, .int d3, .long d4]))]) hD hS hA [2, 3, 4, 1] rfl
  refine va_calli (va_runV (As := [.int 1, .ref q1]) (rest := []) ⟨hx, hb, hml, hown, hts⟩ (c_X6_findsRight l dC dI H.size qs qd hf hm l1 l2 l3 q1 w b qc qi wr wa wc 1 t1_2 t3_3 t2_4 t4_5 d1 d2 d3 d4 cC (by first | assumption | omega | decide) (by first | assumption | omega | decide) (by first | assumption | omega | decide) (by first | assumption | omega | decide) (by first | assumption | omega | decide)) (cwV 2 hts g_X8_recover_X6_findsRight rfl rfl rfl (by decide +kernel) ⟨Nat.le_of_ble_eq_true rfl, Nat.le_of_ble_eq_true rfl⟩) ⟨fun a U g mk q => by obtain ⟨q0, q1, qP, qK, qD⟩ := q; exact ⟨q0, q1, qP, va_K.moved (u := U) (U := U.calling g mk a) (Vm.Alike.refl U.vm) qK, qD⟩, va_recv hKc hPc (ci := 6) (q0 := 0) rfl rfl, fun U hU hW => ⟨rfl, by rw [hU], by rw [hU]; exact hPc, va_K.moved hW.alike hKc, hDc.weaken (fun _ _ _ _ => trivial)⟩⟩ rfl rfl hl.1 rfl (lv_room (Nat.le_of_ble_eq_true rfl)) dX8_recover_27 ⟨(show 0 + 0 ≤ 0 by omega), (show 0 + 0 ≤ 0 by omega)⟩) hS (fun q _ h => hFc q h) hFc (fun r_10 u t H1 locs ht hvm hw hB hz1 hk1 hS => ?_)
  obtain ⟨t1_11, t3_12, t2_13, t4_14, g1_15, g2_16, g3_17, g4_18⟩ := u
  obtain ⟨hP1, hK1, hD1⟩ := hB
  rw [ht] at hP1
  have hK1 := va_K.moved hvm.symm hK1
  try dsimp only at hw
  obtain ⟨hP, hD⟩ := va_join (wr := [(h0, .inr (8, [.ref qd, .ref qf, .ref qs, .ref qp, .ref qe, .ref q0, .ref q1, .ref qk, .int lt, .long fr, .int 1])), (q0, .inr (7, [.int g1_6, .int g2_7, .int g3_8, .long g4_9]))]) (w1 := [(qs, .inr (6, [.ref qd, .ref hf, .ref hm, .ref l1, .ref l2, .ref l3, .int t1_11, .long t2_13, .int t3_12, .long t4_14])), (qd, .inr (0, [.int (nI w), .int (nI b), .int wr, .ref qc, .ref qi, .int wa, .int wc])), (qc, .inl (cC, w * b, .inl (fun _ => 0))), (q1, .inr (7, [.int g1_15, .int g2_16, .int g3_17, .long g4_18]))]) hP hD [2, 3, 4, 1] [0, 5] rfl rfl (by decide) (by decide) hk1 hFc hP1 hD1
  have hK := (hK.sub (tys' := []) [] rfl).app hK1
  generalize H1 = H at hP hS ⊢
  have hP : va_P (dC, dI) vwCl [(h0, .inr (8, [.ref qd, .ref qf, .ref qs, .ref qp, .ref qe, .ref q0, .ref q1, .ref qk, .int lt, .long fr, .int 1])), (q0, .inr (7, [.int g1_6, .int g2_7, .int g3_8, .long g4_9])), (qs, .inr (6, [.ref qd, .ref hf, .ref hm, .ref l1, .ref l2, .ref l3, .int t1_11, .long t2_13, .int t3_12, .long t4_14])), (qd, .inr (0, [.int (nI w), .int (nI b), .int wr, .ref qc, .ref qi, .int wa, .int wc])), (qc, .inl (cC, w * b, .inl (fun _ => 0))), (q1, .inr (7, [.int g1_15, .int g2_16, .int g3_17, .long g4_18]))] H := hP
  have hD : va_D A [(h0, .inr (8, [.ref qd, .ref qf, .ref qs, .ref qp, .ref qe, .ref q0, .ref q1, .ref qk, .int lt, .long fr, .int 1])), (q0, .inr (7, [.int g1_6, .int g2_7, .int g3_8, .long g4_9])), (qs, .inr (6, [.ref qd, .ref hf, .ref hm, .ref l1, .ref l2, .ref l3, .int t1_11, .long t2_13, .int t3_12, .long t4_14])), (qd, .inr (0, [.int (nI w), .int (nI b), .int wr, .ref qc, .ref qi, .int wa, .int wc])), (qc, .inl (cC, w * b, .inl (fun _ => 0))), (q1, .inr (7, [.int g1_15, .int g2_16, .int g3_17, .long g4_18]))] := hD
  have hK : va_K (dC, dI) vwCl [(cC, .int)] s := hK
  obtain rfl : r_10 = 0 := hw
  refine lv_istore_n (lv' := [(2, .int 0), (1, .int 0), (0, .ref h0)]) hx hb dX8_recover_30 rfl hl (by decide) rfl (fun ls hl => ?_)
  refine lv_iload_n hx hb dX8_recover_31 rfl (lv_at hl 1 rfl) ?_
  refine lv_if_ne (tgt := 41) hx hb dX8_recover_32 (by decide) (fun c_19 => ?_) (fun c_19 => ?_)
  · exact absurd (by decide) c_19
  refine lv_iload_n hx hb dX8_recover_35 rfl (lv_at hl 0 rfl) ?_
  refine lv_if_ne (tgt := 41) hx hb dX8_recover_36 (by decide) (fun c_20 => ?_) (fun c_20 => ?_)
  · exact absurd (by decide) c_20
  refine lv_iconst (v := 4) hx hb dX8_recover_39 (by decide) ?_
  have hP9 := hP.sub (ws' := []) [] rfl
  have hD9 := hD.sub (ws' := []) [] (by decide) rfl
  have hK9 := hK.sub (tys' := []) [] rfl
  exact W.iret (v := 4) hx hb hr (fun t ht hW => ⟨⟨4, (), rfl, rfl, by rw [ht]; exact hP9, va_K.moved hW.alike hK9, hD9⟩, hS.F ht⟩) hS.2.2 dX8_recover_40

theorem dX1_init_0 : decode cX1_init 0 = .ok (.aload_n 0, 1) := by decide +kernel
theorem dX1_init_1 : decode cX1_init 1 = .ok (.invokespecial 3, 3) := by decide +kernel
theorem dX1_init_4 : decode cX1_init 4 = .ok (.aload_n 0, 1) := by decide +kernel
theorem dX1_init_5 : decode cX1_init 5 = .ok (.aload_n 2, 1) := by decide +kernel
theorem dX1_init_6 : decode cX1_init 6 = .ok (.putfield 9, 3) := by decide +kernel
theorem dX1_init_9 : decode cX1_init 9 = .ok (.aload_n 0, 1) := by decide +kernel
theorem dX1_init_10 : decode cX1_init 10 = .ok (.aload_n 3, 1) := by decide +kernel
theorem dX1_init_11 : decode cX1_init 11 = .ok (.putfield 15, 3) := by decide +kernel
theorem dX1_init_14 : decode cX1_init 14 = .ok (.aload_n 0, 1) := by decide +kernel
theorem dX1_init_15 : decode cX1_init 15 = .ok (.aload 4, 2) := by decide +kernel
theorem dX1_init_17 : decode cX1_init 17 = .ok (.putfield 19, 3) := by decide +kernel
theorem dX1_init_20 : decode cX1_init 20 = .ok (.aload_n 0, 1) := by decide +kernel
theorem dX1_init_21 : decode cX1_init 21 = .ok (.bipush 12, 2) := by decide +kernel
theorem dX1_init_23 : decode cX1_init 23 = .ok (.newarray .int, 2) := by decide +kernel
theorem dX1_init_25 : decode cX1_init 25 = .ok (.putfield 23, 3) := by decide +kernel
theorem dX1_init_28 : decode cX1_init 28 = .ok (.aload_n 0, 1) := by decide +kernel
theorem dX1_init_29 : decode cX1_init 29 = .ok (.bipush 12, 2) := by decide +kernel
theorem dX1_init_31 : decode cX1_init 31 = .ok (.newarray .int, 2) := by decide +kernel
theorem dX1_init_33 : decode cX1_init 33 = .ok (.putfield 27, 3) := by decide +kernel
theorem dX1_init_36 : decode cX1_init 36 = .ok (.aload_n 0, 1) := by decide +kernel
theorem dX1_init_37 : decode cX1_init 37 = .ok (.new 30, 3) := by decide +kernel
theorem dX1_init_40 : decode cX1_init 40 = .ok (.dup, 1) := by decide +kernel
theorem dX1_init_41 : decode cX1_init 41 = .ok (.iload_n 1, 1) := by decide +kernel
theorem dX1_init_42 : decode cX1_init 42 = .ok (.invokespecial 32, 3) := by decide +kernel
theorem dX1_init_45 : decode cX1_init 45 = .ok (.putfield 35, 3) := by decide +kernel
theorem dX1_init_48 : decode cX1_init 48 = .ok (.aload_n 0, 1) := by decide +kernel
theorem dX1_init_49 : decode cX1_init 49 = .ok (.new 30, 3) := by decide +kernel
theorem dX1_init_52 : decode cX1_init 52 = .ok (.dup, 1) := by decide +kernel
theorem dX1_init_53 : decode cX1_init 53 = .ok (.iload_n 1, 1) := by decide +kernel
theorem dX1_init_54 : decode cX1_init 54 = .ok (.invokespecial 32, 3) := by decide +kernel
theorem dX1_init_57 : decode cX1_init 57 = .ok (.putfield 39, 3) := by decide +kernel
theorem dX1_init_60 : decode cX1_init 60 = .ok (.aload_n 0, 1) := by decide +kernel
theorem dX1_init_61 : decode cX1_init 61 = .ok (.new 30, 3) := by decide +kernel
theorem dX1_init_64 : decode cX1_init 64 = .ok (.dup, 1) := by decide +kernel
theorem dX1_init_65 : decode cX1_init 65 = .ok (.iload_n 1, 1) := by decide +kernel
theorem dX1_init_66 : decode cX1_init 66 = .ok (.invokespecial 32, 3) := by decide +kernel
theorem dX1_init_69 : decode cX1_init 69 = .ok (.putfield 42, 3) := by decide +kernel
theorem dX1_init_72 : decode cX1_init 72 = .ok (.return_, 1) := by decide +kernel
theorem dX2_init_0 : decode cX2_init 0 = .ok (.aload_n 0, 1) := by decide +kernel
theorem dX2_init_1 : decode cX2_init 1 = .ok (.invokespecial 3, 3) := by decide +kernel
theorem dX2_init_4 : decode cX2_init 4 = .ok (.aload_n 0, 1) := by decide +kernel
theorem dX2_init_5 : decode cX2_init 5 = .ok (.iload_n 2, 1) := by decide +kernel
theorem dX2_init_6 : decode cX2_init 6 = .ok (.anewarray 9, 3) := by decide +kernel
theorem dX2_init_9 : decode cX2_init 9 = .ok (.putfield 11, 3) := by decide +kernel
theorem dX2_init_12 : decode cX2_init 12 = .ok (.iconst 0, 1) := by decide +kernel
theorem dX2_init_13 : decode cX2_init 13 = .ok (.istore_n 3, 1) := by decide +kernel
theorem dX2_init_14 : decode cX2_init 14 = .ok (.iload_n 3, 1) := by decide +kernel
theorem dX2_init_15 : decode cX2_init 15 = .ok (.aload_n 0, 1) := by decide +kernel
theorem dX2_init_16 : decode cX2_init 16 = .ok (.getfield 11, 3) := by decide +kernel
theorem dX2_init_19 : decode cX2_init 19 = .ok (.arraylength, 1) := by decide +kernel
theorem dX2_init_20 : decode cX2_init 20 = .ok (.if_icmp .ge 23, 3) := by decide +kernel
theorem dX2_init_23 : decode cX2_init 23 = .ok (.aload_n 0, 1) := by decide +kernel
theorem dX2_init_24 : decode cX2_init 24 = .ok (.getfield 11, 3) := by decide +kernel
theorem dX2_init_27 : decode cX2_init 27 = .ok (.iload_n 3, 1) := by decide +kernel
theorem dX2_init_28 : decode cX2_init 28 = .ok (.new 9, 3) := by decide +kernel
theorem dX2_init_31 : decode cX2_init 31 = .ok (.dup, 1) := by decide +kernel
theorem dX2_init_32 : decode cX2_init 32 = .ok (.iload_n 1, 1) := by decide +kernel
theorem dX2_init_33 : decode cX2_init 33 = .ok (.invokespecial 17, 3) := by decide +kernel
theorem dX2_init_36 : decode cX2_init 36 = .ok (.aastore, 1) := by decide +kernel
theorem dX2_init_37 : decode cX2_init 37 = .ok (.iinc 3 1, 3) := by decide +kernel
theorem dX2_init_40 : decode cX2_init 40 = .ok (.goto (-26), 3) := by decide +kernel
theorem dX2_init_43 : decode cX2_init 43 = .ok (.aload_n 0, 1) := by decide +kernel
theorem dX2_init_44 : decode cX2_init 44 = .ok (.new 9, 3) := by decide +kernel
theorem dX2_init_47 : decode cX2_init 47 = .ok (.dup, 1) := by decide +kernel
theorem dX2_init_48 : decode cX2_init 48 = .ok (.iconst 0, 1) := by decide +kernel
theorem dX2_init_49 : decode cX2_init 49 = .ok (.invokespecial 17, 3) := by decide +kernel
theorem dX2_init_52 : decode cX2_init 52 = .ok (.putfield 20, 3) := by decide +kernel
theorem dX2_init_55 : decode cX2_init 55 = .ok (.aload_n 0, 1) := by decide +kernel
theorem dX2_init_56 : decode cX2_init 56 = .ok (.iload_n 2, 1) := by decide +kernel
theorem dX2_init_57 : decode cX2_init 57 = .ok (.newarray .int, 2) := by decide +kernel
theorem dX2_init_59 : decode cX2_init 59 = .ok (.putfield 24, 3) := by decide +kernel
theorem dX2_init_62 : decode cX2_init 62 = .ok (.return_, 1) := by decide +kernel
theorem dX3_init_0 : decode cX3_init 0 = .ok (.aload_n 0, 1) := by decide +kernel
theorem dX3_init_1 : decode cX3_init 1 = .ok (.invokespecial 1, 3) := by decide +kernel
theorem dX3_init_4 : decode cX3_init 4 = .ok (.aload_n 0, 1) := by decide +kernel
theorem dX3_init_5 : decode cX3_init 5 = .ok (.iload_n 1, 1) := by decide +kernel
theorem dX3_init_6 : decode cX3_init 6 = .ok (.iconst 3, 1) := by decide +kernel
theorem dX3_init_7 : decode cX3_init 7 = .ok (.isub, 1) := by decide +kernel
theorem dX3_init_8 : decode cX3_init 8 = .ok (.iconst 2, 1) := by decide +kernel
theorem dX3_init_9 : decode cX3_init 9 = .ok (.idiv, 1) := by decide +kernel
theorem dX3_init_10 : decode cX3_init 10 = .ok (.putfield 7, 3) := by decide +kernel
theorem dX3_init_13 : decode cX3_init 13 = .ok (.aload_n 0, 1) := by decide +kernel
theorem dX3_init_14 : decode cX3_init 14 = .ok (.iload_n 1, 1) := by decide +kernel
theorem dX3_init_15 : decode cX3_init 15 = .ok (.iconst 2, 1) := by decide +kernel
theorem dX3_init_16 : decode cX3_init 16 = .ok (.isub, 1) := by decide +kernel
theorem dX3_init_17 : decode cX3_init 17 = .ok (.iconst 2, 1) := by decide +kernel
theorem dX3_init_18 : decode cX3_init 18 = .ok (.idiv, 1) := by decide +kernel
theorem dX3_init_19 : decode cX3_init 19 = .ok (.putfield 13, 3) := by decide +kernel
theorem dX3_init_22 : decode cX3_init 22 = .ok (.return_, 1) := by decide +kernel
theorem dX4_init_0 : decode cX4_init 0 = .ok (.aload_n 0, 1) := by decide +kernel
theorem dX4_init_1 : decode cX4_init 1 = .ok (.invokespecial 3, 3) := by decide +kernel
theorem dX4_init_4 : decode cX4_init 4 = .ok (.aload_n 0, 1) := by decide +kernel
theorem dX4_init_5 : decode cX4_init 5 = .ok (.iconst 1, 1) := by decide +kernel
theorem dX4_init_6 : decode cX4_init 6 = .ok (.putfield 9, 3) := by decide +kernel
theorem dX4_init_9 : decode cX4_init 9 = .ok (.aload_n 0, 1) := by decide +kernel
theorem dX4_init_10 : decode cX4_init 10 = .ok (.iload_n 1, 1) := by decide +kernel
theorem dX4_init_11 : decode cX4_init 11 = .ok (.newarray .int, 2) := by decide +kernel
theorem dX4_init_13 : decode cX4_init 13 = .ok (.putfield 15, 3) := by decide +kernel
theorem dX4_init_16 : decode cX4_init 16 = .ok (.aload_n 0, 1) := by decide +kernel
theorem dX4_init_17 : decode cX4_init 17 = .ok (.iload_n 1, 1) := by decide +kernel
theorem dX4_init_18 : decode cX4_init 18 = .ok (.newarray .int, 2) := by decide +kernel
theorem dX4_init_20 : decode cX4_init 20 = .ok (.putfield 19, 3) := by decide +kernel
theorem dX4_init_23 : decode cX4_init 23 = .ok (.return_, 1) := by decide +kernel
theorem dX5_init_0 : decode cX5_init 0 = .ok (.aload_n 0, 1) := by decide +kernel
theorem dX5_init_1 : decode cX5_init 1 = .ok (.invokespecial 3, 3) := by decide +kernel
theorem dX5_init_4 : decode cX5_init 4 = .ok (.aload_n 0, 1) := by decide +kernel
theorem dX5_init_5 : decode cX5_init 5 = .ok (.bipush 25, 2) := by decide +kernel
theorem dX5_init_7 : decode cX5_init 7 = .ok (.anewarray 9, 3) := by decide +kernel
theorem dX5_init_10 : decode cX5_init 10 = .ok (.putfield 11, 3) := by decide +kernel
theorem dX5_init_13 : decode cX5_init 13 = .ok (.iconst 0, 1) := by decide +kernel
theorem dX5_init_14 : decode cX5_init 14 = .ok (.istore_n 2, 1) := by decide +kernel
theorem dX5_init_15 : decode cX5_init 15 = .ok (.iload_n 2, 1) := by decide +kernel
theorem dX5_init_16 : decode cX5_init 16 = .ok (.aload_n 0, 1) := by decide +kernel
theorem dX5_init_17 : decode cX5_init 17 = .ok (.getfield 11, 3) := by decide +kernel
theorem dX5_init_20 : decode cX5_init 20 = .ok (.arraylength, 1) := by decide +kernel
theorem dX5_init_21 : decode cX5_init 21 = .ok (.if_icmp .ge 23, 3) := by decide +kernel
theorem dX5_init_24 : decode cX5_init 24 = .ok (.aload_n 0, 1) := by decide +kernel
theorem dX5_init_25 : decode cX5_init 25 = .ok (.getfield 11, 3) := by decide +kernel
theorem dX5_init_28 : decode cX5_init 28 = .ok (.iload_n 2, 1) := by decide +kernel
theorem dX5_init_29 : decode cX5_init 29 = .ok (.new 9, 3) := by decide +kernel
theorem dX5_init_32 : decode cX5_init 32 = .ok (.dup, 1) := by decide +kernel
theorem dX5_init_33 : decode cX5_init 33 = .ok (.iload_n 1, 1) := by decide +kernel
theorem dX5_init_34 : decode cX5_init 34 = .ok (.invokespecial 17, 3) := by decide +kernel
theorem dX5_init_37 : decode cX5_init 37 = .ok (.aastore, 1) := by decide +kernel
theorem dX5_init_38 : decode cX5_init 38 = .ok (.iinc 2 1, 3) := by decide +kernel
theorem dX5_init_41 : decode cX5_init 41 = .ok (.goto (-26), 3) := by decide +kernel
theorem dX5_init_44 : decode cX5_init 44 = .ok (.aload_n 0, 1) := by decide +kernel
theorem dX5_init_45 : decode cX5_init 45 = .ok (.aload_n 0, 1) := by decide +kernel
theorem dX5_init_46 : decode cX5_init 46 = .ok (.getfield 11, 3) := by decide +kernel
theorem dX5_init_49 : decode cX5_init 49 = .ok (.arraylength, 1) := by decide +kernel
theorem dX5_init_50 : decode cX5_init 50 = .ok (.newarray .int, 2) := by decide +kernel
theorem dX5_init_52 : decode cX5_init 52 = .ok (.putfield 20, 3) := by decide +kernel
theorem dX5_init_55 : decode cX5_init 55 = .ok (.aload_n 0, 1) := by decide +kernel
theorem dX5_init_56 : decode cX5_init 56 = .ok (.new 9, 3) := by decide +kernel
theorem dX5_init_59 : decode cX5_init 59 = .ok (.dup, 1) := by decide +kernel
theorem dX5_init_60 : decode cX5_init 60 = .ok (.iconst 0, 1) := by decide +kernel
theorem dX5_init_61 : decode cX5_init 61 = .ok (.invokespecial 17, 3) := by decide +kernel
theorem dX5_init_64 : decode cX5_init 64 = .ok (.putfield 24, 3) := by decide +kernel
theorem dX5_init_67 : decode cX5_init 67 = .ok (.return_, 1) := by decide +kernel
theorem dX6_init_0 : decode cX6_init 0 = .ok (.aload_n 0, 1) := by decide +kernel
theorem dX6_init_1 : decode cX6_init 1 = .ok (.invokespecial 3, 3) := by decide +kernel
theorem dX6_init_4 : decode cX6_init 4 = .ok (.aload_n 0, 1) := by decide +kernel
theorem dX6_init_5 : decode cX6_init 5 = .ok (.aload_n 1, 1) := by decide +kernel
theorem dX6_init_6 : decode cX6_init 6 = .ok (.putfield 9, 3) := by decide +kernel
theorem dX6_init_9 : decode cX6_init 9 = .ok (.aload_n 0, 1) := by decide +kernel
theorem dX6_init_10 : decode cX6_init 10 = .ok (.aload_n 2, 1) := by decide +kernel
theorem dX6_init_11 : decode cX6_init 11 = .ok (.putfield 15, 3) := by decide +kernel
theorem dX6_init_14 : decode cX6_init 14 = .ok (.aload_n 0, 1) := by decide +kernel
theorem dX6_init_15 : decode cX6_init 15 = .ok (.aload_n 3, 1) := by decide +kernel
theorem dX6_init_16 : decode cX6_init 16 = .ok (.putfield 19, 3) := by decide +kernel
theorem dX6_init_19 : decode cX6_init 19 = .ok (.aload_n 0, 1) := by decide +kernel
theorem dX6_init_20 : decode cX6_init 20 = .ok (.aload_n 1, 1) := by decide +kernel
theorem dX6_init_21 : decode cX6_init 21 = .ok (.getfield 23, 3) := by decide +kernel
theorem dX6_init_24 : decode cX6_init 24 = .ok (.newarray .int, 2) := by decide +kernel
theorem dX6_init_26 : decode cX6_init 26 = .ok (.putfield 29, 3) := by decide +kernel
theorem dX6_init_29 : decode cX6_init 29 = .ok (.aload_n 0, 1) := by decide +kernel
theorem dX6_init_30 : decode cX6_init 30 = .ok (.aload_n 1, 1) := by decide +kernel
theorem dX6_init_31 : decode cX6_init 31 = .ok (.getfield 23, 3) := by decide +kernel
theorem dX6_init_34 : decode cX6_init 34 = .ok (.newarray .long, 2) := by decide +kernel
theorem dX6_init_36 : decode cX6_init 36 = .ok (.putfield 33, 3) := by decide +kernel
theorem dX6_init_39 : decode cX6_init 39 = .ok (.aload_n 0, 1) := by decide +kernel
theorem dX6_init_40 : decode cX6_init 40 = .ok (.aload_n 1, 1) := by decide +kernel
theorem dX6_init_41 : decode cX6_init 41 = .ok (.getfield 23, 3) := by decide +kernel
theorem dX6_init_44 : decode cX6_init 44 = .ok (.newarray .long, 2) := by decide +kernel
theorem dX6_init_46 : decode cX6_init 46 = .ok (.putfield 37, 3) := by decide +kernel
theorem dX6_init_49 : decode cX6_init 49 = .ok (.return_, 1) := by decide +kernel
theorem dX7_init_0 : decode cX7_init 0 = .ok (.aload_n 0, 1) := by decide +kernel
theorem dX7_init_1 : decode cX7_init 1 = .ok (.invokespecial 3, 3) := by decide +kernel
theorem dX7_init_4 : decode cX7_init 4 = .ok (.return_, 1) := by decide +kernel
def v_X4_init : List Cond := .code yX4_init cX4_init 2 none :: ([.code objectInit ⟨#[0xb1]⟩ 1 none, .methodLink RX4 3 objectInit, .instanceMethod objectInit, .fieldLink RX4 9 "TwinRoots$Page" "leaf" "Z", .arrayClass .int, .fieldLink RX4 15 "TwinRoots$Page" "keys" "[I", .fieldLink RX4 19 "TwinRoots$Page" "refs" "[I"] ++ (wsX40 ++ ([])))
set_option maxHeartbeats 4000000 in
set_option maxRecDepth 100000 in
/-- Page(n) -/
theorem c_X4_init (l : Launch) (dC : Nat → ClassId) (dI : Nat → Nat → Nat) (sz : Nat) (h0 : Nat) (n : Nat) (zn : n ≤ 40) : Met l yX4_init v_X4_init ({ frames := 1, cells := 2, slots := 80, locals := 12 } : Room) (va_Pc [.ref h0, .int (nI n)] (fun U => U.heap.size = sz ∧ va_P (dC, dI) vwCl [(h0, .inr (4, [.int 0, .int 0, .null, .null]))] U.heap ∧ va_K (dC, dI) vwCl [] U ∧ va_D (fun _ => True) [(h0, .inr (4, [.int 0, .int 0, .null, .null]))])) (va_Qv (fun (u : Nat × Nat × ClassId × ClassId) => match u with | (q1, q2, cK, cR) => True) (fun (u : Nat × Nat × ClassId × ClassId) (t : State) => match u with | (q1, q2, cK, cR) => va_P (dC, dI) vwCl [(h0, .inr (4, [.int 1, .int 0, .ref q1, .ref q2])), (q1, .inl (cK, n, .inl (fun _ => 0))), (q2, .inl (cR, n, .inl (fun _ => 0)))] t.heap ∧ va_K (dC, dI) vwCl [(cK, .int), (cR, .int)] t ∧ va_D (va_A [(h0, .inr (4, [.int 0, .int 0, .null, .null]))] sz) [(h0, .inr (4, [.int 1, .int 0, .ref q1, .ref q2])), (q1, .inl (cK, n, .inl (fun _ => 0))), (q2, .inl (cR, n, .inl (fun _ => 0)))]) (va_A [(h0, .inr (4, [.int 0, .int 0, .null, .null]))] sz)) 2 80 (va_A [(h0, .inr (4, [.int 0, .int 0, .null, .null]))] sz) := by
  refine Met.ofW (cc := cX4_init) (maxL := 2) (ret := none) (by decide) rfl ?_
  intro p e s m args below meth c s₁ B hml hv
  obtain ⟨rfl, hsz, hP, hK, hD0⟩ := hv
  have hx := B.exec
  have hb := B.bytes
  have hr := B.returns
  have hts := atoms_spec (ws := v_X4_init) B.pre
  have hown : s.vm.findClass RX4 = some m.cls := findClass_of_methodNamed B.named
  have hlocks := B.notSynchronized
  have hin : meth.name = "<init>" := (name_of_methodNamed B.named B.method).1
  subst hsz
  have hD := hD0.self (sz := s.heap.size)
  generalize hAe : va_A [(h0, .inr (4, [.int 0, .int 0, .null, .null]))] s.heap.size = A at hD ⊢
  have hA : ∀ q : Nat, s.heap.size ≤ q → A q := fun q h => by rw [← hAe]; exact Or.inr h
  have hS : va_S A s.heap s.heap [] := va_S.rf
  have hP : va_P (dC, dI) vwCl [(h0, .inr (4, [.int 0, .int 0, .null, .null]))] s.heap := hP
  have hl := lv_entry ([.ref h0, .int (nI n)]) (n := 2) (Nat.le_of_ble_eq_true rfl)
  rw [lg_entry_eq]
  generalize (lg_sl ([.ref h0, .int (nI n)]) ++ List.replicate (2 - (lg_sl ([.ref h0, .int (nI n)])).length) Slot.unset).toArray = ls at hl ⊢
  have hl : lv_has ls 2 [(0, .ref h0), (1, .int (nI n))] := hl
  have k_1 := hts (.code objectInit ⟨#[0xb1]⟩ 1 none) (List.mem_of_getElem? (i := 1) rfl)
  have k_2 := hts (.methodLink RX4 3 objectInit) (List.mem_of_getElem? (i := 2) rfl)
  have k_3 := hts (.instanceMethod objectInit) (List.mem_of_getElem? (i := 3) rfl)
  have k_4 := (fun _ h => List.mem_cons_of_mem _ (List.mem_append_right _ (List.mem_append_left _ h)) : ∀ w ∈ wsX40, w ∈ v_X4_init)
  have k_5 := hts (.fieldLink RX4 9 "TwinRoots$Page" "leaf" "Z") (List.mem_of_getElem? (i := 4) rfl)
  have k_6 := hts (.arrayClass .int) (List.mem_of_getElem? (i := 5) rfl)
  have k_7 := hts (.fieldLink RX4 15 "TwinRoots$Page" "keys" "[I") (List.mem_of_getElem? (i := 6) rfl)
  have k_8 := hts (.fieldLink RX4 19 "TwinRoots$Page" "refs" "[I") (List.mem_of_getElem? (i := 7) rfl)
  refine lv_aload_n hx hb dX4_init_0 rfl (lv_at hl 0 rfl) ?_
  refine W.objInit hx hb hown k_2 k_3 k_1 rfl (by rw [hml]; exact hl.1) rfl dX4_init_1 (Nat.le_of_ble_eq_true rfl) (Nat.le_of_ble_eq_true rfl) ?_
  refine W.eq (g2 := F0 m 4 ls []) rfl ?_
  refine lv_aload_n hx hb dX4_init_4 rfl (lv_at hl 0 rfl) ?_
  refine lv_iconst (v := 1) hx hb dX4_init_5 (by decide) ?_
  refine va_put (D := (dC, dI)) (ci := 4) (v := .int 1) (ty := .boolean) (C := RX4) (T := TX4) (N := 4) hx hb hts k_4 tyX4 tyX4_ok nmX4 hown hK hP hD hS 0 rfl rfl 0 (by decide) k_5 (fun _ h9 => h9) rfl (by decide +kernel) rfl rfl (Nat.le_of_ble_eq_true rfl) dX4_init_6 (fun H locs hP hD hS => ?_)
  have hP : va_P (dC, dI) vwCl [(h0, .inr (4, [.int 1, .int 0, .null, .null]))] H := hP
  have hD : va_D A [(h0, .inr (4, [.int 1, .int 0, .null, .null]))] := hD
  refine lv_aload_n hx hb dX4_init_9 rfl (lv_at hl 0 rfl) ?_
  refine lv_iload_n hx hb dX4_init_10 rfl (lv_at hl 1 rfl) ?_
  refine va_newa (atype := .int) (a0 := (n, .inl (fun _ => 0))) hx hb k_6 (ty := .int) rfl hK hP hD hS hA (fun _ => rfl) (nI_pos (by omega)) (nI_clamp (by omega)) (by exact cb_int (by omega)) (show 0 + 1 ≤ 2 by omega) (show 0 + n ≤ 80 by omega) dX4_init_11 (fun q_1 cA_2 H hK hP hD hS => ?_)
  have hP : va_P (dC, dI) vwCl [(h0, .inr (4, [.int 1, .int 0, .null, .null])), (q_1, .inl (cA_2, n, .inl (fun _ => 0)))] H := hP
  have hD : va_D A [(h0, .inr (4, [.int 1, .int 0, .null, .null])), (q_1, .inl (cA_2, n, .inl (fun _ => 0)))] := hD
  have hK : va_K (dC, dI) vwCl [(cA_2, .int)] s := hK
  refine W.widen (k := 1) (n := 40) (by omega) (by omega) ?_
  refine va_putF (D := (dC, dI)) (ci := 4) (v := .ref q_1) (ty := (.array .int)) (C := RX4) (T := TX4) (N := 4) hx hb hts k_4 tyX4 tyX4_ok nmX4 hown hK hP hD hS 0 rfl rfl 2 (by decide) k_7 (fun _ h9 => h9) rfl hin rfl (by decide +kernel) rfl rfl (Nat.le_of_ble_eq_true rfl) dX4_init_13 (fun H locs hP hD hS => ?_)
  have hP : va_P (dC, dI) vwCl [(h0, .inr (4, [.int 1, .int 0, .ref q_1, .null])), (q_1, .inl (cA_2, n, .inl (fun _ => 0)))] H := hP
  have hD : va_D A [(h0, .inr (4, [.int 1, .int 0, .ref q_1, .null])), (q_1, .inl (cA_2, n, .inl (fun _ => 0)))] := hD
  refine lv_aload_n hx hb dX4_init_16 rfl (lv_at hl 0 rfl) ?_
  refine lv_iload_n hx hb dX4_init_17 rfl (lv_at hl 1 rfl) ?_
  refine va_newa (atype := .int) (a0 := (n, .inl (fun _ => 0))) hx hb k_6 (ty := .int) rfl hK hP hD hS hA (fun _ => rfl) (nI_pos (by omega)) (nI_clamp (by omega)) (by exact cb_int (by omega)) (show 1 + 1 ≤ 2 by omega) (show 40 + n ≤ 80 by omega) dX4_init_18 (fun q_3 cA_4 H hK hP hD hS => ?_)
  have hP : va_P (dC, dI) vwCl [(h0, .inr (4, [.int 1, .int 0, .ref q_1, .null])), (q_1, .inl (cA_2, n, .inl (fun _ => 0))), (q_3, .inl (cA_4, n, .inl (fun _ => 0)))] H := hP
  have hD : va_D A [(h0, .inr (4, [.int 1, .int 0, .ref q_1, .null])), (q_1, .inl (cA_2, n, .inl (fun _ => 0))), (q_3, .inl (cA_4, n, .inl (fun _ => 0)))] := hD
  have hK : va_K (dC, dI) vwCl [(cA_2, .int), (cA_4, .int)] s := hK
  refine W.widen (k := 2) (n := 80) (by omega) (by omega) ?_
  refine va_putF (D := (dC, dI)) (ci := 4) (v := .ref q_3) (ty := (.array .int)) (C := RX4) (T := TX4) (N := 4) hx hb hts k_4 tyX4 tyX4_ok nmX4 hown hK hP hD hS 0 rfl rfl 3 (by decide) k_8 (fun _ h9 => h9) rfl hin rfl (by decide +kernel) rfl rfl (Nat.le_of_ble_eq_true rfl) dX4_init_20 (fun H locs hP hD hS => ?_)
  have hP : va_P (dC, dI) vwCl [(h0, .inr (4, [.int 1, .int 0, .ref q_1, .ref q_3])), (q_1, .inl (cA_2, n, .inl (fun _ => 0))), (q_3, .inl (cA_4, n, .inl (fun _ => 0)))] H := hP
  have hD : va_D A [(h0, .inr (4, [.int 1, .int 0, .ref q_1, .ref q_3])), (q_1, .inl (cA_2, n, .inl (fun _ => 0))), (q_3, .inl (cA_4, n, .inl (fun _ => 0)))] := hD
  have hP9 := hP.sub (ws' := [(h0, .inr (4, [.int 1, .int 0, .ref q_1, .ref q_3])), (q_1, .inl (cA_2, n, .inl (fun _ => 0))), (q_3, .inl (cA_4, n, .inl (fun _ => 0)))]) [0, 1, 2] rfl
  have hD9 := hD.sub (ws' := [(h0, .inr (4, [.int 1, .int 0, .ref q_1, .ref q_3])), (q_1, .inl (cA_2, n, .inl (fun _ => 0))), (q_3, .inl (cA_4, n, .inl (fun _ => 0)))]) [0, 1, 2] (by decide) rfl
  have hK9 := hK.sub (tys' := [(cA_2, .int), (cA_4, .int)]) [0, 1] rfl
  exact W.vret hx hb hr (fun t ht hW => ⟨⟨(q_1, q_3, cA_2, cA_4), rfl, trivial, by rw [ht]; exact hP9, va_K.moved hW.alike hK9, hD9⟩, hS.F ht⟩) hS.2.2 dX4_init_23
def v_X3_init : List Cond := .code yX3_init cX3_init 2 none :: ([.code objectInit ⟨#[0xb1]⟩ 1 none, .methodLink RX3 1 objectInit, .instanceMethod objectInit, .fieldLink RX3 7 "TwinRoots$Limits" "mostKeys" "I", .fieldLink RX3 13 "TwinRoots$Limits" "mostChildren" "I"] ++ (wsX30 ++ ([])))
set_option maxHeartbeats 4000000 in
set_option maxRecDepth 100000 in
/-- Limits(w) -/
theorem c_X3_init (l : Launch) (dC : Nat → ClassId) (dI : Nat → Nat → Nat) (sz : Nat) (hm : Nat) (p0 : Int32) : Met l yX3_init v_X3_init ({ frames := 1, cells := 0, slots := 0, locals := 12 } : Room) (va_Pc [.ref hm, .int p0] (fun U => U.heap.size = sz ∧ va_P (dC, dI) vwCl [(hm, .inr (3, [.int 0, .int 0]))] U.heap ∧ va_K (dC, dI) vwCl [] U ∧ va_D (fun _ => True) [(hm, .inr (3, [.int 0, .int 0]))])) (va_Qv (fun (u : Int32 × Int32) => match u with | (mka, mca) => True) (fun (u : Int32 × Int32) (t : State) => match u with | (mka, mca) => va_P (dC, dI) vwCl [(hm, .inr (3, [.int mka, .int mca]))] t.heap ∧ va_K (dC, dI) vwCl [] t ∧ va_D (va_A [(hm, .inr (3, [.int 0, .int 0]))] sz) [(hm, .inr (3, [.int mka, .int mca]))]) (va_A [(hm, .inr (3, [.int 0, .int 0]))] sz)) 0 0 (va_A [(hm, .inr (3, [.int 0, .int 0]))] sz) := by
  refine Met.ofW (cc := cX3_init) (maxL := 2) (ret := none) (by decide) rfl ?_
  intro p e s m args below meth c s₁ B hml hv
  obtain ⟨rfl, hsz, hP, hK, hD0⟩ := hv
  have hx := B.exec
  have hb := B.bytes
  have hr := B.returns
  have hts := atoms_spec (ws := v_X3_init) B.pre
  have hown : s.vm.findClass RX3 = some m.cls := findClass_of_methodNamed B.named
  have hlocks := B.notSynchronized
  have hin : meth.name = "<init>" := (name_of_methodNamed B.named B.method).1
  subst hsz
  have hD := hD0.self (sz := s.heap.size)
  generalize hAe : va_A [(hm, .inr (3, [.int 0, .int 0]))] s.heap.size = A at hD ⊢
  have hA : ∀ q : Nat, s.heap.size ≤ q → A q := fun q h => by rw [← hAe]; exact Or.inr h
  have hS : va_S A s.heap s.heap [] := va_S.rf
  have hP : va_P (dC, dI) vwCl [(hm, .inr (3, [.int 0, .int 0]))] s.heap := hP
  have hl := lv_entry ([.ref hm, .int p0]) (n := 2) (Nat.le_of_ble_eq_true rfl)
  rw [lg_entry_eq]
  generalize (lg_sl ([.ref hm, .int p0]) ++ List.replicate (2 - (lg_sl ([.ref hm, .int p0])).length) Slot.unset).toArray = ls at hl ⊢
  have hl : lv_has ls 2 [(0, .ref hm), (1, .int p0)] := hl
  have k_1 := hts (.code objectInit ⟨#[0xb1]⟩ 1 none) (List.mem_of_getElem? (i := 1) rfl)
  have k_2 := hts (.methodLink RX3 1 objectInit) (List.mem_of_getElem? (i := 2) rfl)
  have k_3 := hts (.instanceMethod objectInit) (List.mem_of_getElem? (i := 3) rfl)
  have k_4 := (fun _ h => List.mem_cons_of_mem _ (List.mem_append_right _ (List.mem_append_left _ h)) : ∀ w ∈ wsX30, w ∈ v_X3_init)
  have k_5 := hts (.fieldLink RX3 7 "TwinRoots$Limits" "mostKeys" "I") (List.mem_of_getElem? (i := 4) rfl)
  have k_6 := hts (.fieldLink RX3 13 "TwinRoots$Limits" "mostChildren" "I") (List.mem_of_getElem? (i := 5) rfl)
  refine lv_aload_n hx hb dX3_init_0 rfl (lv_at hl 0 rfl) ?_
  refine W.objInit hx hb hown k_2 k_3 k_1 rfl (by rw [hml]; exact hl.1) rfl dX3_init_1 (Nat.le_of_ble_eq_true rfl) (Nat.le_of_ble_eq_true rfl) ?_
  refine W.eq (g2 := F0 m 4 ls []) rfl ?_
  refine lv_aload_n hx hb dX3_init_4 rfl (lv_at hl 0 rfl) ?_
  refine lv_iload_n hx hb dX3_init_5 rfl (lv_at hl 1 rfl) ?_
  refine lv_iconst (v := 3) hx hb dX3_init_6 (by decide) ?_
  refine lv_isub hx hb dX3_init_7 ?_
  refine lv_topi (fun z_1 _ => ?_)
  refine lv_iconst (v := 2) hx hb dX3_init_8 (by decide) ?_
  refine lv_idiv hx hb dX3_init_9 (by decide) ?_
  refine lv_topi (fun z_2 _ => ?_)
  refine va_putF (D := (dC, dI)) (ci := 3) (v := .int z_2) (ty := .int) (C := RX3) (T := TX3) (N := 2) hx hb hts k_4 tyX3 tyX3_ok nmX3 hown hK hP hD hS 0 rfl rfl 0 (by decide) k_5 (fun _ h9 => h9) rfl hin rfl (by decide +kernel) rfl rfl (Nat.le_of_ble_eq_true rfl) dX3_init_10 (fun H locs hP hD hS => ?_)
  have hP : va_P (dC, dI) vwCl [(hm, .inr (3, [.int z_2, .int 0]))] H := hP
  have hD : va_D A [(hm, .inr (3, [.int z_2, .int 0]))] := hD
  refine lv_aload_n hx hb dX3_init_13 rfl (lv_at hl 0 rfl) ?_
  refine lv_iload_n hx hb dX3_init_14 rfl (lv_at hl 1 rfl) ?_
  refine lv_iconst (v := 2) hx hb dX3_init_15 (by decide) ?_
  refine lv_isub hx hb dX3_init_16 ?_
  refine lv_topi (fun z_3 _ => ?_)
  refine lv_iconst (v := 2) hx hb dX3_init_17 (by decide) ?_
  refine lv_idiv hx hb dX3_init_18 (by decide) ?_
  refine lv_topi (fun z_4 _ => ?_)
  refine va_putF (D := (dC, dI)) (ci := 3) (v := .int z_4) (ty := .int) (C := RX3) (T := TX3) (N := 2) hx hb hts k_4 tyX3 tyX3_ok nmX3 hown hK hP hD hS 0 rfl rfl 1 (by decide) k_6 (fun _ h9 => h9) rfl hin rfl (by decide +kernel) rfl rfl (Nat.le_of_ble_eq_true rfl) dX3_init_19 (fun H locs hP hD hS => ?_)
  have hP : va_P (dC, dI) vwCl [(hm, .inr (3, [.int z_2, .int z_4]))] H := hP
  have hD : va_D A [(hm, .inr (3, [.int z_2, .int z_4]))] := hD
  have hP9 := hP.sub (ws' := [(hm, .inr (3, [.int z_2, .int z_4]))]) [0] rfl
  have hD9 := hD.sub (ws' := [(hm, .inr (3, [.int z_2, .int z_4]))]) [0] (by decide) rfl
  have hK9 := hK.sub (tys' := []) [] rfl
  exact W.vret hx hb hr (fun t ht hW => ⟨⟨(z_2, z_4), rfl, trivial, by rw [ht]; exact hP9, va_K.moved hW.alike hK9, hD9⟩, hS.F ht⟩) hS.2.2 dX3_init_22
def v_X7_init : List Cond := .code yX7_init cX7_init 1 none :: ([.code objectInit ⟨#[0xb1]⟩ 1 none, .methodLink RX7 3 objectInit, .instanceMethod objectInit] ++ ([]))
set_option maxHeartbeats 4000000 in
set_option maxRecDepth 100000 in
/-- Told() -/
theorem c_X7_init (l : Launch) (dC : Nat → ClassId) (dI : Nat → Nat → Nat) (sz : Nat) (h0 : Nat) (e1 : Int32) (e2 : Int32) (e3 : Int32) (e4 : Int64) : Met l yX7_init v_X7_init ({ frames := 1, cells := 0, slots := 0, locals := 12 } : Room) (va_Pc [.ref h0] (fun U => U.heap.size = sz ∧ va_P (dC, dI) vwCl [(h0, .inr (7, [.int e1, .int e2, .int e3, .long e4]))] U.heap ∧ va_K (dC, dI) vwCl [] U ∧ va_D (fun _ => True) [(h0, .inr (7, [.int e1, .int e2, .int e3, .long e4]))])) (va_Qv (fun (_ : Unit) => True) (fun (_ : Unit) (t : State) => va_P (dC, dI) vwCl [(h0, .inr (7, [.int e1, .int e2, .int e3, .long e4]))] t.heap ∧ va_K (dC, dI) vwCl [] t ∧ va_D (va_A [(h0, .inr (7, [.int e1, .int e2, .int e3, .long e4]))] sz) [(h0, .inr (7, [.int e1, .int e2, .int e3, .long e4]))]) (va_A [(h0, .inr (7, [.int e1, .int e2, .int e3, .long e4]))] sz)) 0 0 (va_A [(h0, .inr (7, [.int e1, .int e2, .int e3, .long e4]))] sz) := by
  refine Met.ofW (cc := cX7_init) (maxL := 1) (ret := none) (by decide) rfl ?_
  intro p e s m args below meth c s₁ B hml hv
  obtain ⟨rfl, hsz, hP, hK, hD0⟩ := hv
  have hx := B.exec
  have hb := B.bytes
  have hr := B.returns
  have hts := atoms_spec (ws := v_X7_init) B.pre
  have hown : s.vm.findClass RX7 = some m.cls := findClass_of_methodNamed B.named
  have hlocks := B.notSynchronized
  have hin : meth.name = "<init>" := (name_of_methodNamed B.named B.method).1
  subst hsz
  have hD := hD0.self (sz := s.heap.size)
  generalize hAe : va_A [(h0, .inr (7, [.int e1, .int e2, .int e3, .long e4]))] s.heap.size = A at hD ⊢
  have hA : ∀ q : Nat, s.heap.size ≤ q → A q := fun q h => by rw [← hAe]; exact Or.inr h
  have hS : va_S A s.heap s.heap [] := va_S.rf
  have hP : va_P (dC, dI) vwCl [(h0, .inr (7, [.int e1, .int e2, .int e3, .long e4]))] s.heap := hP
  have hl := lv_entry ([.ref h0]) (n := 1) (Nat.le_of_ble_eq_true rfl)
  rw [lg_entry_eq]
  generalize (lg_sl ([.ref h0]) ++ List.replicate (1 - (lg_sl ([.ref h0])).length) Slot.unset).toArray = ls at hl ⊢
  have hl : lv_has ls 1 [(0, .ref h0)] := hl
  have k_1 := hts (.code objectInit ⟨#[0xb1]⟩ 1 none) (List.mem_of_getElem? (i := 1) rfl)
  have k_2 := hts (.methodLink RX7 3 objectInit) (List.mem_of_getElem? (i := 2) rfl)
  have k_3 := hts (.instanceMethod objectInit) (List.mem_of_getElem? (i := 3) rfl)
  refine lv_aload_n hx hb dX7_init_0 rfl (lv_at hl 0 rfl) ?_
  refine W.objInit hx hb hown k_2 k_3 k_1 rfl (by rw [hml]; exact hl.1) rfl dX7_init_1 (Nat.le_of_ble_eq_true rfl) (Nat.le_of_ble_eq_true rfl) ?_
  refine W.eq (g2 := F0 m 4 ls []) rfl ?_
  have hP9 := hP.sub (ws' := [(h0, .inr (7, [.int e1, .int e2, .int e3, .long e4]))]) [0] rfl
  have hD9 := hD.sub (ws' := [(h0, .inr (7, [.int e1, .int e2, .int e3, .long e4]))]) [0] (by decide) rfl
  have hK9 := hK.sub (tys' := []) [] rfl
  exact W.vret hx hb hr (fun t ht hW => ⟨⟨(), rfl, trivial, by rw [ht]; exact hP9, va_K.moved hW.alike hK9, hD9⟩, hS.F ht⟩) hS.2.2 dX7_init_4
def v_X6_init : List Cond := .code yX6_init cX6_init 4 none :: ([.code objectInit ⟨#[0xb1]⟩ 1 none, .methodLink RX6 3 objectInit, .instanceMethod objectInit, .fieldLink RX6 9 "TwinRoots$Survey" "disk" "LTwinRoots$Disk;", .fieldLink RX6 15 "TwinRoots$Survey" "forest" "LTwinRoots$Forest;", .fieldLink RX6 19 "TwinRoots$Survey" "limits" "LTwinRoots$Limits;", .fieldLink RX6 23 "TwinRoots$Disk" "blocks" "I", .arrayClass .int, .fieldLink RX6 29 "TwinRoots$Survey" "line" "[I", .arrayClass .long, .fieldLink RX6 33 "TwinRoots$Survey" "lowest" "[J", .fieldLink RX6 37 "TwinRoots$Survey" "ceiling" "[J"] ++ (wsX60 ++ (wsX00 ++ ([]))))
set_option maxHeartbeats 4000000 in
set_option maxRecDepth 100000 in
/-- Survey(..) -/
theorem c_X6_init (l : Launch) (dC : Nat → ClassId) (dI : Nat → Nat → Nat) (sz : Nat) (hs : Nat) (hd : Nat) (hf : Nat) (hm : Nat) (w : Nat) (b : Nat) (qc : Nat) (qi : Nat) (wr : Int32) (wa : Int32) (wc : Int32) (cI : ClassId) (zw0 : 12 ≤ w) (zw : w ≤ 40) (zb0 : 4 ≤ b) (zb : b ≤ 64) (zwb : w * b ≤ 2560) : Met l yX6_init v_X6_init ({ frames := 1, cells := 3, slots := 192, locals := 12 } : Room) (va_Pc [.ref hs, .ref hd, .ref hf, .ref hm] (fun U => U.heap.size = sz ∧ va_P (dC, dI) vwCl [(hs, .inr (6, [.null, .null, .null, .null, .null, .null, .int 0, .long 0, .int 0, .long 0])), (hd, .inr (0, [.int (nI w), .int (nI b), .int wr, .ref qc, .ref qi, .int wa, .int wc]))] U.heap ∧ va_K (dC, dI) vwCl [(cI, .int)] U ∧ va_D (fun _ => True) [(hs, .inr (6, [.null, .null, .null, .null, .null, .null, .int 0, .long 0, .int 0, .long 0])), (hd, .inr (0, [.int (nI w), .int (nI b), .int wr, .ref qc, .ref qi, .int wa, .int wc]))])) (va_Qv (fun (u : Nat × Nat × Nat × ClassId) => match u with | (l1, l2, l3, cJ) => True) (fun (u : Nat × Nat × Nat × ClassId) (t : State) => match u with | (l1, l2, l3, cJ) => va_P (dC, dI) vwCl [(hs, .inr (6, [.ref hd, .ref hf, .ref hm, .ref l1, .ref l2, .ref l3, .int 0, .long 0, .int 0, .long 0])), (hd, .inr (0, [.int (nI w), .int (nI b), .int wr, .ref qc, .ref qi, .int wa, .int wc])), MA9 l1 cI b (fun _ => 0), (l2, .inl (cJ, b, .inr (.inl (fun _ => 0)))), (l3, .inl (cJ, b, .inr (.inl (fun _ => 0))))] t.heap ∧ va_K (dC, dI) vwCl [(cI, .int), (cJ, .long)] t ∧ va_D (va_A [(hs, .inr (6, [.null, .null, .null, .null, .null, .null, .int 0, .long 0, .int 0, .long 0])), (hd, .inr (0, [.int (nI w), .int (nI b), .int wr, .ref qc, .ref qi, .int wa, .int wc]))] sz) [(hs, .inr (6, [.ref hd, .ref hf, .ref hm, .ref l1, .ref l2, .ref l3, .int 0, .long 0, .int 0, .long 0])), (hd, .inr (0, [.int (nI w), .int (nI b), .int wr, .ref qc, .ref qi, .int wa, .int wc])), MA9 l1 cI b (fun _ => 0), (l2, .inl (cJ, b, .inr (.inl (fun _ => 0)))), (l3, .inl (cJ, b, .inr (.inl (fun _ => 0))))]) (va_A [(hs, .inr (6, [.null, .null, .null, .null, .null, .null, .int 0, .long 0, .int 0, .long 0])), (hd, .inr (0, [.int (nI w), .int (nI b), .int wr, .ref qc, .ref qi, .int wa, .int wc]))] sz)) 3 192 (va_A [(hs, .inr (6, [.null, .null, .null, .null, .null, .null, .int 0, .long 0, .int 0, .long 0])), (hd, .inr (0, [.int (nI w), .int (nI b), .int wr, .ref qc, .ref qi, .int wa, .int wc]))] sz) := by
  refine Met.ofW (cc := cX6_init) (maxL := 4) (ret := none) (by decide) rfl ?_
  intro p e s m args below meth c s₁ B hml hv
  obtain ⟨rfl, hsz, hP, hK, hD0⟩ := hv
  have hx := B.exec
  have hb := B.bytes
  have hr := B.returns
  have hts := atoms_spec (ws := v_X6_init) B.pre
  have hown : s.vm.findClass RX6 = some m.cls := findClass_of_methodNamed B.named
  have hlocks := B.notSynchronized
  have hin : meth.name = "<init>" := (name_of_methodNamed B.named B.method).1
  subst hsz
  have hD := hD0.self (sz := s.heap.size)
  generalize hAe : va_A [(hs, .inr (6, [.null, .null, .null, .null, .null, .null, .int 0, .long 0, .int 0, .long 0])), (hd, .inr (0, [.int (nI w), .int (nI b), .int wr, .ref qc, .ref qi, .int wa, .int wc]))] s.heap.size = A at hD ⊢
  have hA : ∀ q : Nat, s.heap.size ≤ q → A q := fun q h => by rw [← hAe]; exact Or.inr h
  have hS : va_S A s.heap s.heap [] := va_S.rf
  have hP : va_P (dC, dI) vwCl [(hs, .inr (6, [.null, .null, .null, .null, .null, .null, .int 0, .long 0, .int 0, .long 0])), (hd, .inr (0, [.int (nI w), .int (nI b), .int wr, .ref qc, .ref qi, .int wa, .int wc]))] s.heap := hP
  have hl := lv_entry ([.ref hs, .ref hd, .ref hf, .ref hm]) (n := 4) (Nat.le_of_ble_eq_true rfl)
  rw [lg_entry_eq]
  generalize (lg_sl ([.ref hs, .ref hd, .ref hf, .ref hm]) ++ List.replicate (4 - (lg_sl ([.ref hs, .ref hd, .ref hf, .ref hm])).length) Slot.unset).toArray = ls at hl ⊢
  have hl : lv_has ls 4 [(0, .ref hs), (1, .ref hd), (2, .ref hf), (3, .ref hm)] := hl
  have k_1 := hts (.code objectInit ⟨#[0xb1]⟩ 1 none) (List.mem_of_getElem? (i := 1) rfl)
  have k_2 := hts (.methodLink RX6 3 objectInit) (List.mem_of_getElem? (i := 2) rfl)
  have k_3 := hts (.instanceMethod objectInit) (List.mem_of_getElem? (i := 3) rfl)
  have k_4 := (fun _ h => List.mem_cons_of_mem _ (List.mem_append_right _ (List.mem_append_left _ h)) : ∀ w ∈ wsX60, w ∈ v_X6_init)
  have k_5 := hts (.fieldLink RX6 9 "TwinRoots$Survey" "disk" "LTwinRoots$Disk;") (List.mem_of_getElem? (i := 4) rfl)
  have k_6 := hts (.fieldLink RX6 15 "TwinRoots$Survey" "forest" "LTwinRoots$Forest;") (List.mem_of_getElem? (i := 5) rfl)
  have k_7 := hts (.fieldLink RX6 19 "TwinRoots$Survey" "limits" "LTwinRoots$Limits;") (List.mem_of_getElem? (i := 6) rfl)
  have k_8 := (fun _ h => List.mem_cons_of_mem _ (List.mem_append_right _ (List.mem_append_right _ (List.mem_append_left _ h))) : ∀ w ∈ wsX00, w ∈ v_X6_init)
  have k_9 := hts (.fieldLink RX6 23 "TwinRoots$Disk" "blocks" "I") (List.mem_of_getElem? (i := 7) rfl)
  have k_10 := hts (.arrayClass .int) (List.mem_of_getElem? (i := 8) rfl)
  have k_11 := hts (.fieldLink RX6 29 "TwinRoots$Survey" "line" "[I") (List.mem_of_getElem? (i := 9) rfl)
  have k_12 := hts (.arrayClass .long) (List.mem_of_getElem? (i := 10) rfl)
  have k_13 := hts (.fieldLink RX6 33 "TwinRoots$Survey" "lowest" "[J") (List.mem_of_getElem? (i := 11) rfl)
  have k_14 := hts (.fieldLink RX6 37 "TwinRoots$Survey" "ceiling" "[J") (List.mem_of_getElem? (i := 12) rfl)
  refine lv_aload_n hx hb dX6_init_0 rfl (lv_at hl 0 rfl) ?_
  refine W.objInit hx hb hown k_2 k_3 k_1 rfl (by rw [hml]; exact hl.1) rfl dX6_init_1 (Nat.le_of_ble_eq_true rfl) (Nat.le_of_ble_eq_true rfl) ?_
  refine W.eq (g2 := F0 m 4 ls []) rfl ?_
  refine lv_aload_n hx hb dX6_init_4 rfl (lv_at hl 0 rfl) ?_
  refine lv_aload_n hx hb dX6_init_5 rfl (lv_at hl 1 rfl) ?_
  refine va_putF (D := (dC, dI)) (ci := 6) (v := .ref hd) (ty := (.object "TwinRoots$Disk")) (C := RX6) (T := TX6) (N := 10) hx hb hts k_4 tyX6 tyX6_ok nmX6 hown hK hP hD hS 0 rfl rfl 0 (by decide) k_5 (fun _ h9 => h9) rfl hin rfl (by decide +kernel) rfl rfl (Nat.le_of_ble_eq_true rfl) dX6_init_6 (fun H locs hP9 hD9 hS9 => ?_)
  replace hP := hP9
  replace hD := hD9
  replace hS := hS9
  clear hP9 hD9 hS9
  replace hP : va_P (dC, dI) vwCl [(hs, .inr (6, [.ref hd, .null, .null, .null, .null, .null, .int 0, .long 0, .int 0, .long 0])), (hd, .inr (0, [.int (nI w), .int (nI b), .int wr, .ref qc, .ref qi, .int wa, .int wc]))] H := hP
  replace hD : va_D A [(hs, .inr (6, [.ref hd, .null, .null, .null, .null, .null, .int 0, .long 0, .int 0, .long 0])), (hd, .inr (0, [.int (nI w), .int (nI b), .int wr, .ref qc, .ref qi, .int wa, .int wc]))] := hD
  refine lv_aload_n hx hb dX6_init_9 rfl (lv_at hl 0 rfl) ?_
  refine lv_aload_n hx hb dX6_init_10 rfl (lv_at hl 2 rfl) ?_
  refine va_putF (D := (dC, dI)) (ci := 6) (v := .ref hf) (ty := (.object "TwinRoots$Forest")) (C := RX6) (T := TX6) (N := 10) hx hb hts k_4 tyX6 tyX6_ok nmX6 hown hK hP hD hS 0 rfl rfl 1 (by decide) k_6 (fun _ h9 => h9) rfl hin rfl (by decide +kernel) rfl rfl (Nat.le_of_ble_eq_true rfl) dX6_init_11 (fun H locs hP9 hD9 hS9 => ?_)
  replace hP := hP9
  replace hD := hD9
  replace hS := hS9
  clear hP9 hD9 hS9
  replace hP : va_P (dC, dI) vwCl [(hs, .inr (6, [.ref hd, .ref hf, .null, .null, .null, .null, .int 0, .long 0, .int 0, .long 0])), (hd, .inr (0, [.int (nI w), .int (nI b), .int wr, .ref qc, .ref qi, .int wa, .int wc]))] H := hP
  replace hD : va_D A [(hs, .inr (6, [.ref hd, .ref hf, .null, .null, .null, .null, .int 0, .long 0, .int 0, .long 0])), (hd, .inr (0, [.int (nI w), .int (nI b), .int wr, .ref qc, .ref qi, .int wa, .int wc]))] := hD
  refine lv_aload_n hx hb dX6_init_14 rfl (lv_at hl 0 rfl) ?_
  refine lv_aload_n hx hb dX6_init_15 rfl (lv_at hl 3 rfl) ?_
  refine va_putF (D := (dC, dI)) (ci := 6) (v := .ref hm) (ty := (.object "TwinRoots$Limits")) (C := RX6) (T := TX6) (N := 10) hx hb hts k_4 tyX6 tyX6_ok nmX6 hown hK hP hD hS 0 rfl rfl 2 (by decide) k_7 (fun _ h9 => h9) rfl hin rfl (by decide +kernel) rfl rfl (Nat.le_of_ble_eq_true rfl) dX6_init_16 (fun H locs hP9 hD9 hS9 => ?_)
  replace hP := hP9
  replace hD := hD9
  replace hS := hS9
  clear hP9 hD9 hS9
  replace hP : va_P (dC, dI) vwCl [(hs, .inr (6, [.ref hd, .ref hf, .ref hm, .null, .null, .null, .int 0, .long 0, .int 0, .long 0])), (hd, .inr (0, [.int (nI w), .int (nI b), .int wr, .ref qc, .ref qi, .int wa, .int wc]))] H := hP
  replace hD : va_D A [(hs, .inr (6, [.ref hd, .ref hf, .ref hm, .null, .null, .null, .int 0, .long 0, .int 0, .long 0])), (hd, .inr (0, [.int (nI w), .int (nI b), .int wr, .ref qc, .ref qi, .int wa, .int wc]))] := hD
  refine lv_aload_n hx hb dX6_init_19 rfl (lv_at hl 0 rfl) ?_
  refine lv_aload_n hx hb dX6_init_20 rfl (lv_at hl 1 rfl) ?_
  refine va_get (D := (dC, dI)) (ci := 0) (v := .int (nI b)) (C := RX0) (T := TX0) (N := 7) hx hb hts k_8 hown hK hP 1 rfl rfl 1 (by decide) k_9 (fun _ h9 => h9) rfl dX6_init_21 ?_
  refine va_newa (atype := .int) (a0 := (b, .inl (fun _ => 0))) hx hb k_10 (ty := .int) rfl hK hP hD hS hA (fun _ => rfl) (nI_pos (by omega)) (nI_clamp (by omega)) (by exact cb_int (by omega)) (show 0 + 1 ≤ 3 by omega) (show 0 + b ≤ 192 by omega) dX6_init_24 (fun q_1 cA_2 H hK hP hD hS => ?_)
  replace hP : va_P (dC, dI) vwCl [(hs, .inr (6, [.ref hd, .ref hf, .ref hm, .null, .null, .null, .int 0, .long 0, .int 0, .long 0])), (hd, .inr (0, [.int (nI w), .int (nI b), .int wr, .ref qc, .ref qi, .int wa, .int wc])), MA9 q_1 cA_2 b (fun _ => 0)] H := hP
  replace hD : va_D A [(hs, .inr (6, [.ref hd, .ref hf, .ref hm, .null, .null, .null, .int 0, .long 0, .int 0, .long 0])), (hd, .inr (0, [.int (nI w), .int (nI b), .int wr, .ref qc, .ref qi, .int wa, .int wc])), MA9 q_1 cA_2 b (fun _ => 0)] := hD
  replace hK : va_K (dC, dI) vwCl [(cI, .int), (cA_2, .int)] s := hK
  have e9 : cI = cA_2 := cA_int hK (i := 0) (j := 1) rfl rfl
  subst e9
  replace hK : va_K (dC, dI) vwCl [(cI, .int)] s := hK.sub [0] rfl
  refine W.widen (k := 1) (n := 64) (by omega) (by omega) ?_
  refine va_putF (D := (dC, dI)) (ci := 6) (v := .ref q_1) (ty := (.array .int)) (C := RX6) (T := TX6) (N := 10) hx hb hts k_4 tyX6 tyX6_ok nmX6 hown hK hP hD hS 0 rfl rfl 3 (by decide) k_11 (fun _ h9 => h9) rfl hin rfl (by decide +kernel) rfl rfl (Nat.le_of_ble_eq_true rfl) dX6_init_26 (fun H locs hP9 hD9 hS9 => ?_)
  replace hP := hP9
  replace hD := hD9
  replace hS := hS9
  clear hP9 hD9 hS9
  replace hP : va_P (dC, dI) vwCl [(hs, .inr (6, [.ref hd, .ref hf, .ref hm, .ref q_1, .null, .null, .int 0, .long 0, .int 0, .long 0])), (hd, .inr (0, [.int (nI w), .int (nI b), .int wr, .ref qc, .ref qi, .int wa, .int wc])), MA9 q_1 cI b (fun _ => 0)] H := hP
  replace hD : va_D A [(hs, .inr (6, [.ref hd, .ref hf, .ref hm, .ref q_1, .null, .null, .int 0, .long 0, .int 0, .long 0])), (hd, .inr (0, [.int (nI w), .int (nI b), .int wr, .ref qc, .ref qi, .int wa, .int wc])), MA9 q_1 cI b (fun _ => 0)] := hD
  refine lv_aload_n hx hb dX6_init_29 rfl (lv_at hl 0 rfl) ?_
  refine lv_aload_n hx hb dX6_init_30 rfl (lv_at hl 1 rfl) ?_
  refine va_get (D := (dC, dI)) (ci := 0) (v := .int (nI b)) (C := RX0) (T := TX0) (N := 7) hx hb hts k_8 hown hK hP 1 rfl rfl 1 (by decide) k_9 (fun _ h9 => h9) rfl dX6_init_31 ?_
  refine va_newa (atype := .long) (a0 := (b, .inr (.inl (fun _ => 0)))) hx hb k_12 (ty := .long) rfl hK hP hD hS hA (fun _ => rfl) (nI_pos (by omega)) (nI_clamp (by omega)) (by exact cb_long (by omega)) (show 1 + 1 ≤ 3 by omega) (show 64 + b ≤ 192 by omega) dX6_init_34 (fun q_3 cA_4 H hK hP hD hS => ?_)
  replace hP : va_P (dC, dI) vwCl [(hs, .inr (6, [.ref hd, .ref hf, .ref hm, .ref q_1, .null, .null, .int 0, .long 0, .int 0, .long 0])), (hd, .inr (0, [.int (nI w), .int (nI b), .int wr, .ref qc, .ref qi, .int wa, .int wc])), MA9 q_1 cI b (fun _ => 0), (q_3, .inl (cA_4, b, .inr (.inl (fun _ => 0))))] H := hP
  replace hD : va_D A [(hs, .inr (6, [.ref hd, .ref hf, .ref hm, .ref q_1, .null, .null, .int 0, .long 0, .int 0, .long 0])), (hd, .inr (0, [.int (nI w), .int (nI b), .int wr, .ref qc, .ref qi, .int wa, .int wc])), MA9 q_1 cI b (fun _ => 0), (q_3, .inl (cA_4, b, .inr (.inl (fun _ => 0))))] := hD
  replace hK : va_K (dC, dI) vwCl [(cI, .int), (cA_4, .long)] s := hK
  refine W.widen (k := 2) (n := 128) (by omega) (by omega) ?_
  refine va_putF (D := (dC, dI)) (ci := 6) (v := .ref q_3) (ty := (.array .long)) (C := RX6) (T := TX6) (N := 10) hx hb hts k_4 tyX6 tyX6_ok nmX6 hown hK hP hD hS 0 rfl rfl 4 (by decide) k_13 (fun _ h9 => h9) rfl hin rfl (by decide +kernel) rfl rfl (Nat.le_of_ble_eq_true rfl) dX6_init_36 (fun H locs hP9 hD9 hS9 => ?_)
  replace hP := hP9
  replace hD := hD9
  replace hS := hS9
  clear hP9 hD9 hS9
  replace hP : va_P (dC, dI) vwCl [(hs, .inr (6, [.ref hd, .ref hf, .ref hm, .ref q_1, .ref q_3, .null, .int 0, .long 0, .int 0, .long 0])), (hd, .inr (0, [.int (nI w), .int (nI b), .int wr, .ref qc, .ref qi, .int wa, .int wc])), MA9 q_1 cI b (fun _ => 0), (q_3, .inl (cA_4, b, .inr (.inl (fun _ => 0))))] H := hP
  replace hD : va_D A [(hs, .inr (6, [.ref hd, .ref hf, .ref hm, .ref q_1, .ref q_3, .null, .int 0, .long 0, .int 0, .long 0])), (hd, .inr (0, [.int (nI w), .int (nI b), .int wr, .ref qc, .ref qi, .int wa, .int wc])), MA9 q_1 cI b (fun _ => 0), (q_3, .inl (cA_4, b, .inr (.inl (fun _ => 0))))] := hD
  refine lv_aload_n hx hb dX6_init_39 rfl (lv_at hl 0 rfl) ?_
  refine lv_aload_n hx hb dX6_init_40 rfl (lv_at hl 1 rfl) ?_
  refine va_get (D := (dC, dI)) (ci := 0) (v := .int (nI b)) (C := RX0) (T := TX0) (N := 7) hx hb hts k_8 hown hK hP 1 rfl rfl 1 (by decide) k_9 (fun _ h9 => h9) rfl dX6_init_41 ?_
  refine va_newa (atype := .long) (a0 := (b, .inr (.inl (fun _ => 0)))) hx hb k_12 (ty := .long) rfl hK hP hD hS hA (fun _ => rfl) (nI_pos (by omega)) (nI_clamp (by omega)) (by exact cb_long (by omega)) (show 2 + 1 ≤ 3 by omega) (show 128 + b ≤ 192 by omega) dX6_init_44 (fun q_5 cA_6 H hK hP hD hS => ?_)
  replace hP : va_P (dC, dI) vwCl [(hs, .inr (6, [.ref hd, .ref hf, .ref hm, .ref q_1, .ref q_3, .null, .int 0, .long 0, .int 0, .long 0])), (hd, .inr (0, [.int (nI w), .int (nI b), .int wr, .ref qc, .ref qi, .int wa, .int wc])), MA9 q_1 cI b (fun _ => 0), (q_3, .inl (cA_4, b, .inr (.inl (fun _ => 0)))), (q_5, .inl (cA_6, b, .inr (.inl (fun _ => 0))))] H := hP
  replace hD : va_D A [(hs, .inr (6, [.ref hd, .ref hf, .ref hm, .ref q_1, .ref q_3, .null, .int 0, .long 0, .int 0, .long 0])), (hd, .inr (0, [.int (nI w), .int (nI b), .int wr, .ref qc, .ref qi, .int wa, .int wc])), MA9 q_1 cI b (fun _ => 0), (q_3, .inl (cA_4, b, .inr (.inl (fun _ => 0)))), (q_5, .inl (cA_6, b, .inr (.inl (fun _ => 0))))] := hD
  replace hK : va_K (dC, dI) vwCl [(cI, .int), (cA_4, .long), (cA_6, .long)] s := hK
  have e9 : cA_4 = cA_6 := cA_long hK (i := 1) (j := 2) rfl rfl
  subst e9
  replace hK : va_K (dC, dI) vwCl [(cI, .int), (cA_4, .long)] s := hK.sub [0, 1] rfl
  refine W.widen (k := 3) (n := 192) (by omega) (by omega) ?_
  refine va_putF (D := (dC, dI)) (ci := 6) (v := .ref q_5) (ty := (.array .long)) (C := RX6) (T := TX6) (N := 10) hx hb hts k_4 tyX6 tyX6_ok nmX6 hown hK hP hD hS 0 rfl rfl 5 (by decide) k_14 (fun _ h9 => h9) rfl hin rfl (by decide +kernel) rfl rfl (Nat.le_of_ble_eq_true rfl) dX6_init_46 (fun H locs hP9 hD9 hS9 => ?_)
  replace hP := hP9
  replace hD := hD9
  replace hS := hS9
  clear hP9 hD9 hS9
  replace hP : va_P (dC, dI) vwCl [(hs, .inr (6, [.ref hd, .ref hf, .ref hm, .ref q_1, .ref q_3, .ref q_5, .int 0, .long 0, .int 0, .long 0])), (hd, .inr (0, [.int (nI w), .int (nI b), .int wr, .ref qc, .ref qi, .int wa, .int wc])), MA9 q_1 cI b (fun _ => 0), (q_3, .inl (cA_4, b, .inr (.inl (fun _ => 0)))), (q_5, .inl (cA_4, b, .inr (.inl (fun _ => 0))))] H := hP
  replace hD : va_D A [(hs, .inr (6, [.ref hd, .ref hf, .ref hm, .ref q_1, .ref q_3, .ref q_5, .int 0, .long 0, .int 0, .long 0])), (hd, .inr (0, [.int (nI w), .int (nI b), .int wr, .ref qc, .ref qi, .int wa, .int wc])), MA9 q_1 cI b (fun _ => 0), (q_3, .inl (cA_4, b, .inr (.inl (fun _ => 0)))), (q_5, .inl (cA_4, b, .inr (.inl (fun _ => 0))))] := hD
  have hP9 := hP.sub (ws' := [(hs, .inr (6, [.ref hd, .ref hf, .ref hm, .ref q_1, .ref q_3, .ref q_5, .int 0, .long 0, .int 0, .long 0])), (hd, .inr (0, [.int (nI w), .int (nI b), .int wr, .ref qc, .ref qi, .int wa, .int wc])), MA9 q_1 cI b (fun _ => 0), (q_3, .inl (cA_4, b, .inr (.inl (fun _ => 0)))), (q_5, .inl (cA_4, b, .inr (.inl (fun _ => 0))))]) [0, 1, 2, 3, 4] rfl
  have hD9 := hD.sub (ws' := [(hs, .inr (6, [.ref hd, .ref hf, .ref hm, .ref q_1, .ref q_3, .ref q_5, .int 0, .long 0, .int 0, .long 0])), (hd, .inr (0, [.int (nI w), .int (nI b), .int wr, .ref qc, .ref qi, .int wa, .int wc])), MA9 q_1 cI b (fun _ => 0), (q_3, .inl (cA_4, b, .inr (.inl (fun _ => 0)))), (q_5, .inl (cA_4, b, .inr (.inl (fun _ => 0))))]) [0, 1, 2, 3, 4] (by decide) rfl
  have hK9 := hK.sub (tys' := [(cI, .int), (cA_4, .long)]) [0, 1] rfl
  exact W.vret hx hb hr (fun t ht hW => ⟨⟨(q_1, q_3, q_5, cA_4), rfl, trivial, by rw [ht]; exact hP9, va_K.moved hW.alike hK9, hD9⟩, hS.F ht⟩) hS.2.2 dX6_init_49
def v_X2_init : List Cond := .code yX2_init cX2_init 4 none :: ([.code objectInit ⟨#[0xb1]⟩ 1 none, .methodLink RX2 3 objectInit, .instanceMethod objectInit, .classLink RX2 9 RX4, .fieldLink RX2 11 "TwinRoots$Forest" "pages" "[LTwinRoots$Page;", .instantiable RX4 4, .initialized RX4, .code yX4_init cX4_init 2 none, .methodLink RX4 3 objectInit, .fieldLink RX4 9 "TwinRoots$Page" "leaf" "Z", .arrayClass .int, .fieldLink RX4 15 "TwinRoots$Page" "keys" "[I", .fieldLink RX4 19 "TwinRoots$Page" "refs" "[I", .methodLink RX2 17 yX4_init, .instanceMethod yX4_init, .fieldLink RX2 20 "TwinRoots$Forest" "empty" "LTwinRoots$Page;", .fieldLink RX2 24 "TwinRoots$Forest" "line" "[I"] ++ (wsX20 ++ (wsX40 ++ ([]))))
set_option maxRecDepth 20000 in
theorem g_X2_init_X4_init : GoodIn v_X2_init v_X4_init := goodIn_r _ [8, 1, 9, 3, 10, 11, 12, 13, 24, 25, 26, 27] (by decide +kernel) (by decide +kernel)
set_option maxHeartbeats 4000000 in
set_option maxRecDepth 100000 in
/-- Forest(w, b) -/
theorem c_X2_init (l : Launch) (dC : Nat → ClassId) (dI : Nat → Nat → Nat) (sz : Nat) (hf : Nat) (w : Nat) (b : Nat) (G : pgG) (Pg : List Nat) (cI : ClassId) (S : pgS) (zw0 : 12 ≤ w) (zw : w ≤ 40) (zb0 : 4 ≤ b) (zb : b ≤ 64) (zwb : w * b ≤ 2560) (hI : pgI G Pg S) : Met l yX2_init v_X2_init ({ frames := 2, cells := 197, slots := 5588, locals := 33 } : Room) (va_Pc [.ref hf, .int (nI w), .int (nI b)] (fun U => U.heap.size = sz ∧ va_P (dC, dI) vwCl ([(hf, .inr (2, [.int 0, .null, .null, .null, .int 0, .int 0]))] ++ pool G cI Pg S) U.heap ∧ va_K (dC, dI) vwCl [(cI, .int)] U ∧ va_D (fun _ => True) ([(hf, .inr (2, [.int 0, .null, .null, .null, .int 0, .int 0]))] ++ pool G cI Pg S) ∧ va_AO RX4 U)) (va_Qv (fun (u : Nat × Nat × Nat × ClassId × (Nat → Option Nat) × pgG × List Nat × pgS) => match u with | (qp, qe, ql, cO, fp, G2, Pg2, S2) => pgI G2 Pg2 S2 ∧ pgX G Pg G2 Pg2 ∧ (∀ i, i < b → ∃ a, a ∈ Pg2 ∧ (G2 a).2.2.2 = 0 ∧ fp i = some a) ∧ qe ∈ Pg2 ∧ (G2 qe).2.2.2 = 0) (fun (u : Nat × Nat × Nat × ClassId × (Nat → Option Nat) × pgG × List Nat × pgS) (t : State) => match u with | (qp, qe, ql, cO, fp, G2, Pg2, S2) => va_P (dC, dI) vwCl ([(hf, .inr (2, [.int 0, .ref qp, .ref qe, .ref ql, .int 0, .int 0])), (qp, .inl (cO, b, .inr (.inr (.inr (.inr fp))))), MA9 ql cI b (fun _ => 0)] ++ pool G2 cI Pg2 S2) t.heap ∧ va_K (dC, dI) vwCl [(cI, .int), (cO, .object RX4)] t ∧ va_D (va_A ([(hf, .inr (2, [.int 0, .null, .null, .null, .int 0, .int 0]))] ++ pool G cI Pg S) sz) ([(hf, .inr (2, [.int 0, .ref qp, .ref qe, .ref ql, .int 0, .int 0])), (qp, .inl (cO, b, .inr (.inr (.inr (.inr fp))))), MA9 ql cI b (fun _ => 0)] ++ pool G2 cI Pg2 S2)) (va_A ([(hf, .inr (2, [.int 0, .null, .null, .null, .int 0, .int 0]))] ++ pool G cI Pg S) sz)) 197 5588 (va_A ([(hf, .inr (2, [.int 0, .null, .null, .null, .int 0, .int 0]))] ++ pool G cI Pg S) sz) := by
  refine Met.ofW (cc := cX2_init) (maxL := 4) (ret := none) (by decide) rfl ?_
  intro p e s m args below meth c s₁ B hml hv
  obtain ⟨rfl, hsz, hP, hK, hD0, hAO⟩ := hv
  have hx := B.exec
  have hb := B.bytes
  have hr := B.returns
  have hts := atoms_spec (ws := v_X2_init) B.pre
  have hown : s.vm.findClass RX2 = some m.cls := findClass_of_methodNamed B.named
  have hlocks := B.notSynchronized
  have hin : meth.name = "<init>" := (name_of_methodNamed B.named B.method).1
  subst hsz
  have hD := hD0.self (sz := s.heap.size)
  generalize hAe : va_A ([(hf, .inr (2, [.int 0, .null, .null, .null, .int 0, .int 0]))] ++ pool G cI Pg S) s.heap.size = A at hD ⊢
  have hA : ∀ q : Nat, s.heap.size ≤ q → A q := fun q h => by rw [← hAe]; exact Or.inr h
  have hS : va_S A s.heap s.heap [] := va_S.rf
  have hP : va_P (dC, dI) vwCl ([(hf, .inr (2, [.int 0, .null, .null, .null, .int 0, .int 0]))] ++ pool G cI Pg S) s.heap := hP
  have hl := lv_entry ([.ref hf, .int (nI w), .int (nI b)]) (n := 4) (Nat.le_of_ble_eq_true rfl)
  rw [lg_entry_eq]
  generalize (lg_sl ([.ref hf, .int (nI w), .int (nI b)]) ++ List.replicate (4 - (lg_sl ([.ref hf, .int (nI w), .int (nI b)])).length) Slot.unset).toArray = ls at hl ⊢
  have hl : lv_has ls 4 [(0, .ref hf), (1, .int (nI w)), (2, .int (nI b))] := hl
  have k_1 := hts (.code objectInit ⟨#[0xb1]⟩ 1 none) (List.mem_of_getElem? (i := 1) rfl)
  have k_2 := hts (.methodLink RX2 3 objectInit) (List.mem_of_getElem? (i := 2) rfl)
  have k_3 := hts (.instanceMethod objectInit) (List.mem_of_getElem? (i := 3) rfl)
  have k_4 := hts (.classLink RX2 9 RX4) (List.mem_of_getElem? (i := 4) rfl)
  have k_5 := (fun _ h => List.mem_cons_of_mem _ (List.mem_append_right _ (List.mem_append_left _ h)) : ∀ w ∈ wsX20, w ∈ v_X2_init)
  have k_6 := hts (.fieldLink RX2 11 "TwinRoots$Forest" "pages" "[LTwinRoots$Page;") (List.mem_of_getElem? (i := 5) rfl)
  have k_7 := (fun _ h => List.mem_cons_of_mem _ (List.mem_append_right _ (List.mem_append_right _ (List.mem_append_left _ h))) : ∀ w ∈ wsX40, w ∈ v_X2_init)
  have k_8 := hts (.instantiable RX4 4) (List.mem_of_getElem? (i := 6) rfl)
  have k_9 := hts (.initialized RX4) (List.mem_of_getElem? (i := 7) rfl)
  have k_10 := hts (.methodLink RX2 17 yX4_init) (List.mem_of_getElem? (i := 14) rfl)
  have k_11 := hts (.instanceMethod yX4_init) (List.mem_of_getElem? (i := 15) rfl)
  have k_12 := hts (.fieldLink RX2 20 "TwinRoots$Forest" "empty" "LTwinRoots$Page;") (List.mem_of_getElem? (i := 16) rfl)
  have k_13 := hts (.arrayClass .int) (List.mem_of_getElem? (i := 11) rfl)
  have k_14 := hts (.fieldLink RX2 24 "TwinRoots$Forest" "line" "[I") (List.mem_of_getElem? (i := 17) rfl)
  have hX : pgX G Pg G Pg := pgX_rf _ _
  refine lv_aload_n hx hb dX2_init_0 rfl (lv_at hl 0 rfl) ?_
  refine W.objInit hx hb hown k_2 k_3 k_1 rfl (by rw [hml]; exact hl.1) rfl dX2_init_1 (Nat.le_of_ble_eq_true rfl) (Nat.le_of_ble_eq_true rfl) ?_
  refine W.eq (g2 := F0 m 4 ls []) rfl ?_
  refine lv_aload_n hx hb dX2_init_4 rfl (lv_at hl 0 rfl) ?_
  refine lv_iload_n hx hb dX2_init_5 rfl (lv_at hl 2 rfl) ?_
  refine va_newq (C := RX4) hx hb hown k_4 hAO hK hP hD hS hA (nI_pos (by omega)) (nI_clamp (by omega)) (show b * 4 ≤ 536870912 by omega) (show 0 + 1 ≤ 197 by omega) (show 0 + b ≤ 5588 by omega) dX2_init_6 (fun qp cqp H hK hP hD hS => ?_)
  replace hP := hP.swap
  replace hD := hD.swap
  replace hP : va_P (dC, dI) vwCl ([(hf, .inr (2, [.int 0, .null, .null, .null, .int 0, .int 0])), (qp, .inl (cqp, b, .inr (.inr (.inr (.inr (fun _ => none))))))] ++ pool G cI Pg S) H := hP
  replace hD : va_D A ([(hf, .inr (2, [.int 0, .null, .null, .null, .int 0, .int 0])), (qp, .inl (cqp, b, .inr (.inr (.inr (.inr (fun _ => none))))))] ++ pool G cI Pg S) := hD
  replace hK : va_K (dC, dI) vwCl [(cI, .int), (cqp, .object RX4)] s := hK
  refine W.widen (k := 1) (n := 64) (by omega) (by omega) ?_
  refine va_putF (D := (dC, dI)) (ci := 2) (v := .ref qp) (ty := (.array (.object "TwinRoots$Page"))) (C := RX2) (T := TX2) (N := 6) hx hb hts k_5 tyX2 tyX2_ok nmX2 hown hK hP hD hS 0 rfl rfl 1 (by decide) k_6 (fun _ h9 => h9) rfl hin rfl (by decide +kernel) rfl rfl (Nat.le_of_ble_eq_true rfl) dX2_init_9 (fun H locs hP9 hD9 hS9 => ?_)
  replace hP := hP9
  replace hD := hD9
  replace hS := hS9
  clear hP9 hD9 hS9
  replace hP : va_P (dC, dI) vwCl ([(hf, .inr (2, [.int 0, .ref qp, .null, .null, .int 0, .int 0])), (qp, .inl (cqp, b, .inr (.inr (.inr (.inr (fun _ => none))))))] ++ pool G cI Pg S) H := hP
  replace hD : va_D A ([(hf, .inr (2, [.int 0, .ref qp, .null, .null, .int 0, .int 0])), (qp, .inl (cqp, b, .inr (.inr (.inr (.inr (fun _ => none))))))] ++ pool G cI Pg S) := hD
  refine lv_iconst (v := 0) hx hb dX2_init_12 (by decide) ?_
  refine lv_istore_n (lv' := [(3, .int 0), (0, .ref hf), (1, .int (nI w)), (2, .int (nI b))]) hx hb dX2_init_13 rfl hl (by decide) rfl (fun ls hl9 => ?_)
  replace hl := hl9
  clear hl9
  refine jn_cut (P := fun Q => ∀ (nf i : Nat) (g : Nat → Option Nat) (Gv : pgG) (Pv : List Nat) (Sv : pgS) (H : Heap) (locs : List Loc) (ls : Array Slot), i ≤ b → b + 1 ≤ i + nf → (pgI Gv Pv Sv) → (pgX G Pg Gv Pv) → (∀ j, j < i → ∃ a, a ∈ Pv ∧ (Gv a).2.2.2 = 0 ∧ g j = some a) → va_P (dC, dI) vwCl ([(hf, .inr (2, [.int 0, .ref qp, .null, .null, .int 0, .int 0])), (qp, .inl (cqp, b, .inr (.inr (.inr (.inr g)))))] ++ pool Gv cI Pv Sv) H → va_D A ([(hf, .inr (2, [.int 0, .ref qp, .null, .null, .int 0, .int 0])), (qp, .inl (cqp, b, .inr (.inr (.inr (.inr g)))))] ++ pool Gv cI Pv Sv) → va_S A s.heap H locs → lv_has ls 4 [(0, .ref hf), (1, .int (nI w)), (2, .int (nI b)), (3, .int (nI i))] → W p l e (headSpec v_X2_init ({ frames := 2, cells := 197, slots := 5588, locals := 33 } : Room)).room s m ([.ref hf, .int (nI w), .int (nI b)] : List Value).toArray below meth c H locs (1 + 3 * i) (64 + 84 * i) Q (F0 m 14 ls [])) ?_ (fun loop_14 => ?_)
  · intro nf
    induction nf with
    | zero =>
      intro i g Gv Pv Sv H locs ls h1 h2
      exact absurd h2 (by omega)
    | succ nf ih_14 =>
      intro i g Gv Pv Sv H locs ls hi hn hI hX hAr hP hD hS hl
      refine lv_iload_n hx hb dX2_init_14 rfl (lv_at hl 3 rfl) ?_
      refine lv_aload_n hx hb dX2_init_15 rfl (lv_at hl 0 rfl) ?_
      refine va_get (D := (dC, dI)) (ci := 2) (v := .ref qp) (C := RX2) (T := TX2) (N := 6) hx hb hts k_5 hown hK hP 0 rfl rfl 1 (by decide) k_6 (fun _ h9 => h9) rfl dX2_init_16 ?_
      refine va_alen (v := nI b) hx hb hK hP 1 1 rfl rfl rfl dX2_init_19 ?_
      refine lv_icmp_ge (tgt := 43) hx hb dX2_init_20 (by decide) (fun c_1 => ?_) (fun c_1 => ?_)
      · have hge : b ≤ i := (nI_leI (by omega) (by omega)).mp c_1
        have hAr : ∀ j, j < b → ∃ a, a ∈ Pv ∧ (Gv a).2.2.2 = 0 ∧ g j = some a := fun j hj => hAr j (by omega)
        refine lv_aload_n hx hb dX2_init_43 rfl (lv_at hl 0 rfl) ?_
        refine va_new (ci := 4) (fs := [.int 0, .int 0, .null, .null]) (C := RX4) (T := TX4) (N := 4) hx hb hts k_7 tyX4 tyX4_ok hown k_4 k_8 k_9 hK hP hD hS hA rfl (fun j hj => by rcases (show j = 0 ∨ j = 1 ∨ j = 2 ∨ j = 3 by omega) with rfl | rfl | rfl | rfl <;> rfl) (show 1 + 3 * i + 1 ≤ 197 by omega) (show 64 + 84 * i + 4 ≤ 5588 by omega) dX2_init_44 (fun q_2 H hP hD hS => ?_)
        replace hP := hP.swap
        replace hD := hD.swap
        replace hP : va_P (dC, dI) vwCl ([(hf, .inr (2, [.int 0, .ref qp, .null, .null, .int 0, .int 0])), (qp, .inl (cqp, b, .inr (.inr (.inr (.inr g))))), (q_2, .inr (4, [.int 0, .int 0, .null, .null]))] ++ pool Gv cI Pv Sv) H := hP
        replace hD : va_D A ([(hf, .inr (2, [.int 0, .ref qp, .null, .null, .int 0, .int 0])), (qp, .inl (cqp, b, .inr (.inr (.inr (.inr g))))), (q_2, .inr (4, [.int 0, .int 0, .null, .null]))] ++ pool Gv cI Pv Sv) := hD
        refine W.widen (k := 1 + 3 * i + 1) (n := 64 + 84 * i + 4) (by omega) (by omega) ?_
        refine lv_dup hx hb dX2_init_47 rfl ?_
        refine lv_iconst (v := 0) hx hb dX2_init_48 (by decide) ?_
        have hPc := hP.sub (ws' := [(q_2, .inr (4, [.int 0, .int 0, .null, .null]))]) [2] rfl
        have hDc := hD.sub (ws' := [(q_2, .inr (4, [.int 0, .int 0, .null, .null]))]) [2] (by decide) rfl
        have hKc := hK.sub (tys' := []) [] rfl
        have hFc := va_free (wc := [(q_2, .inr (4, [.int 0, .int 0, .null, .null]))]) hD hS hA [2] rfl
        refine va_callv (va_runI (As := [.int 0]) (rest := [.ref q_2, .ref hf]) ⟨hx, hb, hml, hown, hts⟩ (c_X4_init l dC dI H.size q_2 0 (by first | assumption | omega | decide)) (cwI 1 hts g_X2_init_X4_init rfl rfl rfl k_9 k_10 k_11 rfl (by decide +kernel) ⟨Nat.le_of_ble_eq_true rfl, Nat.le_of_ble_eq_true rfl⟩) ⟨fun a U g mk q => by obtain ⟨q0, q1, qP, qK, qD⟩ := q; exact ⟨q0, q1, qP, va_K.moved (u := U) (U := U.calling g mk a) (Vm.Alike.refl U.vm) qK, qD⟩, fun U hU hW => ⟨rfl, by rw [hU], by rw [hU]; exact hPc, va_K.moved hW.alike hKc, hDc.weaken (fun _ _ _ _ => trivial)⟩⟩ rfl rfl hl.1 rfl (lv_room (Nat.le_of_ble_eq_true rfl)) dX2_init_49 ⟨(show 1 + 3 * i + 1 + 2 ≤ 197 by omega), (show 64 + 84 * i + 4 + 80 ≤ 5588 by omega)⟩) hS (fun q _ h => hFc q h) hFc (fun u t H1 locs ht hvm hw hB hz1 hk1 hS9 => ?_)
        replace hS := hS9
        clear hS9
        obtain ⟨q1_4, q2_5, cK_6, cR_7⟩ := u
        obtain ⟨hP1, hK1, hD1⟩ := hB
        rw [ht] at hP1
        replace hK1 := va_K.moved hvm.symm hK1
        try dsimp only at hw
        obtain ⟨hP9, hD9⟩ := va_joinQ (wr := [(hf, .inr (2, [.int 0, .ref qp, .null, .null, .int 0, .int 0])), (qp, .inl (cqp, b, .inr (.inr (.inr (.inr g)))))]) (w1 := [(q_2, .inr (4, [.int 1, .int 0, .ref q1_4, .ref q2_5])), MA9 q1_4 cK_6 0 (fun _ => 0), MA9 q2_5 cR_7 0 (fun _ => 0)]) hP hD [2] [0, 1] rfl rfl (by decide) (by decide) hk1 hFc hP1 hD1
        replace hP := hP9
        replace hD := hD9
        clear hP9 hD9
        replace hK := (hK.sub (tys' := [(cI, .int), (cqp, .object RX4)]) [0, 1] rfl).app hK1
        clear hP1 hD1 hK1 hPc hDc hKc hFc hk1 hz1 hvm ht
        generalize H1 = H at hP hS ⊢
        replace hP : va_P (dC, dI) vwCl ([(hf, .inr (2, [.int 0, .ref qp, .null, .null, .int 0, .int 0])), (qp, .inl (cqp, b, .inr (.inr (.inr (.inr g))))), (q_2, .inr (4, [.int 1, .int 0, .ref q1_4, .ref q2_5])), MA9 q1_4 cK_6 0 (fun _ => 0), MA9 q2_5 cR_7 0 (fun _ => 0)] ++ pool Gv cI Pv Sv) H := hP
        replace hD : va_D A ([(hf, .inr (2, [.int 0, .ref qp, .null, .null, .int 0, .int 0])), (qp, .inl (cqp, b, .inr (.inr (.inr (.inr g))))), (q_2, .inr (4, [.int 1, .int 0, .ref q1_4, .ref q2_5])), MA9 q1_4 cK_6 0 (fun _ => 0), MA9 q2_5 cR_7 0 (fun _ => 0)] ++ pool Gv cI Pv Sv) := hD
        replace hK : va_K (dC, dI) vwCl [(cI, .int), (cqp, .object RX4), (cK_6, .int), (cR_7, .int)] s := hK
        have e9 : cI = cR_7 := cA_int hK (i := 0) (j := 3) rfl rfl
        subst e9
        replace hK : va_K (dC, dI) vwCl [(cI, .int), (cqp, .object RX4), (cK_6, .int)] s := hK.sub [0, 1, 2] rfl
        have e9 : cI = cK_6 := cA_int hK (i := 0) (j := 2) rfl rfl
        subst e9
        replace hK : va_K (dC, dI) vwCl [(cI, .int), (cqp, .object RX4)] s := hK.sub [0, 1] rfl
        refine W.widen (k := 1 + 3 * i + 1 + 2) (n := 64 + 84 * i + 4 + 80) (by omega) (by omega) ?_
        refine va_putF (D := (dC, dI)) (ci := 2) (v := .ref q_2) (ty := (.object "TwinRoots$Page")) (C := RX2) (T := TX2) (N := 6) hx hb hts k_5 tyX2 tyX2_ok nmX2 hown hK hP hD hS 0 rfl rfl 2 (by decide) k_12 (fun _ h9 => h9) rfl hin rfl (by decide +kernel) rfl rfl (Nat.le_of_ble_eq_true rfl) dX2_init_52 (fun H locs hP9 hD9 hS9 => ?_)
        replace hP := hP9
        replace hD := hD9
        replace hS := hS9
        clear hP9 hD9 hS9
        replace hP : va_P (dC, dI) vwCl ([(hf, .inr (2, [.int 0, .ref qp, .ref q_2, .null, .int 0, .int 0])), (qp, .inl (cqp, b, .inr (.inr (.inr (.inr g))))), (q_2, .inr (4, [.int 1, .int 0, .ref q1_4, .ref q2_5])), MA9 q1_4 cI 0 (fun _ => 0), MA9 q2_5 cI 0 (fun _ => 0)] ++ pool Gv cI Pv Sv) H := hP
        replace hD : va_D A ([(hf, .inr (2, [.int 0, .ref qp, .ref q_2, .null, .int 0, .int 0])), (qp, .inl (cqp, b, .inr (.inr (.inr (.inr g))))), (q_2, .inr (4, [.int 1, .int 0, .ref q1_4, .ref q2_5])), MA9 q1_4 cI 0 (fun _ => 0), MA9 q2_5 cI 0 (fun _ => 0)] ++ pool Gv cI Pv Sv) := hD
        obtain ⟨hna, hP, hD⟩ := pool_add (a := q_2) (k := q1_4) (r := q2_5) (n := 0) (m := 0) 0 (x := 1) (f := (fun _ => 0)) (g := (fun _ => 0)) (wr := [(hf, .inr (2, [.int 0, .ref qp, .ref q_2, .null, .int 0, .int 0])), (qp, .inl (cqp, b, .inr (.inr (.inr (.inr g)))))]) hP hD [0, 1] 2 3 4 rfl (by decide)
        have hXn := pgX_up (G := Gv) (q1_4, q2_5, 0, 0) hna
        have hI := pgI_up (a := q_2) (k := q1_4) (r := q2_5) (n := 0) (t := 0) (m := 0) (x := 1) (f := (fun _ => 0)) (g := (fun _ => 0)) hI (Or.inr rfl) (Nat.zero_le _) (by omega)
        have hm_q_2 : q_2 ∈ q_2 :: Pv := List.mem_cons_self
        have ht_q_2 : ((va_up Gv q_2 (q1_4, q2_5, 0, 0)) q_2).2.2.2 = 0 := by rw [va_up_at]
        have hAr := pgA_x hAr hXn
        obtain ⟨G_8, eG_8⟩ : ∃ x, x = va_up Gv q_2 (q1_4, q2_5, 0, 0) := ⟨_, rfl⟩
        obtain ⟨S_10, eS_10⟩ : ∃ x, x = va_up Sv q_2 (1, 0, (fun _ => 0), (fun _ => 0)) := ⟨_, rfl⟩
        obtain ⟨P_9, eP_9⟩ : ∃ x, x = q_2 :: Pv := ⟨_, rfl⟩
        rw [← eG_8, ← eS_10, ← eP_9] at hP hD
        rw [← eG_8, ← eS_10, ← eP_9] at hI
        rw [← eG_8, ← eP_9] at hXn
        rw [← eP_9] at hm_q_2
        rw [← eG_8] at ht_q_2
        rw [← eG_8, ← eP_9] at hAr
        have hX := pgX_tr hX hXn
        replace hP : va_P (dC, dI) vwCl ([(hf, .inr (2, [.int 0, .ref qp, .ref q_2, .null, .int 0, .int 0])), (qp, .inl (cqp, b, .inr (.inr (.inr (.inr g)))))] ++ pool G_8 cI P_9 S_10) H := hP
        replace hD : va_D A ([(hf, .inr (2, [.int 0, .ref qp, .ref q_2, .null, .int 0, .int 0])), (qp, .inl (cqp, b, .inr (.inr (.inr (.inr g)))))] ++ pool G_8 cI P_9 S_10) := hD
        refine lv_aload_n hx hb dX2_init_55 rfl (lv_at hl 0 rfl) ?_
        refine lv_iload_n hx hb dX2_init_56 rfl (lv_at hl 2 rfl) ?_
        refine va_newa (atype := .int) (a0 := (b, .inl (fun _ => 0))) hx hb k_13 (ty := .int) rfl hK hP hD hS hA (fun _ => rfl) (nI_pos (by omega)) (nI_clamp (by omega)) (by exact cb_int (by omega)) (show 1 + 3 * i + 1 + 2 + 1 ≤ 197 by omega) (show 64 + 84 * i + 4 + 80 + b ≤ 5588 by omega) dX2_init_57 (fun q_11 cA_12 H hK hP hD hS => ?_)
        replace hP := hP.swap
        replace hD := hD.swap
        replace hP : va_P (dC, dI) vwCl ([(hf, .inr (2, [.int 0, .ref qp, .ref q_2, .null, .int 0, .int 0])), (qp, .inl (cqp, b, .inr (.inr (.inr (.inr g))))), MA9 q_11 cA_12 b (fun _ => 0)] ++ pool G_8 cI P_9 S_10) H := hP
        replace hD : va_D A ([(hf, .inr (2, [.int 0, .ref qp, .ref q_2, .null, .int 0, .int 0])), (qp, .inl (cqp, b, .inr (.inr (.inr (.inr g))))), MA9 q_11 cA_12 b (fun _ => 0)] ++ pool G_8 cI P_9 S_10) := hD
        replace hK : va_K (dC, dI) vwCl [(cI, .int), (cqp, .object RX4), (cA_12, .int)] s := hK
        have e9 : cI = cA_12 := cA_int hK (i := 0) (j := 2) rfl rfl
        subst e9
        replace hK : va_K (dC, dI) vwCl [(cI, .int), (cqp, .object RX4)] s := hK.sub [0, 1] rfl
        refine W.widen (k := 1 + 3 * i + 1 + 2 + 1) (n := 64 + 84 * i + 4 + 80 + 64) (by omega) (by omega) ?_
        refine va_putF (D := (dC, dI)) (ci := 2) (v := .ref q_11) (ty := (.array .int)) (C := RX2) (T := TX2) (N := 6) hx hb hts k_5 tyX2 tyX2_ok nmX2 hown hK hP hD hS 0 rfl rfl 3 (by decide) k_14 (fun _ h9 => h9) rfl hin rfl (by decide +kernel) rfl rfl (Nat.le_of_ble_eq_true rfl) dX2_init_59 (fun H locs hP9 hD9 hS9 => ?_)
        replace hP := hP9
        replace hD := hD9
        replace hS := hS9
        clear hP9 hD9 hS9
        replace hP : va_P (dC, dI) vwCl ([(hf, .inr (2, [.int 0, .ref qp, .ref q_2, .ref q_11, .int 0, .int 0])), (qp, .inl (cqp, b, .inr (.inr (.inr (.inr g))))), MA9 q_11 cI b (fun _ => 0)] ++ pool G_8 cI P_9 S_10) H := hP
        replace hD : va_D A ([(hf, .inr (2, [.int 0, .ref qp, .ref q_2, .ref q_11, .int 0, .int 0])), (qp, .inl (cqp, b, .inr (.inr (.inr (.inr g))))), MA9 q_11 cI b (fun _ => 0)] ++ pool G_8 cI P_9 S_10) := hD
        have hP9 := hP.part (cx := [(hf, .inr (2, [.int 0, .ref qp, .ref q_2, .ref q_11, .int 0, .int 0])), (qp, .inl (cqp, b, .inr (.inr (.inr (.inr g))))), MA9 q_11 cI b (fun _ => 0)]) [0, 1, 2] rfl
        have hD9 := hD.part (cx := [(hf, .inr (2, [.int 0, .ref qp, .ref q_2, .ref q_11, .int 0, .int 0])), (qp, .inl (cqp, b, .inr (.inr (.inr (.inr g))))), MA9 q_11 cI b (fun _ => 0)]) [0, 1, 2] (by decide) rfl
        have hK9 := hK.sub (tys' := [(cI, .int), (cqp, .object RX4)]) [0, 1] rfl
        refine W.widen (k := 197) (n := 5588) (by omega) (by omega) ?_
        exact W.vret hx hb hr (fun t ht hW => ⟨⟨(qp, q_2, q_11, cqp, g, G_8, P_9, S_10), rfl, ⟨hI, hX, hAr, hm_q_2, ht_q_2⟩, by rw [ht]; exact hP9, va_K.moved hW.alike hK9, hD9⟩, hS.F ht⟩) hS.2.2 dX2_init_62
      · have hlt : i < b := Nat.lt_of_not_le (fun h => c_1 (nI_le h (by omega)))
        refine lv_aload_n hx hb dX2_init_23 rfl (lv_at hl 0 rfl) ?_
        refine va_get (D := (dC, dI)) (ci := 2) (v := .ref qp) (C := RX2) (T := TX2) (N := 6) hx hb hts k_5 hown hK hP 0 rfl rfl 1 (by decide) k_6 (fun _ h9 => h9) rfl dX2_init_24 ?_
        refine lv_iload_n hx hb dX2_init_27 rfl (lv_at hl 3 rfl) ?_
        refine va_new (ci := 4) (fs := [.int 0, .int 0, .null, .null]) (C := RX4) (T := TX4) (N := 4) hx hb hts k_7 tyX4 tyX4_ok hown k_4 k_8 k_9 hK hP hD hS hA rfl (fun j hj => by rcases (show j = 0 ∨ j = 1 ∨ j = 2 ∨ j = 3 by omega) with rfl | rfl | rfl | rfl <;> rfl) (show 1 + 3 * i + 1 ≤ 197 by omega) (show 64 + 84 * i + 4 ≤ 5588 by omega) dX2_init_28 (fun q_13 H hP hD hS => ?_)
        replace hP := hP.swap
        replace hD := hD.swap
        replace hP : va_P (dC, dI) vwCl ([(hf, .inr (2, [.int 0, .ref qp, .null, .null, .int 0, .int 0])), (qp, .inl (cqp, b, .inr (.inr (.inr (.inr g))))), (q_13, .inr (4, [.int 0, .int 0, .null, .null]))] ++ pool Gv cI Pv Sv) H := hP
        replace hD : va_D A ([(hf, .inr (2, [.int 0, .ref qp, .null, .null, .int 0, .int 0])), (qp, .inl (cqp, b, .inr (.inr (.inr (.inr g))))), (q_13, .inr (4, [.int 0, .int 0, .null, .null]))] ++ pool Gv cI Pv Sv) := hD
        refine W.widen (k := 1 + 3 * i + 1) (n := 64 + 84 * i + 4) (by omega) (by omega) ?_
        refine lv_dup hx hb dX2_init_31 rfl ?_
        refine lv_iload_n hx hb dX2_init_32 rfl (lv_at hl 1 rfl) ?_
        have hPc := hP.sub (ws' := [(q_13, .inr (4, [.int 0, .int 0, .null, .null]))]) [2] rfl
        have hDc := hD.sub (ws' := [(q_13, .inr (4, [.int 0, .int 0, .null, .null]))]) [2] (by decide) rfl
        have hKc := hK.sub (tys' := []) [] rfl
        have hFc := va_free (wc := [(q_13, .inr (4, [.int 0, .int 0, .null, .null]))]) hD hS hA [2] rfl
        refine va_callv (va_runI (As := [.int (nI w)]) (rest := [.ref q_13, .int (nI i), .ref qp]) ⟨hx, hb, hml, hown, hts⟩ (c_X4_init l dC dI H.size q_13 w (by first | assumption | omega | decide)) (cwI 1 hts g_X2_init_X4_init rfl rfl rfl k_9 k_10 k_11 rfl (by decide +kernel) ⟨Nat.le_of_ble_eq_true rfl, Nat.le_of_ble_eq_true rfl⟩) ⟨fun a U g mk q => by obtain ⟨q0, q1, qP, qK, qD⟩ := q; exact ⟨q0, q1, qP, va_K.moved (u := U) (U := U.calling g mk a) (Vm.Alike.refl U.vm) qK, qD⟩, fun U hU hW => ⟨rfl, by rw [hU], by rw [hU]; exact hPc, va_K.moved hW.alike hKc, hDc.weaken (fun _ _ _ _ => trivial)⟩⟩ rfl rfl hl.1 rfl (lv_room (Nat.le_of_ble_eq_true rfl)) dX2_init_33 ⟨(show 1 + 3 * i + 1 + 2 ≤ 197 by omega), (show 64 + 84 * i + 4 + 80 ≤ 5588 by omega)⟩) hS (fun q _ h => hFc q h) hFc (fun u t H1 locs ht hvm hw hB hz1 hk1 hS9 => ?_)
        replace hS := hS9
        clear hS9
        obtain ⟨q1_15, q2_16, cK_17, cR_18⟩ := u
        obtain ⟨hP1, hK1, hD1⟩ := hB
        rw [ht] at hP1
        replace hK1 := va_K.moved hvm.symm hK1
        try dsimp only at hw
        obtain ⟨hP9, hD9⟩ := va_joinQ (wr := [(hf, .inr (2, [.int 0, .ref qp, .null, .null, .int 0, .int 0])), (qp, .inl (cqp, b, .inr (.inr (.inr (.inr g)))))]) (w1 := [(q_13, .inr (4, [.int 1, .int 0, .ref q1_15, .ref q2_16])), MA9 q1_15 cK_17 w (fun _ => 0), MA9 q2_16 cR_18 w (fun _ => 0)]) hP hD [2] [0, 1] rfl rfl (by decide) (by decide) hk1 hFc hP1 hD1
        replace hP := hP9
        replace hD := hD9
        clear hP9 hD9
        replace hK := (hK.sub (tys' := [(cI, .int), (cqp, .object RX4)]) [0, 1] rfl).app hK1
        clear hP1 hD1 hK1 hPc hDc hKc hFc hk1 hz1 hvm ht
        generalize H1 = H at hP hS ⊢
        replace hP : va_P (dC, dI) vwCl ([(hf, .inr (2, [.int 0, .ref qp, .null, .null, .int 0, .int 0])), (qp, .inl (cqp, b, .inr (.inr (.inr (.inr g))))), (q_13, .inr (4, [.int 1, .int 0, .ref q1_15, .ref q2_16])), MA9 q1_15 cK_17 w (fun _ => 0), MA9 q2_16 cR_18 w (fun _ => 0)] ++ pool Gv cI Pv Sv) H := hP
        replace hD : va_D A ([(hf, .inr (2, [.int 0, .ref qp, .null, .null, .int 0, .int 0])), (qp, .inl (cqp, b, .inr (.inr (.inr (.inr g))))), (q_13, .inr (4, [.int 1, .int 0, .ref q1_15, .ref q2_16])), MA9 q1_15 cK_17 w (fun _ => 0), MA9 q2_16 cR_18 w (fun _ => 0)] ++ pool Gv cI Pv Sv) := hD
        replace hK : va_K (dC, dI) vwCl [(cI, .int), (cqp, .object RX4), (cK_17, .int), (cR_18, .int)] s := hK
        have e9 : cI = cR_18 := cA_int hK (i := 0) (j := 3) rfl rfl
        subst e9
        replace hK : va_K (dC, dI) vwCl [(cI, .int), (cqp, .object RX4), (cK_17, .int)] s := hK.sub [0, 1, 2] rfl
        have e9 : cI = cK_17 := cA_int hK (i := 0) (j := 2) rfl rfl
        subst e9
        replace hK : va_K (dC, dI) vwCl [(cI, .int), (cqp, .object RX4)] s := hK.sub [0, 1] rfl
        refine W.widen (k := 1 + 3 * i + 1 + 2) (n := 64 + 84 * i + 4 + 80) (by omega) (by omega) ?_
        refine va_astq hx hb hK hP hD hS 1 1 2 4 rfl rfl rfl rfl (show vp_in (nI i) b from vp_in_nI (by omega) (by omega)) dX2_init_36 (fun H locs hP9 hD9 hS9 => ?_)
        replace hP := hP9
        replace hD := hD9
        replace hS := hS9
        clear hP9 hD9 hS9
        replace hP : va_P (dC, dI) vwCl ([(hf, .inr (2, [.int 0, .ref qp, .null, .null, .int 0, .int 0])), (qp, .inl (cqp, b, .inr (.inr (.inr (.inr (va_up g ((nI i).toNatClampNeg) (some q_13))))))), (q_13, .inr (4, [.int 1, .int 0, .ref q1_15, .ref q2_16])), MA9 q1_15 cI w (fun _ => 0), MA9 q2_16 cI w (fun _ => 0)] ++ pool Gv cI Pv Sv) H := hP
        replace hD : va_D A ([(hf, .inr (2, [.int 0, .ref qp, .null, .null, .int 0, .int 0])), (qp, .inl (cqp, b, .inr (.inr (.inr (.inr (va_up g ((nI i).toNatClampNeg) (some q_13))))))), (q_13, .inr (4, [.int 1, .int 0, .ref q1_15, .ref q2_16])), MA9 q1_15 cI w (fun _ => 0), MA9 q2_16 cI w (fun _ => 0)] ++ pool Gv cI Pv Sv) := hD
        obtain ⟨f_19, ef_19⟩ : ∃ g9, g9 = va_up g ((nI i).toNatClampNeg) (some q_13) := ⟨_, rfl⟩
        rw [← ef_19] at hP hD
        obtain ⟨hna, hP, hD⟩ := pool_add (a := q_13) (k := q1_15) (r := q2_16) (n := w) (m := 0) 0 (x := 1) (f := (fun _ => 0)) (g := (fun _ => 0)) (wr := [(hf, .inr (2, [.int 0, .ref qp, .null, .null, .int 0, .int 0])), (qp, .inl (cqp, b, .inr (.inr (.inr (.inr f_19)))))]) hP hD [0, 1] 2 3 4 rfl (by decide)
        have hXn := pgX_up (G := Gv) (q1_15, q2_16, w, 0) hna
        have hI := pgI_up (a := q_13) (k := q1_15) (r := q2_16) (n := w) (t := 0) (m := 0) (x := 1) (f := (fun _ => 0)) (g := (fun _ => 0)) hI (Or.inr rfl) (Nat.zero_le _) (by omega)
        have hm_q_13 : q_13 ∈ q_13 :: Pv := List.mem_cons_self
        have ht_q_13 : ((va_up Gv q_13 (q1_15, q2_16, w, 0)) q_13).2.2.2 = 0 := by rw [va_up_at]
        have hAr := pgA_up (k := q1_15) (r := q2_16) (n := w) hAr hna (by omega) ef_19
        obtain ⟨G_20, eG_20⟩ : ∃ x, x = va_up Gv q_13 (q1_15, q2_16, w, 0) := ⟨_, rfl⟩
        obtain ⟨S_22, eS_22⟩ : ∃ x, x = va_up Sv q_13 (1, 0, (fun _ => 0), (fun _ => 0)) := ⟨_, rfl⟩
        obtain ⟨P_21, eP_21⟩ : ∃ x, x = q_13 :: Pv := ⟨_, rfl⟩
        rw [← eG_20, ← eS_22, ← eP_21] at hP hD
        rw [← eG_20, ← eS_22, ← eP_21] at hI
        rw [← eG_20, ← eP_21] at hXn
        rw [← eP_21] at hm_q_13
        rw [← eG_20] at ht_q_13
        rw [← eG_20, ← eP_21] at hAr
        have hX := pgX_tr hX hXn
        replace hP : va_P (dC, dI) vwCl ([(hf, .inr (2, [.int 0, .ref qp, .null, .null, .int 0, .int 0])), (qp, .inl (cqp, b, .inr (.inr (.inr (.inr f_19)))))] ++ pool G_20 cI P_21 S_22) H := hP
        replace hD : va_D A ([(hf, .inr (2, [.int 0, .ref qp, .null, .null, .int 0, .int 0])), (qp, .inl (cqp, b, .inr (.inr (.inr (.inr f_19)))))] ++ pool G_20 cI P_21 S_22) := hD
        refine lv_iinc (v := (nI (i + 1))) (lv' := [(3, .int (nI (i + 1))), (0, .ref hf), (1, .int (nI w)), (2, .int (nI b))]) hx hb dX2_init_37 hl (k := 3) rfl (nI_1 i) (by decide) rfl (fun ls hl9 => ?_)
        replace hl := hl9
        clear hl9
        refine lv_goto (tgt := 14) hx hb dX2_init_40 (by decide) ?_
        refine W.widen (k := 1 + 3 * (i + 1)) (n := 64 + 84 * (i + 1)) (by omega) (by omega) ?_
        exact ih_14 (i + 1) f_19 G_20 P_21 S_22 _ _ _ (by omega) (by omega) hI hX hAr hP hD hS (lv_sub hl [1, 2, 3, 0] rfl)
  refine W.widen (k := 1 + 3 * 0) (n := 64 + 84 * 0) (by omega) (by omega) ?_
  exact loop_14 (b + 1) 0 (fun _ => none) G Pg S _ _ _ (by omega) (by omega) hI (pgX_rf _ _) (fun j h => absurd h (Nat.not_lt_zero j)) hP hD hS (lv_sub hl [1, 2, 3, 0] rfl)
def v_X5_init : List Cond := .code yX5_init cX5_init 3 none :: ([.code objectInit ⟨#[0xb1]⟩ 1 none, .methodLink RX5 3 objectInit, .instanceMethod objectInit, .classLink RX5 9 RX4, .fieldLink RX5 11 "TwinRoots$Plan" "drafts" "[LTwinRoots$Page;", .arrayClass .int, .fieldLink RX5 20 "TwinRoots$Plan" "targets" "[I", .instantiable RX4 4, .initialized RX4, .code yX4_init cX4_init 2 none, .methodLink RX4 3 objectInit, .fieldLink RX4 9 "TwinRoots$Page" "leaf" "Z", .fieldLink RX4 15 "TwinRoots$Page" "keys" "[I", .fieldLink RX4 19 "TwinRoots$Page" "refs" "[I", .methodLink RX5 17 yX4_init, .instanceMethod yX4_init, .fieldLink RX5 24 "TwinRoots$Plan" "blank" "LTwinRoots$Page;"] ++ (wsX50 ++ (wsX40 ++ ([]))))
set_option maxRecDepth 20000 in
theorem g_X5_init_X4_init : GoodIn v_X5_init v_X4_init := goodIn_r _ [10, 1, 11, 3, 12, 6, 13, 14, 26, 27, 28, 29] (by decide +kernel) (by decide +kernel)
set_option maxHeartbeats 4000000 in
set_option maxRecDepth 100000 in
/-- Plan(w) -/
theorem c_X5_init (l : Launch) (dC : Nat → ClassId) (dI : Nat → Nat → Nat) (sz : Nat) (hp : Nat) (w : Nat) (G : pgG) (Pg : List Nat) (cI : ClassId) (S : pgS) (zw : w ≤ 40) (hI : pgI G Pg S) : Met l yX5_init v_X5_init ({ frames := 2, cells := 80, slots := 2234, locals := 33 } : Room) (va_Pc [.ref hp, .int (nI w)] (fun U => U.heap.size = sz ∧ va_P (dC, dI) vwCl ([(hp, .inr (5, [.int 0, .long 0, .long 0, .int 0, .null, .null, .null, .long 0]))] ++ pool G cI Pg S) U.heap ∧ va_K (dC, dI) vwCl [(cI, .int)] U ∧ va_D (fun _ => True) ([(hp, .inr (5, [.int 0, .long 0, .long 0, .int 0, .null, .null, .null, .long 0]))] ++ pool G cI Pg S) ∧ va_AO RX4 U)) (va_Qv (fun (u : Nat × Nat × Nat × ClassId × (Nat → Option Nat) × pgG × List Nat × pgS) => match u with | (pd, pt, pb, cO, fd, G2, Pg2, S2) => pgI G2 Pg2 S2 ∧ pgX G Pg G2 Pg2 ∧ (∀ i, i < 25 → ∃ a, a ∈ Pg2 ∧ (G2 a).2.2.2 = 1 ∧ fd i = some a) ∧ pb ∈ Pg2 ∧ (G2 pb).2.2.2 = 1) (fun (u : Nat × Nat × Nat × ClassId × (Nat → Option Nat) × pgG × List Nat × pgS) (t : State) => match u with | (pd, pt, pb, cO, fd, G2, Pg2, S2) => va_P (dC, dI) vwCl ([(hp, .inr (5, [.int 0, .long 0, .long 0, .int 0, .ref pd, .ref pt, .ref pb, .long 0])), (pd, .inl (cO, 25, .inr (.inr (.inr (.inr fd))))), MA9 pt cI 25 (fun _ => 0)] ++ pool G2 cI Pg2 S2) t.heap ∧ va_K (dC, dI) vwCl [(cI, .int), (cO, .object RX4)] t ∧ va_D (va_A ([(hp, .inr (5, [.int 0, .long 0, .long 0, .int 0, .null, .null, .null, .long 0]))] ++ pool G cI Pg S) sz) ([(hp, .inr (5, [.int 0, .long 0, .long 0, .int 0, .ref pd, .ref pt, .ref pb, .long 0])), (pd, .inl (cO, 25, .inr (.inr (.inr (.inr fd))))), MA9 pt cI 25 (fun _ => 0)] ++ pool G2 cI Pg2 S2)) (va_A ([(hp, .inr (5, [.int 0, .long 0, .long 0, .int 0, .null, .null, .null, .long 0]))] ++ pool G cI Pg S) sz)) 80 2234 (va_A ([(hp, .inr (5, [.int 0, .long 0, .long 0, .int 0, .null, .null, .null, .long 0]))] ++ pool G cI Pg S) sz) := by
  refine Met.ofW (cc := cX5_init) (maxL := 3) (ret := none) (by decide) rfl ?_
  intro p e s m args below meth c s₁ B hml hv
  obtain ⟨rfl, hsz, hP, hK, hD0, hAO⟩ := hv
  have hx := B.exec
  have hb := B.bytes
  have hr := B.returns
  have hts := atoms_spec (ws := v_X5_init) B.pre
  have hown : s.vm.findClass RX5 = some m.cls := findClass_of_methodNamed B.named
  have hlocks := B.notSynchronized
  have hin : meth.name = "<init>" := (name_of_methodNamed B.named B.method).1
  subst hsz
  have hD := hD0.self (sz := s.heap.size)
  generalize hAe : va_A ([(hp, .inr (5, [.int 0, .long 0, .long 0, .int 0, .null, .null, .null, .long 0]))] ++ pool G cI Pg S) s.heap.size = A at hD ⊢
  have hA : ∀ q : Nat, s.heap.size ≤ q → A q := fun q h => by rw [← hAe]; exact Or.inr h
  have hS : va_S A s.heap s.heap [] := va_S.rf
  have hP : va_P (dC, dI) vwCl ([(hp, .inr (5, [.int 0, .long 0, .long 0, .int 0, .null, .null, .null, .long 0]))] ++ pool G cI Pg S) s.heap := hP
  have hl := lv_entry ([.ref hp, .int (nI w)]) (n := 3) (Nat.le_of_ble_eq_true rfl)
  rw [lg_entry_eq]
  generalize (lg_sl ([.ref hp, .int (nI w)]) ++ List.replicate (3 - (lg_sl ([.ref hp, .int (nI w)])).length) Slot.unset).toArray = ls at hl ⊢
  have hl : lv_has ls 3 [(0, .ref hp), (1, .int (nI w))] := hl
  have k_1 := hts (.code objectInit ⟨#[0xb1]⟩ 1 none) (List.mem_of_getElem? (i := 1) rfl)
  have k_2 := hts (.methodLink RX5 3 objectInit) (List.mem_of_getElem? (i := 2) rfl)
  have k_3 := hts (.instanceMethod objectInit) (List.mem_of_getElem? (i := 3) rfl)
  have k_4 := hts (.classLink RX5 9 RX4) (List.mem_of_getElem? (i := 4) rfl)
  have k_5 := (fun _ h => List.mem_cons_of_mem _ (List.mem_append_right _ (List.mem_append_left _ h)) : ∀ w ∈ wsX50, w ∈ v_X5_init)
  have k_6 := hts (.fieldLink RX5 11 "TwinRoots$Plan" "drafts" "[LTwinRoots$Page;") (List.mem_of_getElem? (i := 5) rfl)
  have k_7 := hts (.arrayClass .int) (List.mem_of_getElem? (i := 6) rfl)
  have k_8 := hts (.fieldLink RX5 20 "TwinRoots$Plan" "targets" "[I") (List.mem_of_getElem? (i := 7) rfl)
  have k_9 := (fun _ h => List.mem_cons_of_mem _ (List.mem_append_right _ (List.mem_append_right _ (List.mem_append_left _ h))) : ∀ w ∈ wsX40, w ∈ v_X5_init)
  have k_10 := hts (.instantiable RX4 4) (List.mem_of_getElem? (i := 8) rfl)
  have k_11 := hts (.initialized RX4) (List.mem_of_getElem? (i := 9) rfl)
  have k_12 := hts (.methodLink RX5 17 yX4_init) (List.mem_of_getElem? (i := 15) rfl)
  have k_13 := hts (.instanceMethod yX4_init) (List.mem_of_getElem? (i := 16) rfl)
  have k_14 := hts (.fieldLink RX5 24 "TwinRoots$Plan" "blank" "LTwinRoots$Page;") (List.mem_of_getElem? (i := 17) rfl)
  have hX : pgX G Pg G Pg := pgX_rf _ _
  refine lv_aload_n hx hb dX5_init_0 rfl (lv_at hl 0 rfl) ?_
  refine W.objInit hx hb hown k_2 k_3 k_1 rfl (by rw [hml]; exact hl.1) rfl dX5_init_1 (Nat.le_of_ble_eq_true rfl) (Nat.le_of_ble_eq_true rfl) ?_
  refine W.eq (g2 := F0 m 4 ls []) rfl ?_
  refine lv_aload_n hx hb dX5_init_4 rfl (lv_at hl 0 rfl) ?_
  refine lv_bipush (v := 25) hx hb dX5_init_5 (by decide) ?_
  refine va_newq (C := RX4) hx hb hown k_4 hAO hK hP hD hS hA (by decide) (by decide) (show 25 * 4 ≤ 536870912 by omega) (show 0 + 1 ≤ 80 by omega) (show 0 + 25 ≤ 2234 by omega) dX5_init_7 (fun qp cqp H hK hP hD hS => ?_)
  replace hP := hP.swap
  replace hD := hD.swap
  replace hP : va_P (dC, dI) vwCl ([(hp, .inr (5, [.int 0, .long 0, .long 0, .int 0, .null, .null, .null, .long 0])), (qp, .inl (cqp, 25, .inr (.inr (.inr (.inr (fun _ => none))))))] ++ pool G cI Pg S) H := hP
  replace hD : va_D A ([(hp, .inr (5, [.int 0, .long 0, .long 0, .int 0, .null, .null, .null, .long 0])), (qp, .inl (cqp, 25, .inr (.inr (.inr (.inr (fun _ => none))))))] ++ pool G cI Pg S) := hD
  replace hK : va_K (dC, dI) vwCl [(cI, .int), (cqp, .object RX4)] s := hK
  refine W.widen (k := 1) (n := 25) (by omega) (by omega) ?_
  refine va_putF (D := (dC, dI)) (ci := 5) (v := .ref qp) (ty := (.array (.object "TwinRoots$Page"))) (C := RX5) (T := TX5) (N := 8) hx hb hts k_5 tyX5 tyX5_ok nmX5 hown hK hP hD hS 0 rfl rfl 4 (by decide) k_6 (fun _ h9 => h9) rfl hin rfl (by decide +kernel) rfl rfl (Nat.le_of_ble_eq_true rfl) dX5_init_10 (fun H locs hP9 hD9 hS9 => ?_)
  replace hP := hP9
  replace hD := hD9
  replace hS := hS9
  clear hP9 hD9 hS9
  replace hP : va_P (dC, dI) vwCl ([(hp, .inr (5, [.int 0, .long 0, .long 0, .int 0, .ref qp, .null, .null, .long 0])), (qp, .inl (cqp, 25, .inr (.inr (.inr (.inr (fun _ => none))))))] ++ pool G cI Pg S) H := hP
  replace hD : va_D A ([(hp, .inr (5, [.int 0, .long 0, .long 0, .int 0, .ref qp, .null, .null, .long 0])), (qp, .inl (cqp, 25, .inr (.inr (.inr (.inr (fun _ => none))))))] ++ pool G cI Pg S) := hD
  refine lv_iconst (v := 0) hx hb dX5_init_13 (by decide) ?_
  refine lv_istore_n (lv' := [(2, .int 0), (0, .ref hp), (1, .int (nI w))]) hx hb dX5_init_14 rfl hl (by decide) rfl (fun ls hl9 => ?_)
  replace hl := hl9
  clear hl9
  refine jn_cut (P := fun Q => ∀ (nf i : Nat) (g : Nat → Option Nat) (Gv : pgG) (Pv : List Nat) (Sv : pgS) (H : Heap) (locs : List Loc) (ls : Array Slot), i ≤ 25 → 25 + 1 ≤ i + nf → (pgI Gv Pv Sv) → (pgX G Pg Gv Pv) → (∀ j, j < i → ∃ a, a ∈ Pv ∧ (Gv a).2.2.2 = 1 ∧ g j = some a) → va_P (dC, dI) vwCl ([(hp, .inr (5, [.int 0, .long 0, .long 0, .int 0, .ref qp, .null, .null, .long 0])), (qp, .inl (cqp, 25, .inr (.inr (.inr (.inr g)))))] ++ pool Gv cI Pv Sv) H → va_D A ([(hp, .inr (5, [.int 0, .long 0, .long 0, .int 0, .ref qp, .null, .null, .long 0])), (qp, .inl (cqp, 25, .inr (.inr (.inr (.inr g)))))] ++ pool Gv cI Pv Sv) → va_S A s.heap H locs → lv_has ls 3 [(0, .ref hp), (1, .int (nI w)), (2, .int (nI i))] → W p l e (headSpec v_X5_init ({ frames := 2, cells := 80, slots := 2234, locals := 33 } : Room)).room s m ([.ref hp, .int (nI w)] : List Value).toArray below meth c H locs (1 + 3 * i) (25 + 84 * i) Q (F0 m 15 ls [])) ?_ (fun loop_15 => ?_)
  · intro nf
    induction nf with
    | zero =>
      intro i g Gv Pv Sv H locs ls h1 h2
      exact absurd h2 (by omega)
    | succ nf ih_15 =>
      intro i g Gv Pv Sv H locs ls hi hn hI hX hAr hP hD hS hl
      refine lv_iload_n hx hb dX5_init_15 rfl (lv_at hl 2 rfl) ?_
      refine lv_aload_n hx hb dX5_init_16 rfl (lv_at hl 0 rfl) ?_
      refine va_get (D := (dC, dI)) (ci := 5) (v := .ref qp) (C := RX5) (T := TX5) (N := 8) hx hb hts k_5 hown hK hP 0 rfl rfl 4 (by decide) k_6 (fun _ h9 => h9) rfl dX5_init_17 ?_
      refine va_alen (v := nI 25) hx hb hK hP 1 1 rfl rfl rfl dX5_init_20 ?_
      refine lv_icmp_ge (tgt := 44) hx hb dX5_init_21 (by decide) (fun c_1 => ?_) (fun c_1 => ?_)
      · have hge : 25 ≤ i := (nI_leI (a := 25) (by decide) (by omega)).mp c_1
        have hAr : ∀ j, j < 25 → ∃ a, a ∈ Pv ∧ (Gv a).2.2.2 = 1 ∧ g j = some a := fun j hj => hAr j (by omega)
        refine lv_aload_n hx hb dX5_init_44 rfl (lv_at hl 0 rfl) ?_
        refine lv_aload_n hx hb dX5_init_45 rfl (lv_at hl 0 rfl) ?_
        refine va_get (D := (dC, dI)) (ci := 5) (v := .ref qp) (C := RX5) (T := TX5) (N := 8) hx hb hts k_5 hown hK hP 0 rfl rfl 4 (by decide) k_6 (fun _ h9 => h9) rfl dX5_init_46 ?_
        refine va_alen (v := nI 25) hx hb hK hP 1 1 rfl rfl rfl dX5_init_49 ?_
        refine va_newa (atype := .int) (a0 := (25, .inl (fun _ => 0))) hx hb k_7 (ty := .int) rfl hK hP hD hS hA (fun _ => rfl) (nI_pos (by omega)) (nI_clamp (by omega)) (by exact cb_int (by omega)) (show 1 + 3 * i + 1 ≤ 80 by omega) (show 25 + 84 * i + 25 ≤ 2234 by omega) dX5_init_50 (fun q_2 cA_3 H hK hP hD hS => ?_)
        replace hP := hP.swap
        replace hD := hD.swap
        replace hP : va_P (dC, dI) vwCl ([(hp, .inr (5, [.int 0, .long 0, .long 0, .int 0, .ref qp, .null, .null, .long 0])), (qp, .inl (cqp, 25, .inr (.inr (.inr (.inr g))))), MA9 q_2 cA_3 25 (fun _ => 0)] ++ pool Gv cI Pv Sv) H := hP
        replace hD : va_D A ([(hp, .inr (5, [.int 0, .long 0, .long 0, .int 0, .ref qp, .null, .null, .long 0])), (qp, .inl (cqp, 25, .inr (.inr (.inr (.inr g))))), MA9 q_2 cA_3 25 (fun _ => 0)] ++ pool Gv cI Pv Sv) := hD
        replace hK : va_K (dC, dI) vwCl [(cI, .int), (cqp, .object RX4), (cA_3, .int)] s := hK
        have e9 : cI = cA_3 := cA_int hK (i := 0) (j := 2) rfl rfl
        subst e9
        replace hK : va_K (dC, dI) vwCl [(cI, .int), (cqp, .object RX4)] s := hK.sub [0, 1] rfl
        refine W.widen (k := 1 + 3 * i + 1) (n := 25 + 84 * i + 25) (by omega) (by omega) ?_
        refine va_putF (D := (dC, dI)) (ci := 5) (v := .ref q_2) (ty := (.array .int)) (C := RX5) (T := TX5) (N := 8) hx hb hts k_5 tyX5 tyX5_ok nmX5 hown hK hP hD hS 0 rfl rfl 5 (by decide) k_8 (fun _ h9 => h9) rfl hin rfl (by decide +kernel) rfl rfl (Nat.le_of_ble_eq_true rfl) dX5_init_52 (fun H locs hP9 hD9 hS9 => ?_)
        replace hP := hP9
        replace hD := hD9
        replace hS := hS9
        clear hP9 hD9 hS9
        replace hP : va_P (dC, dI) vwCl ([(hp, .inr (5, [.int 0, .long 0, .long 0, .int 0, .ref qp, .ref q_2, .null, .long 0])), (qp, .inl (cqp, 25, .inr (.inr (.inr (.inr g))))), MA9 q_2 cI 25 (fun _ => 0)] ++ pool Gv cI Pv Sv) H := hP
        replace hD : va_D A ([(hp, .inr (5, [.int 0, .long 0, .long 0, .int 0, .ref qp, .ref q_2, .null, .long 0])), (qp, .inl (cqp, 25, .inr (.inr (.inr (.inr g))))), MA9 q_2 cI 25 (fun _ => 0)] ++ pool Gv cI Pv Sv) := hD
        refine lv_aload_n hx hb dX5_init_55 rfl (lv_at hl 0 rfl) ?_
        refine va_new (ci := 4) (fs := [.int 0, .int 0, .null, .null]) (C := RX4) (T := TX4) (N := 4) hx hb hts k_9 tyX4 tyX4_ok hown k_4 k_10 k_11 hK hP hD hS hA rfl (fun j hj => by rcases (show j = 0 ∨ j = 1 ∨ j = 2 ∨ j = 3 by omega) with rfl | rfl | rfl | rfl <;> rfl) (show 1 + 3 * i + 1 + 1 ≤ 80 by omega) (show 25 + 84 * i + 25 + 4 ≤ 2234 by omega) dX5_init_56 (fun q_4 H hP hD hS => ?_)
        replace hP := hP.swap
        replace hD := hD.swap
        replace hP : va_P (dC, dI) vwCl ([(hp, .inr (5, [.int 0, .long 0, .long 0, .int 0, .ref qp, .ref q_2, .null, .long 0])), (qp, .inl (cqp, 25, .inr (.inr (.inr (.inr g))))), MA9 q_2 cI 25 (fun _ => 0), (q_4, .inr (4, [.int 0, .int 0, .null, .null]))] ++ pool Gv cI Pv Sv) H := hP
        replace hD : va_D A ([(hp, .inr (5, [.int 0, .long 0, .long 0, .int 0, .ref qp, .ref q_2, .null, .long 0])), (qp, .inl (cqp, 25, .inr (.inr (.inr (.inr g))))), MA9 q_2 cI 25 (fun _ => 0), (q_4, .inr (4, [.int 0, .int 0, .null, .null]))] ++ pool Gv cI Pv Sv) := hD
        refine W.widen (k := 1 + 3 * i + 1 + 1) (n := 25 + 84 * i + 25 + 4) (by omega) (by omega) ?_
        refine lv_dup hx hb dX5_init_59 rfl ?_
        refine lv_iconst (v := 0) hx hb dX5_init_60 (by decide) ?_
        have hPc := hP.sub (ws' := [(q_4, .inr (4, [.int 0, .int 0, .null, .null]))]) [3] rfl
        have hDc := hD.sub (ws' := [(q_4, .inr (4, [.int 0, .int 0, .null, .null]))]) [3] (by decide) rfl
        have hKc := hK.sub (tys' := []) [] rfl
        have hFc := va_free (wc := [(q_4, .inr (4, [.int 0, .int 0, .null, .null]))]) hD hS hA [3] rfl
        refine va_callv (va_runI (As := [.int 0]) (rest := [.ref q_4, .ref hp]) ⟨hx, hb, hml, hown, hts⟩ (c_X4_init l dC dI H.size q_4 0 (by first | assumption | omega | decide)) (cwI 1 hts g_X5_init_X4_init rfl rfl rfl k_11 k_12 k_13 rfl (by decide +kernel) ⟨Nat.le_of_ble_eq_true rfl, Nat.le_of_ble_eq_true rfl⟩) ⟨fun a U g mk q => by obtain ⟨q0, q1, qP, qK, qD⟩ := q; exact ⟨q0, q1, qP, va_K.moved (u := U) (U := U.calling g mk a) (Vm.Alike.refl U.vm) qK, qD⟩, fun U hU hW => ⟨rfl, by rw [hU], by rw [hU]; exact hPc, va_K.moved hW.alike hKc, hDc.weaken (fun _ _ _ _ => trivial)⟩⟩ rfl rfl hl.1 rfl (lv_room (Nat.le_of_ble_eq_true rfl)) dX5_init_61 ⟨(show 1 + 3 * i + 1 + 1 + 2 ≤ 80 by omega), (show 25 + 84 * i + 25 + 4 + 80 ≤ 2234 by omega)⟩) hS (fun q _ h => hFc q h) hFc (fun u t H1 locs ht hvm hw hB hz1 hk1 hS9 => ?_)
        replace hS := hS9
        clear hS9
        obtain ⟨q1_6, q2_7, cK_8, cR_9⟩ := u
        obtain ⟨hP1, hK1, hD1⟩ := hB
        rw [ht] at hP1
        replace hK1 := va_K.moved hvm.symm hK1
        try dsimp only at hw
        obtain ⟨hP9, hD9⟩ := va_joinQ (wr := [(hp, .inr (5, [.int 0, .long 0, .long 0, .int 0, .ref qp, .ref q_2, .null, .long 0])), (qp, .inl (cqp, 25, .inr (.inr (.inr (.inr g))))), MA9 q_2 cI 25 (fun _ => 0)]) (w1 := [(q_4, .inr (4, [.int 1, .int 0, .ref q1_6, .ref q2_7])), MA9 q1_6 cK_8 0 (fun _ => 0), MA9 q2_7 cR_9 0 (fun _ => 0)]) hP hD [3] [0, 1, 2] rfl rfl (by decide) (by decide) hk1 hFc hP1 hD1
        replace hP := hP9
        replace hD := hD9
        clear hP9 hD9
        replace hK := (hK.sub (tys' := [(cI, .int), (cqp, .object RX4)]) [0, 1] rfl).app hK1
        clear hP1 hD1 hK1 hPc hDc hKc hFc hk1 hz1 hvm ht
        generalize H1 = H at hP hS ⊢
        replace hP : va_P (dC, dI) vwCl ([(hp, .inr (5, [.int 0, .long 0, .long 0, .int 0, .ref qp, .ref q_2, .null, .long 0])), (qp, .inl (cqp, 25, .inr (.inr (.inr (.inr g))))), MA9 q_2 cI 25 (fun _ => 0), (q_4, .inr (4, [.int 1, .int 0, .ref q1_6, .ref q2_7])), MA9 q1_6 cK_8 0 (fun _ => 0), MA9 q2_7 cR_9 0 (fun _ => 0)] ++ pool Gv cI Pv Sv) H := hP
        replace hD : va_D A ([(hp, .inr (5, [.int 0, .long 0, .long 0, .int 0, .ref qp, .ref q_2, .null, .long 0])), (qp, .inl (cqp, 25, .inr (.inr (.inr (.inr g))))), MA9 q_2 cI 25 (fun _ => 0), (q_4, .inr (4, [.int 1, .int 0, .ref q1_6, .ref q2_7])), MA9 q1_6 cK_8 0 (fun _ => 0), MA9 q2_7 cR_9 0 (fun _ => 0)] ++ pool Gv cI Pv Sv) := hD
        replace hK : va_K (dC, dI) vwCl [(cI, .int), (cqp, .object RX4), (cK_8, .int), (cR_9, .int)] s := hK
        have e9 : cI = cR_9 := cA_int hK (i := 0) (j := 3) rfl rfl
        subst e9
        replace hK : va_K (dC, dI) vwCl [(cI, .int), (cqp, .object RX4), (cK_8, .int)] s := hK.sub [0, 1, 2] rfl
        have e9 : cI = cK_8 := cA_int hK (i := 0) (j := 2) rfl rfl
        subst e9
        replace hK : va_K (dC, dI) vwCl [(cI, .int), (cqp, .object RX4)] s := hK.sub [0, 1] rfl
        refine W.widen (k := 1 + 3 * i + 1 + 1 + 2) (n := 25 + 84 * i + 25 + 4 + 80) (by omega) (by omega) ?_
        refine va_putF (D := (dC, dI)) (ci := 5) (v := .ref q_4) (ty := (.object "TwinRoots$Page")) (C := RX5) (T := TX5) (N := 8) hx hb hts k_5 tyX5 tyX5_ok nmX5 hown hK hP hD hS 0 rfl rfl 6 (by decide) k_14 (fun _ h9 => h9) rfl hin rfl (by decide +kernel) rfl rfl (Nat.le_of_ble_eq_true rfl) dX5_init_64 (fun H locs hP9 hD9 hS9 => ?_)
        replace hP := hP9
        replace hD := hD9
        replace hS := hS9
        clear hP9 hD9 hS9
        replace hP : va_P (dC, dI) vwCl ([(hp, .inr (5, [.int 0, .long 0, .long 0, .int 0, .ref qp, .ref q_2, .ref q_4, .long 0])), (qp, .inl (cqp, 25, .inr (.inr (.inr (.inr g))))), MA9 q_2 cI 25 (fun _ => 0), (q_4, .inr (4, [.int 1, .int 0, .ref q1_6, .ref q2_7])), MA9 q1_6 cI 0 (fun _ => 0), MA9 q2_7 cI 0 (fun _ => 0)] ++ pool Gv cI Pv Sv) H := hP
        replace hD : va_D A ([(hp, .inr (5, [.int 0, .long 0, .long 0, .int 0, .ref qp, .ref q_2, .ref q_4, .long 0])), (qp, .inl (cqp, 25, .inr (.inr (.inr (.inr g))))), MA9 q_2 cI 25 (fun _ => 0), (q_4, .inr (4, [.int 1, .int 0, .ref q1_6, .ref q2_7])), MA9 q1_6 cI 0 (fun _ => 0), MA9 q2_7 cI 0 (fun _ => 0)] ++ pool Gv cI Pv Sv) := hD
        obtain ⟨hna, hP, hD⟩ := pool_add (a := q_4) (k := q1_6) (r := q2_7) (n := 0) (m := 0) 1 (x := 1) (f := (fun _ => 0)) (g := (fun _ => 0)) (wr := [(hp, .inr (5, [.int 0, .long 0, .long 0, .int 0, .ref qp, .ref q_2, .ref q_4, .long 0])), (qp, .inl (cqp, 25, .inr (.inr (.inr (.inr g))))), MA9 q_2 cI 25 (fun _ => 0)]) hP hD [0, 1, 2] 3 4 5 rfl (by decide)
        have hXn := pgX_up (G := Gv) (q1_6, q2_7, 0, 1) hna
        have hI := pgI_up (a := q_4) (k := q1_6) (r := q2_7) (n := 0) (t := 1) (m := 0) (x := 1) (f := (fun _ => 0)) (g := (fun _ => 0)) hI (Or.inr rfl) (Nat.zero_le _) (by omega)
        have hm_q_4 : q_4 ∈ q_4 :: Pv := List.mem_cons_self
        have ht_q_4 : ((va_up Gv q_4 (q1_6, q2_7, 0, 1)) q_4).2.2.2 = 1 := by rw [va_up_at]
        have hAr := pgA_x hAr hXn
        obtain ⟨G_10, eG_10⟩ : ∃ x, x = va_up Gv q_4 (q1_6, q2_7, 0, 1) := ⟨_, rfl⟩
        obtain ⟨S_12, eS_12⟩ : ∃ x, x = va_up Sv q_4 (1, 0, (fun _ => 0), (fun _ => 0)) := ⟨_, rfl⟩
        obtain ⟨P_11, eP_11⟩ : ∃ x, x = q_4 :: Pv := ⟨_, rfl⟩
        rw [← eG_10, ← eS_12, ← eP_11] at hP hD
        rw [← eG_10, ← eS_12, ← eP_11] at hI
        rw [← eG_10, ← eP_11] at hXn
        rw [← eP_11] at hm_q_4
        rw [← eG_10] at ht_q_4
        rw [← eG_10, ← eP_11] at hAr
        have hX := pgX_tr hX hXn
        replace hP : va_P (dC, dI) vwCl ([(hp, .inr (5, [.int 0, .long 0, .long 0, .int 0, .ref qp, .ref q_2, .ref q_4, .long 0])), (qp, .inl (cqp, 25, .inr (.inr (.inr (.inr g))))), MA9 q_2 cI 25 (fun _ => 0)] ++ pool G_10 cI P_11 S_12) H := hP
        replace hD : va_D A ([(hp, .inr (5, [.int 0, .long 0, .long 0, .int 0, .ref qp, .ref q_2, .ref q_4, .long 0])), (qp, .inl (cqp, 25, .inr (.inr (.inr (.inr g))))), MA9 q_2 cI 25 (fun _ => 0)] ++ pool G_10 cI P_11 S_12) := hD
        have hP9 := hP.part (cx := [(hp, .inr (5, [.int 0, .long 0, .long 0, .int 0, .ref qp, .ref q_2, .ref q_4, .long 0])), (qp, .inl (cqp, 25, .inr (.inr (.inr (.inr g))))), MA9 q_2 cI 25 (fun _ => 0)]) [0, 1, 2] rfl
        have hD9 := hD.part (cx := [(hp, .inr (5, [.int 0, .long 0, .long 0, .int 0, .ref qp, .ref q_2, .ref q_4, .long 0])), (qp, .inl (cqp, 25, .inr (.inr (.inr (.inr g))))), MA9 q_2 cI 25 (fun _ => 0)]) [0, 1, 2] (by decide) rfl
        have hK9 := hK.sub (tys' := [(cI, .int), (cqp, .object RX4)]) [0, 1] rfl
        refine W.widen (k := 80) (n := 2234) (by omega) (by omega) ?_
        exact W.vret hx hb hr (fun t ht hW => ⟨⟨(qp, q_2, q_4, cqp, g, G_10, P_11, S_12), rfl, ⟨hI, hX, hAr, hm_q_4, ht_q_4⟩, by rw [ht]; exact hP9, va_K.moved hW.alike hK9, hD9⟩, hS.F ht⟩) hS.2.2 dX5_init_67
      · have hlt : i < 25 := Nat.lt_of_not_le (fun h => c_1 (nI_le h (by omega)))
        refine lv_aload_n hx hb dX5_init_24 rfl (lv_at hl 0 rfl) ?_
        refine va_get (D := (dC, dI)) (ci := 5) (v := .ref qp) (C := RX5) (T := TX5) (N := 8) hx hb hts k_5 hown hK hP 0 rfl rfl 4 (by decide) k_6 (fun _ h9 => h9) rfl dX5_init_25 ?_
        refine lv_iload_n hx hb dX5_init_28 rfl (lv_at hl 2 rfl) ?_
        refine va_new (ci := 4) (fs := [.int 0, .int 0, .null, .null]) (C := RX4) (T := TX4) (N := 4) hx hb hts k_9 tyX4 tyX4_ok hown k_4 k_10 k_11 hK hP hD hS hA rfl (fun j hj => by rcases (show j = 0 ∨ j = 1 ∨ j = 2 ∨ j = 3 by omega) with rfl | rfl | rfl | rfl <;> rfl) (show 1 + 3 * i + 1 ≤ 80 by omega) (show 25 + 84 * i + 4 ≤ 2234 by omega) dX5_init_29 (fun q_13 H hP hD hS => ?_)
        replace hP := hP.swap
        replace hD := hD.swap
        replace hP : va_P (dC, dI) vwCl ([(hp, .inr (5, [.int 0, .long 0, .long 0, .int 0, .ref qp, .null, .null, .long 0])), (qp, .inl (cqp, 25, .inr (.inr (.inr (.inr g))))), (q_13, .inr (4, [.int 0, .int 0, .null, .null]))] ++ pool Gv cI Pv Sv) H := hP
        replace hD : va_D A ([(hp, .inr (5, [.int 0, .long 0, .long 0, .int 0, .ref qp, .null, .null, .long 0])), (qp, .inl (cqp, 25, .inr (.inr (.inr (.inr g))))), (q_13, .inr (4, [.int 0, .int 0, .null, .null]))] ++ pool Gv cI Pv Sv) := hD
        refine W.widen (k := 1 + 3 * i + 1) (n := 25 + 84 * i + 4) (by omega) (by omega) ?_
        refine lv_dup hx hb dX5_init_32 rfl ?_
        refine lv_iload_n hx hb dX5_init_33 rfl (lv_at hl 1 rfl) ?_
        have hPc := hP.sub (ws' := [(q_13, .inr (4, [.int 0, .int 0, .null, .null]))]) [2] rfl
        have hDc := hD.sub (ws' := [(q_13, .inr (4, [.int 0, .int 0, .null, .null]))]) [2] (by decide) rfl
        have hKc := hK.sub (tys' := []) [] rfl
        have hFc := va_free (wc := [(q_13, .inr (4, [.int 0, .int 0, .null, .null]))]) hD hS hA [2] rfl
        refine va_callv (va_runI (As := [.int (nI w)]) (rest := [.ref q_13, .int (nI i), .ref qp]) ⟨hx, hb, hml, hown, hts⟩ (c_X4_init l dC dI H.size q_13 w (by first | assumption | omega | decide)) (cwI 1 hts g_X5_init_X4_init rfl rfl rfl k_11 k_12 k_13 rfl (by decide +kernel) ⟨Nat.le_of_ble_eq_true rfl, Nat.le_of_ble_eq_true rfl⟩) ⟨fun a U g mk q => by obtain ⟨q0, q1, qP, qK, qD⟩ := q; exact ⟨q0, q1, qP, va_K.moved (u := U) (U := U.calling g mk a) (Vm.Alike.refl U.vm) qK, qD⟩, fun U hU hW => ⟨rfl, by rw [hU], by rw [hU]; exact hPc, va_K.moved hW.alike hKc, hDc.weaken (fun _ _ _ _ => trivial)⟩⟩ rfl rfl hl.1 rfl (lv_room (Nat.le_of_ble_eq_true rfl)) dX5_init_34 ⟨(show 1 + 3 * i + 1 + 2 ≤ 80 by omega), (show 25 + 84 * i + 4 + 80 ≤ 2234 by omega)⟩) hS (fun q _ h => hFc q h) hFc (fun u t H1 locs ht hvm hw hB hz1 hk1 hS9 => ?_)
        replace hS := hS9
        clear hS9
        obtain ⟨q1_15, q2_16, cK_17, cR_18⟩ := u
        obtain ⟨hP1, hK1, hD1⟩ := hB
        rw [ht] at hP1
        replace hK1 := va_K.moved hvm.symm hK1
        try dsimp only at hw
        obtain ⟨hP9, hD9⟩ := va_joinQ (wr := [(hp, .inr (5, [.int 0, .long 0, .long 0, .int 0, .ref qp, .null, .null, .long 0])), (qp, .inl (cqp, 25, .inr (.inr (.inr (.inr g)))))]) (w1 := [(q_13, .inr (4, [.int 1, .int 0, .ref q1_15, .ref q2_16])), MA9 q1_15 cK_17 w (fun _ => 0), MA9 q2_16 cR_18 w (fun _ => 0)]) hP hD [2] [0, 1] rfl rfl (by decide) (by decide) hk1 hFc hP1 hD1
        replace hP := hP9
        replace hD := hD9
        clear hP9 hD9
        replace hK := (hK.sub (tys' := [(cI, .int), (cqp, .object RX4)]) [0, 1] rfl).app hK1
        clear hP1 hD1 hK1 hPc hDc hKc hFc hk1 hz1 hvm ht
        generalize H1 = H at hP hS ⊢
        replace hP : va_P (dC, dI) vwCl ([(hp, .inr (5, [.int 0, .long 0, .long 0, .int 0, .ref qp, .null, .null, .long 0])), (qp, .inl (cqp, 25, .inr (.inr (.inr (.inr g))))), (q_13, .inr (4, [.int 1, .int 0, .ref q1_15, .ref q2_16])), MA9 q1_15 cK_17 w (fun _ => 0), MA9 q2_16 cR_18 w (fun _ => 0)] ++ pool Gv cI Pv Sv) H := hP
        replace hD : va_D A ([(hp, .inr (5, [.int 0, .long 0, .long 0, .int 0, .ref qp, .null, .null, .long 0])), (qp, .inl (cqp, 25, .inr (.inr (.inr (.inr g))))), (q_13, .inr (4, [.int 1, .int 0, .ref q1_15, .ref q2_16])), MA9 q1_15 cK_17 w (fun _ => 0), MA9 q2_16 cR_18 w (fun _ => 0)] ++ pool Gv cI Pv Sv) := hD
        replace hK : va_K (dC, dI) vwCl [(cI, .int), (cqp, .object RX4), (cK_17, .int), (cR_18, .int)] s := hK
        have e9 : cI = cR_18 := cA_int hK (i := 0) (j := 3) rfl rfl
        subst e9
        replace hK : va_K (dC, dI) vwCl [(cI, .int), (cqp, .object RX4), (cK_17, .int)] s := hK.sub [0, 1, 2] rfl
        have e9 : cI = cK_17 := cA_int hK (i := 0) (j := 2) rfl rfl
        subst e9
        replace hK : va_K (dC, dI) vwCl [(cI, .int), (cqp, .object RX4)] s := hK.sub [0, 1] rfl
        refine W.widen (k := 1 + 3 * i + 1 + 2) (n := 25 + 84 * i + 4 + 80) (by omega) (by omega) ?_
        refine va_astq hx hb hK hP hD hS 1 1 2 4 rfl rfl rfl rfl (show vp_in (nI i) 25 from vp_in_nI (by omega) (by omega)) dX5_init_37 (fun H locs hP9 hD9 hS9 => ?_)
        replace hP := hP9
        replace hD := hD9
        replace hS := hS9
        clear hP9 hD9 hS9
        replace hP : va_P (dC, dI) vwCl ([(hp, .inr (5, [.int 0, .long 0, .long 0, .int 0, .ref qp, .null, .null, .long 0])), (qp, .inl (cqp, 25, .inr (.inr (.inr (.inr (va_up g ((nI i).toNatClampNeg) (some q_13))))))), (q_13, .inr (4, [.int 1, .int 0, .ref q1_15, .ref q2_16])), MA9 q1_15 cI w (fun _ => 0), MA9 q2_16 cI w (fun _ => 0)] ++ pool Gv cI Pv Sv) H := hP
        replace hD : va_D A ([(hp, .inr (5, [.int 0, .long 0, .long 0, .int 0, .ref qp, .null, .null, .long 0])), (qp, .inl (cqp, 25, .inr (.inr (.inr (.inr (va_up g ((nI i).toNatClampNeg) (some q_13))))))), (q_13, .inr (4, [.int 1, .int 0, .ref q1_15, .ref q2_16])), MA9 q1_15 cI w (fun _ => 0), MA9 q2_16 cI w (fun _ => 0)] ++ pool Gv cI Pv Sv) := hD
        obtain ⟨f_19, ef_19⟩ : ∃ g9, g9 = va_up g ((nI i).toNatClampNeg) (some q_13) := ⟨_, rfl⟩
        rw [← ef_19] at hP hD
        obtain ⟨hna, hP, hD⟩ := pool_add (a := q_13) (k := q1_15) (r := q2_16) (n := w) (m := 0) 1 (x := 1) (f := (fun _ => 0)) (g := (fun _ => 0)) (wr := [(hp, .inr (5, [.int 0, .long 0, .long 0, .int 0, .ref qp, .null, .null, .long 0])), (qp, .inl (cqp, 25, .inr (.inr (.inr (.inr f_19)))))]) hP hD [0, 1] 2 3 4 rfl (by decide)
        have hXn := pgX_up (G := Gv) (q1_15, q2_16, w, 1) hna
        have hI := pgI_up (a := q_13) (k := q1_15) (r := q2_16) (n := w) (t := 1) (m := 0) (x := 1) (f := (fun _ => 0)) (g := (fun _ => 0)) hI (Or.inr rfl) (Nat.zero_le _) (by omega)
        have hm_q_13 : q_13 ∈ q_13 :: Pv := List.mem_cons_self
        have ht_q_13 : ((va_up Gv q_13 (q1_15, q2_16, w, 1)) q_13).2.2.2 = 1 := by rw [va_up_at]
        have hAr := pgA_up (k := q1_15) (r := q2_16) (n := w) hAr hna (by omega) ef_19
        obtain ⟨G_20, eG_20⟩ : ∃ x, x = va_up Gv q_13 (q1_15, q2_16, w, 1) := ⟨_, rfl⟩
        obtain ⟨S_22, eS_22⟩ : ∃ x, x = va_up Sv q_13 (1, 0, (fun _ => 0), (fun _ => 0)) := ⟨_, rfl⟩
        obtain ⟨P_21, eP_21⟩ : ∃ x, x = q_13 :: Pv := ⟨_, rfl⟩
        rw [← eG_20, ← eS_22, ← eP_21] at hP hD
        rw [← eG_20, ← eS_22, ← eP_21] at hI
        rw [← eG_20, ← eP_21] at hXn
        rw [← eP_21] at hm_q_13
        rw [← eG_20] at ht_q_13
        rw [← eG_20, ← eP_21] at hAr
        have hX := pgX_tr hX hXn
        replace hP : va_P (dC, dI) vwCl ([(hp, .inr (5, [.int 0, .long 0, .long 0, .int 0, .ref qp, .null, .null, .long 0])), (qp, .inl (cqp, 25, .inr (.inr (.inr (.inr f_19)))))] ++ pool G_20 cI P_21 S_22) H := hP
        replace hD : va_D A ([(hp, .inr (5, [.int 0, .long 0, .long 0, .int 0, .ref qp, .null, .null, .long 0])), (qp, .inl (cqp, 25, .inr (.inr (.inr (.inr f_19)))))] ++ pool G_20 cI P_21 S_22) := hD
        refine lv_iinc (v := (nI (i + 1))) (lv' := [(2, .int (nI (i + 1))), (0, .ref hp), (1, .int (nI w))]) hx hb dX5_init_38 hl (k := 2) rfl (nI_1 i) (by decide) rfl (fun ls hl9 => ?_)
        replace hl := hl9
        clear hl9
        refine lv_goto (tgt := 15) hx hb dX5_init_41 (by decide) ?_
        refine W.widen (k := 1 + 3 * (i + 1)) (n := 25 + 84 * (i + 1)) (by omega) (by omega) ?_
        exact ih_15 (i + 1) f_19 G_20 P_21 S_22 _ _ _ (by omega) (by omega) hI hX hAr hP hD hS (lv_sub hl [1, 2, 0] rfl)
  refine W.widen (k := 1 + 3 * 0) (n := 25 + 84 * 0) (by omega) (by omega) ?_
  exact loop_15 (25 + 1) 0 (fun _ => none) G Pg S _ _ _ (by omega) (by omega) hI (pgX_rf _ _) (fun j h => absurd h (Nat.not_lt_zero j)) hP hD hS (lv_sub hl [1, 2, 0] rfl)
def v_X1_init : List Cond := .code yX1_init cX1_init 5 none :: ([.code objectInit ⟨#[0xb1]⟩ 1 none, .methodLink RX1 3 objectInit, .instanceMethod objectInit, .fieldLink RX1 9 "TwinRoots$Editor" "limits" "LTwinRoots$Limits;", .fieldLink RX1 15 "TwinRoots$Editor" "forest" "LTwinRoots$Forest;", .fieldLink RX1 19 "TwinRoots$Editor" "plan" "LTwinRoots$Plan;", .arrayClass .int, .fieldLink RX1 23 "TwinRoots$Editor" "pathBlocks" "[I", .fieldLink RX1 27 "TwinRoots$Editor" "pathPlaces" "[I", .classLink RX1 30 RX4, .instantiable RX4 4, .initialized RX4, .code yX4_init cX4_init 2 none, .methodLink RX4 3 objectInit, .fieldLink RX4 9 "TwinRoots$Page" "leaf" "Z", .fieldLink RX4 15 "TwinRoots$Page" "keys" "[I", .fieldLink RX4 19 "TwinRoots$Page" "refs" "[I", .methodLink RX1 32 yX4_init, .instanceMethod yX4_init, .fieldLink RX1 35 "TwinRoots$Editor" "node" "LTwinRoots$Page;", .fieldLink RX1 39 "TwinRoots$Editor" "mate" "LTwinRoots$Page;", .fieldLink RX1 42 "TwinRoots$Editor" "above" "LTwinRoots$Page;"] ++ (wsX10 ++ (wsX40 ++ ([]))))
set_option maxRecDepth 20000 in
theorem g_X1_init_X4_init : GoodIn v_X1_init v_X4_init := goodIn_r _ [13, 1, 14, 3, 15, 7, 16, 17, 32, 33, 34, 35] (by decide +kernel) (by decide +kernel)
set_option maxHeartbeats 4000000 in
set_option maxRecDepth 100000 in
/-- Editor(..) -/
theorem c_X1_init (l : Launch) (dC : Nat → ClassId) (dI : Nat → Nat → Nat) (sz : Nat) (he : Nat) (w : Nat) (hm : Nat) (hf : Nat) (hp : Nat) (G : pgG) (Pg : List Nat) (cI : ClassId) (S : pgS) (zw : w ≤ 40) (hI : pgI G Pg S) : Met l yX1_init v_X1_init ({ frames := 2, cells := 11, slots := 276, locals := 33 } : Room) (va_Pc [.ref he, .int (nI w), .ref hm, .ref hf, .ref hp] (fun U => U.heap.size = sz ∧ va_P (dC, dI) vwCl ([(he, .inr (1, [.null, .null, .null, .null, .null, .int 0, .null, .null, .null]))] ++ pool G cI Pg S) U.heap ∧ va_K (dC, dI) vwCl [(cI, .int)] U ∧ va_D (fun _ => True) ([(he, .inr (1, [.null, .null, .null, .null, .null, .int 0, .null, .null, .null]))] ++ pool G cI Pg S))) (va_Qv (fun (u : Nat × Nat × Nat × Nat × Nat × pgG × List Nat × pgS) => match u with | (eb, ep, nd, mt, ab, G2, Pg2, S2) => pgI G2 Pg2 S2 ∧ pgX G Pg G2 Pg2 ∧ nd ∈ Pg2 ∧ (G2 nd).2.2.2 = 2 ∧ mt ∈ Pg2 ∧ (G2 mt).2.2.2 = 3 ∧ ab ∈ Pg2 ∧ (G2 ab).2.2.2 = 4) (fun (u : Nat × Nat × Nat × Nat × Nat × pgG × List Nat × pgS) (t : State) => match u with | (eb, ep, nd, mt, ab, G2, Pg2, S2) => va_P (dC, dI) vwCl ([(he, .inr (1, [.ref hm, .ref hf, .ref hp, .ref eb, .ref ep, .int 0, .ref nd, .ref mt, .ref ab])), MA9 eb cI 12 (fun _ => 0), MA9 ep cI 12 (fun _ => 0)] ++ pool G2 cI Pg2 S2) t.heap ∧ va_K (dC, dI) vwCl [(cI, .int)] t ∧ va_D (va_A ([(he, .inr (1, [.null, .null, .null, .null, .null, .int 0, .null, .null, .null]))] ++ pool G cI Pg S) sz) ([(he, .inr (1, [.ref hm, .ref hf, .ref hp, .ref eb, .ref ep, .int 0, .ref nd, .ref mt, .ref ab])), MA9 eb cI 12 (fun _ => 0), MA9 ep cI 12 (fun _ => 0)] ++ pool G2 cI Pg2 S2)) (va_A ([(he, .inr (1, [.null, .null, .null, .null, .null, .int 0, .null, .null, .null]))] ++ pool G cI Pg S) sz)) 11 276 (va_A ([(he, .inr (1, [.null, .null, .null, .null, .null, .int 0, .null, .null, .null]))] ++ pool G cI Pg S) sz) := by
  refine Met.ofW (cc := cX1_init) (maxL := 5) (ret := none) (by decide) rfl ?_
  intro p e s m args below meth c s₁ B hml hv
  obtain ⟨rfl, hsz, hP, hK, hD0⟩ := hv
  have hx := B.exec
  have hb := B.bytes
  have hr := B.returns
  have hts := atoms_spec (ws := v_X1_init) B.pre
  have hown : s.vm.findClass RX1 = some m.cls := findClass_of_methodNamed B.named
  have hlocks := B.notSynchronized
  have hin : meth.name = "<init>" := (name_of_methodNamed B.named B.method).1
  subst hsz
  have hD := hD0.self (sz := s.heap.size)
  generalize hAe : va_A ([(he, .inr (1, [.null, .null, .null, .null, .null, .int 0, .null, .null, .null]))] ++ pool G cI Pg S) s.heap.size = A at hD ⊢
  have hA : ∀ q : Nat, s.heap.size ≤ q → A q := fun q h => by rw [← hAe]; exact Or.inr h
  have hS : va_S A s.heap s.heap [] := va_S.rf
  have hP : va_P (dC, dI) vwCl ([(he, .inr (1, [.null, .null, .null, .null, .null, .int 0, .null, .null, .null]))] ++ pool G cI Pg S) s.heap := hP
  have hl := lv_entry ([.ref he, .int (nI w), .ref hm, .ref hf, .ref hp]) (n := 5) (Nat.le_of_ble_eq_true rfl)
  rw [lg_entry_eq]
  generalize (lg_sl ([.ref he, .int (nI w), .ref hm, .ref hf, .ref hp]) ++ List.replicate (5 - (lg_sl ([.ref he, .int (nI w), .ref hm, .ref hf, .ref hp])).length) Slot.unset).toArray = ls at hl ⊢
  have hl : lv_has ls 5 [(0, .ref he), (1, .int (nI w)), (2, .ref hm), (3, .ref hf), (4, .ref hp)] := hl
  have k_1 := hts (.code objectInit ⟨#[0xb1]⟩ 1 none) (List.mem_of_getElem? (i := 1) rfl)
  have k_2 := hts (.methodLink RX1 3 objectInit) (List.mem_of_getElem? (i := 2) rfl)
  have k_3 := hts (.instanceMethod objectInit) (List.mem_of_getElem? (i := 3) rfl)
  have k_4 := (fun _ h => List.mem_cons_of_mem _ (List.mem_append_right _ (List.mem_append_left _ h)) : ∀ w ∈ wsX10, w ∈ v_X1_init)
  have k_5 := hts (.fieldLink RX1 9 "TwinRoots$Editor" "limits" "LTwinRoots$Limits;") (List.mem_of_getElem? (i := 4) rfl)
  have k_6 := hts (.fieldLink RX1 15 "TwinRoots$Editor" "forest" "LTwinRoots$Forest;") (List.mem_of_getElem? (i := 5) rfl)
  have k_7 := hts (.fieldLink RX1 19 "TwinRoots$Editor" "plan" "LTwinRoots$Plan;") (List.mem_of_getElem? (i := 6) rfl)
  have k_8 := hts (.arrayClass .int) (List.mem_of_getElem? (i := 7) rfl)
  have k_9 := hts (.fieldLink RX1 23 "TwinRoots$Editor" "pathBlocks" "[I") (List.mem_of_getElem? (i := 8) rfl)
  have k_10 := hts (.fieldLink RX1 27 "TwinRoots$Editor" "pathPlaces" "[I") (List.mem_of_getElem? (i := 9) rfl)
  have k_11 := (fun _ h => List.mem_cons_of_mem _ (List.mem_append_right _ (List.mem_append_right _ (List.mem_append_left _ h))) : ∀ w ∈ wsX40, w ∈ v_X1_init)
  have k_12 := hts (.classLink RX1 30 RX4) (List.mem_of_getElem? (i := 10) rfl)
  have k_13 := hts (.instantiable RX4 4) (List.mem_of_getElem? (i := 11) rfl)
  have k_14 := hts (.initialized RX4) (List.mem_of_getElem? (i := 12) rfl)
  have k_15 := hts (.methodLink RX1 32 yX4_init) (List.mem_of_getElem? (i := 18) rfl)
  have k_16 := hts (.instanceMethod yX4_init) (List.mem_of_getElem? (i := 19) rfl)
  have k_17 := hts (.fieldLink RX1 35 "TwinRoots$Editor" "node" "LTwinRoots$Page;") (List.mem_of_getElem? (i := 20) rfl)
  have k_18 := hts (.fieldLink RX1 39 "TwinRoots$Editor" "mate" "LTwinRoots$Page;") (List.mem_of_getElem? (i := 21) rfl)
  have k_19 := hts (.fieldLink RX1 42 "TwinRoots$Editor" "above" "LTwinRoots$Page;") (List.mem_of_getElem? (i := 22) rfl)
  have hX : pgX G Pg G Pg := pgX_rf _ _
  refine lv_aload_n hx hb dX1_init_0 rfl (lv_at hl 0 rfl) ?_
  refine W.objInit hx hb hown k_2 k_3 k_1 rfl (by rw [hml]; exact hl.1) rfl dX1_init_1 (Nat.le_of_ble_eq_true rfl) (Nat.le_of_ble_eq_true rfl) ?_
  refine W.eq (g2 := F0 m 4 ls []) rfl ?_
  refine lv_aload_n hx hb dX1_init_4 rfl (lv_at hl 0 rfl) ?_
  refine lv_aload_n hx hb dX1_init_5 rfl (lv_at hl 2 rfl) ?_
  refine va_putF (D := (dC, dI)) (ci := 1) (v := .ref hm) (ty := (.object "TwinRoots$Limits")) (C := RX1) (T := TX1) (N := 9) hx hb hts k_4 tyX1 tyX1_ok nmX1 hown hK hP hD hS 0 rfl rfl 0 (by decide) k_5 (fun _ h9 => h9) rfl hin rfl (by decide +kernel) rfl rfl (Nat.le_of_ble_eq_true rfl) dX1_init_6 (fun H locs hP9 hD9 hS9 => ?_)
  replace hP := hP9
  replace hD := hD9
  replace hS := hS9
  clear hP9 hD9 hS9
  replace hP : va_P (dC, dI) vwCl ([(he, .inr (1, [.ref hm, .null, .null, .null, .null, .int 0, .null, .null, .null]))] ++ pool G cI Pg S) H := hP
  replace hD : va_D A ([(he, .inr (1, [.ref hm, .null, .null, .null, .null, .int 0, .null, .null, .null]))] ++ pool G cI Pg S) := hD
  refine lv_aload_n hx hb dX1_init_9 rfl (lv_at hl 0 rfl) ?_
  refine lv_aload_n hx hb dX1_init_10 rfl (lv_at hl 3 rfl) ?_
  refine va_putF (D := (dC, dI)) (ci := 1) (v := .ref hf) (ty := (.object "TwinRoots$Forest")) (C := RX1) (T := TX1) (N := 9) hx hb hts k_4 tyX1 tyX1_ok nmX1 hown hK hP hD hS 0 rfl rfl 1 (by decide) k_6 (fun _ h9 => h9) rfl hin rfl (by decide +kernel) rfl rfl (Nat.le_of_ble_eq_true rfl) dX1_init_11 (fun H locs hP9 hD9 hS9 => ?_)
  replace hP := hP9
  replace hD := hD9
  replace hS := hS9
  clear hP9 hD9 hS9
  replace hP : va_P (dC, dI) vwCl ([(he, .inr (1, [.ref hm, .ref hf, .null, .null, .null, .int 0, .null, .null, .null]))] ++ pool G cI Pg S) H := hP
  replace hD : va_D A ([(he, .inr (1, [.ref hm, .ref hf, .null, .null, .null, .int 0, .null, .null, .null]))] ++ pool G cI Pg S) := hD
  refine lv_aload_n hx hb dX1_init_14 rfl (lv_at hl 0 rfl) ?_
  refine lv_aload hx hb dX1_init_15 (lv_at hl 4 rfl) ?_
  refine va_putF (D := (dC, dI)) (ci := 1) (v := .ref hp) (ty := (.object "TwinRoots$Plan")) (C := RX1) (T := TX1) (N := 9) hx hb hts k_4 tyX1 tyX1_ok nmX1 hown hK hP hD hS 0 rfl rfl 2 (by decide) k_7 (fun _ h9 => h9) rfl hin rfl (by decide +kernel) rfl rfl (Nat.le_of_ble_eq_true rfl) dX1_init_17 (fun H locs hP9 hD9 hS9 => ?_)
  replace hP := hP9
  replace hD := hD9
  replace hS := hS9
  clear hP9 hD9 hS9
  replace hP : va_P (dC, dI) vwCl ([(he, .inr (1, [.ref hm, .ref hf, .ref hp, .null, .null, .int 0, .null, .null, .null]))] ++ pool G cI Pg S) H := hP
  replace hD : va_D A ([(he, .inr (1, [.ref hm, .ref hf, .ref hp, .null, .null, .int 0, .null, .null, .null]))] ++ pool G cI Pg S) := hD
  refine lv_aload_n hx hb dX1_init_20 rfl (lv_at hl 0 rfl) ?_
  refine lv_bipush (v := 12) hx hb dX1_init_21 (by decide) ?_
  refine va_newa (atype := .int) (a0 := (12, .inl (fun _ => 0))) hx hb k_8 (ty := .int) rfl hK hP hD hS hA (fun _ => rfl) (by decide) (by decide) (by exact cb_int (by omega)) (show 0 + 1 ≤ 11 by omega) (show 0 + 12 ≤ 276 by omega) dX1_init_23 (fun q_1 cA_2 H hK hP hD hS => ?_)
  replace hP := hP.swap
  replace hD := hD.swap
  replace hP : va_P (dC, dI) vwCl ([(he, .inr (1, [.ref hm, .ref hf, .ref hp, .null, .null, .int 0, .null, .null, .null])), MA9 q_1 cA_2 12 (fun _ => 0)] ++ pool G cI Pg S) H := hP
  replace hD : va_D A ([(he, .inr (1, [.ref hm, .ref hf, .ref hp, .null, .null, .int 0, .null, .null, .null])), MA9 q_1 cA_2 12 (fun _ => 0)] ++ pool G cI Pg S) := hD
  replace hK : va_K (dC, dI) vwCl [(cI, .int), (cA_2, .int)] s := hK
  have e9 : cI = cA_2 := cA_int hK (i := 0) (j := 1) rfl rfl
  subst e9
  replace hK : va_K (dC, dI) vwCl [(cI, .int)] s := hK.sub [0] rfl
  refine W.widen (k := 1) (n := 12) (by omega) (by omega) ?_
  refine va_putF (D := (dC, dI)) (ci := 1) (v := .ref q_1) (ty := (.array .int)) (C := RX1) (T := TX1) (N := 9) hx hb hts k_4 tyX1 tyX1_ok nmX1 hown hK hP hD hS 0 rfl rfl 3 (by decide) k_9 (fun _ h9 => h9) rfl hin rfl (by decide +kernel) rfl rfl (Nat.le_of_ble_eq_true rfl) dX1_init_25 (fun H locs hP9 hD9 hS9 => ?_)
  replace hP := hP9
  replace hD := hD9
  replace hS := hS9
  clear hP9 hD9 hS9
  replace hP : va_P (dC, dI) vwCl ([(he, .inr (1, [.ref hm, .ref hf, .ref hp, .ref q_1, .null, .int 0, .null, .null, .null])), MA9 q_1 cI 12 (fun _ => 0)] ++ pool G cI Pg S) H := hP
  replace hD : va_D A ([(he, .inr (1, [.ref hm, .ref hf, .ref hp, .ref q_1, .null, .int 0, .null, .null, .null])), MA9 q_1 cI 12 (fun _ => 0)] ++ pool G cI Pg S) := hD
  refine lv_aload_n hx hb dX1_init_28 rfl (lv_at hl 0 rfl) ?_
  refine lv_bipush (v := 12) hx hb dX1_init_29 (by decide) ?_
  refine va_newa (atype := .int) (a0 := (12, .inl (fun _ => 0))) hx hb k_8 (ty := .int) rfl hK hP hD hS hA (fun _ => rfl) (by decide) (by decide) (by exact cb_int (by omega)) (show 1 + 1 ≤ 11 by omega) (show 12 + 12 ≤ 276 by omega) dX1_init_31 (fun q_3 cA_4 H hK hP hD hS => ?_)
  replace hP := hP.swap
  replace hD := hD.swap
  replace hP : va_P (dC, dI) vwCl ([(he, .inr (1, [.ref hm, .ref hf, .ref hp, .ref q_1, .null, .int 0, .null, .null, .null])), MA9 q_1 cI 12 (fun _ => 0), MA9 q_3 cA_4 12 (fun _ => 0)] ++ pool G cI Pg S) H := hP
  replace hD : va_D A ([(he, .inr (1, [.ref hm, .ref hf, .ref hp, .ref q_1, .null, .int 0, .null, .null, .null])), MA9 q_1 cI 12 (fun _ => 0), MA9 q_3 cA_4 12 (fun _ => 0)] ++ pool G cI Pg S) := hD
  replace hK : va_K (dC, dI) vwCl [(cI, .int), (cA_4, .int)] s := hK
  have e9 : cI = cA_4 := cA_int hK (i := 0) (j := 1) rfl rfl
  subst e9
  replace hK : va_K (dC, dI) vwCl [(cI, .int)] s := hK.sub [0] rfl
  refine W.widen (k := 2) (n := 24) (by omega) (by omega) ?_
  refine va_putF (D := (dC, dI)) (ci := 1) (v := .ref q_3) (ty := (.array .int)) (C := RX1) (T := TX1) (N := 9) hx hb hts k_4 tyX1 tyX1_ok nmX1 hown hK hP hD hS 0 rfl rfl 4 (by decide) k_10 (fun _ h9 => h9) rfl hin rfl (by decide +kernel) rfl rfl (Nat.le_of_ble_eq_true rfl) dX1_init_33 (fun H locs hP9 hD9 hS9 => ?_)
  replace hP := hP9
  replace hD := hD9
  replace hS := hS9
  clear hP9 hD9 hS9
  replace hP : va_P (dC, dI) vwCl ([(he, .inr (1, [.ref hm, .ref hf, .ref hp, .ref q_1, .ref q_3, .int 0, .null, .null, .null])), MA9 q_1 cI 12 (fun _ => 0), MA9 q_3 cI 12 (fun _ => 0)] ++ pool G cI Pg S) H := hP
  replace hD : va_D A ([(he, .inr (1, [.ref hm, .ref hf, .ref hp, .ref q_1, .ref q_3, .int 0, .null, .null, .null])), MA9 q_1 cI 12 (fun _ => 0), MA9 q_3 cI 12 (fun _ => 0)] ++ pool G cI Pg S) := hD
  refine lv_aload_n hx hb dX1_init_36 rfl (lv_at hl 0 rfl) ?_
  refine va_new (ci := 4) (fs := [.int 0, .int 0, .null, .null]) (C := RX4) (T := TX4) (N := 4) hx hb hts k_11 tyX4 tyX4_ok hown k_12 k_13 k_14 hK hP hD hS hA rfl (fun j hj => by rcases (show j = 0 ∨ j = 1 ∨ j = 2 ∨ j = 3 by omega) with rfl | rfl | rfl | rfl <;> rfl) (show 2 + 1 ≤ 11 by omega) (show 24 + 4 ≤ 276 by omega) dX1_init_37 (fun q_5 H hP hD hS => ?_)
  replace hP := hP.swap
  replace hD := hD.swap
  replace hP : va_P (dC, dI) vwCl ([(he, .inr (1, [.ref hm, .ref hf, .ref hp, .ref q_1, .ref q_3, .int 0, .null, .null, .null])), MA9 q_1 cI 12 (fun _ => 0), MA9 q_3 cI 12 (fun _ => 0), (q_5, .inr (4, [.int 0, .int 0, .null, .null]))] ++ pool G cI Pg S) H := hP
  replace hD : va_D A ([(he, .inr (1, [.ref hm, .ref hf, .ref hp, .ref q_1, .ref q_3, .int 0, .null, .null, .null])), MA9 q_1 cI 12 (fun _ => 0), MA9 q_3 cI 12 (fun _ => 0), (q_5, .inr (4, [.int 0, .int 0, .null, .null]))] ++ pool G cI Pg S) := hD
  refine W.widen (k := 3) (n := 28) (by omega) (by omega) ?_
  refine lv_dup hx hb dX1_init_40 rfl ?_
  refine lv_iload_n hx hb dX1_init_41 rfl (lv_at hl 1 rfl) ?_
  have hPc := hP.sub (ws' := [(q_5, .inr (4, [.int 0, .int 0, .null, .null]))]) [3] rfl
  have hDc := hD.sub (ws' := [(q_5, .inr (4, [.int 0, .int 0, .null, .null]))]) [3] (by decide) rfl
  have hKc := hK.sub (tys' := []) [] rfl
  have hFc := va_free (wc := [(q_5, .inr (4, [.int 0, .int 0, .null, .null]))]) hD hS hA [3] rfl
  refine va_callv (va_runI (As := [.int (nI w)]) (rest := [.ref q_5, .ref he]) ⟨hx, hb, hml, hown, hts⟩ (c_X4_init l dC dI H.size q_5 w (by first | assumption | omega | decide)) (cwI 1 hts g_X1_init_X4_init rfl rfl rfl k_14 k_15 k_16 rfl (by decide +kernel) ⟨Nat.le_of_ble_eq_true rfl, Nat.le_of_ble_eq_true rfl⟩) ⟨fun a U g mk q => by obtain ⟨q0, q1, qP, qK, qD⟩ := q; exact ⟨q0, q1, qP, va_K.moved (u := U) (U := U.calling g mk a) (Vm.Alike.refl U.vm) qK, qD⟩, fun U hU hW => ⟨rfl, by rw [hU], by rw [hU]; exact hPc, va_K.moved hW.alike hKc, hDc.weaken (fun _ _ _ _ => trivial)⟩⟩ rfl rfl hl.1 rfl (lv_room (Nat.le_of_ble_eq_true rfl)) dX1_init_42 ⟨(show 3 + 2 ≤ 11 by omega), (show 28 + 80 ≤ 276 by omega)⟩) hS (fun q _ h => hFc q h) hFc (fun u t H1 locs ht hvm hw hB hz1 hk1 hS9 => ?_)
  replace hS := hS9
  clear hS9
  obtain ⟨q1_7, q2_8, cK_9, cR_10⟩ := u
  obtain ⟨hP1, hK1, hD1⟩ := hB
  rw [ht] at hP1
  replace hK1 := va_K.moved hvm.symm hK1
  try dsimp only at hw
  obtain ⟨hP9, hD9⟩ := va_joinQ (wr := [(he, .inr (1, [.ref hm, .ref hf, .ref hp, .ref q_1, .ref q_3, .int 0, .null, .null, .null])), MA9 q_1 cI 12 (fun _ => 0), MA9 q_3 cI 12 (fun _ => 0)]) (w1 := [(q_5, .inr (4, [.int 1, .int 0, .ref q1_7, .ref q2_8])), MA9 q1_7 cK_9 w (fun _ => 0), MA9 q2_8 cR_10 w (fun _ => 0)]) hP hD [3] [0, 1, 2] rfl rfl (by decide) (by decide) hk1 hFc hP1 hD1
  replace hP := hP9
  replace hD := hD9
  clear hP9 hD9
  replace hK := (hK.sub (tys' := [(cI, .int)]) [0] rfl).app hK1
  clear hP1 hD1 hK1 hPc hDc hKc hFc hk1 hz1 hvm ht
  generalize H1 = H at hP hS ⊢
  replace hP : va_P (dC, dI) vwCl ([(he, .inr (1, [.ref hm, .ref hf, .ref hp, .ref q_1, .ref q_3, .int 0, .null, .null, .null])), MA9 q_1 cI 12 (fun _ => 0), MA9 q_3 cI 12 (fun _ => 0), (q_5, .inr (4, [.int 1, .int 0, .ref q1_7, .ref q2_8])), MA9 q1_7 cK_9 w (fun _ => 0), MA9 q2_8 cR_10 w (fun _ => 0)] ++ pool G cI Pg S) H := hP
  replace hD : va_D A ([(he, .inr (1, [.ref hm, .ref hf, .ref hp, .ref q_1, .ref q_3, .int 0, .null, .null, .null])), MA9 q_1 cI 12 (fun _ => 0), MA9 q_3 cI 12 (fun _ => 0), (q_5, .inr (4, [.int 1, .int 0, .ref q1_7, .ref q2_8])), MA9 q1_7 cK_9 w (fun _ => 0), MA9 q2_8 cR_10 w (fun _ => 0)] ++ pool G cI Pg S) := hD
  replace hK : va_K (dC, dI) vwCl [(cI, .int), (cK_9, .int), (cR_10, .int)] s := hK
  have e9 : cI = cR_10 := cA_int hK (i := 0) (j := 2) rfl rfl
  subst e9
  replace hK : va_K (dC, dI) vwCl [(cI, .int), (cK_9, .int)] s := hK.sub [0, 1] rfl
  have e9 : cI = cK_9 := cA_int hK (i := 0) (j := 1) rfl rfl
  subst e9
  replace hK : va_K (dC, dI) vwCl [(cI, .int)] s := hK.sub [0] rfl
  refine W.widen (k := 5) (n := 108) (by omega) (by omega) ?_
  refine va_putF (D := (dC, dI)) (ci := 1) (v := .ref q_5) (ty := (.object "TwinRoots$Page")) (C := RX1) (T := TX1) (N := 9) hx hb hts k_4 tyX1 tyX1_ok nmX1 hown hK hP hD hS 0 rfl rfl 6 (by decide) k_17 (fun _ h9 => h9) rfl hin rfl (by decide +kernel) rfl rfl (Nat.le_of_ble_eq_true rfl) dX1_init_45 (fun H locs hP9 hD9 hS9 => ?_)
  replace hP := hP9
  replace hD := hD9
  replace hS := hS9
  clear hP9 hD9 hS9
  replace hP : va_P (dC, dI) vwCl ([(he, .inr (1, [.ref hm, .ref hf, .ref hp, .ref q_1, .ref q_3, .int 0, .ref q_5, .null, .null])), MA9 q_1 cI 12 (fun _ => 0), MA9 q_3 cI 12 (fun _ => 0), (q_5, .inr (4, [.int 1, .int 0, .ref q1_7, .ref q2_8])), MA9 q1_7 cI w (fun _ => 0), MA9 q2_8 cI w (fun _ => 0)] ++ pool G cI Pg S) H := hP
  replace hD : va_D A ([(he, .inr (1, [.ref hm, .ref hf, .ref hp, .ref q_1, .ref q_3, .int 0, .ref q_5, .null, .null])), MA9 q_1 cI 12 (fun _ => 0), MA9 q_3 cI 12 (fun _ => 0), (q_5, .inr (4, [.int 1, .int 0, .ref q1_7, .ref q2_8])), MA9 q1_7 cI w (fun _ => 0), MA9 q2_8 cI w (fun _ => 0)] ++ pool G cI Pg S) := hD
  obtain ⟨hna, hP, hD⟩ := pool_add (a := q_5) (k := q1_7) (r := q2_8) (n := w) (m := 0) 2 (x := 1) (f := (fun _ => 0)) (g := (fun _ => 0)) (wr := [(he, .inr (1, [.ref hm, .ref hf, .ref hp, .ref q_1, .ref q_3, .int 0, .ref q_5, .null, .null])), MA9 q_1 cI 12 (fun _ => 0), MA9 q_3 cI 12 (fun _ => 0)]) hP hD [0, 1, 2] 3 4 5 rfl (by decide)
  have hXn := pgX_up (G := G) (q1_7, q2_8, w, 2) hna
  have hI := pgI_up (a := q_5) (k := q1_7) (r := q2_8) (n := w) (t := 2) (m := 0) (x := 1) (f := (fun _ => 0)) (g := (fun _ => 0)) hI (Or.inr rfl) (Nat.zero_le _) (by omega)
  have hm_q_5 : q_5 ∈ q_5 :: Pg := List.mem_cons_self
  have ht_q_5 : ((va_up G q_5 (q1_7, q2_8, w, 2)) q_5).2.2.2 = 2 := by rw [va_up_at]
  obtain ⟨G_11, eG_11⟩ : ∃ x, x = va_up G q_5 (q1_7, q2_8, w, 2) := ⟨_, rfl⟩
  obtain ⟨S_13, eS_13⟩ : ∃ x, x = va_up S q_5 (1, 0, (fun _ => 0), (fun _ => 0)) := ⟨_, rfl⟩
  obtain ⟨P_12, eP_12⟩ : ∃ x, x = q_5 :: Pg := ⟨_, rfl⟩
  rw [← eG_11, ← eS_13, ← eP_12] at hP hD
  rw [← eG_11, ← eS_13, ← eP_12] at hI
  rw [← eG_11, ← eP_12] at hXn
  rw [← eP_12] at hm_q_5
  rw [← eG_11] at ht_q_5
  have hX := pgX_tr hX hXn
  replace hP : va_P (dC, dI) vwCl ([(he, .inr (1, [.ref hm, .ref hf, .ref hp, .ref q_1, .ref q_3, .int 0, .ref q_5, .null, .null])), MA9 q_1 cI 12 (fun _ => 0), MA9 q_3 cI 12 (fun _ => 0)] ++ pool G_11 cI P_12 S_13) H := hP
  replace hD : va_D A ([(he, .inr (1, [.ref hm, .ref hf, .ref hp, .ref q_1, .ref q_3, .int 0, .ref q_5, .null, .null])), MA9 q_1 cI 12 (fun _ => 0), MA9 q_3 cI 12 (fun _ => 0)] ++ pool G_11 cI P_12 S_13) := hD
  refine lv_aload_n hx hb dX1_init_48 rfl (lv_at hl 0 rfl) ?_
  refine va_new (ci := 4) (fs := [.int 0, .int 0, .null, .null]) (C := RX4) (T := TX4) (N := 4) hx hb hts k_11 tyX4 tyX4_ok hown k_12 k_13 k_14 hK hP hD hS hA rfl (fun j hj => by rcases (show j = 0 ∨ j = 1 ∨ j = 2 ∨ j = 3 by omega) with rfl | rfl | rfl | rfl <;> rfl) (show 5 + 1 ≤ 11 by omega) (show 108 + 4 ≤ 276 by omega) dX1_init_49 (fun q_14 H hP hD hS => ?_)
  replace hP := hP.swap
  replace hD := hD.swap
  replace hP : va_P (dC, dI) vwCl ([(he, .inr (1, [.ref hm, .ref hf, .ref hp, .ref q_1, .ref q_3, .int 0, .ref q_5, .null, .null])), MA9 q_1 cI 12 (fun _ => 0), MA9 q_3 cI 12 (fun _ => 0), (q_14, .inr (4, [.int 0, .int 0, .null, .null]))] ++ pool G_11 cI P_12 S_13) H := hP
  replace hD : va_D A ([(he, .inr (1, [.ref hm, .ref hf, .ref hp, .ref q_1, .ref q_3, .int 0, .ref q_5, .null, .null])), MA9 q_1 cI 12 (fun _ => 0), MA9 q_3 cI 12 (fun _ => 0), (q_14, .inr (4, [.int 0, .int 0, .null, .null]))] ++ pool G_11 cI P_12 S_13) := hD
  refine W.widen (k := 6) (n := 112) (by omega) (by omega) ?_
  refine lv_dup hx hb dX1_init_52 rfl ?_
  refine lv_iload_n hx hb dX1_init_53 rfl (lv_at hl 1 rfl) ?_
  have hPc := hP.sub (ws' := [(q_14, .inr (4, [.int 0, .int 0, .null, .null]))]) [3] rfl
  have hDc := hD.sub (ws' := [(q_14, .inr (4, [.int 0, .int 0, .null, .null]))]) [3] (by decide) rfl
  have hKc := hK.sub (tys' := []) [] rfl
  have hFc := va_free (wc := [(q_14, .inr (4, [.int 0, .int 0, .null, .null]))]) hD hS hA [3] rfl
  refine va_callv (va_runI (As := [.int (nI w)]) (rest := [.ref q_14, .ref he]) ⟨hx, hb, hml, hown, hts⟩ (c_X4_init l dC dI H.size q_14 w (by first | assumption | omega | decide)) (cwI 1 hts g_X1_init_X4_init rfl rfl rfl k_14 k_15 k_16 rfl (by decide +kernel) ⟨Nat.le_of_ble_eq_true rfl, Nat.le_of_ble_eq_true rfl⟩) ⟨fun a U g mk q => by obtain ⟨q0, q1, qP, qK, qD⟩ := q; exact ⟨q0, q1, qP, va_K.moved (u := U) (U := U.calling g mk a) (Vm.Alike.refl U.vm) qK, qD⟩, fun U hU hW => ⟨rfl, by rw [hU], by rw [hU]; exact hPc, va_K.moved hW.alike hKc, hDc.weaken (fun _ _ _ _ => trivial)⟩⟩ rfl rfl hl.1 rfl (lv_room (Nat.le_of_ble_eq_true rfl)) dX1_init_54 ⟨(show 6 + 2 ≤ 11 by omega), (show 112 + 80 ≤ 276 by omega)⟩) hS (fun q _ h => hFc q h) hFc (fun u t H1 locs ht hvm hw hB hz1 hk1 hS9 => ?_)
  replace hS := hS9
  clear hS9
  obtain ⟨q1_16, q2_17, cK_18, cR_19⟩ := u
  obtain ⟨hP1, hK1, hD1⟩ := hB
  rw [ht] at hP1
  replace hK1 := va_K.moved hvm.symm hK1
  try dsimp only at hw
  obtain ⟨hP9, hD9⟩ := va_joinQ (wr := [(he, .inr (1, [.ref hm, .ref hf, .ref hp, .ref q_1, .ref q_3, .int 0, .ref q_5, .null, .null])), MA9 q_1 cI 12 (fun _ => 0), MA9 q_3 cI 12 (fun _ => 0)]) (w1 := [(q_14, .inr (4, [.int 1, .int 0, .ref q1_16, .ref q2_17])), MA9 q1_16 cK_18 w (fun _ => 0), MA9 q2_17 cR_19 w (fun _ => 0)]) hP hD [3] [0, 1, 2] rfl rfl (by decide) (by decide) hk1 hFc hP1 hD1
  replace hP := hP9
  replace hD := hD9
  clear hP9 hD9
  replace hK := (hK.sub (tys' := [(cI, .int)]) [0] rfl).app hK1
  clear hP1 hD1 hK1 hPc hDc hKc hFc hk1 hz1 hvm ht
  generalize H1 = H at hP hS ⊢
  replace hP : va_P (dC, dI) vwCl ([(he, .inr (1, [.ref hm, .ref hf, .ref hp, .ref q_1, .ref q_3, .int 0, .ref q_5, .null, .null])), MA9 q_1 cI 12 (fun _ => 0), MA9 q_3 cI 12 (fun _ => 0), (q_14, .inr (4, [.int 1, .int 0, .ref q1_16, .ref q2_17])), MA9 q1_16 cK_18 w (fun _ => 0), MA9 q2_17 cR_19 w (fun _ => 0)] ++ pool G_11 cI P_12 S_13) H := hP
  replace hD : va_D A ([(he, .inr (1, [.ref hm, .ref hf, .ref hp, .ref q_1, .ref q_3, .int 0, .ref q_5, .null, .null])), MA9 q_1 cI 12 (fun _ => 0), MA9 q_3 cI 12 (fun _ => 0), (q_14, .inr (4, [.int 1, .int 0, .ref q1_16, .ref q2_17])), MA9 q1_16 cK_18 w (fun _ => 0), MA9 q2_17 cR_19 w (fun _ => 0)] ++ pool G_11 cI P_12 S_13) := hD
  replace hK : va_K (dC, dI) vwCl [(cI, .int), (cK_18, .int), (cR_19, .int)] s := hK
  have e9 : cI = cR_19 := cA_int hK (i := 0) (j := 2) rfl rfl
  subst e9
  replace hK : va_K (dC, dI) vwCl [(cI, .int), (cK_18, .int)] s := hK.sub [0, 1] rfl
  have e9 : cI = cK_18 := cA_int hK (i := 0) (j := 1) rfl rfl
  subst e9
  replace hK : va_K (dC, dI) vwCl [(cI, .int)] s := hK.sub [0] rfl
  refine W.widen (k := 8) (n := 192) (by omega) (by omega) ?_
  refine va_putF (D := (dC, dI)) (ci := 1) (v := .ref q_14) (ty := (.object "TwinRoots$Page")) (C := RX1) (T := TX1) (N := 9) hx hb hts k_4 tyX1 tyX1_ok nmX1 hown hK hP hD hS 0 rfl rfl 7 (by decide) k_18 (fun _ h9 => h9) rfl hin rfl (by decide +kernel) rfl rfl (Nat.le_of_ble_eq_true rfl) dX1_init_57 (fun H locs hP9 hD9 hS9 => ?_)
  replace hP := hP9
  replace hD := hD9
  replace hS := hS9
  clear hP9 hD9 hS9
  replace hP : va_P (dC, dI) vwCl ([(he, .inr (1, [.ref hm, .ref hf, .ref hp, .ref q_1, .ref q_3, .int 0, .ref q_5, .ref q_14, .null])), MA9 q_1 cI 12 (fun _ => 0), MA9 q_3 cI 12 (fun _ => 0), (q_14, .inr (4, [.int 1, .int 0, .ref q1_16, .ref q2_17])), MA9 q1_16 cI w (fun _ => 0), MA9 q2_17 cI w (fun _ => 0)] ++ pool G_11 cI P_12 S_13) H := hP
  replace hD : va_D A ([(he, .inr (1, [.ref hm, .ref hf, .ref hp, .ref q_1, .ref q_3, .int 0, .ref q_5, .ref q_14, .null])), MA9 q_1 cI 12 (fun _ => 0), MA9 q_3 cI 12 (fun _ => 0), (q_14, .inr (4, [.int 1, .int 0, .ref q1_16, .ref q2_17])), MA9 q1_16 cI w (fun _ => 0), MA9 q2_17 cI w (fun _ => 0)] ++ pool G_11 cI P_12 S_13) := hD
  obtain ⟨hna, hP, hD⟩ := pool_add (a := q_14) (k := q1_16) (r := q2_17) (n := w) (m := 0) 3 (x := 1) (f := (fun _ => 0)) (g := (fun _ => 0)) (wr := [(he, .inr (1, [.ref hm, .ref hf, .ref hp, .ref q_1, .ref q_3, .int 0, .ref q_5, .ref q_14, .null])), MA9 q_1 cI 12 (fun _ => 0), MA9 q_3 cI 12 (fun _ => 0)]) hP hD [0, 1, 2] 3 4 5 rfl (by decide)
  have hXn := pgX_up (G := G_11) (q1_16, q2_17, w, 3) hna
  have hI := pgI_up (a := q_14) (k := q1_16) (r := q2_17) (n := w) (t := 3) (m := 0) (x := 1) (f := (fun _ => 0)) (g := (fun _ => 0)) hI (Or.inr rfl) (Nat.zero_le _) (by omega)
  have hm_q_14 : q_14 ∈ q_14 :: P_12 := List.mem_cons_self
  have ht_q_14 : ((va_up G_11 q_14 (q1_16, q2_17, w, 3)) q_14).2.2.2 = 3 := by rw [va_up_at]
  obtain ⟨G_20, eG_20⟩ : ∃ x, x = va_up G_11 q_14 (q1_16, q2_17, w, 3) := ⟨_, rfl⟩
  obtain ⟨S_22, eS_22⟩ : ∃ x, x = va_up S_13 q_14 (1, 0, (fun _ => 0), (fun _ => 0)) := ⟨_, rfl⟩
  obtain ⟨P_21, eP_21⟩ : ∃ x, x = q_14 :: P_12 := ⟨_, rfl⟩
  rw [← eG_20, ← eS_22, ← eP_21] at hP hD
  rw [← eG_20, ← eS_22, ← eP_21] at hI
  rw [← eG_20, ← eP_21] at hXn
  rw [← eP_21] at hm_q_14
  rw [← eG_20] at ht_q_14
  have ht_q_5 : (G_20 q_5).2.2.2 = 2 := by rw [(hXn q_5 hm_q_5).2]; exact ht_q_5
  have hm_q_5 := (hXn q_5 hm_q_5).1
  have hX := pgX_tr hX hXn
  replace hP : va_P (dC, dI) vwCl ([(he, .inr (1, [.ref hm, .ref hf, .ref hp, .ref q_1, .ref q_3, .int 0, .ref q_5, .ref q_14, .null])), MA9 q_1 cI 12 (fun _ => 0), MA9 q_3 cI 12 (fun _ => 0)] ++ pool G_20 cI P_21 S_22) H := hP
  replace hD : va_D A ([(he, .inr (1, [.ref hm, .ref hf, .ref hp, .ref q_1, .ref q_3, .int 0, .ref q_5, .ref q_14, .null])), MA9 q_1 cI 12 (fun _ => 0), MA9 q_3 cI 12 (fun _ => 0)] ++ pool G_20 cI P_21 S_22) := hD
  refine lv_aload_n hx hb dX1_init_60 rfl (lv_at hl 0 rfl) ?_
  refine va_new (ci := 4) (fs := [.int 0, .int 0, .null, .null]) (C := RX4) (T := TX4) (N := 4) hx hb hts k_11 tyX4 tyX4_ok hown k_12 k_13 k_14 hK hP hD hS hA rfl (fun j hj => by rcases (show j = 0 ∨ j = 1 ∨ j = 2 ∨ j = 3 by omega) with rfl | rfl | rfl | rfl <;> rfl) (show 8 + 1 ≤ 11 by omega) (show 192 + 4 ≤ 276 by omega) dX1_init_61 (fun q_23 H hP hD hS => ?_)
  replace hP := hP.swap
  replace hD := hD.swap
  replace hP : va_P (dC, dI) vwCl ([(he, .inr (1, [.ref hm, .ref hf, .ref hp, .ref q_1, .ref q_3, .int 0, .ref q_5, .ref q_14, .null])), MA9 q_1 cI 12 (fun _ => 0), MA9 q_3 cI 12 (fun _ => 0), (q_23, .inr (4, [.int 0, .int 0, .null, .null]))] ++ pool G_20 cI P_21 S_22) H := hP
  replace hD : va_D A ([(he, .inr (1, [.ref hm, .ref hf, .ref hp, .ref q_1, .ref q_3, .int 0, .ref q_5, .ref q_14, .null])), MA9 q_1 cI 12 (fun _ => 0), MA9 q_3 cI 12 (fun _ => 0), (q_23, .inr (4, [.int 0, .int 0, .null, .null]))] ++ pool G_20 cI P_21 S_22) := hD
  refine W.widen (k := 9) (n := 196) (by omega) (by omega) ?_
  refine lv_dup hx hb dX1_init_64 rfl ?_
  refine lv_iload_n hx hb dX1_init_65 rfl (lv_at hl 1 rfl) ?_
  have hPc := hP.sub (ws' := [(q_23, .inr (4, [.int 0, .int 0, .null, .null]))]) [3] rfl
  have hDc := hD.sub (ws' := [(q_23, .inr (4, [.int 0, .int 0, .null, .null]))]) [3] (by decide) rfl
  have hKc := hK.sub (tys' := []) [] rfl
  have hFc := va_free (wc := [(q_23, .inr (4, [.int 0, .int 0, .null, .null]))]) hD hS hA [3] rfl
  refine va_callv (va_runI (As := [.int (nI w)]) (rest := [.ref q_23, .ref he]) ⟨hx, hb, hml, hown, hts⟩ (c_X4_init l dC dI H.size q_23 w (by first | assumption | omega | decide)) (cwI 1 hts g_X1_init_X4_init rfl rfl rfl k_14 k_15 k_16 rfl (by decide +kernel) ⟨Nat.le_of_ble_eq_true rfl, Nat.le_of_ble_eq_true rfl⟩) ⟨fun a U g mk q => by obtain ⟨q0, q1, qP, qK, qD⟩ := q; exact ⟨q0, q1, qP, va_K.moved (u := U) (U := U.calling g mk a) (Vm.Alike.refl U.vm) qK, qD⟩, fun U hU hW => ⟨rfl, by rw [hU], by rw [hU]; exact hPc, va_K.moved hW.alike hKc, hDc.weaken (fun _ _ _ _ => trivial)⟩⟩ rfl rfl hl.1 rfl (lv_room (Nat.le_of_ble_eq_true rfl)) dX1_init_66 ⟨(show 9 + 2 ≤ 11 by omega), (show 196 + 80 ≤ 276 by omega)⟩) hS (fun q _ h => hFc q h) hFc (fun u t H1 locs ht hvm hw hB hz1 hk1 hS9 => ?_)
  replace hS := hS9
  clear hS9
  obtain ⟨q1_25, q2_26, cK_27, cR_28⟩ := u
  obtain ⟨hP1, hK1, hD1⟩ := hB
  rw [ht] at hP1
  replace hK1 := va_K.moved hvm.symm hK1
  try dsimp only at hw
  obtain ⟨hP9, hD9⟩ := va_joinQ (wr := [(he, .inr (1, [.ref hm, .ref hf, .ref hp, .ref q_1, .ref q_3, .int 0, .ref q_5, .ref q_14, .null])), MA9 q_1 cI 12 (fun _ => 0), MA9 q_3 cI 12 (fun _ => 0)]) (w1 := [(q_23, .inr (4, [.int 1, .int 0, .ref q1_25, .ref q2_26])), MA9 q1_25 cK_27 w (fun _ => 0), MA9 q2_26 cR_28 w (fun _ => 0)]) hP hD [3] [0, 1, 2] rfl rfl (by decide) (by decide) hk1 hFc hP1 hD1
  replace hP := hP9
  replace hD := hD9
  clear hP9 hD9
  replace hK := (hK.sub (tys' := [(cI, .int)]) [0] rfl).app hK1
  clear hP1 hD1 hK1 hPc hDc hKc hFc hk1 hz1 hvm ht
  generalize H1 = H at hP hS ⊢
  replace hP : va_P (dC, dI) vwCl ([(he, .inr (1, [.ref hm, .ref hf, .ref hp, .ref q_1, .ref q_3, .int 0, .ref q_5, .ref q_14, .null])), MA9 q_1 cI 12 (fun _ => 0), MA9 q_3 cI 12 (fun _ => 0), (q_23, .inr (4, [.int 1, .int 0, .ref q1_25, .ref q2_26])), MA9 q1_25 cK_27 w (fun _ => 0), MA9 q2_26 cR_28 w (fun _ => 0)] ++ pool G_20 cI P_21 S_22) H := hP
  replace hD : va_D A ([(he, .inr (1, [.ref hm, .ref hf, .ref hp, .ref q_1, .ref q_3, .int 0, .ref q_5, .ref q_14, .null])), MA9 q_1 cI 12 (fun _ => 0), MA9 q_3 cI 12 (fun _ => 0), (q_23, .inr (4, [.int 1, .int 0, .ref q1_25, .ref q2_26])), MA9 q1_25 cK_27 w (fun _ => 0), MA9 q2_26 cR_28 w (fun _ => 0)] ++ pool G_20 cI P_21 S_22) := hD
  replace hK : va_K (dC, dI) vwCl [(cI, .int), (cK_27, .int), (cR_28, .int)] s := hK
  have e9 : cI = cR_28 := cA_int hK (i := 0) (j := 2) rfl rfl
  subst e9
  replace hK : va_K (dC, dI) vwCl [(cI, .int), (cK_27, .int)] s := hK.sub [0, 1] rfl
  have e9 : cI = cK_27 := cA_int hK (i := 0) (j := 1) rfl rfl
  subst e9
  replace hK : va_K (dC, dI) vwCl [(cI, .int)] s := hK.sub [0] rfl
  refine W.widen (k := 11) (n := 276) (by omega) (by omega) ?_
  refine va_putF (D := (dC, dI)) (ci := 1) (v := .ref q_23) (ty := (.object "TwinRoots$Page")) (C := RX1) (T := TX1) (N := 9) hx hb hts k_4 tyX1 tyX1_ok nmX1 hown hK hP hD hS 0 rfl rfl 8 (by decide) k_19 (fun _ h9 => h9) rfl hin rfl (by decide +kernel) rfl rfl (Nat.le_of_ble_eq_true rfl) dX1_init_69 (fun H locs hP9 hD9 hS9 => ?_)
  replace hP := hP9
  replace hD := hD9
  replace hS := hS9
  clear hP9 hD9 hS9
  replace hP : va_P (dC, dI) vwCl ([(he, .inr (1, [.ref hm, .ref hf, .ref hp, .ref q_1, .ref q_3, .int 0, .ref q_5, .ref q_14, .ref q_23])), MA9 q_1 cI 12 (fun _ => 0), MA9 q_3 cI 12 (fun _ => 0), (q_23, .inr (4, [.int 1, .int 0, .ref q1_25, .ref q2_26])), MA9 q1_25 cI w (fun _ => 0), MA9 q2_26 cI w (fun _ => 0)] ++ pool G_20 cI P_21 S_22) H := hP
  replace hD : va_D A ([(he, .inr (1, [.ref hm, .ref hf, .ref hp, .ref q_1, .ref q_3, .int 0, .ref q_5, .ref q_14, .ref q_23])), MA9 q_1 cI 12 (fun _ => 0), MA9 q_3 cI 12 (fun _ => 0), (q_23, .inr (4, [.int 1, .int 0, .ref q1_25, .ref q2_26])), MA9 q1_25 cI w (fun _ => 0), MA9 q2_26 cI w (fun _ => 0)] ++ pool G_20 cI P_21 S_22) := hD
  obtain ⟨hna, hP, hD⟩ := pool_add (a := q_23) (k := q1_25) (r := q2_26) (n := w) (m := 0) 4 (x := 1) (f := (fun _ => 0)) (g := (fun _ => 0)) (wr := [(he, .inr (1, [.ref hm, .ref hf, .ref hp, .ref q_1, .ref q_3, .int 0, .ref q_5, .ref q_14, .ref q_23])), MA9 q_1 cI 12 (fun _ => 0), MA9 q_3 cI 12 (fun _ => 0)]) hP hD [0, 1, 2] 3 4 5 rfl (by decide)
  have hXn := pgX_up (G := G_20) (q1_25, q2_26, w, 4) hna
  have hI := pgI_up (a := q_23) (k := q1_25) (r := q2_26) (n := w) (t := 4) (m := 0) (x := 1) (f := (fun _ => 0)) (g := (fun _ => 0)) hI (Or.inr rfl) (Nat.zero_le _) (by omega)
  have hm_q_23 : q_23 ∈ q_23 :: P_21 := List.mem_cons_self
  have ht_q_23 : ((va_up G_20 q_23 (q1_25, q2_26, w, 4)) q_23).2.2.2 = 4 := by rw [va_up_at]
  obtain ⟨G_29, eG_29⟩ : ∃ x, x = va_up G_20 q_23 (q1_25, q2_26, w, 4) := ⟨_, rfl⟩
  obtain ⟨S_31, eS_31⟩ : ∃ x, x = va_up S_22 q_23 (1, 0, (fun _ => 0), (fun _ => 0)) := ⟨_, rfl⟩
  obtain ⟨P_30, eP_30⟩ : ∃ x, x = q_23 :: P_21 := ⟨_, rfl⟩
  rw [← eG_29, ← eS_31, ← eP_30] at hP hD
  rw [← eG_29, ← eS_31, ← eP_30] at hI
  rw [← eG_29, ← eP_30] at hXn
  rw [← eP_30] at hm_q_23
  rw [← eG_29] at ht_q_23
  have ht_q_5 : (G_29 q_5).2.2.2 = 2 := by rw [(hXn q_5 hm_q_5).2]; exact ht_q_5
  have hm_q_5 := (hXn q_5 hm_q_5).1
  have ht_q_14 : (G_29 q_14).2.2.2 = 3 := by rw [(hXn q_14 hm_q_14).2]; exact ht_q_14
  have hm_q_14 := (hXn q_14 hm_q_14).1
  have hX := pgX_tr hX hXn
  replace hP : va_P (dC, dI) vwCl ([(he, .inr (1, [.ref hm, .ref hf, .ref hp, .ref q_1, .ref q_3, .int 0, .ref q_5, .ref q_14, .ref q_23])), MA9 q_1 cI 12 (fun _ => 0), MA9 q_3 cI 12 (fun _ => 0)] ++ pool G_29 cI P_30 S_31) H := hP
  replace hD : va_D A ([(he, .inr (1, [.ref hm, .ref hf, .ref hp, .ref q_1, .ref q_3, .int 0, .ref q_5, .ref q_14, .ref q_23])), MA9 q_1 cI 12 (fun _ => 0), MA9 q_3 cI 12 (fun _ => 0)] ++ pool G_29 cI P_30 S_31) := hD
  have hP9 := hP.part (cx := [(he, .inr (1, [.ref hm, .ref hf, .ref hp, .ref q_1, .ref q_3, .int 0, .ref q_5, .ref q_14, .ref q_23])), MA9 q_1 cI 12 (fun _ => 0), MA9 q_3 cI 12 (fun _ => 0)]) [0, 1, 2] rfl
  have hD9 := hD.part (cx := [(he, .inr (1, [.ref hm, .ref hf, .ref hp, .ref q_1, .ref q_3, .int 0, .ref q_5, .ref q_14, .ref q_23])), MA9 q_1 cI 12 (fun _ => 0), MA9 q_3 cI 12 (fun _ => 0)]) [0, 1, 2] (by decide) rfl
  have hK9 := hK.sub (tys' := [(cI, .int)]) [0] rfl
  exact W.vret hx hb hr (fun t ht hW => ⟨⟨(q_1, q_3, q_5, q_14, q_23, G_29, P_30, S_31), rfl, ⟨hI, hX, hm_q_5, ht_q_5, hm_q_14, ht_q_14, hm_q_23, ht_q_23⟩, by rw [ht]; exact hP9, va_K.moved hW.alike hK9, hD9⟩, hS.F ht⟩) hS.2.2 dX1_init_72

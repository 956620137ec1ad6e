def v_X4_init : List Cond := .code yX4_init cX4_init 2 none :: ([.code objectInit ⟨#[0xb1]⟩ 1 none, .methodLink RX4 3 objectInit, .instanceMethod objectInit, .fieldLink RX4 9 "TwinRoots$Page" "leaf" "Z", .arrayClass .int, .fieldLink RX4 15 "TwinRoots$Page" "keys" "[I", .fieldLink RX4 19 "TwinRoots$Page" "refs" "[I"] ++ (wsX40 ++ ([])))
set_option maxHeartbeats 4000000 in
set_option maxRecDepth 100000 in
/-- Page(n): two rows -/
theorem c_X4_init (l : Launch) (dC : Nat → ClassId) (dI : Nat → Nat → Nat) (sz : Nat) (h0 : Nat) (n : Nat) (zn : n ≤ 40) : Met l yX4_init v_X4_init ({ frames := 1, cells := 2, slots := 80, locals := 12 } : Room) (va_Pc [.ref h0, .int (nI n)] (fun U => U.heap.size = sz ∧ va_P (dC, dI) vwCl [(h0, .inr (4, [.int 0, .int 0, .null, .null]))] U.heap ∧ va_K (dC, dI) vwCl [] U ∧ va_D (fun _ => True) [(h0, .inr (4, [.int 0, .int 0, .null, .null]))])) (va_Qv (fun (u : Nat × Nat) => match u with | (q1, q2) => True) (fun (u : Nat × Nat) (t : State) => match u with | (q1, q2) => va_P (dC, dI) vwCl [(h0, .inr (4, [.int 1, .int 0, .ref q1, .ref q2]))] t.heap ∧ va_K (dC, dI) vwCl [] t ∧ va_D (va_A [(h0, .inr (4, [.int 0, .int 0, .null, .null]))] sz) [(h0, .inr (4, [.int 1, .int 0, .ref q1, .ref q2]))]) (va_A [(h0, .inr (4, [.int 0, .int 0, .null, .null]))] sz)) 2 80 (va_A [(h0, .inr (4, [.int 0, .int 0, .null, .null]))] sz) := by
  refine Met.ofW (cc := cX4_init) (maxL := 2) (ret := none) (by decide) rfl ?_
  intro p e s m args below meth c s₁ B hml hv
  obtain ⟨rfl, hsz, hP, hK, hD0⟩ := hv
  have hx := B.exec
  have hb := B.bytes
  have hr := B.returns
  have hts := atoms_spec (ws := v_X4_init) B.pre
  have hown : s.vm.findClass RX4 = some m.cls := findClass_of_methodNamed B.named
  have hlocks := B.notSynchronized
  have hin : meth.name = "<init>" := (name_of_methodNamed B.named B.method).1
  subst hsz
  have hD := hD0.self (sz := s.heap.size)
  generalize hAe : va_A [(h0, .inr (4, [.int 0, .int 0, .null, .null]))] s.heap.size = A at hD ⊢
  have hA : ∀ q : Nat, s.heap.size ≤ q → A q := fun q h => by rw [← hAe]; exact Or.inr h
  have hS : va_S A s.heap s.heap [] := va_S.rf
  have hP : va_P (dC, dI) vwCl [(h0, .inr (4, [.int 0, .int 0, .null, .null]))] s.heap := hP
  have hl := lv_entry ([.ref h0, .int (nI n)]) (n := 2) (Nat.le_of_ble_eq_true rfl)
  rw [lg_entry_eq]
  generalize (lg_sl ([.ref h0, .int (nI n)]) ++ List.replicate (2 - (lg_sl ([.ref h0, .int (nI n)])).length) Slot.unset).toArray = ls at hl ⊢
  have hl : lv_has ls 2 [(0, .ref h0), (1, .int (nI n))] := hl
  have k_1 := hts (.code objectInit ⟨#[0xb1]⟩ 1 none) (List.mem_of_getElem? (i := 1) rfl)
  have k_2 := hts (.methodLink RX4 3 objectInit) (List.mem_of_getElem? (i := 2) rfl)
  have k_3 := hts (.instanceMethod objectInit) (List.mem_of_getElem? (i := 3) rfl)
  have k_4 := (fun _ h => List.mem_cons_of_mem _ (List.mem_append_right _ (List.mem_append_left _ h)) : ∀ w ∈ wsX40, w ∈ v_X4_init)
  have k_5 := hts (.fieldLink RX4 9 "TwinRoots$Page" "leaf" "Z") (List.mem_of_getElem? (i := 4) rfl)
  have k_6 := hts (.arrayClass .int) (List.mem_of_getElem? (i := 5) rfl)
  have k_7 := hts (.fieldLink RX4 15 "TwinRoots$Page" "keys" "[I") (List.mem_of_getElem? (i := 6) rfl)
  have k_8 := hts (.fieldLink RX4 19 "TwinRoots$Page" "refs" "[I") (List.mem_of_getElem? (i := 7) rfl)
  refine lv_aload_n hx hb dX4_init_0 rfl (lv_at hl 0 rfl) ?_
  refine W.objInit hx hb hown k_2 k_3 k_1 rfl (by rw [hml]; exact hl.1) rfl dX4_init_1 (Nat.le_of_ble_eq_true rfl) (Nat.le_of_ble_eq_true rfl) ?_
  refine W.eq (g2 := F0 m 4 ls []) rfl ?_
  refine lv_aload_n hx hb dX4_init_4 rfl (lv_at hl 0 rfl) ?_
  refine lv_iconst (v := 1) hx hb dX4_init_5 (by decide) ?_
  refine va_put (D := (dC, dI)) (ci := 4) (v := .int 1) (ty := .boolean) (C := RX4) (T := TX4) (N := 4) hx hb hts k_4 tyX4 tyX4_ok nmX4 hown hK hP hD hS 0 rfl rfl 0 (by decide) k_5 (fun _ h9 => h9) rfl (by decide +kernel) rfl rfl (Nat.le_of_ble_eq_true rfl) dX4_init_6 (fun H locs hP hD hS => ?_)
  have hP : va_P (dC, dI) vwCl [(h0, .inr (4, [.int 1, .int 0, .null, .null]))] H := hP
  have hD : va_D A [(h0, .inr (4, [.int 1, .int 0, .null, .null]))] := hD
  refine lv_aload_n hx hb dX4_init_9 rfl (lv_at hl 0 rfl) ?_
  refine lv_iload_n hx hb dX4_init_10 rfl (lv_at hl 1 rfl) ?_
  refine va_newa (atype := .int) (a0 := (n, .inl (fun _ => 0))) hx hb k_6 (ty := .int) rfl hK hP hD hS hA (fun _ => rfl) (nI_pos (by omega)) (nI_clamp (by omega)) (by exact cb_int (by omega)) (show 0 + 1 ≤ 2 by omega) (show 0 + n ≤ 80 by omega) dX4_init_11 (fun q_1 cA_2 H hK hP hD hS => ?_)
  have hP : va_P (dC, dI) vwCl [(h0, .inr (4, [.int 1, .int 0, .null, .null])), (q_1, .inl (cA_2, n, .inl (fun _ => 0)))] H := hP
  have hD : va_D A [(h0, .inr (4, [.int 1, .int 0, .null, .null])), (q_1, .inl (cA_2, n, .inl (fun _ => 0)))] := hD
  have hK : va_K (dC, dI) vwCl [(cA_2, .int)] s := hK
  refine W.widen (k := 1) (n := 40) (by omega) (by omega) ?_
  refine va_putF (D := (dC, dI)) (ci := 4) (v := .ref q_1) (ty := (.array .int)) (C := RX4) (T := TX4) (N := 4) hx hb hts k_4 tyX4 tyX4_ok nmX4 hown hK hP hD hS 0 rfl rfl 2 (by decide) k_7 (fun _ h9 => h9) rfl hin rfl (by decide +kernel) rfl rfl (Nat.le_of_ble_eq_true rfl) dX4_init_13 (fun H locs hP hD hS => ?_)
  have hP : va_P (dC, dI) vwCl [(h0, .inr (4, [.int 1, .int 0, .ref q_1, .null])), (q_1, .inl (cA_2, n, .inl (fun _ => 0)))] H := hP
  have hD : va_D A [(h0, .inr (4, [.int 1, .int 0, .ref q_1, .null])), (q_1, .inl (cA_2, n, .inl (fun _ => 0)))] := hD
  refine lv_aload_n hx hb dX4_init_16 rfl (lv_at hl 0 rfl) ?_
  refine lv_iload_n hx hb dX4_init_17 rfl (lv_at hl 1 rfl) ?_
  refine va_newa (atype := .int) (a0 := (n, .inl (fun _ => 0))) hx hb k_6 (ty := .int) rfl hK hP hD hS hA (fun _ => rfl) (nI_pos (by omega)) (nI_clamp (by omega)) (by exact cb_int (by omega)) (show 1 + 1 ≤ 2 by omega) (show 40 + n ≤ 80 by omega) dX4_init_18 (fun q_3 cA_4 H hK hP hD hS => ?_)
  have hP : va_P (dC, dI) vwCl [(h0, .inr (4, [.int 1, .int 0, .ref q_1, .null])), (q_1, .inl (cA_2, n, .inl (fun _ => 0))), (q_3, .inl (cA_4, n, .inl (fun _ => 0)))] H := hP
  have hD : va_D A [(h0, .inr (4, [.int 1, .int 0, .ref q_1, .null])), (q_1, .inl (cA_2, n, .inl (fun _ => 0))), (q_3, .inl (cA_4, n, .inl (fun _ => 0)))] := hD
  have hK : va_K (dC, dI) vwCl [(cA_2, .int), (cA_4, .int)] s := hK
  refine W.widen (k := 2) (n := 80) (by omega) (by omega) ?_
  refine va_putF (D := (dC, dI)) (ci := 4) (v := .ref q_3) (ty := (.array .int)) (C := RX4) (T := TX4) (N := 4) hx hb hts k_4 tyX4 tyX4_ok nmX4 hown hK hP hD hS 0 rfl rfl 3 (by decide) k_8 (fun _ h9 => h9) rfl hin rfl (by decide +kernel) rfl rfl (Nat.le_of_ble_eq_true rfl) dX4_init_20 (fun H locs hP hD hS => ?_)
  have hP : va_P (dC, dI) vwCl [(h0, .inr (4, [.int 1, .int 0, .ref q_1, .ref q_3])), (q_1, .inl (cA_2, n, .inl (fun _ => 0))), (q_3, .inl (cA_4, n, .inl (fun _ => 0)))] H := hP
  have hD : va_D A [(h0, .inr (4, [.int 1, .int 0, .ref q_1, .ref q_3])), (q_1, .inl (cA_2, n, .inl (fun _ => 0))), (q_3, .inl (cA_4, n, .inl (fun _ => 0)))] := hD
  have hP9 := hP.sub (ws' := [(h0, .inr (4, [.int 1, .int 0, .ref q_1, .ref q_3]))]) [0] rfl
  have hD9 := hD.sub (ws' := [(h0, .inr (4, [.int 1, .int 0, .ref q_1, .ref q_3]))]) [0] (by decide) rfl
  have hK9 := hK.sub (tys' := []) [] rfl
  exact W.vret hx hb hr (fun t ht hW => ⟨⟨(q_1, q_3), rfl, trivial, by rw [ht]; exact hP9, va_K.moved hW.alike hK9, hD9⟩, hS.F ht⟩) hS.2.2 dX4_init_23
def v_X3_init : List Cond := .code yX3_init cX3_init 2 none :: ([.code objectInit ⟨#[0xb1]⟩ 1 none, .methodLink RX3 1 objectInit, .instanceMethod objectInit, .fieldLink RX3 7 "TwinRoots$Limits" "mostKeys" "I", .fieldLink RX3 13 "TwinRoots$Limits" "mostChildren" "I"] ++ (wsX30 ++ ([])))
set_option maxHeartbeats 4000000 in
set_option maxRecDepth 100000 in
/-- Limits(w) -/
theorem c_X3_init (l : Launch) (dC : Nat → ClassId) (dI : Nat → Nat → Nat) (sz : Nat) (h0 : Nat) (p0 : Int32) : Met l yX3_init v_X3_init ({ frames := 1, cells := 0, slots := 0, locals := 12 } : Room) (va_Pc [.ref h0, .int p0] (fun U => U.heap.size = sz ∧ va_P (dC, dI) vwCl [(h0, .inr (3, [.int 0, .int 0]))] U.heap ∧ va_K (dC, dI) vwCl [] U ∧ va_D (fun _ => True) [(h0, .inr (3, [.int 0, .int 0]))])) (va_Qv (fun (_ : Unit) => True) (fun (_ : Unit) (t : State) => va_P (dC, dI) vwCl [] t.heap ∧ va_K (dC, dI) vwCl [] t ∧ va_D (va_A [(h0, .inr (3, [.int 0, .int 0]))] sz) []) (va_A [(h0, .inr (3, [.int 0, .int 0]))] sz)) 0 0 (va_A [(h0, .inr (3, [.int 0, .int 0]))] sz) := by
  refine Met.ofW (cc := cX3_init) (maxL := 2) (ret := none) (by decide) rfl ?_
  intro p e s m args below meth c s₁ B hml hv
  obtain ⟨rfl, hsz, hP, hK, hD0⟩ := hv
  have hx := B.exec
  have hb := B.bytes
  have hr := B.returns
  have hts := atoms_spec (ws := v_X3_init) B.pre
  have hown : s.vm.findClass RX3 = some m.cls := findClass_of_methodNamed B.named
  have hlocks := B.notSynchronized
  have hin : meth.name = "<init>" := (name_of_methodNamed B.named B.method).1
  subst hsz
  have hD := hD0.self (sz := s.heap.size)
  generalize hAe : va_A [(h0, .inr (3, [.int 0, .int 0]))] s.heap.size = A at hD ⊢
  have hA : ∀ q : Nat, s.heap.size ≤ q → A q := fun q h => by rw [← hAe]; exact Or.inr h
  have hS : va_S A s.heap s.heap [] := va_S.rf
  have hP : va_P (dC, dI) vwCl [(h0, .inr (3, [.int 0, .int 0]))] s.heap := hP
  have hl := lv_entry ([.ref h0, .int p0]) (n := 2) (Nat.le_of_ble_eq_true rfl)
  rw [lg_entry_eq]
  generalize (lg_sl ([.ref h0, .int p0]) ++ List.replicate (2 - (lg_sl ([.ref h0, .int p0])).length) Slot.unset).toArray = ls at hl ⊢
  have hl : lv_has ls 2 [(0, .ref h0), (1, .int p0)] := hl
  have k_1 := hts (.code objectInit ⟨#[0xb1]⟩ 1 none) (List.mem_of_getElem? (i := 1) rfl)
  have k_2 := hts (.methodLink RX3 1 objectInit) (List.mem_of_getElem? (i := 2) rfl)
  have k_3 := hts (.instanceMethod objectInit) (List.mem_of_getElem? (i := 3) rfl)
  have k_4 := (fun _ h => List.mem_cons_of_mem _ (List.mem_append_right _ (List.mem_append_left _ h)) : ∀ w ∈ wsX30, w ∈ v_X3_init)
  have k_5 := hts (.fieldLink RX3 7 "TwinRoots$Limits" "mostKeys" "I") (List.mem_of_getElem? (i := 4) rfl)
  have k_6 := hts (.fieldLink RX3 13 "TwinRoots$Limits" "mostChildren" "I") (List.mem_of_getElem? (i := 5) rfl)
  refine lv_aload_n hx hb dX3_init_0 rfl (lv_at hl 0 rfl) ?_
  refine W.objInit hx hb hown k_2 k_3 k_1 rfl (by rw [hml]; exact hl.1) rfl dX3_init_1 (Nat.le_of_ble_eq_true rfl) (Nat.le_of_ble_eq_true rfl) ?_
  refine W.eq (g2 := F0 m 4 ls []) rfl ?_
  refine lv_aload_n hx hb dX3_init_4 rfl (lv_at hl 0 rfl) ?_
  refine lv_iload_n hx hb dX3_init_5 rfl (lv_at hl 1 rfl) ?_
  refine lv_iconst (v := 3) hx hb dX3_init_6 (by decide) ?_
  refine lv_isub hx hb dX3_init_7 ?_
  refine lv_iconst (v := 2) hx hb dX3_init_8 (by decide) ?_
  refine lv_idiv hx hb dX3_init_9 (by decide) ?_
  refine lv_topi (fun z_1 _ => ?_)
  refine va_putF (D := (dC, dI)) (ci := 3) (v := .int z_1) (ty := .int) (C := RX3) (T := TX3) (N := 2) hx hb hts k_4 tyX3 tyX3_ok nmX3 hown hK hP hD hS 0 rfl rfl 0 (by decide) k_5 (fun _ h9 => h9) rfl hin rfl (by decide +kernel) rfl rfl (Nat.le_of_ble_eq_true rfl) dX3_init_10 (fun H locs hP hD hS => ?_)
  have hP : va_P (dC, dI) vwCl [(h0, .inr (3, [.int z_1, .int 0]))] H := hP
  have hD : va_D A [(h0, .inr (3, [.int z_1, .int 0]))] := hD
  refine lv_aload_n hx hb dX3_init_13 rfl (lv_at hl 0 rfl) ?_
  refine lv_iload_n hx hb dX3_init_14 rfl (lv_at hl 1 rfl) ?_
  refine lv_iconst (v := 2) hx hb dX3_init_15 (by decide) ?_
  refine lv_isub hx hb dX3_init_16 ?_
  refine lv_iconst (v := 2) hx hb dX3_init_17 (by decide) ?_
  refine lv_idiv hx hb dX3_init_18 (by decide) ?_
  refine lv_topi (fun z_2 _ => ?_)
  refine va_putF (D := (dC, dI)) (ci := 3) (v := .int z_2) (ty := .int) (C := RX3) (T := TX3) (N := 2) hx hb hts k_4 tyX3 tyX3_ok nmX3 hown hK hP hD hS 0 rfl rfl 1 (by decide) k_6 (fun _ h9 => h9) rfl hin rfl (by decide +kernel) rfl rfl (Nat.le_of_ble_eq_true rfl) dX3_init_19 (fun H locs hP hD hS => ?_)
  have hP : va_P (dC, dI) vwCl [(h0, .inr (3, [.int z_1, .int z_2]))] H := hP
  have hD : va_D A [(h0, .inr (3, [.int z_1, .int z_2]))] := hD
  have hP9 := hP.sub (ws' := []) [] rfl
  have hD9 := hD.sub (ws' := []) [] (by decide) rfl
  have hK9 := hK.sub (tys' := []) [] rfl
  exact W.vret hx hb hr (fun t ht hW => ⟨⟨(), rfl, trivial, by rw [ht]; exact hP9, va_K.moved hW.alike hK9, hD9⟩, hS.F ht⟩) hS.2.2 dX3_init_22
def v_X2_init : List Cond := .code yX2_init cX2_init 4 none :: ([.code objectInit ⟨#[0xb1]⟩ 1 none, .methodLink RX2 3 objectInit, .instanceMethod objectInit, .classLink RX2 9 RX4, .fieldLink RX2 11 "TwinRoots$Forest" "pages" "[LTwinRoots$Page;", .instantiable RX4 4, .initialized RX4, .code yX4_init cX4_init 2 none, .methodLink RX4 3 objectInit, .fieldLink RX4 9 "TwinRoots$Page" "leaf" "Z", .arrayClass .int, .fieldLink RX4 15 "TwinRoots$Page" "keys" "[I", .fieldLink RX4 19 "TwinRoots$Page" "refs" "[I", .methodLink RX2 17 yX4_init, .instanceMethod yX4_init, .fieldLink RX2 20 "TwinRoots$Forest" "empty" "LTwinRoots$Page;", .fieldLink RX2 24 "TwinRoots$Forest" "line" "[I"] ++ (wsX20 ++ (wsX40 ++ ([]))))
set_option maxRecDepth 20000 in
theorem g_X2_init_X4_init : GoodIn v_X2_init v_X4_init := goodIn_r _ [8, 1, 9, 3, 10, 11, 12, 13, 24, 25, 26, 27] (by decide +kernel) (by decide +kernel)
set_option maxHeartbeats 4000000 in
set_option maxRecDepth 100000 in
/-- Forest(w, b): pages for all BLOCKS -/
theorem c_X2_init (l : Launch) (dC : Nat → ClassId) (dI : Nat → Nat → Nat) (sz : Nat) (h0 : Nat) (w : Nat) (b : Nat) (zw0 : 12 ≤ w) (zw : w ≤ 40) (zb0 : 4 ≤ b) (zb : b ≤ 64) (zwb : w * b ≤ 2560) : Met l yX2_init v_X2_init ({ frames := 2, cells := 197, slots := 5588, locals := 33 } : Room) (va_Pc [.ref h0, .int (nI w), .int (nI b)] (fun U => U.heap.size = sz ∧ va_P (dC, dI) vwCl [(h0, .inr (2, [.int 0, .null, .null, .null, .int 0, .int 0]))] U.heap ∧ va_K (dC, dI) vwCl [] U ∧ va_D (fun _ => True) [(h0, .inr (2, [.int 0, .null, .null, .null, .int 0, .int 0]))] ∧ va_AO RX4 U)) (va_Qv (fun (_ : Unit) => True) (fun (_ : Unit) (t : State) => va_P (dC, dI) vwCl [] t.heap ∧ va_K (dC, dI) vwCl [] t ∧ va_D (va_A [(h0, .inr (2, [.int 0, .null, .null, .null, .int 0, .int 0]))] sz) []) (va_A [(h0, .inr (2, [.int 0, .null, .null, .null, .int 0, .int 0]))] sz)) 197 5588 (va_A [(h0, .inr (2, [.int 0, .null, .null, .null, .int 0, .int 0]))] sz) := by
  refine Met.ofW (cc := cX2_init) (maxL := 4) (ret := none) (by decide) rfl ?_
  intro p e s m args below meth c s₁ B hml hv
  obtain ⟨rfl, hsz, hP, hK, hD0, hAO⟩ := hv
  have hx := B.exec
  have hb := B.bytes
  have hr := B.returns
  have hts := atoms_spec (ws := v_X2_init) B.pre
  have hown : s.vm.findClass RX2 = some m.cls := findClass_of_methodNamed B.named
  have hlocks := B.notSynchronized
  have hin : meth.name = "<init>" := (name_of_methodNamed B.named B.method).1
  subst hsz
  have hD := hD0.self (sz := s.heap.size)
  generalize hAe : va_A [(h0, .inr (2, [.int 0, .null, .null, .null, .int 0, .int 0]))] s.heap.size = A at hD ⊢
  have hA : ∀ q : Nat, s.heap.size ≤ q → A q := fun q h => by rw [← hAe]; exact Or.inr h
  have hS : va_S A s.heap s.heap [] := va_S.rf
  have hP : va_P (dC, dI) vwCl [(h0, .inr (2, [.int 0, .null, .null, .null, .int 0, .int 0]))] s.heap := hP
  have hl := lv_entry ([.ref h0, .int (nI w), .int (nI b)]) (n := 4) (Nat.le_of_ble_eq_true rfl)
  rw [lg_entry_eq]
  generalize (lg_sl ([.ref h0, .int (nI w), .int (nI b)]) ++ List.replicate (4 - (lg_sl ([.ref h0, .int (nI w), .int (nI b)])).length) Slot.unset).toArray = ls at hl ⊢
  have hl : lv_has ls 4 [(0, .ref h0), (1, .int (nI w)), (2, .int (nI b))] := hl
  have k_1 := hts (.code objectInit ⟨#[0xb1]⟩ 1 none) (List.mem_of_getElem? (i := 1) rfl)
  have k_2 := hts (.methodLink RX2 3 objectInit) (List.mem_of_getElem? (i := 2) rfl)
  have k_3 := hts (.instanceMethod objectInit) (List.mem_of_getElem? (i := 3) rfl)
  have k_4 := hts (.classLink RX2 9 RX4) (List.mem_of_getElem? (i := 4) rfl)
  have k_5 := (fun _ h => List.mem_cons_of_mem _ (List.mem_append_right _ (List.mem_append_left _ h)) : ∀ w ∈ wsX20, w ∈ v_X2_init)
  have k_6 := hts (.fieldLink RX2 11 "TwinRoots$Forest" "pages" "[LTwinRoots$Page;") (List.mem_of_getElem? (i := 5) rfl)
  have k_7 := (fun _ h => List.mem_cons_of_mem _ (List.mem_append_right _ (List.mem_append_right _ (List.mem_append_left _ h))) : ∀ w ∈ wsX40, w ∈ v_X2_init)
  have k_8 := hts (.instantiable RX4 4) (List.mem_of_getElem? (i := 6) rfl)
  have k_9 := hts (.initialized RX4) (List.mem_of_getElem? (i := 7) rfl)
  have k_10 := hts (.methodLink RX2 17 yX4_init) (List.mem_of_getElem? (i := 14) rfl)
  have k_11 := hts (.instanceMethod yX4_init) (List.mem_of_getElem? (i := 15) rfl)
  have k_12 := hts (.fieldLink RX2 20 "TwinRoots$Forest" "empty" "LTwinRoots$Page;") (List.mem_of_getElem? (i := 16) rfl)
  have k_13 := hts (.arrayClass .int) (List.mem_of_getElem? (i := 11) rfl)
  have k_14 := hts (.fieldLink RX2 24 "TwinRoots$Forest" "line" "[I") (List.mem_of_getElem? (i := 17) rfl)
  refine lv_aload_n hx hb dX2_init_0 rfl (lv_at hl 0 rfl) ?_
  refine W.objInit hx hb hown k_2 k_3 k_1 rfl (by rw [hml]; exact hl.1) rfl dX2_init_1 (Nat.le_of_ble_eq_true rfl) (Nat.le_of_ble_eq_true rfl) ?_
  refine W.eq (g2 := F0 m 4 ls []) rfl ?_
  refine lv_aload_n hx hb dX2_init_4 rfl (lv_at hl 0 rfl) ?_
  refine lv_iload_n hx hb dX2_init_5 rfl (lv_at hl 2 rfl) ?_
  refine va_newq (C := RX4) hx hb hown k_4 hAO hK hP hD hS hA (nI_pos (by omega)) (nI_clamp (by omega)) (show b * 4 ≤ 536870912 by omega) (show 0 + 1 ≤ 197 by omega) (show 0 + b ≤ 5588 by omega) dX2_init_6 (fun qp cqp H hK hP hD hS => ?_)
  have hP : va_P (dC, dI) vwCl [(h0, .inr (2, [.int 0, .null, .null, .null, .int 0, .int 0])), (qp, .inl (cqp, b, .inr (.inr (.inr (.inr (fun _ => none))))))] H := hP
  have hD : va_D A [(h0, .inr (2, [.int 0, .null, .null, .null, .int 0, .int 0])), (qp, .inl (cqp, b, .inr (.inr (.inr (.inr (fun _ => none))))))] := hD
  have hK : va_K (dC, dI) vwCl [(cqp, .object RX4)] s := hK
  refine W.widen (k := 1) (n := 64) (by omega) (by omega) ?_
  refine va_putF (D := (dC, dI)) (ci := 2) (v := .ref qp) (ty := (.array (.object "TwinRoots$Page"))) (C := RX2) (T := TX2) (N := 6) hx hb hts k_5 tyX2 tyX2_ok nmX2 hown hK hP hD hS 0 rfl rfl 1 (by decide) k_6 (fun _ h9 => h9) rfl hin rfl (by decide +kernel) rfl rfl (Nat.le_of_ble_eq_true rfl) dX2_init_9 (fun H locs hP hD hS => ?_)
  have hP : va_P (dC, dI) vwCl [(h0, .inr (2, [.int 0, .ref qp, .null, .null, .int 0, .int 0])), (qp, .inl (cqp, b, .inr (.inr (.inr (.inr (fun _ => none))))))] H := hP
  have hD : va_D A [(h0, .inr (2, [.int 0, .ref qp, .null, .null, .int 0, .int 0])), (qp, .inl (cqp, b, .inr (.inr (.inr (.inr (fun _ => none))))))] := hD
  refine lv_iconst (v := 0) hx hb dX2_init_12 (by decide) ?_
  refine lv_istore_n (lv' := [(3, .int 0), (0, .ref h0), (1, .int (nI w)), (2, .int (nI b))]) hx hb dX2_init_13 rfl hl (by decide) rfl (fun ls hl => ?_)
  have loop_14 : ∀ (Q : State → Prop), (∀ (i : Nat) (g : Nat → Option Nat) (H : Heap) (locs : List Loc) (ls : Array Slot), i ≤ b → va_P (dC, dI) vwCl [(h0, .inr (2, [.int 0, .ref qp, .null, .null, .int 0, .int 0])), (qp, .inl (cqp, b, .inr (.inr (.inr (.inr g)))))] H → va_D A [(h0, .inr (2, [.int 0, .ref qp, .null, .null, .int 0, .int 0])), (qp, .inl (cqp, b, .inr (.inr (.inr (.inr g)))))] → va_S A s.heap H locs → lv_has ls 4 [(0, .ref h0), (1, .int (nI w)), (2, .int (nI b)), (3, .int (nI i))] → W p l e (headSpec v_X2_init ({ frames := 2, cells := 197, slots := 5588, locals := 33 } : Room)).room s m ([.ref h0, .int (nI w), .int (nI b)] : List Value).toArray below meth c H locs (1 + 3 * i) (64 + 84 * i) Q (F0 m 43 ls [])) → ∀ (n i : Nat) (g : Nat → Option Nat) (H : Heap) (locs : List Loc) (ls : Array Slot), i ≤ b → b + 1 ≤ i + n → va_P (dC, dI) vwCl [(h0, .inr (2, [.int 0, .ref qp, .null, .null, .int 0, .int 0])), (qp, .inl (cqp, b, .inr (.inr (.inr (.inr g)))))] H → va_D A [(h0, .inr (2, [.int 0, .ref qp, .null, .null, .int 0, .int 0])), (qp, .inl (cqp, b, .inr (.inr (.inr (.inr g)))))] → va_S A s.heap H locs → lv_has ls 4 [(0, .ref h0), (1, .int (nI w)), (2, .int (nI b)), (3, .int (nI i))] → W p l e (headSpec v_X2_init ({ frames := 2, cells := 197, slots := 5588, locals := 33 } : Room)).room s m ([.ref h0, .int (nI w), .int (nI b)] : List Value).toArray below meth c H locs (1 + 3 * i) (64 + 84 * i) Q (F0 m 14 ls []) := by
    intro Q kx n
    induction n with
    | zero =>
      intro i g H locs ls h1 h2
      exact absurd h2 (by omega)
    | succ n ih =>
      intro i g H locs ls hi hn hP hD hS hl
      refine lv_iload_n hx hb dX2_init_14 rfl (lv_at hl 3 rfl) ?_
      refine lv_aload_n hx hb dX2_init_15 rfl (lv_at hl 0 rfl) ?_
      refine va_get (D := (dC, dI)) (ci := 2) (v := .ref qp) (C := RX2) (T := TX2) (N := 6) hx hb hts k_5 hown hK hP 0 rfl rfl 1 (by decide) k_6 (fun _ h9 => h9) rfl dX2_init_16 ?_
      refine va_alen (v := nI b) hx hb hK hP 1 0 rfl rfl rfl dX2_init_19 ?_
      refine lv_icmp_ge (tgt := 43) hx hb dX2_init_20 (by decide) (fun c_1 => ?_) (fun c_1 => ?_)
      · exact kx i g _ _ _ (by omega) hP hD hS (lv_sub hl [0, 1, 2, 3] rfl)
      · have hlt : i < b := Nat.lt_of_not_le (fun h => c_1 (nI_le h (by omega)))
        refine lv_aload_n hx hb dX2_init_23 rfl (lv_at hl 0 rfl) ?_
        refine va_get (D := (dC, dI)) (ci := 2) (v := .ref qp) (C := RX2) (T := TX2) (N := 6) hx hb hts k_5 hown hK hP 0 rfl rfl 1 (by decide) k_6 (fun _ h9 => h9) rfl dX2_init_24 ?_
        refine lv_iload_n hx hb dX2_init_27 rfl (lv_at hl 3 rfl) ?_
        refine va_new (ci := 4) (fs := [.int 0, .int 0, .null, .null]) (C := RX4) (T := TX4) (N := 4) hx hb hts k_7 tyX4 tyX4_ok hown k_4 k_8 k_9 hK hP hD hS hA rfl (fun j hj => by rcases (show j = 0 ∨ j = 1 ∨ j = 2 ∨ j = 3 by omega) with rfl | rfl | rfl | rfl <;> rfl) (show 1 + 3 * i + 1 ≤ 197 by omega) (show 64 + 84 * i + 4 ≤ 5588 by omega) dX2_init_28 (fun qg H hP hD hS => ?_)
        have hP : va_P (dC, dI) vwCl [(h0, .inr (2, [.int 0, .ref qp, .null, .null, .int 0, .int 0])), (qp, .inl (cqp, b, .inr (.inr (.inr (.inr g))))), (qg, .inr (4, [.int 0, .int 0, .null, .null]))] H := hP
        have hD : va_D A [(h0, .inr (2, [.int 0, .ref qp, .null, .null, .int 0, .int 0])), (qp, .inl (cqp, b, .inr (.inr (.inr (.inr g))))), (qg, .inr (4, [.int 0, .int 0, .null, .null]))] := hD
        refine W.widen (k := 1 + 3 * i + 1) (n := 64 + 84 * i + 4) (by omega) (by omega) ?_
        refine lv_dup hx hb dX2_init_31 rfl ?_
        refine lv_iload_n hx hb dX2_init_32 rfl (lv_at hl 1 rfl) ?_
        have hPc := hP.sub (ws' := [(qg, .inr (4, [.int 0, .int 0, .null, .null]))]) [2] rfl
        have hDc := hD.sub (ws' := [(qg, .inr (4, [.int 0, .int 0, .null, .null]))]) [2] (by decide) rfl
        have hKc := hK.sub (tys' := []) [] rfl
        have hFc := va_free (wc := [(qg, .inr (4, [.int 0, .int 0, .null, .null]))]) hD hS hA [2] rfl
        refine va_callv (va_runI (As := [.int (nI w)]) (rest := [.ref qg, .int (nI i), .ref qp]) ⟨hx, hb, hml, hown, hts⟩ (c_X4_init l dC dI H.size qg w (by first | assumption | omega | decide)) (cwI 1 hts g_X2_init_X4_init rfl rfl rfl k_9 k_10 k_11 rfl (by decide +kernel) ⟨Nat.le_of_ble_eq_true rfl, Nat.le_of_ble_eq_true rfl⟩) ⟨fun a U g mk q => by obtain ⟨q0, q1, qP, qK, qD⟩ := q; exact ⟨q0, q1, qP, va_K.moved (u := U) (U := U.calling g mk a) (Vm.Alike.refl U.vm) qK, qD⟩, fun U hU hW => ⟨rfl, by rw [hU], by rw [hU]; exact hPc, va_K.moved hW.alike hKc, hDc.weaken (fun _ _ _ _ => trivial)⟩⟩ rfl rfl hl.1 rfl (lv_room (Nat.le_of_ble_eq_true rfl)) dX2_init_33 ⟨(show 1 + 3 * i + 1 + 2 ≤ 197 by omega), (show 64 + 84 * i + 4 + 80 ≤ 5588 by omega)⟩) hS (fun q _ h => hFc q h) hFc (fun u t H1 locs ht hvm hw hB hz1 hk1 hS => ?_)
        obtain ⟨q1_3, q2_4⟩ := u
        obtain ⟨hP1, hK1, hD1⟩ := hB
        rw [ht] at hP1
        have hK1 := va_K.moved hvm.symm hK1
        try dsimp only at hw
        obtain ⟨hP, hD⟩ := va_join (wr := [(h0, .inr (2, [.int 0, .ref qp, .null, .null, .int 0, .int 0])), (qp, .inl (cqp, b, .inr (.inr (.inr (.inr g)))))]) (w1 := [(qg, .inr (4, [.int 1, .int 0, .ref q1_3, .ref q2_4]))]) hP hD [2] [0, 1] rfl rfl (by decide) (by decide) hk1 hFc hP1 hD1
        have hK := (hK.sub (tys' := [(cqp, .object RX4)]) [0] rfl).app hK1
        generalize H1 = H at hP hS ⊢
        have hP : va_P (dC, dI) vwCl [(h0, .inr (2, [.int 0, .ref qp, .null, .null, .int 0, .int 0])), (qp, .inl (cqp, b, .inr (.inr (.inr (.inr g))))), (qg, .inr (4, [.int 1, .int 0, .ref q1_3, .ref q2_4]))] H := hP
        have hD : va_D A [(h0, .inr (2, [.int 0, .ref qp, .null, .null, .int 0, .int 0])), (qp, .inl (cqp, b, .inr (.inr (.inr (.inr g))))), (qg, .inr (4, [.int 1, .int 0, .ref q1_3, .ref q2_4]))] := hD
        have hK : va_K (dC, dI) vwCl [(cqp, .object RX4)] s := hK
        refine W.widen (k := 1 + 3 * i + 1 + 2) (n := 64 + 84 * i + 4 + 80) (by omega) (by omega) ?_
        refine va_astq hx hb hK hP hD hS 1 0 2 4 rfl rfl rfl rfl (show vp_in (nI i) b from vp_in_nI (by omega) (by omega)) dX2_init_36 (fun H locs hP hD hS => ?_)
        have hP : va_P (dC, dI) vwCl [(h0, .inr (2, [.int 0, .ref qp, .null, .null, .int 0, .int 0])), (qp, .inl (cqp, b, .inr (.inr (.inr (.inr (va_up g ((nI i).toNatClampNeg) (some qg))))))), (qg, .inr (4, [.int 1, .int 0, .ref q1_3, .ref q2_4]))] H := hP
        have hD : va_D A [(h0, .inr (2, [.int 0, .ref qp, .null, .null, .int 0, .int 0])), (qp, .inl (cqp, b, .inr (.inr (.inr (.inr (va_up g ((nI i).toNatClampNeg) (some qg))))))), (qg, .inr (4, [.int 1, .int 0, .ref q1_3, .ref q2_4]))] := hD
        obtain ⟨f_5, ef_5⟩ : ∃ g9, g9 = va_up g ((nI i).toNatClampNeg) (some qg) := ⟨_, rfl⟩
        rw [← ef_5] at hP hD
        have hP := hP.sub (ws' := [(h0, .inr (2, [.int 0, .ref qp, .null, .null, .int 0, .int 0])), (qp, .inl (cqp, b, .inr (.inr (.inr (.inr f_5)))))]) [0, 1] rfl
        have hD := hD.sub (ws' := [(h0, .inr (2, [.int 0, .ref qp, .null, .null, .int 0, .int 0])), (qp, .inl (cqp, b, .inr (.inr (.inr (.inr f_5)))))]) [0, 1] (by decide) rfl
        refine lv_iinc (v := (nI (i + 1))) (lv' := [(3, .int (nI (i + 1))), (0, .ref h0), (1, .int (nI w)), (2, .int (nI b))]) hx hb dX2_init_37 hl (k := 3) rfl (nI_1 i) (by decide) rfl (fun ls hl => ?_)
        refine lv_goto (tgt := 14) hx hb dX2_init_40 (by decide) ?_
        refine W.widen (k := 1 + 3 * (i + 1)) (n := 64 + 84 * (i + 1)) (by omega) (by omega) ?_
        exact ih (i + 1) f_5 _ _ _ (by omega) (by omega) hP hD hS (lv_sub hl [1, 2, 3, 0] rfl)
  refine W.widen (k := 1 + 3 * 0) (n := 64 + 84 * 0) (by omega) (by omega) ?_
  refine loop_14 _ (fun i g H locs ls hi hP hD hS hl => ?_) (b + 1) 0 (fun _ => none) _ _ _ (by omega) (by omega) hP hD hS (lv_sub hl [1, 2, 3, 0] rfl)
  refine lv_aload_n hx hb dX2_init_43 rfl (lv_at hl 0 rfl) ?_
  refine va_new (ci := 4) (fs := [.int 0, .int 0, .null, .null]) (C := RX4) (T := TX4) (N := 4) hx hb hts k_7 tyX4 tyX4_ok hown k_4 k_8 k_9 hK hP hD hS hA rfl (fun j hj => by rcases (show j = 0 ∨ j = 1 ∨ j = 2 ∨ j = 3 by omega) with rfl | rfl | rfl | rfl <;> rfl) (show 1 + 3 * i + 1 ≤ 197 by omega) (show 64 + 84 * i + 4 ≤ 5588 by omega) dX2_init_44 (fun q_6 H hP hD hS => ?_)
  have hP : va_P (dC, dI) vwCl [(h0, .inr (2, [.int 0, .ref qp, .null, .null, .int 0, .int 0])), (qp, .inl (cqp, b, .inr (.inr (.inr (.inr g))))), (q_6, .inr (4, [.int 0, .int 0, .null, .null]))] H := hP
  have hD : va_D A [(h0, .inr (2, [.int 0, .ref qp, .null, .null, .int 0, .int 0])), (qp, .inl (cqp, b, .inr (.inr (.inr (.inr g))))), (q_6, .inr (4, [.int 0, .int 0, .null, .null]))] := hD
  refine W.widen (k := 1 + 3 * i + 1) (n := 64 + 84 * i + 4) (by omega) (by omega) ?_
  refine lv_dup hx hb dX2_init_47 rfl ?_
  refine lv_iconst (v := 0) hx hb dX2_init_48 (by decide) ?_
  have hPc := hP.sub (ws' := [(q_6, .inr (4, [.int 0, .int 0, .null, .null]))]) [2] rfl
  have hDc := hD.sub (ws' := [(q_6, .inr (4, [.int 0, .int 0, .null, .null]))]) [2] (by decide) rfl
  have hKc := hK.sub (tys' := []) [] rfl
  have hFc := va_free (wc := [(q_6, .inr (4, [.int 0, .int 0, .null, .null]))]) hD hS hA [2] rfl
  refine va_callv (va_runI (As := [.int 0]) (rest := [.ref q_6, .ref h0]) ⟨hx, hb, hml, hown, hts⟩ (c_X4_init l dC dI H.size q_6 0 (by first | assumption | omega | decide)) (cwI 1 hts g_X2_init_X4_init rfl rfl rfl k_9 k_10 k_11 rfl (by decide +kernel) ⟨Nat.le_of_ble_eq_true rfl, Nat.le_of_ble_eq_true rfl⟩) ⟨fun a U g mk q => by obtain ⟨q0, q1, qP, qK, qD⟩ := q; exact ⟨q0, q1, qP, va_K.moved (u := U) (U := U.calling g mk a) (Vm.Alike.refl U.vm) qK, qD⟩, fun U hU hW => ⟨rfl, by rw [hU], by rw [hU]; exact hPc, va_K.moved hW.alike hKc, hDc.weaken (fun _ _ _ _ => trivial)⟩⟩ rfl rfl hl.1 rfl (lv_room (Nat.le_of_ble_eq_true rfl)) dX2_init_49 ⟨(show 1 + 3 * i + 1 + 2 ≤ 197 by omega), (show 64 + 84 * i + 4 + 80 ≤ 5588 by omega)⟩) hS (fun q _ h => hFc q h) hFc (fun u t H1 locs ht hvm hw hB hz1 hk1 hS => ?_)
  obtain ⟨q1_8, q2_9⟩ := u
  obtain ⟨hP1, hK1, hD1⟩ := hB
  rw [ht] at hP1
  have hK1 := va_K.moved hvm.symm hK1
  try dsimp only at hw
  obtain ⟨hP, hD⟩ := va_join (wr := [(h0, .inr (2, [.int 0, .ref qp, .null, .null, .int 0, .int 0])), (qp, .inl (cqp, b, .inr (.inr (.inr (.inr g)))))]) (w1 := [(q_6, .inr (4, [.int 1, .int 0, .ref q1_8, .ref q2_9]))]) hP hD [2] [0, 1] rfl rfl (by decide) (by decide) hk1 hFc hP1 hD1
  have hK := (hK.sub (tys' := [(cqp, .object RX4)]) [0] rfl).app hK1
  generalize H1 = H at hP hS ⊢
  have hP : va_P (dC, dI) vwCl [(h0, .inr (2, [.int 0, .ref qp, .null, .null, .int 0, .int 0])), (qp, .inl (cqp, b, .inr (.inr (.inr (.inr g))))), (q_6, .inr (4, [.int 1, .int 0, .ref q1_8, .ref q2_9]))] H := hP
  have hD : va_D A [(h0, .inr (2, [.int 0, .ref qp, .null, .null, .int 0, .int 0])), (qp, .inl (cqp, b, .inr (.inr (.inr (.inr g))))), (q_6, .inr (4, [.int 1, .int 0, .ref q1_8, .ref q2_9]))] := hD
  have hK : va_K (dC, dI) vwCl [(cqp, .object RX4)] s := hK
  refine W.widen (k := 1 + 3 * i + 1 + 2) (n := 64 + 84 * i + 4 + 80) (by omega) (by omega) ?_
  refine va_putF (D := (dC, dI)) (ci := 2) (v := .ref q_6) (ty := (.object "TwinRoots$Page")) (C := RX2) (T := TX2) (N := 6) hx hb hts k_5 tyX2 tyX2_ok nmX2 hown hK hP hD hS 0 rfl rfl 2 (by decide) k_12 (fun _ h9 => h9) rfl hin rfl (by decide +kernel) rfl rfl (Nat.le_of_ble_eq_true rfl) dX2_init_52 (fun H locs hP hD hS => ?_)
  have hP : va_P (dC, dI) vwCl [(h0, .inr (2, [.int 0, .ref qp, .ref q_6, .null, .int 0, .int 0])), (qp, .inl (cqp, b, .inr (.inr (.inr (.inr g))))), (q_6, .inr (4, [.int 1, .int 0, .ref q1_8, .ref q2_9]))] H := hP
  have hD : va_D A [(h0, .inr (2, [.int 0, .ref qp, .ref q_6, .null, .int 0, .int 0])), (qp, .inl (cqp, b, .inr (.inr (.inr (.inr g))))), (q_6, .inr (4, [.int 1, .int 0, .ref q1_8, .ref q2_9]))] := hD
  refine lv_aload_n hx hb dX2_init_55 rfl (lv_at hl 0 rfl) ?_
  refine lv_iload_n hx hb dX2_init_56 rfl (lv_at hl 2 rfl) ?_
  refine va_newa (atype := .int) (a0 := (b, .inl (fun _ => 0))) hx hb k_13 (ty := .int) rfl hK hP hD hS hA (fun _ => rfl) (nI_pos (by omega)) (nI_clamp (by omega)) (by exact cb_int (by omega)) (show 1 + 3 * i + 1 + 2 + 1 ≤ 197 by omega) (show 64 + 84 * i + 4 + 80 + b ≤ 5588 by omega) dX2_init_57 (fun q_10 cA_11 H hK hP hD hS => ?_)
  have hP : va_P (dC, dI) vwCl [(h0, .inr (2, [.int 0, .ref qp, .ref q_6, .null, .int 0, .int 0])), (qp, .inl (cqp, b, .inr (.inr (.inr (.inr g))))), (q_6, .inr (4, [.int 1, .int 0, .ref q1_8, .ref q2_9])), (q_10, .inl (cA_11, b, .inl (fun _ => 0)))] H := hP
  have hD : va_D A [(h0, .inr (2, [.int 0, .ref qp, .ref q_6, .null, .int 0, .int 0])), (qp, .inl (cqp, b, .inr (.inr (.inr (.inr g))))), (q_6, .inr (4, [.int 1, .int 0, .ref q1_8, .ref q2_9])), (q_10, .inl (cA_11, b, .inl (fun _ => 0)))] := hD
  have hK : va_K (dC, dI) vwCl [(cqp, .object RX4), (cA_11, .int)] s := hK
  refine W.widen (k := 1 + 3 * i + 1 + 2 + 1) (n := 64 + 84 * i + 4 + 80 + 64) (by omega) (by omega) ?_
  refine va_putF (D := (dC, dI)) (ci := 2) (v := .ref q_10) (ty := (.array .int)) (C := RX2) (T := TX2) (N := 6) hx hb hts k_5 tyX2 tyX2_ok nmX2 hown hK hP hD hS 0 rfl rfl 3 (by decide) k_14 (fun _ h9 => h9) rfl hin rfl (by decide +kernel) rfl rfl (Nat.le_of_ble_eq_true rfl) dX2_init_59 (fun H locs hP hD hS => ?_)
  have hP : va_P (dC, dI) vwCl [(h0, .inr (2, [.int 0, .ref qp, .ref q_6, .ref q_10, .int 0, .int 0])), (qp, .inl (cqp, b, .inr (.inr (.inr (.inr g))))), (q_6, .inr (4, [.int 1, .int 0, .ref q1_8, .ref q2_9])), (q_10, .inl (cA_11, b, .inl (fun _ => 0)))] H := hP
  have hD : va_D A [(h0, .inr (2, [.int 0, .ref qp, .ref q_6, .ref q_10, .int 0, .int 0])), (qp, .inl (cqp, b, .inr (.inr (.inr (.inr g))))), (q_6, .inr (4, [.int 1, .int 0, .ref q1_8, .ref q2_9])), (q_10, .inl (cA_11, b, .inl (fun _ => 0)))] := hD
  have hP9 := hP.sub (ws' := []) [] rfl
  have hD9 := hD.sub (ws' := []) [] (by decide) rfl
  have hK9 := hK.sub (tys' := []) [] rfl
  refine W.widen (k := 197) (n := 5588) (by omega) (by omega) ?_
  exact W.vret hx hb hr (fun t ht hW => ⟨⟨(), rfl, trivial, by rw [ht]; exact hP9, va_K.moved hW.alike hK9, hD9⟩, hS.F ht⟩) hS.2.2 dX2_init_62
def v_X5_init : List Cond := .code yX5_init cX5_init 3 none :: ([.code objectInit ⟨#[0xb1]⟩ 1 none, .methodLink RX5 3 objectInit, .instanceMethod objectInit, .classLink RX5 9 RX4, .fieldLink RX5 11 "TwinRoots$Plan" "drafts" "[LTwinRoots$Page;", .instantiable RX4 4, .initialized RX4, .code yX4_init cX4_init 2 none, .methodLink RX4 3 objectInit, .fieldLink RX4 9 "TwinRoots$Page" "leaf" "Z", .arrayClass .int, .fieldLink RX4 15 "TwinRoots$Page" "keys" "[I", .fieldLink RX4 19 "TwinRoots$Page" "refs" "[I", .methodLink RX5 17 yX4_init, .instanceMethod yX4_init, .fieldLink RX5 20 "TwinRoots$Plan" "targets" "[I", .fieldLink RX5 24 "TwinRoots$Plan" "blank" "LTwinRoots$Page;"] ++ (wsX50 ++ (wsX40 ++ ([]))))
set_option maxRecDepth 20000 in
theorem g_X5_init_X4_init : GoodIn v_X5_init v_X4_init := goodIn_r _ [8, 1, 9, 3, 10, 11, 12, 13, 26, 27, 28, 29] (by decide +kernel) (by decide +kernel)
set_option maxHeartbeats 4000000 in
set_option maxRecDepth 100000 in
/-- Plan(w): 25 drafts -/
theorem c_X5_init (l : Launch) (dC : Nat → ClassId) (dI : Nat → Nat → Nat) (sz : Nat) (h0 : Nat) (w : Nat) (zw : w ≤ 40) : Met l yX5_init v_X5_init ({ frames := 2, cells := 80, slots := 2234, locals := 33 } : Room) (va_Pc [.ref h0, .int (nI w)] (fun U => U.heap.size = sz ∧ va_P (dC, dI) vwCl [(h0, .inr (5, [.int 0, .long 0, .long 0, .int 0, .null, .null, .null, .long 0]))] U.heap ∧ va_K (dC, dI) vwCl [] U ∧ va_D (fun _ => True) [(h0, .inr (5, [.int 0, .long 0, .long 0, .int 0, .null, .null, .null, .long 0]))] ∧ va_AO RX4 U)) (va_Qv (fun (_ : Unit) => True) (fun (_ : Unit) (t : State) => va_P (dC, dI) vwCl [] t.heap ∧ va_K (dC, dI) vwCl [] t ∧ va_D (va_A [(h0, .inr (5, [.int 0, .long 0, .long 0, .int 0, .null, .null, .null, .long 0]))] sz) []) (va_A [(h0, .inr (5, [.int 0, .long 0, .long 0, .int 0, .null, .null, .null, .long 0]))] sz)) 80 2234 (va_A [(h0, .inr (5, [.int 0, .long 0, .long 0, .int 0, .null, .null, .null, .long 0]))] sz) := by
  refine Met.ofW (cc := cX5_init) (maxL := 3) (ret := none) (by decide) rfl ?_
  intro p e s m args below meth c s₁ B hml hv
  obtain ⟨rfl, hsz, hP, hK, hD0, hAO⟩ := hv
  have hx := B.exec
  have hb := B.bytes
  have hr := B.returns
  have hts := atoms_spec (ws := v_X5_init) B.pre
  have hown : s.vm.findClass RX5 = some m.cls := findClass_of_methodNamed B.named
  have hlocks := B.notSynchronized
  have hin : meth.name = "<init>" := (name_of_methodNamed B.named B.method).1
  subst hsz
  have hD := hD0.self (sz := s.heap.size)
  generalize hAe : va_A [(h0, .inr (5, [.int 0, .long 0, .long 0, .int 0, .null, .null, .null, .long 0]))] s.heap.size = A at hD ⊢
  have hA : ∀ q : Nat, s.heap.size ≤ q → A q := fun q h => by rw [← hAe]; exact Or.inr h
  have hS : va_S A s.heap s.heap [] := va_S.rf
  have hP : va_P (dC, dI) vwCl [(h0, .inr (5, [.int 0, .long 0, .long 0, .int 0, .null, .null, .null, .long 0]))] s.heap := hP
  have hl := lv_entry ([.ref h0, .int (nI w)]) (n := 3) (Nat.le_of_ble_eq_true rfl)
  rw [lg_entry_eq]
  generalize (lg_sl ([.ref h0, .int (nI w)]) ++ List.replicate (3 - (lg_sl ([.ref h0, .int (nI w)])).length) Slot.unset).toArray = ls at hl ⊢
  have hl : lv_has ls 3 [(0, .ref h0), (1, .int (nI w))] := hl
  have k_1 := hts (.code objectInit ⟨#[0xb1]⟩ 1 none) (List.mem_of_getElem? (i := 1) rfl)
  have k_2 := hts (.methodLink RX5 3 objectInit) (List.mem_of_getElem? (i := 2) rfl)
  have k_3 := hts (.instanceMethod objectInit) (List.mem_of_getElem? (i := 3) rfl)
  have k_4 := hts (.classLink RX5 9 RX4) (List.mem_of_getElem? (i := 4) rfl)
  have k_5 := (fun _ h => List.mem_cons_of_mem _ (List.mem_append_right _ (List.mem_append_left _ h)) : ∀ w ∈ wsX50, w ∈ v_X5_init)
  have k_6 := hts (.fieldLink RX5 11 "TwinRoots$Plan" "drafts" "[LTwinRoots$Page;") (List.mem_of_getElem? (i := 5) rfl)
  have k_7 := (fun _ h => List.mem_cons_of_mem _ (List.mem_append_right _ (List.mem_append_right _ (List.mem_append_left _ h))) : ∀ w ∈ wsX40, w ∈ v_X5_init)
  have k_8 := hts (.instantiable RX4 4) (List.mem_of_getElem? (i := 6) rfl)
  have k_9 := hts (.initialized RX4) (List.mem_of_getElem? (i := 7) rfl)
  have k_10 := hts (.methodLink RX5 17 yX4_init) (List.mem_of_getElem? (i := 14) rfl)
  have k_11 := hts (.instanceMethod yX4_init) (List.mem_of_getElem? (i := 15) rfl)
  have k_12 := hts (.arrayClass .int) (List.mem_of_getElem? (i := 11) rfl)
  have k_13 := hts (.fieldLink RX5 20 "TwinRoots$Plan" "targets" "[I") (List.mem_of_getElem? (i := 16) rfl)
  have k_14 := hts (.fieldLink RX5 24 "TwinRoots$Plan" "blank" "LTwinRoots$Page;") (List.mem_of_getElem? (i := 17) rfl)
  refine lv_aload_n hx hb dX5_init_0 rfl (lv_at hl 0 rfl) ?_
  refine W.objInit hx hb hown k_2 k_3 k_1 rfl (by rw [hml]; exact hl.1) rfl dX5_init_1 (Nat.le_of_ble_eq_true rfl) (Nat.le_of_ble_eq_true rfl) ?_
  refine W.eq (g2 := F0 m 4 ls []) rfl ?_
  refine lv_aload_n hx hb dX5_init_4 rfl (lv_at hl 0 rfl) ?_
  refine lv_bipush (v := 25) hx hb dX5_init_5 (by decide) ?_
  refine va_newq (C := RX4) hx hb hown k_4 hAO hK hP hD hS hA (by decide) (by decide) (show 25 * 4 ≤ 536870912 by omega) (show 0 + 1 ≤ 80 by omega) (show 0 + 25 ≤ 2234 by omega) dX5_init_7 (fun qp cqp H hK hP hD hS => ?_)
  have hP : va_P (dC, dI) vwCl [(h0, .inr (5, [.int 0, .long 0, .long 0, .int 0, .null, .null, .null, .long 0])), (qp, .inl (cqp, 25, .inr (.inr (.inr (.inr (fun _ => none))))))] H := hP
  have hD : va_D A [(h0, .inr (5, [.int 0, .long 0, .long 0, .int 0, .null, .null, .null, .long 0])), (qp, .inl (cqp, 25, .inr (.inr (.inr (.inr (fun _ => none))))))] := hD
  have hK : va_K (dC, dI) vwCl [(cqp, .object RX4)] s := hK
  refine W.widen (k := 1) (n := 25) (by omega) (by omega) ?_
  refine va_putF (D := (dC, dI)) (ci := 5) (v := .ref qp) (ty := (.array (.object "TwinRoots$Page"))) (C := RX5) (T := TX5) (N := 8) hx hb hts k_5 tyX5 tyX5_ok nmX5 hown hK hP hD hS 0 rfl rfl 4 (by decide) k_6 (fun _ h9 => h9) rfl hin rfl (by decide +kernel) rfl rfl (Nat.le_of_ble_eq_true rfl) dX5_init_10 (fun H locs hP hD hS => ?_)
  have hP : va_P (dC, dI) vwCl [(h0, .inr (5, [.int 0, .long 0, .long 0, .int 0, .ref qp, .null, .null, .long 0])), (qp, .inl (cqp, 25, .inr (.inr (.inr (.inr (fun _ => none))))))] H := hP
  have hD : va_D A [(h0, .inr (5, [.int 0, .long 0, .long 0, .int 0, .ref qp, .null, .null, .long 0])), (qp, .inl (cqp, 25, .inr (.inr (.inr (.inr (fun _ => none))))))] := hD
  refine lv_iconst (v := 0) hx hb dX5_init_13 (by decide) ?_
  refine lv_istore_n (lv' := [(2, .int 0), (0, .ref h0), (1, .int (nI w))]) hx hb dX5_init_14 rfl hl (by decide) rfl (fun ls hl => ?_)
  have loop_15 : ∀ (Q : State → Prop), (∀ (i : Nat) (g : Nat → Option Nat) (H : Heap) (locs : List Loc) (ls : Array Slot), i ≤ 25 → va_P (dC, dI) vwCl [(h0, .inr (5, [.int 0, .long 0, .long 0, .int 0, .ref qp, .null, .null, .long 0])), (qp, .inl (cqp, 25, .inr (.inr (.inr (.inr g)))))] H → va_D A [(h0, .inr (5, [.int 0, .long 0, .long 0, .int 0, .ref qp, .null, .null, .long 0])), (qp, .inl (cqp, 25, .inr (.inr (.inr (.inr g)))))] → va_S A s.heap H locs → lv_has ls 3 [(0, .ref h0), (1, .int (nI w)), (2, .int (nI i))] → W p l e (headSpec v_X5_init ({ frames := 2, cells := 80, slots := 2234, locals := 33 } : Room)).room s m ([.ref h0, .int (nI w)] : List Value).toArray below meth c H locs (1 + 3 * i) (25 + 84 * i) Q (F0 m 44 ls [])) → ∀ (n i : Nat) (g : Nat → Option Nat) (H : Heap) (locs : List Loc) (ls : Array Slot), i ≤ 25 → 25 + 1 ≤ i + n → va_P (dC, dI) vwCl [(h0, .inr (5, [.int 0, .long 0, .long 0, .int 0, .ref qp, .null, .null, .long 0])), (qp, .inl (cqp, 25, .inr (.inr (.inr (.inr g)))))] H → va_D A [(h0, .inr (5, [.int 0, .long 0, .long 0, .int 0, .ref qp, .null, .null, .long 0])), (qp, .inl (cqp, 25, .inr (.inr (.inr (.inr g)))))] → va_S A s.heap H locs → lv_has ls 3 [(0, .ref h0), (1, .int (nI w)), (2, .int (nI i))] → W p l e (headSpec v_X5_init ({ frames := 2, cells := 80, slots := 2234, locals := 33 } : Room)).room s m ([.ref h0, .int (nI w)] : List Value).toArray below meth c H locs (1 + 3 * i) (25 + 84 * i) Q (F0 m 15 ls []) := by
    intro Q kx n
    induction n with
    | zero =>
      intro i g H locs ls h1 h2
      exact absurd h2 (by omega)
    | succ n ih =>
      intro i g H locs ls hi hn hP hD hS hl
      refine lv_iload_n hx hb dX5_init_15 rfl (lv_at hl 2 rfl) ?_
      refine lv_aload_n hx hb dX5_init_16 rfl (lv_at hl 0 rfl) ?_
      refine va_get (D := (dC, dI)) (ci := 5) (v := .ref qp) (C := RX5) (T := TX5) (N := 8) hx hb hts k_5 hown hK hP 0 rfl rfl 4 (by decide) k_6 (fun _ h9 => h9) rfl dX5_init_17 ?_
      refine va_alen (v := nI 25) hx hb hK hP 1 0 rfl rfl rfl dX5_init_20 ?_
      refine lv_icmp_ge (tgt := 44) hx hb dX5_init_21 (by decide) (fun c_1 => ?_) (fun c_1 => ?_)
      · exact kx i g _ _ _ (by omega) hP hD hS (lv_sub hl [0, 1, 2] rfl)
      · have hlt : i < 25 := Nat.lt_of_not_le (fun h => c_1 (nI_le h (by omega)))
        refine lv_aload_n hx hb dX5_init_24 rfl (lv_at hl 0 rfl) ?_
        refine va_get (D := (dC, dI)) (ci := 5) (v := .ref qp) (C := RX5) (T := TX5) (N := 8) hx hb hts k_5 hown hK hP 0 rfl rfl 4 (by decide) k_6 (fun _ h9 => h9) rfl dX5_init_25 ?_
        refine lv_iload_n hx hb dX5_init_28 rfl (lv_at hl 2 rfl) ?_
        refine va_new (ci := 4) (fs := [.int 0, .int 0, .null, .null]) (C := RX4) (T := TX4) (N := 4) hx hb hts k_7 tyX4 tyX4_ok hown k_4 k_8 k_9 hK hP hD hS hA rfl (fun j hj => by rcases (show j = 0 ∨ j = 1 ∨ j = 2 ∨ j = 3 by omega) with rfl | rfl | rfl | rfl <;> rfl) (show 1 + 3 * i + 1 ≤ 80 by omega) (show 25 + 84 * i + 4 ≤ 2234 by omega) dX5_init_29 (fun qg H hP hD hS => ?_)
        have hP : va_P (dC, dI) vwCl [(h0, .inr (5, [.int 0, .long 0, .long 0, .int 0, .ref qp, .null, .null, .long 0])), (qp, .inl (cqp, 25, .inr (.inr (.inr (.inr g))))), (qg, .inr (4, [.int 0, .int 0, .null, .null]))] H := hP
        have hD : va_D A [(h0, .inr (5, [.int 0, .long 0, .long 0, .int 0, .ref qp, .null, .null, .long 0])), (qp, .inl (cqp, 25, .inr (.inr (.inr (.inr g))))), (qg, .inr (4, [.int 0, .int 0, .null, .null]))] := hD
        refine W.widen (k := 1 + 3 * i + 1) (n := 25 + 84 * i + 4) (by omega) (by omega) ?_
        refine lv_dup hx hb dX5_init_32 rfl ?_
        refine lv_iload_n hx hb dX5_init_33 rfl (lv_at hl 1 rfl) ?_
        have hPc := hP.sub (ws' := [(qg, .inr (4, [.int 0, .int 0, .null, .null]))]) [2] rfl
        have hDc := hD.sub (ws' := [(qg, .inr (4, [.int 0, .int 0, .null, .null]))]) [2] (by decide) rfl
        have hKc := hK.sub (tys' := []) [] rfl
        have hFc := va_free (wc := [(qg, .inr (4, [.int 0, .int 0, .null, .null]))]) hD hS hA [2] rfl
        refine va_callv (va_runI (As := [.int (nI w)]) (rest := [.ref qg, .int (nI i), .ref qp]) ⟨hx, hb, hml, hown, hts⟩ (c_X4_init l dC dI H.size qg w (by first | assumption | omega | decide)) (cwI 1 hts g_X5_init_X4_init rfl rfl rfl k_9 k_10 k_11 rfl (by decide +kernel) ⟨Nat.le_of_ble_eq_true rfl, Nat.le_of_ble_eq_true rfl⟩) ⟨fun a U g mk q => by obtain ⟨q0, q1, qP, qK, qD⟩ := q; exact ⟨q0, q1, qP, va_K.moved (u := U) (U := U.calling g mk a) (Vm.Alike.refl U.vm) qK, qD⟩, fun U hU hW => ⟨rfl, by rw [hU], by rw [hU]; exact hPc, va_K.moved hW.alike hKc, hDc.weaken (fun _ _ _ _ => trivial)⟩⟩ rfl rfl hl.1 rfl (lv_room (Nat.le_of_ble_eq_true rfl)) dX5_init_34 ⟨(show 1 + 3 * i + 1 + 2 ≤ 80 by omega), (show 25 + 84 * i + 4 + 80 ≤ 2234 by omega)⟩) hS (fun q _ h => hFc q h) hFc (fun u t H1 locs ht hvm hw hB hz1 hk1 hS => ?_)
        obtain ⟨q1_3, q2_4⟩ := u
        obtain ⟨hP1, hK1, hD1⟩ := hB
        rw [ht] at hP1
        have hK1 := va_K.moved hvm.symm hK1
        try dsimp only at hw
        obtain ⟨hP, hD⟩ := va_join (wr := [(h0, .inr (5, [.int 0, .long 0, .long 0, .int 0, .ref qp, .null, .null, .long 0])), (qp, .inl (cqp, 25, .inr (.inr (.inr (.inr g)))))]) (w1 := [(qg, .inr (4, [.int 1, .int 0, .ref q1_3, .ref q2_4]))]) hP hD [2] [0, 1] rfl rfl (by decide) (by decide) hk1 hFc hP1 hD1
        have hK := (hK.sub (tys' := [(cqp, .object RX4)]) [0] rfl).app hK1
        generalize H1 = H at hP hS ⊢
        have hP : va_P (dC, dI) vwCl [(h0, .inr (5, [.int 0, .long 0, .long 0, .int 0, .ref qp, .null, .null, .long 0])), (qp, .inl (cqp, 25, .inr (.inr (.inr (.inr g))))), (qg, .inr (4, [.int 1, .int 0, .ref q1_3, .ref q2_4]))] H := hP
        have hD : va_D A [(h0, .inr (5, [.int 0, .long 0, .long 0, .int 0, .ref qp, .null, .null, .long 0])), (qp, .inl (cqp, 25, .inr (.inr (.inr (.inr g))))), (qg, .inr (4, [.int 1, .int 0, .ref q1_3, .ref q2_4]))] := hD
        have hK : va_K (dC, dI) vwCl [(cqp, .object RX4)] s := hK
        refine W.widen (k := 1 + 3 * i + 1 + 2) (n := 25 + 84 * i + 4 + 80) (by omega) (by omega) ?_
        refine va_astq hx hb hK hP hD hS 1 0 2 4 rfl rfl rfl rfl (show vp_in (nI i) 25 from vp_in_nI (by omega) (by omega)) dX5_init_37 (fun H locs hP hD hS => ?_)
        have hP : va_P (dC, dI) vwCl [(h0, .inr (5, [.int 0, .long 0, .long 0, .int 0, .ref qp, .null, .null, .long 0])), (qp, .inl (cqp, 25, .inr (.inr (.inr (.inr (va_up g ((nI i).toNatClampNeg) (some qg))))))), (qg, .inr (4, [.int 1, .int 0, .ref q1_3, .ref q2_4]))] H := hP
        have hD : va_D A [(h0, .inr (5, [.int 0, .long 0, .long 0, .int 0, .ref qp, .null, .null, .long 0])), (qp, .inl (cqp, 25, .inr (.inr (.inr (.inr (va_up g ((nI i).toNatClampNeg) (some qg))))))), (qg, .inr (4, [.int 1, .int 0, .ref q1_3, .ref q2_4]))] := hD
        obtain ⟨f_5, ef_5⟩ : ∃ g9, g9 = va_up g ((nI i).toNatClampNeg) (some qg) := ⟨_, rfl⟩
        rw [← ef_5] at hP hD
        have hP := hP.sub (ws' := [(h0, .inr (5, [.int 0, .long 0, .long 0, .int 0, .ref qp, .null, .null, .long 0])), (qp, .inl (cqp, 25, .inr (.inr (.inr (.inr f_5)))))]) [0, 1] rfl
        have hD := hD.sub (ws' := [(h0, .inr (5, [.int 0, .long 0, .long 0, .int 0, .ref qp, .null, .null, .long 0])), (qp, .inl (cqp, 25, .inr (.inr (.inr (.inr f_5)))))]) [0, 1] (by decide) rfl
        refine lv_iinc (v := (nI (i + 1))) (lv' := [(2, .int (nI (i + 1))), (0, .ref h0), (1, .int (nI w))]) hx hb dX5_init_38 hl (k := 2) rfl (nI_1 i) (by decide) rfl (fun ls hl => ?_)
        refine lv_goto (tgt := 15) hx hb dX5_init_41 (by decide) ?_
        refine W.widen (k := 1 + 3 * (i + 1)) (n := 25 + 84 * (i + 1)) (by omega) (by omega) ?_
        exact ih (i + 1) f_5 _ _ _ (by omega) (by omega) hP hD hS (lv_sub hl [1, 2, 0] rfl)
  refine W.widen (k := 1 + 3 * 0) (n := 25 + 84 * 0) (by omega) (by omega) ?_
  refine loop_15 _ (fun i g H locs ls hi hP hD hS hl => ?_) (25 + 1) 0 (fun _ => none) _ _ _ (by omega) (by omega) hP hD hS (lv_sub hl [1, 2, 0] rfl)
  refine lv_aload_n hx hb dX5_init_44 rfl (lv_at hl 0 rfl) ?_
  refine lv_aload_n hx hb dX5_init_45 rfl (lv_at hl 0 rfl) ?_
  refine va_get (D := (dC, dI)) (ci := 5) (v := .ref qp) (C := RX5) (T := TX5) (N := 8) hx hb hts k_5 hown hK hP 0 rfl rfl 4 (by decide) k_6 (fun _ h9 => h9) rfl dX5_init_46 ?_
  refine va_alen (v := nI 25) hx hb hK hP 1 0 rfl rfl rfl dX5_init_49 ?_
  refine va_newa (atype := .int) (a0 := (25, .inl (fun _ => 0))) hx hb k_12 (ty := .int) rfl hK hP hD hS hA (fun _ => rfl) (nI_pos (by omega)) (nI_clamp (by omega)) (by exact cb_int (by omega)) (show 1 + 3 * i + 1 ≤ 80 by omega) (show 25 + 84 * i + 25 ≤ 2234 by omega) dX5_init_50 (fun q_6 cA_7 H hK hP hD hS => ?_)
  have hP : va_P (dC, dI) vwCl [(h0, .inr (5, [.int 0, .long 0, .long 0, .int 0, .ref qp, .null, .null, .long 0])), (qp, .inl (cqp, 25, .inr (.inr (.inr (.inr g))))), (q_6, .inl (cA_7, 25, .inl (fun _ => 0)))] H := hP
  have hD : va_D A [(h0, .inr (5, [.int 0, .long 0, .long 0, .int 0, .ref qp, .null, .null, .long 0])), (qp, .inl (cqp, 25, .inr (.inr (.inr (.inr g))))), (q_6, .inl (cA_7, 25, .inl (fun _ => 0)))] := hD
  have hK : va_K (dC, dI) vwCl [(cqp, .object RX4), (cA_7, .int)] s := hK
  refine W.widen (k := 1 + 3 * i + 1) (n := 25 + 84 * i + 25) (by omega) (by omega) ?_
  refine va_putF (D := (dC, dI)) (ci := 5) (v := .ref q_6) (ty := (.array .int)) (C := RX5) (T := TX5) (N := 8) hx hb hts k_5 tyX5 tyX5_ok nmX5 hown hK hP hD hS 0 rfl rfl 5 (by decide) k_13 (fun _ h9 => h9) rfl hin rfl (by decide +kernel) rfl rfl (Nat.le_of_ble_eq_true rfl) dX5_init_52 (fun H locs hP hD hS => ?_)
  have hP : va_P (dC, dI) vwCl [(h0, .inr (5, [.int 0, .long 0, .long 0, .int 0, .ref qp, .ref q_6, .null, .long 0])), (qp, .inl (cqp, 25, .inr (.inr (.inr (.inr g))))), (q_6, .inl (cA_7, 25, .inl (fun _ => 0)))] H := hP
  have hD : va_D A [(h0, .inr (5, [.int 0, .long 0, .long 0, .int 0, .ref qp, .ref q_6, .null, .long 0])), (qp, .inl (cqp, 25, .inr (.inr (.inr (.inr g))))), (q_6, .inl (cA_7, 25, .inl (fun _ => 0)))] := hD
  refine lv_aload_n hx hb dX5_init_55 rfl (lv_at hl 0 rfl) ?_
  refine va_new (ci := 4) (fs := [.int 0, .int 0, .null, .null]) (C := RX4) (T := TX4) (N := 4) hx hb hts k_7 tyX4 tyX4_ok hown k_4 k_8 k_9 hK hP hD hS hA rfl (fun j hj => by rcases (show j = 0 ∨ j = 1 ∨ j = 2 ∨ j = 3 by omega) with rfl | rfl | rfl | rfl <;> rfl) (show 1 + 3 * i + 1 + 1 ≤ 80 by omega) (show 25 + 84 * i + 25 + 4 ≤ 2234 by omega) dX5_init_56 (fun q_8 H hP hD hS => ?_)
  have hP : va_P (dC, dI) vwCl [(h0, .inr (5, [.int 0, .long 0, .long 0, .int 0, .ref qp, .ref q_6, .null, .long 0])), (qp, .inl (cqp, 25, .inr (.inr (.inr (.inr g))))), (q_6, .inl (cA_7, 25, .inl (fun _ => 0))), (q_8, .inr (4, [.int 0, .int 0, .null, .null]))] H := hP
  have hD : va_D A [(h0, .inr (5, [.int 0, .long 0, .long 0, .int 0, .ref qp, .ref q_6, .null, .long 0])), (qp, .inl (cqp, 25, .inr (.inr (.inr (.inr g))))), (q_6, .inl (cA_7, 25, .inl (fun _ => 0))), (q_8, .inr (4, [.int 0, .int 0, .null, .null]))] := hD
  refine W.widen (k := 1 + 3 * i + 1 + 1) (n := 25 + 84 * i + 25 + 4) (by omega) (by omega) ?_
  refine lv_dup hx hb dX5_init_59 rfl ?_
  refine lv_iconst (v := 0) hx hb dX5_init_60 (by decide) ?_
  have hPc := hP.sub (ws' := [(q_8, .inr (4, [.int 0, .int 0, .null, .null]))]) [3] rfl
  have hDc := hD.sub (ws' := [(q_8, .inr (4, [.int 0, .int 0, .null, .null]))]) [3] (by decide) rfl
  have hKc := hK.sub (tys' := []) [] rfl
  have hFc := va_free (wc := [(q_8, .inr (4, [.int 0, .int 0, .null, .null]))]) hD hS hA [3] rfl
  refine va_callv (va_runI (As := [.int 0]) (rest := [.ref q_8, .ref h0]) ⟨hx, hb, hml, hown, hts⟩ (c_X4_init l dC dI H.size q_8 0 (by first | assumption | omega | decide)) (cwI 1 hts g_X5_init_X4_init rfl rfl rfl k_9 k_10 k_11 rfl (by decide +kernel) ⟨Nat.le_of_ble_eq_true rfl, Nat.le_of_ble_eq_true rfl⟩) ⟨fun a U g mk q => by obtain ⟨q0, q1, qP, qK, qD⟩ := q; exact ⟨q0, q1, qP, va_K.moved (u := U) (U := U.calling g mk a) (Vm.Alike.refl U.vm) qK, qD⟩, fun U hU hW => ⟨rfl, by rw [hU], by rw [hU]; exact hPc, va_K.moved hW.alike hKc, hDc.weaken (fun _ _ _ _ => trivial)⟩⟩ rfl rfl hl.1 rfl (lv_room (Nat.le_of_ble_eq_true rfl)) dX5_init_61 ⟨(show 1 + 3 * i + 1 + 1 + 2 ≤ 80 by omega), (show 25 + 84 * i + 25 + 4 + 80 ≤ 2234 by omega)⟩) hS (fun q _ h => hFc q h) hFc (fun u t H1 locs ht hvm hw hB hz1 hk1 hS => ?_)
  obtain ⟨q1_10, q2_11⟩ := u
  obtain ⟨hP1, hK1, hD1⟩ := hB
  rw [ht] at hP1
  have hK1 := va_K.moved hvm.symm hK1
  try dsimp only at hw
  obtain ⟨hP, hD⟩ := va_join (wr := [(h0, .inr (5, [.int 0, .long 0, .long 0, .int 0, .ref qp, .ref q_6, .null, .long 0])), (qp, .inl (cqp, 25, .inr (.inr (.inr (.inr g))))), (q_6, .inl (cA_7, 25, .inl (fun _ => 0)))]) (w1 := [(q_8, .inr (4, [.int 1, .int 0, .ref q1_10, .ref q2_11]))]) hP hD [3] [0, 1, 2] rfl rfl (by decide) (by decide) hk1 hFc hP1 hD1
  have hK := (hK.sub (tys' := [(cqp, .object RX4), (cA_7, .int)]) [0, 1] rfl).app hK1
  generalize H1 = H at hP hS ⊢
  have hP : va_P (dC, dI) vwCl [(h0, .inr (5, [.int 0, .long 0, .long 0, .int 0, .ref qp, .ref q_6, .null, .long 0])), (qp, .inl (cqp, 25, .inr (.inr (.inr (.inr g))))), (q_6, .inl (cA_7, 25, .inl (fun _ => 0))), (q_8, .inr (4, [.int 1, .int 0, .ref q1_10, .ref q2_11]))] H := hP
  have hD : va_D A [(h0, .inr (5, [.int 0, .long 0, .long 0, .int 0, .ref qp, .ref q_6, .null, .long 0])), (qp, .inl (cqp, 25, .inr (.inr (.inr (.inr g))))), (q_6, .inl (cA_7, 25, .inl (fun _ => 0))), (q_8, .inr (4, [.int 1, .int 0, .ref q1_10, .ref q2_11]))] := hD
  have hK : va_K (dC, dI) vwCl [(cqp, .object RX4), (cA_7, .int)] s := hK
  refine W.widen (k := 1 + 3 * i + 1 + 1 + 2) (n := 25 + 84 * i + 25 + 4 + 80) (by omega) (by omega) ?_
  refine va_putF (D := (dC, dI)) (ci := 5) (v := .ref q_8) (ty := (.object "TwinRoots$Page")) (C := RX5) (T := TX5) (N := 8) hx hb hts k_5 tyX5 tyX5_ok nmX5 hown hK hP hD hS 0 rfl rfl 6 (by decide) k_14 (fun _ h9 => h9) rfl hin rfl (by decide +kernel) rfl rfl (Nat.le_of_ble_eq_true rfl) dX5_init_64 (fun H locs hP hD hS => ?_)
  have hP : va_P (dC, dI) vwCl [(h0, .inr (5, [.int 0, .long 0, .long 0, .int 0, .ref qp, .ref q_6, .ref q_8, .long 0])), (qp, .inl (cqp, 25, .inr (.inr (.inr (.inr g))))), (q_6, .inl (cA_7, 25, .inl (fun _ => 0))), (q_8, .inr (4, [.int 1, .int 0, .ref q1_10, .ref q2_11]))] H := hP
  have hD : va_D A [(h0, .inr (5, [.int 0, .long 0, .long 0, .int 0, .ref qp, .ref q_6, .ref q_8, .long 0])), (qp, .inl (cqp, 25, .inr (.inr (.inr (.inr g))))), (q_6, .inl (cA_7, 25, .inl (fun _ => 0))), (q_8, .inr (4, [.int 1, .int 0, .ref q1_10, .ref q2_11]))] := hD
  have hP9 := hP.sub (ws' := []) [] rfl
  have hD9 := hD.sub (ws' := []) [] (by decide) rfl
  have hK9 := hK.sub (tys' := []) [] rfl
  refine W.widen (k := 80) (n := 2234) (by omega) (by omega) ?_
  exact W.vret hx hb hr (fun t ht hW => ⟨⟨(), rfl, trivial, by rw [ht]; exact hP9, va_K.moved hW.alike hK9, hD9⟩, hS.F ht⟩) hS.2.2 dX5_init_67
def v_X1_init : List Cond := .code yX1_init cX1_init 5 none :: ([.code objectInit ⟨#[0xb1]⟩ 1 none, .methodLink RX1 3 objectInit, .instanceMethod objectInit, .fieldLink RX1 9 "TwinRoots$Editor" "limits" "LTwinRoots$Limits;", .fieldLink RX1 15 "TwinRoots$Editor" "forest" "LTwinRoots$Forest;", .fieldLink RX1 19 "TwinRoots$Editor" "plan" "LTwinRoots$Plan;", .arrayClass .int, .fieldLink RX1 23 "TwinRoots$Editor" "pathBlocks" "[I", .fieldLink RX1 27 "TwinRoots$Editor" "pathPlaces" "[I", .classLink RX1 30 RX4, .instantiable RX4 4, .initialized RX4, .code yX4_init cX4_init 2 none, .methodLink RX4 3 objectInit, .fieldLink RX4 9 "TwinRoots$Page" "leaf" "Z", .fieldLink RX4 15 "TwinRoots$Page" "keys" "[I", .fieldLink RX4 19 "TwinRoots$Page" "refs" "[I", .methodLink RX1 32 yX4_init, .instanceMethod yX4_init, .fieldLink RX1 35 "TwinRoots$Editor" "node" "LTwinRoots$Page;", .fieldLink RX1 39 "TwinRoots$Editor" "mate" "LTwinRoots$Page;", .fieldLink RX1 42 "TwinRoots$Editor" "above" "LTwinRoots$Page;"] ++ (wsX10 ++ (wsX40 ++ ([]))))
set_option maxRecDepth 20000 in
theorem g_X1_init_X4_init : GoodIn v_X1_init v_X4_init := goodIn_r _ [13, 1, 14, 3, 15, 7, 16, 17, 32, 33, 34, 35] (by decide +kernel) (by decide +kernel)
set_option maxHeartbeats 4000000 in
set_option maxRecDepth 100000 in
/-- Editor(w, ..) -/
theorem c_X1_init (l : Launch) (dC : Nat → ClassId) (dI : Nat → Nat → Nat) (sz : Nat) (h0 : Nat) (w : Nat) (hm : Nat) (hf : Nat) (hp : Nat) (zw : w ≤ 40) : Met l yX1_init v_X1_init ({ frames := 2, cells := 11, slots := 276, locals := 33 } : Room) (va_Pc [.ref h0, .int (nI w), .ref hm, .ref hf, .ref hp] (fun U => U.heap.size = sz ∧ va_P (dC, dI) vwCl [(h0, .inr (1, [.null, .null, .null, .null, .null, .int 0, .null, .null, .null]))] U.heap ∧ va_K (dC, dI) vwCl [] U ∧ va_D (fun _ => True) [(h0, .inr (1, [.null, .null, .null, .null, .null, .int 0, .null, .null, .null]))])) (va_Qv (fun (_ : Unit) => True) (fun (_ : Unit) (t : State) => va_P (dC, dI) vwCl [] t.heap ∧ va_K (dC, dI) vwCl [] t ∧ va_D (va_A [(h0, .inr (1, [.null, .null, .null, .null, .null, .int 0, .null, .null, .null]))] sz) []) (va_A [(h0, .inr (1, [.null, .null, .null, .null, .null, .int 0, .null, .null, .null]))] sz)) 11 276 (va_A [(h0, .inr (1, [.null, .null, .null, .null, .null, .int 0, .null, .null, .null]))] sz) := by
  refine Met.ofW (cc := cX1_init) (maxL := 5) (ret := none) (by decide) rfl ?_
  intro p e s m args below meth c s₁ B hml hv
  obtain ⟨rfl, hsz, hP, hK, hD0⟩ := hv
  have hx := B.exec
  have hb := B.bytes
  have hr := B.returns
  have hts := atoms_spec (ws := v_X1_init) B.pre
  have hown : s.vm.findClass RX1 = some m.cls := findClass_of_methodNamed B.named
  have hlocks := B.notSynchronized
  have hin : meth.name = "<init>" := (name_of_methodNamed B.named B.method).1
  subst hsz
  have hD := hD0.self (sz := s.heap.size)
  generalize hAe : va_A [(h0, .inr (1, [.null, .null, .null, .null, .null, .int 0, .null, .null, .null]))] s.heap.size = A at hD ⊢
  have hA : ∀ q : Nat, s.heap.size ≤ q → A q := fun q h => by rw [← hAe]; exact Or.inr h
  have hS : va_S A s.heap s.heap [] := va_S.rf
  have hP : va_P (dC, dI) vwCl [(h0, .inr (1, [.null, .null, .null, .null, .null, .int 0, .null, .null, .null]))] s.heap := hP
  have hl := lv_entry ([.ref h0, .int (nI w), .ref hm, .ref hf, .ref hp]) (n := 5) (Nat.le_of_ble_eq_true rfl)
  rw [lg_entry_eq]
  generalize (lg_sl ([.ref h0, .int (nI w), .ref hm, .ref hf, .ref hp]) ++ List.replicate (5 - (lg_sl ([.ref h0, .int (nI w), .ref hm, .ref hf, .ref hp])).length) Slot.unset).toArray = ls at hl ⊢
  have hl : lv_has ls 5 [(0, .ref h0), (1, .int (nI w)), (2, .ref hm), (3, .ref hf), (4, .ref hp)] := hl
  have k_1 := hts (.code objectInit ⟨#[0xb1]⟩ 1 none) (List.mem_of_getElem? (i := 1) rfl)
  have k_2 := hts (.methodLink RX1 3 objectInit) (List.mem_of_getElem? (i := 2) rfl)
  have k_3 := hts (.instanceMethod objectInit) (List.mem_of_getElem? (i := 3) rfl)
  have k_4 := (fun _ h => List.mem_cons_of_mem _ (List.mem_append_right _ (List.mem_append_left _ h)) : ∀ w ∈ wsX10, w ∈ v_X1_init)
  have k_5 := hts (.fieldLink RX1 9 "TwinRoots$Editor" "limits" "LTwinRoots$Limits;") (List.mem_of_getElem? (i := 4) rfl)
  have k_6 := hts (.fieldLink RX1 15 "TwinRoots$Editor" "forest" "LTwinRoots$Forest;") (List.mem_of_getElem? (i := 5) rfl)
  have k_7 := hts (.fieldLink RX1 19 "TwinRoots$Editor" "plan" "LTwinRoots$Plan;") (List.mem_of_getElem? (i := 6) rfl)
  have k_8 := hts (.arrayClass .int) (List.mem_of_getElem? (i := 7) rfl)
  have k_9 := hts (.fieldLink RX1 23 "TwinRoots$Editor" "pathBlocks" "[I") (List.mem_of_getElem? (i := 8) rfl)
  have k_10 := hts (.fieldLink RX1 27 "TwinRoots$Editor" "pathPlaces" "[I") (List.mem_of_getElem? (i := 9) rfl)
  have k_11 := (fun _ h => List.mem_cons_of_mem _ (List.mem_append_right _ (List.mem_append_right _ (List.mem_append_left _ h))) : ∀ w ∈ wsX40, w ∈ v_X1_init)
  have k_12 := hts (.classLink RX1 30 RX4) (List.mem_of_getElem? (i := 10) rfl)
  have k_13 := hts (.instantiable RX4 4) (List.mem_of_getElem? (i := 11) rfl)
  have k_14 := hts (.initialized RX4) (List.mem_of_getElem? (i := 12) rfl)
  have k_15 := hts (.methodLink RX1 32 yX4_init) (List.mem_of_getElem? (i := 18) rfl)
  have k_16 := hts (.instanceMethod yX4_init) (List.mem_of_getElem? (i := 19) rfl)
  have k_17 := hts (.fieldLink RX1 35 "TwinRoots$Editor" "node" "LTwinRoots$Page;") (List.mem_of_getElem? (i := 20) rfl)
  have k_18 := hts (.fieldLink RX1 39 "TwinRoots$Editor" "mate" "LTwinRoots$Page;") (List.mem_of_getElem? (i := 21) rfl)
  have k_19 := hts (.fieldLink RX1 42 "TwinRoots$Editor" "above" "LTwinRoots$Page;") (List.mem_of_getElem? (i := 22) rfl)
  refine lv_aload_n hx hb dX1_init_0 rfl (lv_at hl 0 rfl) ?_
  refine W.objInit hx hb hown k_2 k_3 k_1 rfl (by rw [hml]; exact hl.1) rfl dX1_init_1 (Nat.le_of_ble_eq_true rfl) (Nat.le_of_ble_eq_true rfl) ?_
  refine W.eq (g2 := F0 m 4 ls []) rfl ?_
  refine lv_aload_n hx hb dX1_init_4 rfl (lv_at hl 0 rfl) ?_
  refine lv_aload_n hx hb dX1_init_5 rfl (lv_at hl 2 rfl) ?_
  refine va_putF (D := (dC, dI)) (ci := 1) (v := .ref hm) (ty := (.object "TwinRoots$Limits")) (C := RX1) (T := TX1) (N := 9) hx hb hts k_4 tyX1 tyX1_ok nmX1 hown hK hP hD hS 0 rfl rfl 0 (by decide) k_5 (fun _ h9 => h9) rfl hin rfl (by decide +kernel) rfl rfl (Nat.le_of_ble_eq_true rfl) dX1_init_6 (fun H locs hP hD hS => ?_)
  have hP : va_P (dC, dI) vwCl [(h0, .inr (1, [.ref hm, .null, .null, .null, .null, .int 0, .null, .null, .null]))] H := hP
  have hD : va_D A [(h0, .inr (1, [.ref hm, .null, .null, .null, .null, .int 0, .null, .null, .null]))] := hD
  refine lv_aload_n hx hb dX1_init_9 rfl (lv_at hl 0 rfl) ?_
  refine lv_aload_n hx hb dX1_init_10 rfl (lv_at hl 3 rfl) ?_
  refine va_putF (D := (dC, dI)) (ci := 1) (v := .ref hf) (ty := (.object "TwinRoots$Forest")) (C := RX1) (T := TX1) (N := 9) hx hb hts k_4 tyX1 tyX1_ok nmX1 hown hK hP hD hS 0 rfl rfl 1 (by decide) k_6 (fun _ h9 => h9) rfl hin rfl (by decide +kernel) rfl rfl (Nat.le_of_ble_eq_true rfl) dX1_init_11 (fun H locs hP hD hS => ?_)
  have hP : va_P (dC, dI) vwCl [(h0, .inr (1, [.ref hm, .ref hf, .null, .null, .null, .int 0, .null, .null, .null]))] H := hP
  have hD : va_D A [(h0, .inr (1, [.ref hm, .ref hf, .null, .null, .null, .int 0, .null, .null, .null]))] := hD
  refine lv_aload_n hx hb dX1_init_14 rfl (lv_at hl 0 rfl) ?_
  refine lv_aload hx hb dX1_init_15 (lv_at hl 4 rfl) ?_
  refine va_putF (D := (dC, dI)) (ci := 1) (v := .ref hp) (ty := (.object "TwinRoots$Plan")) (C := RX1) (T := TX1) (N := 9) hx hb hts k_4 tyX1 tyX1_ok nmX1 hown hK hP hD hS 0 rfl rfl 2 (by decide) k_7 (fun _ h9 => h9) rfl hin rfl (by decide +kernel) rfl rfl (Nat.le_of_ble_eq_true rfl) dX1_init_17 (fun H locs hP hD hS => ?_)
  have hP : va_P (dC, dI) vwCl [(h0, .inr (1, [.ref hm, .ref hf, .ref hp, .null, .null, .int 0, .null, .null, .null]))] H := hP
  have hD : va_D A [(h0, .inr (1, [.ref hm, .ref hf, .ref hp, .null, .null, .int 0, .null, .null, .null]))] := hD
  refine lv_aload_n hx hb dX1_init_20 rfl (lv_at hl 0 rfl) ?_
  refine lv_bipush (v := 12) hx hb dX1_init_21 (by decide) ?_
  refine va_newa (atype := .int) (a0 := (12, .inl (fun _ => 0))) hx hb k_8 (ty := .int) rfl hK hP hD hS hA (fun _ => rfl) (by decide) (by decide) (by exact cb_int (by omega)) (show 0 + 1 ≤ 11 by omega) (show 0 + 12 ≤ 276 by omega) dX1_init_23 (fun q_1 cA_2 H hK hP hD hS => ?_)
  have hP : va_P (dC, dI) vwCl [(h0, .inr (1, [.ref hm, .ref hf, .ref hp, .null, .null, .int 0, .null, .null, .null])), (q_1, .inl (cA_2, 12, .inl (fun _ => 0)))] H := hP
  have hD : va_D A [(h0, .inr (1, [.ref hm, .ref hf, .ref hp, .null, .null, .int 0, .null, .null, .null])), (q_1, .inl (cA_2, 12, .inl (fun _ => 0)))] := hD
  have hK : va_K (dC, dI) vwCl [(cA_2, .int)] s := hK
  refine W.widen (k := 1) (n := 12) (by omega) (by omega) ?_
  refine va_putF (D := (dC, dI)) (ci := 1) (v := .ref q_1) (ty := (.array .int)) (C := RX1) (T := TX1) (N := 9) hx hb hts k_4 tyX1 tyX1_ok nmX1 hown hK hP hD hS 0 rfl rfl 3 (by decide) k_9 (fun _ h9 => h9) rfl hin rfl (by decide +kernel) rfl rfl (Nat.le_of_ble_eq_true rfl) dX1_init_25 (fun H locs hP hD hS => ?_)
  have hP : va_P (dC, dI) vwCl [(h0, .inr (1, [.ref hm, .ref hf, .ref hp, .ref q_1, .null, .int 0, .null, .null, .null])), (q_1, .inl (cA_2, 12, .inl (fun _ => 0)))] H := hP
  have hD : va_D A [(h0, .inr (1, [.ref hm, .ref hf, .ref hp, .ref q_1, .null, .int 0, .null, .null, .null])), (q_1, .inl (cA_2, 12, .inl (fun _ => 0)))] := hD
  refine lv_aload_n hx hb dX1_init_28 rfl (lv_at hl 0 rfl) ?_
  refine lv_bipush (v := 12) hx hb dX1_init_29 (by decide) ?_
  refine va_newa (atype := .int) (a0 := (12, .inl (fun _ => 0))) hx hb k_8 (ty := .int) rfl hK hP hD hS hA (fun _ => rfl) (by decide) (by decide) (by exact cb_int (by omega)) (show 1 + 1 ≤ 11 by omega) (show 12 + 12 ≤ 276 by omega) dX1_init_31 (fun q_3 cA_4 H hK hP hD hS => ?_)
  have hP : va_P (dC, dI) vwCl [(h0, .inr (1, [.ref hm, .ref hf, .ref hp, .ref q_1, .null, .int 0, .null, .null, .null])), (q_1, .inl (cA_2, 12, .inl (fun _ => 0))), (q_3, .inl (cA_4, 12, .inl (fun _ => 0)))] H := hP
  have hD : va_D A [(h0, .inr (1, [.ref hm, .ref hf, .ref hp, .ref q_1, .null, .int 0, .null, .null, .null])), (q_1, .inl (cA_2, 12, .inl (fun _ => 0))), (q_3, .inl (cA_4, 12, .inl (fun _ => 0)))] := hD
  have hK : va_K (dC, dI) vwCl [(cA_2, .int), (cA_4, .int)] s := hK
  refine W.widen (k := 2) (n := 24) (by omega) (by omega) ?_
  refine va_putF (D := (dC, dI)) (ci := 1) (v := .ref q_3) (ty := (.array .int)) (C := RX1) (T := TX1) (N := 9) hx hb hts k_4 tyX1 tyX1_ok nmX1 hown hK hP hD hS 0 rfl rfl 4 (by decide) k_10 (fun _ h9 => h9) rfl hin rfl (by decide +kernel) rfl rfl (Nat.le_of_ble_eq_true rfl) dX1_init_33 (fun H locs hP hD hS => ?_)
  have hP : va_P (dC, dI) vwCl [(h0, .inr (1, [.ref hm, .ref hf, .ref hp, .ref q_1, .ref q_3, .int 0, .null, .null, .null])), (q_1, .inl (cA_2, 12, .inl (fun _ => 0))), (q_3, .inl (cA_4, 12, .inl (fun _ => 0)))] H := hP
  have hD : va_D A [(h0, .inr (1, [.ref hm, .ref hf, .ref hp, .ref q_1, .ref q_3, .int 0, .null, .null, .null])), (q_1, .inl (cA_2, 12, .inl (fun _ => 0))), (q_3, .inl (cA_4, 12, .inl (fun _ => 0)))] := hD
  refine lv_aload_n hx hb dX1_init_36 rfl (lv_at hl 0 rfl) ?_
  refine va_new (ci := 4) (fs := [.int 0, .int 0, .null, .null]) (C := RX4) (T := TX4) (N := 4) hx hb hts k_11 tyX4 tyX4_ok hown k_12 k_13 k_14 hK hP hD hS hA rfl (fun j hj => by rcases (show j = 0 ∨ j = 1 ∨ j = 2 ∨ j = 3 by omega) with rfl | rfl | rfl | rfl <;> rfl) (show 2 + 1 ≤ 11 by omega) (show 24 + 4 ≤ 276 by omega) dX1_init_37 (fun q_5 H hP hD hS => ?_)
  have hP : va_P (dC, dI) vwCl [(h0, .inr (1, [.ref hm, .ref hf, .ref hp, .ref q_1, .ref q_3, .int 0, .null, .null, .null])), (q_1, .inl (cA_2, 12, .inl (fun _ => 0))), (q_3, .inl (cA_4, 12, .inl (fun _ => 0))), (q_5, .inr (4, [.int 0, .int 0, .null, .null]))] H := hP
  have hD : va_D A [(h0, .inr (1, [.ref hm, .ref hf, .ref hp, .ref q_1, .ref q_3, .int 0, .null, .null, .null])), (q_1, .inl (cA_2, 12, .inl (fun _ => 0))), (q_3, .inl (cA_4, 12, .inl (fun _ => 0))), (q_5, .inr (4, [.int 0, .int 0, .null, .null]))] := hD
  refine W.widen (k := 3) (n := 28) (by omega) (by omega) ?_
  refine lv_dup hx hb dX1_init_40 rfl ?_
  refine lv_iload_n hx hb dX1_init_41 rfl (lv_at hl 1 rfl) ?_
  have hPc := hP.sub (ws' := [(q_5, .inr (4, [.int 0, .int 0, .null, .null]))]) [3] rfl
  have hDc := hD.sub (ws' := [(q_5, .inr (4, [.int 0, .int 0, .null, .null]))]) [3] (by decide) rfl
  have hKc := hK.sub (tys' := []) [] rfl
  have hFc := va_free (wc := [(q_5, .inr (4, [.int 0, .int 0, .null, .null]))]) hD hS hA [3] rfl
  refine va_callv (va_runI (As := [.int (nI w)]) (rest := [.ref q_5, .ref h0]) ⟨hx, hb, hml, hown, hts⟩ (c_X4_init l dC dI H.size q_5 w (by first | assumption | omega | decide)) (cwI 1 hts g_X1_init_X4_init rfl rfl rfl k_14 k_15 k_16 rfl (by decide +kernel) ⟨Nat.le_of_ble_eq_true rfl, Nat.le_of_ble_eq_true rfl⟩) ⟨fun a U g mk q => by obtain ⟨q0, q1, qP, qK, qD⟩ := q; exact ⟨q0, q1, qP, va_K.moved (u := U) (U := U.calling g mk a) (Vm.Alike.refl U.vm) qK, qD⟩, fun U hU hW => ⟨rfl, by rw [hU], by rw [hU]; exact hPc, va_K.moved hW.alike hKc, hDc.weaken (fun _ _ _ _ => trivial)⟩⟩ rfl rfl hl.1 rfl (lv_room (Nat.le_of_ble_eq_true rfl)) dX1_init_42 ⟨(show 3 + 2 ≤ 11 by omega), (show 28 + 80 ≤ 276 by omega)⟩) hS (fun q _ h => hFc q h) hFc (fun u t H1 locs ht hvm hw hB hz1 hk1 hS => ?_)
  obtain ⟨q1_7, q2_8⟩ := u
  obtain ⟨hP1, hK1, hD1⟩ := hB
  rw [ht] at hP1
  have hK1 := va_K.moved hvm.symm hK1
  try dsimp only at hw
  obtain ⟨hP, hD⟩ := va_join (wr := [(h0, .inr (1, [.ref hm, .ref hf, .ref hp, .ref q_1, .ref q_3, .int 0, .null, .null, .null])), (q_1, .inl (cA_2, 12, .inl (fun _ => 0))), (q_3, .inl (cA_4, 12, .inl (fun _ => 0)))]) (w1 := [(q_5, .inr (4, [.int 1, .int 0, .ref q1_7, .ref q2_8]))]) hP hD [3] [0, 1, 2] rfl rfl (by decide) (by decide) hk1 hFc hP1 hD1
  have hK := (hK.sub (tys' := [(cA_2, .int), (cA_4, .int)]) [0, 1] rfl).app hK1
  generalize H1 = H at hP hS ⊢
  have hP : va_P (dC, dI) vwCl [(h0, .inr (1, [.ref hm, .ref hf, .ref hp, .ref q_1, .ref q_3, .int 0, .null, .null, .null])), (q_1, .inl (cA_2, 12, .inl (fun _ => 0))), (q_3, .inl (cA_4, 12, .inl (fun _ => 0))), (q_5, .inr (4, [.int 1, .int 0, .ref q1_7, .ref q2_8]))] H := hP
  have hD : va_D A [(h0, .inr (1, [.ref hm, .ref hf, .ref hp, .ref q_1, .ref q_3, .int 0, .null, .null, .null])), (q_1, .inl (cA_2, 12, .inl (fun _ => 0))), (q_3, .inl (cA_4, 12, .inl (fun _ => 0))), (q_5, .inr (4, [.int 1, .int 0, .ref q1_7, .ref q2_8]))] := hD
  have hK : va_K (dC, dI) vwCl [(cA_2, .int), (cA_4, .int)] s := hK
  refine W.widen (k := 5) (n := 108) (by omega) (by omega) ?_
  refine va_putF (D := (dC, dI)) (ci := 1) (v := .ref q_5) (ty := (.object "TwinRoots$Page")) (C := RX1) (T := TX1) (N := 9) hx hb hts k_4 tyX1 tyX1_ok nmX1 hown hK hP hD hS 0 rfl rfl 6 (by decide) k_17 (fun _ h9 => h9) rfl hin rfl (by decide +kernel) rfl rfl (Nat.le_of_ble_eq_true rfl) dX1_init_45 (fun H locs hP hD hS => ?_)
  have hP : va_P (dC, dI) vwCl [(h0, .inr (1, [.ref hm, .ref hf, .ref hp, .ref q_1, .ref q_3, .int 0, .ref q_5, .null, .null])), (q_1, .inl (cA_2, 12, .inl (fun _ => 0))), (q_3, .inl (cA_4, 12, .inl (fun _ => 0))), (q_5, .inr (4, [.int 1, .int 0, .ref q1_7, .ref q2_8]))] H := hP
  have hD : va_D A [(h0, .inr (1, [.ref hm, .ref hf, .ref hp, .ref q_1, .ref q_3, .int 0, .ref q_5, .null, .null])), (q_1, .inl (cA_2, 12, .inl (fun _ => 0))), (q_3, .inl (cA_4, 12, .inl (fun _ => 0))), (q_5, .inr (4, [.int 1, .int 0, .ref q1_7, .ref q2_8]))] := hD
  refine lv_aload_n hx hb dX1_init_48 rfl (lv_at hl 0 rfl) ?_
  refine va_new (ci := 4) (fs := [.int 0, .int 0, .null, .null]) (C := RX4) (T := TX4) (N := 4) hx hb hts k_11 tyX4 tyX4_ok hown k_12 k_13 k_14 hK hP hD hS hA rfl (fun j hj => by rcases (show j = 0 ∨ j = 1 ∨ j = 2 ∨ j = 3 by omega) with rfl | rfl | rfl | rfl <;> rfl) (show 5 + 1 ≤ 11 by omega) (show 108 + 4 ≤ 276 by omega) dX1_init_49 (fun q_9 H hP hD hS => ?_)
  have hP : va_P (dC, dI) vwCl [(h0, .inr (1, [.ref hm, .ref hf, .ref hp, .ref q_1, .ref q_3, .int 0, .ref q_5, .null, .null])), (q_1, .inl (cA_2, 12, .inl (fun _ => 0))), (q_3, .inl (cA_4, 12, .inl (fun _ => 0))), (q_5, .inr (4, [.int 1, .int 0, .ref q1_7, .ref q2_8])), (q_9, .inr (4, [.int 0, .int 0, .null, .null]))] H := hP
  have hD : va_D A [(h0, .inr (1, [.ref hm, .ref hf, .ref hp, .ref q_1, .ref q_3, .int 0, .ref q_5, .null, .null])), (q_1, .inl (cA_2, 12, .inl (fun _ => 0))), (q_3, .inl (cA_4, 12, .inl (fun _ => 0))), (q_5, .inr (4, [.int 1, .int 0, .ref q1_7, .ref q2_8])), (q_9, .inr (4, [.int 0, .int 0, .null, .null]))] := hD
  refine W.widen (k := 6) (n := 112) (by omega) (by omega) ?_
  refine lv_dup hx hb dX1_init_52 rfl ?_
  refine lv_iload_n hx hb dX1_init_53 rfl (lv_at hl 1 rfl) ?_
  have hPc := hP.sub (ws' := [(q_9, .inr (4, [.int 0, .int 0, .null, .null]))]) [4] rfl
  have hDc := hD.sub (ws' := [(q_9, .inr (4, [.int 0, .int 0, .null, .null]))]) [4] (by decide) rfl
  have hKc := hK.sub (tys' := []) [] rfl
  have hFc := va_free (wc := [(q_9, .inr (4, [.int 0, .int 0, .null, .null]))]) hD hS hA [4] rfl
  refine va_callv (va_runI (As := [.int (nI w)]) (rest := [.ref q_9, .ref h0]) ⟨hx, hb, hml, hown, hts⟩ (c_X4_init l dC dI H.size q_9 w (by first | assumption | omega | decide)) (cwI 1 hts g_X1_init_X4_init rfl rfl rfl k_14 k_15 k_16 rfl (by decide +kernel) ⟨Nat.le_of_ble_eq_true rfl, Nat.le_of_ble_eq_true rfl⟩) ⟨fun a U g mk q => by obtain ⟨q0, q1, qP, qK, qD⟩ := q; exact ⟨q0, q1, qP, va_K.moved (u := U) (U := U.calling g mk a) (Vm.Alike.refl U.vm) qK, qD⟩, fun U hU hW => ⟨rfl, by rw [hU], by rw [hU]; exact hPc, va_K.moved hW.alike hKc, hDc.weaken (fun _ _ _ _ => trivial)⟩⟩ rfl rfl hl.1 rfl (lv_room (Nat.le_of_ble_eq_true rfl)) dX1_init_54 ⟨(show 6 + 2 ≤ 11 by omega), (show 112 + 80 ≤ 276 by omega)⟩) hS (fun q _ h => hFc q h) hFc (fun u t H1 locs ht hvm hw hB hz1 hk1 hS => ?_)
  obtain ⟨q1_11, q2_12⟩ := u
  obtain ⟨hP1, hK1, hD1⟩ := hB
  rw [ht] at hP1
  have hK1 := va_K.moved hvm.symm hK1
  try dsimp only at hw
  obtain ⟨hP, hD⟩ := va_join (wr := [(h0, .inr (1, [.ref hm, .ref hf, .ref hp, .ref q_1, .ref q_3, .int 0, .ref q_5, .null, .null])), (q_1, .inl (cA_2, 12, .inl (fun _ => 0))), (q_3, .inl (cA_4, 12, .inl (fun _ => 0))), (q_5, .inr (4, [.int 1, .int 0, .ref q1_7, .ref q2_8]))]) (w1 := [(q_9, .inr (4, [.int 1, .int 0, .ref q1_11, .ref q2_12]))]) hP hD [4] [0, 1, 2, 3] rfl rfl (by decide) (by decide) hk1 hFc hP1 hD1
  have hK := (hK.sub (tys' := [(cA_2, .int), (cA_4, .int)]) [0, 1] rfl).app hK1
  generalize H1 = H at hP hS ⊢
  have hP : va_P (dC, dI) vwCl [(h0, .inr (1, [.ref hm, .ref hf, .ref hp, .ref q_1, .ref q_3, .int 0, .ref q_5, .null, .null])), (q_1, .inl (cA_2, 12, .inl (fun _ => 0))), (q_3, .inl (cA_4, 12, .inl (fun _ => 0))), (q_5, .inr (4, [.int 1, .int 0, .ref q1_7, .ref q2_8])), (q_9, .inr (4, [.int 1, .int 0, .ref q1_11, .ref q2_12]))] H := hP
  have hD : va_D A [(h0, .inr (1, [.ref hm, .ref hf, .ref hp, .ref q_1, .ref q_3, .int 0, .ref q_5, .null, .null])), (q_1, .inl (cA_2, 12, .inl (fun _ => 0))), (q_3, .inl (cA_4, 12, .inl (fun _ => 0))), (q_5, .inr (4, [.int 1, .int 0, .ref q1_7, .ref q2_8])), (q_9, .inr (4, [.int 1, .int 0, .ref q1_11, .ref q2_12]))] := hD
  have hK : va_K (dC, dI) vwCl [(cA_2, .int), (cA_4, .int)] s := hK
  refine W.widen (k := 8) (n := 192) (by omega) (by omega) ?_
  refine va_putF (D := (dC, dI)) (ci := 1) (v := .ref q_9) (ty := (.object "TwinRoots$Page")) (C := RX1) (T := TX1) (N := 9) hx hb hts k_4 tyX1 tyX1_ok nmX1 hown hK hP hD hS 0 rfl rfl 7 (by decide) k_18 (fun _ h9 => h9) rfl hin rfl (by decide +kernel) rfl rfl (Nat.le_of_ble_eq_true rfl) dX1_init_57 (fun H locs hP hD hS => ?_)
  have hP : va_P (dC, dI) vwCl [(h0, .inr (1, [.ref hm, .ref hf, .ref hp, .ref q_1, .ref q_3, .int 0, .ref q_5, .ref q_9, .null])), (q_1, .inl (cA_2, 12, .inl (fun _ => 0))), (q_3, .inl (cA_4, 12, .inl (fun _ => 0))), (q_5, .inr (4, [.int 1, .int 0, .ref q1_7, .ref q2_8])), (q_9, .inr (4, [.int 1, .int 0, .ref q1_11, .ref q2_12]))] H := hP
  have hD : va_D A [(h0, .inr (1, [.ref hm, .ref hf, .ref hp, .ref q_1, .ref q_3, .int 0, .ref q_5, .ref q_9, .null])), (q_1, .inl (cA_2, 12, .inl (fun _ => 0))), (q_3, .inl (cA_4, 12, .inl (fun _ => 0))), (q_5, .inr (4, [.int 1, .int 0, .ref q1_7, .ref q2_8])), (q_9, .inr (4, [.int 1, .int 0, .ref q1_11, .ref q2_12]))] := hD
  refine lv_aload_n hx hb dX1_init_60 rfl (lv_at hl 0 rfl) ?_
  refine va_new (ci := 4) (fs := [.int 0, .int 0, .null, .null]) (C := RX4) (T := TX4) (N := 4) hx hb hts k_11 tyX4 tyX4_ok hown k_12 k_13 k_14 hK hP hD hS hA rfl (fun j hj => by rcases (show j = 0 ∨ j = 1 ∨ j = 2 ∨ j = 3 by omega) with rfl | rfl | rfl | rfl <;> rfl) (show 8 + 1 ≤ 11 by omega) (show 192 + 4 ≤ 276 by omega) dX1_init_61 (fun q_13 H hP hD hS => ?_)
  have hP : va_P (dC, dI) vwCl [(h0, .inr (1, [.ref hm, .ref hf, .ref hp, .ref q_1, .ref q_3, .int 0, .ref q_5, .ref q_9, .null])), (q_1, .inl (cA_2, 12, .inl (fun _ => 0))), (q_3, .inl (cA_4, 12, .inl (fun _ => 0))), (q_5, .inr (4, [.int 1, .int 0, .ref q1_7, .ref q2_8])), (q_9, .inr (4, [.int 1, .int 0, .ref q1_11, .ref q2_12])), (q_13, .inr (4, [.int 0, .int 0, .null, .null]))] H := hP
  have hD : va_D A [(h0, .inr (1, [.ref hm, .ref hf, .ref hp, .ref q_1, .ref q_3, .int 0, .ref q_5, .ref q_9, .null])), (q_1, .inl (cA_2, 12, .inl (fun _ => 0))), (q_3, .inl (cA_4, 12, .inl (fun _ => 0))), (q_5, .inr (4, [.int 1, .int 0, .ref q1_7, .ref q2_8])), (q_9, .inr (4, [.int 1, .int 0, .ref q1_11, .ref q2_12])), (q_13, .inr (4, [.int 0, .int 0, .null, .null]))] := hD
  refine W.widen (k := 9) (n := 196) (by omega) (by omega) ?_
  refine lv_dup hx hb dX1_init_64 rfl ?_
  refine lv_iload_n hx hb dX1_init_65 rfl (lv_at hl 1 rfl) ?_
  have hPc := hP.sub (ws' := [(q_13, .inr (4, [.int 0, .int 0, .null, .null]))]) [5] rfl
  have hDc := hD.sub (ws' := [(q_13, .inr (4, [.int 0, .int 0, .null, .null]))]) [5] (by decide) rfl
  have hKc := hK.sub (tys' := []) [] rfl
  have hFc := va_free (wc := [(q_13, .inr (4, [.int 0, .int 0, .null, .null]))]) hD hS hA [5] rfl
  refine va_callv (va_runI (As := [.int (nI w)]) (rest := [.ref q_13, .ref h0]) ⟨hx, hb, hml, hown, hts⟩ (c_X4_init l dC dI H.size q_13 w (by first | assumption | omega | decide)) (cwI 1 hts g_X1_init_X4_init rfl rfl rfl k_14 k_15 k_16 rfl (by decide +kernel) ⟨Nat.le_of_ble_eq_true rfl, Nat.le_of_ble_eq_true rfl⟩) ⟨fun a U g mk q => by obtain ⟨q0, q1, qP, qK, qD⟩ := q; exact ⟨q0, q1, qP, va_K.moved (u := U) (U := U.calling g mk a) (Vm.Alike.refl U.vm) qK, qD⟩, fun U hU hW => ⟨rfl, by rw [hU], by rw [hU]; exact hPc, va_K.moved hW.alike hKc, hDc.weaken (fun _ _ _ _ => trivial)⟩⟩ rfl rfl hl.1 rfl (lv_room (Nat.le_of_ble_eq_true rfl)) dX1_init_66 ⟨(show 9 + 2 ≤ 11 by omega), (show 196 + 80 ≤ 276 by omega)⟩) hS (fun q _ h => hFc q h) hFc (fun u t H1 locs ht hvm hw hB hz1 hk1 hS => ?_)
  obtain ⟨q1_15, q2_16⟩ := u
  obtain ⟨hP1, hK1, hD1⟩ := hB
  rw [ht] at hP1
  have hK1 := va_K.moved hvm.symm hK1
  try dsimp only at hw
  obtain ⟨hP, hD⟩ := va_join (wr := [(h0, .inr (1, [.ref hm, .ref hf, .ref hp, .ref q_1, .ref q_3, .int 0, .ref q_5, .ref q_9, .null])), (q_1, .inl (cA_2, 12, .inl (fun _ => 0))), (q_3, .inl (cA_4, 12, .inl (fun _ => 0))), (q_5, .inr (4, [.int 1, .int 0, .ref q1_7, .ref q2_8])), (q_9, .inr (4, [.int 1, .int 0, .ref q1_11, .ref q2_12]))]) (w1 := [(q_13, .inr (4, [.int 1, .int 0, .ref q1_15, .ref q2_16]))]) hP hD [5] [0, 1, 2, 3, 4] rfl rfl (by decide) (by decide) hk1 hFc hP1 hD1
  have hK := (hK.sub (tys' := [(cA_2, .int), (cA_4, .int)]) [0, 1] rfl).app hK1
  generalize H1 = H at hP hS ⊢
  have hP : va_P (dC, dI) vwCl [(h0, .inr (1, [.ref hm, .ref hf, .ref hp, .ref q_1, .ref q_3, .int 0, .ref q_5, .ref q_9, .null])), (q_1, .inl (cA_2, 12, .inl (fun _ => 0))), (q_3, .inl (cA_4, 12, .inl (fun _ => 0))), (q_5, .inr (4, [.int 1, .int 0, .ref q1_7, .ref q2_8])), (q_9, .inr (4, [.int 1, .int 0, .ref q1_11, .ref q2_12])), (q_13, .inr (4, [.int 1, .int 0, .ref q1_15, .ref q2_16]))] H := hP
  have hD : va_D A [(h0, .inr (1, [.ref hm, .ref hf, .ref hp, .ref q_1, .ref q_3, .int 0, .ref q_5, .ref q_9, .null])), (q_1, .inl (cA_2, 12, .inl (fun _ => 0))), (q_3, .inl (cA_4, 12, .inl (fun _ => 0))), (q_5, .inr (4, [.int 1, .int 0, .ref q1_7, .ref q2_8])), (q_9, .inr (4, [.int 1, .int 0, .ref q1_11, .ref q2_12])), (q_13, .inr (4, [.int 1, .int 0, .ref q1_15, .ref q2_16]))] := hD
  have hK : va_K (dC, dI) vwCl [(cA_2, .int), (cA_4, .int)] s := hK
  refine W.widen (k := 11) (n := 276) (by omega) (by omega) ?_
  refine va_putF (D := (dC, dI)) (ci := 1) (v := .ref q_13) (ty := (.object "TwinRoots$Page")) (C := RX1) (T := TX1) (N := 9) hx hb hts k_4 tyX1 tyX1_ok nmX1 hown hK hP hD hS 0 rfl rfl 8 (by decide) k_19 (fun _ h9 => h9) rfl hin rfl (by decide +kernel) rfl rfl (Nat.le_of_ble_eq_true rfl) dX1_init_69 (fun H locs hP hD hS => ?_)
  have hP : va_P (dC, dI) vwCl [(h0, .inr (1, [.ref hm, .ref hf, .ref hp, .ref q_1, .ref q_3, .int 0, .ref q_5, .ref q_9, .ref q_13])), (q_1, .inl (cA_2, 12, .inl (fun _ => 0))), (q_3, .inl (cA_4, 12, .inl (fun _ => 0))), (q_5, .inr (4, [.int 1, .int 0, .ref q1_7, .ref q2_8])), (q_9, .inr (4, [.int 1, .int 0, .ref q1_11, .ref q2_12])), (q_13, .inr (4, [.int 1, .int 0, .ref q1_15, .ref q2_16]))] H := hP
  have hD : va_D A [(h0, .inr (1, [.ref hm, .ref hf, .ref hp, .ref q_1, .ref q_3, .int 0, .ref q_5, .ref q_9, .ref q_13])), (q_1, .inl (cA_2, 12, .inl (fun _ => 0))), (q_3, .inl (cA_4, 12, .inl (fun _ => 0))), (q_5, .inr (4, [.int 1, .int 0, .ref q1_7, .ref q2_8])), (q_9, .inr (4, [.int 1, .int 0, .ref q1_11, .ref q2_12])), (q_13, .inr (4, [.int 1, .int 0, .ref q1_15, .ref q2_16]))] := hD
  have hP9 := hP.sub (ws' := []) [] rfl
  have hD9 := hD.sub (ws' := []) [] (by decide) rfl
  have hK9 := hK.sub (tys' := []) [] rfl
  exact W.vret hx hb hr (fun t ht hW => ⟨⟨(), rfl, trivial, by rw [ht]; exact hP9, va_K.moved hW.alike hK9, hD9⟩, hS.F ht⟩) hS.2.2 dX1_init_72
def v_X6_init : List Cond := .code yX6_init cX6_init 4 none :: ([.code objectInit ⟨#[0xb1]⟩ 1 none, .methodLink RX6 3 objectInit, .instanceMethod objectInit, .fieldLink RX6 9 "TwinRoots$Survey" "disk" "LTwinRoots$Disk;", .fieldLink RX6 15 "TwinRoots$Survey" "forest" "LTwinRoots$Forest;", .fieldLink RX6 19 "TwinRoots$Survey" "limits" "LTwinRoots$Limits;", .fieldLink RX6 23 "TwinRoots$Disk" "blocks" "I", .arrayClass .int, .fieldLink RX6 29 "TwinRoots$Survey" "line" "[I", .arrayClass .long, .fieldLink RX6 33 "TwinRoots$Survey" "lowest" "[J", .fieldLink RX6 37 "TwinRoots$Survey" "ceiling" "[J"] ++ (wsX60 ++ (wsX00 ++ ([]))))
set_option maxHeartbeats 4000000 in
set_option maxRecDepth 100000 in
/-- Survey(disk, forest, limits) -/
theorem c_X6_init (l : Launch) (dC : Nat → ClassId) (dI : Nat → Nat → Nat) (sz : Nat) (h0 : Nat) (hd : Nat) (hf : Nat) (hm : Nat) (w : Nat) (b : Nat) (qc : Nat) (qi : Nat) (wr : Int32) (wa : Int32) (wc : Int32) (zw0 : 12 ≤ w) (zw : w ≤ 40) (zb0 : 4 ≤ b) (zb : b ≤ 64) (zwb : w * b ≤ 2560) : Met l yX6_init v_X6_init ({ frames := 1, cells := 3, slots := 192, locals := 12 } : Room) (va_Pc [.ref h0, .ref hd, .ref hf, .ref hm] (fun U => U.heap.size = sz ∧ va_P (dC, dI) vwCl [(h0, .inr (6, [.null, .null, .null, .null, .null, .null, .int 0, .long 0, .int 0, .long 0])), (hd, .inr (0, [.int (nI w), .int (nI b), .int wr, .ref qc, .ref qi, .int wa, .int wc]))] U.heap ∧ va_K (dC, dI) vwCl [] U ∧ va_D (fun _ => True) [(h0, .inr (6, [.null, .null, .null, .null, .null, .null, .int 0, .long 0, .int 0, .long 0])), (hd, .inr (0, [.int (nI w), .int (nI b), .int wr, .ref qc, .ref qi, .int wa, .int wc]))])) (va_Qv (fun (u : Nat × Nat × Nat) => match u with | (l1, l2, l3) => True) (fun (u : Nat × Nat × Nat) (t : State) => match u with | (l1, l2, l3) => va_P (dC, dI) vwCl [(h0, .inr (6, [.ref hd, .ref hf, .ref hm, .ref l1, .ref l2, .ref l3, .int 0, .long 0, .int 0, .long 0])), (hd, .inr (0, [.int (nI w), .int (nI b), .int wr, .ref qc, .ref qi, .int wa, .int wc]))] t.heap ∧ va_K (dC, dI) vwCl [] t ∧ va_D (va_A [(h0, .inr (6, [.null, .null, .null, .null, .null, .null, .int 0, .long 0, .int 0, .long 0])), (hd, .inr (0, [.int (nI w), .int (nI b), .int wr, .ref qc, .ref qi, .int wa, .int wc]))] sz) [(h0, .inr (6, [.ref hd, .ref hf, .ref hm, .ref l1, .ref l2, .ref l3, .int 0, .long 0, .int 0, .long 0])), (hd, .inr (0, [.int (nI w), .int (nI b), .int wr, .ref qc, .ref qi, .int wa, .int wc]))]) (va_A [(h0, .inr (6, [.null, .null, .null, .null, .null, .null, .int 0, .long 0, .int 0, .long 0])), (hd, .inr (0, [.int (nI w), .int (nI b), .int wr, .ref qc, .ref qi, .int wa, .int wc]))] sz)) 3 192 (va_A [(h0, .inr (6, [.null, .null, .null, .null, .null, .null, .int 0, .long 0, .int 0, .long 0])), (hd, .inr (0, [.int (nI w), .int (nI b), .int wr, .ref qc, .ref qi, .int wa, .int wc]))] sz) := by
  refine Met.ofW (cc := cX6_init) (maxL := 4) (ret := none) (by decide) rfl ?_
  intro p e s m args below meth c s₁ B hml hv
  obtain ⟨rfl, hsz, hP, hK, hD0⟩ := hv
  have hx := B.exec
  have hb := B.bytes
  have hr := B.returns
  have hts := atoms_spec (ws := v_X6_init) B.pre
  have hown : s.vm.findClass RX6 = some m.cls := findClass_of_methodNamed B.named
  have hlocks := B.notSynchronized
  have hin : meth.name = "<init>" := (name_of_methodNamed B.named B.method).1
  subst hsz
  have hD := hD0.self (sz := s.heap.size)
  generalize hAe : va_A [(h0, .inr (6, [.null, .null, .null, .null, .null, .null, .int 0, .long 0, .int 0, .long 0])), (hd, .inr (0, [.int (nI w), .int (nI b), .int wr, .ref qc, .ref qi, .int wa, .int wc]))] s.heap.size = A at hD ⊢
  have hA : ∀ q : Nat, s.heap.size ≤ q → A q := fun q h => by rw [← hAe]; exact Or.inr h
  have hS : va_S A s.heap s.heap [] := va_S.rf
  have hP : va_P (dC, dI) vwCl [(h0, .inr (6, [.null, .null, .null, .null, .null, .null, .int 0, .long 0, .int 0, .long 0])), (hd, .inr (0, [.int (nI w), .int (nI b), .int wr, .ref qc, .ref qi, .int wa, .int wc]))] s.heap := hP
  have hl := lv_entry ([.ref h0, .ref hd, .ref hf, .ref hm]) (n := 4) (Nat.le_of_ble_eq_true rfl)
  rw [lg_entry_eq]
  generalize (lg_sl ([.ref h0, .ref hd, .ref hf, .ref hm]) ++ List.replicate (4 - (lg_sl ([.ref h0, .ref hd, .ref hf, .ref hm])).length) Slot.unset).toArray = ls at hl ⊢
  have hl : lv_has ls 4 [(0, .ref h0), (1, .ref hd), (2, .ref hf), (3, .ref hm)] := hl
  have k_1 := hts (.code objectInit ⟨#[0xb1]⟩ 1 none) (List.mem_of_getElem? (i := 1) rfl)
  have k_2 := hts (.methodLink RX6 3 objectInit) (List.mem_of_getElem? (i := 2) rfl)
  have k_3 := hts (.instanceMethod objectInit) (List.mem_of_getElem? (i := 3) rfl)
  have k_4 := (fun _ h => List.mem_cons_of_mem _ (List.mem_append_right _ (List.mem_append_left _ h)) : ∀ w ∈ wsX60, w ∈ v_X6_init)
  have k_5 := hts (.fieldLink RX6 9 "TwinRoots$Survey" "disk" "LTwinRoots$Disk;") (List.mem_of_getElem? (i := 4) rfl)
  have k_6 := hts (.fieldLink RX6 15 "TwinRoots$Survey" "forest" "LTwinRoots$Forest;") (List.mem_of_getElem? (i := 5) rfl)
  have k_7 := hts (.fieldLink RX6 19 "TwinRoots$Survey" "limits" "LTwinRoots$Limits;") (List.mem_of_getElem? (i := 6) rfl)
  have k_8 := (fun _ h => List.mem_cons_of_mem _ (List.mem_append_right _ (List.mem_append_right _ (List.mem_append_left _ h))) : ∀ w ∈ wsX00, w ∈ v_X6_init)
  have k_9 := hts (.fieldLink RX6 23 "TwinRoots$Disk" "blocks" "I") (List.mem_of_getElem? (i := 7) rfl)
  have k_10 := hts (.arrayClass .int) (List.mem_of_getElem? (i := 8) rfl)
  have k_11 := hts (.fieldLink RX6 29 "TwinRoots$Survey" "line" "[I") (List.mem_of_getElem? (i := 9) rfl)
  have k_12 := hts (.arrayClass .long) (List.mem_of_getElem? (i := 10) rfl)
  have k_13 := hts (.fieldLink RX6 33 "TwinRoots$Survey" "lowest" "[J") (List.mem_of_getElem? (i := 11) rfl)
  have k_14 := hts (.fieldLink RX6 37 "TwinRoots$Survey" "ceiling" "[J") (List.mem_of_getElem? (i := 12) rfl)
  refine lv_aload_n hx hb dX6_init_0 rfl (lv_at hl 0 rfl) ?_
  refine W.objInit hx hb hown k_2 k_3 k_1 rfl (by rw [hml]; exact hl.1) rfl dX6_init_1 (Nat.le_of_ble_eq_true rfl) (Nat.le_of_ble_eq_true rfl) ?_
  refine W.eq (g2 := F0 m 4 ls []) rfl ?_
  refine lv_aload_n hx hb dX6_init_4 rfl (lv_at hl 0 rfl) ?_
  refine lv_aload_n hx hb dX6_init_5 rfl (lv_at hl 1 rfl) ?_
  refine va_putF (D := (dC, dI)) (ci := 6) (v := .ref hd) (ty := (.object "TwinRoots$Disk")) (C := RX6) (T := TX6) (N := 10) hx hb hts k_4 tyX6 tyX6_ok nmX6 hown hK hP hD hS 0 rfl rfl 0 (by decide) k_5 (fun _ h9 => h9) rfl hin rfl (by decide +kernel) rfl rfl (Nat.le_of_ble_eq_true rfl) dX6_init_6 (fun H locs hP hD hS => ?_)
  have hP : va_P (dC, dI) vwCl [(h0, .inr (6, [.ref hd, .null, .null, .null, .null, .null, .int 0, .long 0, .int 0, .long 0])), (hd, .inr (0, [.int (nI w), .int (nI b), .int wr, .ref qc, .ref qi, .int wa, .int wc]))] H := hP
  have hD : va_D A [(h0, .inr (6, [.ref hd, .null, .null, .null, .null, .null, .int 0, .long 0, .int 0, .long 0])), (hd, .inr (0, [.int (nI w), .int (nI b), .int wr, .ref qc, .ref qi, .int wa, .int wc]))] := hD
  refine lv_aload_n hx hb dX6_init_9 rfl (lv_at hl 0 rfl) ?_
  refine lv_aload_n hx hb dX6_init_10 rfl (lv_at hl 2 rfl) ?_
  refine va_putF (D := (dC, dI)) (ci := 6) (v := .ref hf) (ty := (.object "TwinRoots$Forest")) (C := RX6) (T := TX6) (N := 10) hx hb hts k_4 tyX6 tyX6_ok nmX6 hown hK hP hD hS 0 rfl rfl 1 (by decide) k_6 (fun _ h9 => h9) rfl hin rfl (by decide +kernel) rfl rfl (Nat.le_of_ble_eq_true rfl) dX6_init_11 (fun H locs hP hD hS => ?_)
  have hP : va_P (dC, dI) vwCl [(h0, .inr (6, [.ref hd, .ref hf, .null, .null, .null, .null, .int 0, .long 0, .int 0, .long 0])), (hd, .inr (0, [.int (nI w), .int (nI b), .int wr, .ref qc, .ref qi, .int wa, .int wc]))] H := hP
  have hD : va_D A [(h0, .inr (6, [.ref hd, .ref hf, .null, .null, .null, .null, .int 0, .long 0, .int 0, .long 0])), (hd, .inr (0, [.int (nI w), .int (nI b), .int wr, .ref qc, .ref qi, .int wa, .int wc]))] := hD
  refine lv_aload_n hx hb dX6_init_14 rfl (lv_at hl 0 rfl) ?_
  refine lv_aload_n hx hb dX6_init_15 rfl (lv_at hl 3 rfl) ?_
  refine va_putF (D := (dC, dI)) (ci := 6) (v := .ref hm) (ty := (.object "TwinRoots$Limits")) (C := RX6) (T := TX6) (N := 10) hx hb hts k_4 tyX6 tyX6_ok nmX6 hown hK hP hD hS 0 rfl rfl 2 (by decide) k_7 (fun _ h9 => h9) rfl hin rfl (by decide +kernel) rfl rfl (Nat.le_of_ble_eq_true rfl) dX6_init_16 (fun H locs hP hD hS => ?_)
  have hP : va_P (dC, dI) vwCl [(h0, .inr (6, [.ref hd, .ref hf, .ref hm, .null, .null, .null, .int 0, .long 0, .int 0, .long 0])), (hd, .inr (0, [.int (nI w), .int (nI b), .int wr, .ref qc, .ref qi, .int wa, .int wc]))] H := hP
  have hD : va_D A [(h0, .inr (6, [.ref hd, .ref hf, .ref hm, .null, .null, .null, .int 0, .long 0, .int 0, .long 0])), (hd, .inr (0, [.int (nI w), .int (nI b), .int wr, .ref qc, .ref qi, .int wa, .int wc]))] := hD
  refine lv_aload_n hx hb dX6_init_19 rfl (lv_at hl 0 rfl) ?_
  refine lv_aload_n hx hb dX6_init_20 rfl (lv_at hl 1 rfl) ?_
  refine va_get (D := (dC, dI)) (ci := 0) (v := .int (nI b)) (C := RX0) (T := TX0) (N := 7) hx hb hts k_8 hown hK hP 1 rfl rfl 1 (by decide) k_9 (fun _ h9 => h9) rfl dX6_init_21 ?_
  refine va_newa (atype := .int) (a0 := (b, .inl (fun _ => 0))) hx hb k_10 (ty := .int) rfl hK hP hD hS hA (fun _ => rfl) (nI_pos (by omega)) (nI_clamp (by omega)) (by exact cb_int (by omega)) (show 0 + 1 ≤ 3 by omega) (show 0 + b ≤ 192 by omega) dX6_init_24 (fun q_1 cA_2 H hK hP hD hS => ?_)
  have hP : va_P (dC, dI) vwCl [(h0, .inr (6, [.ref hd, .ref hf, .ref hm, .null, .null, .null, .int 0, .long 0, .int 0, .long 0])), (hd, .inr (0, [.int (nI w), .int (nI b), .int wr, .ref qc, .ref qi, .int wa, .int wc])), (q_1, .inl (cA_2, b, .inl (fun _ => 0)))] H := hP
  have hD : va_D A [(h0, .inr (6, [.ref hd, .ref hf, .ref hm, .null, .null, .null, .int 0, .long 0, .int 0, .long 0])), (hd, .inr (0, [.int (nI w), .int (nI b), .int wr, .ref qc, .ref qi, .int wa, .int wc])), (q_1, .inl (cA_2, b, .inl (fun _ => 0)))] := hD
  have hK : va_K (dC, dI) vwCl [(cA_2, .int)] s := hK
  refine W.widen (k := 1) (n := 64) (by omega) (by omega) ?_
  refine va_putF (D := (dC, dI)) (ci := 6) (v := .ref q_1) (ty := (.array .int)) (C := RX6) (T := TX6) (N := 10) hx hb hts k_4 tyX6 tyX6_ok nmX6 hown hK hP hD hS 0 rfl rfl 3 (by decide) k_11 (fun _ h9 => h9) rfl hin rfl (by decide +kernel) rfl rfl (Nat.le_of_ble_eq_true rfl) dX6_init_26 (fun H locs hP hD hS => ?_)
  have hP : va_P (dC, dI) vwCl [(h0, .inr (6, [.ref hd, .ref hf, .ref hm, .ref q_1, .null, .null, .int 0, .long 0, .int 0, .long 0])), (hd, .inr (0, [.int (nI w), .int (nI b), .int wr, .ref qc, .ref qi, .int wa, .int wc])), (q_1, .inl (cA_2, b, .inl (fun _ => 0)))] H := hP
  have hD : va_D A [(h0, .inr (6, [.ref hd, .ref hf, .ref hm, .ref q_1, .null, .null, .int 0, .long 0, .int 0, .long 0])), (hd, .inr (0, [.int (nI w), .int (nI b), .int wr, .ref qc, .ref qi, .int wa, .int wc])), (q_1, .inl (cA_2, b, .inl (fun _ => 0)))] := hD
  refine lv_aload_n hx hb dX6_init_29 rfl (lv_at hl 0 rfl) ?_
  refine lv_aload_n hx hb dX6_init_30 rfl (lv_at hl 1 rfl) ?_
  refine va_get (D := (dC, dI)) (ci := 0) (v := .int (nI b)) (C := RX0) (T := TX0) (N := 7) hx hb hts k_8 hown hK hP 1 rfl rfl 1 (by decide) k_9 (fun _ h9 => h9) rfl dX6_init_31 ?_
  refine va_newa (atype := .long) (a0 := (b, .inr (.inl (fun _ => 0)))) hx hb k_12 (ty := .long) rfl hK hP hD hS hA (fun _ => rfl) (nI_pos (by omega)) (nI_clamp (by omega)) (by exact cb_long (by omega)) (show 1 + 1 ≤ 3 by omega) (show 64 + b ≤ 192 by omega) dX6_init_34 (fun q_3 cA_4 H hK hP hD hS => ?_)
  have hP : va_P (dC, dI) vwCl [(h0, .inr (6, [.ref hd, .ref hf, .ref hm, .ref q_1, .null, .null, .int 0, .long 0, .int 0, .long 0])), (hd, .inr (0, [.int (nI w), .int (nI b), .int wr, .ref qc, .ref qi, .int wa, .int wc])), (q_1, .inl (cA_2, b, .inl (fun _ => 0))), (q_3, .inl (cA_4, b, .inr (.inl (fun _ => 0))))] H := hP
  have hD : va_D A [(h0, .inr (6, [.ref hd, .ref hf, .ref hm, .ref q_1, .null, .null, .int 0, .long 0, .int 0, .long 0])), (hd, .inr (0, [.int (nI w), .int (nI b), .int wr, .ref qc, .ref qi, .int wa, .int wc])), (q_1, .inl (cA_2, b, .inl (fun _ => 0))), (q_3, .inl (cA_4, b, .inr (.inl (fun _ => 0))))] := hD
  have hK : va_K (dC, dI) vwCl [(cA_2, .int), (cA_4, .long)] s := hK
  refine W.widen (k := 2) (n := 128) (by omega) (by omega) ?_
  refine va_putF (D := (dC, dI)) (ci := 6) (v := .ref q_3) (ty := (.array .long)) (C := RX6) (T := TX6) (N := 10) hx hb hts k_4 tyX6 tyX6_ok nmX6 hown hK hP hD hS 0 rfl rfl 4 (by decide) k_13 (fun _ h9 => h9) rfl hin rfl (by decide +kernel) rfl rfl (Nat.le_of_ble_eq_true rfl) dX6_init_36 (fun H locs hP hD hS => ?_)
  have hP : va_P (dC, dI) vwCl [(h0, .inr (6, [.ref hd, .ref hf, .ref hm, .ref q_1, .ref q_3, .null, .int 0, .long 0, .int 0, .long 0])), (hd, .inr (0, [.int (nI w), .int (nI b), .int wr, .ref qc, .ref qi, .int wa, .int wc])), (q_1, .inl (cA_2, b, .inl (fun _ => 0))), (q_3, .inl (cA_4, b, .inr (.inl (fun _ => 0))))] H := hP
  have hD : va_D A [(h0, .inr (6, [.ref hd, .ref hf, .ref hm, .ref q_1, .ref q_3, .null, .int 0, .long 0, .int 0, .long 0])), (hd, .inr (0, [.int (nI w), .int (nI b), .int wr, .ref qc, .ref qi, .int wa, .int wc])), (q_1, .inl (cA_2, b, .inl (fun _ => 0))), (q_3, .inl (cA_4, b, .inr (.inl (fun _ => 0))))] := hD
  refine lv_aload_n hx hb dX6_init_39 rfl (lv_at hl 0 rfl) ?_
  refine lv_aload_n hx hb dX6_init_40 rfl (lv_at hl 1 rfl) ?_
  refine va_get (D := (dC, dI)) (ci := 0) (v := .int (nI b)) (C := RX0) (T := TX0) (N := 7) hx hb hts k_8 hown hK hP 1 rfl rfl 1 (by decide) k_9 (fun _ h9 => h9) rfl dX6_init_41 ?_
  refine va_newa (atype := .long) (a0 := (b, .inr (.inl (fun _ => 0)))) hx hb k_12 (ty := .long) rfl hK hP hD hS hA (fun _ => rfl) (nI_pos (by omega)) (nI_clamp (by omega)) (by exact cb_long (by omega)) (show 2 + 1 ≤ 3 by omega) (show 128 + b ≤ 192 by omega) dX6_init_44 (fun q_5 cA_6 H hK hP hD hS => ?_)
  have hP : va_P (dC, dI) vwCl [(h0, .inr (6, [.ref hd, .ref hf, .ref hm, .ref q_1, .ref q_3, .null, .int 0, .long 0, .int 0, .long 0])), (hd, .inr (0, [.int (nI w), .int (nI b), .int wr, .ref qc, .ref qi, .int wa, .int wc])), (q_1, .inl (cA_2, b, .inl (fun _ => 0))), (q_3, .inl (cA_4, b, .inr (.inl (fun _ => 0)))), (q_5, .inl (cA_6, b, .inr (.inl (fun _ => 0))))] H := hP
  have hD : va_D A [(h0, .inr (6, [.ref hd, .ref hf, .ref hm, .ref q_1, .ref q_3, .null, .int 0, .long 0, .int 0, .long 0])), (hd, .inr (0, [.int (nI w), .int (nI b), .int wr, .ref qc, .ref qi, .int wa, .int wc])), (q_1, .inl (cA_2, b, .inl (fun _ => 0))), (q_3, .inl (cA_4, b, .inr (.inl (fun _ => 0)))), (q_5, .inl (cA_6, b, .inr (.inl (fun _ => 0))))] := hD
  have hK : va_K (dC, dI) vwCl [(cA_2, .int), (cA_4, .long), (cA_6, .long)] s := hK
  refine W.widen (k := 3) (n := 192) (by omega) (by omega) ?_
  refine va_putF (D := (dC, dI)) (ci := 6) (v := .ref q_5) (ty := (.array .long)) (C := RX6) (T := TX6) (N := 10) hx hb hts k_4 tyX6 tyX6_ok nmX6 hown hK hP hD hS 0 rfl rfl 5 (by decide) k_14 (fun _ h9 => h9) rfl hin rfl (by decide +kernel) rfl rfl (Nat.le_of_ble_eq_true rfl) dX6_init_46 (fun H locs hP hD hS => ?_)
  have hP : va_P (dC, dI) vwCl [(h0, .inr (6, [.ref hd, .ref hf, .ref hm, .ref q_1, .ref q_3, .ref q_5, .int 0, .long 0, .int 0, .long 0])), (hd, .inr (0, [.int (nI w), .int (nI b), .int wr, .ref qc, .ref qi, .int wa, .int wc])), (q_1, .inl (cA_2, b, .inl (fun _ => 0))), (q_3, .inl (cA_4, b, .inr (.inl (fun _ => 0)))), (q_5, .inl (cA_6, b, .inr (.inl (fun _ => 0))))] H := hP
  have hD : va_D A [(h0, .inr (6, [.ref hd, .ref hf, .ref hm, .ref q_1, .ref q_3, .ref q_5, .int 0, .long 0, .int 0, .long 0])), (hd, .inr (0, [.int (nI w), .int (nI b), .int wr, .ref qc, .ref qi, .int wa, .int wc])), (q_1, .inl (cA_2, b, .inl (fun _ => 0))), (q_3, .inl (cA_4, b, .inr (.inl (fun _ => 0)))), (q_5, .inl (cA_6, b, .inr (.inl (fun _ => 0))))] := hD
  have hP9 := hP.sub (ws' := [(h0, .inr (6, [.ref hd, .ref hf, .ref hm, .ref q_1, .ref q_3, .ref q_5, .int 0, .long 0, .int 0, .long 0])), (hd, .inr (0, [.int (nI w), .int (nI b), .int wr, .ref qc, .ref qi, .int wa, .int wc]))]) [0, 1] rfl
  have hD9 := hD.sub (ws' := [(h0, .inr (6, [.ref hd, .ref hf, .ref hm, .ref q_1, .ref q_3, .ref q_5, .int 0, .long 0, .int 0, .long 0])), (hd, .inr (0, [.int (nI w), .int (nI b), .int wr, .ref qc, .ref qi, .int wa, .int wc]))]) [0, 1] (by decide) rfl
  have hK9 := hK.sub (tys' := []) [] rfl
  exact W.vret hx hb hr (fun t ht hW => ⟨⟨(q_1, q_3, q_5), rfl, trivial, by rw [ht]; exact hP9, va_K.moved hW.alike hK9, hD9⟩, hS.F ht⟩) hS.2.2 dX6_init_49
def v_X7_init : List Cond := .code yX7_init cX7_init 1 none :: ([.code objectInit ⟨#[0xb1]⟩ 1 none, .methodLink RX7 3 objectInit, .instanceMethod objectInit] ++ ([]))
set_option maxHeartbeats 4000000 in
set_option maxRecDepth 100000 in
/-- Told() -/
theorem c_X7_init (l : Launch) (dC : Nat → ClassId) (dI : Nat → Nat → Nat) (sz : Nat) (h0 : Nat) (e1 : Int32) (e2 : Int32) (e3 : Int32) (e4 : Int64) : Met l yX7_init v_X7_init ({ frames := 1, cells := 0, slots := 0, locals := 12 } : Room) (va_Pc [.ref h0] (fun U => U.heap.size = sz ∧ va_P (dC, dI) vwCl [(h0, .inr (7, [.int e1, .int e2, .int e3, .long e4]))] U.heap ∧ va_K (dC, dI) vwCl [] U ∧ va_D (fun _ => True) [(h0, .inr (7, [.int e1, .int e2, .int e3, .long e4]))])) (va_Qv (fun (_ : Unit) => True) (fun (_ : Unit) (t : State) => va_P (dC, dI) vwCl [(h0, .inr (7, [.int e1, .int e2, .int e3, .long e4]))] t.heap ∧ va_K (dC, dI) vwCl [] t ∧ va_D (va_A [(h0, .inr (7, [.int e1, .int e2, .int e3, .long e4]))] sz) [(h0, .inr (7, [.int e1, .int e2, .int e3, .long e4]))]) (va_A [(h0, .inr (7, [.int e1, .int e2, .int e3, .long e4]))] sz)) 0 0 (va_A [(h0, .inr (7, [.int e1, .int e2, .int e3, .long e4]))] sz) := by
  refine Met.ofW (cc := cX7_init) (maxL := 1) (ret := none) (by decide) rfl ?_
  intro p e s m args below meth c s₁ B hml hv
  obtain ⟨rfl, hsz, hP, hK, hD0⟩ := hv
  have hx := B.exec
  have hb := B.bytes
  have hr := B.returns
  have hts := atoms_spec (ws := v_X7_init) B.pre
  have hown : s.vm.findClass RX7 = some m.cls := findClass_of_methodNamed B.named
  have hlocks := B.notSynchronized
  have hin : meth.name = "<init>" := (name_of_methodNamed B.named B.method).1
  subst hsz
  have hD := hD0.self (sz := s.heap.size)
  generalize hAe : va_A [(h0, .inr (7, [.int e1, .int e2, .int e3, .long e4]))] s.heap.size = A at hD ⊢
  have hA : ∀ q : Nat, s.heap.size ≤ q → A q := fun q h => by rw [← hAe]; exact Or.inr h
  have hS : va_S A s.heap s.heap [] := va_S.rf
  have hP : va_P (dC, dI) vwCl [(h0, .inr (7, [.int e1, .int e2, .int e3, .long e4]))] s.heap := hP
  have hl := lv_entry ([.ref h0]) (n := 1) (Nat.le_of_ble_eq_true rfl)
  rw [lg_entry_eq]
  generalize (lg_sl ([.ref h0]) ++ List.replicate (1 - (lg_sl ([.ref h0])).length) Slot.unset).toArray = ls at hl ⊢
  have hl : lv_has ls 1 [(0, .ref h0)] := hl
  have k_1 := hts (.code objectInit ⟨#[0xb1]⟩ 1 none) (List.mem_of_getElem? (i := 1) rfl)
  have k_2 := hts (.methodLink RX7 3 objectInit) (List.mem_of_getElem? (i := 2) rfl)
  have k_3 := hts (.instanceMethod objectInit) (List.mem_of_getElem? (i := 3) rfl)
  refine lv_aload_n hx hb dX7_init_0 rfl (lv_at hl 0 rfl) ?_
  refine W.objInit hx hb hown k_2 k_3 k_1 rfl (by rw [hml]; exact hl.1) rfl dX7_init_1 (Nat.le_of_ble_eq_true rfl) (Nat.le_of_ble_eq_true rfl) ?_
  refine W.eq (g2 := F0 m 4 ls []) rfl ?_
  have hP9 := hP.sub (ws' := [(h0, .inr (7, [.int e1, .int e2, .int e3, .long e4]))]) [0] rfl
  have hD9 := hD.sub (ws' := [(h0, .inr (7, [.int e1, .int e2, .int e3, .long e4]))]) [0] (by decide) rfl
  have hK9 := hK.sub (tys' := []) [] rfl
  exact W.vret hx hb hr (fun t ht hW => ⟨⟨(), rfl, trivial, by rw [ht]; exact hP9, va_K.moved hW.alike hK9, hD9⟩, hS.F ht⟩) hS.2.2 dX7_init_4
def v_X7_tell : List Cond := .code yX7_tell cX7_tell 6 none :: ([.fieldLink RX7 9 "TwinRoots$Told" "epoch" "I", .fieldLink RX7 15 "TwinRoots$Told" "top" "I", .fieldLink RX7 18 "TwinRoots$Told" "keys" "I", .fieldLink RX7 21 "TwinRoots$Told" "reach" "J"] ++ (wsX70 ++ ([])))
set_option maxHeartbeats 4000000 in
set_option maxRecDepth 100000 in
/-- tell -/
theorem c_X7_tell (l : Launch) (dC : Nat → ClassId) (dI : Nat → Nat → Nat) (sz : Nat) (h0 : Nat) (e1 : Int32) (e2 : Int32) (e3 : Int32) (e4 : Int64) (p0 : Int32) (p1 : Int32) (p2 : Int32) (p3 : Int64) : Met l yX7_tell v_X7_tell ({ frames := 0, cells := 0, slots := 0, locals := 0 } : Room) (va_Pc [.ref h0, .int p0, .int p1, .int p2, .long p3] (fun U => U.heap.size = sz ∧ va_P (dC, dI) vwCl [(h0, .inr (7, [.int e1, .int e2, .int e3, .long e4]))] U.heap ∧ va_K (dC, dI) vwCl [] U ∧ va_D (fun _ => True) [(h0, .inr (7, [.int e1, .int e2, .int e3, .long e4]))])) (va_Qv (fun (_ : Unit) => True) (fun (_ : Unit) (t : State) => va_P (dC, dI) vwCl [(h0, .inr (7, [.int p0, .int p1, .int p2, .long p3]))] t.heap ∧ va_K (dC, dI) vwCl [] t ∧ va_D (va_A [(h0, .inr (7, [.int e1, .int e2, .int e3, .long e4]))] sz) [(h0, .inr (7, [.int p0, .int p1, .int p2, .long p3]))]) (va_A [(h0, .inr (7, [.int e1, .int e2, .int e3, .long e4]))] sz)) 0 0 (va_A [(h0, .inr (7, [.int e1, .int e2, .int e3, .long e4]))] sz) := by
  refine Met.ofW (cc := cX7_tell) (maxL := 6) (ret := none) (by decide) rfl ?_
  intro p e s m args below meth c s₁ B hml hv
  obtain ⟨rfl, hsz, hP, hK, hD0⟩ := hv
  have hx := B.exec
  have hb := B.bytes
  have hr := B.returns
  have hts := atoms_spec (ws := v_X7_tell) B.pre
  have hown : s.vm.findClass RX7 = some m.cls := findClass_of_methodNamed B.named
  have hlocks := B.notSynchronized
  subst hsz
  have hD := hD0.self (sz := s.heap.size)
  generalize hAe : va_A [(h0, .inr (7, [.int e1, .int e2, .int e3, .long e4]))] s.heap.size = A at hD ⊢
  have hA : ∀ q : Nat, s.heap.size ≤ q → A q := fun q h => by rw [← hAe]; exact Or.inr h
  have hS : va_S A s.heap s.heap [] := va_S.rf
  have hP : va_P (dC, dI) vwCl [(h0, .inr (7, [.int e1, .int e2, .int e3, .long e4]))] s.heap := hP
  have hl := lv_entry ([.ref h0, .int p0, .int p1, .int p2, .long p3]) (n := 6) (Nat.le_of_ble_eq_true rfl)
  rw [lg_entry_eq]
  generalize (lg_sl ([.ref h0, .int p0, .int p1, .int p2, .long p3]) ++ List.replicate (6 - (lg_sl ([.ref h0, .int p0, .int p1, .int p2, .long p3])).length) Slot.unset).toArray = ls at hl ⊢
  have hl : lv_has ls 6 [(0, .ref h0), (1, .int p0), (2, .int p1), (3, .int p2), (4, .long p3)] := hl
  have k_1 := (fun _ h => List.mem_cons_of_mem _ (List.mem_append_right _ (List.mem_append_left _ h)) : ∀ w ∈ wsX70, w ∈ v_X7_tell)
  have k_2 := hts (.fieldLink RX7 9 "TwinRoots$Told" "epoch" "I") (List.mem_of_getElem? (i := 1) rfl)
  have k_3 := hts (.fieldLink RX7 15 "TwinRoots$Told" "top" "I") (List.mem_of_getElem? (i := 2) rfl)
  have k_4 := hts (.fieldLink RX7 18 "TwinRoots$Told" "keys" "I") (List.mem_of_getElem? (i := 3) rfl)
  have k_5 := hts (.fieldLink RX7 21 "TwinRoots$Told" "reach" "J") (List.mem_of_getElem? (i := 4) rfl)
  refine lv_aload_n hx hb dX7_tell_0 rfl (lv_at hl 0 rfl) ?_
  refine lv_iload_n hx hb dX7_tell_1 rfl (lv_at hl 1 rfl) ?_
  refine va_put (D := (dC, dI)) (ci := 7) (v := .int p0) (ty := .int) (C := RX7) (T := TX7) (N := 4) hx hb hts k_1 tyX7 tyX7_ok nmX7 hown hK hP hD hS 0 rfl rfl 0 (by decide) k_2 (fun _ h9 => h9) rfl (by decide +kernel) rfl rfl (Nat.le_of_ble_eq_true rfl) dX7_tell_2 (fun H locs hP hD hS => ?_)
  have hP : va_P (dC, dI) vwCl [(h0, .inr (7, [.int p0, .int e2, .int e3, .long e4]))] H := hP
  have hD : va_D A [(h0, .inr (7, [.int p0, .int e2, .int e3, .long e4]))] := hD
  refine lv_aload_n hx hb dX7_tell_5 rfl (lv_at hl 0 rfl) ?_
  refine lv_iload_n hx hb dX7_tell_6 rfl (lv_at hl 2 rfl) ?_
  refine va_put (D := (dC, dI)) (ci := 7) (v := .int p1) (ty := .int) (C := RX7) (T := TX7) (N := 4) hx hb hts k_1 tyX7 tyX7_ok nmX7 hown hK hP hD hS 0 rfl rfl 1 (by decide) k_3 (fun _ h9 => h9) rfl (by decide +kernel) rfl rfl (Nat.le_of_ble_eq_true rfl) dX7_tell_7 (fun H locs hP hD hS => ?_)
  have hP : va_P (dC, dI) vwCl [(h0, .inr (7, [.int p0, .int p1, .int e3, .long e4]))] H := hP
  have hD : va_D A [(h0, .inr (7, [.int p0, .int p1, .int e3, .long e4]))] := hD
  refine lv_aload_n hx hb dX7_tell_10 rfl (lv_at hl 0 rfl) ?_
  refine lv_iload_n hx hb dX7_tell_11 rfl (lv_at hl 3 rfl) ?_
  refine va_put (D := (dC, dI)) (ci := 7) (v := .int p2) (ty := .int) (C := RX7) (T := TX7) (N := 4) hx hb hts k_1 tyX7 tyX7_ok nmX7 hown hK hP hD hS 0 rfl rfl 2 (by decide) k_4 (fun _ h9 => h9) rfl (by decide +kernel) rfl rfl (Nat.le_of_ble_eq_true rfl) dX7_tell_12 (fun H locs hP hD hS => ?_)
  have hP : va_P (dC, dI) vwCl [(h0, .inr (7, [.int p0, .int p1, .int p2, .long e4]))] H := hP
  have hD : va_D A [(h0, .inr (7, [.int p0, .int p1, .int p2, .long e4]))] := hD
  refine lv_aload_n hx hb dX7_tell_15 rfl (lv_at hl 0 rfl) ?_
  refine lv_lload hx hb dX7_tell_16 (lv_at hl 4 rfl) ?_
  refine va_put (D := (dC, dI)) (ci := 7) (v := .long p3) (ty := .long) (C := RX7) (T := TX7) (N := 4) hx hb hts k_1 tyX7 tyX7_ok nmX7 hown hK hP hD hS 0 rfl rfl 3 (by decide) k_5 (fun _ h9 => h9) rfl (by decide +kernel) rfl rfl (Nat.le_of_ble_eq_true rfl) dX7_tell_18 (fun H locs hP hD hS => ?_)
  have hP : va_P (dC, dI) vwCl [(h0, .inr (7, [.int p0, .int p1, .int p2, .long p3]))] H := hP
  have hD : va_D A [(h0, .inr (7, [.int p0, .int p1, .int p2, .long p3]))] := hD
  have hP9 := hP.sub (ws' := [(h0, .inr (7, [.int p0, .int p1, .int p2, .long p3]))]) [0] rfl
  have hD9 := hD.sub (ws' := [(h0, .inr (7, [.int p0, .int p1, .int p2, .long p3]))]) [0] (by decide) rfl
  have hK9 := hK.sub (tys' := []) [] rfl
  exact W.vret hx hb hr (fun t ht hW => ⟨⟨(), rfl, trivial, by rw [ht]; exact hP9, va_K.moved hW.alike hK9, hD9⟩, hS.F ht⟩) hS.2.2 dX7_tell_21
def v_X7_copy : List Cond := .code yX7_copy cX7_copy 2 none :: ([.fieldLink RX7 9 "TwinRoots$Told" "epoch" "I", .fieldLink RX7 15 "TwinRoots$Told" "top" "I", .fieldLink RX7 18 "TwinRoots$Told" "keys" "I", .fieldLink RX7 21 "TwinRoots$Told" "reach" "J", .code yX7_tell cX7_tell 6 none, .methodLink RX7 25 yX7_tell, .instanceMethod yX7_tell, .selects RX7 yX7_tell yX7_tell, .initialized RX7] ++ (wsX70 ++ ([])))
set_option maxRecDepth 20000 in
theorem g_X7_copy_X7_tell : GoodIn v_X7_copy (wsV RX7 25 RX7 yX7_tell v_X7_tell) := goodIn_r _ [6, 7, 8, 9, 5, 1, 2, 3, 4, 10, 11, 12, 13] (by decide +kernel) (by decide +kernel)
set_option maxHeartbeats 4000000 in
set_option maxRecDepth 100000 in
/-- copy -/
theorem c_X7_copy (l : Launch) (dC : Nat → ClassId) (dI : Nat → Nat → Nat) (sz : Nat) (h0 : Nat) (h1 : Nat) (e1 : Int32) (e2 : Int32) (e3 : Int32) (e4 : Int64) (d1 : Int32) (d2 : Int32) (d3 : Int32) (d4 : Int64) : Met l yX7_copy v_X7_copy ({ frames := 1, cells := 0, slots := 0, locals := 25 } : Room) (va_Pc [.ref h0, .ref h1] (fun U => U.heap.size = sz ∧ va_P (dC, dI) vwCl [(h0, .inr (7, [.int e1, .int e2, .int e3, .long e4])), (h1, .inr (7, [.int d1, .int d2, .int d3, .long d4]))] U.heap ∧ va_K (dC, dI) vwCl [] U ∧ va_D (fun _ => True) [(h0, .inr (7, [.int e1, .int e2, .int e3, .long e4])), (h1, .inr (7, [.int d1, .int d2, .int d3, .long d4]))])) (va_Qv (fun (_ : Unit) => True) (fun (_ : Unit) (t : State) => va_P (dC, dI) vwCl [(h0, .inr (7, [.int d1, .int d2, .int d3, .long d4])), (h1, .inr (7, [.int d1, .int d2, .int d3, .long d4]))] t.heap ∧ va_K (dC, dI) vwCl [] t ∧ va_D (va_A [(h0, .inr (7, [.int e1, .int e2, .int e3, .long e4])), (h1, .inr (7, [.int d1, .int d2, .int d3, .long d4]))] sz) [(h0, .inr (7, [.int d1, .int d2, .int d3, .long d4])), (h1, .inr (7, [.int d1, .int d2, .int d3, .long d4]))]) (va_A [(h0, .inr (7, [.int e1, .int e2, .int e3, .long e4])), (h1, .inr (7, [.int d1, .int d2, .int d3, .long d4]))] sz)) 0 0 (va_A [(h0, .inr (7, [.int e1, .int e2, .int e3, .long e4])), (h1, .inr (7, [.int d1, .int d2, .int d3, .long d4]))] sz) := by
  refine Met.ofW (cc := cX7_copy) (maxL := 2) (ret := none) (by decide) rfl ?_
  intro p e s m args below meth c s₁ B hml hv
  obtain ⟨rfl, hsz, hP, hK, hD0⟩ := hv
  have hx := B.exec
  have hb := B.bytes
  have hr := B.returns
  have hts := atoms_spec (ws := v_X7_copy) B.pre
  have hown : s.vm.findClass RX7 = some m.cls := findClass_of_methodNamed B.named
  have hlocks := B.notSynchronized
  subst hsz
  have hD := hD0.self (sz := s.heap.size)
  generalize hAe : va_A [(h0, .inr (7, [.int e1, .int e2, .int e3, .long e4])), (h1, .inr (7, [.int d1, .int d2, .int d3, .long d4]))] s.heap.size = A at hD ⊢
  have hA : ∀ q : Nat, s.heap.size ≤ q → A q := fun q h => by rw [← hAe]; exact Or.inr h
  have hS : va_S A s.heap s.heap [] := va_S.rf
  have hP : va_P (dC, dI) vwCl [(h0, .inr (7, [.int e1, .int e2, .int e3, .long e4])), (h1, .inr (7, [.int d1, .int d2, .int d3, .long d4]))] s.heap := hP
  have hl := lv_entry ([.ref h0, .ref h1]) (n := 2) (Nat.le_of_ble_eq_true rfl)
  rw [lg_entry_eq]
  generalize (lg_sl ([.ref h0, .ref h1]) ++ List.replicate (2 - (lg_sl ([.ref h0, .ref h1])).length) Slot.unset).toArray = ls at hl ⊢
  have hl : lv_has ls 2 [(0, .ref h0), (1, .ref h1)] := hl
  have k_1 := (fun _ h => List.mem_cons_of_mem _ (List.mem_append_right _ (List.mem_append_left _ h)) : ∀ w ∈ wsX70, w ∈ v_X7_copy)
  have k_2 := hts (.fieldLink RX7 9 "TwinRoots$Told" "epoch" "I") (List.mem_of_getElem? (i := 1) rfl)
  have k_3 := hts (.fieldLink RX7 15 "TwinRoots$Told" "top" "I") (List.mem_of_getElem? (i := 2) rfl)
  have k_4 := hts (.fieldLink RX7 18 "TwinRoots$Told" "keys" "I") (List.mem_of_getElem? (i := 3) rfl)
  have k_5 := hts (.fieldLink RX7 21 "TwinRoots$Told" "reach" "J") (List.mem_of_getElem? (i := 4) rfl)
  refine lv_aload_n hx hb dX7_copy_0 rfl (lv_at hl 0 rfl) ?_
  refine lv_aload_n hx hb dX7_copy_1 rfl (lv_at hl 1 rfl) ?_
  refine va_get (D := (dC, dI)) (ci := 7) (v := .int d1) (C := RX7) (T := TX7) (N := 4) hx hb hts k_1 hown hK hP 1 rfl rfl 0 (by decide) k_2 (fun _ h9 => h9) rfl dX7_copy_2 ?_
  refine lv_aload_n hx hb dX7_copy_5 rfl (lv_at hl 1 rfl) ?_
  refine va_get (D := (dC, dI)) (ci := 7) (v := .int d2) (C := RX7) (T := TX7) (N := 4) hx hb hts k_1 hown hK hP 1 rfl rfl 1 (by decide) k_3 (fun _ h9 => h9) rfl dX7_copy_6 ?_
  refine lv_aload_n hx hb dX7_copy_9 rfl (lv_at hl 1 rfl) ?_
  refine va_get (D := (dC, dI)) (ci := 7) (v := .int d3) (C := RX7) (T := TX7) (N := 4) hx hb hts k_1 hown hK hP 1 rfl rfl 2 (by decide) k_4 (fun _ h9 => h9) rfl dX7_copy_10 ?_
  refine lv_aload_n hx hb dX7_copy_13 rfl (lv_at hl 1 rfl) ?_
  refine va_get (D := (dC, dI)) (ci := 7) (v := .long d4) (C := RX7) (T := TX7) (N := 4) hx hb hts k_1 hown hK hP 1 rfl rfl 3 (by decide) k_5 (fun _ h9 => h9) rfl dX7_copy_14 ?_
  have hPc := hP.sub (ws' := [(h0, .inr (7, [.int e1, .int e2, .int e3, .long e4]))]) [0] rfl
  have hDc := hD.sub (ws' := [(h0, .inr (7, [.int e1, .int e2, .int e3, .long e4]))]) [0] (by decide) rfl
  have hKc := hK.sub (tys' := []) [] rfl
  have hFc := va_free (wc := [(h0, .inr (7, [.int e1, .int e2, .int e3, .long e4]))]) hD hS hA [0] rfl
  refine va_callv (va_runV (As := [.int d1, .int d2, .int d3, .long d4]) (rest := []) ⟨hx, hb, hml, hown, hts⟩ (c_X7_tell l dC dI s.heap.size h0 e1 e2 e3 e4 d1 d2 d3 d4) (cwV 4 hts g_X7_copy_X7_tell rfl rfl rfl (by decide +kernel) ⟨Nat.le_of_ble_eq_true rfl, Nat.le_of_ble_eq_true rfl⟩) ⟨fun a U g mk q => by obtain ⟨q0, q1, qP, qK, qD⟩ := q; exact ⟨q0, q1, qP, va_K.moved (u := U) (U := U.calling g mk a) (Vm.Alike.refl U.vm) qK, qD⟩, va_recv hKc hPc (ci := 7) (q0 := 0) rfl rfl, fun U hU hW => ⟨rfl, by rw [hU], by rw [hU]; exact hPc, va_K.moved hW.alike hKc, hDc.weaken (fun _ _ _ _ => trivial)⟩⟩ rfl rfl hl.1 rfl (lv_room (Nat.le_of_ble_eq_true rfl)) dX7_copy_17 ⟨(show 0 + 0 ≤ 0 by omega), (show 0 + 0 ≤ 0 by omega)⟩) hS (fun q _ h => hFc q h) hFc (fun u t H1 locs ht hvm hw hB hz1 hk1 hS => ?_)
  obtain ⟨hP1, hK1, hD1⟩ := hB
  rw [ht] at hP1
  have hK1 := va_K.moved hvm.symm hK1
  try dsimp only at hw
  obtain ⟨hP, hD⟩ := va_join (wr := [(h1, .inr (7, [.int d1, .int d2, .int d3, .long d4]))]) (w1 := [(h0, .inr (7, [.int d1, .int d2, .int d3, .long d4]))]) hP hD [0] [1] rfl rfl (by decide) (by decide) hk1 hFc hP1 hD1
  have hK := (hK.sub (tys' := []) [] rfl).app hK1
  generalize H1 = H at hP hS ⊢
  have hP : va_P (dC, dI) vwCl [(h1, .inr (7, [.int d1, .int d2, .int d3, .long d4])), (h0, .inr (7, [.int d1, .int d2, .int d3, .long d4]))] H := hP
  have hD : va_D A [(h1, .inr (7, [.int d1, .int d2, .int d3, .long d4])), (h0, .inr (7, [.int d1, .int d2, .int d3, .long d4]))] := hD
  have hK : va_K (dC, dI) vwCl [] s := hK
  have hP9 := hP.sub (ws' := [(h0, .inr (7, [.int d1, .int d2, .int d3, .long d4])), (h1, .inr (7, [.int d1, .int d2, .int d3, .long d4]))]) [1, 0] rfl
  have hD9 := hD.sub (ws' := [(h0, .inr (7, [.int d1, .int d2, .int d3, .long d4])), (h1, .inr (7, [.int d1, .int d2, .int d3, .long d4]))]) [1, 0] (by decide) rfl
  have hK9 := hK.sub (tys' := []) [] rfl
  exact W.vret hx hb hr (fun t ht hW => ⟨⟨(), rfl, trivial, by rw [ht]; exact hP9, va_K.moved hW.alike hK9, hD9⟩, hS.F ht⟩) hS.2.2 dX7_copy_20
def v_X7_layOut : List Cond := .code yX7_layOut cX7_layOut 2 none :: ([.code yX0_startImage cX0_startImage 2 none, .fieldLink RX0 20 "TwinRoots$Disk" "image" "[I", .methodLink RX7 29 yX0_startImage, .instanceMethod yX0_startImage, .selects RX0 yX0_startImage yX0_startImage, .initialized RX0, .constant RX7 34 (1414677326), .code yX0_lay cX0_lay 3 none, .methodLink RX7 35 yX0_lay, .instanceMethod yX0_lay, .selects RX0 yX0_lay yX0_lay, .fieldLink RX7 9 "TwinRoots$Told" "epoch" "I", .fieldLink RX7 15 "TwinRoots$Told" "top" "I", .fieldLink RX7 18 "TwinRoots$Told" "keys" "I"] ++ (wsX00 ++ (wsX70 ++ ([]))))
set_option maxRecDepth 20000 in
theorem g_X7_layOut_X0_startImage : GoodIn v_X7_layOut (wsV RX7 29 RX0 yX0_startImage v_X0_startImage) := goodIn_r _ [3, 4, 5, 6, 1, 2, 15, 16, 17, 18, 19, 20, 21] (by decide +kernel) (by decide +kernel)
set_option maxRecDepth 20000 in
theorem g_X7_layOut_X0_lay : GoodIn v_X7_layOut (wsV RX7 35 RX0 yX0_lay v_X0_lay) := goodIn_r _ [9, 10, 11, 6, 8, 2, 15, 16, 17, 18, 19, 20, 21] (by decide +kernel) (by decide +kernel)
set_option maxHeartbeats 4000000 in
set_option maxRecDepth 100000 in
/-- layOut -/
theorem c_X7_layOut (l : Launch) (dC : Nat → ClassId) (dI : Nat → Nat → Nat) (sz : Nat) (h0 : Nat) (hd : Nat) (w : Nat) (b : Nat) (qc : Nat) (qi : Nat) (wr : Int32) (wa : Int32) (wc : Int32) (e1 : Int32) (e2 : Int32) (e3 : Int32) (e4 : Int64) (cI : ClassId) (g : Nat → Int32) (zw : w ≤ 40) : Met l yX7_layOut v_X7_layOut ({ frames := 1, cells := 0, slots := 0, locals := 22 } : Room) (va_Pc [.ref h0, .ref hd] (fun U => U.heap.size = sz ∧ va_P (dC, dI) vwCl [(h0, .inr (7, [.int e1, .int e2, .int e3, .long e4])), (hd, .inr (0, [.int (nI w), .int (nI b), .int wr, .ref qc, .ref qi, .int wa, .int wc])), (qi, .inl (cI, w, .inl g))] U.heap ∧ va_K (dC, dI) vwCl [(cI, .int)] U ∧ va_D (fun _ => True) [(h0, .inr (7, [.int e1, .int e2, .int e3, .long e4])), (hd, .inr (0, [.int (nI w), .int (nI b), .int wr, .ref qc, .ref qi, .int wa, .int wc])), (qi, .inl (cI, w, .inl g))])) (va_Qv (fun (g2 : Nat → Int32) => True) (fun (g2 : Nat → Int32) (t : State) => va_P (dC, dI) vwCl [(h0, .inr (7, [.int e1, .int e2, .int e3, .long e4])), (hd, .inr (0, [.int (nI w), .int (nI b), .int wr, .ref qc, .ref qi, .int wa, .int wc])), (qi, .inl (cI, w, .inl g2))] t.heap ∧ va_K (dC, dI) vwCl [(cI, .int)] t ∧ va_D (va_A [(h0, .inr (7, [.int e1, .int e2, .int e3, .long e4])), (hd, .inr (0, [.int (nI w), .int (nI b), .int wr, .ref qc, .ref qi, .int wa, .int wc])), (qi, .inl (cI, w, .inl g))] sz) [(h0, .inr (7, [.int e1, .int e2, .int e3, .long e4])), (hd, .inr (0, [.int (nI w), .int (nI b), .int wr, .ref qc, .ref qi, .int wa, .int wc])), (qi, .inl (cI, w, .inl g2))]) (va_A [(h0, .inr (7, [.int e1, .int e2, .int e3, .long e4])), (hd, .inr (0, [.int (nI w), .int (nI b), .int wr, .ref qc, .ref qi, .int wa, .int wc])), (qi, .inl (cI, w, .inl g))] sz)) 0 0 (va_A [(h0, .inr (7, [.int e1, .int e2, .int e3, .long e4])), (hd, .inr (0, [.int (nI w), .int (nI b), .int wr, .ref qc, .ref qi, .int wa, .int wc])), (qi, .inl (cI, w, .inl g))] sz) := by
  refine Met.ofW (cc := cX7_layOut) (maxL := 2) (ret := none) (by decide) rfl ?_
  intro p e s m args below meth c s₁ B hml hv
  obtain ⟨rfl, hsz, hP, hK, hD0⟩ := hv
  have hx := B.exec
  have hb := B.bytes
  have hr := B.returns
  have hts := atoms_spec (ws := v_X7_layOut) B.pre
  have hown : s.vm.findClass RX7 = some m.cls := findClass_of_methodNamed B.named
  have hlocks := B.notSynchronized
  subst hsz
  have hD := hD0.self (sz := s.heap.size)
  generalize hAe : va_A [(h0, .inr (7, [.int e1, .int e2, .int e3, .long e4])), (hd, .inr (0, [.int (nI w), .int (nI b), .int wr, .ref qc, .ref qi, .int wa, .int wc])), (qi, .inl (cI, w, .inl g))] s.heap.size = A at hD ⊢
  have hA : ∀ q : Nat, s.heap.size ≤ q → A q := fun q h => by rw [← hAe]; exact Or.inr h
  have hS : va_S A s.heap s.heap [] := va_S.rf
  have hP : va_P (dC, dI) vwCl [(h0, .inr (7, [.int e1, .int e2, .int e3, .long e4])), (hd, .inr (0, [.int (nI w), .int (nI b), .int wr, .ref qc, .ref qi, .int wa, .int wc])), (qi, .inl (cI, w, .inl g))] s.heap := hP
  have hl := lv_entry ([.ref h0, .ref hd]) (n := 2) (Nat.le_of_ble_eq_true rfl)
  rw [lg_entry_eq]
  generalize (lg_sl ([.ref h0, .ref hd]) ++ List.replicate (2 - (lg_sl ([.ref h0, .ref hd])).length) Slot.unset).toArray = ls at hl ⊢
  have hl : lv_has ls 2 [(0, .ref h0), (1, .ref hd)] := hl
  have k_1 := hts (.constant RX7 34 (1414677326)) (List.mem_of_getElem? (i := 7) rfl)
  have k_2 := (fun _ h => List.mem_cons_of_mem _ (List.mem_append_right _ (List.mem_append_right _ (List.mem_append_left _ h))) : ∀ w ∈ wsX70, w ∈ v_X7_layOut)
  have k_3 := hts (.fieldLink RX7 9 "TwinRoots$Told" "epoch" "I") (List.mem_of_getElem? (i := 12) rfl)
  have k_4 := hts (.fieldLink RX7 15 "TwinRoots$Told" "top" "I") (List.mem_of_getElem? (i := 13) rfl)
  have k_5 := hts (.fieldLink RX7 18 "TwinRoots$Told" "keys" "I") (List.mem_of_getElem? (i := 14) rfl)
  refine lv_aload_n hx hb dX7_layOut_0 rfl (lv_at hl 1 rfl) ?_
  have hPc := hP.sub (ws' := [(hd, .inr (0, [.int (nI w), .int (nI b), .int wr, .ref qc, .ref qi, .int wa, .int wc])), (qi, .inl (cI, w, .inl g))]) [1, 2] rfl
  have hDc := hD.sub (ws' := [(hd, .inr (0, [.int (nI w), .int (nI b), .int wr, .ref qc, .ref qi, .int wa, .int wc])), (qi, .inl (cI, w, .inl g))]) [1, 2] (by decide) rfl
  have hKc := hK.sub (tys' := [(cI, .int)]) [0] rfl
  have hFc := va_free (wc := [(hd, .inr (0, [.int (nI w), .int (nI b), .int wr, .ref qc, .ref qi, .int wa, .int wc])), (qi, .inl (cI, w, .inl g))]) hD hS hA [1, 2] rfl
  refine va_callv (va_runV (As := []) (rest := []) ⟨hx, hb, hml, hown, hts⟩ (c_X0_startImage l dC dI s.heap.size hd w b qc qi wr wa wc cI g (by first | assumption | omega | decide)) (cwV 0 hts g_X7_layOut_X0_startImage rfl rfl rfl (by decide +kernel) ⟨Nat.le_of_ble_eq_true rfl, Nat.le_of_ble_eq_true rfl⟩) ⟨fun a U g mk q => by obtain ⟨q0, q1, qP, qK, qD⟩ := q; exact ⟨q0, q1, qP, va_K.moved (u := U) (U := U.calling g mk a) (Vm.Alike.refl U.vm) qK, qD⟩, va_recv hKc hPc (ci := 0) (q0 := 0) rfl rfl, fun U hU hW => ⟨rfl, by rw [hU], by rw [hU]; exact hPc, va_K.moved hW.alike hKc, hDc.weaken (fun _ _ _ _ => trivial)⟩⟩ rfl rfl hl.1 rfl (lv_room (Nat.le_of_ble_eq_true rfl)) dX7_layOut_1 ⟨(show 0 + 0 ≤ 0 by omega), (show 0 + 0 ≤ 0 by omega)⟩) hS (fun q _ h => hFc q h) hFc (fun u t H1 locs ht hvm hw hB hz1 hk1 hS => ?_)
  obtain ⟨f2_2, rfl⟩ : ∃ z, z = u := ⟨_, rfl⟩
  obtain ⟨hP1, hK1, hD1⟩ := hB
  rw [ht] at hP1
  have hK1 := va_K.moved hvm.symm hK1
  try dsimp only at hw
  obtain ⟨hP, hD⟩ := va_join (wr := [(h0, .inr (7, [.int e1, .int e2, .int e3, .long e4]))]) (w1 := [(hd, .inr (0, [.int (nI w), .int (nI b), .int wr, .ref qc, .ref qi, .int wa, .int wc])), (qi, .inl (cI, w, .inl f2_2))]) hP hD [1, 2] [0] rfl rfl (by decide) (by decide) hk1 hFc hP1 hD1
  have hK := (hK.sub (tys' := []) [] rfl).app hK1
  generalize H1 = H at hP hS ⊢
  have hP : va_P (dC, dI) vwCl [(h0, .inr (7, [.int e1, .int e2, .int e3, .long e4])), (hd, .inr (0, [.int (nI w), .int (nI b), .int wr, .ref qc, .ref qi, .int wa, .int wc])), (qi, .inl (cI, w, .inl f2_2))] H := hP
  have hD : va_D A [(h0, .inr (7, [.int e1, .int e2, .int e3, .long e4])), (hd, .inr (0, [.int (nI w), .int (nI b), .int wr, .ref qc, .ref qi, .int wa, .int wc])), (qi, .inl (cI, w, .inl f2_2))] := hD
  have hK : va_K (dC, dI) vwCl [(cI, .int)] s := hK
  refine lv_aload_n hx hb dX7_layOut_4 rfl (lv_at hl 1 rfl) ?_
  refine lv_iconst (v := 0) hx hb dX7_layOut_5 (by decide) ?_
  refine lv_ldc (v := (1414677326)) hx hb hown k_1 dX7_layOut_6 ?_
  have hPc := hP.sub (ws' := [(hd, .inr (0, [.int (nI w), .int (nI b), .int wr, .ref qc, .ref qi, .int wa, .int wc])), (qi, .inl (cI, w, .inl f2_2))]) [1, 2] rfl
  have hDc := hD.sub (ws' := [(hd, .inr (0, [.int (nI w), .int (nI b), .int wr, .ref qc, .ref qi, .int wa, .int wc])), (qi, .inl (cI, w, .inl f2_2))]) [1, 2] (by decide) rfl
  have hKc := hK.sub (tys' := [(cI, .int)]) [0] rfl
  have hFc := va_free (wc := [(hd, .inr (0, [.int (nI w), .int (nI b), .int wr, .ref qc, .ref qi, .int wa, .int wc])), (qi, .inl (cI, w, .inl f2_2))]) hD hS hA [1, 2] rfl
  refine va_callv (va_runV (As := [.int 0, .int 1414677326]) (rest := []) ⟨hx, hb, hml, hown, hts⟩ (c_X0_lay l dC dI H.size hd w b qc qi wr wa wc 0 1414677326 cI f2_2 (by first | assumption | omega | decide)) (cwV 2 hts g_X7_layOut_X0_lay rfl rfl rfl (by decide +kernel) ⟨Nat.le_of_ble_eq_true rfl, Nat.le_of_ble_eq_true rfl⟩) ⟨fun a U g mk q => by obtain ⟨q0, q1, qP, qK, qD⟩ := q; exact ⟨q0, q1, qP, va_K.moved (u := U) (U := U.calling g mk a) (Vm.Alike.refl U.vm) qK, qD⟩, va_recv hKc hPc (ci := 0) (q0 := 0) rfl rfl, fun U hU hW => ⟨rfl, by rw [hU], by rw [hU]; exact hPc, va_K.moved hW.alike hKc, hDc.weaken (fun _ _ _ _ => trivial)⟩⟩ rfl rfl hl.1 rfl (lv_room (Nat.le_of_ble_eq_true rfl)) dX7_layOut_8 ⟨(show 0 + 0 ≤ 0 by omega), (show 0 + 0 ≤ 0 by omega)⟩) hS (fun q _ h => hFc q h) hFc (fun u t H1 locs ht hvm hw hB hz1 hk1 hS => ?_)
  obtain ⟨f2_4, rfl⟩ : ∃ z, z = u := ⟨_, rfl⟩
  obtain ⟨hP1, hK1, hD1⟩ := hB
  rw [ht] at hP1
  have hK1 := va_K.moved hvm.symm hK1
  try dsimp only at hw
  obtain ⟨hP, hD⟩ := va_join (wr := [(h0, .inr (7, [.int e1, .int e2, .int e3, .long e4]))]) (w1 := [(hd, .inr (0, [.int (nI w), .int (nI b), .int wr, .ref qc, .ref qi, .int wa, .int wc])), (qi, .inl (cI, w, .inl f2_4))]) hP hD [1, 2] [0] rfl rfl (by decide) (by decide) hk1 hFc hP1 hD1
  have hK := (hK.sub (tys' := []) [] rfl).app hK1
  generalize H1 = H at hP hS ⊢
  have hP : va_P (dC, dI) vwCl [(h0, .inr (7, [.int e1, .int e2, .int e3, .long e4])), (hd, .inr (0, [.int (nI w), .int (nI b), .int wr, .ref qc, .ref qi, .int wa, .int wc])), (qi, .inl (cI, w, .inl f2_4))] H := hP
  have hD : va_D A [(h0, .inr (7, [.int e1, .int e2, .int e3, .long e4])), (hd, .inr (0, [.int (nI w), .int (nI b), .int wr, .ref qc, .ref qi, .int wa, .int wc])), (qi, .inl (cI, w, .inl f2_4))] := hD
  have hK : va_K (dC, dI) vwCl [(cI, .int)] s := hK
  refine lv_aload_n hx hb dX7_layOut_11 rfl (lv_at hl 1 rfl) ?_
  refine lv_iconst (v := 1) hx hb dX7_layOut_12 (by decide) ?_
  refine lv_aload_n hx hb dX7_layOut_13 rfl (lv_at hl 0 rfl) ?_
  refine va_get (D := (dC, dI)) (ci := 7) (v := .int e1) (C := RX7) (T := TX7) (N := 4) hx hb hts k_2 hown hK hP 0 rfl rfl 0 (by decide) k_3 (fun _ h9 => h9) rfl dX7_layOut_14 ?_
  have hPc := hP.sub (ws' := [(hd, .inr (0, [.int (nI w), .int (nI b), .int wr, .ref qc, .ref qi, .int wa, .int wc])), (qi, .inl (cI, w, .inl f2_4))]) [1, 2] rfl
  have hDc := hD.sub (ws' := [(hd, .inr (0, [.int (nI w), .int (nI b), .int wr, .ref qc, .ref qi, .int wa, .int wc])), (qi, .inl (cI, w, .inl f2_4))]) [1, 2] (by decide) rfl
  have hKc := hK.sub (tys' := [(cI, .int)]) [0] rfl
  have hFc := va_free (wc := [(hd, .inr (0, [.int (nI w), .int (nI b), .int wr, .ref qc, .ref qi, .int wa, .int wc])), (qi, .inl (cI, w, .inl f2_4))]) hD hS hA [1, 2] rfl
  refine va_callv (va_runV (As := [.int 1, .int e1]) (rest := []) ⟨hx, hb, hml, hown, hts⟩ (c_X0_lay l dC dI H.size hd w b qc qi wr wa wc 1 e1 cI f2_4 (by first | assumption | omega | decide)) (cwV 2 hts g_X7_layOut_X0_lay rfl rfl rfl (by decide +kernel) ⟨Nat.le_of_ble_eq_true rfl, Nat.le_of_ble_eq_true rfl⟩) ⟨fun a U g mk q => by obtain ⟨q0, q1, qP, qK, qD⟩ := q; exact ⟨q0, q1, qP, va_K.moved (u := U) (U := U.calling g mk a) (Vm.Alike.refl U.vm) qK, qD⟩, va_recv hKc hPc (ci := 0) (q0 := 0) rfl rfl, fun U hU hW => ⟨rfl, by rw [hU], by rw [hU]; exact hPc, va_K.moved hW.alike hKc, hDc.weaken (fun _ _ _ _ => trivial)⟩⟩ rfl rfl hl.1 rfl (lv_room (Nat.le_of_ble_eq_true rfl)) dX7_layOut_17 ⟨(show 0 + 0 ≤ 0 by omega), (show 0 + 0 ≤ 0 by omega)⟩) hS (fun q _ h => hFc q h) hFc (fun u t H1 locs ht hvm hw hB hz1 hk1 hS => ?_)
  obtain ⟨f2_6, rfl⟩ : ∃ z, z = u := ⟨_, rfl⟩
  obtain ⟨hP1, hK1, hD1⟩ := hB
  rw [ht] at hP1
  have hK1 := va_K.moved hvm.symm hK1
  try dsimp only at hw
  obtain ⟨hP, hD⟩ := va_join (wr := [(h0, .inr (7, [.int e1, .int e2, .int e3, .long e4]))]) (w1 := [(hd, .inr (0, [.int (nI w), .int (nI b), .int wr, .ref qc, .ref qi, .int wa, .int wc])), (qi, .inl (cI, w, .inl f2_6))]) hP hD [1, 2] [0] rfl rfl (by decide) (by decide) hk1 hFc hP1 hD1
  have hK := (hK.sub (tys' := []) [] rfl).app hK1
  generalize H1 = H at hP hS ⊢
  have hP : va_P (dC, dI) vwCl [(h0, .inr (7, [.int e1, .int e2, .int e3, .long e4])), (hd, .inr (0, [.int (nI w), .int (nI b), .int wr, .ref qc, .ref qi, .int wa, .int wc])), (qi, .inl (cI, w, .inl f2_6))] H := hP
  have hD : va_D A [(h0, .inr (7, [.int e1, .int e2, .int e3, .long e4])), (hd, .inr (0, [.int (nI w), .int (nI b), .int wr, .ref qc, .ref qi, .int wa, .int wc])), (qi, .inl (cI, w, .inl f2_6))] := hD
  have hK : va_K (dC, dI) vwCl [(cI, .int)] s := hK
  refine lv_aload_n hx hb dX7_layOut_20 rfl (lv_at hl 1 rfl) ?_
  refine lv_iconst (v := 2) hx hb dX7_layOut_21 (by decide) ?_
  refine lv_aload_n hx hb dX7_layOut_22 rfl (lv_at hl 0 rfl) ?_
  refine va_get (D := (dC, dI)) (ci := 7) (v := .int e2) (C := RX7) (T := TX7) (N := 4) hx hb hts k_2 hown hK hP 0 rfl rfl 1 (by decide) k_4 (fun _ h9 => h9) rfl dX7_layOut_23 ?_
  have hPc := hP.sub (ws' := [(hd, .inr (0, [.int (nI w), .int (nI b), .int wr, .ref qc, .ref qi, .int wa, .int wc])), (qi, .inl (cI, w, .inl f2_6))]) [1, 2] rfl
  have hDc := hD.sub (ws' := [(hd, .inr (0, [.int (nI w), .int (nI b), .int wr, .ref qc, .ref qi, .int wa, .int wc])), (qi, .inl (cI, w, .inl f2_6))]) [1, 2] (by decide) rfl
  have hKc := hK.sub (tys' := [(cI, .int)]) [0] rfl
  have hFc := va_free (wc := [(hd, .inr (0, [.int (nI w), .int (nI b), .int wr, .ref qc, .ref qi, .int wa, .int wc])), (qi, .inl (cI, w, .inl f2_6))]) hD hS hA [1, 2] rfl
  refine va_callv (va_runV (As := [.int 2, .int e2]) (rest := []) ⟨hx, hb, hml, hown, hts⟩ (c_X0_lay l dC dI H.size hd w b qc qi wr wa wc 2 e2 cI f2_6 (by first | assumption | omega | decide)) (cwV 2 hts g_X7_layOut_X0_lay rfl rfl rfl (by decide +kernel) ⟨Nat.le_of_ble_eq_true rfl, Nat.le_of_ble_eq_true rfl⟩) ⟨fun a U g mk q => by obtain ⟨q0, q1, qP, qK, qD⟩ := q; exact ⟨q0, q1, qP, va_K.moved (u := U) (U := U.calling g mk a) (Vm.Alike.refl U.vm) qK, qD⟩, va_recv hKc hPc (ci := 0) (q0 := 0) rfl rfl, fun U hU hW => ⟨rfl, by rw [hU], by rw [hU]; exact hPc, va_K.moved hW.alike hKc, hDc.weaken (fun _ _ _ _ => trivial)⟩⟩ rfl rfl hl.1 rfl (lv_room (Nat.le_of_ble_eq_true rfl)) dX7_layOut_26 ⟨(show 0 + 0 ≤ 0 by omega), (show 0 + 0 ≤ 0 by omega)⟩) hS (fun q _ h => hFc q h) hFc (fun u t H1 locs ht hvm hw hB hz1 hk1 hS => ?_)
  obtain ⟨f2_8, rfl⟩ : ∃ z, z = u := ⟨_, rfl⟩
  obtain ⟨hP1, hK1, hD1⟩ := hB
  rw [ht] at hP1
  have hK1 := va_K.moved hvm.symm hK1
  try dsimp only at hw
  obtain ⟨hP, hD⟩ := va_join (wr := [(h0, .inr (7, [.int e1, .int e2, .int e3, .long e4]))]) (w1 := [(hd, .inr (0, [.int (nI w), .int (nI b), .int wr, .ref qc, .ref qi, .int wa, .int wc])), (qi, .inl (cI, w, .inl f2_8))]) hP hD [1, 2] [0] rfl rfl (by decide) (by decide) hk1 hFc hP1 hD1
  have hK := (hK.sub (tys' := []) [] rfl).app hK1
  generalize H1 = H at hP hS ⊢
  have hP : va_P (dC, dI) vwCl [(h0, .inr (7, [.int e1, .int e2, .int e3, .long e4])), (hd, .inr (0, [.int (nI w), .int (nI b), .int wr, .ref qc, .ref qi, .int wa, .int wc])), (qi, .inl (cI, w, .inl f2_8))] H := hP
  have hD : va_D A [(h0, .inr (7, [.int e1, .int e2, .int e3, .long e4])), (hd, .inr (0, [.int (nI w), .int (nI b), .int wr, .ref qc, .ref qi, .int wa, .int wc])), (qi, .inl (cI, w, .inl f2_8))] := hD
  have hK : va_K (dC, dI) vwCl [(cI, .int)] s := hK
  refine lv_aload_n hx hb dX7_layOut_29 rfl (lv_at hl 1 rfl) ?_
  refine lv_iconst (v := 3) hx hb dX7_layOut_30 (by decide) ?_
  refine lv_aload_n hx hb dX7_layOut_31 rfl (lv_at hl 0 rfl) ?_
  refine va_get (D := (dC, dI)) (ci := 7) (v := .int e3) (C := RX7) (T := TX7) (N := 4) hx hb hts k_2 hown hK hP 0 rfl rfl 2 (by decide) k_5 (fun _ h9 => h9) rfl dX7_layOut_32 ?_
  have hPc := hP.sub (ws' := [(hd, .inr (0, [.int (nI w), .int (nI b), .int wr, .ref qc, .ref qi, .int wa, .int wc])), (qi, .inl (cI, w, .inl f2_8))]) [1, 2] rfl
  have hDc := hD.sub (ws' := [(hd, .inr (0, [.int (nI w), .int (nI b), .int wr, .ref qc, .ref qi, .int wa, .int wc])), (qi, .inl (cI, w, .inl f2_8))]) [1, 2] (by decide) rfl
  have hKc := hK.sub (tys' := [(cI, .int)]) [0] rfl
  have hFc := va_free (wc := [(hd, .inr (0, [.int (nI w), .int (nI b), .int wr, .ref qc, .ref qi, .int wa, .int wc])), (qi, .inl (cI, w, .inl f2_8))]) hD hS hA [1, 2] rfl
  refine va_callv (va_runV (As := [.int 3, .int e3]) (rest := []) ⟨hx, hb, hml, hown, hts⟩ (c_X0_lay l dC dI H.size hd w b qc qi wr wa wc 3 e3 cI f2_8 (by first | assumption | omega | decide)) (cwV 2 hts g_X7_layOut_X0_lay rfl rfl rfl (by decide +kernel) ⟨Nat.le_of_ble_eq_true rfl, Nat.le_of_ble_eq_true rfl⟩) ⟨fun a U g mk q => by obtain ⟨q0, q1, qP, qK, qD⟩ := q; exact ⟨q0, q1, qP, va_K.moved (u := U) (U := U.calling g mk a) (Vm.Alike.refl U.vm) qK, qD⟩, va_recv hKc hPc (ci := 0) (q0 := 0) rfl rfl, fun U hU hW => ⟨rfl, by rw [hU], by rw [hU]; exact hPc, va_K.moved hW.alike hKc, hDc.weaken (fun _ _ _ _ => trivial)⟩⟩ rfl rfl hl.1 rfl (lv_room (Nat.le_of_ble_eq_true rfl)) dX7_layOut_35 ⟨(show 0 + 0 ≤ 0 by omega), (show 0 + 0 ≤ 0 by omega)⟩) hS (fun q _ h => hFc q h) hFc (fun u t H1 locs ht hvm hw hB hz1 hk1 hS => ?_)
  obtain ⟨f2_10, rfl⟩ : ∃ z, z = u := ⟨_, rfl⟩
  obtain ⟨hP1, hK1, hD1⟩ := hB
  rw [ht] at hP1
  have hK1 := va_K.moved hvm.symm hK1
  try dsimp only at hw
  obtain ⟨hP, hD⟩ := va_join (wr := [(h0, .inr (7, [.int e1, .int e2, .int e3, .long e4]))]) (w1 := [(hd, .inr (0, [.int (nI w), .int (nI b), .int wr, .ref qc, .ref qi, .int wa, .int wc])), (qi, .inl (cI, w, .inl f2_10))]) hP hD [1, 2] [0] rfl rfl (by decide) (by decide) hk1 hFc hP1 hD1
  have hK := (hK.sub (tys' := []) [] rfl).app hK1
  generalize H1 = H at hP hS ⊢
  have hP : va_P (dC, dI) vwCl [(h0, .inr (7, [.int e1, .int e2, .int e3, .long e4])), (hd, .inr (0, [.int (nI w), .int (nI b), .int wr, .ref qc, .ref qi, .int wa, .int wc])), (qi, .inl (cI, w, .inl f2_10))] H := hP
  have hD : va_D A [(h0, .inr (7, [.int e1, .int e2, .int e3, .long e4])), (hd, .inr (0, [.int (nI w), .int (nI b), .int wr, .ref qc, .ref qi, .int wa, .int wc])), (qi, .inl (cI, w, .inl f2_10))] := hD
  have hK : va_K (dC, dI) vwCl [(cI, .int)] s := hK
  have hP9 := hP.sub (ws' := [(h0, .inr (7, [.int e1, .int e2, .int e3, .long e4])), (hd, .inr (0, [.int (nI w), .int (nI b), .int wr, .ref qc, .ref qi, .int wa, .int wc])), (qi, .inl (cI, w, .inl f2_10))]) [0, 1, 2] rfl
  have hD9 := hD.sub (ws' := [(h0, .inr (7, [.int e1, .int e2, .int e3, .long e4])), (hd, .inr (0, [.int (nI w), .int (nI b), .int wr, .ref qc, .ref qi, .int wa, .int wc])), (qi, .inl (cI, w, .inl f2_10))]) [0, 1, 2] (by decide) rfl
  have hK9 := hK.sub (tys' := [(cI, .int)]) [0] rfl
  exact W.vret hx hb hr (fun t ht hW => ⟨⟨(f2_10), rfl, trivial, by rw [ht]; exact hP9, va_K.moved hW.alike hK9, hD9⟩, hS.F ht⟩) hS.2.2 dX7_layOut_38
def v_X6_findsRight : List Cond := .code yX6_findsRight cX6_findsRight 3 (some .boolean) :: ([.fieldLink RX6 40 "TwinRoots$Survey" "lineEnd" "I", .fieldLink RX6 43 "TwinRoots$Survey" "reached" "J", .fieldLink RX6 47 "TwinRoots$Survey" "keysFound" "I", .constantLong RX6 50 (-2147483649), .fieldLink RX6 52 "TwinRoots$Survey" "lastKey" "J", .fieldLink RX6 9 "TwinRoots$Survey" "disk" "LTwinRoots$Disk;", .code yX0_read cX0_read 4 (some .int), .code yX0_cellOf cX0_cellOf 4 (some .int), .fieldLink RX0 13 "TwinRoots$Disk" "blocks" "I", .fieldLink RX0 7 "TwinRoots$Disk" "words" "I", .methodLink RX0 38 yX0_cellOf, .instanceMethod yX0_cellOf, .selects RX0 yX0_cellOf yX0_cellOf, .initialized RX0, .fieldLink RX0 16 "TwinRoots$Disk" "cells" "[I", .methodLink RX6 55 yX0_read, .instanceMethod yX0_read, .selects RX0 yX0_read yX0_read, .code yX7_tell cX7_tell 6 none, .fieldLink RX7 9 "TwinRoots$Told" "epoch" "I", .fieldLink RX7 15 "TwinRoots$Told" "top" "I", .fieldLink RX7 18 "TwinRoots$Told" "keys" "I", .fieldLink RX7 21 "TwinRoots$Told" "reach" "J", .methodLink RX6 59 yX7_tell, .instanceMethod yX7_tell, .selects RX7 yX7_tell yX7_tell, .initialized RX7, .constant RX6 65 (1414677326)] ++ (wsX60 ++ (wsX00 ++ (wsX70 ++ ([])))))
set_option maxRecDepth 20000 in
theorem g_X6_findsRight_X0_read : GoodIn v_X6_findsRight (wsV RX6 55 RX0 yX0_read v_X0_read) := goodIn_r _ [16, 17, 18, 14, 7, 8, 9, 10, 11, 12, 13, 14, 15, 39, 40, 41, 42, 43, 44, 45] (by decide +kernel) (by decide +kernel)
set_option maxRecDepth 20000 in
theorem g_X6_findsRight_X7_tell : GoodIn v_X6_findsRight (wsV RX6 59 RX7 yX7_tell v_X7_tell) := goodIn_r _ [24, 25, 26, 27, 19, 20, 21, 22, 23, 46, 47, 48, 49] (by decide +kernel) (by decide +kernel)
set_option maxHeartbeats 4000000 in
set_option maxRecDepth 100000 in
/-- findsRight on a disk of 0: no -/
theorem c_X6_findsRight (l : Launch) (dC : Nat → ClassId) (dI : Nat → Nat → Nat) (sz : Nat) (h0 : Nat) (hd : Nat) (hf : Nat) (hm : Nat) (l1 : Nat) (l2 : Nat) (l3 : Nat) (qt : Nat) (w : Nat) (b : Nat) (qc : Nat) (qi : Nat) (wr : Int32) (wa : Int32) (wc : Int32) (p0 : Int32) (s1 : Int32) (s3 : Int32) (s2 : Int64) (s4 : Int64) (e1 : Int32) (e2 : Int32) (e3 : Int32) (e4 : Int64) (cC : ClassId) (zw0 : 12 ≤ w) (zw : w ≤ 40) (zb0 : 4 ≤ b) (zb : b ≤ 64) (zwb : w * b ≤ 2560) : Met l yX6_findsRight v_X6_findsRight ({ frames := 2, cells := 0, slots := 0, locals := 46 } : Room) (va_Pc [.ref h0, .int p0, .ref qt] (fun U => U.heap.size = sz ∧ va_P (dC, dI) vwCl [(h0, .inr (6, [.ref hd, .ref hf, .ref hm, .ref l1, .ref l2, .ref l3, .int s1, .long s2, .int s3, .long s4])), (hd, .inr (0, [.int (nI w), .int (nI b), .int wr, .ref qc, .ref qi, .int wa, .int wc])), (qc, .inl (cC, w * b, .inl (fun _ => 0))), (qt, .inr (7, [.int e1, .int e2, .int e3, .long e4]))] U.heap ∧ va_K (dC, dI) vwCl [(cC, .int)] U ∧ va_D (fun _ => True) [(h0, .inr (6, [.ref hd, .ref hf, .ref hm, .ref l1, .ref l2, .ref l3, .int s1, .long s2, .int s3, .long s4])), (hd, .inr (0, [.int (nI w), .int (nI b), .int wr, .ref qc, .ref qi, .int wa, .int wc])), (qc, .inl (cC, w * b, .inl (fun _ => 0))), (qt, .inr (7, [.int e1, .int e2, .int e3, .long e4]))])) (va_Qi (fun (r : Int32) (u : Int32 × Int32 × Int64 × Int64 × Int32 × Int32 × Int32 × Int64) => match u with | (t1, t3, t2, t4, g1, g2, g3, g4) => r = 0) (fun (u : Int32 × Int32 × Int64 × Int64 × Int32 × Int32 × Int32 × Int64) (t : State) => match u with | (t1, t3, t2, t4, g1, g2, g3, g4) => va_P (dC, dI) vwCl [(h0, .inr (6, [.ref hd, .ref hf, .ref hm, .ref l1, .ref l2, .ref l3, .int t1, .long t2, .int t3, .long t4])), (hd, .inr (0, [.int (nI w), .int (nI b), .int wr, .ref qc, .ref qi, .int wa, .int wc])), (qc, .inl (cC, w * b, .inl (fun _ => 0))), (qt, .inr (7, [.int g1, .int g2, .int g3, .long g4]))] t.heap ∧ va_K (dC, dI) vwCl [(cC, .int)] t ∧ va_D (va_A [(h0, .inr (6, [.ref hd, .ref hf, .ref hm, .ref l1, .ref l2, .ref l3, .int s1, .long s2, .int s3, .long s4])), (hd, .inr (0, [.int (nI w), .int (nI b), .int wr, .ref qc, .ref qi, .int wa, .int wc])), (qc, .inl (cC, w * b, .inl (fun _ => 0))), (qt, .inr (7, [.int e1, .int e2, .int e3, .long e4]))] sz) [(h0, .inr (6, [.ref hd, .ref hf, .ref hm, .ref l1, .ref l2, .ref l3, .int t1, .long t2, .int t3, .long t4])), (hd, .inr (0, [.int (nI w), .int (nI b), .int wr, .ref qc, .ref qi, .int wa, .int wc])), (qc, .inl (cC, w * b, .inl (fun _ => 0))), (qt, .inr (7, [.int g1, .int g2, .int g3, .long g4]))]) (va_A [(h0, .inr (6, [.ref hd, .ref hf, .ref hm, .ref l1, .ref l2, .ref l3, .int s1, .long s2, .int s3, .long s4])), (hd, .inr (0, [.int (nI w), .int (nI b), .int wr, .ref qc, .ref qi, .int wa, .int wc])), (qc, .inl (cC, w * b, .inl (fun _ => 0))), (qt, .inr (7, [.int e1, .int e2, .int e3, .long e4]))] sz)) 0 0 (va_A [(h0, .inr (6, [.ref hd, .ref hf, .ref hm, .ref l1, .ref l2, .ref l3, .int s1, .long s2, .int s3, .long s4])), (hd, .inr (0, [.int (nI w), .int (nI b), .int wr, .ref qc, .ref qi, .int wa, .int wc])), (qc, .inl (cC, w * b, .inl (fun _ => 0))), (qt, .inr (7, [.int e1, .int e2, .int e3, .long e4]))] sz) := by
  refine Met.ofW (cc := cX6_findsRight) (maxL := 3) (ret := (some .boolean)) (by decide) rfl ?_
  intro p e s m args below meth c s₁ B hml hv
  obtain ⟨rfl, hsz, hP, hK, hD0⟩ := hv
  have hx := B.exec
  have hb := B.bytes
  have hr := B.returns
  have hts := atoms_spec (ws := v_X6_findsRight) B.pre
  have hown : s.vm.findClass RX6 = some m.cls := findClass_of_methodNamed B.named
  have hlocks := B.notSynchronized
  subst hsz
  have hD := hD0.self (sz := s.heap.size)
  generalize hAe : va_A [(h0, .inr (6, [.ref hd, .ref hf, .ref hm, .ref l1, .ref l2, .ref l3, .int s1, .long s2, .int s3, .long s4])), (hd, .inr (0, [.int (nI w), .int (nI b), .int wr, .ref qc, .ref qi, .int wa, .int wc])), (qc, .inl (cC, w * b, .inl (fun _ => 0))), (qt, .inr (7, [.int e1, .int e2, .int e3, .long e4]))] s.heap.size = A at hD ⊢
  have hA : ∀ q : Nat, s.heap.size ≤ q → A q := fun q h => by rw [← hAe]; exact Or.inr h
  have hS : va_S A s.heap s.heap [] := va_S.rf
  have hP : va_P (dC, dI) vwCl [(h0, .inr (6, [.ref hd, .ref hf, .ref hm, .ref l1, .ref l2, .ref l3, .int s1, .long s2, .int s3, .long s4])), (hd, .inr (0, [.int (nI w), .int (nI b), .int wr, .ref qc, .ref qi, .int wa, .int wc])), (qc, .inl (cC, w * b, .inl (fun _ => 0))), (qt, .inr (7, [.int e1, .int e2, .int e3, .long e4]))] s.heap := hP
  have hl := lv_entry ([.ref h0, .int p0, .ref qt]) (n := 3) (Nat.le_of_ble_eq_true rfl)
  rw [lg_entry_eq]
  generalize (lg_sl ([.ref h0, .int p0, .ref qt]) ++ List.replicate (3 - (lg_sl ([.ref h0, .int p0, .ref qt])).length) Slot.unset).toArray = ls at hl ⊢
  have hl : lv_has ls 3 [(0, .ref h0), (1, .int p0), (2, .ref qt)] := hl
  have k_1 := (fun _ h => List.mem_cons_of_mem _ (List.mem_append_right _ (List.mem_append_left _ h)) : ∀ w ∈ wsX60, w ∈ v_X6_findsRight)
  have k_2 := hts (.fieldLink RX6 40 "TwinRoots$Survey" "lineEnd" "I") (List.mem_of_getElem? (i := 1) rfl)
  have k_3 := hts (.fieldLink RX6 43 "TwinRoots$Survey" "reached" "J") (List.mem_of_getElem? (i := 2) rfl)
  have k_4 := hts (.fieldLink RX6 47 "TwinRoots$Survey" "keysFound" "I") (List.mem_of_getElem? (i := 3) rfl)
  have k_5 := hts (.constantLong RX6 50 (-2147483649)) (List.mem_of_getElem? (i := 4) rfl)
  have k_6 := hts (.fieldLink RX6 52 "TwinRoots$Survey" "lastKey" "J") (List.mem_of_getElem? (i := 5) rfl)
  have k_7 := hts (.fieldLink RX6 9 "TwinRoots$Survey" "disk" "LTwinRoots$Disk;") (List.mem_of_getElem? (i := 6) rfl)
  have k_8 := hts (.constant RX6 65 (1414677326)) (List.mem_of_getElem? (i := 28) rfl)
  refine lv_aload_n hx hb dX6_findsRight_0 rfl (lv_at hl 0 rfl) ?_
  refine lv_iconst (v := 0) hx hb dX6_findsRight_1 (by decide) ?_
  refine va_put (D := (dC, dI)) (ci := 6) (v := .int 0) (ty := .int) (C := RX6) (T := TX6) (N := 10) hx hb hts k_1 tyX6 tyX6_ok nmX6 hown hK hP hD hS 0 rfl rfl 6 (by decide) k_2 (fun _ h9 => h9) rfl (by decide +kernel) rfl rfl (Nat.le_of_ble_eq_true rfl) dX6_findsRight_2 (fun H locs hP hD hS => ?_)
  have hP : va_P (dC, dI) vwCl [(h0, .inr (6, [.ref hd, .ref hf, .ref hm, .ref l1, .ref l2, .ref l3, .int 0, .long s2, .int s3, .long s4])), (hd, .inr (0, [.int (nI w), .int (nI b), .int wr, .ref qc, .ref qi, .int wa, .int wc])), (qc, .inl (cC, w * b, .inl (fun _ => 0))), (qt, .inr (7, [.int e1, .int e2, .int e3, .long e4]))] H := hP
  have hD : va_D A [(h0, .inr (6, [.ref hd, .ref hf, .ref hm, .ref l1, .ref l2, .ref l3, .int 0, .long s2, .int s3, .long s4])), (hd, .inr (0, [.int (nI w), .int (nI b), .int wr, .ref qc, .ref qi, .int wa, .int wc])), (qc, .inl (cC, w * b, .inl (fun _ => 0))), (qt, .inr (7, [.int e1, .int e2, .int e3, .long e4]))] := hD
  refine lv_aload_n hx hb dX6_findsRight_5 rfl (lv_at hl 0 rfl) ?_
  refine lv_lconst (v := 0) hx hb dX6_findsRight_6 (by decide) ?_
  refine va_put (D := (dC, dI)) (ci := 6) (v := .long 0) (ty := .long) (C := RX6) (T := TX6) (N := 10) hx hb hts k_1 tyX6 tyX6_ok nmX6 hown hK hP hD hS 0 rfl rfl 7 (by decide) k_3 (fun _ h9 => h9) rfl (by decide +kernel) rfl rfl (Nat.le_of_ble_eq_true rfl) dX6_findsRight_7 (fun H locs hP hD hS => ?_)
  have hP : va_P (dC, dI) vwCl [(h0, .inr (6, [.ref hd, .ref hf, .ref hm, .ref l1, .ref l2, .ref l3, .int 0, .long 0, .int s3, .long s4])), (hd, .inr (0, [.int (nI w), .int (nI b), .int wr, .ref qc, .ref qi, .int wa, .int wc])), (qc, .inl (cC, w * b, .inl (fun _ => 0))), (qt, .inr (7, [.int e1, .int e2, .int e3, .long e4]))] H := hP
  have hD : va_D A [(h0, .inr (6, [.ref hd, .ref hf, .ref hm, .ref l1, .ref l2, .ref l3, .int 0, .long 0, .int s3, .long s4])), (hd, .inr (0, [.int (nI w), .int (nI b), .int wr, .ref qc, .ref qi, .int wa, .int wc])), (qc, .inl (cC, w * b, .inl (fun _ => 0))), (qt, .inr (7, [.int e1, .int e2, .int e3, .long e4]))] := hD
  refine lv_aload_n hx hb dX6_findsRight_10 rfl (lv_at hl 0 rfl) ?_
  refine lv_iconst (v := 0) hx hb dX6_findsRight_11 (by decide) ?_
  refine va_put (D := (dC, dI)) (ci := 6) (v := .int 0) (ty := .int) (C := RX6) (T := TX6) (N := 10) hx hb hts k_1 tyX6 tyX6_ok nmX6 hown hK hP hD hS 0 rfl rfl 8 (by decide) k_4 (fun _ h9 => h9) rfl (by decide +kernel) rfl rfl (Nat.le_of_ble_eq_true rfl) dX6_findsRight_12 (fun H locs hP hD hS => ?_)
  have hP : va_P (dC, dI) vwCl [(h0, .inr (6, [.ref hd, .ref hf, .ref hm, .ref l1, .ref l2, .ref l3, .int 0, .long 0, .int 0, .long s4])), (hd, .inr (0, [.int (nI w), .int (nI b), .int wr, .ref qc, .ref qi, .int wa, .int wc])), (qc, .inl (cC, w * b, .inl (fun _ => 0))), (qt, .inr (7, [.int e1, .int e2, .int e3, .long e4]))] H := hP
  have hD : va_D A [(h0, .inr (6, [.ref hd, .ref hf, .ref hm, .ref l1, .ref l2, .ref l3, .int 0, .long 0, .int 0, .long s4])), (hd, .inr (0, [.int (nI w), .int (nI b), .int wr, .ref qc, .ref qi, .int wa, .int wc])), (qc, .inl (cC, w * b, .inl (fun _ => 0))), (qt, .inr (7, [.int e1, .int e2, .int e3, .long e4]))] := hD
  refine lv_aload_n hx hb dX6_findsRight_15 rfl (lv_at hl 0 rfl) ?_
  refine lv_ldc2 (v := (-2147483649)) hx hb hown k_5 dX6_findsRight_16 ?_
  refine va_put (D := (dC, dI)) (ci := 6) (v := .long (-2147483649)) (ty := .long) (C := RX6) (T := TX6) (N := 10) hx hb hts k_1 tyX6 tyX6_ok nmX6 hown hK hP hD hS 0 rfl rfl 9 (by decide) k_6 (fun _ h9 => h9) rfl (by decide +kernel) rfl rfl (Nat.le_of_ble_eq_true rfl) dX6_findsRight_19 (fun H locs hP hD hS => ?_)
  have hP : va_P (dC, dI) vwCl [(h0, .inr (6, [.ref hd, .ref hf, .ref hm, .ref l1, .ref l2, .ref l3, .int 0, .long 0, .int 0, .long (-2147483649)])), (hd, .inr (0, [.int (nI w), .int (nI b), .int wr, .ref qc, .ref qi, .int wa, .int wc])), (qc, .inl (cC, w * b, .inl (fun _ => 0))), (qt, .inr (7, [.int e1, .int e2, .int e3, .long e4]))] H := hP
  have hD : va_D A [(h0, .inr (6, [.ref hd, .ref hf, .ref hm, .ref l1, .ref l2, .ref l3, .int 0, .long 0, .int 0, .long (-2147483649)])), (hd, .inr (0, [.int (nI w), .int (nI b), .int wr, .ref qc, .ref qi, .int wa, .int wc])), (qc, .inl (cC, w * b, .inl (fun _ => 0))), (qt, .inr (7, [.int e1, .int e2, .int e3, .long e4]))] := hD
  refine lv_aload_n hx hb dX6_findsRight_22 rfl (lv_at hl 2 rfl) ?_
  refine lv_aload_n hx hb dX6_findsRight_23 rfl (lv_at hl 0 rfl) ?_
  refine va_get (D := (dC, dI)) (ci := 6) (v := .ref hd) (C := RX6) (T := TX6) (N := 10) hx hb hts k_1 hown hK hP 0 rfl rfl 0 (by decide) k_7 (fun _ h9 => h9) rfl dX6_findsRight_24 ?_
  refine lv_iload_n hx hb dX6_findsRight_27 rfl (lv_at hl 1 rfl) ?_
  refine lv_iconst (v := 1) hx hb dX6_findsRight_28 (by decide) ?_
  have hPc := hP.sub (ws' := [(hd, .inr (0, [.int (nI w), .int (nI b), .int wr, .ref qc, .ref qi, .int wa, .int wc])), (qc, .inl (cC, w * b, .inl (fun _ => 0)))]) [1, 2] rfl
  have hDc := hD.sub (ws' := [(hd, .inr (0, [.int (nI w), .int (nI b), .int wr, .ref qc, .ref qi, .int wa, .int wc])), (qc, .inl (cC, w * b, .inl (fun _ => 0)))]) [1, 2] (by decide) rfl
  have hKc := hK.sub (tys' := [(cC, .int)]) [0] rfl
  have hFc := va_free (wc := [(hd, .inr (0, [.int (nI w), .int (nI b), .int wr, .ref qc, .ref qi, .int wa, .int wc])), (qc, .inl (cC, w * b, .inl (fun _ => 0)))]) hD hS hA [1, 2] rfl
  refine va_calli (va_runV (As := [.int p0, .int 1]) (rest := [.ref qt]) ⟨hx, hb, hml, hown, hts⟩ (c_X0_read l dC dI H.size hd w b qc qi wr wa wc p0 1 cC (by first | assumption | omega | decide) (by first | assumption | omega | decide) (by first | assumption | omega | decide) (by first | assumption | omega | decide) (by first | assumption | omega | decide)) (cwV 2 hts g_X6_findsRight_X0_read rfl rfl rfl (by decide +kernel) ⟨Nat.le_of_ble_eq_true rfl, Nat.le_of_ble_eq_true rfl⟩) ⟨fun a U g mk q => by obtain ⟨q0, q1, qP, qK, qD⟩ := q; exact ⟨q0, q1, qP, va_K.moved (u := U) (U := U.calling g mk a) (Vm.Alike.refl U.vm) qK, qD⟩, va_recv hKc hPc (ci := 0) (q0 := 0) rfl rfl, fun U hU hW => ⟨rfl, by rw [hU], by rw [hU]; exact hPc, va_K.moved hW.alike hKc, hDc.weaken (fun _ _ _ _ => trivial)⟩⟩ rfl rfl hl.1 rfl (lv_room (Nat.le_of_ble_eq_true rfl)) dX6_findsRight_29 ⟨(show 0 + 0 ≤ 0 by omega), (show 0 + 0 ≤ 0 by omega)⟩) hS (fun q _ h => hFc q h) hFc (fun r_1 u t H1 locs ht hvm hw hB hz1 hk1 hS => ?_)
  obtain ⟨hP1, hK1, hD1⟩ := hB
  rw [ht] at hP1
  have hK1 := va_K.moved hvm.symm hK1
  try dsimp only at hw
  obtain ⟨hP, hD⟩ := va_join (wr := [(h0, .inr (6, [.ref hd, .ref hf, .ref hm, .ref l1, .ref l2, .ref l3, .int 0, .long 0, .int 0, .long (-2147483649)])), (qt, .inr (7, [.int e1, .int e2, .int e3, .long e4]))]) (w1 := [(hd, .inr (0, [.int (nI w), .int (nI b), .int wr, .ref qc, .ref qi, .int wa, .int wc])), (qc, .inl (cC, w * b, .inl (fun _ => 0)))]) hP hD [1, 2] [0, 3] rfl rfl (by decide) (by decide) hk1 hFc hP1 hD1
  have hK := (hK.sub (tys' := []) [] rfl).app hK1
  generalize H1 = H at hP hS ⊢
  have hP : va_P (dC, dI) vwCl [(h0, .inr (6, [.ref hd, .ref hf, .ref hm, .ref l1, .ref l2, .ref l3, .int 0, .long 0, .int 0, .long (-2147483649)])), (qt, .inr (7, [.int e1, .int e2, .int e3, .long e4])), (hd, .inr (0, [.int (nI w), .int (nI b), .int wr, .ref qc, .ref qi, .int wa, .int wc])), (qc, .inl (cC, w * b, .inl (fun _ => 0)))] H := hP
  have hD : va_D A [(h0, .inr (6, [.ref hd, .ref hf, .ref hm, .ref l1, .ref l2, .ref l3, .int 0, .long 0, .int 0, .long (-2147483649)])), (qt, .inr (7, [.int e1, .int e2, .int e3, .long e4])), (hd, .inr (0, [.int (nI w), .int (nI b), .int wr, .ref qc, .ref qi, .int wa, .int wc])), (qc, .inl (cC, w * b, .inl (fun _ => 0)))] := hD
  have hK : va_K (dC, dI) vwCl [(cC, .int)] s := hK
  obtain rfl : r_1 = 0 := hw
  refine lv_aload_n hx hb dX6_findsRight_32 rfl (lv_at hl 0 rfl) ?_
  refine va_get (D := (dC, dI)) (ci := 6) (v := .ref hd) (C := RX6) (T := TX6) (N := 10) hx hb hts k_1 hown hK hP 0 rfl rfl 0 (by decide) k_7 (fun _ h9 => h9) rfl dX6_findsRight_33 ?_
  refine lv_iload_n hx hb dX6_findsRight_36 rfl (lv_at hl 1 rfl) ?_
  refine lv_iconst (v := 2) hx hb dX6_findsRight_37 (by decide) ?_
  have hPc := hP.sub (ws' := [(hd, .inr (0, [.int (nI w), .int (nI b), .int wr, .ref qc, .ref qi, .int wa, .int wc])), (qc, .inl (cC, w * b, .inl (fun _ => 0)))]) [2, 3] rfl
  have hDc := hD.sub (ws' := [(hd, .inr (0, [.int (nI w), .int (nI b), .int wr, .ref qc, .ref qi, .int wa, .int wc])), (qc, .inl (cC, w * b, .inl (fun _ => 0)))]) [2, 3] (by decide) rfl
  have hKc := hK.sub (tys' := [(cC, .int)]) [0] rfl
  have hFc := va_free (wc := [(hd, .inr (0, [.int (nI w), .int (nI b), .int wr, .ref qc, .ref qi, .int wa, .int wc])), (qc, .inl (cC, w * b, .inl (fun _ => 0)))]) hD hS hA [2, 3] rfl
  refine va_calli (va_runV (As := [.int p0, .int 2]) (rest := [.int 0, .ref qt]) ⟨hx, hb, hml, hown, hts⟩ (c_X0_read l dC dI H.size hd w b qc qi wr wa wc p0 2 cC (by first | assumption | omega | decide) (by first | assumption | omega | decide) (by first | assumption | omega | decide) (by first | assumption | omega | decide) (by first | assumption | omega | decide)) (cwV 2 hts g_X6_findsRight_X0_read rfl rfl rfl (by decide +kernel) ⟨Nat.le_of_ble_eq_true rfl, Nat.le_of_ble_eq_true rfl⟩) ⟨fun a U g mk q => by obtain ⟨q0, q1, qP, qK, qD⟩ := q; exact ⟨q0, q1, qP, va_K.moved (u := U) (U := U.calling g mk a) (Vm.Alike.refl U.vm) qK, qD⟩, va_recv hKc hPc (ci := 0) (q0 := 0) rfl rfl, fun U hU hW => ⟨rfl, by rw [hU], by rw [hU]; exact hPc, va_K.moved hW.alike hKc, hDc.weaken (fun _ _ _ _ => trivial)⟩⟩ rfl rfl hl.1 rfl (lv_room (Nat.le_of_ble_eq_true rfl)) dX6_findsRight_38 ⟨(show 0 + 0 ≤ 0 by omega), (show 0 + 0 ≤ 0 by omega)⟩) hS (fun q _ h => hFc q h) hFc (fun r_2 u t H1 locs ht hvm hw hB hz1 hk1 hS => ?_)
  obtain ⟨hP1, hK1, hD1⟩ := hB
  rw [ht] at hP1
  have hK1 := va_K.moved hvm.symm hK1
  try dsimp only at hw
  obtain ⟨hP, hD⟩ := va_join (wr := [(h0, .inr (6, [.ref hd, .ref hf, .ref hm, .ref l1, .ref l2, .ref l3, .int 0, .long 0, .int 0, .long (-2147483649)])), (qt, .inr (7, [.int e1, .int e2, .int e3, .long e4]))]) (w1 := [(hd, .inr (0, [.int (nI w), .int (nI b), .int wr, .ref qc, .ref qi, .int wa, .int wc])), (qc, .inl (cC, w * b, .inl (fun _ => 0)))]) hP hD [2, 3] [0, 1] rfl rfl (by decide) (by decide) hk1 hFc hP1 hD1
  have hK := (hK.sub (tys' := []) [] rfl).app hK1
  generalize H1 = H at hP hS ⊢
  have hP : va_P (dC, dI) vwCl [(h0, .inr (6, [.ref hd, .ref hf, .ref hm, .ref l1, .ref l2, .ref l3, .int 0, .long 0, .int 0, .long (-2147483649)])), (qt, .inr (7, [.int e1, .int e2, .int e3, .long e4])), (hd, .inr (0, [.int (nI w), .int (nI b), .int wr, .ref qc, .ref qi, .int wa, .int wc])), (qc, .inl (cC, w * b, .inl (fun _ => 0)))] H := hP
  have hD : va_D A [(h0, .inr (6, [.ref hd, .ref hf, .ref hm, .ref l1, .ref l2, .ref l3, .int 0, .long 0, .int 0, .long (-2147483649)])), (qt, .inr (7, [.int e1, .int e2, .int e3, .long e4])), (hd, .inr (0, [.int (nI w), .int (nI b), .int wr, .ref qc, .ref qi, .int wa, .int wc])), (qc, .inl (cC, w * b, .inl (fun _ => 0)))] := hD
  have hK : va_K (dC, dI) vwCl [(cC, .int)] s := hK
  obtain rfl : r_2 = 0 := hw
  refine lv_aload_n hx hb dX6_findsRight_41 rfl (lv_at hl 0 rfl) ?_
  refine va_get (D := (dC, dI)) (ci := 6) (v := .ref hd) (C := RX6) (T := TX6) (N := 10) hx hb hts k_1 hown hK hP 0 rfl rfl 0 (by decide) k_7 (fun _ h9 => h9) rfl dX6_findsRight_42 ?_
  refine lv_iload_n hx hb dX6_findsRight_45 rfl (lv_at hl 1 rfl) ?_
  refine lv_iconst (v := 3) hx hb dX6_findsRight_46 (by decide) ?_
  have hPc := hP.sub (ws' := [(hd, .inr (0, [.int (nI w), .int (nI b), .int wr, .ref qc, .ref qi, .int wa, .int wc])), (qc, .inl (cC, w * b, .inl (fun _ => 0)))]) [2, 3] rfl
  have hDc := hD.sub (ws' := [(hd, .inr (0, [.int (nI w), .int (nI b), .int wr, .ref qc, .ref qi, .int wa, .int wc])), (qc, .inl (cC, w * b, .inl (fun _ => 0)))]) [2, 3] (by decide) rfl
  have hKc := hK.sub (tys' := [(cC, .int)]) [0] rfl
  have hFc := va_free (wc := [(hd, .inr (0, [.int (nI w), .int (nI b), .int wr, .ref qc, .ref qi, .int wa, .int wc])), (qc, .inl (cC, w * b, .inl (fun _ => 0)))]) hD hS hA [2, 3] rfl
  refine va_calli (va_runV (As := [.int p0, .int 3]) (rest := [.int 0, .int 0, .ref qt]) ⟨hx, hb, hml, hown, hts⟩ (c_X0_read l dC dI H.size hd w b qc qi wr wa wc p0 3 cC (by first | assumption | omega | decide) (by first | assumption | omega | decide) (by first | assumption | omega | decide) (by first | assumption | omega | decide) (by first | assumption | omega | decide)) (cwV 2 hts g_X6_findsRight_X0_read rfl rfl rfl (by decide +kernel) ⟨Nat.le_of_ble_eq_true rfl, Nat.le_of_ble_eq_true rfl⟩) ⟨fun a U g mk q => by obtain ⟨q0, q1, qP, qK, qD⟩ := q; exact ⟨q0, q1, qP, va_K.moved (u := U) (U := U.calling g mk a) (Vm.Alike.refl U.vm) qK, qD⟩, va_recv hKc hPc (ci := 0) (q0 := 0) rfl rfl, fun U hU hW => ⟨rfl, by rw [hU], by rw [hU]; exact hPc, va_K.moved hW.alike hKc, hDc.weaken (fun _ _ _ _ => trivial)⟩⟩ rfl rfl hl.1 rfl (lv_room (Nat.le_of_ble_eq_true rfl)) dX6_findsRight_47 ⟨(show 0 + 0 ≤ 0 by omega), (show 0 + 0 ≤ 0 by omega)⟩) hS (fun q _ h => hFc q h) hFc (fun r_3 u t H1 locs ht hvm hw hB hz1 hk1 hS => ?_)
  obtain ⟨hP1, hK1, hD1⟩ := hB
  rw [ht] at hP1
  have hK1 := va_K.moved hvm.symm hK1
  try dsimp only at hw
  obtain ⟨hP, hD⟩ := va_join (wr := [(h0, .inr (6, [.ref hd, .ref hf, .ref hm, .ref l1, .ref l2, .ref l3, .int 0, .long 0, .int 0, .long (-2147483649)])), (qt, .inr (7, [.int e1, .int e2, .int e3, .long e4]))]) (w1 := [(hd, .inr (0, [.int (nI w), .int (nI b), .int wr, .ref qc, .ref qi, .int wa, .int wc])), (qc, .inl (cC, w * b, .inl (fun _ => 0)))]) hP hD [2, 3] [0, 1] rfl rfl (by decide) (by decide) hk1 hFc hP1 hD1
  have hK := (hK.sub (tys' := []) [] rfl).app hK1
  generalize H1 = H at hP hS ⊢
  have hP : va_P (dC, dI) vwCl [(h0, .inr (6, [.ref hd, .ref hf, .ref hm, .ref l1, .ref l2, .ref l3, .int 0, .long 0, .int 0, .long (-2147483649)])), (qt, .inr (7, [.int e1, .int e2, .int e3, .long e4])), (hd, .inr (0, [.int (nI w), .int (nI b), .int wr, .ref qc, .ref qi, .int wa, .int wc])), (qc, .inl (cC, w * b, .inl (fun _ => 0)))] H := hP
  have hD : va_D A [(h0, .inr (6, [.ref hd, .ref hf, .ref hm, .ref l1, .ref l2, .ref l3, .int 0, .long 0, .int 0, .long (-2147483649)])), (qt, .inr (7, [.int e1, .int e2, .int e3, .long e4])), (hd, .inr (0, [.int (nI w), .int (nI b), .int wr, .ref qc, .ref qi, .int wa, .int wc])), (qc, .inl (cC, w * b, .inl (fun _ => 0)))] := hD
  have hK : va_K (dC, dI) vwCl [(cC, .int)] s := hK
  obtain rfl : r_3 = 0 := hw
  refine lv_lconst (v := 0) hx hb dX6_findsRight_50 (by decide) ?_
  have hPc := hP.sub (ws' := [(qt, .inr (7, [.int e1, .int e2, .int e3, .long e4]))]) [1] rfl
  have hDc := hD.sub (ws' := [(qt, .inr (7, [.int e1, .int e2, .int e3, .long e4]))]) [1] (by decide) rfl
  have hKc := hK.sub (tys' := []) [] rfl
  have hFc := va_free (wc := [(qt, .inr (7, [.int e1, .int e2, .int e3, .long e4]))]) hD hS hA [1] rfl
  refine va_callv (va_runV (As := [.int 0, .int 0, .int 0, .long 0]) (rest := []) ⟨hx, hb, hml, hown, hts⟩ (c_X7_tell l dC dI H.size qt e1 e2 e3 e4 0 0 0 0) (cwV 4 hts g_X6_findsRight_X7_tell rfl rfl rfl (by decide +kernel) ⟨Nat.le_of_ble_eq_true rfl, Nat.le_of_ble_eq_true rfl⟩) ⟨fun a U g mk q => by obtain ⟨q0, q1, qP, qK, qD⟩ := q; exact ⟨q0, q1, qP, va_K.moved (u := U) (U := U.calling g mk a) (Vm.Alike.refl U.vm) qK, qD⟩, va_recv hKc hPc (ci := 7) (q0 := 0) rfl rfl, fun U hU hW => ⟨rfl, by rw [hU], by rw [hU]; exact hPc, va_K.moved hW.alike hKc, hDc.weaken (fun _ _ _ _ => trivial)⟩⟩ rfl rfl hl.1 rfl (lv_room (Nat.le_of_ble_eq_true rfl)) dX6_findsRight_51 ⟨(show 0 + 0 ≤ 0 by omega), (show 0 + 0 ≤ 0 by omega)⟩) hS (fun q _ h => hFc q h) hFc (fun u t H1 locs ht hvm hw hB hz1 hk1 hS => ?_)
  obtain ⟨hP1, hK1, hD1⟩ := hB
  rw [ht] at hP1
  have hK1 := va_K.moved hvm.symm hK1
  try dsimp only at hw
  obtain ⟨hP, hD⟩ := va_join (wr := [(h0, .inr (6, [.ref hd, .ref hf, .ref hm, .ref l1, .ref l2, .ref l3, .int 0, .long 0, .int 0, .long (-2147483649)])), (hd, .inr (0, [.int (nI w), .int (nI b), .int wr, .ref qc, .ref qi, .int wa, .int wc])), (qc, .inl (cC, w * b, .inl (fun _ => 0)))]) (w1 := [(qt, .inr (7, [.int 0, .int 0, .int 0, .long 0]))]) hP hD [1] [0, 2, 3] rfl rfl (by decide) (by decide) hk1 hFc hP1 hD1
  have hK := (hK.sub (tys' := [(cC, .int)]) [0] rfl).app hK1
  generalize H1 = H at hP hS ⊢
  have hP : va_P (dC, dI) vwCl [(h0, .inr (6, [.ref hd, .ref hf, .ref hm, .ref l1, .ref l2, .ref l3, .int 0, .long 0, .int 0, .long (-2147483649)])), (hd, .inr (0, [.int (nI w), .int (nI b), .int wr, .ref qc, .ref qi, .int wa, .int wc])), (qc, .inl (cC, w * b, .inl (fun _ => 0))), (qt, .inr (7, [.int 0, .int 0, .int 0, .long 0]))] H := hP
  have hD : va_D A [(h0, .inr (6, [.ref hd, .ref hf, .ref hm, .ref l1, .ref l2, .ref l3, .int 0, .long 0, .int 0, .long (-2147483649)])), (hd, .inr (0, [.int (nI w), .int (nI b), .int wr, .ref qc, .ref qi, .int wa, .int wc])), (qc, .inl (cC, w * b, .inl (fun _ => 0))), (qt, .inr (7, [.int 0, .int 0, .int 0, .long 0]))] := hD
  have hK : va_K (dC, dI) vwCl [(cC, .int)] s := hK
  refine lv_aload_n hx hb dX6_findsRight_54 rfl (lv_at hl 0 rfl) ?_
  refine va_get (D := (dC, dI)) (ci := 6) (v := .ref hd) (C := RX6) (T := TX6) (N := 10) hx hb hts k_1 hown hK hP 0 rfl rfl 0 (by decide) k_7 (fun _ h9 => h9) rfl dX6_findsRight_55 ?_
  refine lv_iload_n hx hb dX6_findsRight_58 rfl (lv_at hl 1 rfl) ?_
  refine lv_iconst (v := 0) hx hb dX6_findsRight_59 (by decide) ?_
  have hPc := hP.sub (ws' := [(hd, .inr (0, [.int (nI w), .int (nI b), .int wr, .ref qc, .ref qi, .int wa, .int wc])), (qc, .inl (cC, w * b, .inl (fun _ => 0)))]) [1, 2] rfl
  have hDc := hD.sub (ws' := [(hd, .inr (0, [.int (nI w), .int (nI b), .int wr, .ref qc, .ref qi, .int wa, .int wc])), (qc, .inl (cC, w * b, .inl (fun _ => 0)))]) [1, 2] (by decide) rfl
  have hKc := hK.sub (tys' := [(cC, .int)]) [0] rfl
  have hFc := va_free (wc := [(hd, .inr (0, [.int (nI w), .int (nI b), .int wr, .ref qc, .ref qi, .int wa, .int wc])), (qc, .inl (cC, w * b, .inl (fun _ => 0)))]) hD hS hA [1, 2] rfl
  refine va_calli (va_runV (As := [.int p0, .int 0]) (rest := []) ⟨hx, hb, hml, hown, hts⟩ (c_X0_read l dC dI H.size hd w b qc qi wr wa wc p0 0 cC (by first | assumption | omega | decide) (by first | assumption | omega | decide) (by first | assumption | omega | decide) (by first | assumption | omega | decide) (by first | assumption | omega | decide)) (cwV 2 hts g_X6_findsRight_X0_read rfl rfl rfl (by decide +kernel) ⟨Nat.le_of_ble_eq_true rfl, Nat.le_of_ble_eq_true rfl⟩) ⟨fun a U g mk q => by obtain ⟨q0, q1, qP, qK, qD⟩ := q; exact ⟨q0, q1, qP, va_K.moved (u := U) (U := U.calling g mk a) (Vm.Alike.refl U.vm) qK, qD⟩, va_recv hKc hPc (ci := 0) (q0 := 0) rfl rfl, fun U hU hW => ⟨rfl, by rw [hU], by rw [hU]; exact hPc, va_K.moved hW.alike hKc, hDc.weaken (fun _ _ _ _ => trivial)⟩⟩ rfl rfl hl.1 rfl (lv_room (Nat.le_of_ble_eq_true rfl)) dX6_findsRight_60 ⟨(show 0 + 0 ≤ 0 by omega), (show 0 + 0 ≤ 0 by omega)⟩) hS (fun q _ h => hFc q h) hFc (fun r_5 u t H1 locs ht hvm hw hB hz1 hk1 hS => ?_)
  obtain ⟨hP1, hK1, hD1⟩ := hB
  rw [ht] at hP1
  have hK1 := va_K.moved hvm.symm hK1
  try dsimp only at hw
  obtain ⟨hP, hD⟩ := va_join (wr := [(h0, .inr (6, [.ref hd, .ref hf, .ref hm, .ref l1, .ref l2, .ref l3, .int 0, .long 0, .int 0, .long (-2147483649)])), (qt, .inr (7, [.int 0, .int 0, .int 0, .long 0]))]) (w1 := [(hd, .inr (0, [.int (nI w), .int (nI b), .int wr, .ref qc, .ref qi, .int wa, .int wc])), (qc, .inl (cC, w * b, .inl (fun _ => 0)))]) hP hD [1, 2] [0, 3] rfl rfl (by decide) (by decide) hk1 hFc hP1 hD1
  have hK := (hK.sub (tys' := []) [] rfl).app hK1
  generalize H1 = H at hP hS ⊢
  have hP : va_P (dC, dI) vwCl [(h0, .inr (6, [.ref hd, .ref hf, .ref hm, .ref l1, .ref l2, .ref l3, .int 0, .long 0, .int 0, .long (-2147483649)])), (qt, .inr (7, [.int 0, .int 0, .int 0, .long 0])), (hd, .inr (0, [.int (nI w), .int (nI b), .int wr, .ref qc, .ref qi, .int wa, .int wc])), (qc, .inl (cC, w * b, .inl (fun _ => 0)))] H := hP
  have hD : va_D A [(h0, .inr (6, [.ref hd, .ref hf, .ref hm, .ref l1, .ref l2, .ref l3, .int 0, .long 0, .int 0, .long (-2147483649)])), (qt, .inr (7, [.int 0, .int 0, .int 0, .long 0])), (hd, .inr (0, [.int (nI w), .int (nI b), .int wr, .ref qc, .ref qi, .int wa, .int wc])), (qc, .inl (cC, w * b, .inl (fun _ => 0)))] := hD
  have hK : va_K (dC, dI) vwCl [(cC, .int)] s := hK
  obtain rfl : r_5 = 0 := hw
  refine lv_ldc (v := (1414677326)) hx hb hown k_8 dX6_findsRight_63 ?_
  refine lv_icmp_ne (tgt := 79) hx hb dX6_findsRight_65 (by decide) (fun c_6 => ?_) (fun c_6 => ?_)
  rotate_left
  · exact absurd c_6 (by decide)
  refine lv_iconst (v := 0) hx hb dX6_findsRight_79 (by decide) ?_
  have hP9 := hP.sub (ws' := [(h0, .inr (6, [.ref hd, .ref hf, .ref hm, .ref l1, .ref l2, .ref l3, .int 0, .long 0, .int 0, .long (-2147483649)])), (hd, .inr (0, [.int (nI w), .int (nI b), .int wr, .ref qc, .ref qi, .int wa, .int wc])), (qc, .inl (cC, w * b, .inl (fun _ => 0))), (qt, .inr (7, [.int 0, .int 0, .int 0, .long 0]))]) [0, 2, 3, 1] rfl
  have hD9 := hD.sub (ws' := [(h0, .inr (6, [.ref hd, .ref hf, .ref hm, .ref l1, .ref l2, .ref l3, .int 0, .long 0, .int 0, .long (-2147483649)])), (hd, .inr (0, [.int (nI w), .int (nI b), .int wr, .ref qc, .ref qi, .int wa, .int wc])), (qc, .inl (cC, w * b, .inl (fun _ => 0))), (qt, .inr (7, [.int 0, .int 0, .int 0, .long 0]))]) [0, 2, 3, 1] (by decide) rfl
  have hK9 := hK.sub (tys' := [(cC, .int)]) [0] rfl
  exact W.zret (v := 0) hx hb hr rfl (fun t ht hW => ⟨⟨0, (0, 0, 0, -2147483649, 0, 0, 0, 0), rfl, rfl, by rw [ht]; exact hP9, va_K.moved hW.alike hK9, hD9⟩, hS.F ht⟩) hS.2.2 dX6_findsRight_80

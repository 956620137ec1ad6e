def v_X0_init : List Cond := .code yX0_init cX0_init 3 none :: ([.code objectInit ⟨#[0xb1]⟩ 1 none, .methodLink RX0 1 objectInit, .instanceMethod objectInit, .fieldLink RX0 7 "TwinRoots$Disk" "words" "I", .fieldLink RX0 13 "TwinRoots$Disk" "blocks" "I", .arrayClass .int, .fieldLink RX0 16 "TwinRoots$Disk" "cells" "[I", .fieldLink RX0 20 "TwinRoots$Disk" "image" "[I", .fieldLink RX0 23 "TwinRoots$Disk" "writesAhead" "I"] ++ (wsX00 ++ ([])))
set_option maxHeartbeats 4000000 in
set_option maxRecDepth 100000 in
/-- Disk(w, b): the WORDS are 0 -/
theorem c_X0_init (l : Launch) (dC : Nat → ClassId) (dI : Nat → Nat → Nat) (sz : Nat) (h0 : Nat) (w : Nat) (b : Nat) (zw0 : 12 ≤ w) (zw : w ≤ 40) (zb0 : 4 ≤ b) (zb : b ≤ 64) (zwb : w * b ≤ 2560) : Met l yX0_init v_X0_init ({ frames := 1, cells := 2, slots := 2600, locals := 12 } : Room) (va_Pc [.ref h0, .int (nI w), .int (nI b)] (fun U => U.heap.size = sz ∧ va_P (dC, dI) vwCl [(h0, .inr (0, [.int 0, .int 0, .int 0, .null, .null, .int 0, .int 0]))] U.heap ∧ va_K (dC, dI) vwCl [] U ∧ va_D (fun _ => True) [(h0, .inr (0, [.int 0, .int 0, .int 0, .null, .null, .int 0, .int 0]))])) (va_Qv (fun (u : Nat × Nat × ClassId × ClassId) => match u with | (qc, qi, cC, cI) => True) (fun (u : Nat × Nat × ClassId × ClassId) (t : State) => match u with | (qc, qi, cC, cI) => va_P (dC, dI) vwCl [(h0, .inr (0, [.int (nI w), .int (nI b), .int 0, .ref qc, .ref qi, .int (-1), .int 0])), (qc, .inl (cC, w * b, .inl (fun _ => 0))), (qi, .inl (cI, w, .inl (fun _ => 0)))] t.heap ∧ va_K (dC, dI) vwCl [(cC, .int), (cI, .int)] t ∧ va_D (va_A [(h0, .inr (0, [.int 0, .int 0, .int 0, .null, .null, .int 0, .int 0]))] sz) [(h0, .inr (0, [.int (nI w), .int (nI b), .int 0, .ref qc, .ref qi, .int (-1), .int 0])), (qc, .inl (cC, w * b, .inl (fun _ => 0))), (qi, .inl (cI, w, .inl (fun _ => 0)))]) (va_A [(h0, .inr (0, [.int 0, .int 0, .int 0, .null, .null, .int 0, .int 0]))] sz)) 2 2600 (va_A [(h0, .inr (0, [.int 0, .int 0, .int 0, .null, .null, .int 0, .int 0]))] sz) := by
  refine Met.ofW (cc := cX0_init) (maxL := 3) (ret := none) (by decide) rfl ?_
  intro p e s m args below meth c s₁ B hml hv
  obtain ⟨rfl, hsz, hP, hK, hD0⟩ := hv
  have hx := B.exec
  have hb := B.bytes
  have hr := B.returns
  have hts := atoms_spec (ws := v_X0_init) B.pre
  have hown : s.vm.findClass RX0 = some m.cls := findClass_of_methodNamed B.named
  have hlocks := B.notSynchronized
  have hin : meth.name = "<init>" := (name_of_methodNamed B.named B.method).1
  subst hsz
  have hD := hD0.self (sz := s.heap.size)
  generalize hAe : va_A [(h0, .inr (0, [.int 0, .int 0, .int 0, .null, .null, .int 0, .int 0]))] s.heap.size = A at hD ⊢
  have hA : ∀ q : Nat, s.heap.size ≤ q → A q := fun q h => by rw [← hAe]; exact Or.inr h
  have hS : va_S A s.heap s.heap [] := va_S.rf
  have hP : va_P (dC, dI) vwCl [(h0, .inr (0, [.int 0, .int 0, .int 0, .null, .null, .int 0, .int 0]))] s.heap := hP
  have hl := lv_entry ([.ref h0, .int (nI w), .int (nI b)]) (n := 3) (Nat.le_of_ble_eq_true rfl)
  rw [lg_entry_eq]
  generalize (lg_sl ([.ref h0, .int (nI w), .int (nI b)]) ++ List.replicate (3 - (lg_sl ([.ref h0, .int (nI w), .int (nI b)])).length) Slot.unset).toArray = ls at hl ⊢
  have hl : lv_has ls 3 [(0, .ref h0), (1, .int (nI w)), (2, .int (nI b))] := hl
  have k_1 := hts (.code objectInit ⟨#[0xb1]⟩ 1 none) (List.mem_of_getElem? (i := 1) rfl)
  have k_2 := hts (.methodLink RX0 1 objectInit) (List.mem_of_getElem? (i := 2) rfl)
  have k_3 := hts (.instanceMethod objectInit) (List.mem_of_getElem? (i := 3) rfl)
  have k_4 := (fun _ h => List.mem_cons_of_mem _ (List.mem_append_right _ (List.mem_append_left _ h)) : ∀ w ∈ wsX00, w ∈ v_X0_init)
  have k_5 := hts (.fieldLink RX0 7 "TwinRoots$Disk" "words" "I") (List.mem_of_getElem? (i := 4) rfl)
  have k_6 := hts (.fieldLink RX0 13 "TwinRoots$Disk" "blocks" "I") (List.mem_of_getElem? (i := 5) rfl)
  have k_7 := hts (.arrayClass .int) (List.mem_of_getElem? (i := 6) rfl)
  have k_8 := hts (.fieldLink RX0 16 "TwinRoots$Disk" "cells" "[I") (List.mem_of_getElem? (i := 7) rfl)
  have k_9 := hts (.fieldLink RX0 20 "TwinRoots$Disk" "image" "[I") (List.mem_of_getElem? (i := 8) rfl)
  have k_10 := hts (.fieldLink RX0 23 "TwinRoots$Disk" "writesAhead" "I") (List.mem_of_getElem? (i := 9) rfl)
  refine lv_aload_n hx hb dX0_init_0 rfl (lv_at hl 0 rfl) ?_
  refine W.objInit hx hb hown k_2 k_3 k_1 rfl (by rw [hml]; exact hl.1) rfl dX0_init_1 (Nat.le_of_ble_eq_true rfl) (Nat.le_of_ble_eq_true rfl) ?_
  refine W.eq (g2 := F0 m 4 ls []) rfl ?_
  refine lv_aload_n hx hb dX0_init_4 rfl (lv_at hl 0 rfl) ?_
  refine lv_iload_n hx hb dX0_init_5 rfl (lv_at hl 1 rfl) ?_
  refine va_putF (D := (dC, dI)) (ci := 0) (v := .int (nI w)) (ty := .int) (C := RX0) (T := TX0) (N := 7) hx hb hts k_4 tyX0 tyX0_ok nmX0 hown hK hP hD hS 0 rfl rfl 0 (by decide) k_5 (fun _ h9 => h9) rfl hin rfl (by decide +kernel) rfl rfl (Nat.le_of_ble_eq_true rfl) dX0_init_6 (fun H locs hP hD hS => ?_)
  have hP : va_P (dC, dI) vwCl [(h0, .inr (0, [.int (nI w), .int 0, .int 0, .null, .null, .int 0, .int 0]))] H := hP
  have hD : va_D A [(h0, .inr (0, [.int (nI w), .int 0, .int 0, .null, .null, .int 0, .int 0]))] := hD
  refine lv_aload_n hx hb dX0_init_9 rfl (lv_at hl 0 rfl) ?_
  refine lv_iload_n hx hb dX0_init_10 rfl (lv_at hl 2 rfl) ?_
  refine va_putF (D := (dC, dI)) (ci := 0) (v := .int (nI b)) (ty := .int) (C := RX0) (T := TX0) (N := 7) hx hb hts k_4 tyX0 tyX0_ok nmX0 hown hK hP hD hS 0 rfl rfl 1 (by decide) k_6 (fun _ h9 => h9) rfl hin rfl (by decide +kernel) rfl rfl (Nat.le_of_ble_eq_true rfl) dX0_init_11 (fun H locs hP hD hS => ?_)
  have hP : va_P (dC, dI) vwCl [(h0, .inr (0, [.int (nI w), .int (nI b), .int 0, .null, .null, .int 0, .int 0]))] H := hP
  have hD : va_D A [(h0, .inr (0, [.int (nI w), .int (nI b), .int 0, .null, .null, .int 0, .int 0]))] := hD
  refine lv_aload_n hx hb dX0_init_14 rfl (lv_at hl 0 rfl) ?_
  refine lv_iload_n hx hb dX0_init_15 rfl (lv_at hl 1 rfl) ?_
  refine lv_iload_n hx hb dX0_init_16 rfl (lv_at hl 2 rfl) ?_
  refine lv_imul hx hb dX0_init_17 ?_
  refine lv_topi (fun z_1 ez_1 => ?_)
  obtain rfl : z_1 = nI (w * b) := ez_1.trans (pk_mul w b)
  refine va_newa (atype := .int) (a0 := (w * b, .inl (fun _ => 0))) hx hb k_7 (ty := .int) rfl hK hP hD hS hA (fun _ => rfl) (nI_pos (by omega)) (nI_clamp (by omega)) (by exact cb_int (by omega)) (show 0 + 1 ≤ 2 by omega) (show 0 + (w * b) ≤ 2600 by omega) dX0_init_18 (fun q_2 cA_3 H hK hP hD hS => ?_)
  have hP : va_P (dC, dI) vwCl [(h0, .inr (0, [.int (nI w), .int (nI b), .int 0, .null, .null, .int 0, .int 0])), (q_2, .inl (cA_3, w * b, .inl (fun _ => 0)))] H := hP
  have hD : va_D A [(h0, .inr (0, [.int (nI w), .int (nI b), .int 0, .null, .null, .int 0, .int 0])), (q_2, .inl (cA_3, w * b, .inl (fun _ => 0)))] := hD
  have hK : va_K (dC, dI) vwCl [(cA_3, .int)] s := hK
  refine W.widen (k := 1) (n := 2560) (by omega) (by omega) ?_
  refine va_putF (D := (dC, dI)) (ci := 0) (v := .ref q_2) (ty := (.array .int)) (C := RX0) (T := TX0) (N := 7) hx hb hts k_4 tyX0 tyX0_ok nmX0 hown hK hP hD hS 0 rfl rfl 3 (by decide) k_8 (fun _ h9 => h9) rfl hin rfl (by decide +kernel) rfl rfl (Nat.le_of_ble_eq_true rfl) dX0_init_20 (fun H locs hP hD hS => ?_)
  have hP : va_P (dC, dI) vwCl [(h0, .inr (0, [.int (nI w), .int (nI b), .int 0, .ref q_2, .null, .int 0, .int 0])), (q_2, .inl (cA_3, w * b, .inl (fun _ => 0)))] H := hP
  have hD : va_D A [(h0, .inr (0, [.int (nI w), .int (nI b), .int 0, .ref q_2, .null, .int 0, .int 0])), (q_2, .inl (cA_3, w * b, .inl (fun _ => 0)))] := hD
  refine lv_aload_n hx hb dX0_init_23 rfl (lv_at hl 0 rfl) ?_
  refine lv_iload_n hx hb dX0_init_24 rfl (lv_at hl 1 rfl) ?_
  refine va_newa (atype := .int) (a0 := (w, .inl (fun _ => 0))) hx hb k_7 (ty := .int) rfl hK hP hD hS hA (fun _ => rfl) (nI_pos (by omega)) (nI_clamp (by omega)) (by exact cb_int (by omega)) (show 1 + 1 ≤ 2 by omega) (show 2560 + w ≤ 2600 by omega) dX0_init_25 (fun q_4 cA_5 H hK hP hD hS => ?_)
  have hP : va_P (dC, dI) vwCl [(h0, .inr (0, [.int (nI w), .int (nI b), .int 0, .ref q_2, .null, .int 0, .int 0])), (q_2, .inl (cA_3, w * b, .inl (fun _ => 0))), (q_4, .inl (cA_5, w, .inl (fun _ => 0)))] H := hP
  have hD : va_D A [(h0, .inr (0, [.int (nI w), .int (nI b), .int 0, .ref q_2, .null, .int 0, .int 0])), (q_2, .inl (cA_3, w * b, .inl (fun _ => 0))), (q_4, .inl (cA_5, w, .inl (fun _ => 0)))] := hD
  have hK : va_K (dC, dI) vwCl [(cA_3, .int), (cA_5, .int)] s := hK
  refine W.widen (k := 2) (n := 2600) (by omega) (by omega) ?_
  refine va_putF (D := (dC, dI)) (ci := 0) (v := .ref q_4) (ty := (.array .int)) (C := RX0) (T := TX0) (N := 7) hx hb hts k_4 tyX0 tyX0_ok nmX0 hown hK hP hD hS 0 rfl rfl 4 (by decide) k_9 (fun _ h9 => h9) rfl hin rfl (by decide +kernel) rfl rfl (Nat.le_of_ble_eq_true rfl) dX0_init_27 (fun H locs hP hD hS => ?_)
  have hP : va_P (dC, dI) vwCl [(h0, .inr (0, [.int (nI w), .int (nI b), .int 0, .ref q_2, .ref q_4, .int 0, .int 0])), (q_2, .inl (cA_3, w * b, .inl (fun _ => 0))), (q_4, .inl (cA_5, w, .inl (fun _ => 0)))] H := hP
  have hD : va_D A [(h0, .inr (0, [.int (nI w), .int (nI b), .int 0, .ref q_2, .ref q_4, .int 0, .int 0])), (q_2, .inl (cA_3, w * b, .inl (fun _ => 0))), (q_4, .inl (cA_5, w, .inl (fun _ => 0)))] := hD
  refine lv_aload_n hx hb dX0_init_30 rfl (lv_at hl 0 rfl) ?_
  refine lv_iconst (v := -1) hx hb dX0_init_31 (by decide) ?_
  refine va_put (D := (dC, dI)) (ci := 0) (v := .int (-1)) (ty := .int) (C := RX0) (T := TX0) (N := 7) hx hb hts k_4 tyX0 tyX0_ok nmX0 hown hK hP hD hS 0 rfl rfl 5 (by decide) k_10 (fun _ h9 => h9) rfl (by decide +kernel) rfl rfl (Nat.le_of_ble_eq_true rfl) dX0_init_32 (fun H locs hP hD hS => ?_)
  have hP : va_P (dC, dI) vwCl [(h0, .inr (0, [.int (nI w), .int (nI b), .int 0, .ref q_2, .ref q_4, .int (-1), .int 0])), (q_2, .inl (cA_3, w * b, .inl (fun _ => 0))), (q_4, .inl (cA_5, w, .inl (fun _ => 0)))] H := hP
  have hD : va_D A [(h0, .inr (0, [.int (nI w), .int (nI b), .int 0, .ref q_2, .ref q_4, .int (-1), .int 0])), (q_2, .inl (cA_3, w * b, .inl (fun _ => 0))), (q_4, .inl (cA_5, w, .inl (fun _ => 0)))] := hD
  have hP9 := hP.sub (ws' := [(h0, .inr (0, [.int (nI w), .int (nI b), .int 0, .ref q_2, .ref q_4, .int (-1), .int 0])), (q_2, .inl (cA_3, w * b, .inl (fun _ => 0))), (q_4, .inl (cA_5, w, .inl (fun _ => 0)))]) [0, 1, 2] rfl
  have hD9 := hD.sub (ws' := [(h0, .inr (0, [.int (nI w), .int (nI b), .int 0, .ref q_2, .ref q_4, .int (-1), .int 0])), (q_2, .inl (cA_3, w * b, .inl (fun _ => 0))), (q_4, .inl (cA_5, w, .inl (fun _ => 0)))]) [0, 1, 2] (by decide) rfl
  have hK9 := hK.sub (tys' := [(cA_3, .int), (cA_5, .int)]) [0, 1] rfl
  exact W.vret hx hb hr (fun t ht hW => ⟨⟨(q_2, q_4, cA_3, cA_5), rfl, trivial, by rw [ht]; exact hP9, va_K.moved hW.alike hK9, hD9⟩, hS.F ht⟩) hS.2.2 dX0_init_35
def v_X0_setCut : List Cond := .code yX0_setCut cX0_setCut 3 none :: ([.code Lib.Math.max.name Lib.Math.max.code 2 (some .int), .methodLink RX0 26 Lib.Math.max.name, .static Lib.Math.max.name, .initialized "java/lang/Math", .fieldLink RX0 23 "TwinRoots$Disk" "writesAhead" "I", .fieldLink RX0 7 "TwinRoots$Disk" "words" "I", .code Lib.Math.min.name Lib.Math.min.code 2 (some .int), .methodLink RX0 32 Lib.Math.min.name, .static Lib.Math.min.name, .fieldLink RX0 35 "TwinRoots$Disk" "wordsOfCut" "I"] ++ (wsX00 ++ ([])))
set_option maxHeartbeats 4000000 in
set_option maxRecDepth 100000 in
/-- setCut: some cut -/
theorem c_X0_setCut (l : Launch) (dC : Nat → ClassId) (dI : Nat → Nat → Nat) (sz : Nat) (h0 : Nat) (w : Nat) (b : Nat) (qc : Nat) (qi : Nat) (wr : Int32) (wa : Int32) (wc : Int32) (p0 : Int32) (p1 : Int32) : Met l yX0_setCut v_X0_setCut ({ frames := 1, cells := 0, slots := 0, locals := 15 } : Room) (va_Pc [.ref h0, .int p0, .int p1] (fun U => U.heap.size = sz ∧ va_P (dC, dI) vwCl [(h0, .inr (0, [.int (nI w), .int (nI b), .int wr, .ref qc, .ref qi, .int wa, .int wc]))] U.heap ∧ va_K (dC, dI) vwCl [] U ∧ va_D (fun _ => True) [(h0, .inr (0, [.int (nI w), .int (nI b), .int wr, .ref qc, .ref qi, .int wa, .int wc]))])) (va_Qv (fun (u : Int32 × Int32) => match u with | (wa2, wc2) => True) (fun (u : Int32 × Int32) (t : State) => match u with | (wa2, wc2) => va_P (dC, dI) vwCl [(h0, .inr (0, [.int (nI w), .int (nI b), .int wr, .ref qc, .ref qi, .int wa2, .int wc2]))] t.heap ∧ va_K (dC, dI) vwCl [] t ∧ va_D (va_A [(h0, .inr (0, [.int (nI w), .int (nI b), .int wr, .ref qc, .ref qi, .int wa, .int wc]))] sz) [(h0, .inr (0, [.int (nI w), .int (nI b), .int wr, .ref qc, .ref qi, .int wa2, .int wc2]))]) (va_A [(h0, .inr (0, [.int (nI w), .int (nI b), .int wr, .ref qc, .ref qi, .int wa, .int wc]))] sz)) 0 0 (va_A [(h0, .inr (0, [.int (nI w), .int (nI b), .int wr, .ref qc, .ref qi, .int wa, .int wc]))] sz) := by
  refine Met.ofW (cc := cX0_setCut) (maxL := 3) (ret := none) (by decide) rfl ?_
  intro p e s m args below meth c s₁ B hml hv
  obtain ⟨rfl, hsz, hP, hK, hD0⟩ := hv
  have hx := B.exec
  have hb := B.bytes
  have hr := B.returns
  have hts := atoms_spec (ws := v_X0_setCut) B.pre
  have hown : s.vm.findClass RX0 = some m.cls := findClass_of_methodNamed B.named
  have hlocks := B.notSynchronized
  subst hsz
  have hD := hD0.self (sz := s.heap.size)
  generalize hAe : va_A [(h0, .inr (0, [.int (nI w), .int (nI b), .int wr, .ref qc, .ref qi, .int wa, .int wc]))] s.heap.size = A at hD ⊢
  have hA : ∀ q : Nat, s.heap.size ≤ q → A q := fun q h => by rw [← hAe]; exact Or.inr h
  have hS : va_S A s.heap s.heap [] := va_S.rf
  have hP : va_P (dC, dI) vwCl [(h0, .inr (0, [.int (nI w), .int (nI b), .int wr, .ref qc, .ref qi, .int wa, .int wc]))] s.heap := hP
  have hl := lv_entry ([.ref h0, .int p0, .int p1]) (n := 3) (Nat.le_of_ble_eq_true rfl)
  rw [lg_entry_eq]
  generalize (lg_sl ([.ref h0, .int p0, .int p1]) ++ List.replicate (3 - (lg_sl ([.ref h0, .int p0, .int p1])).length) Slot.unset).toArray = ls at hl ⊢
  have hl : lv_has ls 3 [(0, .ref h0), (1, .int p0), (2, .int p1)] := hl
  have k_1 := hts (.code Lib.Math.max.name Lib.Math.max.code 2 (some .int)) (List.mem_of_getElem? (i := 1) rfl)
  have k_2 := hts (.methodLink RX0 26 Lib.Math.max.name) (List.mem_of_getElem? (i := 2) rfl)
  have k_3 := hts (.static Lib.Math.max.name) (List.mem_of_getElem? (i := 3) rfl)
  have k_4 := hts (.initialized "java/lang/Math") (List.mem_of_getElem? (i := 4) rfl)
  have k_5 := (fun _ h => List.mem_cons_of_mem _ (List.mem_append_right _ (List.mem_append_left _ h)) : ∀ w ∈ wsX00, w ∈ v_X0_setCut)
  have k_6 := hts (.fieldLink RX0 23 "TwinRoots$Disk" "writesAhead" "I") (List.mem_of_getElem? (i := 5) rfl)
  have k_7 := hts (.fieldLink RX0 7 "TwinRoots$Disk" "words" "I") (List.mem_of_getElem? (i := 6) rfl)
  have k_8 := hts (.code Lib.Math.min.name Lib.Math.min.code 2 (some .int)) (List.mem_of_getElem? (i := 7) rfl)
  have k_9 := hts (.methodLink RX0 32 Lib.Math.min.name) (List.mem_of_getElem? (i := 8) rfl)
  have k_10 := hts (.static Lib.Math.min.name) (List.mem_of_getElem? (i := 9) rfl)
  have k_11 := hts (.fieldLink RX0 35 "TwinRoots$Disk" "wordsOfCut" "I") (List.mem_of_getElem? (i := 10) rfl)
  refine lv_aload_n hx hb dX0_setCut_0 rfl (lv_at hl 0 rfl) ?_
  refine lv_iconst (v := -1) hx hb dX0_setCut_1 (by decide) ?_
  refine lv_iload_n hx hb dX0_setCut_2 rfl (lv_at hl 1 rfl) ?_
  refine va_mmax hx hb (by rw [hml]; exact hl.1.symm) hown k_2 k_3 k_4 k_1 (Nat.le_of_ble_eq_true rfl) (Nat.le_of_ble_eq_true rfl) (show 0 ≤ 0 by omega) (show 0 ≤ 0 by omega) dX0_setCut_3 ?_
  refine lv_topi (fun z_1 _ => ?_)
  refine va_put (D := (dC, dI)) (ci := 0) (v := .int z_1) (ty := .int) (C := RX0) (T := TX0) (N := 7) hx hb hts k_5 tyX0 tyX0_ok nmX0 hown hK hP hD hS 0 rfl rfl 5 (by decide) k_6 (fun _ h9 => h9) rfl (by decide +kernel) rfl rfl (Nat.le_of_ble_eq_true rfl) dX0_setCut_6 (fun H locs hP hD hS => ?_)
  have hP : va_P (dC, dI) vwCl [(h0, .inr (0, [.int (nI w), .int (nI b), .int wr, .ref qc, .ref qi, .int z_1, .int wc]))] H := hP
  have hD : va_D A [(h0, .inr (0, [.int (nI w), .int (nI b), .int wr, .ref qc, .ref qi, .int z_1, .int wc]))] := hD
  refine lv_aload_n hx hb dX0_setCut_9 rfl (lv_at hl 0 rfl) ?_
  refine lv_iconst (v := 0) hx hb dX0_setCut_10 (by decide) ?_
  refine lv_aload_n hx hb dX0_setCut_11 rfl (lv_at hl 0 rfl) ?_
  refine va_get (D := (dC, dI)) (ci := 0) (v := .int (nI w)) (C := RX0) (T := TX0) (N := 7) hx hb hts k_5 hown hK hP 0 rfl rfl 0 (by decide) k_7 (fun _ h9 => h9) rfl dX0_setCut_12 ?_
  refine lv_iload_n hx hb dX0_setCut_15 rfl (lv_at hl 2 rfl) ?_
  refine va_mmin hx hb (by rw [hml]; exact hl.1.symm) hown k_9 k_10 k_4 k_8 (Nat.le_of_ble_eq_true rfl) (Nat.le_of_ble_eq_true rfl) (show 0 ≤ 0 by omega) (show 0 ≤ 0 by omega) dX0_setCut_16 ?_
  refine lv_topi (fun z_2 _ => ?_)
  refine va_mmax hx hb (by rw [hml]; exact hl.1.symm) hown k_2 k_3 k_4 k_1 (Nat.le_of_ble_eq_true rfl) (Nat.le_of_ble_eq_true rfl) (show 0 ≤ 0 by omega) (show 0 ≤ 0 by omega) dX0_setCut_19 ?_
  refine lv_topi (fun z_3 _ => ?_)
  refine va_put (D := (dC, dI)) (ci := 0) (v := .int z_3) (ty := .int) (C := RX0) (T := TX0) (N := 7) hx hb hts k_5 tyX0 tyX0_ok nmX0 hown hK hP hD hS 0 rfl rfl 6 (by decide) k_11 (fun _ h9 => h9) rfl (by decide +kernel) rfl rfl (Nat.le_of_ble_eq_true rfl) dX0_setCut_22 (fun H locs hP hD hS => ?_)
  have hP : va_P (dC, dI) vwCl [(h0, .inr (0, [.int (nI w), .int (nI b), .int wr, .ref qc, .ref qi, .int z_1, .int z_3]))] H := hP
  have hD : va_D A [(h0, .inr (0, [.int (nI w), .int (nI b), .int wr, .ref qc, .ref qi, .int z_1, .int z_3]))] := hD
  have hP9 := hP.sub (ws' := [(h0, .inr (0, [.int (nI w), .int (nI b), .int wr, .ref qc, .ref qi, .int z_1, .int z_3]))]) [0] rfl
  have hD9 := hD.sub (ws' := [(h0, .inr (0, [.int (nI w), .int (nI b), .int wr, .ref qc, .ref qi, .int z_1, .int z_3]))]) [0] (by decide) rfl
  have hK9 := hK.sub (tys' := []) [] rfl
  exact W.vret hx hb hr (fun t ht hW => ⟨⟨(z_1, z_3), rfl, trivial, by rw [ht]; exact hP9, va_K.moved hW.alike hK9, hD9⟩, hS.F ht⟩) hS.2.2 dX0_setCut_25
def v_X0_cellOf : List Cond := .code yX0_cellOf cX0_cellOf 4 (some .int) :: ([.fieldLink RX0 13 "TwinRoots$Disk" "blocks" "I", .fieldLink RX0 7 "TwinRoots$Disk" "words" "I"] ++ (wsX00 ++ ([])))
set_option maxHeartbeats 4000000 in
set_option maxRecDepth 100000 in
/-- cellOf: the place of a WORD, or -1 -/
theorem c_X0_cellOf (l : Launch) (dC : Nat → ClassId) (dI : Nat → Nat → Nat) (sz : Nat) (h0 : Nat) (w : Nat) (b : Nat) (qc : Nat) (qi : Nat) (wr : Int32) (wa : Int32) (wc : Int32) (p0 : Int32) (p1 : Int32) : Met l yX0_cellOf v_X0_cellOf ({ frames := 0, cells := 0, slots := 0, locals := 0 } : Room) (va_Pc [.ref h0, .int p0, .int p1] (fun U => U.heap.size = sz ∧ va_P (dC, dI) vwCl [(h0, .inr (0, [.int (nI w), .int (nI b), .int wr, .ref qc, .ref qi, .int wa, .int wc]))] U.heap ∧ va_K (dC, dI) vwCl [] U ∧ va_D (fun _ => True) [(h0, .inr (0, [.int (nI w), .int (nI b), .int wr, .ref qc, .ref qi, .int wa, .int wc]))])) (va_Qi (fun (r : Int32) (_ : Unit) => r = cellF w b p0 p1) (fun (_ : Unit) (t : State) => va_P (dC, dI) vwCl [(h0, .inr (0, [.int (nI w), .int (nI b), .int wr, .ref qc, .ref qi, .int wa, .int wc]))] t.heap ∧ va_K (dC, dI) vwCl [] t ∧ va_D (va_A [(h0, .inr (0, [.int (nI w), .int (nI b), .int wr, .ref qc, .ref qi, .int wa, .int wc]))] sz) [(h0, .inr (0, [.int (nI w), .int (nI b), .int wr, .ref qc, .ref qi, .int wa, .int wc]))]) (va_A [(h0, .inr (0, [.int (nI w), .int (nI b), .int wr, .ref qc, .ref qi, .int wa, .int wc]))] sz)) 0 0 (va_A [(h0, .inr (0, [.int (nI w), .int (nI b), .int wr, .ref qc, .ref qi, .int wa, .int wc]))] sz) := by
  refine Met.ofW (cc := cX0_cellOf) (maxL := 4) (ret := (some .int)) (by decide) rfl ?_
  intro p e s m args below meth c s₁ B hml hv
  obtain ⟨rfl, hsz, hP, hK, hD0⟩ := hv
  have hx := B.exec
  have hb := B.bytes
  have hr := B.returns
  have hts := atoms_spec (ws := v_X0_cellOf) B.pre
  have hown : s.vm.findClass RX0 = some m.cls := findClass_of_methodNamed B.named
  have hlocks := B.notSynchronized
  subst hsz
  have hD := hD0.self (sz := s.heap.size)
  generalize hAe : va_A [(h0, .inr (0, [.int (nI w), .int (nI b), .int wr, .ref qc, .ref qi, .int wa, .int wc]))] s.heap.size = A at hD ⊢
  have hA : ∀ q : Nat, s.heap.size ≤ q → A q := fun q h => by rw [← hAe]; exact Or.inr h
  have hS : va_S A s.heap s.heap [] := va_S.rf
  have hP : va_P (dC, dI) vwCl [(h0, .inr (0, [.int (nI w), .int (nI b), .int wr, .ref qc, .ref qi, .int wa, .int wc]))] s.heap := hP
  have hl := lv_entry ([.ref h0, .int p0, .int p1]) (n := 4) (Nat.le_of_ble_eq_true rfl)
  rw [lg_entry_eq]
  generalize (lg_sl ([.ref h0, .int p0, .int p1]) ++ List.replicate (4 - (lg_sl ([.ref h0, .int p0, .int p1])).length) Slot.unset).toArray = ls at hl ⊢
  have hl : lv_has ls 4 [(0, .ref h0), (1, .int p0), (2, .int p1)] := hl
  have k_1 := (fun _ h => List.mem_cons_of_mem _ (List.mem_append_right _ (List.mem_append_left _ h)) : ∀ w ∈ wsX00, w ∈ v_X0_cellOf)
  have k_2 := hts (.fieldLink RX0 13 "TwinRoots$Disk" "blocks" "I") (List.mem_of_getElem? (i := 1) rfl)
  have k_3 := hts (.fieldLink RX0 7 "TwinRoots$Disk" "words" "I") (List.mem_of_getElem? (i := 2) rfl)
  refine lv_iload_n hx hb dX0_cellOf_0 rfl (lv_at hl 1 rfl) ?_
  refine lv_if_lt (tgt := 28) hx hb dX0_cellOf_1 (by decide) (fun c_1 => ?_) (fun c_1 => ?_)
  · refine lv_iconst (v := 0) hx hb dX0_cellOf_28 (by decide) ?_
    refine lv_istore_n (lv' := [(3, .int 0), (0, .ref h0), (1, .int p0), (2, .int p1)]) hx hb dX0_cellOf_29 rfl hl (by decide) rfl (fun ls hl => ?_)
    refine lv_iload_n hx hb dX0_cellOf_30 rfl (lv_at hl 0 rfl) ?_
    refine lv_if_eq (tgt := 45) hx hb dX0_cellOf_31 (by decide) (fun c_2 => ?_) (fun c_2 => ?_)
    rotate_left
    · exact absurd (by decide) c_2
    refine lv_iconst (v := -1) hx hb dX0_cellOf_45 (by decide) ?_
    have hP9 := hP.sub (ws' := [(h0, .inr (0, [.int (nI w), .int (nI b), .int wr, .ref qc, .ref qi, .int wa, .int wc]))]) [0] rfl
    have hD9 := hD.sub (ws' := [(h0, .inr (0, [.int (nI w), .int (nI b), .int wr, .ref qc, .ref qi, .int wa, .int wc]))]) [0] (by decide) rfl
    have hK9 := hK.sub (tys' := []) [] rfl
    exact W.iret (v := (-1)) hx hb hr (fun t ht hW => ⟨⟨(-1), (), rfl, by simp [cellF, c_1], by rw [ht]; exact hP9, va_K.moved hW.alike hK9, hD9⟩, hS.F ht⟩) hS.2.2 dX0_cellOf_46
  · refine lv_iload_n hx hb dX0_cellOf_4 rfl (lv_at hl 1 rfl) ?_
    refine lv_aload_n hx hb dX0_cellOf_5 rfl (lv_at hl 0 rfl) ?_
    refine va_get (D := (dC, dI)) (ci := 0) (v := .int (nI b)) (C := RX0) (T := TX0) (N := 7) hx hb hts k_1 hown hK hP 0 rfl rfl 1 (by decide) k_2 (fun _ h9 => h9) rfl dX0_cellOf_6 ?_
    refine lv_icmp_ge (tgt := 28) hx hb dX0_cellOf_9 (by decide) (fun c_3 => ?_) (fun c_3 => ?_)
    · refine lv_iconst (v := 0) hx hb dX0_cellOf_28 (by decide) ?_
      refine lv_istore_n (lv' := [(3, .int 0), (0, .ref h0), (1, .int p0), (2, .int p1)]) hx hb dX0_cellOf_29 rfl hl (by decide) rfl (fun ls hl => ?_)
      refine lv_iload_n hx hb dX0_cellOf_30 rfl (lv_at hl 0 rfl) ?_
      refine lv_if_eq (tgt := 45) hx hb dX0_cellOf_31 (by decide) (fun c_4 => ?_) (fun c_4 => ?_)
      rotate_left
      · exact absurd (by decide) c_4
      refine lv_iconst (v := -1) hx hb dX0_cellOf_45 (by decide) ?_
      have hP9 := hP.sub (ws' := [(h0, .inr (0, [.int (nI w), .int (nI b), .int wr, .ref qc, .ref qi, .int wa, .int wc]))]) [0] rfl
      have hD9 := hD.sub (ws' := [(h0, .inr (0, [.int (nI w), .int (nI b), .int wr, .ref qc, .ref qi, .int wa, .int wc]))]) [0] (by decide) rfl
      have hK9 := hK.sub (tys' := []) [] rfl
      exact W.iret (v := (-1)) hx hb hr (fun t ht hW => ⟨⟨(-1), (), rfl, by simp [cellF, c_1, c_3], by rw [ht]; exact hP9, va_K.moved hW.alike hK9, hD9⟩, hS.F ht⟩) hS.2.2 dX0_cellOf_46
    · refine lv_iload_n hx hb dX0_cellOf_12 rfl (lv_at hl 2 rfl) ?_
      refine lv_if_lt (tgt := 28) hx hb dX0_cellOf_13 (by decide) (fun c_5 => ?_) (fun c_5 => ?_)
      · refine lv_iconst (v := 0) hx hb dX0_cellOf_28 (by decide) ?_
        refine lv_istore_n (lv' := [(3, .int 0), (0, .ref h0), (1, .int p0), (2, .int p1)]) hx hb dX0_cellOf_29 rfl hl (by decide) rfl (fun ls hl => ?_)
        refine lv_iload_n hx hb dX0_cellOf_30 rfl (lv_at hl 0 rfl) ?_
        refine lv_if_eq (tgt := 45) hx hb dX0_cellOf_31 (by decide) (fun c_6 => ?_) (fun c_6 => ?_)
        rotate_left
        · exact absurd (by decide) c_6
        refine lv_iconst (v := -1) hx hb dX0_cellOf_45 (by decide) ?_
        have hP9 := hP.sub (ws' := [(h0, .inr (0, [.int (nI w), .int (nI b), .int wr, .ref qc, .ref qi, .int wa, .int wc]))]) [0] rfl
        have hD9 := hD.sub (ws' := [(h0, .inr (0, [.int (nI w), .int (nI b), .int wr, .ref qc, .ref qi, .int wa, .int wc]))]) [0] (by decide) rfl
        have hK9 := hK.sub (tys' := []) [] rfl
        exact W.iret (v := (-1)) hx hb hr (fun t ht hW => ⟨⟨(-1), (), rfl, by simp [cellF, c_1, c_3, c_5], by rw [ht]; exact hP9, va_K.moved hW.alike hK9, hD9⟩, hS.F ht⟩) hS.2.2 dX0_cellOf_46
      · refine lv_iload_n hx hb dX0_cellOf_16 rfl (lv_at hl 2 rfl) ?_
        refine lv_aload_n hx hb dX0_cellOf_17 rfl (lv_at hl 0 rfl) ?_
        refine va_get (D := (dC, dI)) (ci := 0) (v := .int (nI w)) (C := RX0) (T := TX0) (N := 7) hx hb hts k_1 hown hK hP 0 rfl rfl 0 (by decide) k_3 (fun _ h9 => h9) rfl dX0_cellOf_18 ?_
        refine lv_icmp_ge (tgt := 28) hx hb dX0_cellOf_21 (by decide) (fun c_7 => ?_) (fun c_7 => ?_)
        · refine lv_iconst (v := 0) hx hb dX0_cellOf_28 (by decide) ?_
          refine lv_istore_n (lv' := [(3, .int 0), (0, .ref h0), (1, .int p0), (2, .int p1)]) hx hb dX0_cellOf_29 rfl hl (by decide) rfl (fun ls hl => ?_)
          refine lv_iload_n hx hb dX0_cellOf_30 rfl (lv_at hl 0 rfl) ?_
          refine lv_if_eq (tgt := 45) hx hb dX0_cellOf_31 (by decide) (fun c_8 => ?_) (fun c_8 => ?_)
          rotate_left
          · exact absurd (by decide) c_8
          refine lv_iconst (v := -1) hx hb dX0_cellOf_45 (by decide) ?_
          have hP9 := hP.sub (ws' := [(h0, .inr (0, [.int (nI w), .int (nI b), .int wr, .ref qc, .ref qi, .int wa, .int wc]))]) [0] rfl
          have hD9 := hD.sub (ws' := [(h0, .inr (0, [.int (nI w), .int (nI b), .int wr, .ref qc, .ref qi, .int wa, .int wc]))]) [0] (by decide) rfl
          have hK9 := hK.sub (tys' := []) [] rfl
          exact W.iret (v := (-1)) hx hb hr (fun t ht hW => ⟨⟨(-1), (), rfl, by simp [cellF, c_1, c_3, c_5, c_7], by rw [ht]; exact hP9, va_K.moved hW.alike hK9, hD9⟩, hS.F ht⟩) hS.2.2 dX0_cellOf_46
        · refine lv_iconst (v := 1) hx hb dX0_cellOf_24 (by decide) ?_
          refine lv_goto (tgt := 29) hx hb dX0_cellOf_25 (by decide) ?_
          refine lv_istore_n (lv' := [(3, .int 1), (0, .ref h0), (1, .int p0), (2, .int p1)]) hx hb dX0_cellOf_29 rfl hl (by decide) rfl (fun ls hl => ?_)
          refine lv_iload_n hx hb dX0_cellOf_30 rfl (lv_at hl 0 rfl) ?_
          refine lv_if_eq (tgt := 45) hx hb dX0_cellOf_31 (by decide) (fun c_9 => ?_) (fun c_9 => ?_)
          · exact absurd c_9 (by decide)
          refine lv_iload_n hx hb dX0_cellOf_34 rfl (lv_at hl 2 rfl) ?_
          refine lv_aload_n hx hb dX0_cellOf_35 rfl (lv_at hl 1 rfl) ?_
          refine va_get (D := (dC, dI)) (ci := 0) (v := .int (nI w)) (C := RX0) (T := TX0) (N := 7) hx hb hts k_1 hown hK hP 0 rfl rfl 0 (by decide) k_3 (fun _ h9 => h9) rfl dX0_cellOf_36 ?_
          refine lv_imul hx hb dX0_cellOf_39 ?_
          refine lv_iload_n hx hb dX0_cellOf_40 rfl (lv_at hl 3 rfl) ?_
          refine lv_iadd hx hb dX0_cellOf_41 ?_
          refine lv_goto (tgt := 46) hx hb dX0_cellOf_42 (by decide) ?_
          have hP9 := hP.sub (ws' := [(h0, .inr (0, [.int (nI w), .int (nI b), .int wr, .ref qc, .ref qi, .int wa, .int wc]))]) [0] rfl
          have hD9 := hD.sub (ws' := [(h0, .inr (0, [.int (nI w), .int (nI b), .int wr, .ref qc, .ref qi, .int wa, .int wc]))]) [0] (by decide) rfl
          have hK9 := hK.sub (tys' := []) [] rfl
          exact W.iret (v := ((p0 * (nI w)) + p1)) hx hb hr (fun t ht hW => ⟨⟨((p0 * (nI w)) + p1), (), rfl, by simp [cellF, c_1, c_3, c_5, c_7], by rw [ht]; exact hP9, va_K.moved hW.alike hK9, hD9⟩, hS.F ht⟩) hS.2.2 dX0_cellOf_46
def v_X0_read_any : List Cond := .code yX0_read cX0_read 4 (some .int) :: ([.code yX0_cellOf cX0_cellOf 4 (some .int), .fieldLink RX0 13 "TwinRoots$Disk" "blocks" "I", .fieldLink RX0 7 "TwinRoots$Disk" "words" "I", .methodLink RX0 38 yX0_cellOf, .instanceMethod yX0_cellOf, .selects RX0 yX0_cellOf yX0_cellOf, .initialized RX0, .fieldLink RX0 16 "TwinRoots$Disk" "cells" "[I"] ++ (wsX00 ++ ([])))
set_option maxRecDepth 20000 in
theorem g_X0_read_any_X0_cellOf : GoodIn v_X0_read_any (wsV RX0 38 RX0 yX0_cellOf v_X0_cellOf) := goodIn_r _ [4, 5, 6, 7, 1, 2, 3, 9, 10, 11, 12, 13, 14, 15] (by decide +kernel) (by decide +kernel)
set_option maxHeartbeats 4000000 in
set_option maxRecDepth 100000 in
/-- read on any disk: some number -/
theorem c_X0_read_any (l : Launch) (dC : Nat → ClassId) (dI : Nat → Nat → Nat) (sz : Nat) (h0 : Nat) (w : Nat) (b : Nat) (qc : Nat) (qi : Nat) (wr : Int32) (wa : Int32) (wc : Int32) (p0 : Int32) (p1 : Int32) (cC : ClassId) (f : Nat → Int32) (zw0 : 12 ≤ w) (zw : w ≤ 40) (zb0 : 4 ≤ b) (zb : b ≤ 64) (zwb : w * b ≤ 2560) : Met l yX0_read v_X0_read_any ({ frames := 1, cells := 0, slots := 0, locals := 23 } : Room) (va_Pc [.ref h0, .int p0, .int p1] (fun U => U.heap.size = sz ∧ va_P (dC, dI) vwCl [(h0, .inr (0, [.int (nI w), .int (nI b), .int wr, .ref qc, .ref qi, .int wa, .int wc])), (qc, .inl (cC, w * b, .inl f))] U.heap ∧ va_K (dC, dI) vwCl [(cC, .int)] U ∧ va_D (fun _ => True) [(h0, .inr (0, [.int (nI w), .int (nI b), .int wr, .ref qc, .ref qi, .int wa, .int wc])), (qc, .inl (cC, w * b, .inl f))])) (va_Qi (fun (r : Int32) (_ : Unit) => True) (fun (_ : Unit) (t : State) => va_P (dC, dI) vwCl [(h0, .inr (0, [.int (nI w), .int (nI b), .int wr, .ref qc, .ref qi, .int wa, .int wc])), (qc, .inl (cC, w * b, .inl f))] t.heap ∧ va_K (dC, dI) vwCl [(cC, .int)] t ∧ va_D (va_A [(h0, .inr (0, [.int (nI w), .int (nI b), .int wr, .ref qc, .ref qi, .int wa, .int wc])), (qc, .inl (cC, w * b, .inl f))] sz) [(h0, .inr (0, [.int (nI w), .int (nI b), .int wr, .ref qc, .ref qi, .int wa, .int wc])), (qc, .inl (cC, w * b, .inl f))]) (va_A [(h0, .inr (0, [.int (nI w), .int (nI b), .int wr, .ref qc, .ref qi, .int wa, .int wc])), (qc, .inl (cC, w * b, .inl f))] sz)) 0 0 (va_A [(h0, .inr (0, [.int (nI w), .int (nI b), .int wr, .ref qc, .ref qi, .int wa, .int wc])), (qc, .inl (cC, w * b, .inl f))] sz) := by
  refine Met.ofW (cc := cX0_read) (maxL := 4) (ret := (some .int)) (by decide) rfl ?_
  intro p e s m args below meth c s₁ B hml hv
  obtain ⟨rfl, hsz, hP, hK, hD0⟩ := hv
  have hx := B.exec
  have hb := B.bytes
  have hr := B.returns
  have hts := atoms_spec (ws := v_X0_read_any) B.pre
  have hown : s.vm.findClass RX0 = some m.cls := findClass_of_methodNamed B.named
  have hlocks := B.notSynchronized
  subst hsz
  have hD := hD0.self (sz := s.heap.size)
  generalize hAe : va_A [(h0, .inr (0, [.int (nI w), .int (nI b), .int wr, .ref qc, .ref qi, .int wa, .int wc])), (qc, .inl (cC, w * b, .inl f))] s.heap.size = A at hD ⊢
  have hA : ∀ q : Nat, s.heap.size ≤ q → A q := fun q h => by rw [← hAe]; exact Or.inr h
  have hS : va_S A s.heap s.heap [] := va_S.rf
  have hP : va_P (dC, dI) vwCl [(h0, .inr (0, [.int (nI w), .int (nI b), .int wr, .ref qc, .ref qi, .int wa, .int wc])), (qc, .inl (cC, w * b, .inl f))] s.heap := hP
  have hl := lv_entry ([.ref h0, .int p0, .int p1]) (n := 4) (Nat.le_of_ble_eq_true rfl)
  rw [lg_entry_eq]
  generalize (lg_sl ([.ref h0, .int p0, .int p1]) ++ List.replicate (4 - (lg_sl ([.ref h0, .int p0, .int p1])).length) Slot.unset).toArray = ls at hl ⊢
  have hl : lv_has ls 4 [(0, .ref h0), (1, .int p0), (2, .int p1)] := hl
  have k_1 := (fun _ h => List.mem_cons_of_mem _ (List.mem_append_right _ (List.mem_append_left _ h)) : ∀ w ∈ wsX00, w ∈ v_X0_read_any)
  have k_2 := hts (.fieldLink RX0 16 "TwinRoots$Disk" "cells" "[I") (List.mem_of_getElem? (i := 8) rfl)
  refine lv_aload_n hx hb dX0_read_0 rfl (lv_at hl 0 rfl) ?_
  refine lv_iload_n hx hb dX0_read_1 rfl (lv_at hl 1 rfl) ?_
  refine lv_iload_n hx hb dX0_read_2 rfl (lv_at hl 2 rfl) ?_
  have hPc := hP.sub (ws' := [(h0, .inr (0, [.int (nI w), .int (nI b), .int wr, .ref qc, .ref qi, .int wa, .int wc]))]) [0] rfl
  have hDc := hD.sub (ws' := [(h0, .inr (0, [.int (nI w), .int (nI b), .int wr, .ref qc, .ref qi, .int wa, .int wc]))]) [0] (by decide) rfl
  have hKc := hK.sub (tys' := []) [] rfl
  have hFc := va_free (wc := [(h0, .inr (0, [.int (nI w), .int (nI b), .int wr, .ref qc, .ref qi, .int wa, .int wc]))]) hD hS hA [0] rfl
  refine va_calli (va_runV (As := [.int p0, .int p1]) (rest := []) ⟨hx, hb, hml, hown, hts⟩ (c_X0_cellOf l dC dI s.heap.size h0 w b qc qi wr wa wc p0 p1) (cwV 2 hts g_X0_read_any_X0_cellOf rfl rfl rfl (by decide +kernel) ⟨Nat.le_of_ble_eq_true rfl, Nat.le_of_ble_eq_true rfl⟩) ⟨fun a U g mk q => by obtain ⟨q0, q1, qP, qK, qD⟩ := q; exact ⟨q0, q1, qP, va_K.moved (u := U) (U := U.calling g mk a) (Vm.Alike.refl U.vm) qK, qD⟩, va_recv hKc hPc (ci := 0) (q0 := 0) rfl rfl, fun U hU hW => ⟨rfl, by rw [hU], by rw [hU]; exact hPc, va_K.moved hW.alike hKc, hDc.weaken (fun _ _ _ _ => trivial)⟩⟩ rfl rfl hl.1 rfl (lv_room (Nat.le_of_ble_eq_true rfl)) dX0_read_3 ⟨(show 0 + 0 ≤ 0 by omega), (show 0 + 0 ≤ 0 by omega)⟩) hS (fun q _ h => hFc q h) hFc (fun r_1 u t H1 locs ht hvm hw hB hz1 hk1 hS => ?_)
  obtain ⟨hP1, hK1, hD1⟩ := hB
  rw [ht] at hP1
  have hK1 := va_K.moved hvm.symm hK1
  try dsimp only at hw
  obtain ⟨hP, hD⟩ := va_join (wr := [(qc, .inl (cC, w * b, .inl f))]) (w1 := [(h0, .inr (0, [.int (nI w), .int (nI b), .int wr, .ref qc, .ref qi, .int wa, .int wc]))]) hP hD [0] [1] rfl rfl (by decide) (by decide) hk1 hFc hP1 hD1
  have hK := (hK.sub (tys' := [(cC, .int)]) [0] rfl).app hK1
  generalize H1 = H at hP hS ⊢
  have hP : va_P (dC, dI) vwCl [(qc, .inl (cC, w * b, .inl f)), (h0, .inr (0, [.int (nI w), .int (nI b), .int wr, .ref qc, .ref qi, .int wa, .int wc]))] H := hP
  have hD : va_D A [(qc, .inl (cC, w * b, .inl f)), (h0, .inr (0, [.int (nI w), .int (nI b), .int wr, .ref qc, .ref qi, .int wa, .int wc]))] := hD
  have hK : va_K (dC, dI) vwCl [(cC, .int)] s := hK
  obtain rfl : r_1 = cellF w b p0 p1 := hw
  refine lv_istore_n (lv' := [(3, .int (cellF w b p0 p1)), (0, .ref h0), (1, .int p0), (2, .int p1)]) hx hb dX0_read_6 rfl hl (by decide) rfl (fun ls hl => ?_)
  refine lv_iload_n hx hb dX0_read_7 rfl (lv_at hl 0 rfl) ?_
  refine lv_if_lt (tgt := 29) hx hb dX0_read_8 (by decide) (fun c_2 => ?_) (fun c_2 => ?_)
  · refine lv_iconst (v := 0) hx hb dX0_read_29 (by decide) ?_
    have hP9 := hP.sub (ws' := [(h0, .inr (0, [.int (nI w), .int (nI b), .int wr, .ref qc, .ref qi, .int wa, .int wc])), (qc, .inl (cC, w * b, .inl f))]) [1, 0] rfl
    have hD9 := hD.sub (ws' := [(h0, .inr (0, [.int (nI w), .int (nI b), .int wr, .ref qc, .ref qi, .int wa, .int wc])), (qc, .inl (cC, w * b, .inl f))]) [1, 0] (by decide) rfl
    have hK9 := hK.sub (tys' := [(cC, .int)]) [0] rfl
    exact W.iret (v := 0) hx hb hr (fun t ht hW => ⟨⟨0, (), rfl, trivial, by rw [ht]; exact hP9, va_K.moved hW.alike hK9, hD9⟩, hS.F ht⟩) hS.2.2 dX0_read_30
  · refine lv_iload_n hx hb dX0_read_11 rfl (lv_at hl 0 rfl) ?_
    refine lv_aload_n hx hb dX0_read_12 rfl (lv_at hl 1 rfl) ?_
    refine va_get (D := (dC, dI)) (ci := 0) (v := .ref qc) (C := RX0) (T := TX0) (N := 7) hx hb hts k_1 hown hK hP 1 rfl rfl 3 (by decide) k_2 (fun _ h9 => h9) rfl dX0_read_13 ?_
    refine va_alen (v := nI (w * b)) hx hb hK hP 0 0 rfl rfl rfl dX0_read_16 ?_
    refine lv_icmp_ge (tgt := 29) hx hb dX0_read_17 (by decide) (fun c_3 => ?_) (fun c_3 => ?_)
    · refine lv_iconst (v := 0) hx hb dX0_read_29 (by decide) ?_
      have hP9 := hP.sub (ws' := [(h0, .inr (0, [.int (nI w), .int (nI b), .int wr, .ref qc, .ref qi, .int wa, .int wc])), (qc, .inl (cC, w * b, .inl f))]) [1, 0] rfl
      have hD9 := hD.sub (ws' := [(h0, .inr (0, [.int (nI w), .int (nI b), .int wr, .ref qc, .ref qi, .int wa, .int wc])), (qc, .inl (cC, w * b, .inl f))]) [1, 0] (by decide) rfl
      have hK9 := hK.sub (tys' := [(cC, .int)]) [0] rfl
      exact W.iret (v := 0) hx hb hr (fun t ht hW => ⟨⟨0, (), rfl, trivial, by rw [ht]; exact hP9, va_K.moved hW.alike hK9, hD9⟩, hS.F ht⟩) hS.2.2 dX0_read_30
    · refine lv_aload_n hx hb dX0_read_20 rfl (lv_at hl 1 rfl) ?_
      refine va_get (D := (dC, dI)) (ci := 0) (v := .ref qc) (C := RX0) (T := TX0) (N := 7) hx hb hts k_1 hown hK hP 1 rfl rfl 3 (by decide) k_2 (fun _ h9 => h9) rfl dX0_read_21 ?_
      refine lv_iload_n hx hb dX0_read_24 rfl (lv_at hl 0 rfl) ?_
      refine va_iald hx hb hK hP 0 0 rfl rfl (in_guard c_2 c_3 (by omega)) dX0_read_25 ?_
      refine lv_topi (fun z_4 _ => ?_)
      refine lv_goto (tgt := 30) hx hb dX0_read_26 (by decide) ?_
      have hP9 := hP.sub (ws' := [(h0, .inr (0, [.int (nI w), .int (nI b), .int wr, .ref qc, .ref qi, .int wa, .int wc])), (qc, .inl (cC, w * b, .inl f))]) [1, 0] rfl
      have hD9 := hD.sub (ws' := [(h0, .inr (0, [.int (nI w), .int (nI b), .int wr, .ref qc, .ref qi, .int wa, .int wc])), (qc, .inl (cC, w * b, .inl f))]) [1, 0] (by decide) rfl
      have hK9 := hK.sub (tys' := [(cC, .int)]) [0] rfl
      exact W.iret (v := z_4) hx hb hr (fun t ht hW => ⟨⟨z_4, (), rfl, trivial, by rw [ht]; exact hP9, va_K.moved hW.alike hK9, hD9⟩, hS.F ht⟩) hS.2.2 dX0_read_30
def v_X0_turn : List Cond := .code yX0_turn cX0_turn 5 (some .boolean) :: ([.code yX0_cellOf cX0_cellOf 4 (some .int), .fieldLink RX0 13 "TwinRoots$Disk" "blocks" "I", .fieldLink RX0 7 "TwinRoots$Disk" "words" "I", .methodLink RX0 38 yX0_cellOf, .instanceMethod yX0_cellOf, .selects RX0 yX0_cellOf yX0_cellOf, .initialized RX0, .fieldLink RX0 16 "TwinRoots$Disk" "cells" "[I"] ++ (wsX00 ++ ([])))
set_option maxRecDepth 20000 in
theorem g_X0_turn_X0_cellOf : GoodIn v_X0_turn (wsV RX0 38 RX0 yX0_cellOf v_X0_cellOf) := goodIn_r _ [4, 5, 6, 7, 1, 2, 3, 9, 10, 11, 12, 13, 14, 15] (by decide +kernel) (by decide +kernel)
set_option maxHeartbeats 4000000 in
set_option maxRecDepth 100000 in
/-- turn: whether the WORD is there -/
theorem c_X0_turn (l : Launch) (dC : Nat → ClassId) (dI : Nat → Nat → Nat) (sz : Nat) (h0 : Nat) (w : Nat) (b : Nat) (qc : Nat) (qi : Nat) (wr : Int32) (wa : Int32) (wc : Int32) (p0 : Int32) (p1 : Int32) (p2 : Int32) (cC : ClassId) (f : Nat → Int32) (zw0 : 12 ≤ w) (zw : w ≤ 40) (zb0 : 4 ≤ b) (zb : b ≤ 64) (zwb : w * b ≤ 2560) : Met l yX0_turn v_X0_turn ({ frames := 1, cells := 0, slots := 0, locals := 23 } : Room) (va_Pc [.ref h0, .int p0, .int p1, .int p2] (fun U => U.heap.size = sz ∧ va_P (dC, dI) vwCl [(h0, .inr (0, [.int (nI w), .int (nI b), .int wr, .ref qc, .ref qi, .int wa, .int wc])), (qc, .inl (cC, w * b, .inl f))] U.heap ∧ va_K (dC, dI) vwCl [(cC, .int)] U ∧ va_D (fun _ => True) [(h0, .inr (0, [.int (nI w), .int (nI b), .int wr, .ref qc, .ref qi, .int wa, .int wc])), (qc, .inl (cC, w * b, .inl f))])) (va_Qi (fun (r : Int32) (f2 : Nat → Int32) => r = decF w b p0 p1) (fun (f2 : Nat → Int32) (t : State) => va_P (dC, dI) vwCl [(h0, .inr (0, [.int (nI w), .int (nI b), .int wr, .ref qc, .ref qi, .int wa, .int wc])), (qc, .inl (cC, w * b, .inl f2))] t.heap ∧ va_K (dC, dI) vwCl [(cC, .int)] t ∧ va_D (va_A [(h0, .inr (0, [.int (nI w), .int (nI b), .int wr, .ref qc, .ref qi, .int wa, .int wc])), (qc, .inl (cC, w * b, .inl f))] sz) [(h0, .inr (0, [.int (nI w), .int (nI b), .int wr, .ref qc, .ref qi, .int wa, .int wc])), (qc, .inl (cC, w * b, .inl f2))]) (va_A [(h0, .inr (0, [.int (nI w), .int (nI b), .int wr, .ref qc, .ref qi, .int wa, .int wc])), (qc, .inl (cC, w * b, .inl f))] sz)) 0 0 (va_A [(h0, .inr (0, [.int (nI w), .int (nI b), .int wr, .ref qc, .ref qi, .int wa, .int wc])), (qc, .inl (cC, w * b, .inl f))] sz) := by
  refine Met.ofW (cc := cX0_turn) (maxL := 5) (ret := (some .boolean)) (by decide) rfl ?_
  intro p e s m args below meth c s₁ B hml hv
  obtain ⟨rfl, hsz, hP, hK, hD0⟩ := hv
  have hx := B.exec
  have hb := B.bytes
  have hr := B.returns
  have hts := atoms_spec (ws := v_X0_turn) B.pre
  have hown : s.vm.findClass RX0 = some m.cls := findClass_of_methodNamed B.named
  have hlocks := B.notSynchronized
  subst hsz
  have hD := hD0.self (sz := s.heap.size)
  generalize hAe : va_A [(h0, .inr (0, [.int (nI w), .int (nI b), .int wr, .ref qc, .ref qi, .int wa, .int wc])), (qc, .inl (cC, w * b, .inl f))] s.heap.size = A at hD ⊢
  have hA : ∀ q : Nat, s.heap.size ≤ q → A q := fun q h => by rw [← hAe]; exact Or.inr h
  have hS : va_S A s.heap s.heap [] := va_S.rf
  have hP : va_P (dC, dI) vwCl [(h0, .inr (0, [.int (nI w), .int (nI b), .int wr, .ref qc, .ref qi, .int wa, .int wc])), (qc, .inl (cC, w * b, .inl f))] s.heap := hP
  have hl := lv_entry ([.ref h0, .int p0, .int p1, .int p2]) (n := 5) (Nat.le_of_ble_eq_true rfl)
  rw [lg_entry_eq]
  generalize (lg_sl ([.ref h0, .int p0, .int p1, .int p2]) ++ List.replicate (5 - (lg_sl ([.ref h0, .int p0, .int p1, .int p2])).length) Slot.unset).toArray = ls at hl ⊢
  have hl : lv_has ls 5 [(0, .ref h0), (1, .int p0), (2, .int p1), (3, .int p2)] := hl
  have k_1 := (fun _ h => List.mem_cons_of_mem _ (List.mem_append_right _ (List.mem_append_left _ h)) : ∀ w ∈ wsX00, w ∈ v_X0_turn)
  have k_2 := hts (.fieldLink RX0 16 "TwinRoots$Disk" "cells" "[I") (List.mem_of_getElem? (i := 8) rfl)
  refine lv_aload_n hx hb dX0_turn_0 rfl (lv_at hl 0 rfl) ?_
  refine lv_iload_n hx hb dX0_turn_1 rfl (lv_at hl 1 rfl) ?_
  refine lv_iload_n hx hb dX0_turn_2 rfl (lv_at hl 2 rfl) ?_
  have hPc := hP.sub (ws' := [(h0, .inr (0, [.int (nI w), .int (nI b), .int wr, .ref qc, .ref qi, .int wa, .int wc]))]) [0] rfl
  have hDc := hD.sub (ws' := [(h0, .inr (0, [.int (nI w), .int (nI b), .int wr, .ref qc, .ref qi, .int wa, .int wc]))]) [0] (by decide) rfl
  have hKc := hK.sub (tys' := []) [] rfl
  have hFc := va_free (wc := [(h0, .inr (0, [.int (nI w), .int (nI b), .int wr, .ref qc, .ref qi, .int wa, .int wc]))]) hD hS hA [0] rfl
  refine va_calli (va_runV (As := [.int p0, .int p1]) (rest := []) ⟨hx, hb, hml, hown, hts⟩ (c_X0_cellOf l dC dI s.heap.size h0 w b qc qi wr wa wc p0 p1) (cwV 2 hts g_X0_turn_X0_cellOf rfl rfl rfl (by decide +kernel) ⟨Nat.le_of_ble_eq_true rfl, Nat.le_of_ble_eq_true rfl⟩) ⟨fun a U g mk q => by obtain ⟨q0, q1, qP, qK, qD⟩ := q; exact ⟨q0, q1, qP, va_K.moved (u := U) (U := U.calling g mk a) (Vm.Alike.refl U.vm) qK, qD⟩, va_recv hKc hPc (ci := 0) (q0 := 0) rfl rfl, fun U hU hW => ⟨rfl, by rw [hU], by rw [hU]; exact hPc, va_K.moved hW.alike hKc, hDc.weaken (fun _ _ _ _ => trivial)⟩⟩ rfl rfl hl.1 rfl (lv_room (Nat.le_of_ble_eq_true rfl)) dX0_turn_3 ⟨(show 0 + 0 ≤ 0 by omega), (show 0 + 0 ≤ 0 by omega)⟩) hS (fun q _ h => hFc q h) hFc (fun r_1 u t H1 locs ht hvm hw hB hz1 hk1 hS => ?_)
  obtain ⟨hP1, hK1, hD1⟩ := hB
  rw [ht] at hP1
  have hK1 := va_K.moved hvm.symm hK1
  try dsimp only at hw
  obtain ⟨hP, hD⟩ := va_join (wr := [(qc, .inl (cC, w * b, .inl f))]) (w1 := [(h0, .inr (0, [.int (nI w), .int (nI b), .int wr, .ref qc, .ref qi, .int wa, .int wc]))]) hP hD [0] [1] rfl rfl (by decide) (by decide) hk1 hFc hP1 hD1
  have hK := (hK.sub (tys' := [(cC, .int)]) [0] rfl).app hK1
  generalize H1 = H at hP hS ⊢
  have hP : va_P (dC, dI) vwCl [(qc, .inl (cC, w * b, .inl f)), (h0, .inr (0, [.int (nI w), .int (nI b), .int wr, .ref qc, .ref qi, .int wa, .int wc]))] H := hP
  have hD : va_D A [(qc, .inl (cC, w * b, .inl f)), (h0, .inr (0, [.int (nI w), .int (nI b), .int wr, .ref qc, .ref qi, .int wa, .int wc]))] := hD
  have hK : va_K (dC, dI) vwCl [(cC, .int)] s := hK
  obtain rfl : r_1 = cellF w b p0 p1 := hw
  refine lv_istore (lv' := [(4, .int (cellF w b p0 p1)), (0, .ref h0), (1, .int p0), (2, .int p1), (3, .int p2)]) hx hb dX0_turn_6 hl (by decide) rfl (fun ls hl => ?_)
  refine lv_iload hx hb dX0_turn_8 (lv_at hl 0 rfl) ?_
  refine lv_if_lt (tgt := 23) hx hb dX0_turn_10 (by decide) (fun c_2 => ?_) (fun c_2 => ?_)
  · refine lv_iconst (v := 0) hx hb dX0_turn_23 (by decide) ?_
    have hP9 := hP.sub (ws' := [(h0, .inr (0, [.int (nI w), .int (nI b), .int wr, .ref qc, .ref qi, .int wa, .int wc])), (qc, .inl (cC, w * b, .inl f))]) [1, 0] rfl
    have hD9 := hD.sub (ws' := [(h0, .inr (0, [.int (nI w), .int (nI b), .int wr, .ref qc, .ref qi, .int wa, .int wc])), (qc, .inl (cC, w * b, .inl f))]) [1, 0] (by decide) rfl
    have hK9 := hK.sub (tys' := [(cC, .int)]) [0] rfl
    exact W.zret (v := 0) hx hb hr rfl (fun t ht hW => ⟨⟨0, (f), rfl, (decF_lt zw0 zw zb0 zb zwb c_2).symm, by rw [ht]; exact hP9, va_K.moved hW.alike hK9, hD9⟩, hS.F ht⟩) hS.2.2 dX0_turn_24
  · refine lv_iload hx hb dX0_turn_13 (lv_at hl 0 rfl) ?_
    refine lv_aload_n hx hb dX0_turn_15 rfl (lv_at hl 1 rfl) ?_
    refine va_get (D := (dC, dI)) (ci := 0) (v := .ref qc) (C := RX0) (T := TX0) (N := 7) hx hb hts k_1 hown hK hP 1 rfl rfl 3 (by decide) k_2 (fun _ h9 => h9) rfl dX0_turn_16 ?_
    refine va_alen (v := nI (w * b)) hx hb hK hP 0 0 rfl rfl rfl dX0_turn_19 ?_
    refine lv_icmp_lt (tgt := 25) hx hb dX0_turn_20 (by decide) (fun c_3 => ?_) (fun c_3 => ?_)
    · refine lv_aload_n hx hb dX0_turn_25 rfl (lv_at hl 1 rfl) ?_
      refine va_get (D := (dC, dI)) (ci := 0) (v := .ref qc) (C := RX0) (T := TX0) (N := 7) hx hb hts k_1 hown hK hP 1 rfl rfl 3 (by decide) k_2 (fun _ h9 => h9) rfl dX0_turn_26 ?_
      refine lv_iload hx hb dX0_turn_29 (lv_at hl 0 rfl) ?_
      refine lv_dup2_11 hx hb dX0_turn_31 rfl rfl ?_
      refine va_iald hx hb hK hP 0 0 rfl rfl (in_guard2 c_2 c_3 (by omega)) dX0_turn_32 ?_
      refine lv_iload_n hx hb dX0_turn_33 rfl (lv_at hl 4 rfl) ?_
      refine lv_ixor hx hb dX0_turn_34 ?_
      refine va_iast hx hb hK hP hD hS 0 0 rfl rfl (in_guard2 c_2 c_3 (by omega)) dX0_turn_35 (fun H locs hP hD hS => ?_)
      have hP : va_P (dC, dI) vwCl [(qc, .inl (cC, w * b, .inl (upd f ((cellF w b p0 p1).toNatClampNeg) ((f ((cellF w b p0 p1).toNatClampNeg)) ^^^ p2)))), (h0, .inr (0, [.int (nI w), .int (nI b), .int wr, .ref qc, .ref qi, .int wa, .int wc]))] H := hP
      have hD : va_D A [(qc, .inl (cC, w * b, .inl (upd f ((cellF w b p0 p1).toNatClampNeg) ((f ((cellF w b p0 p1).toNatClampNeg)) ^^^ p2)))), (h0, .inr (0, [.int (nI w), .int (nI b), .int wr, .ref qc, .ref qi, .int wa, .int wc]))] := hD
      obtain ⟨f_4, ef_4⟩ : ∃ g9, g9 = upd f ((cellF w b p0 p1).toNatClampNeg) ((f ((cellF w b p0 p1).toNatClampNeg)) ^^^ p2) := ⟨_, rfl⟩
      rw [← ef_4] at hP hD
      refine lv_iconst (v := 1) hx hb dX0_turn_36 (by decide) ?_
      have hP9 := hP.sub (ws' := [(h0, .inr (0, [.int (nI w), .int (nI b), .int wr, .ref qc, .ref qi, .int wa, .int wc])), (qc, .inl (cC, w * b, .inl f_4))]) [1, 0] rfl
      have hD9 := hD.sub (ws' := [(h0, .inr (0, [.int (nI w), .int (nI b), .int wr, .ref qc, .ref qi, .int wa, .int wc])), (qc, .inl (cC, w * b, .inl f_4))]) [1, 0] (by decide) rfl
      have hK9 := hK.sub (tys' := [(cC, .int)]) [0] rfl
      exact W.zret (v := 1) hx hb hr rfl (fun t ht hW => ⟨⟨1, (f_4), rfl, (decF_in zw0 zw zb0 zb zwb c_2).symm, by rw [ht]; exact hP9, va_K.moved hW.alike hK9, hD9⟩, hS.F ht⟩) hS.2.2 dX0_turn_37
    · refine lv_iconst (v := 0) hx hb dX0_turn_23 (by decide) ?_
      have hP9 := hP.sub (ws' := [(h0, .inr (0, [.int (nI w), .int (nI b), .int wr, .ref qc, .ref qi, .int wa, .int wc])), (qc, .inl (cC, w * b, .inl f))]) [1, 0] rfl
      have hD9 := hD.sub (ws' := [(h0, .inr (0, [.int (nI w), .int (nI b), .int wr, .ref qc, .ref qi, .int wa, .int wc])), (qc, .inl (cC, w * b, .inl f))]) [1, 0] (by decide) rfl
      have hK9 := hK.sub (tys' := [(cC, .int)]) [0] rfl
      exact W.zret (v := 0) hx hb hr rfl (fun t ht hW => ⟨⟨0, (f), rfl, (decF_ge zw0 zw zb0 zb zwb c_2 c_3).symm, by rw [ht]; exact hP9, va_K.moved hW.alike hK9, hD9⟩, hS.F ht⟩) hS.2.2 dX0_turn_24
def v_X0_startImage : List Cond := .code yX0_startImage cX0_startImage 2 none :: ([.fieldLink RX0 20 "TwinRoots$Disk" "image" "[I"] ++ (wsX00 ++ ([])))
set_option maxHeartbeats 4000000 in
set_option maxRecDepth 100000 in
/-- startImage -/
theorem c_X0_startImage (l : Launch) (dC : Nat → ClassId) (dI : Nat → Nat → Nat) (sz : Nat) (h0 : Nat) (w : Nat) (b : Nat) (qc : Nat) (qi : Nat) (wr : Int32) (wa : Int32) (wc : Int32) (cI : ClassId) (f : Nat → Int32) (zw : w ≤ 40) : Met l yX0_startImage v_X0_startImage ({ frames := 0, cells := 0, slots := 0, locals := 0 } : Room) (va_Pc [.ref h0] (fun U => U.heap.size = sz ∧ va_P (dC, dI) vwCl [(h0, .inr (0, [.int (nI w), .int (nI b), .int wr, .ref qc, .ref qi, .int wa, .int wc])), (qi, .inl (cI, w, .inl f))] U.heap ∧ va_K (dC, dI) vwCl [(cI, .int)] U ∧ va_D (fun _ => True) [(h0, .inr (0, [.int (nI w), .int (nI b), .int wr, .ref qc, .ref qi, .int wa, .int wc])), (qi, .inl (cI, w, .inl f))])) (va_Qv (fun (f2 : Nat → Int32) => True) (fun (f2 : Nat → Int32) (t : State) => va_P (dC, dI) vwCl [(h0, .inr (0, [.int (nI w), .int (nI b), .int wr, .ref qc, .ref qi, .int wa, .int wc])), (qi, .inl (cI, w, .inl f2))] t.heap ∧ va_K (dC, dI) vwCl [(cI, .int)] t ∧ va_D (va_A [(h0, .inr (0, [.int (nI w), .int (nI b), .int wr, .ref qc, .ref qi, .int wa, .int wc])), (qi, .inl (cI, w, .inl f))] sz) [(h0, .inr (0, [.int (nI w), .int (nI b), .int wr, .ref qc, .ref qi, .int wa, .int wc])), (qi, .inl (cI, w, .inl f2))]) (va_A [(h0, .inr (0, [.int (nI w), .int (nI b), .int wr, .ref qc, .ref qi, .int wa, .int wc])), (qi, .inl (cI, w, .inl f))] sz)) 0 0 (va_A [(h0, .inr (0, [.int (nI w), .int (nI b), .int wr, .ref qc, .ref qi, .int wa, .int wc])), (qi, .inl (cI, w, .inl f))] sz) := by
  refine Met.ofW (cc := cX0_startImage) (maxL := 2) (ret := none) (by decide) rfl ?_
  intro p e s m args below meth c s₁ B hml hv
  obtain ⟨rfl, hsz, hP, hK, hD0⟩ := hv
  have hx := B.exec
  have hb := B.bytes
  have hr := B.returns
  have hts := atoms_spec (ws := v_X0_startImage) B.pre
  have hown : s.vm.findClass RX0 = some m.cls := findClass_of_methodNamed B.named
  have hlocks := B.notSynchronized
  subst hsz
  have hD := hD0.self (sz := s.heap.size)
  generalize hAe : va_A [(h0, .inr (0, [.int (nI w), .int (nI b), .int wr, .ref qc, .ref qi, .int wa, .int wc])), (qi, .inl (cI, w, .inl f))] s.heap.size = A at hD ⊢
  have hA : ∀ q : Nat, s.heap.size ≤ q → A q := fun q h => by rw [← hAe]; exact Or.inr h
  have hS : va_S A s.heap s.heap [] := va_S.rf
  have hP : va_P (dC, dI) vwCl [(h0, .inr (0, [.int (nI w), .int (nI b), .int wr, .ref qc, .ref qi, .int wa, .int wc])), (qi, .inl (cI, w, .inl f))] s.heap := hP
  have hl := lv_entry ([.ref h0]) (n := 2) (Nat.le_of_ble_eq_true rfl)
  rw [lg_entry_eq]
  generalize (lg_sl ([.ref h0]) ++ List.replicate (2 - (lg_sl ([.ref h0])).length) Slot.unset).toArray = ls at hl ⊢
  have hl : lv_has ls 2 [(0, .ref h0)] := hl
  have k_1 := (fun _ h => List.mem_cons_of_mem _ (List.mem_append_right _ (List.mem_append_left _ h)) : ∀ w ∈ wsX00, w ∈ v_X0_startImage)
  have k_2 := hts (.fieldLink RX0 20 "TwinRoots$Disk" "image" "[I") (List.mem_of_getElem? (i := 1) rfl)
  refine lv_iconst (v := 0) hx hb dX0_startImage_0 (by decide) ?_
  refine lv_istore_n (lv' := [(1, .int 0), (0, .ref h0)]) hx hb dX0_startImage_1 rfl hl (by decide) rfl (fun ls hl => ?_)
  have loop_2 : ∀ (Q : State → Prop), (∀ (i : Nat) (g : Nat → Int32) (H : Heap) (locs : List Loc) (ls : Array Slot), i ≤ w → va_P (dC, dI) vwCl [(h0, .inr (0, [.int (nI w), .int (nI b), .int wr, .ref qc, .ref qi, .int wa, .int wc])), (qi, .inl (cI, w, .inl g))] H → va_D A [(h0, .inr (0, [.int (nI w), .int (nI b), .int wr, .ref qc, .ref qi, .int wa, .int wc])), (qi, .inl (cI, w, .inl g))] → va_S A s.heap H locs → lv_has ls 2 [(0, .ref h0), (1, .int (nI i))] → W p l e (headSpec v_X0_startImage ({ frames := 0, cells := 0, slots := 0, locals := 0 } : Room)).room s m ([.ref h0] : List Value).toArray below meth c H locs 0 0 Q (F0 m 24 ls [])) → ∀ (nf i : Nat) (g : Nat → Int32) (H : Heap) (locs : List Loc) (ls : Array Slot), i ≤ w → w + 1 ≤ i + nf → va_P (dC, dI) vwCl [(h0, .inr (0, [.int (nI w), .int (nI b), .int wr, .ref qc, .ref qi, .int wa, .int wc])), (qi, .inl (cI, w, .inl g))] H → va_D A [(h0, .inr (0, [.int (nI w), .int (nI b), .int wr, .ref qc, .ref qi, .int wa, .int wc])), (qi, .inl (cI, w, .inl g))] → va_S A s.heap H locs → lv_has ls 2 [(0, .ref h0), (1, .int (nI i))] → W p l e (headSpec v_X0_startImage ({ frames := 0, cells := 0, slots := 0, locals := 0 } : Room)).room s m ([.ref h0] : List Value).toArray below meth c H locs 0 0 Q (F0 m 2 ls []) := by
    intro Q kx nf
    induction nf with
    | zero =>
      intro i g H locs ls h1 h2
      exact absurd h2 (by omega)
    | succ nf ih =>
      intro i g H locs ls hi hn hP hD hS hl
      refine lv_iload_n hx hb dX0_startImage_2 rfl (lv_at hl 1 rfl) ?_
      refine lv_aload_n hx hb dX0_startImage_3 rfl (lv_at hl 0 rfl) ?_
      refine va_get (D := (dC, dI)) (ci := 0) (v := .ref qi) (C := RX0) (T := TX0) (N := 7) hx hb hts k_1 hown hK hP 0 rfl rfl 4 (by decide) k_2 (fun _ h9 => h9) rfl dX0_startImage_4 ?_
      refine va_alen (v := nI w) hx hb hK hP 1 0 rfl rfl rfl dX0_startImage_7 ?_
      refine lv_icmp_ge (tgt := 24) hx hb dX0_startImage_8 (by decide) (fun c_1 => ?_) (fun c_1 => ?_)
      · exact kx i g _ _ _ (by omega) hP hD hS (lv_sub hl [0, 1] rfl)
      · have hlt : i < w := Nat.lt_of_not_le (fun h => c_1 (nI_le h (by omega)))
        refine lv_aload_n hx hb dX0_startImage_11 rfl (lv_at hl 0 rfl) ?_
        refine va_get (D := (dC, dI)) (ci := 0) (v := .ref qi) (C := RX0) (T := TX0) (N := 7) hx hb hts k_1 hown hK hP 0 rfl rfl 4 (by decide) k_2 (fun _ h9 => h9) rfl dX0_startImage_12 ?_
        refine lv_iload_n hx hb dX0_startImage_15 rfl (lv_at hl 1 rfl) ?_
        refine lv_iconst (v := 0) hx hb dX0_startImage_16 (by decide) ?_
        refine va_iast hx hb hK hP hD hS 1 0 rfl rfl (show vp_in (nI i) w from vp_in_nI (by omega) (by omega)) dX0_startImage_17 (fun H locs hP hD hS => ?_)
        have hP : va_P (dC, dI) vwCl [(h0, .inr (0, [.int (nI w), .int (nI b), .int wr, .ref qc, .ref qi, .int wa, .int wc])), (qi, .inl (cI, w, .inl (upd g ((nI i).toNatClampNeg) 0)))] H := hP
        have hD : va_D A [(h0, .inr (0, [.int (nI w), .int (nI b), .int wr, .ref qc, .ref qi, .int wa, .int wc])), (qi, .inl (cI, w, .inl (upd g ((nI i).toNatClampNeg) 0)))] := hD
        obtain ⟨f_2, ef_2⟩ : ∃ g9, g9 = upd g ((nI i).toNatClampNeg) 0 := ⟨_, rfl⟩
        rw [← ef_2] at hP hD
        refine lv_iinc (v := (nI (i + 1))) (lv' := [(1, .int (nI (i + 1))), (0, .ref h0)]) hx hb dX0_startImage_18 hl (k := 1) rfl (nI_1 i) (by decide) rfl (fun ls hl => ?_)
        refine lv_goto (tgt := 2) hx hb dX0_startImage_21 (by decide) ?_
        exact ih (i + 1) f_2 _ _ _ (by omega) (by omega) hP hD hS (lv_sub hl [1, 0] rfl)
  refine loop_2 _ (fun i g H locs ls hi hP hD hS hl => ?_) (w + 1) 0 f _ _ _ (by omega) (by omega) hP hD hS (lv_sub hl [1, 0] rfl)
  have hP9 := hP.sub (ws' := [(h0, .inr (0, [.int (nI w), .int (nI b), .int wr, .ref qc, .ref qi, .int wa, .int wc])), (qi, .inl (cI, w, .inl g))]) [0, 1] rfl
  have hD9 := hD.sub (ws' := [(h0, .inr (0, [.int (nI w), .int (nI b), .int wr, .ref qc, .ref qi, .int wa, .int wc])), (qi, .inl (cI, w, .inl g))]) [0, 1] (by decide) rfl
  have hK9 := hK.sub (tys' := [(cI, .int)]) [0] rfl
  exact W.vret hx hb hr (fun t ht hW => ⟨⟨(g), rfl, trivial, by rw [ht]; exact hP9, va_K.moved hW.alike hK9, hD9⟩, hS.F ht⟩) hS.2.2 dX0_startImage_24
def v_X0_lay : List Cond := .code yX0_lay cX0_lay 3 none :: ([.fieldLink RX0 20 "TwinRoots$Disk" "image" "[I"] ++ (wsX00 ++ ([])))
set_option maxHeartbeats 4000000 in
set_option maxRecDepth 100000 in
/-- lay -/
theorem c_X0_lay (l : Launch) (dC : Nat → ClassId) (dI : Nat → Nat → Nat) (sz : Nat) (h0 : Nat) (w : Nat) (b : Nat) (qc : Nat) (qi : Nat) (wr : Int32) (wa : Int32) (wc : Int32) (p0 : Int32) (p1 : Int32) (cI : ClassId) (f : Nat → Int32) (zw : w ≤ 40) : Met l yX0_lay v_X0_lay ({ frames := 0, cells := 0, slots := 0, locals := 0 } : Room) (va_Pc [.ref h0, .int p0, .int p1] (fun U => U.heap.size = sz ∧ va_P (dC, dI) vwCl [(h0, .inr (0, [.int (nI w), .int (nI b), .int wr, .ref qc, .ref qi, .int wa, .int wc])), (qi, .inl (cI, w, .inl f))] U.heap ∧ va_K (dC, dI) vwCl [(cI, .int)] U ∧ va_D (fun _ => True) [(h0, .inr (0, [.int (nI w), .int (nI b), .int wr, .ref qc, .ref qi, .int wa, .int wc])), (qi, .inl (cI, w, .inl f))])) (va_Qv (fun (f2 : Nat → Int32) => True) (fun (f2 : Nat → Int32) (t : State) => va_P (dC, dI) vwCl [(h0, .inr (0, [.int (nI w), .int (nI b), .int wr, .ref qc, .ref qi, .int wa, .int wc])), (qi, .inl (cI, w, .inl f2))] t.heap ∧ va_K (dC, dI) vwCl [(cI, .int)] t ∧ va_D (va_A [(h0, .inr (0, [.int (nI w), .int (nI b), .int wr, .ref qc, .ref qi, .int wa, .int wc])), (qi, .inl (cI, w, .inl f))] sz) [(h0, .inr (0, [.int (nI w), .int (nI b), .int wr, .ref qc, .ref qi, .int wa, .int wc])), (qi, .inl (cI, w, .inl f2))]) (va_A [(h0, .inr (0, [.int (nI w), .int (nI b), .int wr, .ref qc, .ref qi, .int wa, .int wc])), (qi, .inl (cI, w, .inl f))] sz)) 0 0 (va_A [(h0, .inr (0, [.int (nI w), .int (nI b), .int wr, .ref qc, .ref qi, .int wa, .int wc])), (qi, .inl (cI, w, .inl f))] sz) := by
  refine Met.ofW (cc := cX0_lay) (maxL := 3) (ret := none) (by decide) rfl ?_
  intro p e s m args below meth c s₁ B hml hv
  obtain ⟨rfl, hsz, hP, hK, hD0⟩ := hv
  have hx := B.exec
  have hb := B.bytes
  have hr := B.returns
  have hts := atoms_spec (ws := v_X0_lay) B.pre
  have hown : s.vm.findClass RX0 = some m.cls := findClass_of_methodNamed B.named
  have hlocks := B.notSynchronized
  subst hsz
  have hD := hD0.self (sz := s.heap.size)
  generalize hAe : va_A [(h0, .inr (0, [.int (nI w), .int (nI b), .int wr, .ref qc, .ref qi, .int wa, .int wc])), (qi, .inl (cI, w, .inl f))] s.heap.size = A at hD ⊢
  have hA : ∀ q : Nat, s.heap.size ≤ q → A q := fun q h => by rw [← hAe]; exact Or.inr h
  have hS : va_S A s.heap s.heap [] := va_S.rf
  have hP : va_P (dC, dI) vwCl [(h0, .inr (0, [.int (nI w), .int (nI b), .int wr, .ref qc, .ref qi, .int wa, .int wc])), (qi, .inl (cI, w, .inl f))] s.heap := hP
  have hl := lv_entry ([.ref h0, .int p0, .int p1]) (n := 3) (Nat.le_of_ble_eq_true rfl)
  rw [lg_entry_eq]
  generalize (lg_sl ([.ref h0, .int p0, .int p1]) ++ List.replicate (3 - (lg_sl ([.ref h0, .int p0, .int p1])).length) Slot.unset).toArray = ls at hl ⊢
  have hl : lv_has ls 3 [(0, .ref h0), (1, .int p0), (2, .int p1)] := hl
  have k_1 := (fun _ h => List.mem_cons_of_mem _ (List.mem_append_right _ (List.mem_append_left _ h)) : ∀ w ∈ wsX00, w ∈ v_X0_lay)
  have k_2 := hts (.fieldLink RX0 20 "TwinRoots$Disk" "image" "[I") (List.mem_of_getElem? (i := 1) rfl)
  refine lv_iload_n hx hb dX0_lay_0 rfl (lv_at hl 1 rfl) ?_
  refine lv_if_lt (tgt := 20) hx hb dX0_lay_1 (by decide) (fun c_1 => ?_) (fun c_1 => ?_)
  · have hP9 := hP.sub (ws' := [(h0, .inr (0, [.int (nI w), .int (nI b), .int wr, .ref qc, .ref qi, .int wa, .int wc])), (qi, .inl (cI, w, .inl f))]) [0, 1] rfl
    have hD9 := hD.sub (ws' := [(h0, .inr (0, [.int (nI w), .int (nI b), .int wr, .ref qc, .ref qi, .int wa, .int wc])), (qi, .inl (cI, w, .inl f))]) [0, 1] (by decide) rfl
    have hK9 := hK.sub (tys' := [(cI, .int)]) [0] rfl
    exact W.vret hx hb hr (fun t ht hW => ⟨⟨(f), rfl, trivial, by rw [ht]; exact hP9, va_K.moved hW.alike hK9, hD9⟩, hS.F ht⟩) hS.2.2 dX0_lay_20
  · refine lv_iload_n hx hb dX0_lay_4 rfl (lv_at hl 1 rfl) ?_
    refine lv_aload_n hx hb dX0_lay_5 rfl (lv_at hl 0 rfl) ?_
    refine va_get (D := (dC, dI)) (ci := 0) (v := .ref qi) (C := RX0) (T := TX0) (N := 7) hx hb hts k_1 hown hK hP 0 rfl rfl 4 (by decide) k_2 (fun _ h9 => h9) rfl dX0_lay_6 ?_
    refine va_alen (v := nI w) hx hb hK hP 1 0 rfl rfl rfl dX0_lay_9 ?_
    refine lv_icmp_ge (tgt := 20) hx hb dX0_lay_10 (by decide) (fun c_2 => ?_) (fun c_2 => ?_)
    · have hP9 := hP.sub (ws' := [(h0, .inr (0, [.int (nI w), .int (nI b), .int wr, .ref qc, .ref qi, .int wa, .int wc])), (qi, .inl (cI, w, .inl f))]) [0, 1] rfl
      have hD9 := hD.sub (ws' := [(h0, .inr (0, [.int (nI w), .int (nI b), .int wr, .ref qc, .ref qi, .int wa, .int wc])), (qi, .inl (cI, w, .inl f))]) [0, 1] (by decide) rfl
      have hK9 := hK.sub (tys' := [(cI, .int)]) [0] rfl
      exact W.vret hx hb hr (fun t ht hW => ⟨⟨(f), rfl, trivial, by rw [ht]; exact hP9, va_K.moved hW.alike hK9, hD9⟩, hS.F ht⟩) hS.2.2 dX0_lay_20
    · refine lv_aload_n hx hb dX0_lay_13 rfl (lv_at hl 0 rfl) ?_
      refine va_get (D := (dC, dI)) (ci := 0) (v := .ref qi) (C := RX0) (T := TX0) (N := 7) hx hb hts k_1 hown hK hP 0 rfl rfl 4 (by decide) k_2 (fun _ h9 => h9) rfl dX0_lay_14 ?_
      refine lv_iload_n hx hb dX0_lay_17 rfl (lv_at hl 1 rfl) ?_
      refine lv_iload_n hx hb dX0_lay_18 rfl (lv_at hl 2 rfl) ?_
      refine va_iast hx hb hK hP hD hS 1 0 rfl rfl (in_guard c_1 c_2 (by omega)) dX0_lay_19 (fun H locs hP hD hS => ?_)
      have hP : va_P (dC, dI) vwCl [(h0, .inr (0, [.int (nI w), .int (nI b), .int wr, .ref qc, .ref qi, .int wa, .int wc])), (qi, .inl (cI, w, .inl (upd f (p0.toNatClampNeg) p1)))] H := hP
      have hD : va_D A [(h0, .inr (0, [.int (nI w), .int (nI b), .int wr, .ref qc, .ref qi, .int wa, .int wc])), (qi, .inl (cI, w, .inl (upd f (p0.toNatClampNeg) p1)))] := hD
      obtain ⟨f_3, ef_3⟩ : ∃ g9, g9 = upd f (p0.toNatClampNeg) p1 := ⟨_, rfl⟩
      rw [← ef_3] at hP hD
      have hP9 := hP.sub (ws' := [(h0, .inr (0, [.int (nI w), .int (nI b), .int wr, .ref qc, .ref qi, .int wa, .int wc])), (qi, .inl (cI, w, .inl f_3))]) [0, 1] rfl
      have hD9 := hD.sub (ws' := [(h0, .inr (0, [.int (nI w), .int (nI b), .int wr, .ref qc, .ref qi, .int wa, .int wc])), (qi, .inl (cI, w, .inl f_3))]) [0, 1] (by decide) rfl
      have hK9 := hK.sub (tys' := [(cI, .int)]) [0] rfl
      exact W.vret hx hb hr (fun t ht hW => ⟨⟨(f_3), rfl, trivial, by rw [ht]; exact hP9, va_K.moved hW.alike hK9, hD9⟩, hS.F ht⟩) hS.2.2 dX0_lay_20

def v_X7_tell : List Cond := .code yX7_tell cX7_tell 6 none :: ([.fieldLink RX7 9 "TwinRoots$Told" "epoch" "I", .fieldLink RX7 15 "TwinRoots$Told" "top" "I", .fieldLink RX7 18 "TwinRoots$Told" "keys" "I", .fieldLink RX7 21 "TwinRoots$Told" "reach" "J"] ++ (wsX70 ++ ([])))
set_option maxHeartbeats 4000000 in
set_option maxRecDepth 100000 in
/-- tell -/
theorem c_X7_tell (l : Launch) (dC : Nat → ClassId) (dI : Nat → Nat → Nat) (sz : Nat) (h0 : Nat) (e1 : Int32) (e2 : Int32) (e3 : Int32) (e4 : Int64) (p0 : Int32) (p1 : Int32) (p2 : Int32) (p3 : Int64) : Met l yX7_tell v_X7_tell ({ frames := 0, cells := 0, slots := 0, locals := 0 } : Room) (va_Pc [.ref h0, .int p0, .int p1, .int p2, .long p3] (fun U => U.heap.size = sz ∧ va_P (dC, dI) vwCl [(h0, .inr (7, [.int e1, .int e2, .int e3, .long e4]))] U.heap ∧ va_K (dC, dI) vwCl [] U ∧ va_D (fun _ => True) [(h0, .inr (7, [.int e1, .int e2, .int e3, .long e4]))])) (va_Qv (fun (_ : Unit) => True) (fun (_ : Unit) (t : State) => va_P (dC, dI) vwCl [(h0, .inr (7, [.int p0, .int p1, .int p2, .long p3]))] t.heap ∧ va_K (dC, dI) vwCl [] t ∧ va_D (va_A [(h0, .inr (7, [.int e1, .int e2, .int e3, .long e4]))] sz) [(h0, .inr (7, [.int p0, .int p1, .int p2, .long p3]))]) (va_A [(h0, .inr (7, [.int e1, .int e2, .int e3, .long e4]))] sz)) 0 0 (va_A [(h0, .inr (7, [.int e1, .int e2, .int e3, .long e4]))] sz) := by
  refine Met.ofW (cc := cX7_tell) (maxL := 6) (ret := none) (by decide) rfl ?_
  intro p e s m args below meth c s₁ B hml hv
  obtain ⟨rfl, hsz, hP, hK, hD0⟩ := hv
  have hx := B.exec
  have hb := B.bytes
  have hr := B.returns
  have hts := atoms_spec (ws := v_X7_tell) B.pre
  have hown : s.vm.findClass RX7 = some m.cls := findClass_of_methodNamed B.named
  have hlocks := B.notSynchronized
  subst hsz
  have hD := hD0.self (sz := s.heap.size)
  generalize hAe : va_A [(h0, .inr (7, [.int e1, .int e2, .int e3, .long e4]))] s.heap.size = A at hD ⊢
  have hA : ∀ q : Nat, s.heap.size ≤ q → A q := fun q h => by rw [← hAe]; exact Or.inr h
  have hS : va_S A s.heap s.heap [] := va_S.rf
  have hP : va_P (dC, dI) vwCl [(h0, .inr (7, [.int e1, .int e2, .int e3, .long e4]))] s.heap := hP
  have hl := lv_entry ([.ref h0, .int p0, .int p1, .int p2, .long p3]) (n := 6) (Nat.le_of_ble_eq_true rfl)
  rw [lg_entry_eq]
  generalize (lg_sl ([.ref h0, .int p0, .int p1, .int p2, .long p3]) ++ List.replicate (6 - (lg_sl ([.ref h0, .int p0, .int p1, .int p2, .long p3])).length) Slot.unset).toArray = ls at hl ⊢
  have hl : lv_has ls 6 [(0, .ref h0), (1, .int p0), (2, .int p1), (3, .int p2), (4, .long p3)] := hl
  have k_1 := (fun _ h => List.mem_cons_of_mem _ (List.mem_append_right _ (List.mem_append_left _ h)) : ∀ w ∈ wsX70, w ∈ v_X7_tell)
  have k_2 := hts (.fieldLink RX7 9 "TwinRoots$Told" "epoch" "I") (List.mem_of_getElem? (i := 1) rfl)
  have k_3 := hts (.fieldLink RX7 15 "TwinRoots$Told" "top" "I") (List.mem_of_getElem? (i := 2) rfl)
  have k_4 := hts (.fieldLink RX7 18 "TwinRoots$Told" "keys" "I") (List.mem_of_getElem? (i := 3) rfl)
  have k_5 := hts (.fieldLink RX7 21 "TwinRoots$Told" "reach" "J") (List.mem_of_getElem? (i := 4) rfl)
  refine lv_aload_n hx hb dX7_tell_0 rfl (lv_at hl 0 rfl) ?_
  refine lv_iload_n hx hb dX7_tell_1 rfl (lv_at hl 1 rfl) ?_
  refine va_put (D := (dC, dI)) (ci := 7) (v := .int p0) (ty := .int) (C := RX7) (T := TX7) (N := 4) hx hb hts k_1 tyX7 tyX7_ok nmX7 hown hK hP hD hS 0 rfl rfl 0 (by decide) k_2 (fun _ h9 => h9) rfl (by decide +kernel) rfl rfl (Nat.le_of_ble_eq_true rfl) dX7_tell_2 (fun H locs hP hD hS => ?_)
  have hP : va_P (dC, dI) vwCl [(h0, .inr (7, [.int p0, .int e2, .int e3, .long e4]))] H := hP
  have hD : va_D A [(h0, .inr (7, [.int p0, .int e2, .int e3, .long e4]))] := hD
  refine lv_aload_n hx hb dX7_tell_5 rfl (lv_at hl 0 rfl) ?_
  refine lv_iload_n hx hb dX7_tell_6 rfl (lv_at hl 2 rfl) ?_
  refine va_put (D := (dC, dI)) (ci := 7) (v := .int p1) (ty := .int) (C := RX7) (T := TX7) (N := 4) hx hb hts k_1 tyX7 tyX7_ok nmX7 hown hK hP hD hS 0 rfl rfl 1 (by decide) k_3 (fun _ h9 => h9) rfl (by decide +kernel) rfl rfl (Nat.le_of_ble_eq_true rfl) dX7_tell_7 (fun H locs hP hD hS => ?_)
  have hP : va_P (dC, dI) vwCl [(h0, .inr (7, [.int p0, .int p1, .int e3, .long e4]))] H := hP
  have hD : va_D A [(h0, .inr (7, [.int p0, .int p1, .int e3, .long e4]))] := hD
  refine lv_aload_n hx hb dX7_tell_10 rfl (lv_at hl 0 rfl) ?_
  refine lv_iload_n hx hb dX7_tell_11 rfl (lv_at hl 3 rfl) ?_
  refine va_put (D := (dC, dI)) (ci := 7) (v := .int p2) (ty := .int) (C := RX7) (T := TX7) (N := 4) hx hb hts k_1 tyX7 tyX7_ok nmX7 hown hK hP hD hS 0 rfl rfl 2 (by decide) k_4 (fun _ h9 => h9) rfl (by decide +kernel) rfl rfl (Nat.le_of_ble_eq_true rfl) dX7_tell_12 (fun H locs hP hD hS => ?_)
  have hP : va_P (dC, dI) vwCl [(h0, .inr (7, [.int p0, .int p1, .int p2, .long e4]))] H := hP
  have hD : va_D A [(h0, .inr (7, [.int p0, .int p1, .int p2, .long e4]))] := hD
  refine lv_aload_n hx hb dX7_tell_15 rfl (lv_at hl 0 rfl) ?_
  refine lv_lload hx hb dX7_tell_16 (lv_at hl 4 rfl) ?_
  refine va_put (D := (dC, dI)) (ci := 7) (v := .long p3) (ty := .long) (C := RX7) (T := TX7) (N := 4) hx hb hts k_1 tyX7 tyX7_ok nmX7 hown hK hP hD hS 0 rfl rfl 3 (by decide) k_5 (fun _ h9 => h9) rfl (by decide +kernel) rfl rfl (Nat.le_of_ble_eq_true rfl) dX7_tell_18 (fun H locs hP hD hS => ?_)
  have hP : va_P (dC, dI) vwCl [(h0, .inr (7, [.int p0, .int p1, .int p2, .long p3]))] H := hP
  have hD : va_D A [(h0, .inr (7, [.int p0, .int p1, .int p2, .long p3]))] := hD
  have hP9 := hP.sub (ws' := [(h0, .inr (7, [.int p0, .int p1, .int p2, .long p3]))]) [0] rfl
  have hD9 := hD.sub (ws' := [(h0, .inr (7, [.int p0, .int p1, .int p2, .long p3]))]) [0] (by decide) rfl
  have hK9 := hK.sub (tys' := []) [] rfl
  exact W.vret hx hb hr (fun t ht hW => ⟨⟨(), rfl, trivial, by rw [ht]; exact hP9, va_K.moved hW.alike hK9, hD9⟩, hS.F ht⟩) hS.2.2 dX7_tell_21
def v_X7_copy : List Cond := .code yX7_copy cX7_copy 2 none :: ([.fieldLink RX7 9 "TwinRoots$Told" "epoch" "I", .fieldLink RX7 15 "TwinRoots$Told" "top" "I", .fieldLink RX7 18 "TwinRoots$Told" "keys" "I", .fieldLink RX7 21 "TwinRoots$Told" "reach" "J", .code yX7_tell cX7_tell 6 none, .methodLink RX7 25 yX7_tell, .instanceMethod yX7_tell, .selects RX7 yX7_tell yX7_tell, .initialized RX7] ++ (wsX70 ++ ([])))
set_option maxRecDepth 20000 in
theorem g_X7_copy_X7_tell : GoodIn v_X7_copy (wsV RX7 25 RX7 yX7_tell v_X7_tell) := goodIn_r _ [6, 7, 8, 9, 5, 1, 2, 3, 4, 10, 11, 12, 13] (by decide +kernel) (by decide +kernel)
set_option maxHeartbeats 4000000 in
set_option maxRecDepth 100000 in
/-- copy -/
theorem c_X7_copy (l : Launch) (dC : Nat → ClassId) (dI : Nat → Nat → Nat) (sz : Nat) (h0 : Nat) (h1 : Nat) (e1 : Int32) (e2 : Int32) (e3 : Int32) (e4 : Int64) (d1 : Int32) (d2 : Int32) (d3 : Int32) (d4 : Int64) : Met l yX7_copy v_X7_copy ({ frames := 1, cells := 0, slots := 0, locals := 25 } : Room) (va_Pc [.ref h0, .ref h1] (fun U => U.heap.size = sz ∧ va_P (dC, dI) vwCl [(h0, .inr (7, [.int e1, .int e2, .int e3, .long e4])), (h1, .inr (7, [.int d1, .int d2, .int d3, .long d4]))] U.heap ∧ va_K (dC, dI) vwCl [] U ∧ va_D (fun _ => True) [(h0, .inr (7, [.int e1, .int e2, .int e3, .long e4])), (h1, .inr (7, [.int d1, .int d2, .int d3, .long d4]))])) (va_Qv (fun (_ : Unit) => True) (fun (_ : Unit) (t : State) => va_P (dC, dI) vwCl [(h0, .inr (7, [.int d1, .int d2, .int d3, .long d4])), (h1, .inr (7, [.int d1, .int d2, .int d3, .long d4]))] t.heap ∧ va_K (dC, dI) vwCl [] t ∧ va_D (va_A [(h0, .inr (7, [.int e1, .int e2, .int e3, .long e4])), (h1, .inr (7, [.int d1, .int d2, .int d3, .long d4]))] sz) [(h0, .inr (7, [.int d1, .int d2, .int d3, .long d4])), (h1, .inr (7, [.int d1, .int d2, .int d3, .long d4]))]) (va_A [(h0, .inr (7, [.int e1, .int e2, .int e3, .long e4])), (h1, .inr (7, [.int d1, .int d2, .int d3, .long d4]))] sz)) 0 0 (va_A [(h0, .inr (7, [.int e1, .int e2, .int e3, .long e4])), (h1, .inr (7, [.int d1, .int d2, .int d3, .long d4]))] sz) := by
  refine Met.ofW (cc := cX7_copy) (maxL := 2) (ret := none) (by decide) rfl ?_
  intro p e s m args below meth c s₁ B hml hv
  obtain ⟨rfl, hsz, hP, hK, hD0⟩ := hv
  have hx := B.exec
  have hb := B.bytes
  have hr := B.returns
  have hts := atoms_spec (ws := v_X7_copy) B.pre
  have hown : s.vm.findClass RX7 = some m.cls := findClass_of_methodNamed B.named
  have hlocks := B.notSynchronized
  subst hsz
  have hD := hD0.self (sz := s.heap.size)
  generalize hAe : va_A [(h0, .inr (7, [.int e1, .int e2, .int e3, .long e4])), (h1, .inr (7, [.int d1, .int d2, .int d3, .long d4]))] s.heap.size = A at hD ⊢
  have hA : ∀ q : Nat, s.heap.size ≤ q → A q := fun q h => by rw [← hAe]; exact Or.inr h
  have hS : va_S A s.heap s.heap [] := va_S.rf
  have hP : va_P (dC, dI) vwCl [(h0, .inr (7, [.int e1, .int e2, .int e3, .long e4])), (h1, .inr (7, [.int d1, .int d2, .int d3, .long d4]))] s.heap := hP
  have hl := lv_entry ([.ref h0, .ref h1]) (n := 2) (Nat.le_of_ble_eq_true rfl)
  rw [lg_entry_eq]
  generalize (lg_sl ([.ref h0, .ref h1]) ++ List.replicate (2 - (lg_sl ([.ref h0, .ref h1])).length) Slot.unset).toArray = ls at hl ⊢
  have hl : lv_has ls 2 [(0, .ref h0), (1, .ref h1)] := hl
  have k_1 := (fun _ h => List.mem_cons_of_mem _ (List.mem_append_right _ (List.mem_append_left _ h)) : ∀ w ∈ wsX70, w ∈ v_X7_copy)
  have k_2 := hts (.fieldLink RX7 9 "TwinRoots$Told" "epoch" "I") (List.mem_of_getElem? (i := 1) rfl)
  have k_3 := hts (.fieldLink RX7 15 "TwinRoots$Told" "top" "I") (List.mem_of_getElem? (i := 2) rfl)
  have k_4 := hts (.fieldLink RX7 18 "TwinRoots$Told" "keys" "I") (List.mem_of_getElem? (i := 3) rfl)
  have k_5 := hts (.fieldLink RX7 21 "TwinRoots$Told" "reach" "J") (List.mem_of_getElem? (i := 4) rfl)
  refine lv_aload_n hx hb dX7_copy_0 rfl (lv_at hl 0 rfl) ?_
  refine lv_aload_n hx hb dX7_copy_1 rfl (lv_at hl 1 rfl) ?_
  refine va_get (D := (dC, dI)) (ci := 7) (v := .int d1) (C := RX7) (T := TX7) (N := 4) hx hb hts k_1 hown hK hP 1 rfl rfl 0 (by decide) k_2 (fun _ h9 => h9) rfl dX7_copy_2 ?_
  refine lv_aload_n hx hb dX7_copy_5 rfl (lv_at hl 1 rfl) ?_
  refine va_get (D := (dC, dI)) (ci := 7) (v := .int d2) (C := RX7) (T := TX7) (N := 4) hx hb hts k_1 hown hK hP 1 rfl rfl 1 (by decide) k_3 (fun _ h9 => h9) rfl dX7_copy_6 ?_
  refine lv_aload_n hx hb dX7_copy_9 rfl (lv_at hl 1 rfl) ?_
  refine va_get (D := (dC, dI)) (ci := 7) (v := .int d3) (C := RX7) (T := TX7) (N := 4) hx hb hts k_1 hown hK hP 1 rfl rfl 2 (by decide) k_4 (fun _ h9 => h9) rfl dX7_copy_10 ?_
  refine lv_aload_n hx hb dX7_copy_13 rfl (lv_at hl 1 rfl) ?_
  refine va_get (D := (dC, dI)) (ci := 7) (v := .long d4) (C := RX7) (T := TX7) (N := 4) hx hb hts k_1 hown hK hP 1 rfl rfl 3 (by decide) k_5 (fun _ h9 => h9) rfl dX7_copy_14 ?_
  have hPc := hP.sub (ws' := [(h0, .inr (7, [.int e1, .int e2, .int e3, .long e4]))]) [0] rfl
  have hDc := hD.sub (ws' := [(h0, .inr (7, [.int e1, .int e2, .int e3, .long e4]))]) [0] (by decide) rfl
  have hKc := hK.sub (tys' := []) [] rfl
  have hFc := va_free (wc := [(h0, .inr (7, [.int e1, .int e2, .int e3, .long e4]))]) hD hS hA [0] rfl
  refine va_callv (va_runV (As := [.int d1, .int d2, .int d3, .long d4]) (rest := []) ⟨hx, hb, hml, hown, hts⟩ (c_X7_tell l dC dI s.heap.size h0 e1 e2 e3 e4 d1 d2 d3 d4) (cwV 4 hts g_X7_copy_X7_tell rfl rfl rfl (by decide +kernel) ⟨Nat.le_of_ble_eq_true rfl, Nat.le_of_ble_eq_true rfl⟩) ⟨fun a U g mk q => by obtain ⟨q0, q1, qP, qK, qD⟩ := q; exact ⟨q0, q1, qP, va_K.moved (u := U) (U := U.calling g mk a) (Vm.Alike.refl U.vm) qK, qD⟩, va_recv hKc hPc (ci := 7) (q0 := 0) rfl rfl, fun U hU hW => ⟨rfl, by rw [hU], by rw [hU]; exact hPc, va_K.moved hW.alike hKc, hDc.weaken (fun _ _ _ _ => trivial)⟩⟩ rfl rfl hl.1 rfl (lv_room (Nat.le_of_ble_eq_true rfl)) dX7_copy_17 ⟨(show 0 + 0 ≤ 0 by omega), (show 0 + 0 ≤ 0 by omega)⟩) hS (fun q _ h => hFc q h) hFc (fun u t H1 locs ht hvm hw hB hz1 hk1 hS => ?_)
  obtain ⟨hP1, hK1, hD1⟩ := hB
  rw [ht] at hP1
  have hK1 := va_K.moved hvm.symm hK1
  try dsimp only at hw
  obtain ⟨hP, hD⟩ := va_join (wr := [(h1, .inr (7, [.int d1, .int d2, .int d3, .long d4]))]) (w1 := [(h0, .inr (7, [.int d1, .int d2, .int d3, .long d4]))]) hP hD [0] [1] rfl rfl (by decide) (by decide) hk1 hFc hP1 hD1
  have hK := (hK.sub (tys' := []) [] rfl).app hK1
  generalize H1 = H at hP hS ⊢
  have hP : va_P (dC, dI) vwCl [(h1, .inr (7, [.int d1, .int d2, .int d3, .long d4])), (h0, .inr (7, [.int d1, .int d2, .int d3, .long d4]))] H := hP
  have hD : va_D A [(h1, .inr (7, [.int d1, .int d2, .int d3, .long d4])), (h0, .inr (7, [.int d1, .int d2, .int d3, .long d4]))] := hD
  have hK : va_K (dC, dI) vwCl [] s := hK
  have hP9 := hP.sub (ws' := [(h0, .inr (7, [.int d1, .int d2, .int d3, .long d4])), (h1, .inr (7, [.int d1, .int d2, .int d3, .long d4]))]) [1, 0] rfl
  have hD9 := hD.sub (ws' := [(h0, .inr (7, [.int d1, .int d2, .int d3, .long d4])), (h1, .inr (7, [.int d1, .int d2, .int d3, .long d4]))]) [1, 0] (by decide) rfl
  have hK9 := hK.sub (tys' := []) [] rfl
  exact W.vret hx hb hr (fun t ht hW => ⟨⟨(), rfl, trivial, by rw [ht]; exact hP9, va_K.moved hW.alike hK9, hD9⟩, hS.F ht⟩) hS.2.2 dX7_copy_20
def v_X7_layOut : List Cond := .code yX7_layOut cX7_layOut 2 none :: ([.code yX0_startImage cX0_startImage 2 none, .fieldLink RX0 20 "TwinRoots$Disk" "image" "[I", .methodLink RX7 29 yX0_startImage, .instanceMethod yX0_startImage, .selects RX0 yX0_startImage yX0_startImage, .initialized RX0, .constant RX7 34 (1414677326), .code yX0_lay cX0_lay 3 none, .methodLink RX7 35 yX0_lay, .instanceMethod yX0_lay, .selects RX0 yX0_lay yX0_lay, .fieldLink RX7 9 "TwinRoots$Told" "epoch" "I", .fieldLink RX7 15 "TwinRoots$Told" "top" "I", .fieldLink RX7 18 "TwinRoots$Told" "keys" "I"] ++ (wsX00 ++ (wsX70 ++ ([]))))
set_option maxRecDepth 20000 in
theorem g_X7_layOut_X0_startImage : GoodIn v_X7_layOut (wsV RX7 29 RX0 yX0_startImage v_X0_startImage) := goodIn_r _ [3, 4, 5, 6, 1, 2, 15, 16, 17, 18, 19, 20, 21] (by decide +kernel) (by decide +kernel)
set_option maxRecDepth 20000 in
theorem g_X7_layOut_X0_lay : GoodIn v_X7_layOut (wsV RX7 35 RX0 yX0_lay v_X0_lay) := goodIn_r _ [9, 10, 11, 6, 8, 2, 15, 16, 17, 18, 19, 20, 21] (by decide +kernel) (by decide +kernel)
set_option maxHeartbeats 4000000 in
set_option maxRecDepth 100000 in
/-- layOut -/
theorem c_X7_layOut (l : Launch) (dC : Nat → ClassId) (dI : Nat → Nat → Nat) (sz : Nat) (h0 : Nat) (hd : Nat) (w : Nat) (b : Nat) (qc : Nat) (qi : Nat) (wr : Int32) (wa : Int32) (wc : Int32) (e1 : Int32) (e2 : Int32) (e3 : Int32) (e4 : Int64) (cI : ClassId) (g : Nat → Int32) (zw : w ≤ 40) : Met l yX7_layOut v_X7_layOut ({ frames := 1, cells := 0, slots := 0, locals := 22 } : Room) (va_Pc [.ref h0, .ref hd] (fun U => U.heap.size = sz ∧ va_P (dC, dI) vwCl [(h0, .inr (7, [.int e1, .int e2, .int e3, .long e4])), (hd, .inr (0, [.int (nI w), .int (nI b), .int wr, .ref qc, .ref qi, .int wa, .int wc])), (qi, .inl (cI, w, .inl g))] U.heap ∧ va_K (dC, dI) vwCl [(cI, .int)] U ∧ va_D (fun _ => True) [(h0, .inr (7, [.int e1, .int e2, .int e3, .long e4])), (hd, .inr (0, [.int (nI w), .int (nI b), .int wr, .ref qc, .ref qi, .int wa, .int wc])), (qi, .inl (cI, w, .inl g))])) (va_Qv (fun (g2 : Nat → Int32) => True) (fun (g2 : Nat → Int32) (t : State) => va_P (dC, dI) vwCl [(h0, .inr (7, [.int e1, .int e2, .int e3, .long e4])), (hd, .inr (0, [.int (nI w), .int (nI b), .int wr, .ref qc, .ref qi, .int wa, .int wc])), (qi, .inl (cI, w, .inl g2))] t.heap ∧ va_K (dC, dI) vwCl [(cI, .int)] t ∧ va_D (va_A [(h0, .inr (7, [.int e1, .int e2, .int e3, .long e4])), (hd, .inr (0, [.int (nI w), .int (nI b), .int wr, .ref qc, .ref qi, .int wa, .int wc])), (qi, .inl (cI, w, .inl g))] sz) [(h0, .inr (7, [.int e1, .int e2, .int e3, .long e4])), (hd, .inr (0, [.int (nI w), .int (nI b), .int wr, .ref qc, .ref qi, .int wa, .int wc])), (qi, .inl (cI, w, .inl g2))]) (va_A [(h0, .inr (7, [.int e1, .int e2, .int e3, .long e4])), (hd, .inr (0, [.int (nI w), .int (nI b), .int wr, .ref qc, .ref qi, .int wa, .int wc])), (qi, .inl (cI, w, .inl g))] sz)) 0 0 (va_A [(h0, .inr (7, [.int e1, .int e2, .int e3, .long e4])), (hd, .inr (0, [.int (nI w), .int (nI b), .int wr, .ref qc, .ref qi, .int wa, .int wc])), (qi, .inl (cI, w, .inl g))] sz) := by
  refine Met.ofW (cc := cX7_layOut) (maxL := 2) (ret := none) (by decide) rfl ?_
  intro p e s m args below meth c s₁ B hml hv
  obtain ⟨rfl, hsz, hP, hK, hD0⟩ := hv
  have hx := B.exec
  have hb := B.bytes
  have hr := B.returns
  have hts := atoms_spec (ws := v_X7_layOut) B.pre
  have hown : s.vm.findClass RX7 = some m.cls := findClass_of_methodNamed B.named
  have hlocks := B.notSynchronized
  subst hsz
  have hD := hD0.self (sz := s.heap.size)
  generalize hAe : va_A [(h0, .inr (7, [.int e1, .int e2, .int e3, .long e4])), (hd, .inr (0, [.int (nI w), .int (nI b), .int wr, .ref qc, .ref qi, .int wa, .int wc])), (qi, .inl (cI, w, .inl g))] s.heap.size = A at hD ⊢
  have hA : ∀ q : Nat, s.heap.size ≤ q → A q := fun q h => by rw [← hAe]; exact Or.inr h
  have hS : va_S A s.heap s.heap [] := va_S.rf
  have hP : va_P (dC, dI) vwCl [(h0, .inr (7, [.int e1, .int e2, .int e3, .long e4])), (hd, .inr (0, [.int (nI w), .int (nI b), .int wr, .ref qc, .ref qi, .int wa, .int wc])), (qi, .inl (cI, w, .inl g))] s.heap := hP
  have hl := lv_entry ([.ref h0, .ref hd]) (n := 2) (Nat.le_of_ble_eq_true rfl)
  rw [lg_entry_eq]
  generalize (lg_sl ([.ref h0, .ref hd]) ++ List.replicate (2 - (lg_sl ([.ref h0, .ref hd])).length) Slot.unset).toArray = ls at hl ⊢
  have hl : lv_has ls 2 [(0, .ref h0), (1, .ref hd)] := hl
  have k_1 := hts (.constant RX7 34 (1414677326)) (List.mem_of_getElem? (i := 7) rfl)
  have k_2 := (fun _ h => List.mem_cons_of_mem _ (List.mem_append_right _ (List.mem_append_right _ (List.mem_append_left _ h))) : ∀ w ∈ wsX70, w ∈ v_X7_layOut)
  have k_3 := hts (.fieldLink RX7 9 "TwinRoots$Told" "epoch" "I") (List.mem_of_getElem? (i := 12) rfl)
  have k_4 := hts (.fieldLink RX7 15 "TwinRoots$Told" "top" "I") (List.mem_of_getElem? (i := 13) rfl)
  have k_5 := hts (.fieldLink RX7 18 "TwinRoots$Told" "keys" "I") (List.mem_of_getElem? (i := 14) rfl)
  refine lv_aload_n hx hb dX7_layOut_0 rfl (lv_at hl 1 rfl) ?_
  have hPc := hP.sub (ws' := [(hd, .inr (0, [.int (nI w), .int (nI b), .int wr, .ref qc, .ref qi, .int wa, .int wc])), (qi, .inl (cI, w, .inl g))]) [1, 2] rfl
  have hDc := hD.sub (ws' := [(hd, .inr (0, [.int (nI w), .int (nI b), .int wr, .ref qc, .ref qi, .int wa, .int wc])), (qi, .inl (cI, w, .inl g))]) [1, 2] (by decide) rfl
  have hKc := hK.sub (tys' := [(cI, .int)]) [0] rfl
  have hFc := va_free (wc := [(hd, .inr (0, [.int (nI w), .int (nI b), .int wr, .ref qc, .ref qi, .int wa, .int wc])), (qi, .inl (cI, w, .inl g))]) hD hS hA [1, 2] rfl
  refine va_callv (va_runV (As := []) (rest := []) ⟨hx, hb, hml, hown, hts⟩ (c_X0_startImage l dC dI s.heap.size hd w b qc qi wr wa wc cI g (by first | assumption | omega | decide)) (cwV 0 hts g_X7_layOut_X0_startImage rfl rfl rfl (by decide +kernel) ⟨Nat.le_of_ble_eq_true rfl, Nat.le_of_ble_eq_true rfl⟩) ⟨fun a U g mk q => by obtain ⟨q0, q1, qP, qK, qD⟩ := q; exact ⟨q0, q1, qP, va_K.moved (u := U) (U := U.calling g mk a) (Vm.Alike.refl U.vm) qK, qD⟩, va_recv hKc hPc (ci := 0) (q0 := 0) rfl rfl, fun U hU hW => ⟨rfl, by rw [hU], by rw [hU]; exact hPc, va_K.moved hW.alike hKc, hDc.weaken (fun _ _ _ _ => trivial)⟩⟩ rfl rfl hl.1 rfl (lv_room (Nat.le_of_ble_eq_true rfl)) dX7_layOut_1 ⟨(show 0 + 0 ≤ 0 by omega), (show 0 + 0 ≤ 0 by omega)⟩) hS (fun q _ h => hFc q h) hFc (fun u t H1 locs ht hvm hw hB hz1 hk1 hS => ?_)
  obtain ⟨f2_2, rfl⟩ : ∃ z, z = u := ⟨_, rfl⟩
  obtain ⟨hP1, hK1, hD1⟩ := hB
  rw [ht] at hP1
  have hK1 := va_K.moved hvm.symm hK1
  try dsimp only at hw
  obtain ⟨hP, hD⟩ := va_join (wr := [(h0, .inr (7, [.int e1, .int e2, .int e3, .long e4]))]) (w1 := [(hd, .inr (0, [.int (nI w), .int (nI b), .int wr, .ref qc, .ref qi, .int wa, .int wc])), (qi, .inl (cI, w, .inl f2_2))]) hP hD [1, 2] [0] rfl rfl (by decide) (by decide) hk1 hFc hP1 hD1
  have hK := (hK.sub (tys' := []) [] rfl).app hK1
  generalize H1 = H at hP hS ⊢
  have hP : va_P (dC, dI) vwCl [(h0, .inr (7, [.int e1, .int e2, .int e3, .long e4])), (hd, .inr (0, [.int (nI w), .int (nI b), .int wr, .ref qc, .ref qi, .int wa, .int wc])), (qi, .inl (cI, w, .inl f2_2))] H := hP
  have hD : va_D A [(h0, .inr (7, [.int e1, .int e2, .int e3, .long e4])), (hd, .inr (0, [.int (nI w), .int (nI b), .int wr, .ref qc, .ref qi, .int wa, .int wc])), (qi, .inl (cI, w, .inl f2_2))] := hD
  have hK : va_K (dC, dI) vwCl [(cI, .int)] s := hK
  refine lv_aload_n hx hb dX7_layOut_4 rfl (lv_at hl 1 rfl) ?_
  refine lv_iconst (v := 0) hx hb dX7_layOut_5 (by decide) ?_
  refine lv_ldc (v := (1414677326)) hx hb hown k_1 dX7_layOut_6 ?_
  have hPc := hP.sub (ws' := [(hd, .inr (0, [.int (nI w), .int (nI b), .int wr, .ref qc, .ref qi, .int wa, .int wc])), (qi, .inl (cI, w, .inl f2_2))]) [1, 2] rfl
  have hDc := hD.sub (ws' := [(hd, .inr (0, [.int (nI w), .int (nI b), .int wr, .ref qc, .ref qi, .int wa, .int wc])), (qi, .inl (cI, w, .inl f2_2))]) [1, 2] (by decide) rfl
  have hKc := hK.sub (tys' := [(cI, .int)]) [0] rfl
  have hFc := va_free (wc := [(hd, .inr (0, [.int (nI w), .int (nI b), .int wr, .ref qc, .ref qi, .int wa, .int wc])), (qi, .inl (cI, w, .inl f2_2))]) hD hS hA [1, 2] rfl
  refine va_callv (va_runV (As := [.int 0, .int 1414677326]) (rest := []) ⟨hx, hb, hml, hown, hts⟩ (c_X0_lay l dC dI H.size hd w b qc qi wr wa wc 0 1414677326 cI f2_2 (by first | assumption | omega | decide)) (cwV 2 hts g_X7_layOut_X0_lay rfl rfl rfl (by decide +kernel) ⟨Nat.le_of_ble_eq_true rfl, Nat.le_of_ble_eq_true rfl⟩) ⟨fun a U g mk q => by obtain ⟨q0, q1, qP, qK, qD⟩ := q; exact ⟨q0, q1, qP, va_K.moved (u := U) (U := U.calling g mk a) (Vm.Alike.refl U.vm) qK, qD⟩, va_recv hKc hPc (ci := 0) (q0 := 0) rfl rfl, fun U hU hW => ⟨rfl, by rw [hU], by rw [hU]; exact hPc, va_K.moved hW.alike hKc, hDc.weaken (fun _ _ _ _ => trivial)⟩⟩ rfl rfl hl.1 rfl (lv_room (Nat.le_of_ble_eq_true rfl)) dX7_layOut_8 ⟨(show 0 + 0 ≤ 0 by omega), (show 0 + 0 ≤ 0 by omega)⟩) hS (fun q _ h => hFc q h) hFc (fun u t H1 locs ht hvm hw hB hz1 hk1 hS => ?_)
  obtain ⟨f2_4, rfl⟩ : ∃ z, z = u := ⟨_, rfl⟩
  obtain ⟨hP1, hK1, hD1⟩ := hB
  rw [ht] at hP1
  have hK1 := va_K.moved hvm.symm hK1
  try dsimp only at hw
  obtain ⟨hP, hD⟩ := va_join (wr := [(h0, .inr (7, [.int e1, .int e2, .int e3, .long e4]))]) (w1 := [(hd, .inr (0, [.int (nI w), .int (nI b), .int wr, .ref qc, .ref qi, .int wa, .int wc])), (qi, .inl (cI, w, .inl f2_4))]) hP hD [1, 2] [0] rfl rfl (by decide) (by decide) hk1 hFc hP1 hD1
  have hK := (hK.sub (tys' := []) [] rfl).app hK1
  generalize H1 = H at hP hS ⊢
  have hP : va_P (dC, dI) vwCl [(h0, .inr (7, [.int e1, .int e2, .int e3, .long e4])), (hd, .inr (0, [.int (nI w), .int (nI b), .int wr, .ref qc, .ref qi, .int wa, .int wc])), (qi, .inl (cI, w, .inl f2_4))] H := hP
  have hD : va_D A [(h0, .inr (7, [.int e1, .int e2, .int e3, .long e4])), (hd, .inr (0, [.int (nI w), .int (nI b), .int wr, .ref qc, .ref qi, .int wa, .int wc])), (qi, .inl (cI, w, .inl f2_4))] := hD
  have hK : va_K (dC, dI) vwCl [(cI, .int)] s := hK
  refine lv_aload_n hx hb dX7_layOut_11 rfl (lv_at hl 1 rfl) ?_
  refine lv_iconst (v := 1) hx hb dX7_layOut_12 (by decide) ?_
  refine lv_aload_n hx hb dX7_layOut_13 rfl (lv_at hl 0 rfl) ?_
  refine va_get (D := (dC, dI)) (ci := 7) (v := .int e1) (C := RX7) (T := TX7) (N := 4) hx hb hts k_2 hown hK hP 0 rfl rfl 0 (by decide) k_3 (fun _ h9 => h9) rfl dX7_layOut_14 ?_
  have hPc := hP.sub (ws' := [(hd, .inr (0, [.int (nI w), .int (nI b), .int wr, .ref qc, .ref qi, .int wa, .int wc])), (qi, .inl (cI, w, .inl f2_4))]) [1, 2] rfl
  have hDc := hD.sub (ws' := [(hd, .inr (0, [.int (nI w), .int (nI b), .int wr, .ref qc, .ref qi, .int wa, .int wc])), (qi, .inl (cI, w, .inl f2_4))]) [1, 2] (by decide) rfl
  have hKc := hK.sub (tys' := [(cI, .int)]) [0] rfl
  have hFc := va_free (wc := [(hd, .inr (0, [.int (nI w), .int (nI b), .int wr, .ref qc, .ref qi, .int wa, .int wc])), (qi, .inl (cI, w, .inl f2_4))]) hD hS hA [1, 2] rfl
  refine va_callv (va_runV (As := [.int 1, .int e1]) (rest := []) ⟨hx, hb, hml, hown, hts⟩ (c_X0_lay l dC dI H.size hd w b qc qi wr wa wc 1 e1 cI f2_4 (by first | assumption | omega | decide)) (cwV 2 hts g_X7_layOut_X0_lay rfl rfl rfl (by decide +kernel) ⟨Nat.le_of_ble_eq_true rfl, Nat.le_of_ble_eq_true rfl⟩) ⟨fun a U g mk q => by obtain ⟨q0, q1, qP, qK, qD⟩ := q; exact ⟨q0, q1, qP, va_K.moved (u := U) (U := U.calling g mk a) (Vm.Alike.refl U.vm) qK, qD⟩, va_recv hKc hPc (ci := 0) (q0 := 0) rfl rfl, fun U hU hW => ⟨rfl, by rw [hU], by rw [hU]; exact hPc, va_K.moved hW.alike hKc, hDc.weaken (fun _ _ _ _ => trivial)⟩⟩ rfl rfl hl.1 rfl (lv_room (Nat.le_of_ble_eq_true rfl)) dX7_layOut_17 ⟨(show 0 + 0 ≤ 0 by omega), (show 0 + 0 ≤ 0 by omega)⟩) hS (fun q _ h => hFc q h) hFc (fun u t H1 locs ht hvm hw hB hz1 hk1 hS => ?_)
  obtain ⟨f2_6, rfl⟩ : ∃ z, z = u := ⟨_, rfl⟩
  obtain ⟨hP1, hK1, hD1⟩ := hB
  rw [ht] at hP1
  have hK1 := va_K.moved hvm.symm hK1
  try dsimp only at hw
  obtain ⟨hP, hD⟩ := va_join (wr := [(h0, .inr (7, [.int e1, .int e2, .int e3, .long e4]))]) (w1 := [(hd, .inr (0, [.int (nI w), .int (nI b), .int wr, .ref qc, .ref qi, .int wa, .int wc])), (qi, .inl (cI, w, .inl f2_6))]) hP hD [1, 2] [0] rfl rfl (by decide) (by decide) hk1 hFc hP1 hD1
  have hK := (hK.sub (tys' := []) [] rfl).app hK1
  generalize H1 = H at hP hS ⊢
  have hP : va_P (dC, dI) vwCl [(h0, .inr (7, [.int e1, .int e2, .int e3, .long e4])), (hd, .inr (0, [.int (nI w), .int (nI b), .int wr, .ref qc, .ref qi, .int wa, .int wc])), (qi, .inl (cI, w, .inl f2_6))] H := hP
  have hD : va_D A [(h0, .inr (7, [.int e1, .int e2, .int e3, .long e4])), (hd, .inr (0, [.int (nI w), .int (nI b), .int wr, .ref qc, .ref qi, .int wa, .int wc])), (qi, .inl (cI, w, .inl f2_6))] := hD
  have hK : va_K (dC, dI) vwCl [(cI, .int)] s := hK
  refine lv_aload_n hx hb dX7_layOut_20 rfl (lv_at hl 1 rfl) ?_
  refine lv_iconst (v := 2) hx hb dX7_layOut_21 (by decide) ?_
  refine lv_aload_n hx hb dX7_layOut_22 rfl (lv_at hl 0 rfl) ?_
  refine va_get (D := (dC, dI)) (ci := 7) (v := .int e2) (C := RX7) (T := TX7) (N := 4) hx hb hts k_2 hown hK hP 0 rfl rfl 1 (by decide) k_4 (fun _ h9 => h9) rfl dX7_layOut_23 ?_
  have hPc := hP.sub (ws' := [(hd, .inr (0, [.int (nI w), .int (nI b), .int wr, .ref qc, .ref qi, .int wa, .int wc])), (qi, .inl (cI, w, .inl f2_6))]) [1, 2] rfl
  have hDc := hD.sub (ws' := [(hd, .inr (0, [.int (nI w), .int (nI b), .int wr, .ref qc, .ref qi, .int wa, .int wc])), (qi, .inl (cI, w, .inl f2_6))]) [1, 2] (by decide) rfl
  have hKc := hK.sub (tys' := [(cI, .int)]) [0] rfl
  have hFc := va_free (wc := [(hd, .inr (0, [.int (nI w), .int (nI b), .int wr, .ref qc, .ref qi, .int wa, .int wc])), (qi, .inl (cI, w, .inl f2_6))]) hD hS hA [1, 2] rfl
  refine va_callv (va_runV (As := [.int 2, .int e2]) (rest := []) ⟨hx, hb, hml, hown, hts⟩ (c_X0_lay l dC dI H.size hd w b qc qi wr wa wc 2 e2 cI f2_6 (by first | assumption | omega | decide)) (cwV 2 hts g_X7_layOut_X0_lay rfl rfl rfl (by decide +kernel) ⟨Nat.le_of_ble_eq_true rfl, Nat.le_of_ble_eq_true rfl⟩) ⟨fun a U g mk q => by obtain ⟨q0, q1, qP, qK, qD⟩ := q; exact ⟨q0, q1, qP, va_K.moved (u := U) (U := U.calling g mk a) (Vm.Alike.refl U.vm) qK, qD⟩, va_recv hKc hPc (ci := 0) (q0 := 0) rfl rfl, fun U hU hW => ⟨rfl, by rw [hU], by rw [hU]; exact hPc, va_K.moved hW.alike hKc, hDc.weaken (fun _ _ _ _ => trivial)⟩⟩ rfl rfl hl.1 rfl (lv_room (Nat.le_of_ble_eq_true rfl)) dX7_layOut_26 ⟨(show 0 + 0 ≤ 0 by omega), (show 0 + 0 ≤ 0 by omega)⟩) hS (fun q _ h => hFc q h) hFc (fun u t H1 locs ht hvm hw hB hz1 hk1 hS => ?_)
  obtain ⟨f2_8, rfl⟩ : ∃ z, z = u := ⟨_, rfl⟩
  obtain ⟨hP1, hK1, hD1⟩ := hB
  rw [ht] at hP1
  have hK1 := va_K.moved hvm.symm hK1
  try dsimp only at hw
  obtain ⟨hP, hD⟩ := va_join (wr := [(h0, .inr (7, [.int e1, .int e2, .int e3, .long e4]))]) (w1 := [(hd, .inr (0, [.int (nI w), .int (nI b), .int wr, .ref qc, .ref qi, .int wa, .int wc])), (qi, .inl (cI, w, .inl f2_8))]) hP hD [1, 2] [0] rfl rfl (by decide) (by decide) hk1 hFc hP1 hD1
  have hK := (hK.sub (tys' := []) [] rfl).app hK1
  generalize H1 = H at hP hS ⊢
  have hP : va_P (dC, dI) vwCl [(h0, .inr (7, [.int e1, .int e2, .int e3, .long e4])), (hd, .inr (0, [.int (nI w), .int (nI b), .int wr, .ref qc, .ref qi, .int wa, .int wc])), (qi, .inl (cI, w, .inl f2_8))] H := hP
  have hD : va_D A [(h0, .inr (7, [.int e1, .int e2, .int e3, .long e4])), (hd, .inr (0, [.int (nI w), .int (nI b), .int wr, .ref qc, .ref qi, .int wa, .int wc])), (qi, .inl (cI, w, .inl f2_8))] := hD
  have hK : va_K (dC, dI) vwCl [(cI, .int)] s := hK
  refine lv_aload_n hx hb dX7_layOut_29 rfl (lv_at hl 1 rfl) ?_
  refine lv_iconst (v := 3) hx hb dX7_layOut_30 (by decide) ?_
  refine lv_aload_n hx hb dX7_layOut_31 rfl (lv_at hl 0 rfl) ?_
  refine va_get (D := (dC, dI)) (ci := 7) (v := .int e3) (C := RX7) (T := TX7) (N := 4) hx hb hts k_2 hown hK hP 0 rfl rfl 2 (by decide) k_5 (fun _ h9 => h9) rfl dX7_layOut_32 ?_
  have hPc := hP.sub (ws' := [(hd, .inr (0, [.int (nI w), .int (nI b), .int wr, .ref qc, .ref qi, .int wa, .int wc])), (qi, .inl (cI, w, .inl f2_8))]) [1, 2] rfl
  have hDc := hD.sub (ws' := [(hd, .inr (0, [.int (nI w), .int (nI b), .int wr, .ref qc, .ref qi, .int wa, .int wc])), (qi, .inl (cI, w, .inl f2_8))]) [1, 2] (by decide) rfl
  have hKc := hK.sub (tys' := [(cI, .int)]) [0] rfl
  have hFc := va_free (wc := [(hd, .inr (0, [.int (nI w), .int (nI b), .int wr, .ref qc, .ref qi, .int wa, .int wc])), (qi, .inl (cI, w, .inl f2_8))]) hD hS hA [1, 2] rfl
  refine va_callv (va_runV (As := [.int 3, .int e3]) (rest := []) ⟨hx, hb, hml, hown, hts⟩ (c_X0_lay l dC dI H.size hd w b qc qi wr wa wc 3 e3 cI f2_8 (by first | assumption | omega | decide)) (cwV 2 hts g_X7_layOut_X0_lay rfl rfl rfl (by decide +kernel) ⟨Nat.le_of_ble_eq_true rfl, Nat.le_of_ble_eq_true rfl⟩) ⟨fun a U g mk q => by obtain ⟨q0, q1, qP, qK, qD⟩ := q; exact ⟨q0, q1, qP, va_K.moved (u := U) (U := U.calling g mk a) (Vm.Alike.refl U.vm) qK, qD⟩, va_recv hKc hPc (ci := 0) (q0 := 0) rfl rfl, fun U hU hW => ⟨rfl, by rw [hU], by rw [hU]; exact hPc, va_K.moved hW.alike hKc, hDc.weaken (fun _ _ _ _ => trivial)⟩⟩ rfl rfl hl.1 rfl (lv_room (Nat.le_of_ble_eq_true rfl)) dX7_layOut_35 ⟨(show 0 + 0 ≤ 0 by omega), (show 0 + 0 ≤ 0 by omega)⟩) hS (fun q _ h => hFc q h) hFc (fun u t H1 locs ht hvm hw hB hz1 hk1 hS => ?_)
  obtain ⟨f2_10, rfl⟩ : ∃ z, z = u := ⟨_, rfl⟩
  obtain ⟨hP1, hK1, hD1⟩ := hB
  rw [ht] at hP1
  have hK1 := va_K.moved hvm.symm hK1
  try dsimp only at hw
  obtain ⟨hP, hD⟩ := va_join (wr := [(h0, .inr (7, [.int e1, .int e2, .int e3, .long e4]))]) (w1 := [(hd, .inr (0, [.int (nI w), .int (nI b), .int wr, .ref qc, .ref qi, .int wa, .int wc])), (qi, .inl (cI, w, .inl f2_10))]) hP hD [1, 2] [0] rfl rfl (by decide) (by decide) hk1 hFc hP1 hD1
  have hK := (hK.sub (tys' := []) [] rfl).app hK1
  generalize H1 = H at hP hS ⊢
  have hP : va_P (dC, dI) vwCl [(h0, .inr (7, [.int e1, .int e2, .int e3, .long e4])), (hd, .inr (0, [.int (nI w), .int (nI b), .int wr, .ref qc, .ref qi, .int wa, .int wc])), (qi, .inl (cI, w, .inl f2_10))] H := hP
  have hD : va_D A [(h0, .inr (7, [.int e1, .int e2, .int e3, .long e4])), (hd, .inr (0, [.int (nI w), .int (nI b), .int wr, .ref qc, .ref qi, .int wa, .int wc])), (qi, .inl (cI, w, .inl f2_10))] := hD
  have hK : va_K (dC, dI) vwCl [(cI, .int)] s := hK
  have hP9 := hP.sub (ws' := [(h0, .inr (7, [.int e1, .int e2, .int e3, .long e4])), (hd, .inr (0, [.int (nI w), .int (nI b), .int wr, .ref qc, .ref qi, .int wa, .int wc])), (qi, .inl (cI, w, .inl f2_10))]) [0, 1, 2] rfl
  have hD9 := hD.sub (ws' := [(h0, .inr (7, [.int e1, .int e2, .int e3, .long e4])), (hd, .inr (0, [.int (nI w), .int (nI b), .int wr, .ref qc, .ref qi, .int wa, .int wc])), (qi, .inl (cI, w, .inl f2_10))]) [0, 1, 2] (by decide) rfl
  have hK9 := hK.sub (tys' := [(cI, .int)]) [0] rfl
  exact W.vret hx hb hr (fun t ht hW => ⟨⟨(f2_10), rfl, trivial, by rw [ht]; exact hP9, va_K.moved hW.alike hK9, hD9⟩, hS.F ht⟩) hS.2.2 dX7_layOut_38
def v_X3_most : List Cond := .code yX3_most cX3_most 2 (some .int) :: ([.fieldLink RX3 13 "TwinRoots$Limits" "mostChildren" "I", .fieldLink RX3 7 "TwinRoots$Limits" "mostKeys" "I"] ++ (wsX30 ++ ([])))
set_option maxHeartbeats 4000000 in
set_option maxRecDepth 100000 in
/-- most -/
theorem c_X3_most (l : Launch) (dC : Nat → ClassId) (dI : Nat → Nat → Nat) (sz : Nat) (h0 : Nat) (mk : Int32) (mc : Int32) (p0 : Int32) : Met l yX3_most v_X3_most ({ frames := 0, cells := 0, slots := 0, locals := 0 } : Room) (va_Pc [.ref h0, .int p0] (fun U => U.heap.size = sz ∧ va_P (dC, dI) vwCl [(h0, .inr (3, [.int mk, .int mc]))] U.heap ∧ va_K (dC, dI) vwCl [] U ∧ va_D (fun _ => True) [(h0, .inr (3, [.int mk, .int mc]))])) (va_Qi (fun (r : Int32) (_ : Unit) => r = (if p0 = 0 then mc else mk)) (fun (_ : Unit) (t : State) => va_P (dC, dI) vwCl [(h0, .inr (3, [.int mk, .int mc]))] t.heap ∧ va_K (dC, dI) vwCl [] t ∧ va_D (va_A [(h0, .inr (3, [.int mk, .int mc]))] sz) [(h0, .inr (3, [.int mk, .int mc]))]) (va_A [(h0, .inr (3, [.int mk, .int mc]))] sz)) 0 0 (va_A [(h0, .inr (3, [.int mk, .int mc]))] sz) := by
  refine Met.ofW (cc := cX3_most) (maxL := 2) (ret := (some .int)) (by decide) rfl ?_
  intro p e s m args below meth c s₁ B hml hv
  obtain ⟨rfl, hsz, hP, hK, hD0⟩ := hv
  have hx := B.exec
  have hb := B.bytes
  have hr := B.returns
  have hts := atoms_spec (ws := v_X3_most) B.pre
  have hown : s.vm.findClass RX3 = some m.cls := findClass_of_methodNamed B.named
  have hlocks := B.notSynchronized
  subst hsz
  have hD := hD0.self (sz := s.heap.size)
  generalize hAe : va_A [(h0, .inr (3, [.int mk, .int mc]))] s.heap.size = A at hD ⊢
  have hA : ∀ q : Nat, s.heap.size ≤ q → A q := fun q h => by rw [← hAe]; exact Or.inr h
  have hS : va_S A s.heap s.heap [] := va_S.rf
  have hP : va_P (dC, dI) vwCl [(h0, .inr (3, [.int mk, .int mc]))] s.heap := hP
  have hl := lv_entry ([.ref h0, .int p0]) (n := 2) (Nat.le_of_ble_eq_true rfl)
  rw [lg_entry_eq]
  generalize (lg_sl ([.ref h0, .int p0]) ++ List.replicate (2 - (lg_sl ([.ref h0, .int p0])).length) Slot.unset).toArray = ls at hl ⊢
  have hl : lv_has ls 2 [(0, .ref h0), (1, .int p0)] := hl
  have k_1 := (fun _ h => List.mem_cons_of_mem _ (List.mem_append_right _ (List.mem_append_left _ h)) : ∀ w ∈ wsX30, w ∈ v_X3_most)
  have k_2 := hts (.fieldLink RX3 13 "TwinRoots$Limits" "mostChildren" "I") (List.mem_of_getElem? (i := 1) rfl)
  have k_3 := hts (.fieldLink RX3 7 "TwinRoots$Limits" "mostKeys" "I") (List.mem_of_getElem? (i := 2) rfl)
  refine lv_iload_n hx hb dX3_most_0 rfl (lv_at hl 1 rfl) ?_
  refine lv_if_eq (tgt := 11) hx hb dX3_most_1 (by decide) (fun c_1 => ?_) (fun c_1 => ?_)
  · refine lv_aload_n hx hb dX3_most_11 rfl (lv_at hl 0 rfl) ?_
    refine va_get (D := (dC, dI)) (ci := 3) (v := .int mc) (C := RX3) (T := TX3) (N := 2) hx hb hts k_1 hown hK hP 0 rfl rfl 1 (by decide) k_2 (fun _ h9 => h9) rfl dX3_most_12 ?_
    have hP9 := hP.sub (ws' := [(h0, .inr (3, [.int mk, .int mc]))]) [0] rfl
    have hD9 := hD.sub (ws' := [(h0, .inr (3, [.int mk, .int mc]))]) [0] (by decide) rfl
    have hK9 := hK.sub (tys' := []) [] rfl
    exact W.iret (v := mc) hx hb hr (fun t ht hW => ⟨⟨mc, (), rfl, by simp [c_1], by rw [ht]; exact hP9, va_K.moved hW.alike hK9, hD9⟩, hS.F ht⟩) hS.2.2 dX3_most_15
  · refine lv_aload_n hx hb dX3_most_4 rfl (lv_at hl 0 rfl) ?_
    refine va_get (D := (dC, dI)) (ci := 3) (v := .int mk) (C := RX3) (T := TX3) (N := 2) hx hb hts k_1 hown hK hP 0 rfl rfl 0 (by decide) k_3 (fun _ h9 => h9) rfl dX3_most_5 ?_
    refine lv_goto (tgt := 15) hx hb dX3_most_8 (by decide) ?_
    have hP9 := hP.sub (ws' := [(h0, .inr (3, [.int mk, .int mc]))]) [0] rfl
    have hD9 := hD.sub (ws' := [(h0, .inr (3, [.int mk, .int mc]))]) [0] (by decide) rfl
    have hK9 := hK.sub (tys' := []) [] rfl
    exact W.iret (v := mk) hx hb hr (fun t ht hW => ⟨⟨mk, (), rfl, by simp [c_1], by rw [ht]; exact hP9, va_K.moved hW.alike hK9, hD9⟩, hS.F ht⟩) hS.2.2 dX3_most_15
def v_X3_least : List Cond := .code yX3_least cX3_least 2 (some .int) :: ([.fieldLink RX3 13 "TwinRoots$Limits" "mostChildren" "I", .fieldLink RX3 7 "TwinRoots$Limits" "mostKeys" "I"] ++ (wsX30 ++ ([])))
set_option maxHeartbeats 4000000 in
set_option maxRecDepth 100000 in
/-- least -/
theorem c_X3_least (l : Launch) (dC : Nat → ClassId) (dI : Nat → Nat → Nat) (sz : Nat) (h0 : Nat) (mk : Int32) (mc : Int32) (p0 : Int32) : Met l yX3_least v_X3_least ({ frames := 0, cells := 0, slots := 0, locals := 0 } : Room) (va_Pc [.ref h0, .int p0] (fun U => U.heap.size = sz ∧ va_P (dC, dI) vwCl [(h0, .inr (3, [.int mk, .int mc]))] U.heap ∧ va_K (dC, dI) vwCl [] U ∧ va_D (fun _ => True) [(h0, .inr (3, [.int mk, .int mc]))])) (va_Qi (fun (r : Int32) (_ : Unit) => r = (if p0 = 0 then (mc + 1) / 2 else mk / 2)) (fun (_ : Unit) (t : State) => va_P (dC, dI) vwCl [(h0, .inr (3, [.int mk, .int mc]))] t.heap ∧ va_K (dC, dI) vwCl [] t ∧ va_D (va_A [(h0, .inr (3, [.int mk, .int mc]))] sz) [(h0, .inr (3, [.int mk, .int mc]))]) (va_A [(h0, .inr (3, [.int mk, .int mc]))] sz)) 0 0 (va_A [(h0, .inr (3, [.int mk, .int mc]))] sz) := by
  refine Met.ofW (cc := cX3_least) (maxL := 2) (ret := (some .int)) (by decide) rfl ?_
  intro p e s m args below meth c s₁ B hml hv
  obtain ⟨rfl, hsz, hP, hK, hD0⟩ := hv
  have hx := B.exec
  have hb := B.bytes
  have hr := B.returns
  have hts := atoms_spec (ws := v_X3_least) B.pre
  have hown : s.vm.findClass RX3 = some m.cls := findClass_of_methodNamed B.named
  have hlocks := B.notSynchronized
  subst hsz
  have hD := hD0.self (sz := s.heap.size)
  generalize hAe : va_A [(h0, .inr (3, [.int mk, .int mc]))] s.heap.size = A at hD ⊢
  have hA : ∀ q : Nat, s.heap.size ≤ q → A q := fun q h => by rw [← hAe]; exact Or.inr h
  have hS : va_S A s.heap s.heap [] := va_S.rf
  have hP : va_P (dC, dI) vwCl [(h0, .inr (3, [.int mk, .int mc]))] s.heap := hP
  have hl := lv_entry ([.ref h0, .int p0]) (n := 2) (Nat.le_of_ble_eq_true rfl)
  rw [lg_entry_eq]
  generalize (lg_sl ([.ref h0, .int p0]) ++ List.replicate (2 - (lg_sl ([.ref h0, .int p0])).length) Slot.unset).toArray = ls at hl ⊢
  have hl : lv_has ls 2 [(0, .ref h0), (1, .int p0)] := hl
  have k_1 := (fun _ h => List.mem_cons_of_mem _ (List.mem_append_right _ (List.mem_append_left _ h)) : ∀ w ∈ wsX30, w ∈ v_X3_least)
  have k_2 := hts (.fieldLink RX3 13 "TwinRoots$Limits" "mostChildren" "I") (List.mem_of_getElem? (i := 1) rfl)
  have k_3 := hts (.fieldLink RX3 7 "TwinRoots$Limits" "mostKeys" "I") (List.mem_of_getElem? (i := 2) rfl)
  refine lv_iload_n hx hb dX3_least_0 rfl (lv_at hl 1 rfl) ?_
  refine lv_if_eq (tgt := 13) hx hb dX3_least_1 (by decide) (fun c_1 => ?_) (fun c_1 => ?_)
  · refine lv_aload_n hx hb dX3_least_13 rfl (lv_at hl 0 rfl) ?_
    refine va_get (D := (dC, dI)) (ci := 3) (v := .int mc) (C := RX3) (T := TX3) (N := 2) hx hb hts k_1 hown hK hP 0 rfl rfl 1 (by decide) k_2 (fun _ h9 => h9) rfl dX3_least_14 ?_
    refine lv_iconst (v := 1) hx hb dX3_least_17 (by decide) ?_
    refine lv_iadd hx hb dX3_least_18 ?_
    refine lv_iconst (v := 2) hx hb dX3_least_19 (by decide) ?_
    refine lv_idiv hx hb dX3_least_20 (by decide) ?_
    have hP9 := hP.sub (ws' := [(h0, .inr (3, [.int mk, .int mc]))]) [0] rfl
    have hD9 := hD.sub (ws' := [(h0, .inr (3, [.int mk, .int mc]))]) [0] (by decide) rfl
    have hK9 := hK.sub (tys' := []) [] rfl
    exact W.iret (v := ((mc + 1) / 2)) hx hb hr (fun t ht hW => ⟨⟨((mc + 1) / 2), (), rfl, by simp [c_1], by rw [ht]; exact hP9, va_K.moved hW.alike hK9, hD9⟩, hS.F ht⟩) hS.2.2 dX3_least_21
  · refine lv_aload_n hx hb dX3_least_4 rfl (lv_at hl 0 rfl) ?_
    refine va_get (D := (dC, dI)) (ci := 3) (v := .int mk) (C := RX3) (T := TX3) (N := 2) hx hb hts k_1 hown hK hP 0 rfl rfl 0 (by decide) k_3 (fun _ h9 => h9) rfl dX3_least_5 ?_
    refine lv_iconst (v := 2) hx hb dX3_least_8 (by decide) ?_
    refine lv_idiv hx hb dX3_least_9 (by decide) ?_
    refine lv_goto (tgt := 21) hx hb dX3_least_10 (by decide) ?_
    have hP9 := hP.sub (ws' := [(h0, .inr (3, [.int mk, .int mc]))]) [0] rfl
    have hD9 := hD.sub (ws' := [(h0, .inr (3, [.int mk, .int mc]))]) [0] (by decide) rfl
    have hK9 := hK.sub (tys' := []) [] rfl
    exact W.iret (v := (mk / 2)) hx hb hr (fun t ht hW => ⟨⟨(mk / 2), (), rfl, by simp [c_1], by rw [ht]; exact hP9, va_K.moved hW.alike hK9, hD9⟩, hS.F ht⟩) hS.2.2 dX3_least_21
def v_X4_keyAt : List Cond := .code yX4_keyAt cX4_keyAt 2 (some .int) :: ([.fieldLink RX4 22 "TwinRoots$Page" "many" "I", .fieldLink RX4 15 "TwinRoots$Page" "keys" "[I"] ++ (wsX40 ++ ([])))
set_option maxHeartbeats 4000000 in
set_option maxRecDepth 100000 in
/-- some number of the page -/
theorem c_X4_keyAt (l : Launch) (dC : Nat → ClassId) (dI : Nat → Nat → Nat) (sz : Nat) (h0 : Nat) (qk : Nat) (qr : Nat) (n : Nat) (mn : Nat) (lf : Int32) (cK : ClassId) (cR : ClassId) (f : Nat → Int32) (g : Nat → Int32) (p0 : Int32) (zn : n ≤ 40) (zm : mn ≤ n) : Met l yX4_keyAt v_X4_keyAt ({ frames := 0, cells := 0, slots := 0, locals := 0 } : Room) (va_Pc [.ref h0, .int p0] (fun U => U.heap.size = sz ∧ va_P (dC, dI) vwCl [(h0, .inr (4, [.int lf, .int (nI mn), .ref qk, .ref qr])), (qk, .inl (cK, n, .inl f)), (qr, .inl (cR, n, .inl g))] U.heap ∧ va_K (dC, dI) vwCl [(cK, .int), (cR, .int)] U ∧ va_D (fun _ => True) [(h0, .inr (4, [.int lf, .int (nI mn), .ref qk, .ref qr])), (qk, .inl (cK, n, .inl f)), (qr, .inl (cR, n, .inl g))])) (va_Qi (fun (r : Int32) (_ : Unit) => True) (fun (_ : Unit) (t : State) => va_P (dC, dI) vwCl [(h0, .inr (4, [.int lf, .int (nI mn), .ref qk, .ref qr])), (qk, .inl (cK, n, .inl f)), (qr, .inl (cR, n, .inl g))] t.heap ∧ va_K (dC, dI) vwCl [(cK, .int), (cR, .int)] t ∧ va_D (va_A [(h0, .inr (4, [.int lf, .int (nI mn), .ref qk, .ref qr])), (qk, .inl (cK, n, .inl f)), (qr, .inl (cR, n, .inl g))] sz) [(h0, .inr (4, [.int lf, .int (nI mn), .ref qk, .ref qr])), (qk, .inl (cK, n, .inl f)), (qr, .inl (cR, n, .inl g))]) (va_A [(h0, .inr (4, [.int lf, .int (nI mn), .ref qk, .ref qr])), (qk, .inl (cK, n, .inl f)), (qr, .inl (cR, n, .inl g))] sz)) 0 0 (va_A [(h0, .inr (4, [.int lf, .int (nI mn), .ref qk, .ref qr])), (qk, .inl (cK, n, .inl f)), (qr, .inl (cR, n, .inl g))] sz) := by
  refine Met.ofW (cc := cX4_keyAt) (maxL := 2) (ret := (some .int)) (by decide) rfl ?_
  intro p e s m args below meth c s₁ B hml hv
  obtain ⟨rfl, hsz, hP, hK, hD0⟩ := hv
  have hx := B.exec
  have hb := B.bytes
  have hr := B.returns
  have hts := atoms_spec (ws := v_X4_keyAt) B.pre
  have hown : s.vm.findClass RX4 = some m.cls := findClass_of_methodNamed B.named
  have hlocks := B.notSynchronized
  subst hsz
  have hD := hD0.self (sz := s.heap.size)
  generalize hAe : va_A [(h0, .inr (4, [.int lf, .int (nI mn), .ref qk, .ref qr])), (qk, .inl (cK, n, .inl f)), (qr, .inl (cR, n, .inl g))] s.heap.size = A at hD ⊢
  have hA : ∀ q : Nat, s.heap.size ≤ q → A q := fun q h => by rw [← hAe]; exact Or.inr h
  have hS : va_S A s.heap s.heap [] := va_S.rf
  have hP : va_P (dC, dI) vwCl [(h0, .inr (4, [.int lf, .int (nI mn), .ref qk, .ref qr])), (qk, .inl (cK, n, .inl f)), (qr, .inl (cR, n, .inl g))] s.heap := hP
  have hl := lv_entry ([.ref h0, .int p0]) (n := 2) (Nat.le_of_ble_eq_true rfl)
  rw [lg_entry_eq]
  generalize (lg_sl ([.ref h0, .int p0]) ++ List.replicate (2 - (lg_sl ([.ref h0, .int p0])).length) Slot.unset).toArray = ls at hl ⊢
  have hl : lv_has ls 2 [(0, .ref h0), (1, .int p0)] := hl
  have k_1 := (fun _ h => List.mem_cons_of_mem _ (List.mem_append_right _ (List.mem_append_left _ h)) : ∀ w ∈ wsX40, w ∈ v_X4_keyAt)
  have k_2 := hts (.fieldLink RX4 22 "TwinRoots$Page" "many" "I") (List.mem_of_getElem? (i := 1) rfl)
  have k_3 := hts (.fieldLink RX4 15 "TwinRoots$Page" "keys" "[I") (List.mem_of_getElem? (i := 2) rfl)
  refine lv_iload_n hx hb dX4_keyAt_0 rfl (lv_at hl 1 rfl) ?_
  refine lv_if_lt (tgt := 30) hx hb dX4_keyAt_1 (by decide) (fun c_1 => ?_) (fun c_1 => ?_)
  · refine lv_iconst (v := 0) hx hb dX4_keyAt_30 (by decide) ?_
    have hP9 := hP.sub (ws' := [(h0, .inr (4, [.int lf, .int (nI mn), .ref qk, .ref qr])), (qk, .inl (cK, n, .inl f)), (qr, .inl (cR, n, .inl g))]) [0, 1, 2] rfl
    have hD9 := hD.sub (ws' := [(h0, .inr (4, [.int lf, .int (nI mn), .ref qk, .ref qr])), (qk, .inl (cK, n, .inl f)), (qr, .inl (cR, n, .inl g))]) [0, 1, 2] (by decide) rfl
    have hK9 := hK.sub (tys' := [(cK, .int), (cR, .int)]) [0, 1] rfl
    exact W.iret (v := 0) hx hb hr (fun t ht hW => ⟨⟨0, (), rfl, trivial, by rw [ht]; exact hP9, va_K.moved hW.alike hK9, hD9⟩, hS.F ht⟩) hS.2.2 dX4_keyAt_31
  · refine lv_iload_n hx hb dX4_keyAt_4 rfl (lv_at hl 1 rfl) ?_
    refine lv_aload_n hx hb dX4_keyAt_5 rfl (lv_at hl 0 rfl) ?_
    refine va_get (D := (dC, dI)) (ci := 4) (v := .int (nI mn)) (C := RX4) (T := TX4) (N := 4) hx hb hts k_1 hown hK hP 0 rfl rfl 1 (by decide) k_2 (fun _ h9 => h9) rfl dX4_keyAt_6 ?_
    refine lv_icmp_ge (tgt := 30) hx hb dX4_keyAt_9 (by decide) (fun c_2 => ?_) (fun c_2 => ?_)
    · refine lv_iconst (v := 0) hx hb dX4_keyAt_30 (by decide) ?_
      have hP9 := hP.sub (ws' := [(h0, .inr (4, [.int lf, .int (nI mn), .ref qk, .ref qr])), (qk, .inl (cK, n, .inl f)), (qr, .inl (cR, n, .inl g))]) [0, 1, 2] rfl
      have hD9 := hD.sub (ws' := [(h0, .inr (4, [.int lf, .int (nI mn), .ref qk, .ref qr])), (qk, .inl (cK, n, .inl f)), (qr, .inl (cR, n, .inl g))]) [0, 1, 2] (by decide) rfl
      have hK9 := hK.sub (tys' := [(cK, .int), (cR, .int)]) [0, 1] rfl
      exact W.iret (v := 0) hx hb hr (fun t ht hW => ⟨⟨0, (), rfl, trivial, by rw [ht]; exact hP9, va_K.moved hW.alike hK9, hD9⟩, hS.F ht⟩) hS.2.2 dX4_keyAt_31
    · refine lv_iload_n hx hb dX4_keyAt_12 rfl (lv_at hl 1 rfl) ?_
      refine lv_aload_n hx hb dX4_keyAt_13 rfl (lv_at hl 0 rfl) ?_
      refine va_get (D := (dC, dI)) (ci := 4) (v := .ref qk) (C := RX4) (T := TX4) (N := 4) hx hb hts k_1 hown hK hP 0 rfl rfl 2 (by decide) k_3 (fun _ h9 => h9) rfl dX4_keyAt_14 ?_
      refine va_alen (v := nI n) hx hb hK hP 1 0 rfl rfl rfl dX4_keyAt_17 ?_
      refine lv_icmp_ge (tgt := 30) hx hb dX4_keyAt_18 (by decide) (fun c_3 => ?_) (fun c_3 => ?_)
      · refine lv_iconst (v := 0) hx hb dX4_keyAt_30 (by decide) ?_
        have hP9 := hP.sub (ws' := [(h0, .inr (4, [.int lf, .int (nI mn), .ref qk, .ref qr])), (qk, .inl (cK, n, .inl f)), (qr, .inl (cR, n, .inl g))]) [0, 1, 2] rfl
        have hD9 := hD.sub (ws' := [(h0, .inr (4, [.int lf, .int (nI mn), .ref qk, .ref qr])), (qk, .inl (cK, n, .inl f)), (qr, .inl (cR, n, .inl g))]) [0, 1, 2] (by decide) rfl
        have hK9 := hK.sub (tys' := [(cK, .int), (cR, .int)]) [0, 1] rfl
        exact W.iret (v := 0) hx hb hr (fun t ht hW => ⟨⟨0, (), rfl, trivial, by rw [ht]; exact hP9, va_K.moved hW.alike hK9, hD9⟩, hS.F ht⟩) hS.2.2 dX4_keyAt_31
      · refine lv_aload_n hx hb dX4_keyAt_21 rfl (lv_at hl 0 rfl) ?_
        refine va_get (D := (dC, dI)) (ci := 4) (v := .ref qk) (C := RX4) (T := TX4) (N := 4) hx hb hts k_1 hown hK hP 0 rfl rfl 2 (by decide) k_3 (fun _ h9 => h9) rfl dX4_keyAt_22 ?_
        refine lv_iload_n hx hb dX4_keyAt_25 rfl (lv_at hl 1 rfl) ?_
        refine va_iald hx hb hK hP 1 0 rfl rfl (in_guard c_1 c_3 (by omega)) dX4_keyAt_26 ?_
        refine lv_topi (fun z_4 _ => ?_)
        refine lv_goto (tgt := 31) hx hb dX4_keyAt_27 (by decide) ?_
        have hP9 := hP.sub (ws' := [(h0, .inr (4, [.int lf, .int (nI mn), .ref qk, .ref qr])), (qk, .inl (cK, n, .inl f)), (qr, .inl (cR, n, .inl g))]) [0, 1, 2] rfl
        have hD9 := hD.sub (ws' := [(h0, .inr (4, [.int lf, .int (nI mn), .ref qk, .ref qr])), (qk, .inl (cK, n, .inl f)), (qr, .inl (cR, n, .inl g))]) [0, 1, 2] (by decide) rfl
        have hK9 := hK.sub (tys' := [(cK, .int), (cR, .int)]) [0, 1] rfl
        exact W.iret (v := z_4) hx hb hr (fun t ht hW => ⟨⟨z_4, (), rfl, trivial, by rw [ht]; exact hP9, va_K.moved hW.alike hK9, hD9⟩, hS.F ht⟩) hS.2.2 dX4_keyAt_31
def v_X4_refAt : List Cond := .code yX4_refAt cX4_refAt 2 (some .int) :: ([.fieldLink RX4 22 "TwinRoots$Page" "many" "I", .fieldLink RX4 19 "TwinRoots$Page" "refs" "[I"] ++ (wsX40 ++ ([])))
set_option maxHeartbeats 4000000 in
set_option maxRecDepth 100000 in
/-- some number of the page -/
theorem c_X4_refAt (l : Launch) (dC : Nat → ClassId) (dI : Nat → Nat → Nat) (sz : Nat) (h0 : Nat) (qk : Nat) (qr : Nat) (n : Nat) (mn : Nat) (lf : Int32) (cK : ClassId) (cR : ClassId) (f : Nat → Int32) (g : Nat → Int32) (p0 : Int32) (zn : n ≤ 40) (zm : mn ≤ n) : Met l yX4_refAt v_X4_refAt ({ frames := 0, cells := 0, slots := 0, locals := 0 } : Room) (va_Pc [.ref h0, .int p0] (fun U => U.heap.size = sz ∧ va_P (dC, dI) vwCl [(h0, .inr (4, [.int lf, .int (nI mn), .ref qk, .ref qr])), (qk, .inl (cK, n, .inl f)), (qr, .inl (cR, n, .inl g))] U.heap ∧ va_K (dC, dI) vwCl [(cK, .int), (cR, .int)] U ∧ va_D (fun _ => True) [(h0, .inr (4, [.int lf, .int (nI mn), .ref qk, .ref qr])), (qk, .inl (cK, n, .inl f)), (qr, .inl (cR, n, .inl g))])) (va_Qi (fun (r : Int32) (_ : Unit) => True) (fun (_ : Unit) (t : State) => va_P (dC, dI) vwCl [(h0, .inr (4, [.int lf, .int (nI mn), .ref qk, .ref qr])), (qk, .inl (cK, n, .inl f)), (qr, .inl (cR, n, .inl g))] t.heap ∧ va_K (dC, dI) vwCl [(cK, .int), (cR, .int)] t ∧ va_D (va_A [(h0, .inr (4, [.int lf, .int (nI mn), .ref qk, .ref qr])), (qk, .inl (cK, n, .inl f)), (qr, .inl (cR, n, .inl g))] sz) [(h0, .inr (4, [.int lf, .int (nI mn), .ref qk, .ref qr])), (qk, .inl (cK, n, .inl f)), (qr, .inl (cR, n, .inl g))]) (va_A [(h0, .inr (4, [.int lf, .int (nI mn), .ref qk, .ref qr])), (qk, .inl (cK, n, .inl f)), (qr, .inl (cR, n, .inl g))] sz)) 0 0 (va_A [(h0, .inr (4, [.int lf, .int (nI mn), .ref qk, .ref qr])), (qk, .inl (cK, n, .inl f)), (qr, .inl (cR, n, .inl g))] sz) := by
  refine Met.ofW (cc := cX4_refAt) (maxL := 2) (ret := (some .int)) (by decide) rfl ?_
  intro p e s m args below meth c s₁ B hml hv
  obtain ⟨rfl, hsz, hP, hK, hD0⟩ := hv
  have hx := B.exec
  have hb := B.bytes
  have hr := B.returns
  have hts := atoms_spec (ws := v_X4_refAt) B.pre
  have hown : s.vm.findClass RX4 = some m.cls := findClass_of_methodNamed B.named
  have hlocks := B.notSynchronized
  subst hsz
  have hD := hD0.self (sz := s.heap.size)
  generalize hAe : va_A [(h0, .inr (4, [.int lf, .int (nI mn), .ref qk, .ref qr])), (qk, .inl (cK, n, .inl f)), (qr, .inl (cR, n, .inl g))] s.heap.size = A at hD ⊢
  have hA : ∀ q : Nat, s.heap.size ≤ q → A q := fun q h => by rw [← hAe]; exact Or.inr h
  have hS : va_S A s.heap s.heap [] := va_S.rf
  have hP : va_P (dC, dI) vwCl [(h0, .inr (4, [.int lf, .int (nI mn), .ref qk, .ref qr])), (qk, .inl (cK, n, .inl f)), (qr, .inl (cR, n, .inl g))] s.heap := hP
  have hl := lv_entry ([.ref h0, .int p0]) (n := 2) (Nat.le_of_ble_eq_true rfl)
  rw [lg_entry_eq]
  generalize (lg_sl ([.ref h0, .int p0]) ++ List.replicate (2 - (lg_sl ([.ref h0, .int p0])).length) Slot.unset).toArray = ls at hl ⊢
  have hl : lv_has ls 2 [(0, .ref h0), (1, .int p0)] := hl
  have k_1 := (fun _ h => List.mem_cons_of_mem _ (List.mem_append_right _ (List.mem_append_left _ h)) : ∀ w ∈ wsX40, w ∈ v_X4_refAt)
  have k_2 := hts (.fieldLink RX4 22 "TwinRoots$Page" "many" "I") (List.mem_of_getElem? (i := 1) rfl)
  have k_3 := hts (.fieldLink RX4 19 "TwinRoots$Page" "refs" "[I") (List.mem_of_getElem? (i := 2) rfl)
  refine lv_iload_n hx hb dX4_refAt_0 rfl (lv_at hl 1 rfl) ?_
  refine lv_if_lt (tgt := 30) hx hb dX4_refAt_1 (by decide) (fun c_1 => ?_) (fun c_1 => ?_)
  · refine lv_iconst (v := 0) hx hb dX4_refAt_30 (by decide) ?_
    have hP9 := hP.sub (ws' := [(h0, .inr (4, [.int lf, .int (nI mn), .ref qk, .ref qr])), (qk, .inl (cK, n, .inl f)), (qr, .inl (cR, n, .inl g))]) [0, 1, 2] rfl
    have hD9 := hD.sub (ws' := [(h0, .inr (4, [.int lf, .int (nI mn), .ref qk, .ref qr])), (qk, .inl (cK, n, .inl f)), (qr, .inl (cR, n, .inl g))]) [0, 1, 2] (by decide) rfl
    have hK9 := hK.sub (tys' := [(cK, .int), (cR, .int)]) [0, 1] rfl
    exact W.iret (v := 0) hx hb hr (fun t ht hW => ⟨⟨0, (), rfl, trivial, by rw [ht]; exact hP9, va_K.moved hW.alike hK9, hD9⟩, hS.F ht⟩) hS.2.2 dX4_refAt_31
  · refine lv_iload_n hx hb dX4_refAt_4 rfl (lv_at hl 1 rfl) ?_
    refine lv_aload_n hx hb dX4_refAt_5 rfl (lv_at hl 0 rfl) ?_
    refine va_get (D := (dC, dI)) (ci := 4) (v := .int (nI mn)) (C := RX4) (T := TX4) (N := 4) hx hb hts k_1 hown hK hP 0 rfl rfl 1 (by decide) k_2 (fun _ h9 => h9) rfl dX4_refAt_6 ?_
    refine lv_icmp_ge (tgt := 30) hx hb dX4_refAt_9 (by decide) (fun c_2 => ?_) (fun c_2 => ?_)
    · refine lv_iconst (v := 0) hx hb dX4_refAt_30 (by decide) ?_
      have hP9 := hP.sub (ws' := [(h0, .inr (4, [.int lf, .int (nI mn), .ref qk, .ref qr])), (qk, .inl (cK, n, .inl f)), (qr, .inl (cR, n, .inl g))]) [0, 1, 2] rfl
      have hD9 := hD.sub (ws' := [(h0, .inr (4, [.int lf, .int (nI mn), .ref qk, .ref qr])), (qk, .inl (cK, n, .inl f)), (qr, .inl (cR, n, .inl g))]) [0, 1, 2] (by decide) rfl
      have hK9 := hK.sub (tys' := [(cK, .int), (cR, .int)]) [0, 1] rfl
      exact W.iret (v := 0) hx hb hr (fun t ht hW => ⟨⟨0, (), rfl, trivial, by rw [ht]; exact hP9, va_K.moved hW.alike hK9, hD9⟩, hS.F ht⟩) hS.2.2 dX4_refAt_31
    · refine lv_iload_n hx hb dX4_refAt_12 rfl (lv_at hl 1 rfl) ?_
      refine lv_aload_n hx hb dX4_refAt_13 rfl (lv_at hl 0 rfl) ?_
      refine va_get (D := (dC, dI)) (ci := 4) (v := .ref qr) (C := RX4) (T := TX4) (N := 4) hx hb hts k_1 hown hK hP 0 rfl rfl 3 (by decide) k_3 (fun _ h9 => h9) rfl dX4_refAt_14 ?_
      refine va_alen (v := nI n) hx hb hK hP 2 1 rfl rfl rfl dX4_refAt_17 ?_
      refine lv_icmp_ge (tgt := 30) hx hb dX4_refAt_18 (by decide) (fun c_3 => ?_) (fun c_3 => ?_)
      · refine lv_iconst (v := 0) hx hb dX4_refAt_30 (by decide) ?_
        have hP9 := hP.sub (ws' := [(h0, .inr (4, [.int lf, .int (nI mn), .ref qk, .ref qr])), (qk, .inl (cK, n, .inl f)), (qr, .inl (cR, n, .inl g))]) [0, 1, 2] rfl
        have hD9 := hD.sub (ws' := [(h0, .inr (4, [.int lf, .int (nI mn), .ref qk, .ref qr])), (qk, .inl (cK, n, .inl f)), (qr, .inl (cR, n, .inl g))]) [0, 1, 2] (by decide) rfl
        have hK9 := hK.sub (tys' := [(cK, .int), (cR, .int)]) [0, 1] rfl
        exact W.iret (v := 0) hx hb hr (fun t ht hW => ⟨⟨0, (), rfl, trivial, by rw [ht]; exact hP9, va_K.moved hW.alike hK9, hD9⟩, hS.F ht⟩) hS.2.2 dX4_refAt_31
      · refine lv_aload_n hx hb dX4_refAt_21 rfl (lv_at hl 0 rfl) ?_
        refine va_get (D := (dC, dI)) (ci := 4) (v := .ref qr) (C := RX4) (T := TX4) (N := 4) hx hb hts k_1 hown hK hP 0 rfl rfl 3 (by decide) k_3 (fun _ h9 => h9) rfl dX4_refAt_22 ?_
        refine lv_iload_n hx hb dX4_refAt_25 rfl (lv_at hl 1 rfl) ?_
        refine va_iald hx hb hK hP 2 1 rfl rfl (in_guard c_1 c_3 (by omega)) dX4_refAt_26 ?_
        refine lv_topi (fun z_4 _ => ?_)
        refine lv_goto (tgt := 31) hx hb dX4_refAt_27 (by decide) ?_
        have hP9 := hP.sub (ws' := [(h0, .inr (4, [.int lf, .int (nI mn), .ref qk, .ref qr])), (qk, .inl (cK, n, .inl f)), (qr, .inl (cR, n, .inl g))]) [0, 1, 2] rfl
        have hD9 := hD.sub (ws' := [(h0, .inr (4, [.int lf, .int (nI mn), .ref qk, .ref qr])), (qk, .inl (cK, n, .inl f)), (qr, .inl (cR, n, .inl g))]) [0, 1, 2] (by decide) rfl
        have hK9 := hK.sub (tys' := [(cK, .int), (cR, .int)]) [0, 1] rfl
        exact W.iret (v := z_4) hx hb hr (fun t ht hW => ⟨⟨z_4, (), rfl, trivial, by rw [ht]; exact hP9, va_K.moved hW.alike hK9, hD9⟩, hS.F ht⟩) hS.2.2 dX4_refAt_31
def v_X4_setKey : List Cond := .code yX4_setKey cX4_setKey 3 none :: ([.fieldLink RX4 22 "TwinRoots$Page" "many" "I", .fieldLink RX4 15 "TwinRoots$Page" "keys" "[I"] ++ (wsX40 ++ ([])))
set_option maxHeartbeats 4000000 in
set_option maxRecDepth 100000 in
/-- one number of the page is set, or none -/
theorem c_X4_setKey (l : Launch) (dC : Nat → ClassId) (dI : Nat → Nat → Nat) (sz : Nat) (h0 : Nat) (qk : Nat) (qr : Nat) (n : Nat) (mn : Nat) (lf : Int32) (cK : ClassId) (cR : ClassId) (f : Nat → Int32) (g : Nat → Int32) (p0 : Int32) (p1 : Int32) (zn : n ≤ 40) (zm : mn ≤ n) : Met l yX4_setKey v_X4_setKey ({ frames := 0, cells := 0, slots := 0, locals := 0 } : Room) (va_Pc [.ref h0, .int p0, .int p1] (fun U => U.heap.size = sz ∧ va_P (dC, dI) vwCl [(h0, .inr (4, [.int lf, .int (nI mn), .ref qk, .ref qr])), (qk, .inl (cK, n, .inl f)), (qr, .inl (cR, n, .inl g))] U.heap ∧ va_K (dC, dI) vwCl [(cK, .int), (cR, .int)] U ∧ va_D (fun _ => True) [(h0, .inr (4, [.int lf, .int (nI mn), .ref qk, .ref qr])), (qk, .inl (cK, n, .inl f)), (qr, .inl (cR, n, .inl g))])) (va_Qv (fun (f2 : Nat → Int32) => True) (fun (f2 : Nat → Int32) (t : State) => va_P (dC, dI) vwCl [(h0, .inr (4, [.int lf, .int (nI mn), .ref qk, .ref qr])), (qk, .inl (cK, n, .inl f2)), (qr, .inl (cR, n, .inl g))] t.heap ∧ va_K (dC, dI) vwCl [(cK, .int), (cR, .int)] t ∧ va_D (va_A [(h0, .inr (4, [.int lf, .int (nI mn), .ref qk, .ref qr])), (qk, .inl (cK, n, .inl f)), (qr, .inl (cR, n, .inl g))] sz) [(h0, .inr (4, [.int lf, .int (nI mn), .ref qk, .ref qr])), (qk, .inl (cK, n, .inl f2)), (qr, .inl (cR, n, .inl g))]) (va_A [(h0, .inr (4, [.int lf, .int (nI mn), .ref qk, .ref qr])), (qk, .inl (cK, n, .inl f)), (qr, .inl (cR, n, .inl g))] sz)) 0 0 (va_A [(h0, .inr (4, [.int lf, .int (nI mn), .ref qk, .ref qr])), (qk, .inl (cK, n, .inl f)), (qr, .inl (cR, n, .inl g))] sz) := by
  refine Met.ofW (cc := cX4_setKey) (maxL := 3) (ret := none) (by decide) rfl ?_
  intro p e s m args below meth c s₁ B hml hv
  obtain ⟨rfl, hsz, hP, hK, hD0⟩ := hv
  have hx := B.exec
  have hb := B.bytes
  have hr := B.returns
  have hts := atoms_spec (ws := v_X4_setKey) B.pre
  have hown : s.vm.findClass RX4 = some m.cls := findClass_of_methodNamed B.named
  have hlocks := B.notSynchronized
  subst hsz
  have hD := hD0.self (sz := s.heap.size)
  generalize hAe : va_A [(h0, .inr (4, [.int lf, .int (nI mn), .ref qk, .ref qr])), (qk, .inl (cK, n, .inl f)), (qr, .inl (cR, n, .inl g))] s.heap.size = A at hD ⊢
  have hA : ∀ q : Nat, s.heap.size ≤ q → A q := fun q h => by rw [← hAe]; exact Or.inr h
  have hS : va_S A s.heap s.heap [] := va_S.rf
  have hP : va_P (dC, dI) vwCl [(h0, .inr (4, [.int lf, .int (nI mn), .ref qk, .ref qr])), (qk, .inl (cK, n, .inl f)), (qr, .inl (cR, n, .inl g))] s.heap := hP
  have hl := lv_entry ([.ref h0, .int p0, .int p1]) (n := 3) (Nat.le_of_ble_eq_true rfl)
  rw [lg_entry_eq]
  generalize (lg_sl ([.ref h0, .int p0, .int p1]) ++ List.replicate (3 - (lg_sl ([.ref h0, .int p0, .int p1])).length) Slot.unset).toArray = ls at hl ⊢
  have hl : lv_has ls 3 [(0, .ref h0), (1, .int p0), (2, .int p1)] := hl
  have k_1 := (fun _ h => List.mem_cons_of_mem _ (List.mem_append_right _ (List.mem_append_left _ h)) : ∀ w ∈ wsX40, w ∈ v_X4_setKey)
  have k_2 := hts (.fieldLink RX4 22 "TwinRoots$Page" "many" "I") (List.mem_of_getElem? (i := 1) rfl)
  have k_3 := hts (.fieldLink RX4 15 "TwinRoots$Page" "keys" "[I") (List.mem_of_getElem? (i := 2) rfl)
  refine lv_iload_n hx hb dX4_setKey_0 rfl (lv_at hl 1 rfl) ?_
  refine lv_if_lt (tgt := 28) hx hb dX4_setKey_1 (by decide) (fun c_1 => ?_) (fun c_1 => ?_)
  · have hP9 := hP.sub (ws' := [(h0, .inr (4, [.int lf, .int (nI mn), .ref qk, .ref qr])), (qk, .inl (cK, n, .inl f)), (qr, .inl (cR, n, .inl g))]) [0, 1, 2] rfl
    have hD9 := hD.sub (ws' := [(h0, .inr (4, [.int lf, .int (nI mn), .ref qk, .ref qr])), (qk, .inl (cK, n, .inl f)), (qr, .inl (cR, n, .inl g))]) [0, 1, 2] (by decide) rfl
    have hK9 := hK.sub (tys' := [(cK, .int), (cR, .int)]) [0, 1] rfl
    exact W.vret hx hb hr (fun t ht hW => ⟨⟨(f), rfl, trivial, by rw [ht]; exact hP9, va_K.moved hW.alike hK9, hD9⟩, hS.F ht⟩) hS.2.2 dX4_setKey_28
  · refine lv_iload_n hx hb dX4_setKey_4 rfl (lv_at hl 1 rfl) ?_
    refine lv_aload_n hx hb dX4_setKey_5 rfl (lv_at hl 0 rfl) ?_
    refine va_get (D := (dC, dI)) (ci := 4) (v := .int (nI mn)) (C := RX4) (T := TX4) (N := 4) hx hb hts k_1 hown hK hP 0 rfl rfl 1 (by decide) k_2 (fun _ h9 => h9) rfl dX4_setKey_6 ?_
    refine lv_icmp_ge (tgt := 28) hx hb dX4_setKey_9 (by decide) (fun c_2 => ?_) (fun c_2 => ?_)
    · have hP9 := hP.sub (ws' := [(h0, .inr (4, [.int lf, .int (nI mn), .ref qk, .ref qr])), (qk, .inl (cK, n, .inl f)), (qr, .inl (cR, n, .inl g))]) [0, 1, 2] rfl
      have hD9 := hD.sub (ws' := [(h0, .inr (4, [.int lf, .int (nI mn), .ref qk, .ref qr])), (qk, .inl (cK, n, .inl f)), (qr, .inl (cR, n, .inl g))]) [0, 1, 2] (by decide) rfl
      have hK9 := hK.sub (tys' := [(cK, .int), (cR, .int)]) [0, 1] rfl
      exact W.vret hx hb hr (fun t ht hW => ⟨⟨(f), rfl, trivial, by rw [ht]; exact hP9, va_K.moved hW.alike hK9, hD9⟩, hS.F ht⟩) hS.2.2 dX4_setKey_28
    · refine lv_iload_n hx hb dX4_setKey_12 rfl (lv_at hl 1 rfl) ?_
      refine lv_aload_n hx hb dX4_setKey_13 rfl (lv_at hl 0 rfl) ?_
      refine va_get (D := (dC, dI)) (ci := 4) (v := .ref qk) (C := RX4) (T := TX4) (N := 4) hx hb hts k_1 hown hK hP 0 rfl rfl 2 (by decide) k_3 (fun _ h9 => h9) rfl dX4_setKey_14 ?_
      refine va_alen (v := nI n) hx hb hK hP 1 0 rfl rfl rfl dX4_setKey_17 ?_
      refine lv_icmp_ge (tgt := 28) hx hb dX4_setKey_18 (by decide) (fun c_3 => ?_) (fun c_3 => ?_)
      · have hP9 := hP.sub (ws' := [(h0, .inr (4, [.int lf, .int (nI mn), .ref qk, .ref qr])), (qk, .inl (cK, n, .inl f)), (qr, .inl (cR, n, .inl g))]) [0, 1, 2] rfl
        have hD9 := hD.sub (ws' := [(h0, .inr (4, [.int lf, .int (nI mn), .ref qk, .ref qr])), (qk, .inl (cK, n, .inl f)), (qr, .inl (cR, n, .inl g))]) [0, 1, 2] (by decide) rfl
        have hK9 := hK.sub (tys' := [(cK, .int), (cR, .int)]) [0, 1] rfl
        exact W.vret hx hb hr (fun t ht hW => ⟨⟨(f), rfl, trivial, by rw [ht]; exact hP9, va_K.moved hW.alike hK9, hD9⟩, hS.F ht⟩) hS.2.2 dX4_setKey_28
      · refine lv_aload_n hx hb dX4_setKey_21 rfl (lv_at hl 0 rfl) ?_
        refine va_get (D := (dC, dI)) (ci := 4) (v := .ref qk) (C := RX4) (T := TX4) (N := 4) hx hb hts k_1 hown hK hP 0 rfl rfl 2 (by decide) k_3 (fun _ h9 => h9) rfl dX4_setKey_22 ?_
        refine lv_iload_n hx hb dX4_setKey_25 rfl (lv_at hl 1 rfl) ?_
        refine lv_iload_n hx hb dX4_setKey_26 rfl (lv_at hl 2 rfl) ?_
        refine va_iast hx hb hK hP hD hS 1 0 rfl rfl (in_guard c_1 c_3 (by omega)) dX4_setKey_27 (fun H locs hP hD hS => ?_)
        have hP : va_P (dC, dI) vwCl [(h0, .inr (4, [.int lf, .int (nI mn), .ref qk, .ref qr])), (qk, .inl (cK, n, .inl (upd f (p0.toNatClampNeg) p1))), (qr, .inl (cR, n, .inl g))] H := hP
        have hD : va_D A [(h0, .inr (4, [.int lf, .int (nI mn), .ref qk, .ref qr])), (qk, .inl (cK, n, .inl (upd f (p0.toNatClampNeg) p1))), (qr, .inl (cR, n, .inl g))] := hD
        obtain ⟨f_4, ef_4⟩ : ∃ g9, g9 = upd f (p0.toNatClampNeg) p1 := ⟨_, rfl⟩
        rw [← ef_4] at hP hD
        have hP9 := hP.sub (ws' := [(h0, .inr (4, [.int lf, .int (nI mn), .ref qk, .ref qr])), (qk, .inl (cK, n, .inl f_4)), (qr, .inl (cR, n, .inl g))]) [0, 1, 2] rfl
        have hD9 := hD.sub (ws' := [(h0, .inr (4, [.int lf, .int (nI mn), .ref qk, .ref qr])), (qk, .inl (cK, n, .inl f_4)), (qr, .inl (cR, n, .inl g))]) [0, 1, 2] (by decide) rfl
        have hK9 := hK.sub (tys' := [(cK, .int), (cR, .int)]) [0, 1] rfl
        exact W.vret hx hb hr (fun t ht hW => ⟨⟨(f_4), rfl, trivial, by rw [ht]; exact hP9, va_K.moved hW.alike hK9, hD9⟩, hS.F ht⟩) hS.2.2 dX4_setKey_28
def v_X4_setRef : List Cond := .code yX4_setRef cX4_setRef 3 none :: ([.fieldLink RX4 22 "TwinRoots$Page" "many" "I", .fieldLink RX4 19 "TwinRoots$Page" "refs" "[I"] ++ (wsX40 ++ ([])))
set_option maxHeartbeats 4000000 in
set_option maxRecDepth 100000 in
/-- one number of the page is set, or none -/
theorem c_X4_setRef (l : Launch) (dC : Nat → ClassId) (dI : Nat → Nat → Nat) (sz : Nat) (h0 : Nat) (qk : Nat) (qr : Nat) (n : Nat) (mn : Nat) (lf : Int32) (cK : ClassId) (cR : ClassId) (f : Nat → Int32) (g : Nat → Int32) (p0 : Int32) (p1 : Int32) (zn : n ≤ 40) (zm : mn ≤ n) : Met l yX4_setRef v_X4_setRef ({ frames := 0, cells := 0, slots := 0, locals := 0 } : Room) (va_Pc [.ref h0, .int p0, .int p1] (fun U => U.heap.size = sz ∧ va_P (dC, dI) vwCl [(h0, .inr (4, [.int lf, .int (nI mn), .ref qk, .ref qr])), (qk, .inl (cK, n, .inl f)), (qr, .inl (cR, n, .inl g))] U.heap ∧ va_K (dC, dI) vwCl [(cK, .int), (cR, .int)] U ∧ va_D (fun _ => True) [(h0, .inr (4, [.int lf, .int (nI mn), .ref qk, .ref qr])), (qk, .inl (cK, n, .inl f)), (qr, .inl (cR, n, .inl g))])) (va_Qv (fun (f2 : Nat → Int32) => True) (fun (f2 : Nat → Int32) (t : State) => va_P (dC, dI) vwCl [(h0, .inr (4, [.int lf, .int (nI mn), .ref qk, .ref qr])), (qk, .inl (cK, n, .inl f)), (qr, .inl (cR, n, .inl f2))] t.heap ∧ va_K (dC, dI) vwCl [(cK, .int), (cR, .int)] t ∧ va_D (va_A [(h0, .inr (4, [.int lf, .int (nI mn), .ref qk, .ref qr])), (qk, .inl (cK, n, .inl f)), (qr, .inl (cR, n, .inl g))] sz) [(h0, .inr (4, [.int lf, .int (nI mn), .ref qk, .ref qr])), (qk, .inl (cK, n, .inl f)), (qr, .inl (cR, n, .inl f2))]) (va_A [(h0, .inr (4, [.int lf, .int (nI mn), .ref qk, .ref qr])), (qk, .inl (cK, n, .inl f)), (qr, .inl (cR, n, .inl g))] sz)) 0 0 (va_A [(h0, .inr (4, [.int lf, .int (nI mn), .ref qk, .ref qr])), (qk, .inl (cK, n, .inl f)), (qr, .inl (cR, n, .inl g))] sz) := by
  refine Met.ofW (cc := cX4_setRef) (maxL := 3) (ret := none) (by decide) rfl ?_
  intro p e s m args below meth c s₁ B hml hv
  obtain ⟨rfl, hsz, hP, hK, hD0⟩ := hv
  have hx := B.exec
  have hb := B.bytes
  have hr := B.returns
  have hts := atoms_spec (ws := v_X4_setRef) B.pre
  have hown : s.vm.findClass RX4 = some m.cls := findClass_of_methodNamed B.named
  have hlocks := B.notSynchronized
  subst hsz
  have hD := hD0.self (sz := s.heap.size)
  generalize hAe : va_A [(h0, .inr (4, [.int lf, .int (nI mn), .ref qk, .ref qr])), (qk, .inl (cK, n, .inl f)), (qr, .inl (cR, n, .inl g))] s.heap.size = A at hD ⊢
  have hA : ∀ q : Nat, s.heap.size ≤ q → A q := fun q h => by rw [← hAe]; exact Or.inr h
  have hS : va_S A s.heap s.heap [] := va_S.rf
  have hP : va_P (dC, dI) vwCl [(h0, .inr (4, [.int lf, .int (nI mn), .ref qk, .ref qr])), (qk, .inl (cK, n, .inl f)), (qr, .inl (cR, n, .inl g))] s.heap := hP
  have hl := lv_entry ([.ref h0, .int p0, .int p1]) (n := 3) (Nat.le_of_ble_eq_true rfl)
  rw [lg_entry_eq]
  generalize (lg_sl ([.ref h0, .int p0, .int p1]) ++ List.replicate (3 - (lg_sl ([.ref h0, .int p0, .int p1])).length) Slot.unset).toArray = ls at hl ⊢
  have hl : lv_has ls 3 [(0, .ref h0), (1, .int p0), (2, .int p1)] := hl
  have k_1 := (fun _ h => List.mem_cons_of_mem _ (List.mem_append_right _ (List.mem_append_left _ h)) : ∀ w ∈ wsX40, w ∈ v_X4_setRef)
  have k_2 := hts (.fieldLink RX4 22 "TwinRoots$Page" "many" "I") (List.mem_of_getElem? (i := 1) rfl)
  have k_3 := hts (.fieldLink RX4 19 "TwinRoots$Page" "refs" "[I") (List.mem_of_getElem? (i := 2) rfl)
  refine lv_iload_n hx hb dX4_setRef_0 rfl (lv_at hl 1 rfl) ?_
  refine lv_if_lt (tgt := 28) hx hb dX4_setRef_1 (by decide) (fun c_1 => ?_) (fun c_1 => ?_)
  · have hP9 := hP.sub (ws' := [(h0, .inr (4, [.int lf, .int (nI mn), .ref qk, .ref qr])), (qk, .inl (cK, n, .inl f)), (qr, .inl (cR, n, .inl g))]) [0, 1, 2] rfl
    have hD9 := hD.sub (ws' := [(h0, .inr (4, [.int lf, .int (nI mn), .ref qk, .ref qr])), (qk, .inl (cK, n, .inl f)), (qr, .inl (cR, n, .inl g))]) [0, 1, 2] (by decide) rfl
    have hK9 := hK.sub (tys' := [(cK, .int), (cR, .int)]) [0, 1] rfl
    exact W.vret hx hb hr (fun t ht hW => ⟨⟨(g), rfl, trivial, by rw [ht]; exact hP9, va_K.moved hW.alike hK9, hD9⟩, hS.F ht⟩) hS.2.2 dX4_setRef_28
  · refine lv_iload_n hx hb dX4_setRef_4 rfl (lv_at hl 1 rfl) ?_
    refine lv_aload_n hx hb dX4_setRef_5 rfl (lv_at hl 0 rfl) ?_
    refine va_get (D := (dC, dI)) (ci := 4) (v := .int (nI mn)) (C := RX4) (T := TX4) (N := 4) hx hb hts k_1 hown hK hP 0 rfl rfl 1 (by decide) k_2 (fun _ h9 => h9) rfl dX4_setRef_6 ?_
    refine lv_icmp_ge (tgt := 28) hx hb dX4_setRef_9 (by decide) (fun c_2 => ?_) (fun c_2 => ?_)
    · have hP9 := hP.sub (ws' := [(h0, .inr (4, [.int lf, .int (nI mn), .ref qk, .ref qr])), (qk, .inl (cK, n, .inl f)), (qr, .inl (cR, n, .inl g))]) [0, 1, 2] rfl
      have hD9 := hD.sub (ws' := [(h0, .inr (4, [.int lf, .int (nI mn), .ref qk, .ref qr])), (qk, .inl (cK, n, .inl f)), (qr, .inl (cR, n, .inl g))]) [0, 1, 2] (by decide) rfl
      have hK9 := hK.sub (tys' := [(cK, .int), (cR, .int)]) [0, 1] rfl
      exact W.vret hx hb hr (fun t ht hW => ⟨⟨(g), rfl, trivial, by rw [ht]; exact hP9, va_K.moved hW.alike hK9, hD9⟩, hS.F ht⟩) hS.2.2 dX4_setRef_28
    · refine lv_iload_n hx hb dX4_setRef_12 rfl (lv_at hl 1 rfl) ?_
      refine lv_aload_n hx hb dX4_setRef_13 rfl (lv_at hl 0 rfl) ?_
      refine va_get (D := (dC, dI)) (ci := 4) (v := .ref qr) (C := RX4) (T := TX4) (N := 4) hx hb hts k_1 hown hK hP 0 rfl rfl 3 (by decide) k_3 (fun _ h9 => h9) rfl dX4_setRef_14 ?_
      refine va_alen (v := nI n) hx hb hK hP 2 1 rfl rfl rfl dX4_setRef_17 ?_
      refine lv_icmp_ge (tgt := 28) hx hb dX4_setRef_18 (by decide) (fun c_3 => ?_) (fun c_3 => ?_)
      · have hP9 := hP.sub (ws' := [(h0, .inr (4, [.int lf, .int (nI mn), .ref qk, .ref qr])), (qk, .inl (cK, n, .inl f)), (qr, .inl (cR, n, .inl g))]) [0, 1, 2] rfl
        have hD9 := hD.sub (ws' := [(h0, .inr (4, [.int lf, .int (nI mn), .ref qk, .ref qr])), (qk, .inl (cK, n, .inl f)), (qr, .inl (cR, n, .inl g))]) [0, 1, 2] (by decide) rfl
        have hK9 := hK.sub (tys' := [(cK, .int), (cR, .int)]) [0, 1] rfl
        exact W.vret hx hb hr (fun t ht hW => ⟨⟨(g), rfl, trivial, by rw [ht]; exact hP9, va_K.moved hW.alike hK9, hD9⟩, hS.F ht⟩) hS.2.2 dX4_setRef_28
      · refine lv_aload_n hx hb dX4_setRef_21 rfl (lv_at hl 0 rfl) ?_
        refine va_get (D := (dC, dI)) (ci := 4) (v := .ref qr) (C := RX4) (T := TX4) (N := 4) hx hb hts k_1 hown hK hP 0 rfl rfl 3 (by decide) k_3 (fun _ h9 => h9) rfl dX4_setRef_22 ?_
        refine lv_iload_n hx hb dX4_setRef_25 rfl (lv_at hl 1 rfl) ?_
        refine lv_iload_n hx hb dX4_setRef_26 rfl (lv_at hl 2 rfl) ?_
        refine va_iast hx hb hK hP hD hS 2 1 rfl rfl (in_guard c_1 c_3 (by omega)) dX4_setRef_27 (fun H locs hP hD hS => ?_)
        have hP : va_P (dC, dI) vwCl [(h0, .inr (4, [.int lf, .int (nI mn), .ref qk, .ref qr])), (qk, .inl (cK, n, .inl f)), (qr, .inl (cR, n, .inl (upd g (p0.toNatClampNeg) p1)))] H := hP
        have hD : va_D A [(h0, .inr (4, [.int lf, .int (nI mn), .ref qk, .ref qr])), (qk, .inl (cK, n, .inl f)), (qr, .inl (cR, n, .inl (upd g (p0.toNatClampNeg) p1)))] := hD
        obtain ⟨f_4, ef_4⟩ : ∃ g9, g9 = upd g (p0.toNatClampNeg) p1 := ⟨_, rfl⟩
        rw [← ef_4] at hP hD
        have hP9 := hP.sub (ws' := [(h0, .inr (4, [.int lf, .int (nI mn), .ref qk, .ref qr])), (qk, .inl (cK, n, .inl f)), (qr, .inl (cR, n, .inl f_4))]) [0, 1, 2] rfl
        have hD9 := hD.sub (ws' := [(h0, .inr (4, [.int lf, .int (nI mn), .ref qk, .ref qr])), (qk, .inl (cK, n, .inl f)), (qr, .inl (cR, n, .inl f_4))]) [0, 1, 2] (by decide) rfl
        have hK9 := hK.sub (tys' := [(cK, .int), (cR, .int)]) [0, 1] rfl
        exact W.vret hx hb hr (fun t ht hW => ⟨⟨(f_4), rfl, trivial, by rw [ht]; exact hP9, va_K.moved hW.alike hK9, hD9⟩, hS.F ht⟩) hS.2.2 dX4_setRef_28
def v_X4_clear : List Cond := .code yX4_clear cX4_clear 2 none :: ([.fieldLink RX4 9 "TwinRoots$Page" "leaf" "Z", .fieldLink RX4 22 "TwinRoots$Page" "many" "I"] ++ (wsX40 ++ ([])))
set_option maxHeartbeats 4000000 in
set_option maxRecDepth 100000 in
/-- clear -/
theorem c_X4_clear (l : Launch) (dC : Nat → ClassId) (dI : Nat → Nat → Nat) (sz : Nat) (h0 : Nat) (qk : Nat) (qr : Nat) (mn : Nat) (lf : Int32) (p0 : Int32) (zz : p0 = 0 ∨ p0 = 1) : Met l yX4_clear v_X4_clear ({ frames := 0, cells := 0, slots := 0, locals := 0 } : Room) (va_Pc [.ref h0, .int p0] (fun U => U.heap.size = sz ∧ va_P (dC, dI) vwCl [(h0, .inr (4, [.int lf, .int (nI mn), .ref qk, .ref qr]))] U.heap ∧ va_K (dC, dI) vwCl [] U ∧ va_D (fun _ => True) [(h0, .inr (4, [.int lf, .int (nI mn), .ref qk, .ref qr]))])) (va_Qv (fun (_ : Unit) => True) (fun (_ : Unit) (t : State) => va_P (dC, dI) vwCl [(h0, .inr (4, [.int p0, .int 0, .ref qk, .ref qr]))] t.heap ∧ va_K (dC, dI) vwCl [] t ∧ va_D (va_A [(h0, .inr (4, [.int lf, .int (nI mn), .ref qk, .ref qr]))] sz) [(h0, .inr (4, [.int p0, .int 0, .ref qk, .ref qr]))]) (va_A [(h0, .inr (4, [.int lf, .int (nI mn), .ref qk, .ref qr]))] sz)) 0 0 (va_A [(h0, .inr (4, [.int lf, .int (nI mn), .ref qk, .ref qr]))] sz) := by
  refine Met.ofW (cc := cX4_clear) (maxL := 2) (ret := none) (by decide) rfl ?_
  intro p e s m args below meth c s₁ B hml hv
  obtain ⟨rfl, hsz, hP, hK, hD0⟩ := hv
  have hx := B.exec
  have hb := B.bytes
  have hr := B.returns
  have hts := atoms_spec (ws := v_X4_clear) B.pre
  have hown : s.vm.findClass RX4 = some m.cls := findClass_of_methodNamed B.named
  have hlocks := B.notSynchronized
  subst hsz
  have hD := hD0.self (sz := s.heap.size)
  generalize hAe : va_A [(h0, .inr (4, [.int lf, .int (nI mn), .ref qk, .ref qr]))] s.heap.size = A at hD ⊢
  have hA : ∀ q : Nat, s.heap.size ≤ q → A q := fun q h => by rw [← hAe]; exact Or.inr h
  have hS : va_S A s.heap s.heap [] := va_S.rf
  have hP : va_P (dC, dI) vwCl [(h0, .inr (4, [.int lf, .int (nI mn), .ref qk, .ref qr]))] s.heap := hP
  have hl := lv_entry ([.ref h0, .int p0]) (n := 2) (Nat.le_of_ble_eq_true rfl)
  rw [lg_entry_eq]
  generalize (lg_sl ([.ref h0, .int p0]) ++ List.replicate (2 - (lg_sl ([.ref h0, .int p0])).length) Slot.unset).toArray = ls at hl ⊢
  have hl : lv_has ls 2 [(0, .ref h0), (1, .int p0)] := hl
  have k_1 := (fun _ h => List.mem_cons_of_mem _ (List.mem_append_right _ (List.mem_append_left _ h)) : ∀ w ∈ wsX40, w ∈ v_X4_clear)
  have k_2 := hts (.fieldLink RX4 9 "TwinRoots$Page" "leaf" "Z") (List.mem_of_getElem? (i := 1) rfl)
  have k_3 := hts (.fieldLink RX4 22 "TwinRoots$Page" "many" "I") (List.mem_of_getElem? (i := 2) rfl)
  refine lv_aload_n hx hb dX4_clear_0 rfl (lv_at hl 0 rfl) ?_
  refine lv_iload_n hx hb dX4_clear_1 rfl (lv_at hl 1 rfl) ?_
  refine va_put (D := (dC, dI)) (ci := 4) (v := .int p0) (ty := .boolean) (C := RX4) (T := TX4) (N := 4) hx hb hts k_1 tyX4 tyX4_ok nmX4 hown hK hP hD hS 0 rfl rfl 0 (by decide) k_2 (fun _ h9 => h9) rfl (by decide +kernel) (b01_nar zz) (b01_fit zz) (Nat.le_of_ble_eq_true rfl) dX4_clear_2 (fun H locs hP hD hS => ?_)
  have hP : va_P (dC, dI) vwCl [(h0, .inr (4, [.int p0, .int (nI mn), .ref qk, .ref qr]))] H := hP
  have hD : va_D A [(h0, .inr (4, [.int p0, .int (nI mn), .ref qk, .ref qr]))] := hD
  refine lv_aload_n hx hb dX4_clear_5 rfl (lv_at hl 0 rfl) ?_
  refine lv_iconst (v := 0) hx hb dX4_clear_6 (by decide) ?_
  refine va_put (D := (dC, dI)) (ci := 4) (v := .int 0) (ty := .int) (C := RX4) (T := TX4) (N := 4) hx hb hts k_1 tyX4 tyX4_ok nmX4 hown hK hP hD hS 0 rfl rfl 1 (by decide) k_3 (fun _ h9 => h9) rfl (by decide +kernel) rfl rfl (Nat.le_of_ble_eq_true rfl) dX4_clear_7 (fun H locs hP hD hS => ?_)
  have hP : va_P (dC, dI) vwCl [(h0, .inr (4, [.int p0, .int 0, .ref qk, .ref qr]))] H := hP
  have hD : va_D A [(h0, .inr (4, [.int p0, .int 0, .ref qk, .ref qr]))] := hD
  have hP9 := hP.sub (ws' := [(h0, .inr (4, [.int p0, .int 0, .ref qk, .ref qr]))]) [0] rfl
  have hD9 := hD.sub (ws' := [(h0, .inr (4, [.int p0, .int 0, .ref qk, .ref qr]))]) [0] (by decide) rfl
  have hK9 := hK.sub (tys' := []) [] rfl
  exact W.vret hx hb hr (fun t ht hW => ⟨⟨(), rfl, trivial, by rw [ht]; exact hP9, va_K.moved hW.alike hK9, hD9⟩, hS.F ht⟩) hS.2.2 dX4_clear_10

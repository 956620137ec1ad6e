theorem max0_nI {p z : Int32} (h : z = if 0 < p then p else 0) : ∃ j : Nat, j < 2 ^ 31 ∧ z = nI j := by
  by_cases c : 0 < p
  · rw [if_pos c] at h
    have h0 : ¬ p < 0 := fun h9 => absurd (Int32.lt_trans c h9) Int32.lt_irrefl
    obtain ⟨j, hj, e⟩ := nI_of h0
    exact ⟨j, hj, h.trans e⟩
  · rw [if_neg c] at h
    exact ⟨0, by decide, h⟩
def v_X0_sealOf_any : List Cond := .code yX0_sealOf cX0_sealOf 5 (some .int) :: ([.code Lib.Math.max.name Lib.Math.max.code 2 (some .int), .methodLink RX0 26 Lib.Math.max.name, .static Lib.Math.max.name, .initialized "java/lang/Math"] ++ ([]))
set_option maxHeartbeats 4000000 in
set_option maxRecDepth 100000 in
/-- sealOf: some number -/
theorem c_X0_sealOf_any (l : Launch) (dC : Nat → ClassId) (dI : Nat → Nat → Nat) (sz : Nat) (qr : Nat) (n : Nat) (p0 : Int32) (p1 : Int32) (cQ : ClassId) (f : Nat → Int32) (zn : n ≤ 2560) : Met l yX0_sealOf v_X0_sealOf_any ({ frames := 1, cells := 0, slots := 0, locals := 13 } : Room) (va_Pc [.ref qr, .int p0, .int p1] (fun U => U.heap.size = sz ∧ va_P (dC, dI) vwCl [(qr, .inl (cQ, n, .inl f))] U.heap ∧ va_K (dC, dI) vwCl [(cQ, .int)] U ∧ va_D (fun _ => True) [(qr, .inl (cQ, n, .inl f))])) (va_Qi (fun (r : Int32) (_ : Unit) => True) (fun (_ : Unit) (t : State) => va_P (dC, dI) vwCl [(qr, .inl (cQ, n, .inl f))] t.heap ∧ va_K (dC, dI) vwCl [(cQ, .int)] t ∧ va_D (va_A [(qr, .inl (cQ, n, .inl f))] sz) [(qr, .inl (cQ, n, .inl f))]) (va_A [(qr, .inl (cQ, n, .inl f))] sz)) 0 0 (va_A [(qr, .inl (cQ, n, .inl f))] sz) := by
  refine Met.ofW (cc := cX0_sealOf) (maxL := 5) (ret := (some .int)) (by decide) rfl ?_
  intro p e s m args below meth c s₁ B hml hv
  obtain ⟨rfl, hsz, hP, hK, hD0⟩ := hv
  have hx := B.exec
  have hb := B.bytes
  have hr := B.returns
  have hts := atoms_spec (ws := v_X0_sealOf_any) B.pre
  have hown : s.vm.findClass RX0 = some m.cls := findClass_of_methodNamed B.named
  have hlocks := B.notSynchronized
  subst hsz
  have hD := hD0.self (sz := s.heap.size)
  generalize hAe : va_A [(qr, .inl (cQ, n, .inl f))] s.heap.size = A at hD ⊢
  have hA : ∀ q : Nat, s.heap.size ≤ q → A q := fun q h => by rw [← hAe]; exact Or.inr h
  have hS : va_S A s.heap s.heap [] := va_S.rf
  have hP : va_P (dC, dI) vwCl [(qr, .inl (cQ, n, .inl f))] s.heap := hP
  have hl := lv_entry ([.ref qr, .int p0, .int p1]) (n := 5) (Nat.le_of_ble_eq_true rfl)
  rw [lg_entry_eq]
  generalize (lg_sl ([.ref qr, .int p0, .int p1]) ++ List.replicate (5 - (lg_sl ([.ref qr, .int p0, .int p1])).length) Slot.unset).toArray = ls at hl ⊢
  have hl : lv_has ls 5 [(0, .ref qr), (1, .int p0), (2, .int p1)] := hl
  have k_1 := hts (.code Lib.Math.max.name Lib.Math.max.code 2 (some .int)) (List.mem_of_getElem? (i := 1) rfl)
  have k_2 := hts (.methodLink RX0 26 Lib.Math.max.name) (List.mem_of_getElem? (i := 2) rfl)
  have k_3 := hts (.static Lib.Math.max.name) (List.mem_of_getElem? (i := 3) rfl)
  have k_4 := hts (.initialized "java/lang/Math") (List.mem_of_getElem? (i := 4) rfl)
  refine lv_bipush (v := 17) hx hb dX0_sealOf_0 (by decide) ?_
  refine lv_istore_n (lv' := [(3, .int 17), (0, .ref qr), (1, .int p0), (2, .int p1)]) hx hb dX0_sealOf_2 rfl hl (by decide) rfl (fun ls hl => ?_)
  refine lv_iconst (v := 0) hx hb dX0_sealOf_3 (by decide) ?_
  refine lv_iload_n hx hb dX0_sealOf_4 rfl (lv_at hl 2 rfl) ?_
  refine va_mmax hx hb (by rw [hml]; exact hl.1.symm) hown k_2 k_3 k_4 k_1 (Nat.le_of_ble_eq_true rfl) (Nat.le_of_ble_eq_true rfl) (show 0 ≤ 0 by omega) (show 0 ≤ 0 by omega) dX0_sealOf_5 ?_
  refine lv_topi (fun z_1 ez_1 => ?_)
  obtain ⟨i0, hi0, e0⟩ := max0_nI ez_1
  subst e0
  refine lv_istore (lv' := [(4, .int (nI i0)), (3, .int 17), (0, .ref qr), (1, .int p0), (2, .int p1)]) hx hb dX0_sealOf_8 hl (by decide) rfl (fun ls hl => ?_)
  have loop_10 : ∀ (Q : State → Prop), (∀ (i : Nat) (sv : Int32) (H : Heap) (locs : List Loc) (ls : Array Slot), i ≤ max i0 n → va_P (dC, dI) vwCl [(qr, .inl (cQ, n, .inl f))] H → va_D A [(qr, .inl (cQ, n, .inl f))] → va_S A s.heap H locs → lv_has ls 5 [(0, .ref qr), (1, .int p0), (2, .int p1), (3, .int sv), (4, .int (nI i))] → W p l e (headSpec v_X0_sealOf_any ({ frames := 1, cells := 0, slots := 0, locals := 13 } : Room)).room s m ([.ref qr, .int p0, .int p1] : List Value).toArray below meth c H locs 0 0 Q (F0 m 39 ls [])) → ∀ (nf i : Nat) (sv : Int32) (H : Heap) (locs : List Loc) (ls : Array Slot), i ≤ max i0 n → max i0 n + 1 ≤ i + nf → va_P (dC, dI) vwCl [(qr, .inl (cQ, n, .inl f))] H → va_D A [(qr, .inl (cQ, n, .inl f))] → va_S A s.heap H locs → lv_has ls 5 [(0, .ref qr), (1, .int p0), (2, .int p1), (3, .int sv), (4, .int (nI i))] → W p l e (headSpec v_X0_sealOf_any ({ frames := 1, cells := 0, slots := 0, locals := 13 } : Room)).room s m ([.ref qr, .int p0, .int p1] : List Value).toArray below meth c H locs 0 0 Q (F0 m 10 ls []) := by
    intro Q kx nf
    induction nf with
    | zero =>
      intro i sv H locs ls h1 h2
      exact absurd h2 (by omega)
    | succ nf ih =>
      intro i sv H locs ls hi hn hP hD hS hl
      refine lv_iload hx hb dX0_sealOf_10 (lv_at hl 4 rfl) ?_
      refine lv_iload_n hx hb dX0_sealOf_12 rfl (lv_at hl 2 rfl) ?_
      refine lv_icmp_ge (tgt := 39) hx hb dX0_sealOf_13 (by decide) (fun c_2 => ?_) (fun c_2 => ?_)
      · exact kx i sv _ _ _ (by omega) hP hD hS (lv_sub hl [0, 1, 2, 3, 4] rfl)
      · refine lv_iload hx hb dX0_sealOf_16 (lv_at hl 4 rfl) ?_
        refine lv_aload_n hx hb dX0_sealOf_18 rfl (lv_at hl 0 rfl) ?_
        refine va_alen (v := nI n) hx hb hK hP 0 0 rfl rfl rfl dX0_sealOf_19 ?_
        refine lv_icmp_ge (tgt := 39) hx hb dX0_sealOf_20 (by decide) (fun c_3 => ?_) (fun c_3 => ?_)
        · exact kx i sv _ _ _ (by omega) hP hD hS (lv_sub hl [0, 1, 2, 3, 4] rfl)
        · have hlt : i < n := Nat.lt_of_not_le (fun h => c_3 (nI_le h (by omega)))
          refine lv_bipush (v := 31) hx hb dX0_sealOf_23 (by decide) ?_
          refine lv_iload_n hx hb dX0_sealOf_25 rfl (lv_at hl 3 rfl) ?_
          refine lv_imul hx hb dX0_sealOf_26 ?_
          refine lv_topi (fun z_4 _ => ?_)
          refine lv_aload_n hx hb dX0_sealOf_27 rfl (lv_at hl 0 rfl) ?_
          refine lv_iload hx hb dX0_sealOf_28 (lv_at hl 4 rfl) ?_
          refine va_iald hx hb hK hP 0 0 rfl rfl (show vp_in (nI i) n from vp_in_nI (by omega) (by omega)) dX0_sealOf_30 ?_
          refine lv_iadd hx hb dX0_sealOf_31 ?_
          refine lv_topi (fun z_5 _ => ?_)
          refine lv_istore_n (lv' := [(3, .int z_5), (0, .ref qr), (1, .int p0), (2, .int p1), (4, .int (nI i))]) hx hb dX0_sealOf_32 rfl hl (by decide) rfl (fun ls hl => ?_)
          refine lv_iinc (v := (nI (i + 1))) (lv' := [(4, .int (nI (i + 1))), (3, .int z_5), (0, .ref qr), (1, .int p0), (2, .int p1)]) hx hb dX0_sealOf_33 hl (k := 4) rfl (nI_1 i) (by decide) rfl (fun ls hl => ?_)
          refine lv_goto (tgt := 10) hx hb dX0_sealOf_36 (by decide) ?_
          exact ih (i + 1) z_5 _ _ _ (by omega) (by omega) hP hD hS (lv_sub hl [2, 3, 4, 1, 0] rfl)
  refine loop_10 _ (fun i sv H locs ls hi hP hD hS hl => ?_) ((max i0 n) + 1) i0 17 _ _ _ (by omega) (by omega) hP hD hS (lv_sub hl [2, 3, 4, 1, 0] rfl)
  refine lv_iload_n hx hb dX0_sealOf_39 rfl (lv_at hl 3 rfl) ?_
  have hP9 := hP.sub (ws' := [(qr, .inl (cQ, n, .inl f))]) [0] rfl
  have hD9 := hD.sub (ws' := [(qr, .inl (cQ, n, .inl f))]) [0] (by decide) rfl
  have hK9 := hK.sub (tys' := [(cQ, .int)]) [0] rfl
  exact W.iret (v := sv) hx hb hr (fun t ht hW => ⟨⟨sv, (), rfl, trivial, by rw [ht]; exact hP9, va_K.moved hW.alike hK9, hD9⟩, hS.F ht⟩) hS.2.2 dX0_sealOf_40
def v_X0_isSealed : List Cond := .code yX0_isSealed cX0_isSealed 4 (some .boolean) :: ([.code yX0_cellOf cX0_cellOf 4 (some .int), .fieldLink RX0 13 "TwinRoots$Disk" "blocks" "I", .fieldLink RX0 7 "TwinRoots$Disk" "words" "I", .methodLink RX0 38 yX0_cellOf, .instanceMethod yX0_cellOf, .selects RX0 yX0_cellOf yX0_cellOf, .initialized RX0, .fieldLink RX0 16 "TwinRoots$Disk" "cells" "[I", .code yX0_sealOf cX0_sealOf 5 (some .int), .code Lib.Math.max.name Lib.Math.max.code 2 (some .int), .methodLink RX0 26 Lib.Math.max.name, .static Lib.Math.max.name, .initialized "java/lang/Math", .methodLink RX0 41 yX0_sealOf, .static yX0_sealOf] ++ (wsX00 ++ ([])))
set_option maxRecDepth 20000 in
theorem g_X0_isSealed_X0_cellOf : GoodIn v_X0_isSealed (wsV RX0 38 RX0 yX0_cellOf v_X0_cellOf) := goodIn_r _ [4, 5, 6, 7, 1, 2, 3, 16, 17, 18, 19, 20, 21, 22] (by decide +kernel) (by decide +kernel)
set_option maxRecDepth 20000 in
theorem g_X0_isSealed_X0_sealOf_any : GoodIn v_X0_isSealed (va_wsS RX0 41 yX0_sealOf v_X0_sealOf_any) := goodIn_r _ [14, 15, 7, 9, 10, 11, 12, 13] (by decide +kernel) (by decide +kernel)
set_option maxHeartbeats 4000000 in
set_option maxRecDepth 100000 in
/-- isSealed -/
theorem c_X0_isSealed (l : Launch) (dC : Nat → ClassId) (dI : Nat → Nat → Nat) (sz : Nat) (h0 : Nat) (w : Nat) (b : Nat) (qc : Nat) (qi : Nat) (wr : Int32) (wa : Int32) (wc : Int32) (p0 : Int32) (cC : ClassId) (f : Nat → Int32) (zw0 : 12 ≤ w) (zw : w ≤ 40) (zb0 : 4 ≤ b) (zb : b ≤ 64) (zwb : w * b ≤ 2560) : Met l yX0_isSealed v_X0_isSealed ({ frames := 2, cells := 0, slots := 0, locals := 37 } : Room) (va_Pc [.ref h0, .int p0] (fun U => U.heap.size = sz ∧ va_P (dC, dI) vwCl [(h0, .inr (0, [.int (nI w), .int (nI b), .int wr, .ref qc, .ref qi, .int wa, .int wc])), (qc, .inl (cC, w * b, .inl f))] U.heap ∧ va_K (dC, dI) vwCl [(cC, .int)] U ∧ va_D (fun _ => True) [(h0, .inr (0, [.int (nI w), .int (nI b), .int wr, .ref qc, .ref qi, .int wa, .int wc])), (qc, .inl (cC, w * b, .inl f))])) (va_Qi (fun (r : Int32) (_ : Unit) => r = 0 ∨ r = 1) (fun (_ : Unit) (t : State) => va_P (dC, dI) vwCl [(h0, .inr (0, [.int (nI w), .int (nI b), .int wr, .ref qc, .ref qi, .int wa, .int wc])), (qc, .inl (cC, w * b, .inl f))] t.heap ∧ va_K (dC, dI) vwCl [(cC, .int)] t ∧ va_D (va_A [(h0, .inr (0, [.int (nI w), .int (nI b), .int wr, .ref qc, .ref qi, .int wa, .int wc])), (qc, .inl (cC, w * b, .inl f))] sz) [(h0, .inr (0, [.int (nI w), .int (nI b), .int wr, .ref qc, .ref qi, .int wa, .int wc])), (qc, .inl (cC, w * b, .inl f))]) (va_A [(h0, .inr (0, [.int (nI w), .int (nI b), .int wr, .ref qc, .ref qi, .int wa, .int wc])), (qc, .inl (cC, w * b, .inl f))] sz)) 0 0 (va_A [(h0, .inr (0, [.int (nI w), .int (nI b), .int wr, .ref qc, .ref qi, .int wa, .int wc])), (qc, .inl (cC, w * b, .inl f))] sz) := by
  refine Met.ofW (cc := cX0_isSealed) (maxL := 4) (ret := (some .boolean)) (by decide) rfl ?_
  intro p e s m args below meth c s₁ B hml hv
  obtain ⟨rfl, hsz, hP, hK, hD0⟩ := hv
  have hx := B.exec
  have hb := B.bytes
  have hr := B.returns
  have hts := atoms_spec (ws := v_X0_isSealed) B.pre
  have hown : s.vm.findClass RX0 = some m.cls := findClass_of_methodNamed B.named
  have hlocks := B.notSynchronized
  subst hsz
  have hD := hD0.self (sz := s.heap.size)
  generalize hAe : va_A [(h0, .inr (0, [.int (nI w), .int (nI b), .int wr, .ref qc, .ref qi, .int wa, .int wc])), (qc, .inl (cC, w * b, .inl f))] s.heap.size = A at hD ⊢
  have hA : ∀ q : Nat, s.heap.size ≤ q → A q := fun q h => by rw [← hAe]; exact Or.inr h
  have hS : va_S A s.heap s.heap [] := va_S.rf
  have hP : va_P (dC, dI) vwCl [(h0, .inr (0, [.int (nI w), .int (nI b), .int wr, .ref qc, .ref qi, .int wa, .int wc])), (qc, .inl (cC, w * b, .inl f))] s.heap := hP
  have hl := lv_entry ([.ref h0, .int p0]) (n := 4) (Nat.le_of_ble_eq_true rfl)
  rw [lg_entry_eq]
  generalize (lg_sl ([.ref h0, .int p0]) ++ List.replicate (4 - (lg_sl ([.ref h0, .int p0])).length) Slot.unset).toArray = ls at hl ⊢
  have hl : lv_has ls 4 [(0, .ref h0), (1, .int p0)] := hl
  have k_1 := (fun _ h => List.mem_cons_of_mem _ (List.mem_append_right _ (List.mem_append_left _ h)) : ∀ w ∈ wsX00, w ∈ v_X0_isSealed)
  have k_2 := hts (.fieldLink RX0 7 "TwinRoots$Disk" "words" "I") (List.mem_of_getElem? (i := 3) rfl)
  have k_3 := hts (.fieldLink RX0 16 "TwinRoots$Disk" "cells" "[I") (List.mem_of_getElem? (i := 8) rfl)
  refine lv_aload_n hx hb dX0_isSealed_0 rfl (lv_at hl 0 rfl) ?_
  refine lv_iload_n hx hb dX0_isSealed_1 rfl (lv_at hl 1 rfl) ?_
  refine lv_iconst (v := 0) hx hb dX0_isSealed_2 (by decide) ?_
  have hPc := hP.sub (ws' := [(h0, .inr (0, [.int (nI w), .int (nI b), .int wr, .ref qc, .ref qi, .int wa, .int wc]))]) [0] rfl
  have hDc := hD.sub (ws' := [(h0, .inr (0, [.int (nI w), .int (nI b), .int wr, .ref qc, .ref qi, .int wa, .int wc]))]) [0] (by decide) rfl
  have hKc := hK.sub (tys' := []) [] rfl
  have hFc := va_free (wc := [(h0, .inr (0, [.int (nI w), .int (nI b), .int wr, .ref qc, .ref qi, .int wa, .int wc]))]) hD hS hA [0] rfl
  refine va_calli (va_runV (As := [.int p0, .int 0]) (rest := []) ⟨hx, hb, hml, hown, hts⟩ (c_X0_cellOf l dC dI s.heap.size h0 w b qc qi wr wa wc p0 0) (cwV 2 hts g_X0_isSealed_X0_cellOf rfl rfl rfl (by decide +kernel) ⟨Nat.le_of_ble_eq_true rfl, Nat.le_of_ble_eq_true rfl⟩) ⟨fun a U g mk q => by obtain ⟨q0, q1, qP, qK, qD⟩ := q; exact ⟨q0, q1, qP, va_K.moved (u := U) (U := U.calling g mk a) (Vm.Alike.refl U.vm) qK, qD⟩, va_recv hKc hPc (ci := 0) (q0 := 0) rfl rfl, fun U hU hW => ⟨rfl, by rw [hU], by rw [hU]; exact hPc, va_K.moved hW.alike hKc, hDc.weaken (fun _ _ _ _ => trivial)⟩⟩ rfl rfl hl.1 rfl (lv_room (Nat.le_of_ble_eq_true rfl)) dX0_isSealed_3 ⟨(show 0 + 0 ≤ 0 by omega), (show 0 + 0 ≤ 0 by omega)⟩) hS (fun q _ h => hFc q h) hFc (fun r_1 u t H1 locs ht hvm hw hB hz1 hk1 hS => ?_)
  obtain ⟨hP1, hK1, hD1⟩ := hB
  rw [ht] at hP1
  have hK1 := va_K.moved hvm.symm hK1
  try dsimp only at hw
  obtain ⟨hP, hD⟩ := va_join (wr := [(qc, .inl (cC, w * b, .inl f))]) (w1 := [(h0, .inr (0, [.int (nI w), .int (nI b), .int wr, .ref qc, .ref qi, .int wa, .int wc]))]) hP hD [0] [1] rfl rfl (by decide) (by decide) hk1 hFc hP1 hD1
  have hK := (hK.sub (tys' := [(cC, .int)]) [0] rfl).app hK1
  generalize H1 = H at hP hS ⊢
  have hP : va_P (dC, dI) vwCl [(qc, .inl (cC, w * b, .inl f)), (h0, .inr (0, [.int (nI w), .int (nI b), .int wr, .ref qc, .ref qi, .int wa, .int wc]))] H := hP
  have hD : va_D A [(qc, .inl (cC, w * b, .inl f)), (h0, .inr (0, [.int (nI w), .int (nI b), .int wr, .ref qc, .ref qi, .int wa, .int wc]))] := hD
  have hK : va_K (dC, dI) vwCl [(cC, .int)] s := hK
  obtain rfl : r_1 = cellF w b p0 0 := hw
  refine lv_istore_n (lv' := [(2, .int (cellF w b p0 0)), (0, .ref h0), (1, .int p0)]) hx hb dX0_isSealed_6 rfl hl (by decide) rfl (fun ls hl => ?_)
  refine lv_aload_n hx hb dX0_isSealed_7 rfl (lv_at hl 1 rfl) ?_
  refine lv_iload_n hx hb dX0_isSealed_8 rfl (lv_at hl 2 rfl) ?_
  refine lv_aload_n hx hb dX0_isSealed_9 rfl (lv_at hl 1 rfl) ?_
  refine va_get (D := (dC, dI)) (ci := 0) (v := .int (nI w)) (C := RX0) (T := TX0) (N := 7) hx hb hts k_1 hown hK hP 1 rfl rfl 0 (by decide) k_2 (fun _ h9 => h9) rfl dX0_isSealed_10 ?_
  refine lv_iconst (v := 1) hx hb dX0_isSealed_13 (by decide) ?_
  refine lv_isub hx hb dX0_isSealed_14 ?_
  refine lv_topi (fun z_2 _ => ?_)
  have hPc := hP.sub (ws' := [(h0, .inr (0, [.int (nI w), .int (nI b), .int wr, .ref qc, .ref qi, .int wa, .int wc]))]) [1] rfl
  have hDc := hD.sub (ws' := [(h0, .inr (0, [.int (nI w), .int (nI b), .int wr, .ref qc, .ref qi, .int wa, .int wc]))]) [1] (by decide) rfl
  have hKc := hK.sub (tys' := []) [] rfl
  have hFc := va_free (wc := [(h0, .inr (0, [.int (nI w), .int (nI b), .int wr, .ref qc, .ref qi, .int wa, .int wc]))]) hD hS hA [1] rfl
  refine va_calli (va_runV (As := [.int p0, .int z_2]) (rest := []) ⟨hx, hb, hml, hown, hts⟩ (c_X0_cellOf l dC dI H.size h0 w b qc qi wr wa wc p0 z_2) (cwV 2 hts g_X0_isSealed_X0_cellOf rfl rfl rfl (by decide +kernel) ⟨Nat.le_of_ble_eq_true rfl, Nat.le_of_ble_eq_true rfl⟩) ⟨fun a U g mk q => by obtain ⟨q0, q1, qP, qK, qD⟩ := q; exact ⟨q0, q1, qP, va_K.moved (u := U) (U := U.calling g mk a) (Vm.Alike.refl U.vm) qK, qD⟩, va_recv hKc hPc (ci := 0) (q0 := 0) rfl rfl, fun U hU hW => ⟨rfl, by rw [hU], by rw [hU]; exact hPc, va_K.moved hW.alike hKc, hDc.weaken (fun _ _ _ _ => trivial)⟩⟩ rfl rfl hl.1 rfl (lv_room (Nat.le_of_ble_eq_true rfl)) dX0_isSealed_15 ⟨(show 0 + 0 ≤ 0 by omega), (show 0 + 0 ≤ 0 by omega)⟩) hS (fun q _ h => hFc q h) hFc (fun r_3 u t H1 locs ht hvm hw hB hz1 hk1 hS => ?_)
  obtain ⟨hP1, hK1, hD1⟩ := hB
  rw [ht] at hP1
  have hK1 := va_K.moved hvm.symm hK1
  try dsimp only at hw
  obtain ⟨hP, hD⟩ := va_join (wr := [(qc, .inl (cC, w * b, .inl f))]) (w1 := [(h0, .inr (0, [.int (nI w), .int (nI b), .int wr, .ref qc, .ref qi, .int wa, .int wc]))]) hP hD [1] [0] rfl rfl (by decide) (by decide) hk1 hFc hP1 hD1
  have hK := (hK.sub (tys' := [(cC, .int)]) [0] rfl).app hK1
  generalize H1 = H at hP hS ⊢
  have hP : va_P (dC, dI) vwCl [(qc, .inl (cC, w * b, .inl f)), (h0, .inr (0, [.int (nI w), .int (nI b), .int wr, .ref qc, .ref qi, .int wa, .int wc]))] H := hP
  have hD : va_D A [(qc, .inl (cC, w * b, .inl f)), (h0, .inr (0, [.int (nI w), .int (nI b), .int wr, .ref qc, .ref qi, .int wa, .int wc]))] := hD
  have hK : va_K (dC, dI) vwCl [(cC, .int)] s := hK
  obtain rfl : r_3 = cellF w b p0 z_2 := hw
  refine lv_istore_n (lv' := [(3, .int (cellF w b p0 z_2)), (2, .int (cellF w b p0 0)), (0, .ref h0), (1, .int p0)]) hx hb dX0_isSealed_18 rfl hl (by decide) rfl (fun ls hl => ?_)
  refine lv_iload_n hx hb dX0_isSealed_19 rfl (lv_at hl 0 rfl) ?_
  refine lv_if_lt (tgt := 54) hx hb dX0_isSealed_20 (by decide) (fun c_4 => ?_) (fun c_4 => ?_)
  · refine lv_iconst (v := 0) hx hb dX0_isSealed_54 (by decide) ?_
    have hP9 := hP.sub (ws' := [(h0, .inr (0, [.int (nI w), .int (nI b), .int wr, .ref qc, .ref qi, .int wa, .int wc])), (qc, .inl (cC, w * b, .inl f))]) [1, 0] rfl
    have hD9 := hD.sub (ws' := [(h0, .inr (0, [.int (nI w), .int (nI b), .int wr, .ref qc, .ref qi, .int wa, .int wc])), (qc, .inl (cC, w * b, .inl f))]) [1, 0] (by decide) rfl
    have hK9 := hK.sub (tys' := [(cC, .int)]) [0] rfl
    exact W.zret (v := 0) hx hb hr rfl (fun t ht hW => ⟨⟨0, (), rfl, Or.inl rfl, by rw [ht]; exact hP9, va_K.moved hW.alike hK9, hD9⟩, hS.F ht⟩) hS.2.2 dX0_isSealed_55
  · refine lv_iload_n hx hb dX0_isSealed_23 rfl (lv_at hl 0 rfl) ?_
    refine lv_aload_n hx hb dX0_isSealed_24 rfl (lv_at hl 2 rfl) ?_
    refine va_get (D := (dC, dI)) (ci := 0) (v := .ref qc) (C := RX0) (T := TX0) (N := 7) hx hb hts k_1 hown hK hP 1 rfl rfl 3 (by decide) k_3 (fun _ h9 => h9) rfl dX0_isSealed_25 ?_
    refine va_alen (v := nI (w * b)) hx hb hK hP 0 0 rfl rfl rfl dX0_isSealed_28 ?_
    refine lv_icmp_ge (tgt := 54) hx hb dX0_isSealed_29 (by decide) (fun c_5 => ?_) (fun c_5 => ?_)
    · refine lv_iconst (v := 0) hx hb dX0_isSealed_54 (by decide) ?_
      have hP9 := hP.sub (ws' := [(h0, .inr (0, [.int (nI w), .int (nI b), .int wr, .ref qc, .ref qi, .int wa, .int wc])), (qc, .inl (cC, w * b, .inl f))]) [1, 0] rfl
      have hD9 := hD.sub (ws' := [(h0, .inr (0, [.int (nI w), .int (nI b), .int wr, .ref qc, .ref qi, .int wa, .int wc])), (qc, .inl (cC, w * b, .inl f))]) [1, 0] (by decide) rfl
      have hK9 := hK.sub (tys' := [(cC, .int)]) [0] rfl
      exact W.zret (v := 0) hx hb hr rfl (fun t ht hW => ⟨⟨0, (), rfl, Or.inl rfl, by rw [ht]; exact hP9, va_K.moved hW.alike hK9, hD9⟩, hS.F ht⟩) hS.2.2 dX0_isSealed_55
    · refine lv_aload_n hx hb dX0_isSealed_32 rfl (lv_at hl 2 rfl) ?_
      refine va_get (D := (dC, dI)) (ci := 0) (v := .ref qc) (C := RX0) (T := TX0) (N := 7) hx hb hts k_1 hown hK hP 1 rfl rfl 3 (by decide) k_3 (fun _ h9 => h9) rfl dX0_isSealed_33 ?_
      refine lv_iload_n hx hb dX0_isSealed_36 rfl (lv_at hl 0 rfl) ?_
      refine va_iald hx hb hK hP 0 0 rfl rfl (in_guard c_4 c_5 (by omega)) dX0_isSealed_37 ?_
      refine lv_topi (fun z_6 _ => ?_)
      refine lv_aload_n hx hb dX0_isSealed_38 rfl (lv_at hl 2 rfl) ?_
      refine va_get (D := (dC, dI)) (ci := 0) (v := .ref qc) (C := RX0) (T := TX0) (N := 7) hx hb hts k_1 hown hK hP 1 rfl rfl 3 (by decide) k_3 (fun _ h9 => h9) rfl dX0_isSealed_39 ?_
      refine lv_iload_n hx hb dX0_isSealed_42 rfl (lv_at hl 1 rfl) ?_
      refine lv_iload_n hx hb dX0_isSealed_43 rfl (lv_at hl 0 rfl) ?_
      have hPc := hP.sub (ws' := [(qc, .inl (cC, w * b, .inl f))]) [0] rfl
      have hDc := hD.sub (ws' := [(qc, .inl (cC, w * b, .inl f))]) [0] (by decide) rfl
      have hKc := hK.sub (tys' := [(cC, .int)]) [0] rfl
      have hFc := va_free (wc := [(qc, .inl (cC, w * b, .inl f))]) hD hS hA [0] rfl
      refine va_calli (va_runS (As := [.ref qc, .int (cellF w b p0 0), .int (cellF w b p0 z_2)]) (rest := [.int z_6]) ⟨hx, hb, hml, hown, hts⟩ (c_X0_sealOf_any l dC dI H.size qc (w * b) (cellF w b p0 0) (cellF w b p0 z_2) cC f (by first | assumption | omega | decide)) (va_cwS 3 hts g_X0_isSealed_X0_sealOf_any rfl rfl rfl (by decide +kernel) ⟨Nat.le_of_ble_eq_true rfl, Nat.le_of_ble_eq_true rfl⟩) ⟨fun a U g mk q => by obtain ⟨q0, q1, qP, qK, qD⟩ := q; exact ⟨q0, q1, qP, va_K.moved (u := U) (U := U.calling g mk a) (Vm.Alike.refl U.vm) qK, qD⟩, fun U hU hW => ⟨rfl, by rw [hU], by rw [hU]; exact hPc, va_K.moved hW.alike hKc, hDc.weaken (fun _ _ _ _ => trivial)⟩⟩ rfl rfl hl.1 rfl (lv_room (Nat.le_of_ble_eq_true rfl)) dX0_isSealed_44 ⟨(show 0 + 0 ≤ 0 by omega), (show 0 + 0 ≤ 0 by omega)⟩) hS (fun q _ h => hFc q h) hFc (fun r_7 u t H1 locs ht hvm hw hB hz1 hk1 hS => ?_)
      obtain ⟨hP1, hK1, hD1⟩ := hB
      rw [ht] at hP1
      have hK1 := va_K.moved hvm.symm hK1
      try dsimp only at hw
      obtain ⟨hP, hD⟩ := va_join (wr := [(h0, .inr (0, [.int (nI w), .int (nI b), .int wr, .ref qc, .ref qi, .int wa, .int wc]))]) (w1 := [(qc, .inl (cC, w * b, .inl f))]) hP hD [0] [1] rfl rfl (by decide) (by decide) hk1 hFc hP1 hD1
      have hK := (hK.sub (tys' := []) [] rfl).app hK1
      generalize H1 = H at hP hS ⊢
      have hP : va_P (dC, dI) vwCl [(h0, .inr (0, [.int (nI w), .int (nI b), .int wr, .ref qc, .ref qi, .int wa, .int wc])), (qc, .inl (cC, w * b, .inl f))] H := hP
      have hD : va_D A [(h0, .inr (0, [.int (nI w), .int (nI b), .int wr, .ref qc, .ref qi, .int wa, .int wc])), (qc, .inl (cC, w * b, .inl f))] := hD
      have hK : va_K (dC, dI) vwCl [(cC, .int)] s := hK
      have hw_r_7 := hw
      refine lv_icmp_ne (tgt := 54) hx hb dX0_isSealed_47 (by decide) (fun c_8 => ?_) (fun c_8 => ?_)
      · refine lv_iconst (v := 0) hx hb dX0_isSealed_54 (by decide) ?_
        have hP9 := hP.sub (ws' := [(h0, .inr (0, [.int (nI w), .int (nI b), .int wr, .ref qc, .ref qi, .int wa, .int wc])), (qc, .inl (cC, w * b, .inl f))]) [0, 1] rfl
        have hD9 := hD.sub (ws' := [(h0, .inr (0, [.int (nI w), .int (nI b), .int wr, .ref qc, .ref qi, .int wa, .int wc])), (qc, .inl (cC, w * b, .inl f))]) [0, 1] (by decide) rfl
        have hK9 := hK.sub (tys' := [(cC, .int)]) [0] rfl
        exact W.zret (v := 0) hx hb hr rfl (fun t ht hW => ⟨⟨0, (), rfl, Or.inl rfl, by rw [ht]; exact hP9, va_K.moved hW.alike hK9, hD9⟩, hS.F ht⟩) hS.2.2 dX0_isSealed_55
      · refine lv_iconst (v := 1) hx hb dX0_isSealed_50 (by decide) ?_
        refine lv_goto (tgt := 55) hx hb dX0_isSealed_51 (by decide) ?_
        have hP9 := hP.sub (ws' := [(h0, .inr (0, [.int (nI w), .int (nI b), .int wr, .ref qc, .ref qi, .int wa, .int wc])), (qc, .inl (cC, w * b, .inl f))]) [0, 1] rfl
        have hD9 := hD.sub (ws' := [(h0, .inr (0, [.int (nI w), .int (nI b), .int wr, .ref qc, .ref qi, .int wa, .int wc])), (qc, .inl (cC, w * b, .inl f))]) [0, 1] (by decide) rfl
        have hK9 := hK.sub (tys' := [(cC, .int)]) [0] rfl
        exact W.zret (v := 1) hx hb hr rfl (fun t ht hW => ⟨⟨1, (), rfl, Or.inr rfl, by rw [ht]; exact hP9, va_K.moved hW.alike hK9, hD9⟩, hS.F ht⟩) hS.2.2 dX0_isSealed_55
def v_X0_write_any : List Cond := .code yX0_write cX0_write 6 (some .boolean) :: ([.fieldLink RX0 7 "TwinRoots$Disk" "words" "I", .fieldLink RX0 20 "TwinRoots$Disk" "image" "[I", .code yX0_sealOf cX0_sealOf 5 (some .int), .code Lib.Math.max.name Lib.Math.max.code 2 (some .int), .methodLink RX0 26 Lib.Math.max.name, .static Lib.Math.max.name, .initialized "java/lang/Math", .methodLink RX0 41 yX0_sealOf, .static yX0_sealOf, .initialized RX0, .code yX0_lay cX0_lay 3 none, .methodLink RX0 45 yX0_lay, .instanceMethod yX0_lay, .selects RX0 yX0_lay yX0_lay, .fieldLink RX0 23 "TwinRoots$Disk" "writesAhead" "I", .code yX0_cellOf cX0_cellOf 4 (some .int), .fieldLink RX0 13 "TwinRoots$Disk" "blocks" "I", .methodLink RX0 38 yX0_cellOf, .instanceMethod yX0_cellOf, .selects RX0 yX0_cellOf yX0_cellOf, .fieldLink RX0 16 "TwinRoots$Disk" "cells" "[I", .fieldLink RX0 49 "TwinRoots$Disk" "writes" "I", .fieldLink RX0 35 "TwinRoots$Disk" "wordsOfCut" "I"] ++ (wsX00 ++ ([])))
set_option maxRecDepth 20000 in
theorem g_X0_write_any_X0_sealOf_any : GoodIn v_X0_write_any (va_wsS RX0 41 yX0_sealOf v_X0_sealOf_any) := goodIn_r _ [8, 9, 10, 3, 4, 5, 6, 7] (by decide +kernel) (by decide +kernel)
set_option maxRecDepth 20000 in
theorem g_X0_write_any_X0_lay : GoodIn v_X0_write_any (wsV RX0 45 RX0 yX0_lay v_X0_lay) := goodIn_r _ [12, 13, 14, 10, 11, 2, 24, 25, 26, 27, 28, 29, 30] (by decide +kernel) (by decide +kernel)
set_option maxRecDepth 20000 in
theorem g_X0_write_any_X0_cellOf : GoodIn v_X0_write_any (wsV RX0 38 RX0 yX0_cellOf v_X0_cellOf) := goodIn_r _ [18, 19, 20, 10, 16, 17, 1, 24, 25, 26, 27, 28, 29, 30] (by decide +kernel) (by decide +kernel)
set_option maxHeartbeats 4000000 in
set_option maxRecDepth 100000 in
/-- write, cut or not -/
theorem c_X0_write_any (l : Launch) (dC : Nat → ClassId) (dI : Nat → Nat → Nat) (sz : Nat) (h0 : Nat) (w : Nat) (b : Nat) (qc : Nat) (qi : Nat) (wr : Int32) (wa : Int32) (wc : Int32) (p0 : Int32) (cC : ClassId) (cI : ClassId) (f : Nat → Int32) (g : Nat → Int32) (zw0 : 12 ≤ w) (zw : w ≤ 40) (zb0 : 4 ≤ b) (zb : b ≤ 64) (zwb : w * b ≤ 2560) : Met l yX0_write v_X0_write_any ({ frames := 2, cells := 0, slots := 0, locals := 37 } : Room) (va_Pc [.ref h0, .int p0] (fun U => U.heap.size = sz ∧ va_P (dC, dI) vwCl [(h0, .inr (0, [.int (nI w), .int (nI b), .int wr, .ref qc, .ref qi, .int wa, .int wc])), (qc, .inl (cC, w * b, .inl f)), (qi, .inl (cI, w, .inl g))] U.heap ∧ va_K (dC, dI) vwCl [(cC, .int), (cI, .int)] U ∧ va_D (fun _ => True) [(h0, .inr (0, [.int (nI w), .int (nI b), .int wr, .ref qc, .ref qi, .int wa, .int wc])), (qc, .inl (cC, w * b, .inl f)), (qi, .inl (cI, w, .inl g))])) (va_Qi (fun (r : Int32) (u : Int32 × Int32 × (Nat → Int32) × (Nat → Int32)) => match u with | (wr2, wa2, f2, g2) => r = 0 ∨ r = 1) (fun (u : Int32 × Int32 × (Nat → Int32) × (Nat → Int32)) (t : State) => match u with | (wr2, wa2, f2, g2) => va_P (dC, dI) vwCl [(h0, .inr (0, [.int (nI w), .int (nI b), .int wr2, .ref qc, .ref qi, .int wa2, .int wc])), (qc, .inl (cC, w * b, .inl f2)), (qi, .inl (cI, w, .inl g2))] t.heap ∧ va_K (dC, dI) vwCl [(cC, .int), (cI, .int)] t ∧ va_D (va_A [(h0, .inr (0, [.int (nI w), .int (nI b), .int wr, .ref qc, .ref qi, .int wa, .int wc])), (qc, .inl (cC, w * b, .inl f)), (qi, .inl (cI, w, .inl g))] sz) [(h0, .inr (0, [.int (nI w), .int (nI b), .int wr2, .ref qc, .ref qi, .int wa2, .int wc])), (qc, .inl (cC, w * b, .inl f2)), (qi, .inl (cI, w, .inl g2))]) (va_A [(h0, .inr (0, [.int (nI w), .int (nI b), .int wr, .ref qc, .ref qi, .int wa, .int wc])), (qc, .inl (cC, w * b, .inl f)), (qi, .inl (cI, w, .inl g))] sz)) 0 0 (va_A [(h0, .inr (0, [.int (nI w), .int (nI b), .int wr, .ref qc, .ref qi, .int wa, .int wc])), (qc, .inl (cC, w * b, .inl f)), (qi, .inl (cI, w, .inl g))] sz) := by
  refine Met.ofW (cc := cX0_write) (maxL := 6) (ret := (some .boolean)) (by decide) rfl ?_
  intro p e s m args below meth c s₁ B hml hv
  obtain ⟨rfl, hsz, hP, hK, hD0⟩ := hv
  have hx := B.exec
  have hb := B.bytes
  have hr := B.returns
  have hts := atoms_spec (ws := v_X0_write_any) B.pre
  have hown : s.vm.findClass RX0 = some m.cls := findClass_of_methodNamed B.named
  have hlocks := B.notSynchronized
  subst hsz
  have hD := hD0.self (sz := s.heap.size)
  generalize hAe : va_A [(h0, .inr (0, [.int (nI w), .int (nI b), .int wr, .ref qc, .ref qi, .int wa, .int wc])), (qc, .inl (cC, w * b, .inl f)), (qi, .inl (cI, w, .inl g))] s.heap.size = A at hD ⊢
  have hA : ∀ q : Nat, s.heap.size ≤ q → A q := fun q h => by rw [← hAe]; exact Or.inr h
  have hS : va_S A s.heap s.heap [] := va_S.rf
  have hP : va_P (dC, dI) vwCl [(h0, .inr (0, [.int (nI w), .int (nI b), .int wr, .ref qc, .ref qi, .int wa, .int wc])), (qc, .inl (cC, w * b, .inl f)), (qi, .inl (cI, w, .inl g))] s.heap := hP
  have hl := lv_entry ([.ref h0, .int p0]) (n := 6) (Nat.le_of_ble_eq_true rfl)
  rw [lg_entry_eq]
  generalize (lg_sl ([.ref h0, .int p0]) ++ List.replicate (6 - (lg_sl ([.ref h0, .int p0])).length) Slot.unset).toArray = ls at hl ⊢
  have hl : lv_has ls 6 [(0, .ref h0), (1, .int p0)] := hl
  have k_1 := (fun _ h => List.mem_cons_of_mem _ (List.mem_append_right _ (List.mem_append_left _ h)) : ∀ w ∈ wsX00, w ∈ v_X0_write_any)
  have k_2 := hts (.fieldLink RX0 7 "TwinRoots$Disk" "words" "I") (List.mem_of_getElem? (i := 1) rfl)
  have k_3 := hts (.fieldLink RX0 20 "TwinRoots$Disk" "image" "[I") (List.mem_of_getElem? (i := 2) rfl)
  have k_4 := hts (.fieldLink RX0 23 "TwinRoots$Disk" "writesAhead" "I") (List.mem_of_getElem? (i := 15) rfl)
  have k_5 := hts (.fieldLink RX0 16 "TwinRoots$Disk" "cells" "[I") (List.mem_of_getElem? (i := 21) rfl)
  have k_6 := hts (.fieldLink RX0 49 "TwinRoots$Disk" "writes" "I") (List.mem_of_getElem? (i := 22) rfl)
  have k_7 := hts (.fieldLink RX0 35 "TwinRoots$Disk" "wordsOfCut" "I") (List.mem_of_getElem? (i := 23) rfl)
  refine lv_aload_n hx hb dX0_write_0 rfl (lv_at hl 0 rfl) ?_
  refine lv_aload_n hx hb dX0_write_1 rfl (lv_at hl 0 rfl) ?_
  refine va_get (D := (dC, dI)) (ci := 0) (v := .int (nI w)) (C := RX0) (T := TX0) (N := 7) hx hb hts k_1 hown hK hP 0 rfl rfl 0 (by decide) k_2 (fun _ h9 => h9) rfl dX0_write_2 ?_
  refine lv_iconst (v := 1) hx hb dX0_write_5 (by decide) ?_
  refine lv_isub hx hb dX0_write_6 ?_
  refine lv_topi (fun z_1 _ => ?_)
  refine lv_aload_n hx hb dX0_write_7 rfl (lv_at hl 0 rfl) ?_
  refine va_get (D := (dC, dI)) (ci := 0) (v := .ref qi) (C := RX0) (T := TX0) (N := 7) hx hb hts k_1 hown hK hP 0 rfl rfl 4 (by decide) k_3 (fun _ h9 => h9) rfl dX0_write_8 ?_
  refine lv_iconst (v := 0) hx hb dX0_write_11 (by decide) ?_
  refine lv_aload_n hx hb dX0_write_12 rfl (lv_at hl 0 rfl) ?_
  refine va_get (D := (dC, dI)) (ci := 0) (v := .int (nI w)) (C := RX0) (T := TX0) (N := 7) hx hb hts k_1 hown hK hP 0 rfl rfl 0 (by decide) k_2 (fun _ h9 => h9) rfl dX0_write_13 ?_
  refine lv_iconst (v := 1) hx hb dX0_write_16 (by decide) ?_
  refine lv_isub hx hb dX0_write_17 ?_
  refine lv_topi (fun z_2 _ => ?_)
  have hPc := hP.sub (ws' := [(qi, .inl (cI, w, .inl g))]) [2] rfl
  have hDc := hD.sub (ws' := [(qi, .inl (cI, w, .inl g))]) [2] (by decide) rfl
  have hKc := hK.sub (tys' := [(cI, .int)]) [1] rfl
  have hFc := va_free (wc := [(qi, .inl (cI, w, .inl g))]) hD hS hA [2] rfl
  refine va_calli (va_runS (As := [.ref qi, .int 0, .int z_2]) (rest := [.int z_1, .ref h0]) ⟨hx, hb, hml, hown, hts⟩ (c_X0_sealOf_any l dC dI s.heap.size qi w 0 z_2 cI g (by first | assumption | omega | decide)) (va_cwS 3 hts g_X0_write_any_X0_sealOf_any rfl rfl rfl (by decide +kernel) ⟨Nat.le_of_ble_eq_true rfl, Nat.le_of_ble_eq_true rfl⟩) ⟨fun a U g mk q => by obtain ⟨q0, q1, qP, qK, qD⟩ := q; exact ⟨q0, q1, qP, va_K.moved (u := U) (U := U.calling g mk a) (Vm.Alike.refl U.vm) qK, qD⟩, fun U hU hW => ⟨rfl, by rw [hU], by rw [hU]; exact hPc, va_K.moved hW.alike hKc, hDc.weaken (fun _ _ _ _ => trivial)⟩⟩ rfl rfl hl.1 rfl (lv_room (Nat.le_of_ble_eq_true rfl)) dX0_write_18 ⟨(show 0 + 0 ≤ 0 by omega), (show 0 + 0 ≤ 0 by omega)⟩) hS (fun q _ h => hFc q h) hFc (fun r_3 u t H1 locs ht hvm hw hB hz1 hk1 hS => ?_)
  obtain ⟨hP1, hK1, hD1⟩ := hB
  rw [ht] at hP1
  have hK1 := va_K.moved hvm.symm hK1
  try dsimp only at hw
  obtain ⟨hP, hD⟩ := va_join (wr := [(h0, .inr (0, [.int (nI w), .int (nI b), .int wr, .ref qc, .ref qi, .int wa, .int wc])), (qc, .inl (cC, w * b, .inl f))]) (w1 := [(qi, .inl (cI, w, .inl g))]) hP hD [2] [0, 1] rfl rfl (by decide) (by decide) hk1 hFc hP1 hD1
  have hK := (hK.sub (tys' := [(cC, .int)]) [0] rfl).app hK1
  generalize H1 = H at hP hS ⊢
  have hP : va_P (dC, dI) vwCl [(h0, .inr (0, [.int (nI w), .int (nI b), .int wr, .ref qc, .ref qi, .int wa, .int wc])), (qc, .inl (cC, w * b, .inl f)), (qi, .inl (cI, w, .inl g))] H := hP
  have hD : va_D A [(h0, .inr (0, [.int (nI w), .int (nI b), .int wr, .ref qc, .ref qi, .int wa, .int wc])), (qc, .inl (cC, w * b, .inl f)), (qi, .inl (cI, w, .inl g))] := hD
  have hK : va_K (dC, dI) vwCl [(cC, .int), (cI, .int)] s := hK
  have hw_r_3 := hw
  have hPc := hP.sub (ws' := [(h0, .inr (0, [.int (nI w), .int (nI b), .int wr, .ref qc, .ref qi, .int wa, .int wc])), (qi, .inl (cI, w, .inl g))]) [0, 2] rfl
  have hDc := hD.sub (ws' := [(h0, .inr (0, [.int (nI w), .int (nI b), .int wr, .ref qc, .ref qi, .int wa, .int wc])), (qi, .inl (cI, w, .inl g))]) [0, 2] (by decide) rfl
  have hKc := hK.sub (tys' := [(cI, .int)]) [1] rfl
  have hFc := va_free (wc := [(h0, .inr (0, [.int (nI w), .int (nI b), .int wr, .ref qc, .ref qi, .int wa, .int wc])), (qi, .inl (cI, w, .inl g))]) hD hS hA [0, 2] rfl
  refine va_callv (va_runV (As := [.int z_1, .int r_3]) (rest := []) ⟨hx, hb, hml, hown, hts⟩ (c_X0_lay l dC dI H.size h0 w b qc qi wr wa wc z_1 r_3 cI g (by first | assumption | omega | decide)) (cwV 2 hts g_X0_write_any_X0_lay rfl rfl rfl (by decide +kernel) ⟨Nat.le_of_ble_eq_true rfl, Nat.le_of_ble_eq_true rfl⟩) ⟨fun a U g mk q => by obtain ⟨q0, q1, qP, qK, qD⟩ := q; exact ⟨q0, q1, qP, va_K.moved (u := U) (U := U.calling g mk a) (Vm.Alike.refl U.vm) qK, qD⟩, va_recv hKc hPc (ci := 0) (q0 := 0) rfl rfl, fun U hU hW => ⟨rfl, by rw [hU], by rw [hU]; exact hPc, va_K.moved hW.alike hKc, hDc.weaken (fun _ _ _ _ => trivial)⟩⟩ rfl rfl hl.1 rfl (lv_room (Nat.le_of_ble_eq_true rfl)) dX0_write_21 ⟨(show 0 + 0 ≤ 0 by omega), (show 0 + 0 ≤ 0 by omega)⟩) hS (fun q _ h => hFc q h) hFc (fun u t H1 locs ht hvm hw hB hz1 hk1 hS => ?_)
  obtain ⟨f2_5, rfl⟩ : ∃ z, z = u := ⟨_, rfl⟩
  obtain ⟨hP1, hK1, hD1⟩ := hB
  rw [ht] at hP1
  have hK1 := va_K.moved hvm.symm hK1
  try dsimp only at hw
  obtain ⟨hP, hD⟩ := va_join (wr := [(qc, .inl (cC, w * b, .inl f))]) (w1 := [(h0, .inr (0, [.int (nI w), .int (nI b), .int wr, .ref qc, .ref qi, .int wa, .int wc])), (qi, .inl (cI, w, .inl f2_5))]) hP hD [0, 2] [1] rfl rfl (by decide) (by decide) hk1 hFc hP1 hD1
  have hK := (hK.sub (tys' := [(cC, .int)]) [0] rfl).app hK1
  generalize H1 = H at hP hS ⊢
  have hP : va_P (dC, dI) vwCl [(qc, .inl (cC, w * b, .inl f)), (h0, .inr (0, [.int (nI w), .int (nI b), .int wr, .ref qc, .ref qi, .int wa, .int wc])), (qi, .inl (cI, w, .inl f2_5))] H := hP
  have hD : va_D A [(qc, .inl (cC, w * b, .inl f)), (h0, .inr (0, [.int (nI w), .int (nI b), .int wr, .ref qc, .ref qi, .int wa, .int wc])), (qi, .inl (cI, w, .inl f2_5))] := hD
  have hK : va_K (dC, dI) vwCl [(cC, .int), (cI, .int)] s := hK
  refine lv_aload_n hx hb dX0_write_24 rfl (lv_at hl 0 rfl) ?_
  refine va_get (D := (dC, dI)) (ci := 0) (v := .int wa) (C := RX0) (T := TX0) (N := 7) hx hb hts k_1 hown hK hP 1 rfl rfl 5 (by decide) k_4 (fun _ h9 => h9) rfl dX0_write_25 ?_
  refine lv_if_ne (tgt := 35) hx hb dX0_write_28 (by decide) (fun c_6 => ?_) (fun c_6 => ?_)
  · refine lv_iconst (v := 0) hx hb dX0_write_35 (by decide) ?_
    refine lv_istore_n (lv' := [(2, .int 0), (0, .ref h0), (1, .int p0)]) hx hb dX0_write_36 rfl hl (by decide) rfl (fun ls hl => ?_)
    refine lv_iload_n hx hb dX0_write_37 rfl (lv_at hl 0 rfl) ?_
    refine lv_if_eq (tgt := 48) hx hb dX0_write_38 (by decide) (fun c_7 => ?_) (fun c_7 => ?_)
    rotate_left
    · exact absurd (by decide) c_7
    refine lv_aload_n hx hb dX0_write_48 rfl (lv_at hl 1 rfl) ?_
    refine va_get (D := (dC, dI)) (ci := 0) (v := .int (nI w)) (C := RX0) (T := TX0) (N := 7) hx hb hts k_1 hown hK hP 1 rfl rfl 0 (by decide) k_2 (fun _ h9 => h9) rfl dX0_write_49 ?_
    refine lv_istore_n (lv' := [(3, .int (nI w)), (2, .int 0), (0, .ref h0), (1, .int p0)]) hx hb dX0_write_52 rfl hl (by decide) rfl (fun ls hl => ?_)
    refine lv_iconst (v := 0) hx hb dX0_write_53 (by decide) ?_
    refine lv_istore (lv' := [(4, .int 0), (3, .int (nI w)), (2, .int 0), (0, .ref h0), (1, .int p0)]) hx hb dX0_write_54 hl (by decide) rfl (fun ls hl => ?_)
    have loop_56 : ∀ (Q : State → Prop), (∀ (i : Nat) (fv : Nat → Int32) (gv : Nat → Int32) (H : Heap) (locs : List Loc) (ls : Array Slot), i ≤ w → va_P (dC, dI) vwCl [(h0, .inr (0, [.int (nI w), .int (nI b), .int wr, .ref qc, .ref qi, .int wa, .int wc])), (qc, .inl (cC, w * b, .inl fv)), (qi, .inl (cI, w, .inl gv))] H → va_D A [(h0, .inr (0, [.int (nI w), .int (nI b), .int wr, .ref qc, .ref qi, .int wa, .int wc])), (qc, .inl (cC, w * b, .inl fv)), (qi, .inl (cI, w, .inl gv))] → va_S A s.heap H locs → lv_has ls 6 [(0, .ref h0), (1, .int p0), (2, .int 0), (3, .int (nI w)), (4, .int (nI i))] → W p l e (headSpec v_X0_write_any ({ frames := 2, cells := 0, slots := 0, locals := 37 } : Room)).room s m ([.ref h0, .int p0] : List Value).toArray below meth c H locs 0 0 Q (F0 m 116 ls [])) → ∀ (nf i : Nat) (fv : Nat → Int32) (gv : Nat → Int32) (H : Heap) (locs : List Loc) (ls : Array Slot), i ≤ w → w + 1 ≤ i + nf → va_P (dC, dI) vwCl [(h0, .inr (0, [.int (nI w), .int (nI b), .int wr, .ref qc, .ref qi, .int wa, .int wc])), (qc, .inl (cC, w * b, .inl fv)), (qi, .inl (cI, w, .inl gv))] H → va_D A [(h0, .inr (0, [.int (nI w), .int (nI b), .int wr, .ref qc, .ref qi, .int wa, .int wc])), (qc, .inl (cC, w * b, .inl fv)), (qi, .inl (cI, w, .inl gv))] → va_S A s.heap H locs → lv_has ls 6 [(0, .ref h0), (1, .int p0), (2, .int 0), (3, .int (nI w)), (4, .int (nI i))] → W p l e (headSpec v_X0_write_any ({ frames := 2, cells := 0, slots := 0, locals := 37 } : Room)).room s m ([.ref h0, .int p0] : List Value).toArray below meth c H locs 0 0 Q (F0 m 56 ls []) := by
      intro Q kx nf
      induction nf with
      | zero =>
        intro i fv gv H locs ls h1 h2
        exact absurd h2 (by omega)
      | succ nf ih =>
        intro i fv gv H locs ls hi hn hP hD hS hl
        refine lv_iload hx hb dX0_write_56 (lv_at hl 4 rfl) ?_
        refine lv_iload_n hx hb dX0_write_58 rfl (lv_at hl 3 rfl) ?_
        refine lv_icmp_ge (tgt := 116) hx hb dX0_write_59 (by decide) (fun c_8 => ?_) (fun c_8 => ?_)
        · exact kx i fv gv _ _ _ (by omega) hP hD hS (lv_sub hl [0, 1, 2, 3, 4] rfl)
        · refine lv_iload hx hb dX0_write_62 (lv_at hl 4 rfl) ?_
          refine lv_aload_n hx hb dX0_write_64 rfl (lv_at hl 0 rfl) ?_
          refine va_get (D := (dC, dI)) (ci := 0) (v := .ref qi) (C := RX0) (T := TX0) (N := 7) hx hb hts k_1 hown hK hP 0 rfl rfl 4 (by decide) k_3 (fun _ h9 => h9) rfl dX0_write_65 ?_
          refine va_alen (v := nI w) hx hb hK hP 2 1 rfl rfl rfl dX0_write_68 ?_
          refine lv_icmp_ge (tgt := 116) hx hb dX0_write_69 (by decide) (fun c_9 => ?_) (fun c_9 => ?_)
          · exact kx i fv gv _ _ _ (by omega) hP hD hS (lv_sub hl [0, 1, 2, 3, 4] rfl)
          · have hlt : i < w := Nat.lt_of_not_le (fun h => c_9 (nI_le h (by omega)))
            refine lv_aload_n hx hb dX0_write_72 rfl (lv_at hl 0 rfl) ?_
            refine lv_iload_n hx hb dX0_write_73 rfl (lv_at hl 1 rfl) ?_
            refine lv_iload hx hb dX0_write_74 (lv_at hl 4 rfl) ?_
            have hPc := hP.sub (ws' := [(h0, .inr (0, [.int (nI w), .int (nI b), .int wr, .ref qc, .ref qi, .int wa, .int wc]))]) [0] rfl
            have hDc := hD.sub (ws' := [(h0, .inr (0, [.int (nI w), .int (nI b), .int wr, .ref qc, .ref qi, .int wa, .int wc]))]) [0] (by decide) rfl
            have hKc := hK.sub (tys' := []) [] rfl
            have hFc := va_free (wc := [(h0, .inr (0, [.int (nI w), .int (nI b), .int wr, .ref qc, .ref qi, .int wa, .int wc]))]) hD hS hA [0] rfl
            refine va_calli (va_runV (As := [.int p0, .int (nI i)]) (rest := []) ⟨hx, hb, hml, hown, hts⟩ (c_X0_cellOf l dC dI H.size h0 w b qc qi wr wa wc p0 (nI i)) (cwV 2 hts g_X0_write_any_X0_cellOf rfl rfl rfl (by decide +kernel) ⟨Nat.le_of_ble_eq_true rfl, Nat.le_of_ble_eq_true rfl⟩) ⟨fun a U g mk q => by obtain ⟨q0, q1, qP, qK, qD⟩ := q; exact ⟨q0, q1, qP, va_K.moved (u := U) (U := U.calling g mk a) (Vm.Alike.refl U.vm) qK, qD⟩, va_recv hKc hPc (ci := 0) (q0 := 0) rfl rfl, fun U hU hW => ⟨rfl, by rw [hU], by rw [hU]; exact hPc, va_K.moved hW.alike hKc, hDc.weaken (fun _ _ _ _ => trivial)⟩⟩ rfl rfl hl.1 rfl (lv_room (Nat.le_of_ble_eq_true rfl)) dX0_write_76 ⟨(show 0 + 0 ≤ 0 by omega), (show 0 + 0 ≤ 0 by omega)⟩) hS (fun q _ h => hFc q h) hFc (fun r_10 u t H1 locs ht hvm hw hB hz1 hk1 hS => ?_)
            obtain ⟨hP1, hK1, hD1⟩ := hB
            rw [ht] at hP1
            have hK1 := va_K.moved hvm.symm hK1
            try dsimp only at hw
            obtain ⟨hP, hD⟩ := va_join (wr := [(qc, .inl (cC, w * b, .inl fv)), (qi, .inl (cI, w, .inl gv))]) (w1 := [(h0, .inr (0, [.int (nI w), .int (nI b), .int wr, .ref qc, .ref qi, .int wa, .int wc]))]) hP hD [0] [1, 2] rfl rfl (by decide) (by decide) hk1 hFc hP1 hD1
            have hK := (hK.sub (tys' := [(cC, .int), (cI, .int)]) [0, 1] rfl).app hK1
            generalize H1 = H at hP hS ⊢
            have hP : va_P (dC, dI) vwCl [(qc, .inl (cC, w * b, .inl fv)), (qi, .inl (cI, w, .inl gv)), (h0, .inr (0, [.int (nI w), .int (nI b), .int wr, .ref qc, .ref qi, .int wa, .int wc]))] H := hP
            have hD : va_D A [(qc, .inl (cC, w * b, .inl fv)), (qi, .inl (cI, w, .inl gv)), (h0, .inr (0, [.int (nI w), .int (nI b), .int wr, .ref qc, .ref qi, .int wa, .int wc]))] := hD
            have hK : va_K (dC, dI) vwCl [(cC, .int), (cI, .int)] s := hK
            obtain rfl : r_10 = cellF w b p0 (nI i) := hw
            refine lv_istore (lv' := [(5, .int (cellF w b p0 (nI i))), (0, .ref h0), (1, .int p0), (2, .int 0), (3, .int (nI w)), (4, .int (nI i))]) hx hb dX0_write_79 hl (by decide) rfl (fun ls hl => ?_)
            refine lv_iload hx hb dX0_write_81 (lv_at hl 0 rfl) ?_
            refine lv_if_lt (tgt := 110) hx hb dX0_write_83 (by decide) (fun c_11 => ?_) (fun c_11 => ?_)
            · refine lv_iinc (v := (nI (i + 1))) (lv' := [(4, .int (nI (i + 1))), (5, .int (cellF w b p0 (nI i))), (0, .ref h0), (1, .int p0), (2, .int 0), (3, .int (nI w))]) hx hb dX0_write_110 hl (k := 5) rfl (nI_1 i) (by decide) rfl (fun ls hl => ?_)
              refine lv_goto (tgt := 56) hx hb dX0_write_113 (by decide) ?_
              exact ih (i + 1) fv gv _ _ _ (by omega) (by omega) (hP.sub [2, 0, 1] rfl) (hD.sub [2, 0, 1] (by decide) rfl) hS (lv_sub hl [2, 3, 4, 5, 0] rfl)
            · refine lv_iload hx hb dX0_write_86 (lv_at hl 0 rfl) ?_
              refine lv_aload_n hx hb dX0_write_88 rfl (lv_at hl 1 rfl) ?_
              refine va_get (D := (dC, dI)) (ci := 0) (v := .ref qc) (C := RX0) (T := TX0) (N := 7) hx hb hts k_1 hown hK hP 2 rfl rfl 3 (by decide) k_5 (fun _ h9 => h9) rfl dX0_write_89 ?_
              refine va_alen (v := nI (w * b)) hx hb hK hP 0 0 rfl rfl rfl dX0_write_92 ?_
              refine lv_icmp_ge (tgt := 110) hx hb dX0_write_93 (by decide) (fun c_12 => ?_) (fun c_12 => ?_)
              · refine lv_iinc (v := (nI (i + 1))) (lv' := [(4, .int (nI (i + 1))), (5, .int (cellF w b p0 (nI i))), (0, .ref h0), (1, .int p0), (2, .int 0), (3, .int (nI w))]) hx hb dX0_write_110 hl (k := 5) rfl (nI_1 i) (by decide) rfl (fun ls hl => ?_)
                refine lv_goto (tgt := 56) hx hb dX0_write_113 (by decide) ?_
                exact ih (i + 1) fv gv _ _ _ (by omega) (by omega) (hP.sub [2, 0, 1] rfl) (hD.sub [2, 0, 1] (by decide) rfl) hS (lv_sub hl [2, 3, 4, 5, 0] rfl)
              · refine lv_aload_n hx hb dX0_write_96 rfl (lv_at hl 1 rfl) ?_
                refine va_get (D := (dC, dI)) (ci := 0) (v := .ref qc) (C := RX0) (T := TX0) (N := 7) hx hb hts k_1 hown hK hP 2 rfl rfl 3 (by decide) k_5 (fun _ h9 => h9) rfl dX0_write_97 ?_
                refine lv_iload hx hb dX0_write_100 (lv_at hl 0 rfl) ?_
                refine lv_aload_n hx hb dX0_write_102 rfl (lv_at hl 1 rfl) ?_
                refine va_get (D := (dC, dI)) (ci := 0) (v := .ref qi) (C := RX0) (T := TX0) (N := 7) hx hb hts k_1 hown hK hP 2 rfl rfl 4 (by decide) k_3 (fun _ h9 => h9) rfl dX0_write_103 ?_
                refine lv_iload hx hb dX0_write_106 (lv_at hl 5 rfl) ?_
                refine va_iald hx hb hK hP 1 1 rfl rfl (show vp_in (nI i) w from vp_in_nI (by omega) (by omega)) dX0_write_108 ?_
                refine va_iast hx hb hK hP hD hS 0 0 rfl rfl (in_guard c_11 c_12 (by omega)) dX0_write_109 (fun H locs hP hD hS => ?_)
                have hP : va_P (dC, dI) vwCl [(qc, .inl (cC, w * b, .inl (upd fv ((cellF w b p0 (nI i)).toNatClampNeg) (gv ((nI i).toNatClampNeg))))), (qi, .inl (cI, w, .inl gv)), (h0, .inr (0, [.int (nI w), .int (nI b), .int wr, .ref qc, .ref qi, .int wa, .int wc]))] H := hP
                have hD : va_D A [(qc, .inl (cC, w * b, .inl (upd fv ((cellF w b p0 (nI i)).toNatClampNeg) (gv ((nI i).toNatClampNeg))))), (qi, .inl (cI, w, .inl gv)), (h0, .inr (0, [.int (nI w), .int (nI b), .int wr, .ref qc, .ref qi, .int wa, .int wc]))] := hD
                obtain ⟨f_13, ef_13⟩ : ∃ g9, g9 = upd fv ((cellF w b p0 (nI i)).toNatClampNeg) (gv ((nI i).toNatClampNeg)) := ⟨_, rfl⟩
                rw [← ef_13] at hP hD
                refine lv_iinc (v := (nI (i + 1))) (lv' := [(4, .int (nI (i + 1))), (5, .int (cellF w b p0 (nI i))), (0, .ref h0), (1, .int p0), (2, .int 0), (3, .int (nI w))]) hx hb dX0_write_110 hl (k := 5) rfl (nI_1 i) (by decide) rfl (fun ls hl => ?_)
                refine lv_goto (tgt := 56) hx hb dX0_write_113 (by decide) ?_
                exact ih (i + 1) f_13 gv _ _ _ (by omega) (by omega) (hP.sub [2, 0, 1] rfl) (hD.sub [2, 0, 1] (by decide) rfl) hS (lv_sub hl [2, 3, 4, 5, 0] rfl)
    refine loop_56 _ (fun i fv gv H locs ls hi hP hD hS hl => ?_) (w + 1) 0 f f2_5 _ _ _ (by omega) (by omega) (hP.sub [1, 0, 2] rfl) (hD.sub [1, 0, 2] (by decide) rfl) hS (lv_sub hl [3, 4, 2, 1, 0] rfl)
    refine lv_aload_n hx hb dX0_write_116 rfl (lv_at hl 0 rfl) ?_
    refine va_get (D := (dC, dI)) (ci := 0) (v := .int wa) (C := RX0) (T := TX0) (N := 7) hx hb hts k_1 hown hK hP 0 rfl rfl 5 (by decide) k_4 (fun _ h9 => h9) rfl dX0_write_117 ?_
    refine lv_if_lt (tgt := 133) hx hb dX0_write_120 (by decide) (fun c_14 => ?_) (fun c_14 => ?_)
    · refine lv_iload_n hx hb dX0_write_133 rfl (lv_at hl 2 rfl) ?_
      refine lv_if_ne (tgt := 147) hx hb dX0_write_134 (by decide) (fun c_15 => ?_) (fun c_15 => ?_)
      · exact absurd (by decide) c_15
      refine lv_aload_n hx hb dX0_write_137 rfl (lv_at hl 0 rfl) ?_
      refine lv_dup hx hb dX0_write_138 rfl ?_
      refine va_get (D := (dC, dI)) (ci := 0) (v := .int wr) (C := RX0) (T := TX0) (N := 7) hx hb hts k_1 hown hK hP 0 rfl rfl 2 (by decide) k_6 (fun _ h9 => h9) rfl dX0_write_139 ?_
      refine lv_iconst (v := 1) hx hb dX0_write_142 (by decide) ?_
      refine lv_iadd hx hb dX0_write_143 ?_
      refine lv_topi (fun z_16 _ => ?_)
      refine va_put (D := (dC, dI)) (ci := 0) (v := .int z_16) (ty := .int) (C := RX0) (T := TX0) (N := 7) hx hb hts k_1 tyX0 tyX0_ok nmX0 hown hK hP hD hS 0 rfl rfl 2 (by decide) k_6 (fun _ h9 => h9) rfl (by decide +kernel) rfl rfl (Nat.le_of_ble_eq_true rfl) dX0_write_144 (fun H locs hP hD hS => ?_)
      have hP : va_P (dC, dI) vwCl [(h0, .inr (0, [.int (nI w), .int (nI b), .int z_16, .ref qc, .ref qi, .int wa, .int wc])), (qc, .inl (cC, w * b, .inl fv)), (qi, .inl (cI, w, .inl gv))] H := hP
      have hD : va_D A [(h0, .inr (0, [.int (nI w), .int (nI b), .int z_16, .ref qc, .ref qi, .int wa, .int wc])), (qc, .inl (cC, w * b, .inl fv)), (qi, .inl (cI, w, .inl gv))] := hD
      refine lv_iload_n hx hb dX0_write_147 rfl (lv_at hl 2 rfl) ?_
      refine lv_if_ne (tgt := 155) hx hb dX0_write_148 (by decide) (fun c_17 => ?_) (fun c_17 => ?_)
      · exact absurd (by decide) c_17
      refine lv_iconst (v := 1) hx hb dX0_write_151 (by decide) ?_
      refine lv_goto (tgt := 156) hx hb dX0_write_152 (by decide) ?_
      have hP9 := hP.sub (ws' := [(h0, .inr (0, [.int (nI w), .int (nI b), .int z_16, .ref qc, .ref qi, .int wa, .int wc])), (qc, .inl (cC, w * b, .inl fv)), (qi, .inl (cI, w, .inl gv))]) [0, 1, 2] rfl
      have hD9 := hD.sub (ws' := [(h0, .inr (0, [.int (nI w), .int (nI b), .int z_16, .ref qc, .ref qi, .int wa, .int wc])), (qc, .inl (cC, w * b, .inl fv)), (qi, .inl (cI, w, .inl gv))]) [0, 1, 2] (by decide) rfl
      have hK9 := hK.sub (tys' := [(cC, .int), (cI, .int)]) [0, 1] rfl
      exact W.zret (v := 1) hx hb hr rfl (fun t ht hW => ⟨⟨1, (z_16, wa, fv, gv), rfl, Or.inr rfl, by rw [ht]; exact hP9, va_K.moved hW.alike hK9, hD9⟩, hS.F ht⟩) hS.2.2 dX0_write_156
    · refine lv_aload_n hx hb dX0_write_123 rfl (lv_at hl 0 rfl) ?_
      refine lv_dup hx hb dX0_write_124 rfl ?_
      refine va_get (D := (dC, dI)) (ci := 0) (v := .int wa) (C := RX0) (T := TX0) (N := 7) hx hb hts k_1 hown hK hP 0 rfl rfl 5 (by decide) k_4 (fun _ h9 => h9) rfl dX0_write_125 ?_
      refine lv_iconst (v := 1) hx hb dX0_write_128 (by decide) ?_
      refine lv_isub hx hb dX0_write_129 ?_
      refine lv_topi (fun z_18 _ => ?_)
      refine va_put (D := (dC, dI)) (ci := 0) (v := .int z_18) (ty := .int) (C := RX0) (T := TX0) (N := 7) hx hb hts k_1 tyX0 tyX0_ok nmX0 hown hK hP hD hS 0 rfl rfl 5 (by decide) k_4 (fun _ h9 => h9) rfl (by decide +kernel) rfl rfl (Nat.le_of_ble_eq_true rfl) dX0_write_130 (fun H locs hP hD hS => ?_)
      have hP : va_P (dC, dI) vwCl [(h0, .inr (0, [.int (nI w), .int (nI b), .int wr, .ref qc, .ref qi, .int z_18, .int wc])), (qc, .inl (cC, w * b, .inl fv)), (qi, .inl (cI, w, .inl gv))] H := hP
      have hD : va_D A [(h0, .inr (0, [.int (nI w), .int (nI b), .int wr, .ref qc, .ref qi, .int z_18, .int wc])), (qc, .inl (cC, w * b, .inl fv)), (qi, .inl (cI, w, .inl gv))] := hD
      refine lv_iload_n hx hb dX0_write_133 rfl (lv_at hl 2 rfl) ?_
      refine lv_if_ne (tgt := 147) hx hb dX0_write_134 (by decide) (fun c_19 => ?_) (fun c_19 => ?_)
      · exact absurd (by decide) c_19
      refine lv_aload_n hx hb dX0_write_137 rfl (lv_at hl 0 rfl) ?_
      refine lv_dup hx hb dX0_write_138 rfl ?_
      refine va_get (D := (dC, dI)) (ci := 0) (v := .int wr) (C := RX0) (T := TX0) (N := 7) hx hb hts k_1 hown hK hP 0 rfl rfl 2 (by decide) k_6 (fun _ h9 => h9) rfl dX0_write_139 ?_
      refine lv_iconst (v := 1) hx hb dX0_write_142 (by decide) ?_
      refine lv_iadd hx hb dX0_write_143 ?_
      refine lv_topi (fun z_20 _ => ?_)
      refine va_put (D := (dC, dI)) (ci := 0) (v := .int z_20) (ty := .int) (C := RX0) (T := TX0) (N := 7) hx hb hts k_1 tyX0 tyX0_ok nmX0 hown hK hP hD hS 0 rfl rfl 2 (by decide) k_6 (fun _ h9 => h9) rfl (by decide +kernel) rfl rfl (Nat.le_of_ble_eq_true rfl) dX0_write_144 (fun H locs hP hD hS => ?_)
      have hP : va_P (dC, dI) vwCl [(h0, .inr (0, [.int (nI w), .int (nI b), .int z_20, .ref qc, .ref qi, .int z_18, .int wc])), (qc, .inl (cC, w * b, .inl fv)), (qi, .inl (cI, w, .inl gv))] H := hP
      have hD : va_D A [(h0, .inr (0, [.int (nI w), .int (nI b), .int z_20, .ref qc, .ref qi, .int z_18, .int wc])), (qc, .inl (cC, w * b, .inl fv)), (qi, .inl (cI, w, .inl gv))] := hD
      refine lv_iload_n hx hb dX0_write_147 rfl (lv_at hl 2 rfl) ?_
      refine lv_if_ne (tgt := 155) hx hb dX0_write_148 (by decide) (fun c_21 => ?_) (fun c_21 => ?_)
      · exact absurd (by decide) c_21
      refine lv_iconst (v := 1) hx hb dX0_write_151 (by decide) ?_
      refine lv_goto (tgt := 156) hx hb dX0_write_152 (by decide) ?_
      have hP9 := hP.sub (ws' := [(h0, .inr (0, [.int (nI w), .int (nI b), .int z_20, .ref qc, .ref qi, .int z_18, .int wc])), (qc, .inl (cC, w * b, .inl fv)), (qi, .inl (cI, w, .inl gv))]) [0, 1, 2] rfl
      have hD9 := hD.sub (ws' := [(h0, .inr (0, [.int (nI w), .int (nI b), .int z_20, .ref qc, .ref qi, .int z_18, .int wc])), (qc, .inl (cC, w * b, .inl fv)), (qi, .inl (cI, w, .inl gv))]) [0, 1, 2] (by decide) rfl
      have hK9 := hK.sub (tys' := [(cC, .int), (cI, .int)]) [0, 1] rfl
      exact W.zret (v := 1) hx hb hr rfl (fun t ht hW => ⟨⟨1, (z_20, z_18, fv, gv), rfl, Or.inr rfl, by rw [ht]; exact hP9, va_K.moved hW.alike hK9, hD9⟩, hS.F ht⟩) hS.2.2 dX0_write_156
  · refine lv_iconst (v := 1) hx hb dX0_write_31 (by decide) ?_
    refine lv_goto (tgt := 36) hx hb dX0_write_32 (by decide) ?_
    refine lv_istore_n (lv' := [(2, .int 1), (0, .ref h0), (1, .int p0)]) hx hb dX0_write_36 rfl hl (by decide) rfl (fun ls hl => ?_)
    refine lv_iload_n hx hb dX0_write_37 rfl (lv_at hl 0 rfl) ?_
    refine lv_if_eq (tgt := 48) hx hb dX0_write_38 (by decide) (fun c_22 => ?_) (fun c_22 => ?_)
    · exact absurd c_22 (by decide)
    refine lv_aload_n hx hb dX0_write_41 rfl (lv_at hl 1 rfl) ?_
    refine va_get (D := (dC, dI)) (ci := 0) (v := .int wc) (C := RX0) (T := TX0) (N := 7) hx hb hts k_1 hown hK hP 1 rfl rfl 6 (by decide) k_7 (fun _ h9 => h9) rfl dX0_write_42 ?_
    refine lv_goto (tgt := 52) hx hb dX0_write_45 (by decide) ?_
    refine lv_istore_n (lv' := [(3, .int wc), (2, .int 1), (0, .ref h0), (1, .int p0)]) hx hb dX0_write_52 rfl hl (by decide) rfl (fun ls hl => ?_)
    refine lv_iconst (v := 0) hx hb dX0_write_53 (by decide) ?_
    refine lv_istore (lv' := [(4, .int 0), (3, .int wc), (2, .int 1), (0, .ref h0), (1, .int p0)]) hx hb dX0_write_54 hl (by decide) rfl (fun ls hl => ?_)
    have loop_56 : ∀ (Q : State → Prop), (∀ (i : Nat) (fv : Nat → Int32) (gv : Nat → Int32) (H : Heap) (locs : List Loc) (ls : Array Slot), i ≤ w → va_P (dC, dI) vwCl [(h0, .inr (0, [.int (nI w), .int (nI b), .int wr, .ref qc, .ref qi, .int wa, .int wc])), (qc, .inl (cC, w * b, .inl fv)), (qi, .inl (cI, w, .inl gv))] H → va_D A [(h0, .inr (0, [.int (nI w), .int (nI b), .int wr, .ref qc, .ref qi, .int wa, .int wc])), (qc, .inl (cC, w * b, .inl fv)), (qi, .inl (cI, w, .inl gv))] → va_S A s.heap H locs → lv_has ls 6 [(0, .ref h0), (1, .int p0), (2, .int 1), (3, .int wc), (4, .int (nI i))] → W p l e (headSpec v_X0_write_any ({ frames := 2, cells := 0, slots := 0, locals := 37 } : Room)).room s m ([.ref h0, .int p0] : List Value).toArray below meth c H locs 0 0 Q (F0 m 116 ls [])) → ∀ (nf i : Nat) (fv : Nat → Int32) (gv : Nat → Int32) (H : Heap) (locs : List Loc) (ls : Array Slot), i ≤ w → w + 1 ≤ i + nf → va_P (dC, dI) vwCl [(h0, .inr (0, [.int (nI w), .int (nI b), .int wr, .ref qc, .ref qi, .int wa, .int wc])), (qc, .inl (cC, w * b, .inl fv)), (qi, .inl (cI, w, .inl gv))] H → va_D A [(h0, .inr (0, [.int (nI w), .int (nI b), .int wr, .ref qc, .ref qi, .int wa, .int wc])), (qc, .inl (cC, w * b, .inl fv)), (qi, .inl (cI, w, .inl gv))] → va_S A s.heap H locs → lv_has ls 6 [(0, .ref h0), (1, .int p0), (2, .int 1), (3, .int wc), (4, .int (nI i))] → W p l e (headSpec v_X0_write_any ({ frames := 2, cells := 0, slots := 0, locals := 37 } : Room)).room s m ([.ref h0, .int p0] : List Value).toArray below meth c H locs 0 0 Q (F0 m 56 ls []) := by
      intro Q kx nf
      induction nf with
      | zero =>
        intro i fv gv H locs ls h1 h2
        exact absurd h2 (by omega)
      | succ nf ih =>
        intro i fv gv H locs ls hi hn hP hD hS hl
        refine lv_iload hx hb dX0_write_56 (lv_at hl 4 rfl) ?_
        refine lv_iload_n hx hb dX0_write_58 rfl (lv_at hl 3 rfl) ?_
        refine lv_icmp_ge (tgt := 116) hx hb dX0_write_59 (by decide) (fun c_23 => ?_) (fun c_23 => ?_)
        · exact kx i fv gv _ _ _ (by omega) hP hD hS (lv_sub hl [0, 1, 2, 3, 4] rfl)
        · refine lv_iload hx hb dX0_write_62 (lv_at hl 4 rfl) ?_
          refine lv_aload_n hx hb dX0_write_64 rfl (lv_at hl 0 rfl) ?_
          refine va_get (D := (dC, dI)) (ci := 0) (v := .ref qi) (C := RX0) (T := TX0) (N := 7) hx hb hts k_1 hown hK hP 0 rfl rfl 4 (by decide) k_3 (fun _ h9 => h9) rfl dX0_write_65 ?_
          refine va_alen (v := nI w) hx hb hK hP 2 1 rfl rfl rfl dX0_write_68 ?_
          refine lv_icmp_ge (tgt := 116) hx hb dX0_write_69 (by decide) (fun c_24 => ?_) (fun c_24 => ?_)
          · exact kx i fv gv _ _ _ (by omega) hP hD hS (lv_sub hl [0, 1, 2, 3, 4] rfl)
          · have hlt : i < w := Nat.lt_of_not_le (fun h => c_24 (nI_le h (by omega)))
            refine lv_aload_n hx hb dX0_write_72 rfl (lv_at hl 0 rfl) ?_
            refine lv_iload_n hx hb dX0_write_73 rfl (lv_at hl 1 rfl) ?_
            refine lv_iload hx hb dX0_write_74 (lv_at hl 4 rfl) ?_
            have hPc := hP.sub (ws' := [(h0, .inr (0, [.int (nI w), .int (nI b), .int wr, .ref qc, .ref qi, .int wa, .int wc]))]) [0] rfl
            have hDc := hD.sub (ws' := [(h0, .inr (0, [.int (nI w), .int (nI b), .int wr, .ref qc, .ref qi, .int wa, .int wc]))]) [0] (by decide) rfl
            have hKc := hK.sub (tys' := []) [] rfl
            have hFc := va_free (wc := [(h0, .inr (0, [.int (nI w), .int (nI b), .int wr, .ref qc, .ref qi, .int wa, .int wc]))]) hD hS hA [0] rfl
            refine va_calli (va_runV (As := [.int p0, .int (nI i)]) (rest := []) ⟨hx, hb, hml, hown, hts⟩ (c_X0_cellOf l dC dI H.size h0 w b qc qi wr wa wc p0 (nI i)) (cwV 2 hts g_X0_write_any_X0_cellOf rfl rfl rfl (by decide +kernel) ⟨Nat.le_of_ble_eq_true rfl, Nat.le_of_ble_eq_true rfl⟩) ⟨fun a U g mk q => by obtain ⟨q0, q1, qP, qK, qD⟩ := q; exact ⟨q0, q1, qP, va_K.moved (u := U) (U := U.calling g mk a) (Vm.Alike.refl U.vm) qK, qD⟩, va_recv hKc hPc (ci := 0) (q0 := 0) rfl rfl, fun U hU hW => ⟨rfl, by rw [hU], by rw [hU]; exact hPc, va_K.moved hW.alike hKc, hDc.weaken (fun _ _ _ _ => trivial)⟩⟩ rfl rfl hl.1 rfl (lv_room (Nat.le_of_ble_eq_true rfl)) dX0_write_76 ⟨(show 0 + 0 ≤ 0 by omega), (show 0 + 0 ≤ 0 by omega)⟩) hS (fun q _ h => hFc q h) hFc (fun r_25 u t H1 locs ht hvm hw hB hz1 hk1 hS => ?_)
            obtain ⟨hP1, hK1, hD1⟩ := hB
            rw [ht] at hP1
            have hK1 := va_K.moved hvm.symm hK1
            try dsimp only at hw
            obtain ⟨hP, hD⟩ := va_join (wr := [(qc, .inl (cC, w * b, .inl fv)), (qi, .inl (cI, w, .inl gv))]) (w1 := [(h0, .inr (0, [.int (nI w), .int (nI b), .int wr, .ref qc, .ref qi, .int wa, .int wc]))]) hP hD [0] [1, 2] rfl rfl (by decide) (by decide) hk1 hFc hP1 hD1
            have hK := (hK.sub (tys' := [(cC, .int), (cI, .int)]) [0, 1] rfl).app hK1
            generalize H1 = H at hP hS ⊢
            have hP : va_P (dC, dI) vwCl [(qc, .inl (cC, w * b, .inl fv)), (qi, .inl (cI, w, .inl gv)), (h0, .inr (0, [.int (nI w), .int (nI b), .int wr, .ref qc, .ref qi, .int wa, .int wc]))] H := hP
            have hD : va_D A [(qc, .inl (cC, w * b, .inl fv)), (qi, .inl (cI, w, .inl gv)), (h0, .inr (0, [.int (nI w), .int (nI b), .int wr, .ref qc, .ref qi, .int wa, .int wc]))] := hD
            have hK : va_K (dC, dI) vwCl [(cC, .int), (cI, .int)] s := hK
            obtain rfl : r_25 = cellF w b p0 (nI i) := hw
            refine lv_istore (lv' := [(5, .int (cellF w b p0 (nI i))), (0, .ref h0), (1, .int p0), (2, .int 1), (3, .int wc), (4, .int (nI i))]) hx hb dX0_write_79 hl (by decide) rfl (fun ls hl => ?_)
            refine lv_iload hx hb dX0_write_81 (lv_at hl 0 rfl) ?_
            refine lv_if_lt (tgt := 110) hx hb dX0_write_83 (by decide) (fun c_26 => ?_) (fun c_26 => ?_)
            · refine lv_iinc (v := (nI (i + 1))) (lv' := [(4, .int (nI (i + 1))), (5, .int (cellF w b p0 (nI i))), (0, .ref h0), (1, .int p0), (2, .int 1), (3, .int wc)]) hx hb dX0_write_110 hl (k := 5) rfl (nI_1 i) (by decide) rfl (fun ls hl => ?_)
              refine lv_goto (tgt := 56) hx hb dX0_write_113 (by decide) ?_
              exact ih (i + 1) fv gv _ _ _ (by omega) (by omega) (hP.sub [2, 0, 1] rfl) (hD.sub [2, 0, 1] (by decide) rfl) hS (lv_sub hl [2, 3, 4, 5, 0] rfl)
            · refine lv_iload hx hb dX0_write_86 (lv_at hl 0 rfl) ?_
              refine lv_aload_n hx hb dX0_write_88 rfl (lv_at hl 1 rfl) ?_
              refine va_get (D := (dC, dI)) (ci := 0) (v := .ref qc) (C := RX0) (T := TX0) (N := 7) hx hb hts k_1 hown hK hP 2 rfl rfl 3 (by decide) k_5 (fun _ h9 => h9) rfl dX0_write_89 ?_
              refine va_alen (v := nI (w * b)) hx hb hK hP 0 0 rfl rfl rfl dX0_write_92 ?_
              refine lv_icmp_ge (tgt := 110) hx hb dX0_write_93 (by decide) (fun c_27 => ?_) (fun c_27 => ?_)
              · refine lv_iinc (v := (nI (i + 1))) (lv' := [(4, .int (nI (i + 1))), (5, .int (cellF w b p0 (nI i))), (0, .ref h0), (1, .int p0), (2, .int 1), (3, .int wc)]) hx hb dX0_write_110 hl (k := 5) rfl (nI_1 i) (by decide) rfl (fun ls hl => ?_)
                refine lv_goto (tgt := 56) hx hb dX0_write_113 (by decide) ?_
                exact ih (i + 1) fv gv _ _ _ (by omega) (by omega) (hP.sub [2, 0, 1] rfl) (hD.sub [2, 0, 1] (by decide) rfl) hS (lv_sub hl [2, 3, 4, 5, 0] rfl)
              · refine lv_aload_n hx hb dX0_write_96 rfl (lv_at hl 1 rfl) ?_
                refine va_get (D := (dC, dI)) (ci := 0) (v := .ref qc) (C := RX0) (T := TX0) (N := 7) hx hb hts k_1 hown hK hP 2 rfl rfl 3 (by decide) k_5 (fun _ h9 => h9) rfl dX0_write_97 ?_
                refine lv_iload hx hb dX0_write_100 (lv_at hl 0 rfl) ?_
                refine lv_aload_n hx hb dX0_write_102 rfl (lv_at hl 1 rfl) ?_
                refine va_get (D := (dC, dI)) (ci := 0) (v := .ref qi) (C := RX0) (T := TX0) (N := 7) hx hb hts k_1 hown hK hP 2 rfl rfl 4 (by decide) k_3 (fun _ h9 => h9) rfl dX0_write_103 ?_
                refine lv_iload hx hb dX0_write_106 (lv_at hl 5 rfl) ?_
                refine va_iald hx hb hK hP 1 1 rfl rfl (show vp_in (nI i) w from vp_in_nI (by omega) (by omega)) dX0_write_108 ?_
                refine va_iast hx hb hK hP hD hS 0 0 rfl rfl (in_guard c_26 c_27 (by omega)) dX0_write_109 (fun H locs hP hD hS => ?_)
                have hP : va_P (dC, dI) vwCl [(qc, .inl (cC, w * b, .inl (upd fv ((cellF w b p0 (nI i)).toNatClampNeg) (gv ((nI i).toNatClampNeg))))), (qi, .inl (cI, w, .inl gv)), (h0, .inr (0, [.int (nI w), .int (nI b), .int wr, .ref qc, .ref qi, .int wa, .int wc]))] H := hP
                have hD : va_D A [(qc, .inl (cC, w * b, .inl (upd fv ((cellF w b p0 (nI i)).toNatClampNeg) (gv ((nI i).toNatClampNeg))))), (qi, .inl (cI, w, .inl gv)), (h0, .inr (0, [.int (nI w), .int (nI b), .int wr, .ref qc, .ref qi, .int wa, .int wc]))] := hD
                obtain ⟨f_28, ef_28⟩ : ∃ g9, g9 = upd fv ((cellF w b p0 (nI i)).toNatClampNeg) (gv ((nI i).toNatClampNeg)) := ⟨_, rfl⟩
                rw [← ef_28] at hP hD
                refine lv_iinc (v := (nI (i + 1))) (lv' := [(4, .int (nI (i + 1))), (5, .int (cellF w b p0 (nI i))), (0, .ref h0), (1, .int p0), (2, .int 1), (3, .int wc)]) hx hb dX0_write_110 hl (k := 5) rfl (nI_1 i) (by decide) rfl (fun ls hl => ?_)
                refine lv_goto (tgt := 56) hx hb dX0_write_113 (by decide) ?_
                exact ih (i + 1) f_28 gv _ _ _ (by omega) (by omega) (hP.sub [2, 0, 1] rfl) (hD.sub [2, 0, 1] (by decide) rfl) hS (lv_sub hl [2, 3, 4, 5, 0] rfl)
    refine loop_56 _ (fun i fv gv H locs ls hi hP hD hS hl => ?_) (w + 1) 0 f f2_5 _ _ _ (by omega) (by omega) (hP.sub [1, 0, 2] rfl) (hD.sub [1, 0, 2] (by decide) rfl) hS (lv_sub hl [3, 4, 2, 1, 0] rfl)
    refine lv_aload_n hx hb dX0_write_116 rfl (lv_at hl 0 rfl) ?_
    refine va_get (D := (dC, dI)) (ci := 0) (v := .int wa) (C := RX0) (T := TX0) (N := 7) hx hb hts k_1 hown hK hP 0 rfl rfl 5 (by decide) k_4 (fun _ h9 => h9) rfl dX0_write_117 ?_
    refine lv_if_lt (tgt := 133) hx hb dX0_write_120 (by decide) (fun c_29 => ?_) (fun c_29 => ?_)
    · refine lv_iload_n hx hb dX0_write_133 rfl (lv_at hl 2 rfl) ?_
      refine lv_if_ne (tgt := 147) hx hb dX0_write_134 (by decide) (fun c_30 => ?_) (fun c_30 => ?_)
      rotate_left
      · exact absurd c_30 (by decide)
      refine lv_iload_n hx hb dX0_write_147 rfl (lv_at hl 2 rfl) ?_
      refine lv_if_ne (tgt := 155) hx hb dX0_write_148 (by decide) (fun c_31 => ?_) (fun c_31 => ?_)
      rotate_left
      · exact absurd c_31 (by decide)
      refine lv_iconst (v := 0) hx hb dX0_write_155 (by decide) ?_
      have hP9 := hP.sub (ws' := [(h0, .inr (0, [.int (nI w), .int (nI b), .int wr, .ref qc, .ref qi, .int wa, .int wc])), (qc, .inl (cC, w * b, .inl fv)), (qi, .inl (cI, w, .inl gv))]) [0, 1, 2] rfl
      have hD9 := hD.sub (ws' := [(h0, .inr (0, [.int (nI w), .int (nI b), .int wr, .ref qc, .ref qi, .int wa, .int wc])), (qc, .inl (cC, w * b, .inl fv)), (qi, .inl (cI, w, .inl gv))]) [0, 1, 2] (by decide) rfl
      have hK9 := hK.sub (tys' := [(cC, .int), (cI, .int)]) [0, 1] rfl
      exact W.zret (v := 0) hx hb hr rfl (fun t ht hW => ⟨⟨0, (wr, wa, fv, gv), rfl, Or.inl rfl, by rw [ht]; exact hP9, va_K.moved hW.alike hK9, hD9⟩, hS.F ht⟩) hS.2.2 dX0_write_156
    · refine lv_aload_n hx hb dX0_write_123 rfl (lv_at hl 0 rfl) ?_
      refine lv_dup hx hb dX0_write_124 rfl ?_
      refine va_get (D := (dC, dI)) (ci := 0) (v := .int wa) (C := RX0) (T := TX0) (N := 7) hx hb hts k_1 hown hK hP 0 rfl rfl 5 (by decide) k_4 (fun _ h9 => h9) rfl dX0_write_125 ?_
      refine lv_iconst (v := 1) hx hb dX0_write_128 (by decide) ?_
      refine lv_isub hx hb dX0_write_129 ?_
      refine lv_topi (fun z_32 _ => ?_)
      refine va_put (D := (dC, dI)) (ci := 0) (v := .int z_32) (ty := .int) (C := RX0) (T := TX0) (N := 7) hx hb hts k_1 tyX0 tyX0_ok nmX0 hown hK hP hD hS 0 rfl rfl 5 (by decide) k_4 (fun _ h9 => h9) rfl (by decide +kernel) rfl rfl (Nat.le_of_ble_eq_true rfl) dX0_write_130 (fun H locs hP hD hS => ?_)
      have hP : va_P (dC, dI) vwCl [(h0, .inr (0, [.int (nI w), .int (nI b), .int wr, .ref qc, .ref qi, .int z_32, .int wc])), (qc, .inl (cC, w * b, .inl fv)), (qi, .inl (cI, w, .inl gv))] H := hP
      have hD : va_D A [(h0, .inr (0, [.int (nI w), .int (nI b), .int wr, .ref qc, .ref qi, .int z_32, .int wc])), (qc, .inl (cC, w * b, .inl fv)), (qi, .inl (cI, w, .inl gv))] := hD
      refine lv_iload_n hx hb dX0_write_133 rfl (lv_at hl 2 rfl) ?_
      refine lv_if_ne (tgt := 147) hx hb dX0_write_134 (by decide) (fun c_33 => ?_) (fun c_33 => ?_)
      rotate_left
      · exact absurd c_33 (by decide)
      refine lv_iload_n hx hb dX0_write_147 rfl (lv_at hl 2 rfl) ?_
      refine lv_if_ne (tgt := 155) hx hb dX0_write_148 (by decide) (fun c_34 => ?_) (fun c_34 => ?_)
      rotate_left
      · exact absurd c_34 (by decide)
      refine lv_iconst (v := 0) hx hb dX0_write_155 (by decide) ?_
      have hP9 := hP.sub (ws' := [(h0, .inr (0, [.int (nI w), .int (nI b), .int wr, .ref qc, .ref qi, .int z_32, .int wc])), (qc, .inl (cC, w * b, .inl fv)), (qi, .inl (cI, w, .inl gv))]) [0, 1, 2] rfl
      have hD9 := hD.sub (ws' := [(h0, .inr (0, [.int (nI w), .int (nI b), .int wr, .ref qc, .ref qi, .int z_32, .int wc])), (qc, .inl (cC, w * b, .inl fv)), (qi, .inl (cI, w, .inl gv))]) [0, 1, 2] (by decide) rfl
      have hK9 := hK.sub (tys' := [(cC, .int), (cI, .int)]) [0, 1] rfl
      exact W.zret (v := 0) hx hb hr rfl (fun t ht hW => ⟨⟨0, (wr, z_32, fv, gv), rfl, Or.inl rfl, by rw [ht]; exact hP9, va_K.moved hW.alike hK9, hD9⟩, hS.F ht⟩) hS.2.2 dX0_write_156
def v_X0_copyBlock : List Cond := .code yX0_copyBlock cX0_copyBlock 4 (some .boolean) :: ([.fieldLink RX0 7 "TwinRoots$Disk" "words" "I", .code yX0_read cX0_read 4 (some .int), .code yX0_cellOf cX0_cellOf 4 (some .int), .fieldLink RX0 13 "TwinRoots$Disk" "blocks" "I", .methodLink RX0 38 yX0_cellOf, .instanceMethod yX0_cellOf, .selects RX0 yX0_cellOf yX0_cellOf, .initialized RX0, .fieldLink RX0 16 "TwinRoots$Disk" "cells" "[I", .methodLink RX0 52 yX0_read, .instanceMethod yX0_read, .selects RX0 yX0_read yX0_read, .code yX0_lay cX0_lay 3 none, .fieldLink RX0 20 "TwinRoots$Disk" "image" "[I", .methodLink RX0 45 yX0_lay, .instanceMethod yX0_lay, .selects RX0 yX0_lay yX0_lay, .code yX0_write cX0_write 6 (some .boolean), .code yX0_sealOf cX0_sealOf 5 (some .int), .code Lib.Math.max.name Lib.Math.max.code 2 (some .int), .methodLink RX0 26 Lib.Math.max.name, .static Lib.Math.max.name, .initialized "java/lang/Math", .methodLink RX0 41 yX0_sealOf, .static yX0_sealOf, .fieldLink RX0 23 "TwinRoots$Disk" "writesAhead" "I", .fieldLink RX0 49 "TwinRoots$Disk" "writes" "I", .fieldLink RX0 35 "TwinRoots$Disk" "wordsOfCut" "I", .methodLink RX0 55 yX0_write, .instanceMethod yX0_write, .selects RX0 yX0_write yX0_write] ++ (wsX00 ++ ([])))
set_option maxRecDepth 20000 in
theorem g_X0_copyBlock_X0_read_any : GoodIn v_X0_copyBlock (wsV RX0 52 RX0 yX0_read v_X0_read_any) := goodIn_r _ [10, 11, 12, 8, 2, 3, 4, 1, 5, 6, 7, 8, 9, 32, 33, 34, 35, 36, 37, 38] (by decide +kernel) (by decide +kernel)
set_option maxRecDepth 20000 in
theorem g_X0_copyBlock_X0_lay : GoodIn v_X0_copyBlock (wsV RX0 45 RX0 yX0_lay v_X0_lay) := goodIn_r _ [15, 16, 17, 8, 13, 14, 32, 33, 34, 35, 36, 37, 38] (by decide +kernel) (by decide +kernel)
set_option maxRecDepth 20000 in
theorem g_X0_copyBlock_X0_write_any : GoodIn v_X0_copyBlock (wsV RX0 55 RX0 yX0_write v_X0_write_any) := goodIn_r _ [29, 30, 31, 8, 18, 1, 14, 19, 20, 21, 22, 23, 24, 25, 8, 13, 15, 16, 17, 26, 3, 4, 5, 6, 7, 9, 27, 28, 32, 33, 34, 35, 36, 37, 38] (by decide +kernel) (by decide +kernel)
set_option maxHeartbeats 4000000 in
set_option maxRecDepth 100000 in
/-- copyBlock -/
theorem c_X0_copyBlock (l : Launch) (dC : Nat → ClassId) (dI : Nat → Nat → Nat) (sz : Nat) (h0 : Nat) (w : Nat) (b : Nat) (qc : Nat) (qi : Nat) (wr : Int32) (wa : Int32) (wc : Int32) (p0 : Int32) (p1 : Int32) (cC : ClassId) (cI : ClassId) (f : Nat → Int32) (g : Nat → Int32) (zw0 : 12 ≤ w) (zw : w ≤ 40) (zb0 : 4 ≤ b) (zb : b ≤ 64) (zwb : w * b ≤ 2560) : Met l yX0_copyBlock v_X0_copyBlock ({ frames := 3, cells := 0, slots := 0, locals := 62 } : Room) (va_Pc [.ref h0, .int p0, .int p1] (fun U => U.heap.size = sz ∧ va_P (dC, dI) vwCl [(h0, .inr (0, [.int (nI w), .int (nI b), .int wr, .ref qc, .ref qi, .int wa, .int wc])), (qc, .inl (cC, w * b, .inl f)), (qi, .inl (cI, w, .inl g))] U.heap ∧ va_K (dC, dI) vwCl [(cC, .int), (cI, .int)] U ∧ va_D (fun _ => True) [(h0, .inr (0, [.int (nI w), .int (nI b), .int wr, .ref qc, .ref qi, .int wa, .int wc])), (qc, .inl (cC, w * b, .inl f)), (qi, .inl (cI, w, .inl g))])) (va_Qi (fun (r : Int32) (u : Int32 × Int32 × (Nat → Int32) × (Nat → Int32)) => match u with | (wr2, wa2, f2, g2) => r = 0 ∨ r = 1) (fun (u : Int32 × Int32 × (Nat → Int32) × (Nat → Int32)) (t : State) => match u with | (wr2, wa2, f2, g2) => va_P (dC, dI) vwCl [(h0, .inr (0, [.int (nI w), .int (nI b), .int wr2, .ref qc, .ref qi, .int wa2, .int wc])), (qc, .inl (cC, w * b, .inl f2)), (qi, .inl (cI, w, .inl g2))] t.heap ∧ va_K (dC, dI) vwCl [(cC, .int), (cI, .int)] t ∧ va_D (va_A [(h0, .inr (0, [.int (nI w), .int (nI b), .int wr, .ref qc, .ref qi, .int wa, .int wc])), (qc, .inl (cC, w * b, .inl f)), (qi, .inl (cI, w, .inl g))] sz) [(h0, .inr (0, [.int (nI w), .int (nI b), .int wr2, .ref qc, .ref qi, .int wa2, .int wc])), (qc, .inl (cC, w * b, .inl f2)), (qi, .inl (cI, w, .inl g2))]) (va_A [(h0, .inr (0, [.int (nI w), .int (nI b), .int wr, .ref qc, .ref qi, .int wa, .int wc])), (qc, .inl (cC, w * b, .inl f)), (qi, .inl (cI, w, .inl g))] sz)) 0 0 (va_A [(h0, .inr (0, [.int (nI w), .int (nI b), .int wr, .ref qc, .ref qi, .int wa, .int wc])), (qc, .inl (cC, w * b, .inl f)), (qi, .inl (cI, w, .inl g))] sz) := by
  refine Met.ofW (cc := cX0_copyBlock) (maxL := 4) (ret := (some .boolean)) (by decide) rfl ?_
  intro p e s m args below meth c s₁ B hml hv
  obtain ⟨rfl, hsz, hP, hK, hD0⟩ := hv
  have hx := B.exec
  have hb := B.bytes
  have hr := B.returns
  have hts := atoms_spec (ws := v_X0_copyBlock) B.pre
  have hown : s.vm.findClass RX0 = some m.cls := findClass_of_methodNamed B.named
  have hlocks := B.notSynchronized
  subst hsz
  have hD := hD0.self (sz := s.heap.size)
  generalize hAe : va_A [(h0, .inr (0, [.int (nI w), .int (nI b), .int wr, .ref qc, .ref qi, .int wa, .int wc])), (qc, .inl (cC, w * b, .inl f)), (qi, .inl (cI, w, .inl g))] s.heap.size = A at hD ⊢
  have hA : ∀ q : Nat, s.heap.size ≤ q → A q := fun q h => by rw [← hAe]; exact Or.inr h
  have hS : va_S A s.heap s.heap [] := va_S.rf
  have hP : va_P (dC, dI) vwCl [(h0, .inr (0, [.int (nI w), .int (nI b), .int wr, .ref qc, .ref qi, .int wa, .int wc])), (qc, .inl (cC, w * b, .inl f)), (qi, .inl (cI, w, .inl g))] s.heap := hP
  have hl := lv_entry ([.ref h0, .int p0, .int p1]) (n := 4) (Nat.le_of_ble_eq_true rfl)
  rw [lg_entry_eq]
  generalize (lg_sl ([.ref h0, .int p0, .int p1]) ++ List.replicate (4 - (lg_sl ([.ref h0, .int p0, .int p1])).length) Slot.unset).toArray = ls at hl ⊢
  have hl : lv_has ls 4 [(0, .ref h0), (1, .int p0), (2, .int p1)] := hl
  have k_1 := (fun _ h => List.mem_cons_of_mem _ (List.mem_append_right _ (List.mem_append_left _ h)) : ∀ w ∈ wsX00, w ∈ v_X0_copyBlock)
  have k_2 := hts (.fieldLink RX0 7 "TwinRoots$Disk" "words" "I") (List.mem_of_getElem? (i := 1) rfl)
  refine lv_iconst (v := 0) hx hb dX0_copyBlock_0 (by decide) ?_
  refine lv_istore_n (lv' := [(3, .int 0), (0, .ref h0), (1, .int p0), (2, .int p1)]) hx hb dX0_copyBlock_1 rfl hl (by decide) rfl (fun ls hl => ?_)
  have loop_2 : ∀ (Q : State → Prop), (∀ (i : Nat) (gv : Nat → Int32) (H : Heap) (locs : List Loc) (ls : Array Slot), i ≤ w → va_P (dC, dI) vwCl [(h0, .inr (0, [.int (nI w), .int (nI b), .int wr, .ref qc, .ref qi, .int wa, .int wc])), (qc, .inl (cC, w * b, .inl f)), (qi, .inl (cI, w, .inl gv))] H → va_D A [(h0, .inr (0, [.int (nI w), .int (nI b), .int wr, .ref qc, .ref qi, .int wa, .int wc])), (qc, .inl (cC, w * b, .inl f)), (qi, .inl (cI, w, .inl gv))] → va_S A s.heap H locs → lv_has ls 4 [(0, .ref h0), (1, .int p0), (2, .int p1), (3, .int (nI i))] → W p l e (headSpec v_X0_copyBlock ({ frames := 3, cells := 0, slots := 0, locals := 62 } : Room)).room s m ([.ref h0, .int p0, .int p1] : List Value).toArray below meth c H locs 0 0 Q (F0 m 27 ls [])) → ∀ (nf i : Nat) (gv : Nat → Int32) (H : Heap) (locs : List Loc) (ls : Array Slot), i ≤ w → w + 1 ≤ i + nf → va_P (dC, dI) vwCl [(h0, .inr (0, [.int (nI w), .int (nI b), .int wr, .ref qc, .ref qi, .int wa, .int wc])), (qc, .inl (cC, w * b, .inl f)), (qi, .inl (cI, w, .inl gv))] H → va_D A [(h0, .inr (0, [.int (nI w), .int (nI b), .int wr, .ref qc, .ref qi, .int wa, .int wc])), (qc, .inl (cC, w * b, .inl f)), (qi, .inl (cI, w, .inl gv))] → va_S A s.heap H locs → lv_has ls 4 [(0, .ref h0), (1, .int p0), (2, .int p1), (3, .int (nI i))] → W p l e (headSpec v_X0_copyBlock ({ frames := 3, cells := 0, slots := 0, locals := 62 } : Room)).room s m ([.ref h0, .int p0, .int p1] : List Value).toArray below meth c H locs 0 0 Q (F0 m 2 ls []) := by
    intro Q kx nf
    induction nf with
    | zero =>
      intro i gv H locs ls h1 h2
      exact absurd h2 (by omega)
    | succ nf ih =>
      intro i gv H locs ls hi hn hP hD hS hl
      refine lv_iload_n hx hb dX0_copyBlock_2 rfl (lv_at hl 3 rfl) ?_
      refine lv_aload_n hx hb dX0_copyBlock_3 rfl (lv_at hl 0 rfl) ?_
      refine va_get (D := (dC, dI)) (ci := 0) (v := .int (nI w)) (C := RX0) (T := TX0) (N := 7) hx hb hts k_1 hown hK hP 0 rfl rfl 0 (by decide) k_2 (fun _ h9 => h9) rfl dX0_copyBlock_4 ?_
      refine lv_icmp_ge (tgt := 27) hx hb dX0_copyBlock_7 (by decide) (fun c_1 => ?_) (fun c_1 => ?_)
      · exact kx i gv _ _ _ (by omega) hP hD hS (lv_sub hl [0, 1, 2, 3] rfl)
      · have hlt : i < w := Nat.lt_of_not_le (fun h => c_1 (nI_le h (by omega)))
        refine lv_aload_n hx hb dX0_copyBlock_10 rfl (lv_at hl 0 rfl) ?_
        refine lv_iload_n hx hb dX0_copyBlock_11 rfl (lv_at hl 3 rfl) ?_
        refine lv_aload_n hx hb dX0_copyBlock_12 rfl (lv_at hl 0 rfl) ?_
        refine lv_iload_n hx hb dX0_copyBlock_13 rfl (lv_at hl 1 rfl) ?_
        refine lv_iload_n hx hb dX0_copyBlock_14 rfl (lv_at hl 3 rfl) ?_
        have hPc := hP.sub (ws' := [(h0, .inr (0, [.int (nI w), .int (nI b), .int wr, .ref qc, .ref qi, .int wa, .int wc])), (qc, .inl (cC, w * b, .inl f))]) [0, 1] rfl
        have hDc := hD.sub (ws' := [(h0, .inr (0, [.int (nI w), .int (nI b), .int wr, .ref qc, .ref qi, .int wa, .int wc])), (qc, .inl (cC, w * b, .inl f))]) [0, 1] (by decide) rfl
        have hKc := hK.sub (tys' := [(cC, .int)]) [0] rfl
        have hFc := va_free (wc := [(h0, .inr (0, [.int (nI w), .int (nI b), .int wr, .ref qc, .ref qi, .int wa, .int wc])), (qc, .inl (cC, w * b, .inl f))]) hD hS hA [0, 1] rfl
        refine va_calli (va_runV (As := [.int p0, .int (nI i)]) (rest := [.int (nI i), .ref h0]) ⟨hx, hb, hml, hown, hts⟩ (c_X0_read_any l dC dI H.size h0 w b qc qi wr wa wc p0 (nI i) cC f (by first | assumption | omega | decide) (by first | assumption | omega | decide) (by first | assumption | omega | decide) (by first | assumption | omega | decide) (by first | assumption | omega | decide)) (cwV 2 hts g_X0_copyBlock_X0_read_any rfl rfl rfl (by decide +kernel) ⟨Nat.le_of_ble_eq_true rfl, Nat.le_of_ble_eq_true rfl⟩) ⟨fun a U g mk q => by obtain ⟨q0, q1, qP, qK, qD⟩ := q; exact ⟨q0, q1, qP, va_K.moved (u := U) (U := U.calling g mk a) (Vm.Alike.refl U.vm) qK, qD⟩, va_recv hKc hPc (ci := 0) (q0 := 0) rfl rfl, fun U hU hW => ⟨rfl, by rw [hU], by rw [hU]; exact hPc, va_K.moved hW.alike hKc, hDc.weaken (fun _ _ _ _ => trivial)⟩⟩ rfl rfl hl.1 rfl (lv_room (Nat.le_of_ble_eq_true rfl)) dX0_copyBlock_15 ⟨(show 0 + 0 ≤ 0 by omega), (show 0 + 0 ≤ 0 by omega)⟩) hS (fun q _ h => hFc q h) hFc (fun r_2 u t H1 locs ht hvm hw hB hz1 hk1 hS => ?_)
        obtain ⟨hP1, hK1, hD1⟩ := hB
        rw [ht] at hP1
        have hK1 := va_K.moved hvm.symm hK1
        try dsimp only at hw
        obtain ⟨hP, hD⟩ := va_join (wr := [(qi, .inl (cI, w, .inl gv))]) (w1 := [(h0, .inr (0, [.int (nI w), .int (nI b), .int wr, .ref qc, .ref qi, .int wa, .int wc])), (qc, .inl (cC, w * b, .inl f))]) hP hD [0, 1] [2] rfl rfl (by decide) (by decide) hk1 hFc hP1 hD1
        have hK := (hK.sub (tys' := [(cI, .int)]) [1] rfl).app hK1
        generalize H1 = H at hP hS ⊢
        have hP : va_P (dC, dI) vwCl [(qi, .inl (cI, w, .inl gv)), (h0, .inr (0, [.int (nI w), .int (nI b), .int wr, .ref qc, .ref qi, .int wa, .int wc])), (qc, .inl (cC, w * b, .inl f))] H := hP
        have hD : va_D A [(qi, .inl (cI, w, .inl gv)), (h0, .inr (0, [.int (nI w), .int (nI b), .int wr, .ref qc, .ref qi, .int wa, .int wc])), (qc, .inl (cC, w * b, .inl f))] := hD
        have hK : va_K (dC, dI) vwCl [(cI, .int), (cC, .int)] s := hK
        have hw_r_2 := hw
        have hPc := hP.sub (ws' := [(h0, .inr (0, [.int (nI w), .int (nI b), .int wr, .ref qc, .ref qi, .int wa, .int wc])), (qi, .inl (cI, w, .inl gv))]) [1, 0] rfl
        have hDc := hD.sub (ws' := [(h0, .inr (0, [.int (nI w), .int (nI b), .int wr, .ref qc, .ref qi, .int wa, .int wc])), (qi, .inl (cI, w, .inl gv))]) [1, 0] (by decide) rfl
        have hKc := hK.sub (tys' := [(cI, .int)]) [0] rfl
        have hFc := va_free (wc := [(h0, .inr (0, [.int (nI w), .int (nI b), .int wr, .ref qc, .ref qi, .int wa, .int wc])), (qi, .inl (cI, w, .inl gv))]) hD hS hA [1, 0] rfl
        refine va_callv (va_runV (As := [.int (nI i), .int r_2]) (rest := []) ⟨hx, hb, hml, hown, hts⟩ (c_X0_lay l dC dI H.size h0 w b qc qi wr wa wc (nI i) r_2 cI gv (by first | assumption | omega | decide)) (cwV 2 hts g_X0_copyBlock_X0_lay rfl rfl rfl (by decide +kernel) ⟨Nat.le_of_ble_eq_true rfl, Nat.le_of_ble_eq_true rfl⟩) ⟨fun a U g mk q => by obtain ⟨q0, q1, qP, qK, qD⟩ := q; exact ⟨q0, q1, qP, va_K.moved (u := U) (U := U.calling g mk a) (Vm.Alike.refl U.vm) qK, qD⟩, va_recv hKc hPc (ci := 0) (q0 := 0) rfl rfl, fun U hU hW => ⟨rfl, by rw [hU], by rw [hU]; exact hPc, va_K.moved hW.alike hKc, hDc.weaken (fun _ _ _ _ => trivial)⟩⟩ rfl rfl hl.1 rfl (lv_room (Nat.le_of_ble_eq_true rfl)) dX0_copyBlock_18 ⟨(show 0 + 0 ≤ 0 by omega), (show 0 + 0 ≤ 0 by omega)⟩) hS (fun q _ h => hFc q h) hFc (fun u t H1 locs ht hvm hw hB hz1 hk1 hS => ?_)
        obtain ⟨f2_4, rfl⟩ : ∃ z, z = u := ⟨_, rfl⟩
        obtain ⟨hP1, hK1, hD1⟩ := hB
        rw [ht] at hP1
        have hK1 := va_K.moved hvm.symm hK1
        try dsimp only at hw
        obtain ⟨hP, hD⟩ := va_join (wr := [(qc, .inl (cC, w * b, .inl f))]) (w1 := [(h0, .inr (0, [.int (nI w), .int (nI b), .int wr, .ref qc, .ref qi, .int wa, .int wc])), (qi, .inl (cI, w, .inl f2_4))]) hP hD [1, 0] [2] rfl rfl (by decide) (by decide) hk1 hFc hP1 hD1
        have hK := (hK.sub (tys' := [(cC, .int)]) [1] rfl).app hK1
        generalize H1 = H at hP hS ⊢
        have hP : va_P (dC, dI) vwCl [(qc, .inl (cC, w * b, .inl f)), (h0, .inr (0, [.int (nI w), .int (nI b), .int wr, .ref qc, .ref qi, .int wa, .int wc])), (qi, .inl (cI, w, .inl f2_4))] H := hP
        have hD : va_D A [(qc, .inl (cC, w * b, .inl f)), (h0, .inr (0, [.int (nI w), .int (nI b), .int wr, .ref qc, .ref qi, .int wa, .int wc])), (qi, .inl (cI, w, .inl f2_4))] := hD
        have hK : va_K (dC, dI) vwCl [(cC, .int), (cI, .int)] s := hK
        refine lv_iinc (v := (nI (i + 1))) (lv' := [(3, .int (nI (i + 1))), (0, .ref h0), (1, .int p0), (2, .int p1)]) hx hb dX0_copyBlock_21 hl (k := 3) rfl (nI_1 i) (by decide) rfl (fun ls hl => ?_)
        refine lv_goto (tgt := 2) hx hb dX0_copyBlock_24 (by decide) ?_
        exact ih (i + 1) f2_4 _ _ _ (by omega) (by omega) (hP.sub [1, 0, 2] rfl) (hD.sub [1, 0, 2] (by decide) rfl) hS (lv_sub hl [1, 2, 3, 0] rfl)
  refine loop_2 _ (fun i gv H locs ls hi hP hD hS hl => ?_) (w + 1) 0 g _ _ _ (by omega) (by omega) hP hD hS (lv_sub hl [1, 2, 3, 0] rfl)
  refine lv_aload_n hx hb dX0_copyBlock_27 rfl (lv_at hl 0 rfl) ?_
  refine lv_iload_n hx hb dX0_copyBlock_28 rfl (lv_at hl 2 rfl) ?_
  have hPc := hP.sub (ws' := [(h0, .inr (0, [.int (nI w), .int (nI b), .int wr, .ref qc, .ref qi, .int wa, .int wc])), (qc, .inl (cC, w * b, .inl f)), (qi, .inl (cI, w, .inl gv))]) [0, 1, 2] rfl
  have hDc := hD.sub (ws' := [(h0, .inr (0, [.int (nI w), .int (nI b), .int wr, .ref qc, .ref qi, .int wa, .int wc])), (qc, .inl (cC, w * b, .inl f)), (qi, .inl (cI, w, .inl gv))]) [0, 1, 2] (by decide) rfl
  have hKc := hK.sub (tys' := [(cC, .int), (cI, .int)]) [0, 1] rfl
  have hFc := va_free (wc := [(h0, .inr (0, [.int (nI w), .int (nI b), .int wr, .ref qc, .ref qi, .int wa, .int wc])), (qc, .inl (cC, w * b, .inl f)), (qi, .inl (cI, w, .inl gv))]) hD hS hA [0, 1, 2] rfl
  refine va_calli (va_runV (As := [.int p1]) (rest := []) ⟨hx, hb, hml, hown, hts⟩ (c_X0_write_any l dC dI H.size h0 w b qc qi wr wa wc p1 cC cI f gv (by first | assumption | omega | decide) (by first | assumption | omega | decide) (by first | assumption | omega | decide) (by first | assumption | omega | decide) (by first | assumption | omega | decide)) (cwV 1 hts g_X0_copyBlock_X0_write_any rfl rfl rfl (by decide +kernel) ⟨Nat.le_of_ble_eq_true rfl, Nat.le_of_ble_eq_true rfl⟩) ⟨fun a U g mk q => by obtain ⟨q0, q1, qP, qK, qD⟩ := q; exact ⟨q0, q1, qP, va_K.moved (u := U) (U := U.calling g mk a) (Vm.Alike.refl U.vm) qK, qD⟩, va_recv hKc hPc (ci := 0) (q0 := 0) rfl rfl, fun U hU hW => ⟨rfl, by rw [hU], by rw [hU]; exact hPc, va_K.moved hW.alike hKc, hDc.weaken (fun _ _ _ _ => trivial)⟩⟩ rfl rfl hl.1 rfl (lv_room (Nat.le_of_ble_eq_true rfl)) dX0_copyBlock_29 ⟨(show 0 + 0 ≤ 0 by omega), (show 0 + 0 ≤ 0 by omega)⟩) hS (fun q _ h => hFc q h) hFc (fun r_5 u t H1 locs ht hvm hw hB hz1 hk1 hS => ?_)
  obtain ⟨wr2_6, wa2_7, f2_8, g2_9⟩ := u
  obtain ⟨hP1, hK1, hD1⟩ := hB
  rw [ht] at hP1
  have hK1 := va_K.moved hvm.symm hK1
  try dsimp only at hw
  obtain ⟨hP, hD⟩ := va_join (wr := []) (w1 := [(h0, .inr (0, [.int (nI w), .int (nI b), .int wr2_6, .ref qc, .ref qi, .int wa2_7, .int wc])), (qc, .inl (cC, w * b, .inl f2_8)), (qi, .inl (cI, w, .inl g2_9))]) hP hD [0, 1, 2] [] rfl rfl (by decide) (by decide) hk1 hFc hP1 hD1
  have hK := (hK.sub (tys' := []) [] rfl).app hK1
  generalize H1 = H at hP hS ⊢
  have hP : va_P (dC, dI) vwCl [(h0, .inr (0, [.int (nI w), .int (nI b), .int wr2_6, .ref qc, .ref qi, .int wa2_7, .int wc])), (qc, .inl (cC, w * b, .inl f2_8)), (qi, .inl (cI, w, .inl g2_9))] H := hP
  have hD : va_D A [(h0, .inr (0, [.int (nI w), .int (nI b), .int wr2_6, .ref qc, .ref qi, .int wa2_7, .int wc])), (qc, .inl (cC, w * b, .inl f2_8)), (qi, .inl (cI, w, .inl g2_9))] := hD
  have hK : va_K (dC, dI) vwCl [(cC, .int), (cI, .int)] s := hK
  have hw_r_5 := hw
  have hP9 := hP.sub (ws' := [(h0, .inr (0, [.int (nI w), .int (nI b), .int wr2_6, .ref qc, .ref qi, .int wa2_7, .int wc])), (qc, .inl (cC, w * b, .inl f2_8)), (qi, .inl (cI, w, .inl g2_9))]) [0, 1, 2] rfl
  have hD9 := hD.sub (ws' := [(h0, .inr (0, [.int (nI w), .int (nI b), .int wr2_6, .ref qc, .ref qi, .int wa2_7, .int wc])), (qc, .inl (cC, w * b, .inl f2_8)), (qi, .inl (cI, w, .inl g2_9))]) [0, 1, 2] (by decide) rfl
  have hK9 := hK.sub (tys' := [(cC, .int), (cI, .int)]) [0, 1] rfl
  exact W.zret (v := r_5) hx hb hr (b01_nar hw_r_5) (fun t ht hW => ⟨⟨r_5, (wr2_6, wa2_7, f2_8, g2_9), rfl, hw_r_5, by rw [ht]; exact hP9, va_K.moved hW.alike hK9, hD9⟩, hS.F ht⟩) hS.2.2 dX0_copyBlock_32

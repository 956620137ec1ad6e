def v_X4_placeOf : List Cond := .code yX4_placeOf cX4_placeOf 3 (some .int) :: ([.fieldLink RX4 22 "TwinRoots$Page" "many" "I", .code yX4_keyAt cX4_keyAt 2 (some .int), .fieldLink RX4 15 "TwinRoots$Page" "keys" "[I", .methodLink RX4 34 yX4_keyAt, .instanceMethod yX4_keyAt, .selects RX4 yX4_keyAt yX4_keyAt, .initialized RX4] ++ (wsX40 ++ ([])))
set_option maxRecDepth 20000 in
theorem g_X4_placeOf_X4_keyAt : GoodIn v_X4_placeOf (wsV RX4 34 RX4 yX4_keyAt v_X4_keyAt) := goodIn_r _ [4, 5, 6, 7, 2, 1, 3, 8, 9, 10, 11] (by decide +kernel) (by decide +kernel)
set_option maxHeartbeats 4000000 in
set_option maxRecDepth 100000 in
/-- placeOf: a place up to many -/
theorem c_X4_placeOf (l : Launch) (dC : Nat → ClassId) (dI : Nat → Nat → Nat) (sz : Nat) (h0 : Nat) (qk : Nat) (qr : Nat) (n : Nat) (mn : Nat) (lf : Int32) (cK : ClassId) (cR : ClassId) (f : Nat → Int32) (g : Nat → Int32) (p0 : Int32) (zn : n ≤ 40) (zm : mn ≤ n) : Met l yX4_placeOf v_X4_placeOf ({ frames := 1, cells := 0, slots := 0, locals := 21 } : Room) (va_Pc [.ref h0, .int p0] (fun U => U.heap.size = sz ∧ va_P (dC, dI) vwCl [(h0, .inr (4, [.int lf, .int (nI mn), .ref qk, .ref qr])), (qk, .inl (cK, n, .inl f)), (qr, .inl (cR, n, .inl g))] U.heap ∧ va_K (dC, dI) vwCl [(cK, .int), (cR, .int)] U ∧ va_D (fun _ => True) [(h0, .inr (4, [.int lf, .int (nI mn), .ref qk, .ref qr])), (qk, .inl (cK, n, .inl f)), (qr, .inl (cR, n, .inl g))])) (va_Qi (fun (r : Int32) (j : Nat) => r = nI j ∧ j ≤ mn) (fun (j : Nat) (t : State) => va_P (dC, dI) vwCl [(h0, .inr (4, [.int lf, .int (nI mn), .ref qk, .ref qr])), (qk, .inl (cK, n, .inl f)), (qr, .inl (cR, n, .inl g))] t.heap ∧ va_K (dC, dI) vwCl [(cK, .int), (cR, .int)] t ∧ va_D (va_A [(h0, .inr (4, [.int lf, .int (nI mn), .ref qk, .ref qr])), (qk, .inl (cK, n, .inl f)), (qr, .inl (cR, n, .inl g))] sz) [(h0, .inr (4, [.int lf, .int (nI mn), .ref qk, .ref qr])), (qk, .inl (cK, n, .inl f)), (qr, .inl (cR, n, .inl g))]) (va_A [(h0, .inr (4, [.int lf, .int (nI mn), .ref qk, .ref qr])), (qk, .inl (cK, n, .inl f)), (qr, .inl (cR, n, .inl g))] sz)) 0 0 (va_A [(h0, .inr (4, [.int lf, .int (nI mn), .ref qk, .ref qr])), (qk, .inl (cK, n, .inl f)), (qr, .inl (cR, n, .inl g))] sz) := by
  refine Met.ofW (cc := cX4_placeOf) (maxL := 3) (ret := (some .int)) (by decide) rfl ?_
  intro p e s m args below meth c s₁ B hml hv
  obtain ⟨rfl, hsz, hP, hK, hD0⟩ := hv
  have hx := B.exec
  have hb := B.bytes
  have hr := B.returns
  have hts := atoms_spec (ws := v_X4_placeOf) B.pre
  have hown : s.vm.findClass RX4 = some m.cls := findClass_of_methodNamed B.named
  have hlocks := B.notSynchronized
  subst hsz
  have hD := hD0.self (sz := s.heap.size)
  generalize hAe : va_A [(h0, .inr (4, [.int lf, .int (nI mn), .ref qk, .ref qr])), (qk, .inl (cK, n, .inl f)), (qr, .inl (cR, n, .inl g))] s.heap.size = A at hD ⊢
  have hA : ∀ q : Nat, s.heap.size ≤ q → A q := fun q h => by rw [← hAe]; exact Or.inr h
  have hS : va_S A s.heap s.heap [] := va_S.rf
  have hP : va_P (dC, dI) vwCl [(h0, .inr (4, [.int lf, .int (nI mn), .ref qk, .ref qr])), (qk, .inl (cK, n, .inl f)), (qr, .inl (cR, n, .inl g))] s.heap := hP
  have hl := lv_entry ([.ref h0, .int p0]) (n := 3) (Nat.le_of_ble_eq_true rfl)
  rw [lg_entry_eq]
  generalize (lg_sl ([.ref h0, .int p0]) ++ List.replicate (3 - (lg_sl ([.ref h0, .int p0])).length) Slot.unset).toArray = ls at hl ⊢
  have hl : lv_has ls 3 [(0, .ref h0), (1, .int p0)] := hl
  have k_1 := (fun _ h => List.mem_cons_of_mem _ (List.mem_append_right _ (List.mem_append_left _ h)) : ∀ w ∈ wsX40, w ∈ v_X4_placeOf)
  have k_2 := hts (.fieldLink RX4 22 "TwinRoots$Page" "many" "I") (List.mem_of_getElem? (i := 1) rfl)
  refine lv_iconst (v := 0) hx hb dX4_placeOf_0 (by decide) ?_
  refine lv_istore_n (lv' := [(2, .int 0), (0, .ref h0), (1, .int p0)]) hx hb dX4_placeOf_1 rfl hl (by decide) rfl (fun ls hl => ?_)
  have loop_2 : ∀ (Q : State → Prop), (∀ (i : Nat) (H : Heap) (locs : List Loc) (ls : Array Slot), i ≤ mn → va_P (dC, dI) vwCl [(h0, .inr (4, [.int lf, .int (nI mn), .ref qk, .ref qr])), (qk, .inl (cK, n, .inl f)), (qr, .inl (cR, n, .inl g))] H → va_D A [(h0, .inr (4, [.int lf, .int (nI mn), .ref qk, .ref qr])), (qk, .inl (cK, n, .inl f)), (qr, .inl (cR, n, .inl g))] → va_S A s.heap H locs → lv_has ls 3 [(0, .ref h0), (1, .int p0), (2, .int (nI i))] → W p l e (headSpec v_X4_placeOf ({ frames := 1, cells := 0, slots := 0, locals := 21 } : Room)).room s m ([.ref h0, .int p0] : List Value).toArray below meth c H locs 0 0 Q (F0 m 25 ls [])) → ∀ (nf i : Nat) (H : Heap) (locs : List Loc) (ls : Array Slot), i ≤ mn → mn + 1 ≤ i + nf → va_P (dC, dI) vwCl [(h0, .inr (4, [.int lf, .int (nI mn), .ref qk, .ref qr])), (qk, .inl (cK, n, .inl f)), (qr, .inl (cR, n, .inl g))] H → va_D A [(h0, .inr (4, [.int lf, .int (nI mn), .ref qk, .ref qr])), (qk, .inl (cK, n, .inl f)), (qr, .inl (cR, n, .inl g))] → va_S A s.heap H locs → lv_has ls 3 [(0, .ref h0), (1, .int p0), (2, .int (nI i))] → W p l e (headSpec v_X4_placeOf ({ frames := 1, cells := 0, slots := 0, locals := 21 } : Room)).room s m ([.ref h0, .int p0] : List Value).toArray below meth c H locs 0 0 Q (F0 m 2 ls []) := by
    intro Q kx nf
    induction nf with
    | zero =>
      intro i H locs ls h1 h2
      exact absurd h2 (by omega)
    | succ nf ih =>
      intro i H locs ls hi hn hP hD hS hl
      refine lv_iload_n hx hb dX4_placeOf_2 rfl (lv_at hl 2 rfl) ?_
      refine lv_aload_n hx hb dX4_placeOf_3 rfl (lv_at hl 0 rfl) ?_
      refine va_get (D := (dC, dI)) (ci := 4) (v := .int (nI mn)) (C := RX4) (T := TX4) (N := 4) hx hb hts k_1 hown hK hP 0 rfl rfl 1 (by decide) k_2 (fun _ h9 => h9) rfl dX4_placeOf_4 ?_
      refine lv_icmp_ge (tgt := 25) hx hb dX4_placeOf_7 (by decide) (fun c_1 => ?_) (fun c_1 => ?_)
      · exact kx i _ _ _ (by omega) hP hD hS (lv_sub hl [0, 1, 2] rfl)
      · have hlt : i < mn := Nat.lt_of_not_le (fun h => c_1 (nI_le h (by omega)))
        refine lv_aload_n hx hb dX4_placeOf_10 rfl (lv_at hl 0 rfl) ?_
        refine lv_iload_n hx hb dX4_placeOf_11 rfl (lv_at hl 2 rfl) ?_
        have hPc := hP.sub (ws' := [(h0, .inr (4, [.int lf, .int (nI mn), .ref qk, .ref qr])), (qk, .inl (cK, n, .inl f)), (qr, .inl (cR, n, .inl g))]) [0, 1, 2] rfl
        have hDc := hD.sub (ws' := [(h0, .inr (4, [.int lf, .int (nI mn), .ref qk, .ref qr])), (qk, .inl (cK, n, .inl f)), (qr, .inl (cR, n, .inl g))]) [0, 1, 2] (by decide) rfl
        have hKc := hK.sub (tys' := [(cK, .int), (cR, .int)]) [0, 1] rfl
        have hFc := va_free (wc := [(h0, .inr (4, [.int lf, .int (nI mn), .ref qk, .ref qr])), (qk, .inl (cK, n, .inl f)), (qr, .inl (cR, n, .inl g))]) hD hS hA [0, 1, 2] rfl
        refine va_calli (va_runV (As := [.int (nI i)]) (rest := []) ⟨hx, hb, hml, hown, hts⟩ (c_X4_keyAt l dC dI H.size h0 qk qr n mn lf cK cR f g (nI i) (by first | assumption | omega | decide) (by first | assumption | omega | decide)) (cwV 1 hts g_X4_placeOf_X4_keyAt rfl rfl rfl (by decide +kernel) ⟨Nat.le_of_ble_eq_true rfl, Nat.le_of_ble_eq_true rfl⟩) ⟨fun a U g mk q => by obtain ⟨q0, q1, qP, qK, qD⟩ := q; exact ⟨q0, q1, qP, va_K.moved (u := U) (U := U.calling g mk a) (Vm.Alike.refl U.vm) qK, qD⟩, va_recv hKc hPc (ci := 4) (q0 := 0) rfl rfl, fun U hU hW => ⟨rfl, by rw [hU], by rw [hU]; exact hPc, va_K.moved hW.alike hKc, hDc.weaken (fun _ _ _ _ => trivial)⟩⟩ rfl rfl hl.1 rfl (lv_room (Nat.le_of_ble_eq_true rfl)) dX4_placeOf_12 ⟨(show 0 + 0 ≤ 0 by omega), (show 0 + 0 ≤ 0 by omega)⟩) hS (fun q _ h => hFc q h) hFc (fun r_2 u t H1 locs ht hvm hw hB hz1 hk1 hS => ?_)
        obtain ⟨hP1, hK1, hD1⟩ := hB
        rw [ht] at hP1
        have hK1 := va_K.moved hvm.symm hK1
        try dsimp only at hw
        obtain ⟨hP, hD⟩ := va_join (wr := []) (w1 := [(h0, .inr (4, [.int lf, .int (nI mn), .ref qk, .ref qr])), (qk, .inl (cK, n, .inl f)), (qr, .inl (cR, n, .inl g))]) hP hD [0, 1, 2] [] rfl rfl (by decide) (by decide) hk1 hFc hP1 hD1
        have hK := (hK.sub (tys' := []) [] rfl).app hK1
        generalize H1 = H at hP hS ⊢
        have hP : va_P (dC, dI) vwCl [(h0, .inr (4, [.int lf, .int (nI mn), .ref qk, .ref qr])), (qk, .inl (cK, n, .inl f)), (qr, .inl (cR, n, .inl g))] H := hP
        have hD : va_D A [(h0, .inr (4, [.int lf, .int (nI mn), .ref qk, .ref qr])), (qk, .inl (cK, n, .inl f)), (qr, .inl (cR, n, .inl g))] := hD
        have hK : va_K (dC, dI) vwCl [(cK, .int), (cR, .int)] s := hK
        have hw_r_2 := hw
        refine lv_iload_n hx hb dX4_placeOf_15 rfl (lv_at hl 1 rfl) ?_
        refine lv_icmp_ge (tgt := 25) hx hb dX4_placeOf_16 (by decide) (fun c_3 => ?_) (fun c_3 => ?_)
        · exact kx i _ _ _ (by omega) hP hD hS (lv_sub hl [0, 1, 2] rfl)
        · refine lv_iinc (v := (nI (i + 1))) (lv' := [(2, .int (nI (i + 1))), (0, .ref h0), (1, .int p0)]) hx hb dX4_placeOf_19 hl (k := 2) rfl (nI_1 i) (by decide) rfl (fun ls hl => ?_)
          refine lv_goto (tgt := 2) hx hb dX4_placeOf_22 (by decide) ?_
          exact ih (i + 1) _ _ _ (by omega) (by omega) hP hD hS (lv_sub hl [1, 2, 0] rfl)
  refine loop_2 _ (fun i H locs ls hi hP hD hS hl => ?_) (mn + 1) 0 _ _ _ (by omega) (by omega) hP hD hS (lv_sub hl [1, 2, 0] rfl)
  refine lv_iload_n hx hb dX4_placeOf_25 rfl (lv_at hl 2 rfl) ?_
  have hP9 := hP.sub (ws' := [(h0, .inr (4, [.int lf, .int (nI mn), .ref qk, .ref qr])), (qk, .inl (cK, n, .inl f)), (qr, .inl (cR, n, .inl g))]) [0, 1, 2] rfl
  have hD9 := hD.sub (ws' := [(h0, .inr (4, [.int lf, .int (nI mn), .ref qk, .ref qr])), (qk, .inl (cK, n, .inl f)), (qr, .inl (cR, n, .inl g))]) [0, 1, 2] (by decide) rfl
  have hK9 := hK.sub (tys' := [(cK, .int), (cR, .int)]) [0, 1] rfl
  exact W.iret (v := (nI i)) hx hb hr (fun t ht hW => ⟨⟨(nI i), (i), rfl, ⟨rfl, by omega⟩, by rw [ht]; exact hP9, va_K.moved hW.alike hK9, hD9⟩, hS.F ht⟩) hS.2.2 dX4_placeOf_26
def v_X4_childFor : List Cond := .code yX4_childFor cX4_childFor 3 (some .int) :: ([.fieldLink RX4 22 "TwinRoots$Page" "many" "I", .code yX4_keyAt cX4_keyAt 2 (some .int), .fieldLink RX4 15 "TwinRoots$Page" "keys" "[I", .methodLink RX4 34 yX4_keyAt, .instanceMethod yX4_keyAt, .selects RX4 yX4_keyAt yX4_keyAt, .initialized RX4] ++ (wsX40 ++ ([])))
set_option maxRecDepth 20000 in
theorem g_X4_childFor_X4_keyAt : GoodIn v_X4_childFor (wsV RX4 34 RX4 yX4_keyAt v_X4_keyAt) := goodIn_r _ [4, 5, 6, 7, 2, 1, 3, 8, 9, 10, 11] (by decide +kernel) (by decide +kernel)
set_option maxHeartbeats 4000000 in
set_option maxRecDepth 100000 in
/-- childFor: a place up to many -/
theorem c_X4_childFor (l : Launch) (dC : Nat → ClassId) (dI : Nat → Nat → Nat) (sz : Nat) (h0 : Nat) (qk : Nat) (qr : Nat) (n : Nat) (mn : Nat) (lf : Int32) (cK : ClassId) (cR : ClassId) (f : Nat → Int32) (g : Nat → Int32) (p0 : Int32) (zn : n ≤ 40) (zm : mn ≤ n) : Met l yX4_childFor v_X4_childFor ({ frames := 1, cells := 0, slots := 0, locals := 21 } : Room) (va_Pc [.ref h0, .int p0] (fun U => U.heap.size = sz ∧ va_P (dC, dI) vwCl [(h0, .inr (4, [.int lf, .int (nI mn), .ref qk, .ref qr])), (qk, .inl (cK, n, .inl f)), (qr, .inl (cR, n, .inl g))] U.heap ∧ va_K (dC, dI) vwCl [(cK, .int), (cR, .int)] U ∧ va_D (fun _ => True) [(h0, .inr (4, [.int lf, .int (nI mn), .ref qk, .ref qr])), (qk, .inl (cK, n, .inl f)), (qr, .inl (cR, n, .inl g))])) (va_Qi (fun (r : Int32) (j : Nat) => r = nI j ∧ j ≤ mn) (fun (j : Nat) (t : State) => va_P (dC, dI) vwCl [(h0, .inr (4, [.int lf, .int (nI mn), .ref qk, .ref qr])), (qk, .inl (cK, n, .inl f)), (qr, .inl (cR, n, .inl g))] t.heap ∧ va_K (dC, dI) vwCl [(cK, .int), (cR, .int)] t ∧ va_D (va_A [(h0, .inr (4, [.int lf, .int (nI mn), .ref qk, .ref qr])), (qk, .inl (cK, n, .inl f)), (qr, .inl (cR, n, .inl g))] sz) [(h0, .inr (4, [.int lf, .int (nI mn), .ref qk, .ref qr])), (qk, .inl (cK, n, .inl f)), (qr, .inl (cR, n, .inl g))]) (va_A [(h0, .inr (4, [.int lf, .int (nI mn), .ref qk, .ref qr])), (qk, .inl (cK, n, .inl f)), (qr, .inl (cR, n, .inl g))] sz)) 0 0 (va_A [(h0, .inr (4, [.int lf, .int (nI mn), .ref qk, .ref qr])), (qk, .inl (cK, n, .inl f)), (qr, .inl (cR, n, .inl g))] sz) := by
  refine Met.ofW (cc := cX4_childFor) (maxL := 3) (ret := (some .int)) (by decide) rfl ?_
  intro p e s m args below meth c s₁ B hml hv
  obtain ⟨rfl, hsz, hP, hK, hD0⟩ := hv
  have hx := B.exec
  have hb := B.bytes
  have hr := B.returns
  have hts := atoms_spec (ws := v_X4_childFor) B.pre
  have hown : s.vm.findClass RX4 = some m.cls := findClass_of_methodNamed B.named
  have hlocks := B.notSynchronized
  subst hsz
  have hD := hD0.self (sz := s.heap.size)
  generalize hAe : va_A [(h0, .inr (4, [.int lf, .int (nI mn), .ref qk, .ref qr])), (qk, .inl (cK, n, .inl f)), (qr, .inl (cR, n, .inl g))] s.heap.size = A at hD ⊢
  have hA : ∀ q : Nat, s.heap.size ≤ q → A q := fun q h => by rw [← hAe]; exact Or.inr h
  have hS : va_S A s.heap s.heap [] := va_S.rf
  have hP : va_P (dC, dI) vwCl [(h0, .inr (4, [.int lf, .int (nI mn), .ref qk, .ref qr])), (qk, .inl (cK, n, .inl f)), (qr, .inl (cR, n, .inl g))] s.heap := hP
  have hl := lv_entry ([.ref h0, .int p0]) (n := 3) (Nat.le_of_ble_eq_true rfl)
  rw [lg_entry_eq]
  generalize (lg_sl ([.ref h0, .int p0]) ++ List.replicate (3 - (lg_sl ([.ref h0, .int p0])).length) Slot.unset).toArray = ls at hl ⊢
  have hl : lv_has ls 3 [(0, .ref h0), (1, .int p0)] := hl
  have k_1 := (fun _ h => List.mem_cons_of_mem _ (List.mem_append_right _ (List.mem_append_left _ h)) : ∀ w ∈ wsX40, w ∈ v_X4_childFor)
  have k_2 := hts (.fieldLink RX4 22 "TwinRoots$Page" "many" "I") (List.mem_of_getElem? (i := 1) rfl)
  refine lv_iconst (v := 0) hx hb dX4_childFor_0 (by decide) ?_
  refine lv_istore_n (lv' := [(2, .int 0), (0, .ref h0), (1, .int p0)]) hx hb dX4_childFor_1 rfl hl (by decide) rfl (fun ls hl => ?_)
  have loop_2 : ∀ (Q : State → Prop), (∀ (i : Nat) (H : Heap) (locs : List Loc) (ls : Array Slot), i ≤ mn → va_P (dC, dI) vwCl [(h0, .inr (4, [.int lf, .int (nI mn), .ref qk, .ref qr])), (qk, .inl (cK, n, .inl f)), (qr, .inl (cR, n, .inl g))] H → va_D A [(h0, .inr (4, [.int lf, .int (nI mn), .ref qk, .ref qr])), (qk, .inl (cK, n, .inl f)), (qr, .inl (cR, n, .inl g))] → va_S A s.heap H locs → lv_has ls 3 [(0, .ref h0), (1, .int p0), (2, .int (nI i))] → W p l e (headSpec v_X4_childFor ({ frames := 1, cells := 0, slots := 0, locals := 21 } : Room)).room s m ([.ref h0, .int p0] : List Value).toArray below meth c H locs 0 0 Q (F0 m 29 ls [])) → ∀ (nf i : Nat) (H : Heap) (locs : List Loc) (ls : Array Slot), i ≤ mn → mn + 1 ≤ i + nf → va_P (dC, dI) vwCl [(h0, .inr (4, [.int lf, .int (nI mn), .ref qk, .ref qr])), (qk, .inl (cK, n, .inl f)), (qr, .inl (cR, n, .inl g))] H → va_D A [(h0, .inr (4, [.int lf, .int (nI mn), .ref qk, .ref qr])), (qk, .inl (cK, n, .inl f)), (qr, .inl (cR, n, .inl g))] → va_S A s.heap H locs → lv_has ls 3 [(0, .ref h0), (1, .int p0), (2, .int (nI i))] → W p l e (headSpec v_X4_childFor ({ frames := 1, cells := 0, slots := 0, locals := 21 } : Room)).room s m ([.ref h0, .int p0] : List Value).toArray below meth c H locs 0 0 Q (F0 m 2 ls []) := by
    intro Q kx nf
    induction nf with
    | zero =>
      intro i H locs ls h1 h2
      exact absurd h2 (by omega)
    | succ nf ih =>
      intro i H locs ls hi hn hP hD hS hl
      refine lv_iload_n hx hb dX4_childFor_2 rfl (lv_at hl 2 rfl) ?_
      refine lv_iconst (v := 1) hx hb dX4_childFor_3 (by decide) ?_
      refine lv_iadd hx hb dX4_childFor_4 ?_
      refine lv_topi (fun z_1 ez_1 => ?_)
      obtain rfl : z_1 = nI (i + 1) := ez_1.trans (nI_1 i)
      refine lv_aload_n hx hb dX4_childFor_5 rfl (lv_at hl 0 rfl) ?_
      refine va_get (D := (dC, dI)) (ci := 4) (v := .int (nI mn)) (C := RX4) (T := TX4) (N := 4) hx hb hts k_1 hown hK hP 0 rfl rfl 1 (by decide) k_2 (fun _ h9 => h9) rfl dX4_childFor_6 ?_
      refine lv_icmp_ge (tgt := 29) hx hb dX4_childFor_9 (by decide) (fun c_2 => ?_) (fun c_2 => ?_)
      · exact kx i _ _ _ (by omega) hP hD hS (lv_sub hl [0, 1, 2] rfl)
      · have hlt : i + 1 < mn := Nat.lt_of_not_le (fun h => c_2 (nI_le h (by omega)))
        refine lv_aload_n hx hb dX4_childFor_12 rfl (lv_at hl 0 rfl) ?_
        refine lv_iload_n hx hb dX4_childFor_13 rfl (lv_at hl 2 rfl) ?_
        refine lv_iconst (v := 1) hx hb dX4_childFor_14 (by decide) ?_
        refine lv_iadd hx hb dX4_childFor_15 ?_
        refine lv_topi (fun z_3 ez_3 => ?_)
        obtain rfl : z_3 = nI (i + 1) := ez_3.trans (nI_1 i)
        have hPc := hP.sub (ws' := [(h0, .inr (4, [.int lf, .int (nI mn), .ref qk, .ref qr])), (qk, .inl (cK, n, .inl f)), (qr, .inl (cR, n, .inl g))]) [0, 1, 2] rfl
        have hDc := hD.sub (ws' := [(h0, .inr (4, [.int lf, .int (nI mn), .ref qk, .ref qr])), (qk, .inl (cK, n, .inl f)), (qr, .inl (cR, n, .inl g))]) [0, 1, 2] (by decide) rfl
        have hKc := hK.sub (tys' := [(cK, .int), (cR, .int)]) [0, 1] rfl
        have hFc := va_free (wc := [(h0, .inr (4, [.int lf, .int (nI mn), .ref qk, .ref qr])), (qk, .inl (cK, n, .inl f)), (qr, .inl (cR, n, .inl g))]) hD hS hA [0, 1, 2] rfl
        refine va_calli (va_runV (As := [.int (nI (i + 1))]) (rest := []) ⟨hx, hb, hml, hown, hts⟩ (c_X4_keyAt l dC dI H.size h0 qk qr n mn lf cK cR f g (nI (i + 1)) (by first | assumption | omega | decide) (by first | assumption | omega | decide)) (cwV 1 hts g_X4_childFor_X4_keyAt rfl rfl rfl (by decide +kernel) ⟨Nat.le_of_ble_eq_true rfl, Nat.le_of_ble_eq_true rfl⟩) ⟨fun a U g mk q => by obtain ⟨q0, q1, qP, qK, qD⟩ := q; exact ⟨q0, q1, qP, va_K.moved (u := U) (U := U.calling g mk a) (Vm.Alike.refl U.vm) qK, qD⟩, va_recv hKc hPc (ci := 4) (q0 := 0) rfl rfl, fun U hU hW => ⟨rfl, by rw [hU], by rw [hU]; exact hPc, va_K.moved hW.alike hKc, hDc.weaken (fun _ _ _ _ => trivial)⟩⟩ rfl rfl hl.1 rfl (lv_room (Nat.le_of_ble_eq_true rfl)) dX4_childFor_16 ⟨(show 0 + 0 ≤ 0 by omega), (show 0 + 0 ≤ 0 by omega)⟩) hS (fun q _ h => hFc q h) hFc (fun r_4 u t H1 locs ht hvm hw hB hz1 hk1 hS => ?_)
        obtain ⟨hP1, hK1, hD1⟩ := hB
        rw [ht] at hP1
        have hK1 := va_K.moved hvm.symm hK1
        try dsimp only at hw
        obtain ⟨hP, hD⟩ := va_join (wr := []) (w1 := [(h0, .inr (4, [.int lf, .int (nI mn), .ref qk, .ref qr])), (qk, .inl (cK, n, .inl f)), (qr, .inl (cR, n, .inl g))]) hP hD [0, 1, 2] [] rfl rfl (by decide) (by decide) hk1 hFc hP1 hD1
        have hK := (hK.sub (tys' := []) [] rfl).app hK1
        generalize H1 = H at hP hS ⊢
        have hP : va_P (dC, dI) vwCl [(h0, .inr (4, [.int lf, .int (nI mn), .ref qk, .ref qr])), (qk, .inl (cK, n, .inl f)), (qr, .inl (cR, n, .inl g))] H := hP
        have hD : va_D A [(h0, .inr (4, [.int lf, .int (nI mn), .ref qk, .ref qr])), (qk, .inl (cK, n, .inl f)), (qr, .inl (cR, n, .inl g))] := hD
        have hK : va_K (dC, dI) vwCl [(cK, .int), (cR, .int)] s := hK
        have hw_r_4 := hw
        refine lv_iload_n hx hb dX4_childFor_19 rfl (lv_at hl 1 rfl) ?_
        refine lv_icmp_gt (tgt := 29) hx hb dX4_childFor_20 (by decide) (fun c_5 => ?_) (fun c_5 => ?_)
        · exact kx i _ _ _ (by omega) hP hD hS (lv_sub hl [0, 1, 2] rfl)
        · refine lv_iinc (v := (nI (i + 1))) (lv' := [(2, .int (nI (i + 1))), (0, .ref h0), (1, .int p0)]) hx hb dX4_childFor_23 hl (k := 2) rfl (nI_1 i) (by decide) rfl (fun ls hl => ?_)
          refine lv_goto (tgt := 2) hx hb dX4_childFor_26 (by decide) ?_
          exact ih (i + 1) _ _ _ (by omega) (by omega) hP hD hS (lv_sub hl [1, 2, 0] rfl)
  refine loop_2 _ (fun i H locs ls hi hP hD hS hl => ?_) (mn + 1) 0 _ _ _ (by omega) (by omega) hP hD hS (lv_sub hl [1, 2, 0] rfl)
  refine lv_iload_n hx hb dX4_childFor_29 rfl (lv_at hl 2 rfl) ?_
  have hP9 := hP.sub (ws' := [(h0, .inr (4, [.int lf, .int (nI mn), .ref qk, .ref qr])), (qk, .inl (cK, n, .inl f)), (qr, .inl (cR, n, .inl g))]) [0, 1, 2] rfl
  have hD9 := hD.sub (ws' := [(h0, .inr (4, [.int lf, .int (nI mn), .ref qk, .ref qr])), (qk, .inl (cK, n, .inl f)), (qr, .inl (cR, n, .inl g))]) [0, 1, 2] (by decide) rfl
  have hK9 := hK.sub (tys' := [(cK, .int), (cR, .int)]) [0, 1] rfl
  exact W.iret (v := (nI i)) hx hb hr (fun t ht hW => ⟨⟨(nI i), (i), rfl, ⟨rfl, by omega⟩, by rw [ht]; exact hP9, va_K.moved hW.alike hK9, hD9⟩, hS.F ht⟩) hS.2.2 dX4_childFor_30
def v_X4_has : List Cond := .code yX4_has cX4_has 3 (some .boolean) :: ([.code yX4_placeOf cX4_placeOf 3 (some .int), .fieldLink RX4 22 "TwinRoots$Page" "many" "I", .code yX4_keyAt cX4_keyAt 2 (some .int), .fieldLink RX4 15 "TwinRoots$Page" "keys" "[I", .methodLink RX4 34 yX4_keyAt, .instanceMethod yX4_keyAt, .selects RX4 yX4_keyAt yX4_keyAt, .initialized RX4, .methodLink RX4 48 yX4_placeOf, .instanceMethod yX4_placeOf, .selects RX4 yX4_placeOf yX4_placeOf] ++ (wsX40 ++ ([])))
set_option maxRecDepth 20000 in
theorem g_X4_has_X4_placeOf : GoodIn v_X4_has (wsV RX4 48 RX4 yX4_placeOf v_X4_placeOf) := goodIn_r _ [9, 10, 11, 8, 1, 2, 3, 4, 5, 6, 7, 8, 12, 13, 14, 15] (by decide +kernel) (by decide +kernel)
set_option maxRecDepth 20000 in
theorem g_X4_has_X4_keyAt : GoodIn v_X4_has (wsV RX4 34 RX4 yX4_keyAt v_X4_keyAt) := goodIn_r _ [5, 6, 7, 8, 3, 2, 4, 12, 13, 14, 15] (by decide +kernel) (by decide +kernel)
set_option maxHeartbeats 4000000 in
set_option maxRecDepth 100000 in
/-- has -/
theorem c_X4_has (l : Launch) (dC : Nat → ClassId) (dI : Nat → Nat → Nat) (sz : Nat) (h0 : Nat) (qk : Nat) (qr : Nat) (n : Nat) (mn : Nat) (lf : Int32) (cK : ClassId) (cR : ClassId) (f : Nat → Int32) (g : Nat → Int32) (p0 : Int32) (zn : n ≤ 40) (zm : mn ≤ n) : Met l yX4_has v_X4_has ({ frames := 2, cells := 0, slots := 0, locals := 43 } : Room) (va_Pc [.ref h0, .int p0] (fun U => U.heap.size = sz ∧ va_P (dC, dI) vwCl [(h0, .inr (4, [.int lf, .int (nI mn), .ref qk, .ref qr])), (qk, .inl (cK, n, .inl f)), (qr, .inl (cR, n, .inl g))] U.heap ∧ va_K (dC, dI) vwCl [(cK, .int), (cR, .int)] U ∧ va_D (fun _ => True) [(h0, .inr (4, [.int lf, .int (nI mn), .ref qk, .ref qr])), (qk, .inl (cK, n, .inl f)), (qr, .inl (cR, n, .inl g))])) (va_Qi (fun (r : Int32) (_ : Unit) => r = 0 ∨ r = 1) (fun (_ : Unit) (t : State) => va_P (dC, dI) vwCl [(h0, .inr (4, [.int lf, .int (nI mn), .ref qk, .ref qr])), (qk, .inl (cK, n, .inl f)), (qr, .inl (cR, n, .inl g))] t.heap ∧ va_K (dC, dI) vwCl [(cK, .int), (cR, .int)] t ∧ va_D (va_A [(h0, .inr (4, [.int lf, .int (nI mn), .ref qk, .ref qr])), (qk, .inl (cK, n, .inl f)), (qr, .inl (cR, n, .inl g))] sz) [(h0, .inr (4, [.int lf, .int (nI mn), .ref qk, .ref qr])), (qk, .inl (cK, n, .inl f)), (qr, .inl (cR, n, .inl g))]) (va_A [(h0, .inr (4, [.int lf, .int (nI mn), .ref qk, .ref qr])), (qk, .inl (cK, n, .inl f)), (qr, .inl (cR, n, .inl g))] sz)) 0 0 (va_A [(h0, .inr (4, [.int lf, .int (nI mn), .ref qk, .ref qr])), (qk, .inl (cK, n, .inl f)), (qr, .inl (cR, n, .inl g))] sz) := by
  refine Met.ofW (cc := cX4_has) (maxL := 3) (ret := (some .boolean)) (by decide) rfl ?_
  intro p e s m args below meth c s₁ B hml hv
  obtain ⟨rfl, hsz, hP, hK, hD0⟩ := hv
  have hx := B.exec
  have hb := B.bytes
  have hr := B.returns
  have hts := atoms_spec (ws := v_X4_has) B.pre
  have hown : s.vm.findClass RX4 = some m.cls := findClass_of_methodNamed B.named
  have hlocks := B.notSynchronized
  subst hsz
  have hD := hD0.self (sz := s.heap.size)
  generalize hAe : va_A [(h0, .inr (4, [.int lf, .int (nI mn), .ref qk, .ref qr])), (qk, .inl (cK, n, .inl f)), (qr, .inl (cR, n, .inl g))] s.heap.size = A at hD ⊢
  have hA : ∀ q : Nat, s.heap.size ≤ q → A q := fun q h => by rw [← hAe]; exact Or.inr h
  have hS : va_S A s.heap s.heap [] := va_S.rf
  have hP : va_P (dC, dI) vwCl [(h0, .inr (4, [.int lf, .int (nI mn), .ref qk, .ref qr])), (qk, .inl (cK, n, .inl f)), (qr, .inl (cR, n, .inl g))] s.heap := hP
  have hl := lv_entry ([.ref h0, .int p0]) (n := 3) (Nat.le_of_ble_eq_true rfl)
  rw [lg_entry_eq]
  generalize (lg_sl ([.ref h0, .int p0]) ++ List.replicate (3 - (lg_sl ([.ref h0, .int p0])).length) Slot.unset).toArray = ls at hl ⊢
  have hl : lv_has ls 3 [(0, .ref h0), (1, .int p0)] := hl
  have k_1 := (fun _ h => List.mem_cons_of_mem _ (List.mem_append_right _ (List.mem_append_left _ h)) : ∀ w ∈ wsX40, w ∈ v_X4_has)
  have k_2 := hts (.fieldLink RX4 22 "TwinRoots$Page" "many" "I") (List.mem_of_getElem? (i := 2) rfl)
  refine lv_aload_n hx hb dX4_has_0 rfl (lv_at hl 0 rfl) ?_
  refine lv_iload_n hx hb dX4_has_1 rfl (lv_at hl 1 rfl) ?_
  have hPc := hP.sub (ws' := [(h0, .inr (4, [.int lf, .int (nI mn), .ref qk, .ref qr])), (qk, .inl (cK, n, .inl f)), (qr, .inl (cR, n, .inl g))]) [0, 1, 2] rfl
  have hDc := hD.sub (ws' := [(h0, .inr (4, [.int lf, .int (nI mn), .ref qk, .ref qr])), (qk, .inl (cK, n, .inl f)), (qr, .inl (cR, n, .inl g))]) [0, 1, 2] (by decide) rfl
  have hKc := hK.sub (tys' := [(cK, .int), (cR, .int)]) [0, 1] rfl
  have hFc := va_free (wc := [(h0, .inr (4, [.int lf, .int (nI mn), .ref qk, .ref qr])), (qk, .inl (cK, n, .inl f)), (qr, .inl (cR, n, .inl g))]) hD hS hA [0, 1, 2] rfl
  refine va_calli (va_runV (As := [.int p0]) (rest := []) ⟨hx, hb, hml, hown, hts⟩ (c_X4_placeOf l dC dI s.heap.size h0 qk qr n mn lf cK cR f g p0 (by first | assumption | omega | decide) (by first | assumption | omega | decide)) (cwV 1 hts g_X4_has_X4_placeOf rfl rfl rfl (by decide +kernel) ⟨Nat.le_of_ble_eq_true rfl, Nat.le_of_ble_eq_true rfl⟩) ⟨fun a U g mk q => by obtain ⟨q0, q1, qP, qK, qD⟩ := q; exact ⟨q0, q1, qP, va_K.moved (u := U) (U := U.calling g mk a) (Vm.Alike.refl U.vm) qK, qD⟩, va_recv hKc hPc (ci := 4) (q0 := 0) rfl rfl, fun U hU hW => ⟨rfl, by rw [hU], by rw [hU]; exact hPc, va_K.moved hW.alike hKc, hDc.weaken (fun _ _ _ _ => trivial)⟩⟩ rfl rfl hl.1 rfl (lv_room (Nat.le_of_ble_eq_true rfl)) dX4_has_2 ⟨(show 0 + 0 ≤ 0 by omega), (show 0 + 0 ≤ 0 by omega)⟩) hS (fun q _ h => hFc q h) hFc (fun r_1 u t H1 locs ht hvm hw hB hz1 hk1 hS => ?_)
  obtain ⟨j_2, rfl⟩ : ∃ z, z = u := ⟨_, rfl⟩
  obtain ⟨hP1, hK1, hD1⟩ := hB
  rw [ht] at hP1
  have hK1 := va_K.moved hvm.symm hK1
  try dsimp only at hw
  obtain ⟨hP, hD⟩ := va_join (wr := []) (w1 := [(h0, .inr (4, [.int lf, .int (nI mn), .ref qk, .ref qr])), (qk, .inl (cK, n, .inl f)), (qr, .inl (cR, n, .inl g))]) hP hD [0, 1, 2] [] rfl rfl (by decide) (by decide) hk1 hFc hP1 hD1
  have hK := (hK.sub (tys' := []) [] rfl).app hK1
  generalize H1 = H at hP hS ⊢
  have hP : va_P (dC, dI) vwCl [(h0, .inr (4, [.int lf, .int (nI mn), .ref qk, .ref qr])), (qk, .inl (cK, n, .inl f)), (qr, .inl (cR, n, .inl g))] H := hP
  have hD : va_D A [(h0, .inr (4, [.int lf, .int (nI mn), .ref qk, .ref qr])), (qk, .inl (cK, n, .inl f)), (qr, .inl (cR, n, .inl g))] := hD
  have hK : va_K (dC, dI) vwCl [(cK, .int), (cR, .int)] s := hK
  have hw_r_1 := hw
  obtain rfl : r_1 = nI j_2 := hw.1
  refine lv_istore_n (lv' := [(2, .int (nI j_2)), (0, .ref h0), (1, .int p0)]) hx hb dX4_has_5 rfl hl (by decide) rfl (fun ls hl => ?_)
  refine lv_iload_n hx hb dX4_has_6 rfl (lv_at hl 0 rfl) ?_
  refine lv_aload_n hx hb dX4_has_7 rfl (lv_at hl 1 rfl) ?_
  refine va_get (D := (dC, dI)) (ci := 4) (v := .int (nI mn)) (C := RX4) (T := TX4) (N := 4) hx hb hts k_1 hown hK hP 0 rfl rfl 1 (by decide) k_2 (fun _ h9 => h9) rfl dX4_has_8 ?_
  refine lv_icmp_ge (tgt := 27) hx hb dX4_has_11 (by decide) (fun c_3 => ?_) (fun c_3 => ?_)
  · refine lv_iconst (v := 0) hx hb dX4_has_27 (by decide) ?_
    have hP9 := hP.sub (ws' := [(h0, .inr (4, [.int lf, .int (nI mn), .ref qk, .ref qr])), (qk, .inl (cK, n, .inl f)), (qr, .inl (cR, n, .inl g))]) [0, 1, 2] rfl
    have hD9 := hD.sub (ws' := [(h0, .inr (4, [.int lf, .int (nI mn), .ref qk, .ref qr])), (qk, .inl (cK, n, .inl f)), (qr, .inl (cR, n, .inl g))]) [0, 1, 2] (by decide) rfl
    have hK9 := hK.sub (tys' := [(cK, .int), (cR, .int)]) [0, 1] rfl
    exact W.zret (v := 0) hx hb hr rfl (fun t ht hW => ⟨⟨0, (), rfl, Or.inl rfl, by rw [ht]; exact hP9, va_K.moved hW.alike hK9, hD9⟩, hS.F ht⟩) hS.2.2 dX4_has_28
  · refine lv_aload_n hx hb dX4_has_14 rfl (lv_at hl 1 rfl) ?_
    refine lv_iload_n hx hb dX4_has_15 rfl (lv_at hl 0 rfl) ?_
    have hPc := hP.sub (ws' := [(h0, .inr (4, [.int lf, .int (nI mn), .ref qk, .ref qr])), (qk, .inl (cK, n, .inl f)), (qr, .inl (cR, n, .inl g))]) [0, 1, 2] rfl
    have hDc := hD.sub (ws' := [(h0, .inr (4, [.int lf, .int (nI mn), .ref qk, .ref qr])), (qk, .inl (cK, n, .inl f)), (qr, .inl (cR, n, .inl g))]) [0, 1, 2] (by decide) rfl
    have hKc := hK.sub (tys' := [(cK, .int), (cR, .int)]) [0, 1] rfl
    have hFc := va_free (wc := [(h0, .inr (4, [.int lf, .int (nI mn), .ref qk, .ref qr])), (qk, .inl (cK, n, .inl f)), (qr, .inl (cR, n, .inl g))]) hD hS hA [0, 1, 2] rfl
    refine va_calli (va_runV (As := [.int (nI j_2)]) (rest := []) ⟨hx, hb, hml, hown, hts⟩ (c_X4_keyAt l dC dI H.size h0 qk qr n mn lf cK cR f g (nI j_2) (by first | assumption | omega | decide) (by first | assumption | omega | decide)) (cwV 1 hts g_X4_has_X4_keyAt rfl rfl rfl (by decide +kernel) ⟨Nat.le_of_ble_eq_true rfl, Nat.le_of_ble_eq_true rfl⟩) ⟨fun a U g mk q => by obtain ⟨q0, q1, qP, qK, qD⟩ := q; exact ⟨q0, q1, qP, va_K.moved (u := U) (U := U.calling g mk a) (Vm.Alike.refl U.vm) qK, qD⟩, va_recv hKc hPc (ci := 4) (q0 := 0) rfl rfl, fun U hU hW => ⟨rfl, by rw [hU], by rw [hU]; exact hPc, va_K.moved hW.alike hKc, hDc.weaken (fun _ _ _ _ => trivial)⟩⟩ rfl rfl hl.1 rfl (lv_room (Nat.le_of_ble_eq_true rfl)) dX4_has_16 ⟨(show 0 + 0 ≤ 0 by omega), (show 0 + 0 ≤ 0 by omega)⟩) hS (fun q _ h => hFc q h) hFc (fun r_4 u t H1 locs ht hvm hw hB hz1 hk1 hS => ?_)
    obtain ⟨hP1, hK1, hD1⟩ := hB
    rw [ht] at hP1
    have hK1 := va_K.moved hvm.symm hK1
    try dsimp only at hw
    obtain ⟨hP, hD⟩ := va_join (wr := []) (w1 := [(h0, .inr (4, [.int lf, .int (nI mn), .ref qk, .ref qr])), (qk, .inl (cK, n, .inl f)), (qr, .inl (cR, n, .inl g))]) hP hD [0, 1, 2] [] rfl rfl (by decide) (by decide) hk1 hFc hP1 hD1
    have hK := (hK.sub (tys' := []) [] rfl).app hK1
    generalize H1 = H at hP hS ⊢
    have hP : va_P (dC, dI) vwCl [(h0, .inr (4, [.int lf, .int (nI mn), .ref qk, .ref qr])), (qk, .inl (cK, n, .inl f)), (qr, .inl (cR, n, .inl g))] H := hP
    have hD : va_D A [(h0, .inr (4, [.int lf, .int (nI mn), .ref qk, .ref qr])), (qk, .inl (cK, n, .inl f)), (qr, .inl (cR, n, .inl g))] := hD
    have hK : va_K (dC, dI) vwCl [(cK, .int), (cR, .int)] s := hK
    have hw_r_4 := hw
    refine lv_iload_n hx hb dX4_has_19 rfl (lv_at hl 2 rfl) ?_
    refine lv_icmp_ne (tgt := 27) hx hb dX4_has_20 (by decide) (fun c_5 => ?_) (fun c_5 => ?_)
    · refine lv_iconst (v := 0) hx hb dX4_has_27 (by decide) ?_
      have hP9 := hP.sub (ws' := [(h0, .inr (4, [.int lf, .int (nI mn), .ref qk, .ref qr])), (qk, .inl (cK, n, .inl f)), (qr, .inl (cR, n, .inl g))]) [0, 1, 2] rfl
      have hD9 := hD.sub (ws' := [(h0, .inr (4, [.int lf, .int (nI mn), .ref qk, .ref qr])), (qk, .inl (cK, n, .inl f)), (qr, .inl (cR, n, .inl g))]) [0, 1, 2] (by decide) rfl
      have hK9 := hK.sub (tys' := [(cK, .int), (cR, .int)]) [0, 1] rfl
      exact W.zret (v := 0) hx hb hr rfl (fun t ht hW => ⟨⟨0, (), rfl, Or.inl rfl, by rw [ht]; exact hP9, va_K.moved hW.alike hK9, hD9⟩, hS.F ht⟩) hS.2.2 dX4_has_28
    · refine lv_iconst (v := 1) hx hb dX4_has_23 (by decide) ?_
      refine lv_goto (tgt := 28) hx hb dX4_has_24 (by decide) ?_
      have hP9 := hP.sub (ws' := [(h0, .inr (4, [.int lf, .int (nI mn), .ref qk, .ref qr])), (qk, .inl (cK, n, .inl f)), (qr, .inl (cR, n, .inl g))]) [0, 1, 2] rfl
      have hD9 := hD.sub (ws' := [(h0, .inr (4, [.int lf, .int (nI mn), .ref qk, .ref qr])), (qk, .inl (cK, n, .inl f)), (qr, .inl (cR, n, .inl g))]) [0, 1, 2] (by decide) rfl
      have hK9 := hK.sub (tys' := [(cK, .int), (cR, .int)]) [0, 1] rfl
      exact W.zret (v := 1) hx hb hr rfl (fun t ht hW => ⟨⟨1, (), rfl, Or.inr rfl, by rw [ht]; exact hP9, va_K.moved hW.alike hK9, hD9⟩, hS.F ht⟩) hS.2.2 dX4_has_28
def v_X4_valueOf : List Cond := .code yX4_valueOf cX4_valueOf 2 (some .int) :: ([.code yX4_has cX4_has 3 (some .boolean), .code yX4_placeOf cX4_placeOf 3 (some .int), .fieldLink RX4 22 "TwinRoots$Page" "many" "I", .code yX4_keyAt cX4_keyAt 2 (some .int), .fieldLink RX4 15 "TwinRoots$Page" "keys" "[I", .methodLink RX4 34 yX4_keyAt, .instanceMethod yX4_keyAt, .selects RX4 yX4_keyAt yX4_keyAt, .initialized RX4, .methodLink RX4 48 yX4_placeOf, .instanceMethod yX4_placeOf, .selects RX4 yX4_placeOf yX4_placeOf, .methodLink RX4 51 yX4_has, .instanceMethod yX4_has, .selects RX4 yX4_has yX4_has, .code yX4_refAt cX4_refAt 2 (some .int), .fieldLink RX4 19 "TwinRoots$Page" "refs" "[I", .methodLink RX4 38 yX4_refAt, .instanceMethod yX4_refAt, .selects RX4 yX4_refAt yX4_refAt] ++ (wsX40 ++ ([])))
set_option maxRecDepth 20000 in
theorem g_X4_valueOf_X4_has : GoodIn v_X4_valueOf (wsV RX4 51 RX4 yX4_has v_X4_has) := goodIn_r _ [13, 14, 15, 9, 1, 2, 3, 4, 5, 6, 7, 8, 9, 10, 11, 12, 21, 22, 23, 24] (by decide +kernel) (by decide +kernel)
set_option maxRecDepth 20000 in
theorem g_X4_valueOf_X4_placeOf : GoodIn v_X4_valueOf (wsV RX4 48 RX4 yX4_placeOf v_X4_placeOf) := goodIn_r _ [10, 11, 12, 9, 2, 3, 4, 5, 6, 7, 8, 9, 21, 22, 23, 24] (by decide +kernel) (by decide +kernel)
set_option maxRecDepth 20000 in
theorem g_X4_valueOf_X4_refAt : GoodIn v_X4_valueOf (wsV RX4 38 RX4 yX4_refAt v_X4_refAt) := goodIn_r _ [18, 19, 20, 9, 16, 3, 17, 21, 22, 23, 24] (by decide +kernel) (by decide +kernel)
set_option maxHeartbeats 4000000 in
set_option maxRecDepth 100000 in
/-- valueOf: some number -/
theorem c_X4_valueOf (l : Launch) (dC : Nat → ClassId) (dI : Nat → Nat → Nat) (sz : Nat) (h0 : Nat) (qk : Nat) (qr : Nat) (n : Nat) (mn : Nat) (lf : Int32) (cK : ClassId) (cR : ClassId) (f : Nat → Int32) (g : Nat → Int32) (p0 : Int32) (zn : n ≤ 40) (zm : mn ≤ n) : Met l yX4_valueOf v_X4_valueOf ({ frames := 3, cells := 0, slots := 0, locals := 65 } : Room) (va_Pc [.ref h0, .int p0] (fun U => U.heap.size = sz ∧ va_P (dC, dI) vwCl [(h0, .inr (4, [.int lf, .int (nI mn), .ref qk, .ref qr])), (qk, .inl (cK, n, .inl f)), (qr, .inl (cR, n, .inl g))] U.heap ∧ va_K (dC, dI) vwCl [(cK, .int), (cR, .int)] U ∧ va_D (fun _ => True) [(h0, .inr (4, [.int lf, .int (nI mn), .ref qk, .ref qr])), (qk, .inl (cK, n, .inl f)), (qr, .inl (cR, n, .inl g))])) (va_Qi (fun (r : Int32) (_ : Unit) => True) (fun (_ : Unit) (t : State) => va_P (dC, dI) vwCl [(h0, .inr (4, [.int lf, .int (nI mn), .ref qk, .ref qr])), (qk, .inl (cK, n, .inl f)), (qr, .inl (cR, n, .inl g))] t.heap ∧ va_K (dC, dI) vwCl [(cK, .int), (cR, .int)] t ∧ va_D (va_A [(h0, .inr (4, [.int lf, .int (nI mn), .ref qk, .ref qr])), (qk, .inl (cK, n, .inl f)), (qr, .inl (cR, n, .inl g))] sz) [(h0, .inr (4, [.int lf, .int (nI mn), .ref qk, .ref qr])), (qk, .inl (cK, n, .inl f)), (qr, .inl (cR, n, .inl g))]) (va_A [(h0, .inr (4, [.int lf, .int (nI mn), .ref qk, .ref qr])), (qk, .inl (cK, n, .inl f)), (qr, .inl (cR, n, .inl g))] sz)) 0 0 (va_A [(h0, .inr (4, [.int lf, .int (nI mn), .ref qk, .ref qr])), (qk, .inl (cK, n, .inl f)), (qr, .inl (cR, n, .inl g))] sz) := by
  refine Met.ofW (cc := cX4_valueOf) (maxL := 2) (ret := (some .int)) (by decide) rfl ?_
  intro p e s m args below meth c s₁ B hml hv
  obtain ⟨rfl, hsz, hP, hK, hD0⟩ := hv
  have hx := B.exec
  have hb := B.bytes
  have hr := B.returns
  have hts := atoms_spec (ws := v_X4_valueOf) B.pre
  have hown : s.vm.findClass RX4 = some m.cls := findClass_of_methodNamed B.named
  have hlocks := B.notSynchronized
  subst hsz
  have hD := hD0.self (sz := s.heap.size)
  generalize hAe : va_A [(h0, .inr (4, [.int lf, .int (nI mn), .ref qk, .ref qr])), (qk, .inl (cK, n, .inl f)), (qr, .inl (cR, n, .inl g))] s.heap.size = A at hD ⊢
  have hA : ∀ q : Nat, s.heap.size ≤ q → A q := fun q h => by rw [← hAe]; exact Or.inr h
  have hS : va_S A s.heap s.heap [] := va_S.rf
  have hP : va_P (dC, dI) vwCl [(h0, .inr (4, [.int lf, .int (nI mn), .ref qk, .ref qr])), (qk, .inl (cK, n, .inl f)), (qr, .inl (cR, n, .inl g))] s.heap := hP
  have hl := lv_entry ([.ref h0, .int p0]) (n := 2) (Nat.le_of_ble_eq_true rfl)
  rw [lg_entry_eq]
  generalize (lg_sl ([.ref h0, .int p0]) ++ List.replicate (2 - (lg_sl ([.ref h0, .int p0])).length) Slot.unset).toArray = ls at hl ⊢
  have hl : lv_has ls 2 [(0, .ref h0), (1, .int p0)] := hl
  refine lv_aload_n hx hb dX4_valueOf_0 rfl (lv_at hl 0 rfl) ?_
  refine lv_iload_n hx hb dX4_valueOf_1 rfl (lv_at hl 1 rfl) ?_
  have hPc := hP.sub (ws' := [(h0, .inr (4, [.int lf, .int (nI mn), .ref qk, .ref qr])), (qk, .inl (cK, n, .inl f)), (qr, .inl (cR, n, .inl g))]) [0, 1, 2] rfl
  have hDc := hD.sub (ws' := [(h0, .inr (4, [.int lf, .int (nI mn), .ref qk, .ref qr])), (qk, .inl (cK, n, .inl f)), (qr, .inl (cR, n, .inl g))]) [0, 1, 2] (by decide) rfl
  have hKc := hK.sub (tys' := [(cK, .int), (cR, .int)]) [0, 1] rfl
  have hFc := va_free (wc := [(h0, .inr (4, [.int lf, .int (nI mn), .ref qk, .ref qr])), (qk, .inl (cK, n, .inl f)), (qr, .inl (cR, n, .inl g))]) hD hS hA [0, 1, 2] rfl
  refine va_calli (va_runV (As := [.int p0]) (rest := []) ⟨hx, hb, hml, hown, hts⟩ (c_X4_has l dC dI s.heap.size h0 qk qr n mn lf cK cR f g p0 (by first | assumption | omega | decide) (by first | assumption | omega | decide)) (cwV 1 hts g_X4_valueOf_X4_has rfl rfl rfl (by decide +kernel) ⟨Nat.le_of_ble_eq_true rfl, Nat.le_of_ble_eq_true rfl⟩) ⟨fun a U g mk q => by obtain ⟨q0, q1, qP, qK, qD⟩ := q; exact ⟨q0, q1, qP, va_K.moved (u := U) (U := U.calling g mk a) (Vm.Alike.refl U.vm) qK, qD⟩, va_recv hKc hPc (ci := 4) (q0 := 0) rfl rfl, fun U hU hW => ⟨rfl, by rw [hU], by rw [hU]; exact hPc, va_K.moved hW.alike hKc, hDc.weaken (fun _ _ _ _ => trivial)⟩⟩ rfl rfl hl.1 rfl (lv_room (Nat.le_of_ble_eq_true rfl)) dX4_valueOf_2 ⟨(show 0 + 0 ≤ 0 by omega), (show 0 + 0 ≤ 0 by omega)⟩) hS (fun q _ h => hFc q h) hFc (fun r_1 u t H1 locs ht hvm hw hB hz1 hk1 hS => ?_)
  obtain ⟨hP1, hK1, hD1⟩ := hB
  rw [ht] at hP1
  have hK1 := va_K.moved hvm.symm hK1
  try dsimp only at hw
  obtain ⟨hP, hD⟩ := va_join (wr := []) (w1 := [(h0, .inr (4, [.int lf, .int (nI mn), .ref qk, .ref qr])), (qk, .inl (cK, n, .inl f)), (qr, .inl (cR, n, .inl g))]) hP hD [0, 1, 2] [] rfl rfl (by decide) (by decide) hk1 hFc hP1 hD1
  have hK := (hK.sub (tys' := []) [] rfl).app hK1
  generalize H1 = H at hP hS ⊢
  have hP : va_P (dC, dI) vwCl [(h0, .inr (4, [.int lf, .int (nI mn), .ref qk, .ref qr])), (qk, .inl (cK, n, .inl f)), (qr, .inl (cR, n, .inl g))] H := hP
  have hD : va_D A [(h0, .inr (4, [.int lf, .int (nI mn), .ref qk, .ref qr])), (qk, .inl (cK, n, .inl f)), (qr, .inl (cR, n, .inl g))] := hD
  have hK : va_K (dC, dI) vwCl [(cK, .int), (cR, .int)] s := hK
  have hw_r_1 := hw
  refine lv_if_eq (tgt := 20) hx hb dX4_valueOf_5 (by decide) (fun c_2 => ?_) (fun c_2 => ?_)
  · refine lv_iconst (v := 0) hx hb dX4_valueOf_20 (by decide) ?_
    have hP9 := hP.sub (ws' := [(h0, .inr (4, [.int lf, .int (nI mn), .ref qk, .ref qr])), (qk, .inl (cK, n, .inl f)), (qr, .inl (cR, n, .inl g))]) [0, 1, 2] rfl
    have hD9 := hD.sub (ws' := [(h0, .inr (4, [.int lf, .int (nI mn), .ref qk, .ref qr])), (qk, .inl (cK, n, .inl f)), (qr, .inl (cR, n, .inl g))]) [0, 1, 2] (by decide) rfl
    have hK9 := hK.sub (tys' := [(cK, .int), (cR, .int)]) [0, 1] rfl
    exact W.iret (v := 0) hx hb hr (fun t ht hW => ⟨⟨0, (), rfl, trivial, by rw [ht]; exact hP9, va_K.moved hW.alike hK9, hD9⟩, hS.F ht⟩) hS.2.2 dX4_valueOf_21
  · refine lv_aload_n hx hb dX4_valueOf_8 rfl (lv_at hl 0 rfl) ?_
    refine lv_aload_n hx hb dX4_valueOf_9 rfl (lv_at hl 0 rfl) ?_
    refine lv_iload_n hx hb dX4_valueOf_10 rfl (lv_at hl 1 rfl) ?_
    have hPc := hP.sub (ws' := [(h0, .inr (4, [.int lf, .int (nI mn), .ref qk, .ref qr])), (qk, .inl (cK, n, .inl f)), (qr, .inl (cR, n, .inl g))]) [0, 1, 2] rfl
    have hDc := hD.sub (ws' := [(h0, .inr (4, [.int lf, .int (nI mn), .ref qk, .ref qr])), (qk, .inl (cK, n, .inl f)), (qr, .inl (cR, n, .inl g))]) [0, 1, 2] (by decide) rfl
    have hKc := hK.sub (tys' := [(cK, .int), (cR, .int)]) [0, 1] rfl
    have hFc := va_free (wc := [(h0, .inr (4, [.int lf, .int (nI mn), .ref qk, .ref qr])), (qk, .inl (cK, n, .inl f)), (qr, .inl (cR, n, .inl g))]) hD hS hA [0, 1, 2] rfl
    refine va_calli (va_runV (As := [.int p0]) (rest := [.ref h0]) ⟨hx, hb, hml, hown, hts⟩ (c_X4_placeOf l dC dI H.size h0 qk qr n mn lf cK cR f g p0 (by first | assumption | omega | decide) (by first | assumption | omega | decide)) (cwV 1 hts g_X4_valueOf_X4_placeOf rfl rfl rfl (by decide +kernel) ⟨Nat.le_of_ble_eq_true rfl, Nat.le_of_ble_eq_true rfl⟩) ⟨fun a U g mk q => by obtain ⟨q0, q1, qP, qK, qD⟩ := q; exact ⟨q0, q1, qP, va_K.moved (u := U) (U := U.calling g mk a) (Vm.Alike.refl U.vm) qK, qD⟩, va_recv hKc hPc (ci := 4) (q0 := 0) rfl rfl, fun U hU hW => ⟨rfl, by rw [hU], by rw [hU]; exact hPc, va_K.moved hW.alike hKc, hDc.weaken (fun _ _ _ _ => trivial)⟩⟩ rfl rfl hl.1 rfl (lv_room (Nat.le_of_ble_eq_true rfl)) dX4_valueOf_11 ⟨(show 0 + 0 ≤ 0 by omega), (show 0 + 0 ≤ 0 by omega)⟩) hS (fun q _ h => hFc q h) hFc (fun r_3 u t H1 locs ht hvm hw hB hz1 hk1 hS => ?_)
    obtain ⟨j_4, rfl⟩ : ∃ z, z = u := ⟨_, rfl⟩
    obtain ⟨hP1, hK1, hD1⟩ := hB
    rw [ht] at hP1
    have hK1 := va_K.moved hvm.symm hK1
    try dsimp only at hw
    obtain ⟨hP, hD⟩ := va_join (wr := []) (w1 := [(h0, .inr (4, [.int lf, .int (nI mn), .ref qk, .ref qr])), (qk, .inl (cK, n, .inl f)), (qr, .inl (cR, n, .inl g))]) hP hD [0, 1, 2] [] rfl rfl (by decide) (by decide) hk1 hFc hP1 hD1
    have hK := (hK.sub (tys' := []) [] rfl).app hK1
    generalize H1 = H at hP hS ⊢
    have hP : va_P (dC, dI) vwCl [(h0, .inr (4, [.int lf, .int (nI mn), .ref qk, .ref qr])), (qk, .inl (cK, n, .inl f)), (qr, .inl (cR, n, .inl g))] H := hP
    have hD : va_D A [(h0, .inr (4, [.int lf, .int (nI mn), .ref qk, .ref qr])), (qk, .inl (cK, n, .inl f)), (qr, .inl (cR, n, .inl g))] := hD
    have hK : va_K (dC, dI) vwCl [(cK, .int), (cR, .int)] s := hK
    have hw_r_3 := hw
    obtain rfl : r_3 = nI j_4 := hw.1
    have hPc := hP.sub (ws' := [(h0, .inr (4, [.int lf, .int (nI mn), .ref qk, .ref qr])), (qk, .inl (cK, n, .inl f)), (qr, .inl (cR, n, .inl g))]) [0, 1, 2] rfl
    have hDc := hD.sub (ws' := [(h0, .inr (4, [.int lf, .int (nI mn), .ref qk, .ref qr])), (qk, .inl (cK, n, .inl f)), (qr, .inl (cR, n, .inl g))]) [0, 1, 2] (by decide) rfl
    have hKc := hK.sub (tys' := [(cK, .int), (cR, .int)]) [0, 1] rfl
    have hFc := va_free (wc := [(h0, .inr (4, [.int lf, .int (nI mn), .ref qk, .ref qr])), (qk, .inl (cK, n, .inl f)), (qr, .inl (cR, n, .inl g))]) hD hS hA [0, 1, 2] rfl
    refine va_calli (va_runV (As := [.int (nI j_4)]) (rest := []) ⟨hx, hb, hml, hown, hts⟩ (c_X4_refAt l dC dI H.size h0 qk qr n mn lf cK cR f g (nI j_4) (by first | assumption | omega | decide) (by first | assumption | omega | decide)) (cwV 1 hts g_X4_valueOf_X4_refAt rfl rfl rfl (by decide +kernel) ⟨Nat.le_of_ble_eq_true rfl, Nat.le_of_ble_eq_true rfl⟩) ⟨fun a U g mk q => by obtain ⟨q0, q1, qP, qK, qD⟩ := q; exact ⟨q0, q1, qP, va_K.moved (u := U) (U := U.calling g mk a) (Vm.Alike.refl U.vm) qK, qD⟩, va_recv hKc hPc (ci := 4) (q0 := 0) rfl rfl, fun U hU hW => ⟨rfl, by rw [hU], by rw [hU]; exact hPc, va_K.moved hW.alike hKc, hDc.weaken (fun _ _ _ _ => trivial)⟩⟩ rfl rfl hl.1 rfl (lv_room (Nat.le_of_ble_eq_true rfl)) dX4_valueOf_14 ⟨(show 0 + 0 ≤ 0 by omega), (show 0 + 0 ≤ 0 by omega)⟩) hS (fun q _ h => hFc q h) hFc (fun r_5 u t H1 locs ht hvm hw hB hz1 hk1 hS => ?_)
    obtain ⟨hP1, hK1, hD1⟩ := hB
    rw [ht] at hP1
    have hK1 := va_K.moved hvm.symm hK1
    try dsimp only at hw
    obtain ⟨hP, hD⟩ := va_join (wr := []) (w1 := [(h0, .inr (4, [.int lf, .int (nI mn), .ref qk, .ref qr])), (qk, .inl (cK, n, .inl f)), (qr, .inl (cR, n, .inl g))]) hP hD [0, 1, 2] [] rfl rfl (by decide) (by decide) hk1 hFc hP1 hD1
    have hK := (hK.sub (tys' := []) [] rfl).app hK1
    generalize H1 = H at hP hS ⊢
    have hP : va_P (dC, dI) vwCl [(h0, .inr (4, [.int lf, .int (nI mn), .ref qk, .ref qr])), (qk, .inl (cK, n, .inl f)), (qr, .inl (cR, n, .inl g))] H := hP
    have hD : va_D A [(h0, .inr (4, [.int lf, .int (nI mn), .ref qk, .ref qr])), (qk, .inl (cK, n, .inl f)), (qr, .inl (cR, n, .inl g))] := hD
    have hK : va_K (dC, dI) vwCl [(cK, .int), (cR, .int)] s := hK
    have hw_r_5 := hw
    refine lv_goto (tgt := 21) hx hb dX4_valueOf_17 (by decide) ?_
    have hP9 := hP.sub (ws' := [(h0, .inr (4, [.int lf, .int (nI mn), .ref qk, .ref qr])), (qk, .inl (cK, n, .inl f)), (qr, .inl (cR, n, .inl g))]) [0, 1, 2] rfl
    have hD9 := hD.sub (ws' := [(h0, .inr (4, [.int lf, .int (nI mn), .ref qk, .ref qr])), (qk, .inl (cK, n, .inl f)), (qr, .inl (cR, n, .inl g))]) [0, 1, 2] (by decide) rfl
    have hK9 := hK.sub (tys' := [(cK, .int), (cR, .int)]) [0, 1] rfl
    exact W.iret (v := r_5) hx hb hr (fun t ht hW => ⟨⟨r_5, (), rfl, trivial, by rw [ht]; exact hP9, va_K.moved hW.alike hK9, hD9⟩, hS.F ht⟩) hS.2.2 dX4_valueOf_21
def v_X4_valuesBetween : List Cond := .code yX4_valuesBetween cX4_valuesBetween 5 (some .int) :: ([.fieldLink RX4 22 "TwinRoots$Page" "many" "I", .code yX4_keyAt cX4_keyAt 2 (some .int), .fieldLink RX4 15 "TwinRoots$Page" "keys" "[I", .methodLink RX4 34 yX4_keyAt, .instanceMethod yX4_keyAt, .selects RX4 yX4_keyAt yX4_keyAt, .initialized RX4, .code yX4_refAt cX4_refAt 2 (some .int), .fieldLink RX4 19 "TwinRoots$Page" "refs" "[I", .methodLink RX4 38 yX4_refAt, .instanceMethod yX4_refAt, .selects RX4 yX4_refAt yX4_refAt] ++ (wsX40 ++ ([])))
set_option maxRecDepth 20000 in
theorem g_X4_valuesBetween_X4_keyAt : GoodIn v_X4_valuesBetween (wsV RX4 34 RX4 yX4_keyAt v_X4_keyAt) := goodIn_r _ [4, 5, 6, 7, 2, 1, 3, 13, 14, 15, 16] (by decide +kernel) (by decide +kernel)
set_option maxRecDepth 20000 in
theorem g_X4_valuesBetween_X4_refAt : GoodIn v_X4_valuesBetween (wsV RX4 38 RX4 yX4_refAt v_X4_refAt) := goodIn_r _ [10, 11, 12, 7, 8, 1, 9, 13, 14, 15, 16] (by decide +kernel) (by decide +kernel)
set_option maxHeartbeats 4000000 in
set_option maxRecDepth 100000 in
/-- valuesBetween: some number -/
theorem c_X4_valuesBetween (l : Launch) (dC : Nat → ClassId) (dI : Nat → Nat → Nat) (sz : Nat) (h0 : Nat) (qk : Nat) (qr : Nat) (n : Nat) (mn : Nat) (lf : Int32) (cK : ClassId) (cR : ClassId) (f : Nat → Int32) (g : Nat → Int32) (p0 : Int32) (p1 : Int32) (zn : n ≤ 40) (zm : mn ≤ n) : Met l yX4_valuesBetween v_X4_valuesBetween ({ frames := 1, cells := 0, slots := 0, locals := 21 } : Room) (va_Pc [.ref h0, .int p0, .int p1] (fun U => U.heap.size = sz ∧ va_P (dC, dI) vwCl [(h0, .inr (4, [.int lf, .int (nI mn), .ref qk, .ref qr])), (qk, .inl (cK, n, .inl f)), (qr, .inl (cR, n, .inl g))] U.heap ∧ va_K (dC, dI) vwCl [(cK, .int), (cR, .int)] U ∧ va_D (fun _ => True) [(h0, .inr (4, [.int lf, .int (nI mn), .ref qk, .ref qr])), (qk, .inl (cK, n, .inl f)), (qr, .inl (cR, n, .inl g))])) (va_Qi (fun (r : Int32) (_ : Unit) => True) (fun (_ : Unit) (t : State) => va_P (dC, dI) vwCl [(h0, .inr (4, [.int lf, .int (nI mn), .ref qk, .ref qr])), (qk, .inl (cK, n, .inl f)), (qr, .inl (cR, n, .inl g))] t.heap ∧ va_K (dC, dI) vwCl [(cK, .int), (cR, .int)] t ∧ va_D (va_A [(h0, .inr (4, [.int lf, .int (nI mn), .ref qk, .ref qr])), (qk, .inl (cK, n, .inl f)), (qr, .inl (cR, n, .inl g))] sz) [(h0, .inr (4, [.int lf, .int (nI mn), .ref qk, .ref qr])), (qk, .inl (cK, n, .inl f)), (qr, .inl (cR, n, .inl g))]) (va_A [(h0, .inr (4, [.int lf, .int (nI mn), .ref qk, .ref qr])), (qk, .inl (cK, n, .inl f)), (qr, .inl (cR, n, .inl g))] sz)) 0 0 (va_A [(h0, .inr (4, [.int lf, .int (nI mn), .ref qk, .ref qr])), (qk, .inl (cK, n, .inl f)), (qr, .inl (cR, n, .inl g))] sz) := by
  refine Met.ofW (cc := cX4_valuesBetween) (maxL := 5) (ret := (some .int)) (by decide) rfl ?_
  intro p e s m args below meth c s₁ B hml hv
  obtain ⟨rfl, hsz, hP, hK, hD0⟩ := hv
  have hx := B.exec
  have hb := B.bytes
  have hr := B.returns
  have hts := atoms_spec (ws := v_X4_valuesBetween) B.pre
  have hown : s.vm.findClass RX4 = some m.cls := findClass_of_methodNamed B.named
  have hlocks := B.notSynchronized
  subst hsz
  have hD := hD0.self (sz := s.heap.size)
  generalize hAe : va_A [(h0, .inr (4, [.int lf, .int (nI mn), .ref qk, .ref qr])), (qk, .inl (cK, n, .inl f)), (qr, .inl (cR, n, .inl g))] s.heap.size = A at hD ⊢
  have hA : ∀ q : Nat, s.heap.size ≤ q → A q := fun q h => by rw [← hAe]; exact Or.inr h
  have hS : va_S A s.heap s.heap [] := va_S.rf
  have hP : va_P (dC, dI) vwCl [(h0, .inr (4, [.int lf, .int (nI mn), .ref qk, .ref qr])), (qk, .inl (cK, n, .inl f)), (qr, .inl (cR, n, .inl g))] s.heap := hP
  have hl := lv_entry ([.ref h0, .int p0, .int p1]) (n := 5) (Nat.le_of_ble_eq_true rfl)
  rw [lg_entry_eq]
  generalize (lg_sl ([.ref h0, .int p0, .int p1]) ++ List.replicate (5 - (lg_sl ([.ref h0, .int p0, .int p1])).length) Slot.unset).toArray = ls at hl ⊢
  have hl : lv_has ls 5 [(0, .ref h0), (1, .int p0), (2, .int p1)] := hl
  have k_1 := (fun _ h => List.mem_cons_of_mem _ (List.mem_append_right _ (List.mem_append_left _ h)) : ∀ w ∈ wsX40, w ∈ v_X4_valuesBetween)
  have k_2 := hts (.fieldLink RX4 22 "TwinRoots$Page" "many" "I") (List.mem_of_getElem? (i := 1) rfl)
  refine lv_iconst (v := 0) hx hb dX4_valuesBetween_0 (by decide) ?_
  refine lv_istore_n (lv' := [(3, .int 0), (0, .ref h0), (1, .int p0), (2, .int p1)]) hx hb dX4_valuesBetween_1 rfl hl (by decide) rfl (fun ls hl => ?_)
  refine lv_iconst (v := 0) hx hb dX4_valuesBetween_2 (by decide) ?_
  refine lv_istore (lv' := [(4, .int 0), (3, .int 0), (0, .ref h0), (1, .int p0), (2, .int p1)]) hx hb dX4_valuesBetween_3 hl (by decide) rfl (fun ls hl => ?_)
  have loop_5 : ∀ (Q : State → Prop), (∀ (i : Nat) (sv : Int32) (H : Heap) (locs : List Loc) (ls : Array Slot), i ≤ mn → va_P (dC, dI) vwCl [(h0, .inr (4, [.int lf, .int (nI mn), .ref qk, .ref qr])), (qk, .inl (cK, n, .inl f)), (qr, .inl (cR, n, .inl g))] H → va_D A [(h0, .inr (4, [.int lf, .int (nI mn), .ref qk, .ref qr])), (qk, .inl (cK, n, .inl f)), (qr, .inl (cR, n, .inl g))] → va_S A s.heap H locs → lv_has ls 5 [(0, .ref h0), (1, .int p0), (2, .int p1), (3, .int sv), (4, .int (nI i))] → W p l e (headSpec v_X4_valuesBetween ({ frames := 1, cells := 0, slots := 0, locals := 21 } : Room)).room s m ([.ref h0, .int p0, .int p1] : List Value).toArray below meth c H locs 0 0 Q (F0 m 49 ls [])) → ∀ (nf i : Nat) (sv : Int32) (H : Heap) (locs : List Loc) (ls : Array Slot), i ≤ mn → mn + 1 ≤ i + nf → va_P (dC, dI) vwCl [(h0, .inr (4, [.int lf, .int (nI mn), .ref qk, .ref qr])), (qk, .inl (cK, n, .inl f)), (qr, .inl (cR, n, .inl g))] H → va_D A [(h0, .inr (4, [.int lf, .int (nI mn), .ref qk, .ref qr])), (qk, .inl (cK, n, .inl f)), (qr, .inl (cR, n, .inl g))] → va_S A s.heap H locs → lv_has ls 5 [(0, .ref h0), (1, .int p0), (2, .int p1), (3, .int sv), (4, .int (nI i))] → W p l e (headSpec v_X4_valuesBetween ({ frames := 1, cells := 0, slots := 0, locals := 21 } : Room)).room s m ([.ref h0, .int p0, .int p1] : List Value).toArray below meth c H locs 0 0 Q (F0 m 5 ls []) := by
    intro Q kx nf
    induction nf with
    | zero =>
      intro i sv H locs ls h1 h2
      exact absurd h2 (by omega)
    | succ nf ih =>
      intro i sv H locs ls hi hn hP hD hS hl
      refine lv_iload hx hb dX4_valuesBetween_5 (lv_at hl 4 rfl) ?_
      refine lv_aload_n hx hb dX4_valuesBetween_7 rfl (lv_at hl 0 rfl) ?_
      refine va_get (D := (dC, dI)) (ci := 4) (v := .int (nI mn)) (C := RX4) (T := TX4) (N := 4) hx hb hts k_1 hown hK hP 0 rfl rfl 1 (by decide) k_2 (fun _ h9 => h9) rfl dX4_valuesBetween_8 ?_
      refine lv_icmp_ge (tgt := 49) hx hb dX4_valuesBetween_11 (by decide) (fun c_1 => ?_) (fun c_1 => ?_)
      · exact kx i sv _ _ _ (by omega) hP hD hS (lv_sub hl [0, 1, 2, 3, 4] rfl)
      · have hlt : i < mn := Nat.lt_of_not_le (fun h => c_1 (nI_le h (by omega)))
        refine lv_aload_n hx hb dX4_valuesBetween_14 rfl (lv_at hl 0 rfl) ?_
        refine lv_iload hx hb dX4_valuesBetween_15 (lv_at hl 4 rfl) ?_
        have hPc := hP.sub (ws' := [(h0, .inr (4, [.int lf, .int (nI mn), .ref qk, .ref qr])), (qk, .inl (cK, n, .inl f)), (qr, .inl (cR, n, .inl g))]) [0, 1, 2] rfl
        have hDc := hD.sub (ws' := [(h0, .inr (4, [.int lf, .int (nI mn), .ref qk, .ref qr])), (qk, .inl (cK, n, .inl f)), (qr, .inl (cR, n, .inl g))]) [0, 1, 2] (by decide) rfl
        have hKc := hK.sub (tys' := [(cK, .int), (cR, .int)]) [0, 1] rfl
        have hFc := va_free (wc := [(h0, .inr (4, [.int lf, .int (nI mn), .ref qk, .ref qr])), (qk, .inl (cK, n, .inl f)), (qr, .inl (cR, n, .inl g))]) hD hS hA [0, 1, 2] rfl
        refine va_calli (va_runV (As := [.int (nI i)]) (rest := []) ⟨hx, hb, hml, hown, hts⟩ (c_X4_keyAt l dC dI H.size h0 qk qr n mn lf cK cR f g (nI i) (by first | assumption | omega | decide) (by first | assumption | omega | decide)) (cwV 1 hts g_X4_valuesBetween_X4_keyAt rfl rfl rfl (by decide +kernel) ⟨Nat.le_of_ble_eq_true rfl, Nat.le_of_ble_eq_true rfl⟩) ⟨fun a U g mk q => by obtain ⟨q0, q1, qP, qK, qD⟩ := q; exact ⟨q0, q1, qP, va_K.moved (u := U) (U := U.calling g mk a) (Vm.Alike.refl U.vm) qK, qD⟩, va_recv hKc hPc (ci := 4) (q0 := 0) rfl rfl, fun U hU hW => ⟨rfl, by rw [hU], by rw [hU]; exact hPc, va_K.moved hW.alike hKc, hDc.weaken (fun _ _ _ _ => trivial)⟩⟩ rfl rfl hl.1 rfl (lv_room (Nat.le_of_ble_eq_true rfl)) dX4_valuesBetween_17 ⟨(show 0 + 0 ≤ 0 by omega), (show 0 + 0 ≤ 0 by omega)⟩) hS (fun q _ h => hFc q h) hFc (fun r_2 u t H1 locs ht hvm hw hB hz1 hk1 hS => ?_)
        obtain ⟨hP1, hK1, hD1⟩ := hB
        rw [ht] at hP1
        have hK1 := va_K.moved hvm.symm hK1
        try dsimp only at hw
        obtain ⟨hP, hD⟩ := va_join (wr := []) (w1 := [(h0, .inr (4, [.int lf, .int (nI mn), .ref qk, .ref qr])), (qk, .inl (cK, n, .inl f)), (qr, .inl (cR, n, .inl g))]) hP hD [0, 1, 2] [] rfl rfl (by decide) (by decide) hk1 hFc hP1 hD1
        have hK := (hK.sub (tys' := []) [] rfl).app hK1
        generalize H1 = H at hP hS ⊢
        have hP : va_P (dC, dI) vwCl [(h0, .inr (4, [.int lf, .int (nI mn), .ref qk, .ref qr])), (qk, .inl (cK, n, .inl f)), (qr, .inl (cR, n, .inl g))] H := hP
        have hD : va_D A [(h0, .inr (4, [.int lf, .int (nI mn), .ref qk, .ref qr])), (qk, .inl (cK, n, .inl f)), (qr, .inl (cR, n, .inl g))] := hD
        have hK : va_K (dC, dI) vwCl [(cK, .int), (cR, .int)] s := hK
        have hw_r_2 := hw
        refine lv_iload_n hx hb dX4_valuesBetween_20 rfl (lv_at hl 1 rfl) ?_
        refine lv_icmp_lt (tgt := 43) hx hb dX4_valuesBetween_21 (by decide) (fun c_3 => ?_) (fun c_3 => ?_)
        · refine lv_iinc (v := (nI (i + 1))) (lv' := [(4, .int (nI (i + 1))), (0, .ref h0), (1, .int p0), (2, .int p1), (3, .int sv)]) hx hb dX4_valuesBetween_43 hl (k := 4) rfl (nI_1 i) (by decide) rfl (fun ls hl => ?_)
          refine lv_goto (tgt := 5) hx hb dX4_valuesBetween_46 (by decide) ?_
          exact ih (i + 1) sv _ _ _ (by omega) (by omega) hP hD hS (lv_sub hl [1, 2, 3, 4, 0] rfl)
        · refine lv_aload_n hx hb dX4_valuesBetween_24 rfl (lv_at hl 0 rfl) ?_
          refine lv_iload hx hb dX4_valuesBetween_25 (lv_at hl 4 rfl) ?_
          have hPc := hP.sub (ws' := [(h0, .inr (4, [.int lf, .int (nI mn), .ref qk, .ref qr])), (qk, .inl (cK, n, .inl f)), (qr, .inl (cR, n, .inl g))]) [0, 1, 2] rfl
          have hDc := hD.sub (ws' := [(h0, .inr (4, [.int lf, .int (nI mn), .ref qk, .ref qr])), (qk, .inl (cK, n, .inl f)), (qr, .inl (cR, n, .inl g))]) [0, 1, 2] (by decide) rfl
          have hKc := hK.sub (tys' := [(cK, .int), (cR, .int)]) [0, 1] rfl
          have hFc := va_free (wc := [(h0, .inr (4, [.int lf, .int (nI mn), .ref qk, .ref qr])), (qk, .inl (cK, n, .inl f)), (qr, .inl (cR, n, .inl g))]) hD hS hA [0, 1, 2] rfl
          refine va_calli (va_runV (As := [.int (nI i)]) (rest := []) ⟨hx, hb, hml, hown, hts⟩ (c_X4_keyAt l dC dI H.size h0 qk qr n mn lf cK cR f g (nI i) (by first | assumption | omega | decide) (by first | assumption | omega | decide)) (cwV 1 hts g_X4_valuesBetween_X4_keyAt rfl rfl rfl (by decide +kernel) ⟨Nat.le_of_ble_eq_true rfl, Nat.le_of_ble_eq_true rfl⟩) ⟨fun a U g mk q => by obtain ⟨q0, q1, qP, qK, qD⟩ := q; exact ⟨q0, q1, qP, va_K.moved (u := U) (U := U.calling g mk a) (Vm.Alike.refl U.vm) qK, qD⟩, va_recv hKc hPc (ci := 4) (q0 := 0) rfl rfl, fun U hU hW => ⟨rfl, by rw [hU], by rw [hU]; exact hPc, va_K.moved hW.alike hKc, hDc.weaken (fun _ _ _ _ => trivial)⟩⟩ rfl rfl hl.1 rfl (lv_room (Nat.le_of_ble_eq_true rfl)) dX4_valuesBetween_27 ⟨(show 0 + 0 ≤ 0 by omega), (show 0 + 0 ≤ 0 by omega)⟩) hS (fun q _ h => hFc q h) hFc (fun r_4 u t H1 locs ht hvm hw hB hz1 hk1 hS => ?_)
          obtain ⟨hP1, hK1, hD1⟩ := hB
          rw [ht] at hP1
          have hK1 := va_K.moved hvm.symm hK1
          try dsimp only at hw
          obtain ⟨hP, hD⟩ := va_join (wr := []) (w1 := [(h0, .inr (4, [.int lf, .int (nI mn), .ref qk, .ref qr])), (qk, .inl (cK, n, .inl f)), (qr, .inl (cR, n, .inl g))]) hP hD [0, 1, 2] [] rfl rfl (by decide) (by decide) hk1 hFc hP1 hD1
          have hK := (hK.sub (tys' := []) [] rfl).app hK1
          generalize H1 = H at hP hS ⊢
          have hP : va_P (dC, dI) vwCl [(h0, .inr (4, [.int lf, .int (nI mn), .ref qk, .ref qr])), (qk, .inl (cK, n, .inl f)), (qr, .inl (cR, n, .inl g))] H := hP
          have hD : va_D A [(h0, .inr (4, [.int lf, .int (nI mn), .ref qk, .ref qr])), (qk, .inl (cK, n, .inl f)), (qr, .inl (cR, n, .inl g))] := hD
          have hK : va_K (dC, dI) vwCl [(cK, .int), (cR, .int)] s := hK
          have hw_r_4 := hw
          refine lv_iload_n hx hb dX4_valuesBetween_30 rfl (lv_at hl 2 rfl) ?_
          refine lv_icmp_gt (tgt := 43) hx hb dX4_valuesBetween_31 (by decide) (fun c_5 => ?_) (fun c_5 => ?_)
          · refine lv_iinc (v := (nI (i + 1))) (lv' := [(4, .int (nI (i + 1))), (0, .ref h0), (1, .int p0), (2, .int p1), (3, .int sv)]) hx hb dX4_valuesBetween_43 hl (k := 4) rfl (nI_1 i) (by decide) rfl (fun ls hl => ?_)
            refine lv_goto (tgt := 5) hx hb dX4_valuesBetween_46 (by decide) ?_
            exact ih (i + 1) sv _ _ _ (by omega) (by omega) hP hD hS (lv_sub hl [1, 2, 3, 4, 0] rfl)
          · refine lv_iload_n hx hb dX4_valuesBetween_34 rfl (lv_at hl 3 rfl) ?_
            refine lv_aload_n hx hb dX4_valuesBetween_35 rfl (lv_at hl 0 rfl) ?_
            refine lv_iload hx hb dX4_valuesBetween_36 (lv_at hl 4 rfl) ?_
            have hPc := hP.sub (ws' := [(h0, .inr (4, [.int lf, .int (nI mn), .ref qk, .ref qr])), (qk, .inl (cK, n, .inl f)), (qr, .inl (cR, n, .inl g))]) [0, 1, 2] rfl
            have hDc := hD.sub (ws' := [(h0, .inr (4, [.int lf, .int (nI mn), .ref qk, .ref qr])), (qk, .inl (cK, n, .inl f)), (qr, .inl (cR, n, .inl g))]) [0, 1, 2] (by decide) rfl
            have hKc := hK.sub (tys' := [(cK, .int), (cR, .int)]) [0, 1] rfl
            have hFc := va_free (wc := [(h0, .inr (4, [.int lf, .int (nI mn), .ref qk, .ref qr])), (qk, .inl (cK, n, .inl f)), (qr, .inl (cR, n, .inl g))]) hD hS hA [0, 1, 2] rfl
            refine va_calli (va_runV (As := [.int (nI i)]) (rest := [.int sv]) ⟨hx, hb, hml, hown, hts⟩ (c_X4_refAt l dC dI H.size h0 qk qr n mn lf cK cR f g (nI i) (by first | assumption | omega | decide) (by first | assumption | omega | decide)) (cwV 1 hts g_X4_valuesBetween_X4_refAt rfl rfl rfl (by decide +kernel) ⟨Nat.le_of_ble_eq_true rfl, Nat.le_of_ble_eq_true rfl⟩) ⟨fun a U g mk q => by obtain ⟨q0, q1, qP, qK, qD⟩ := q; exact ⟨q0, q1, qP, va_K.moved (u := U) (U := U.calling g mk a) (Vm.Alike.refl U.vm) qK, qD⟩, va_recv hKc hPc (ci := 4) (q0 := 0) rfl rfl, fun U hU hW => ⟨rfl, by rw [hU], by rw [hU]; exact hPc, va_K.moved hW.alike hKc, hDc.weaken (fun _ _ _ _ => trivial)⟩⟩ rfl rfl hl.1 rfl (lv_room (Nat.le_of_ble_eq_true rfl)) dX4_valuesBetween_38 ⟨(show 0 + 0 ≤ 0 by omega), (show 0 + 0 ≤ 0 by omega)⟩) hS (fun q _ h => hFc q h) hFc (fun r_6 u t H1 locs ht hvm hw hB hz1 hk1 hS => ?_)
            obtain ⟨hP1, hK1, hD1⟩ := hB
            rw [ht] at hP1
            have hK1 := va_K.moved hvm.symm hK1
            try dsimp only at hw
            obtain ⟨hP, hD⟩ := va_join (wr := []) (w1 := [(h0, .inr (4, [.int lf, .int (nI mn), .ref qk, .ref qr])), (qk, .inl (cK, n, .inl f)), (qr, .inl (cR, n, .inl g))]) hP hD [0, 1, 2] [] rfl rfl (by decide) (by decide) hk1 hFc hP1 hD1
            have hK := (hK.sub (tys' := []) [] rfl).app hK1
            generalize H1 = H at hP hS ⊢
            have hP : va_P (dC, dI) vwCl [(h0, .inr (4, [.int lf, .int (nI mn), .ref qk, .ref qr])), (qk, .inl (cK, n, .inl f)), (qr, .inl (cR, n, .inl g))] H := hP
            have hD : va_D A [(h0, .inr (4, [.int lf, .int (nI mn), .ref qk, .ref qr])), (qk, .inl (cK, n, .inl f)), (qr, .inl (cR, n, .inl g))] := hD
            have hK : va_K (dC, dI) vwCl [(cK, .int), (cR, .int)] s := hK
            have hw_r_6 := hw
            refine lv_iadd hx hb dX4_valuesBetween_41 ?_
            refine lv_topi (fun z_7 _ => ?_)
            refine lv_istore_n (lv' := [(3, .int z_7), (0, .ref h0), (1, .int p0), (2, .int p1), (4, .int (nI i))]) hx hb dX4_valuesBetween_42 rfl hl (by decide) rfl (fun ls hl => ?_)
            refine lv_iinc (v := (nI (i + 1))) (lv' := [(4, .int (nI (i + 1))), (3, .int z_7), (0, .ref h0), (1, .int p0), (2, .int p1)]) hx hb dX4_valuesBetween_43 hl (k := 4) rfl (nI_1 i) (by decide) rfl (fun ls hl => ?_)
            refine lv_goto (tgt := 5) hx hb dX4_valuesBetween_46 (by decide) ?_
            exact ih (i + 1) z_7 _ _ _ (by omega) (by omega) hP hD hS (lv_sub hl [2, 3, 4, 1, 0] rfl)
  refine loop_5 _ (fun i sv H locs ls hi hP hD hS hl => ?_) (mn + 1) 0 0 _ _ _ (by omega) (by omega) hP hD hS (lv_sub hl [2, 3, 4, 1, 0] rfl)
  refine lv_iload_n hx hb dX4_valuesBetween_49 rfl (lv_at hl 3 rfl) ?_
  have hP9 := hP.sub (ws' := [(h0, .inr (4, [.int lf, .int (nI mn), .ref qk, .ref qr])), (qk, .inl (cK, n, .inl f)), (qr, .inl (cR, n, .inl g))]) [0, 1, 2] rfl
  have hD9 := hD.sub (ws' := [(h0, .inr (4, [.int lf, .int (nI mn), .ref qk, .ref qr])), (qk, .inl (cK, n, .inl f)), (qr, .inl (cR, n, .inl g))]) [0, 1, 2] (by decide) rfl
  have hK9 := hK.sub (tys' := [(cK, .int), (cR, .int)]) [0, 1] rfl
  exact W.iret (v := sv) hx hb hr (fun t ht hW => ⟨⟨sv, (), rfl, trivial, by rw [ht]; exact hP9, va_K.moved hW.alike hK9, hD9⟩, hS.F ht⟩) hS.2.2 dX4_valuesBetween_50
def v_X4_firstKeyWord : List Cond := .code yX4_firstKeyWord cX4_firstKeyWord 1 (some .int) :: ([.fieldLink RX4 9 "TwinRoots$Page" "leaf" "Z"] ++ (wsX40 ++ ([])))
set_option maxHeartbeats 4000000 in
set_option maxRecDepth 100000 in
/-- firstKeyWord -/
theorem c_X4_firstKeyWord (l : Launch) (dC : Nat → ClassId) (dI : Nat → Nat → Nat) (sz : Nat) (h0 : Nat) (qk : Nat) (qr : Nat) (mn : Nat) (lf : Int32) : Met l yX4_firstKeyWord v_X4_firstKeyWord ({ frames := 0, cells := 0, slots := 0, locals := 0 } : Room) (va_Pc [.ref h0] (fun U => U.heap.size = sz ∧ va_P (dC, dI) vwCl [(h0, .inr (4, [.int lf, .int (nI mn), .ref qk, .ref qr]))] U.heap ∧ va_K (dC, dI) vwCl [] U ∧ va_D (fun _ => True) [(h0, .inr (4, [.int lf, .int (nI mn), .ref qk, .ref qr]))])) (va_Qi (fun (r : Int32) (_ : Unit) => r = 1 ∨ r = 2) (fun (_ : Unit) (t : State) => va_P (dC, dI) vwCl [(h0, .inr (4, [.int lf, .int (nI mn), .ref qk, .ref qr]))] t.heap ∧ va_K (dC, dI) vwCl [] t ∧ va_D (va_A [(h0, .inr (4, [.int lf, .int (nI mn), .ref qk, .ref qr]))] sz) [(h0, .inr (4, [.int lf, .int (nI mn), .ref qk, .ref qr]))]) (va_A [(h0, .inr (4, [.int lf, .int (nI mn), .ref qk, .ref qr]))] sz)) 0 0 (va_A [(h0, .inr (4, [.int lf, .int (nI mn), .ref qk, .ref qr]))] sz) := by
  refine Met.ofW (cc := cX4_firstKeyWord) (maxL := 1) (ret := (some .int)) (by decide) rfl ?_
  intro p e s m args below meth c s₁ B hml hv
  obtain ⟨rfl, hsz, hP, hK, hD0⟩ := hv
  have hx := B.exec
  have hb := B.bytes
  have hr := B.returns
  have hts := atoms_spec (ws := v_X4_firstKeyWord) B.pre
  have hown : s.vm.findClass RX4 = some m.cls := findClass_of_methodNamed B.named
  have hlocks := B.notSynchronized
  subst hsz
  have hD := hD0.self (sz := s.heap.size)
  generalize hAe : va_A [(h0, .inr (4, [.int lf, .int (nI mn), .ref qk, .ref qr]))] s.heap.size = A at hD ⊢
  have hA : ∀ q : Nat, s.heap.size ≤ q → A q := fun q h => by rw [← hAe]; exact Or.inr h
  have hS : va_S A s.heap s.heap [] := va_S.rf
  have hP : va_P (dC, dI) vwCl [(h0, .inr (4, [.int lf, .int (nI mn), .ref qk, .ref qr]))] s.heap := hP
  have hl := lv_entry ([.ref h0]) (n := 1) (Nat.le_of_ble_eq_true rfl)
  rw [lg_entry_eq]
  generalize (lg_sl ([.ref h0]) ++ List.replicate (1 - (lg_sl ([.ref h0])).length) Slot.unset).toArray = ls at hl ⊢
  have hl : lv_has ls 1 [(0, .ref h0)] := hl
  have k_1 := (fun _ h => List.mem_cons_of_mem _ (List.mem_append_right _ (List.mem_append_left _ h)) : ∀ w ∈ wsX40, w ∈ v_X4_firstKeyWord)
  have k_2 := hts (.fieldLink RX4 9 "TwinRoots$Page" "leaf" "Z") (List.mem_of_getElem? (i := 1) rfl)
  refine lv_aload_n hx hb dX4_firstKeyWord_0 rfl (lv_at hl 0 rfl) ?_
  refine va_get (D := (dC, dI)) (ci := 4) (v := .int lf) (C := RX4) (T := TX4) (N := 4) hx hb hts k_1 hown hK hP 0 rfl rfl 0 (by decide) k_2 (fun _ h9 => h9) rfl dX4_firstKeyWord_1 ?_
  refine lv_if_eq (tgt := 11) hx hb dX4_firstKeyWord_4 (by decide) (fun c_1 => ?_) (fun c_1 => ?_)
  · refine lv_iconst (v := 1) hx hb dX4_firstKeyWord_11 (by decide) ?_
    have hP9 := hP.sub (ws' := [(h0, .inr (4, [.int lf, .int (nI mn), .ref qk, .ref qr]))]) [0] rfl
    have hD9 := hD.sub (ws' := [(h0, .inr (4, [.int lf, .int (nI mn), .ref qk, .ref qr]))]) [0] (by decide) rfl
    have hK9 := hK.sub (tys' := []) [] rfl
    exact W.iret (v := 1) hx hb hr (fun t ht hW => ⟨⟨1, (), rfl, Or.inl rfl, by rw [ht]; exact hP9, va_K.moved hW.alike hK9, hD9⟩, hS.F ht⟩) hS.2.2 dX4_firstKeyWord_12
  · refine lv_iconst (v := 2) hx hb dX4_firstKeyWord_7 (by decide) ?_
    refine lv_goto (tgt := 12) hx hb dX4_firstKeyWord_8 (by decide) ?_
    have hP9 := hP.sub (ws' := [(h0, .inr (4, [.int lf, .int (nI mn), .ref qk, .ref qr]))]) [0] rfl
    have hD9 := hD.sub (ws' := [(h0, .inr (4, [.int lf, .int (nI mn), .ref qk, .ref qr]))]) [0] (by decide) rfl
    have hK9 := hK.sub (tys' := []) [] rfl
    exact W.iret (v := 2) hx hb hr (fun t ht hW => ⟨⟨2, (), rfl, Or.inr rfl, by rw [ht]; exact hP9, va_K.moved hW.alike hK9, hD9⟩, hS.F ht⟩) hS.2.2 dX4_firstKeyWord_12
def v_X4_takeOut : List Cond := .code yX4_takeOut cX4_takeOut 3 none :: ([.fieldLink RX4 22 "TwinRoots$Page" "many" "I", .code yX4_keyAt cX4_keyAt 2 (some .int), .fieldLink RX4 15 "TwinRoots$Page" "keys" "[I", .methodLink RX4 34 yX4_keyAt, .instanceMethod yX4_keyAt, .selects RX4 yX4_keyAt yX4_keyAt, .initialized RX4, .code yX4_setKey cX4_setKey 3 none, .methodLink RX4 41 yX4_setKey, .instanceMethod yX4_setKey, .selects RX4 yX4_setKey yX4_setKey, .code yX4_refAt cX4_refAt 2 (some .int), .fieldLink RX4 19 "TwinRoots$Page" "refs" "[I", .methodLink RX4 38 yX4_refAt, .instanceMethod yX4_refAt, .selects RX4 yX4_refAt yX4_refAt, .code yX4_setRef cX4_setRef 3 none, .methodLink RX4 45 yX4_setRef, .instanceMethod yX4_setRef, .selects RX4 yX4_setRef yX4_setRef] ++ (wsX40 ++ ([])))
set_option maxRecDepth 20000 in
theorem g_X4_takeOut_X4_keyAt : GoodIn v_X4_takeOut (wsV RX4 34 RX4 yX4_keyAt v_X4_keyAt) := goodIn_r _ [4, 5, 6, 7, 2, 1, 3, 21, 22, 23, 24] (by decide +kernel) (by decide +kernel)
set_option maxRecDepth 20000 in
theorem g_X4_takeOut_X4_setKey : GoodIn v_X4_takeOut (wsV RX4 41 RX4 yX4_setKey v_X4_setKey) := goodIn_r _ [9, 10, 11, 7, 8, 1, 3, 21, 22, 23, 24] (by decide +kernel) (by decide +kernel)
set_option maxRecDepth 20000 in
theorem g_X4_takeOut_X4_refAt : GoodIn v_X4_takeOut (wsV RX4 38 RX4 yX4_refAt v_X4_refAt) := goodIn_r _ [14, 15, 16, 7, 12, 1, 13, 21, 22, 23, 24] (by decide +kernel) (by decide +kernel)
set_option maxRecDepth 20000 in
theorem g_X4_takeOut_X4_setRef : GoodIn v_X4_takeOut (wsV RX4 45 RX4 yX4_setRef v_X4_setRef) := goodIn_r _ [18, 19, 20, 7, 17, 1, 13, 21, 22, 23, 24] (by decide +kernel) (by decide +kernel)
set_option maxHeartbeats 4000000 in
set_option maxRecDepth 100000 in
/-- takeOut -/
theorem c_X4_takeOut (l : Launch) (dC : Nat → ClassId) (dI : Nat → Nat → Nat) (sz : Nat) (h0 : Nat) (qk : Nat) (qr : Nat) (n : Nat) (mn : Nat) (lf : Int32) (cK : ClassId) (cR : ClassId) (f : Nat → Int32) (g : Nat → Int32) (i0 : Nat) (zn : n ≤ 40) (zm : mn ≤ n) (zi : i0 < 2 ^ 31) : Met l yX4_takeOut v_X4_takeOut ({ frames := 1, cells := 0, slots := 0, locals := 22 } : Room) (va_Pc [.ref h0, .int (nI i0)] (fun U => U.heap.size = sz ∧ va_P (dC, dI) vwCl [(h0, .inr (4, [.int lf, .int (nI mn), .ref qk, .ref qr])), (qk, .inl (cK, n, .inl f)), (qr, .inl (cR, n, .inl g))] U.heap ∧ va_K (dC, dI) vwCl [(cK, .int), (cR, .int)] U ∧ va_D (fun _ => True) [(h0, .inr (4, [.int lf, .int (nI mn), .ref qk, .ref qr])), (qk, .inl (cK, n, .inl f)), (qr, .inl (cR, n, .inl g))])) (va_Qv (fun (u : Nat × (Nat → Int32) × (Nat → Int32)) => match u with | (m2, f2, g2) => m2 ≤ n) (fun (u : Nat × (Nat → Int32) × (Nat → Int32)) (t : State) => match u with | (m2, f2, g2) => va_P (dC, dI) vwCl [(h0, .inr (4, [.int lf, .int (nI m2), .ref qk, .ref qr])), (qk, .inl (cK, n, .inl f2)), (qr, .inl (cR, n, .inl g2))] t.heap ∧ va_K (dC, dI) vwCl [(cK, .int), (cR, .int)] t ∧ va_D (va_A [(h0, .inr (4, [.int lf, .int (nI mn), .ref qk, .ref qr])), (qk, .inl (cK, n, .inl f)), (qr, .inl (cR, n, .inl g))] sz) [(h0, .inr (4, [.int lf, .int (nI m2), .ref qk, .ref qr])), (qk, .inl (cK, n, .inl f2)), (qr, .inl (cR, n, .inl g2))]) (va_A [(h0, .inr (4, [.int lf, .int (nI mn), .ref qk, .ref qr])), (qk, .inl (cK, n, .inl f)), (qr, .inl (cR, n, .inl g))] sz)) 0 0 (va_A [(h0, .inr (4, [.int lf, .int (nI mn), .ref qk, .ref qr])), (qk, .inl (cK, n, .inl f)), (qr, .inl (cR, n, .inl g))] sz) := by
  refine Met.ofW (cc := cX4_takeOut) (maxL := 3) (ret := none) (by decide) rfl ?_
  intro p e s m args below meth c s₁ B hml hv
  obtain ⟨rfl, hsz, hP, hK, hD0⟩ := hv
  have hx := B.exec
  have hb := B.bytes
  have hr := B.returns
  have hts := atoms_spec (ws := v_X4_takeOut) B.pre
  have hown : s.vm.findClass RX4 = some m.cls := findClass_of_methodNamed B.named
  have hlocks := B.notSynchronized
  subst hsz
  have hD := hD0.self (sz := s.heap.size)
  generalize hAe : va_A [(h0, .inr (4, [.int lf, .int (nI mn), .ref qk, .ref qr])), (qk, .inl (cK, n, .inl f)), (qr, .inl (cR, n, .inl g))] s.heap.size = A at hD ⊢
  have hA : ∀ q : Nat, s.heap.size ≤ q → A q := fun q h => by rw [← hAe]; exact Or.inr h
  have hS : va_S A s.heap s.heap [] := va_S.rf
  have hP : va_P (dC, dI) vwCl [(h0, .inr (4, [.int lf, .int (nI mn), .ref qk, .ref qr])), (qk, .inl (cK, n, .inl f)), (qr, .inl (cR, n, .inl g))] s.heap := hP
  have hl := lv_entry ([.ref h0, .int (nI i0)]) (n := 3) (Nat.le_of_ble_eq_true rfl)
  rw [lg_entry_eq]
  generalize (lg_sl ([.ref h0, .int (nI i0)]) ++ List.replicate (3 - (lg_sl ([.ref h0, .int (nI i0)])).length) Slot.unset).toArray = ls at hl ⊢
  have hl : lv_has ls 3 [(0, .ref h0), (1, .int (nI i0))] := hl
  have k_1 := (fun _ h => List.mem_cons_of_mem _ (List.mem_append_right _ (List.mem_append_left _ h)) : ∀ w ∈ wsX40, w ∈ v_X4_takeOut)
  have k_2 := hts (.fieldLink RX4 22 "TwinRoots$Page" "many" "I") (List.mem_of_getElem? (i := 1) rfl)
  refine lv_iload_n hx hb dX4_takeOut_0 rfl (lv_at hl 1 rfl) ?_
  refine lv_if_lt (tgt := 12) hx hb dX4_takeOut_1 (by decide) (fun c_1 => ?_) (fun c_1 => ?_)
  · exact absurd c_1 (nI_pos (by omega))
  refine lv_iload_n hx hb dX4_takeOut_4 rfl (lv_at hl 1 rfl) ?_
  refine lv_aload_n hx hb dX4_takeOut_5 rfl (lv_at hl 0 rfl) ?_
  refine va_get (D := (dC, dI)) (ci := 4) (v := .int (nI mn)) (C := RX4) (T := TX4) (N := 4) hx hb hts k_1 hown hK hP 0 rfl rfl 1 (by decide) k_2 (fun _ h9 => h9) rfl dX4_takeOut_6 ?_
  refine lv_icmp_lt (tgt := 13) hx hb dX4_takeOut_9 (by decide) (fun c_2 => ?_) (fun c_2 => ?_)
  · have hq : i0 < mn := (nI_ltI (by omega) (by omega)).mp c_2
    refine lv_iload_n hx hb dX4_takeOut_13 rfl (lv_at hl 1 rfl) ?_
    refine lv_istore_n (lv' := [(2, .int (nI i0)), (0, .ref h0), (1, .int (nI i0))]) hx hb dX4_takeOut_14 rfl hl (by decide) rfl (fun ls hl => ?_)
    have loop_15 : ∀ (Q : State → Prop), (∀ (i : Nat) (fv : Nat → Int32) (gv : Nat → Int32) (H : Heap) (locs : List Loc) (ls : Array Slot), i ≤ mn → va_P (dC, dI) vwCl [(h0, .inr (4, [.int lf, .int (nI mn), .ref qk, .ref qr])), (qk, .inl (cK, n, .inl fv)), (qr, .inl (cR, n, .inl gv))] H → va_D A [(h0, .inr (4, [.int lf, .int (nI mn), .ref qk, .ref qr])), (qk, .inl (cK, n, .inl fv)), (qr, .inl (cR, n, .inl gv))] → va_S A s.heap H locs → lv_has ls 3 [(0, .ref h0), (1, .int (nI i0)), (2, .int (nI i))] → W p l e (headSpec v_X4_takeOut ({ frames := 1, cells := 0, slots := 0, locals := 22 } : Room)).room s m ([.ref h0, .int (nI i0)] : List Value).toArray below meth c H locs 0 0 Q (F0 m 55 ls [])) → ∀ (nf i : Nat) (fv : Nat → Int32) (gv : Nat → Int32) (H : Heap) (locs : List Loc) (ls : Array Slot), i ≤ mn → mn + 1 ≤ i + nf → va_P (dC, dI) vwCl [(h0, .inr (4, [.int lf, .int (nI mn), .ref qk, .ref qr])), (qk, .inl (cK, n, .inl fv)), (qr, .inl (cR, n, .inl gv))] H → va_D A [(h0, .inr (4, [.int lf, .int (nI mn), .ref qk, .ref qr])), (qk, .inl (cK, n, .inl fv)), (qr, .inl (cR, n, .inl gv))] → va_S A s.heap H locs → lv_has ls 3 [(0, .ref h0), (1, .int (nI i0)), (2, .int (nI i))] → W p l e (headSpec v_X4_takeOut ({ frames := 1, cells := 0, slots := 0, locals := 22 } : Room)).room s m ([.ref h0, .int (nI i0)] : List Value).toArray below meth c H locs 0 0 Q (F0 m 15 ls []) := by
      intro Q kx nf
      induction nf with
      | zero =>
        intro i fv gv H locs ls h1 h2
        exact absurd h2 (by omega)
      | succ nf ih =>
        intro i fv gv H locs ls hi hn hP hD hS hl
        refine lv_iload_n hx hb dX4_takeOut_15 rfl (lv_at hl 2 rfl) ?_
        refine lv_aload_n hx hb dX4_takeOut_16 rfl (lv_at hl 0 rfl) ?_
        refine va_get (D := (dC, dI)) (ci := 4) (v := .int (nI mn)) (C := RX4) (T := TX4) (N := 4) hx hb hts k_1 hown hK hP 0 rfl rfl 1 (by decide) k_2 (fun _ h9 => h9) rfl dX4_takeOut_17 ?_
        refine lv_iconst (v := 1) hx hb dX4_takeOut_20 (by decide) ?_
        refine lv_isub hx hb dX4_takeOut_21 ?_
        refine lv_topi (fun z_3 ez_3 => ?_)
        obtain rfl : z_3 = nI (mn - 1) := ez_3.trans (pk_sub (a := mn) (b := 1) (by omega))
        refine lv_icmp_ge (tgt := 55) hx hb dX4_takeOut_22 (by decide) (fun c_4 => ?_) (fun c_4 => ?_)
        · exact kx i fv gv _ _ _ (by omega) hP hD hS (lv_sub hl [0, 1, 2] rfl)
        · have hlt : i < mn - 1 := Nat.lt_of_not_le (fun h => c_4 (nI_le h (by omega)))
          refine lv_aload_n hx hb dX4_takeOut_25 rfl (lv_at hl 0 rfl) ?_
          refine lv_iload_n hx hb dX4_takeOut_26 rfl (lv_at hl 2 rfl) ?_
          refine lv_aload_n hx hb dX4_takeOut_27 rfl (lv_at hl 0 rfl) ?_
          refine lv_iload_n hx hb dX4_takeOut_28 rfl (lv_at hl 2 rfl) ?_
          refine lv_iconst (v := 1) hx hb dX4_takeOut_29 (by decide) ?_
          refine lv_iadd hx hb dX4_takeOut_30 ?_
          refine lv_topi (fun z_5 ez_5 => ?_)
          obtain rfl : z_5 = nI (i + 1) := ez_5.trans (nI_1 i)
          have hPc := hP.sub (ws' := [(h0, .inr (4, [.int lf, .int (nI mn), .ref qk, .ref qr])), (qk, .inl (cK, n, .inl fv)), (qr, .inl (cR, n, .inl gv))]) [0, 1, 2] rfl
          have hDc := hD.sub (ws' := [(h0, .inr (4, [.int lf, .int (nI mn), .ref qk, .ref qr])), (qk, .inl (cK, n, .inl fv)), (qr, .inl (cR, n, .inl gv))]) [0, 1, 2] (by decide) rfl
          have hKc := hK.sub (tys' := [(cK, .int), (cR, .int)]) [0, 1] rfl
          have hFc := va_free (wc := [(h0, .inr (4, [.int lf, .int (nI mn), .ref qk, .ref qr])), (qk, .inl (cK, n, .inl fv)), (qr, .inl (cR, n, .inl gv))]) hD hS hA [0, 1, 2] rfl
          refine va_calli (va_runV (As := [.int (nI (i + 1))]) (rest := [.int (nI i), .ref h0]) ⟨hx, hb, hml, hown, hts⟩ (c_X4_keyAt l dC dI H.size h0 qk qr n mn lf cK cR fv gv (nI (i + 1)) (by first | assumption | omega | decide) (by first | assumption | omega | decide)) (cwV 1 hts g_X4_takeOut_X4_keyAt rfl rfl rfl (by decide +kernel) ⟨Nat.le_of_ble_eq_true rfl, Nat.le_of_ble_eq_true rfl⟩) ⟨fun a U g mk q => by obtain ⟨q0, q1, qP, qK, qD⟩ := q; exact ⟨q0, q1, qP, va_K.moved (u := U) (U := U.calling g mk a) (Vm.Alike.refl U.vm) qK, qD⟩, va_recv hKc hPc (ci := 4) (q0 := 0) rfl rfl, fun U hU hW => ⟨rfl, by rw [hU], by rw [hU]; exact hPc, va_K.moved hW.alike hKc, hDc.weaken (fun _ _ _ _ => trivial)⟩⟩ rfl rfl hl.1 rfl (lv_room (Nat.le_of_ble_eq_true rfl)) dX4_takeOut_31 ⟨(show 0 + 0 ≤ 0 by omega), (show 0 + 0 ≤ 0 by omega)⟩) hS (fun q _ h => hFc q h) hFc (fun r_6 u t H1 locs ht hvm hw hB hz1 hk1 hS => ?_)
          obtain ⟨hP1, hK1, hD1⟩ := hB
          rw [ht] at hP1
          have hK1 := va_K.moved hvm.symm hK1
          try dsimp only at hw
          obtain ⟨hP, hD⟩ := va_join (wr := []) (w1 := [(h0, .inr (4, [.int lf, .int (nI mn), .ref qk, .ref qr])), (qk, .inl (cK, n, .inl fv)), (qr, .inl (cR, n, .inl gv))]) hP hD [0, 1, 2] [] rfl rfl (by decide) (by decide) hk1 hFc hP1 hD1
          have hK := (hK.sub (tys' := []) [] rfl).app hK1
          generalize H1 = H at hP hS ⊢
          have hP : va_P (dC, dI) vwCl [(h0, .inr (4, [.int lf, .int (nI mn), .ref qk, .ref qr])), (qk, .inl (cK, n, .inl fv)), (qr, .inl (cR, n, .inl gv))] H := hP
          have hD : va_D A [(h0, .inr (4, [.int lf, .int (nI mn), .ref qk, .ref qr])), (qk, .inl (cK, n, .inl fv)), (qr, .inl (cR, n, .inl gv))] := hD
          have hK : va_K (dC, dI) vwCl [(cK, .int), (cR, .int)] s := hK
          have hw_r_6 := hw
          have hPc := hP.sub (ws' := [(h0, .inr (4, [.int lf, .int (nI mn), .ref qk, .ref qr])), (qk, .inl (cK, n, .inl fv)), (qr, .inl (cR, n, .inl gv))]) [0, 1, 2] rfl
          have hDc := hD.sub (ws' := [(h0, .inr (4, [.int lf, .int (nI mn), .ref qk, .ref qr])), (qk, .inl (cK, n, .inl fv)), (qr, .inl (cR, n, .inl gv))]) [0, 1, 2] (by decide) rfl
          have hKc := hK.sub (tys' := [(cK, .int), (cR, .int)]) [0, 1] rfl
          have hFc := va_free (wc := [(h0, .inr (4, [.int lf, .int (nI mn), .ref qk, .ref qr])), (qk, .inl (cK, n, .inl fv)), (qr, .inl (cR, n, .inl gv))]) hD hS hA [0, 1, 2] rfl
          refine va_callv (va_runV (As := [.int (nI i), .int r_6]) (rest := []) ⟨hx, hb, hml, hown, hts⟩ (c_X4_setKey l dC dI H.size h0 qk qr n mn lf cK cR fv gv (nI i) r_6 (by first | assumption | omega | decide) (by first | assumption | omega | decide)) (cwV 2 hts g_X4_takeOut_X4_setKey rfl rfl rfl (by decide +kernel) ⟨Nat.le_of_ble_eq_true rfl, Nat.le_of_ble_eq_true rfl⟩) ⟨fun a U g mk q => by obtain ⟨q0, q1, qP, qK, qD⟩ := q; exact ⟨q0, q1, qP, va_K.moved (u := U) (U := U.calling g mk a) (Vm.Alike.refl U.vm) qK, qD⟩, va_recv hKc hPc (ci := 4) (q0 := 0) rfl rfl, fun U hU hW => ⟨rfl, by rw [hU], by rw [hU]; exact hPc, va_K.moved hW.alike hKc, hDc.weaken (fun _ _ _ _ => trivial)⟩⟩ rfl rfl hl.1 rfl (lv_room (Nat.le_of_ble_eq_true rfl)) dX4_takeOut_34 ⟨(show 0 + 0 ≤ 0 by omega), (show 0 + 0 ≤ 0 by omega)⟩) hS (fun q _ h => hFc q h) hFc (fun u t H1 locs ht hvm hw hB hz1 hk1 hS => ?_)
          obtain ⟨f2_8, rfl⟩ : ∃ z, z = u := ⟨_, rfl⟩
          obtain ⟨hP1, hK1, hD1⟩ := hB
          rw [ht] at hP1
          have hK1 := va_K.moved hvm.symm hK1
          try dsimp only at hw
          obtain ⟨hP, hD⟩ := va_join (wr := []) (w1 := [(h0, .inr (4, [.int lf, .int (nI mn), .ref qk, .ref qr])), (qk, .inl (cK, n, .inl f2_8)), (qr, .inl (cR, n, .inl gv))]) hP hD [0, 1, 2] [] rfl rfl (by decide) (by decide) hk1 hFc hP1 hD1
          have hK := (hK.sub (tys' := []) [] rfl).app hK1
          generalize H1 = H at hP hS ⊢
          have hP : va_P (dC, dI) vwCl [(h0, .inr (4, [.int lf, .int (nI mn), .ref qk, .ref qr])), (qk, .inl (cK, n, .inl f2_8)), (qr, .inl (cR, n, .inl gv))] H := hP
          have hD : va_D A [(h0, .inr (4, [.int lf, .int (nI mn), .ref qk, .ref qr])), (qk, .inl (cK, n, .inl f2_8)), (qr, .inl (cR, n, .inl gv))] := hD
          have hK : va_K (dC, dI) vwCl [(cK, .int), (cR, .int)] s := hK
          refine lv_aload_n hx hb dX4_takeOut_37 rfl (lv_at hl 0 rfl) ?_
          refine lv_iload_n hx hb dX4_takeOut_38 rfl (lv_at hl 2 rfl) ?_
          refine lv_aload_n hx hb dX4_takeOut_39 rfl (lv_at hl 0 rfl) ?_
          refine lv_iload_n hx hb dX4_takeOut_40 rfl (lv_at hl 2 rfl) ?_
          refine lv_iconst (v := 1) hx hb dX4_takeOut_41 (by decide) ?_
          refine lv_iadd hx hb dX4_takeOut_42 ?_
          refine lv_topi (fun z_9 ez_9 => ?_)
          obtain rfl : z_9 = nI (i + 1) := ez_9.trans (nI_1 i)
          have hPc := hP.sub (ws' := [(h0, .inr (4, [.int lf, .int (nI mn), .ref qk, .ref qr])), (qk, .inl (cK, n, .inl f2_8)), (qr, .inl (cR, n, .inl gv))]) [0, 1, 2] rfl
          have hDc := hD.sub (ws' := [(h0, .inr (4, [.int lf, .int (nI mn), .ref qk, .ref qr])), (qk, .inl (cK, n, .inl f2_8)), (qr, .inl (cR, n, .inl gv))]) [0, 1, 2] (by decide) rfl
          have hKc := hK.sub (tys' := [(cK, .int), (cR, .int)]) [0, 1] rfl
          have hFc := va_free (wc := [(h0, .inr (4, [.int lf, .int (nI mn), .ref qk, .ref qr])), (qk, .inl (cK, n, .inl f2_8)), (qr, .inl (cR, n, .inl gv))]) hD hS hA [0, 1, 2] rfl
          refine va_calli (va_runV (As := [.int (nI (i + 1))]) (rest := [.int (nI i), .ref h0]) ⟨hx, hb, hml, hown, hts⟩ (c_X4_refAt l dC dI H.size h0 qk qr n mn lf cK cR f2_8 gv (nI (i + 1)) (by first | assumption | omega | decide) (by first | assumption | omega | decide)) (cwV 1 hts g_X4_takeOut_X4_refAt rfl rfl rfl (by decide +kernel) ⟨Nat.le_of_ble_eq_true rfl, Nat.le_of_ble_eq_true rfl⟩) ⟨fun a U g mk q => by obtain ⟨q0, q1, qP, qK, qD⟩ := q; exact ⟨q0, q1, qP, va_K.moved (u := U) (U := U.calling g mk a) (Vm.Alike.refl U.vm) qK, qD⟩, va_recv hKc hPc (ci := 4) (q0 := 0) rfl rfl, fun U hU hW => ⟨rfl, by rw [hU], by rw [hU]; exact hPc, va_K.moved hW.alike hKc, hDc.weaken (fun _ _ _ _ => trivial)⟩⟩ rfl rfl hl.1 rfl (lv_room (Nat.le_of_ble_eq_true rfl)) dX4_takeOut_43 ⟨(show 0 + 0 ≤ 0 by omega), (show 0 + 0 ≤ 0 by omega)⟩) hS (fun q _ h => hFc q h) hFc (fun r_10 u t H1 locs ht hvm hw hB hz1 hk1 hS => ?_)
          obtain ⟨hP1, hK1, hD1⟩ := hB
          rw [ht] at hP1
          have hK1 := va_K.moved hvm.symm hK1
          try dsimp only at hw
          obtain ⟨hP, hD⟩ := va_join (wr := []) (w1 := [(h0, .inr (4, [.int lf, .int (nI mn), .ref qk, .ref qr])), (qk, .inl (cK, n, .inl f2_8)), (qr, .inl (cR, n, .inl gv))]) hP hD [0, 1, 2] [] rfl rfl (by decide) (by decide) hk1 hFc hP1 hD1
          have hK := (hK.sub (tys' := []) [] rfl).app hK1
          generalize H1 = H at hP hS ⊢
          have hP : va_P (dC, dI) vwCl [(h0, .inr (4, [.int lf, .int (nI mn), .ref qk, .ref qr])), (qk, .inl (cK, n, .inl f2_8)), (qr, .inl (cR, n, .inl gv))] H := hP
          have hD : va_D A [(h0, .inr (4, [.int lf, .int (nI mn), .ref qk, .ref qr])), (qk, .inl (cK, n, .inl f2_8)), (qr, .inl (cR, n, .inl gv))] := hD
          have hK : va_K (dC, dI) vwCl [(cK, .int), (cR, .int)] s := hK
          have hw_r_10 := hw
          have hPc := hP.sub (ws' := [(h0, .inr (4, [.int lf, .int (nI mn), .ref qk, .ref qr])), (qk, .inl (cK, n, .inl f2_8)), (qr, .inl (cR, n, .inl gv))]) [0, 1, 2] rfl
          have hDc := hD.sub (ws' := [(h0, .inr (4, [.int lf, .int (nI mn), .ref qk, .ref qr])), (qk, .inl (cK, n, .inl f2_8)), (qr, .inl (cR, n, .inl gv))]) [0, 1, 2] (by decide) rfl
          have hKc := hK.sub (tys' := [(cK, .int), (cR, .int)]) [0, 1] rfl
          have hFc := va_free (wc := [(h0, .inr (4, [.int lf, .int (nI mn), .ref qk, .ref qr])), (qk, .inl (cK, n, .inl f2_8)), (qr, .inl (cR, n, .inl gv))]) hD hS hA [0, 1, 2] rfl
          refine va_callv (va_runV (As := [.int (nI i), .int r_10]) (rest := []) ⟨hx, hb, hml, hown, hts⟩ (c_X4_setRef l dC dI H.size h0 qk qr n mn lf cK cR f2_8 gv (nI i) r_10 (by first | assumption | omega | decide) (by first | assumption | omega | decide)) (cwV 2 hts g_X4_takeOut_X4_setRef rfl rfl rfl (by decide +kernel) ⟨Nat.le_of_ble_eq_true rfl, Nat.le_of_ble_eq_true rfl⟩) ⟨fun a U g mk q => by obtain ⟨q0, q1, qP, qK, qD⟩ := q; exact ⟨q0, q1, qP, va_K.moved (u := U) (U := U.calling g mk a) (Vm.Alike.refl U.vm) qK, qD⟩, va_recv hKc hPc (ci := 4) (q0 := 0) rfl rfl, fun U hU hW => ⟨rfl, by rw [hU], by rw [hU]; exact hPc, va_K.moved hW.alike hKc, hDc.weaken (fun _ _ _ _ => trivial)⟩⟩ rfl rfl hl.1 rfl (lv_room (Nat.le_of_ble_eq_true rfl)) dX4_takeOut_46 ⟨(show 0 + 0 ≤ 0 by omega), (show 0 + 0 ≤ 0 by omega)⟩) hS (fun q _ h => hFc q h) hFc (fun u t H1 locs ht hvm hw hB hz1 hk1 hS => ?_)
          obtain ⟨f2_12, rfl⟩ : ∃ z, z = u := ⟨_, rfl⟩
          obtain ⟨hP1, hK1, hD1⟩ := hB
          rw [ht] at hP1
          have hK1 := va_K.moved hvm.symm hK1
          try dsimp only at hw
          obtain ⟨hP, hD⟩ := va_join (wr := []) (w1 := [(h0, .inr (4, [.int lf, .int (nI mn), .ref qk, .ref qr])), (qk, .inl (cK, n, .inl f2_8)), (qr, .inl (cR, n, .inl f2_12))]) hP hD [0, 1, 2] [] rfl rfl (by decide) (by decide) hk1 hFc hP1 hD1
          have hK := (hK.sub (tys' := []) [] rfl).app hK1
          generalize H1 = H at hP hS ⊢
          have hP : va_P (dC, dI) vwCl [(h0, .inr (4, [.int lf, .int (nI mn), .ref qk, .ref qr])), (qk, .inl (cK, n, .inl f2_8)), (qr, .inl (cR, n, .inl f2_12))] H := hP
          have hD : va_D A [(h0, .inr (4, [.int lf, .int (nI mn), .ref qk, .ref qr])), (qk, .inl (cK, n, .inl f2_8)), (qr, .inl (cR, n, .inl f2_12))] := hD
          have hK : va_K (dC, dI) vwCl [(cK, .int), (cR, .int)] s := hK
          refine lv_iinc (v := (nI (i + 1))) (lv' := [(2, .int (nI (i + 1))), (0, .ref h0), (1, .int (nI i0))]) hx hb dX4_takeOut_49 hl (k := 2) rfl (nI_1 i) (by decide) rfl (fun ls hl => ?_)
          refine lv_goto (tgt := 15) hx hb dX4_takeOut_52 (by decide) ?_
          exact ih (i + 1) f2_8 f2_12 _ _ _ (by omega) (by omega) hP hD hS (lv_sub hl [1, 2, 0] rfl)
    refine loop_15 _ (fun i fv gv H locs ls hi hP hD hS hl => ?_) (mn + 1) i0 f g _ _ _ (by omega) (by omega) hP hD hS (lv_sub hl [1, 2, 0] rfl)
    refine lv_aload_n hx hb dX4_takeOut_55 rfl (lv_at hl 0 rfl) ?_
    refine lv_dup hx hb dX4_takeOut_56 rfl ?_
    refine va_get (D := (dC, dI)) (ci := 4) (v := .int (nI mn)) (C := RX4) (T := TX4) (N := 4) hx hb hts k_1 hown hK hP 0 rfl rfl 1 (by decide) k_2 (fun _ h9 => h9) rfl dX4_takeOut_57 ?_
    refine lv_iconst (v := 1) hx hb dX4_takeOut_60 (by decide) ?_
    refine lv_isub hx hb dX4_takeOut_61 ?_
    refine lv_topi (fun z_13 ez_13 => ?_)
    obtain rfl : z_13 = nI (mn - 1) := ez_13.trans (pk_sub (a := mn) (b := 1) (by omega))
    refine va_put (D := (dC, dI)) (ci := 4) (v := .int (nI (mn - 1))) (ty := .int) (C := RX4) (T := TX4) (N := 4) hx hb hts k_1 tyX4 tyX4_ok nmX4 hown hK hP hD hS 0 rfl rfl 1 (by decide) k_2 (fun _ h9 => h9) rfl (by decide +kernel) rfl rfl (Nat.le_of_ble_eq_true rfl) dX4_takeOut_62 (fun H locs hP hD hS => ?_)
    have hP : va_P (dC, dI) vwCl [(h0, .inr (4, [.int lf, .int (nI (mn - 1)), .ref qk, .ref qr])), (qk, .inl (cK, n, .inl fv)), (qr, .inl (cR, n, .inl gv))] H := hP
    have hD : va_D A [(h0, .inr (4, [.int lf, .int (nI (mn - 1)), .ref qk, .ref qr])), (qk, .inl (cK, n, .inl fv)), (qr, .inl (cR, n, .inl gv))] := hD
    have hP9 := hP.sub (ws' := [(h0, .inr (4, [.int lf, .int (nI (mn - 1)), .ref qk, .ref qr])), (qk, .inl (cK, n, .inl fv)), (qr, .inl (cR, n, .inl gv))]) [0, 1, 2] rfl
    have hD9 := hD.sub (ws' := [(h0, .inr (4, [.int lf, .int (nI (mn - 1)), .ref qk, .ref qr])), (qk, .inl (cK, n, .inl fv)), (qr, .inl (cR, n, .inl gv))]) [0, 1, 2] (by decide) rfl
    have hK9 := hK.sub (tys' := [(cK, .int), (cR, .int)]) [0, 1] rfl
    exact W.vret hx hb hr (fun t ht hW => ⟨⟨(mn - 1, fv, gv), rfl, (by omega), by rw [ht]; exact hP9, va_K.moved hW.alike hK9, hD9⟩, hS.F ht⟩) hS.2.2 dX4_takeOut_65
  · have hP9 := hP.sub (ws' := [(h0, .inr (4, [.int lf, .int (nI mn), .ref qk, .ref qr])), (qk, .inl (cK, n, .inl f)), (qr, .inl (cR, n, .inl g))]) [0, 1, 2] rfl
    have hD9 := hD.sub (ws' := [(h0, .inr (4, [.int lf, .int (nI mn), .ref qk, .ref qr])), (qk, .inl (cK, n, .inl f)), (qr, .inl (cR, n, .inl g))]) [0, 1, 2] (by decide) rfl
    have hK9 := hK.sub (tys' := [(cK, .int), (cR, .int)]) [0, 1] rfl
    exact W.vret hx hb hr (fun t ht hW => ⟨⟨(mn, f, g), rfl, (by omega), by rw [ht]; exact hP9, va_K.moved hW.alike hK9, hD9⟩, hS.F ht⟩) hS.2.2 dX4_takeOut_12

def v_X4_append : List Cond := .code yX4_append cX4_append 4 none :: ([.fieldLink RX4 22 "TwinRoots$Page" "many" "I", .fieldLink RX4 15 "TwinRoots$Page" "keys" "[I", .fieldLink RX4 19 "TwinRoots$Page" "refs" "[I", .code yX4_keyAt cX4_keyAt 2 (some .int), .methodLink RX4 34 yX4_keyAt, .instanceMethod yX4_keyAt, .selects RX4 yX4_keyAt yX4_keyAt, .initialized RX4, .code yX4_refAt cX4_refAt 2 (some .int), .methodLink RX4 38 yX4_refAt, .instanceMethod yX4_refAt, .selects RX4 yX4_refAt yX4_refAt] ++ (wsX40 ++ ([])))
set_option maxRecDepth 20000 in
theorem g_X4_append_X4_keyAt : GoodIn v_X4_append (wsV RX4 34 RX4 yX4_keyAt v_X4_keyAt) := goodIn_r _ [5, 6, 7, 8, 4, 1, 2, 13, 14, 15, 16] (by decide +kernel) (by decide +kernel)
set_option maxRecDepth 20000 in
theorem g_X4_append_X4_refAt : GoodIn v_X4_append (wsV RX4 38 RX4 yX4_refAt v_X4_refAt) := goodIn_r _ [10, 11, 12, 8, 9, 1, 3, 13, 14, 15, 16] (by decide +kernel) (by decide +kernel)
set_option maxHeartbeats 4000000 in
set_option maxRecDepth 100000 in
/-- append: many stays within the room -/
theorem c_X4_append (l : Launch) (dC : Nat → ClassId) (dI : Nat → Nat → Nat) (sz : Nat) (h0 : Nat) (qk : Nat) (qr : Nat) (n : Nat) (mn : Nat) (lf : Int32) (cK : ClassId) (cR : ClassId) (f : Nat → Int32) (g : Nat → Int32) (h1 : Nat) (rk : Nat) (rr : Nat) (n2 : Nat) (mo : Nat) (lo : Int32) (cL : ClassId) (cS : ClassId) (fo : Nat → Int32) (go : Nat → Int32) (p1 : Int32) (zn : n ≤ 40) (zm : mn ≤ n) (zn2 : n2 ≤ 40) (zo : mo ≤ n2) : Met l yX4_append v_X4_append ({ frames := 1, cells := 0, slots := 0, locals := 21 } : Room) (va_Pc [.ref h0, .ref h1, .int p1] (fun U => U.heap.size = sz ∧ va_P (dC, dI) vwCl [(h0, .inr (4, [.int lf, .int (nI mn), .ref qk, .ref qr])), (qk, .inl (cK, n, .inl f)), (qr, .inl (cR, n, .inl g)), (h1, .inr (4, [.int lo, .int (nI mo), .ref rk, .ref rr])), (rk, .inl (cL, n2, .inl fo)), (rr, .inl (cS, n2, .inl go))] U.heap ∧ va_K (dC, dI) vwCl [(cK, .int), (cR, .int), (cL, .int), (cS, .int)] U ∧ va_D (fun _ => True) [(h0, .inr (4, [.int lf, .int (nI mn), .ref qk, .ref qr])), (qk, .inl (cK, n, .inl f)), (qr, .inl (cR, n, .inl g)), (h1, .inr (4, [.int lo, .int (nI mo), .ref rk, .ref rr])), (rk, .inl (cL, n2, .inl fo)), (rr, .inl (cS, n2, .inl go))])) (va_Qv (fun (u : Nat × (Nat → Int32) × (Nat → Int32)) => match u with | (m2, f2, g2) => m2 ≤ n) (fun (u : Nat × (Nat → Int32) × (Nat → Int32)) (t : State) => match u with | (m2, f2, g2) => va_P (dC, dI) vwCl [(h0, .inr (4, [.int lf, .int (nI m2), .ref qk, .ref qr])), (qk, .inl (cK, n, .inl f2)), (qr, .inl (cR, n, .inl g2)), (h1, .inr (4, [.int lo, .int (nI mo), .ref rk, .ref rr])), (rk, .inl (cL, n2, .inl fo)), (rr, .inl (cS, n2, .inl go))] t.heap ∧ va_K (dC, dI) vwCl [(cK, .int), (cR, .int), (cL, .int), (cS, .int)] t ∧ va_D (va_A [(h0, .inr (4, [.int lf, .int (nI mn), .ref qk, .ref qr])), (qk, .inl (cK, n, .inl f)), (qr, .inl (cR, n, .inl g)), (h1, .inr (4, [.int lo, .int (nI mo), .ref rk, .ref rr])), (rk, .inl (cL, n2, .inl fo)), (rr, .inl (cS, n2, .inl go))] sz) [(h0, .inr (4, [.int lf, .int (nI m2), .ref qk, .ref qr])), (qk, .inl (cK, n, .inl f2)), (qr, .inl (cR, n, .inl g2)), (h1, .inr (4, [.int lo, .int (nI mo), .ref rk, .ref rr])), (rk, .inl (cL, n2, .inl fo)), (rr, .inl (cS, n2, .inl go))]) (va_A [(h0, .inr (4, [.int lf, .int (nI mn), .ref qk, .ref qr])), (qk, .inl (cK, n, .inl f)), (qr, .inl (cR, n, .inl g)), (h1, .inr (4, [.int lo, .int (nI mo), .ref rk, .ref rr])), (rk, .inl (cL, n2, .inl fo)), (rr, .inl (cS, n2, .inl go))] sz)) 0 0 (va_A [(h0, .inr (4, [.int lf, .int (nI mn), .ref qk, .ref qr])), (qk, .inl (cK, n, .inl f)), (qr, .inl (cR, n, .inl g)), (h1, .inr (4, [.int lo, .int (nI mo), .ref rk, .ref rr])), (rk, .inl (cL, n2, .inl fo)), (rr, .inl (cS, n2, .inl go))] sz) := by
  refine Met.ofW (cc := cX4_append) (maxL := 4) (ret := none) (by decide) rfl ?_
  intro p e s m args below meth c s₁ B hml hv
  obtain ⟨rfl, hsz, hP, hK, hD0⟩ := hv
  have hx := B.exec
  have hb := B.bytes
  have hr := B.returns
  have hts := atoms_spec (ws := v_X4_append) B.pre
  have hown : s.vm.findClass RX4 = some m.cls := findClass_of_methodNamed B.named
  have hlocks := B.notSynchronized
  subst hsz
  have hD := hD0.self (sz := s.heap.size)
  generalize hAe : va_A [(h0, .inr (4, [.int lf, .int (nI mn), .ref qk, .ref qr])), (qk, .inl (cK, n, .inl f)), (qr, .inl (cR, n, .inl g)), (h1, .inr (4, [.int lo, .int (nI mo), .ref rk, .ref rr])), (rk, .inl (cL, n2, .inl fo)), (rr, .inl (cS, n2, .inl go))] s.heap.size = A at hD ⊢
  have hA : ∀ q : Nat, s.heap.size ≤ q → A q := fun q h => by rw [← hAe]; exact Or.inr h
  have hS : va_S A s.heap s.heap [] := va_S.rf
  have hP : va_P (dC, dI) vwCl [(h0, .inr (4, [.int lf, .int (nI mn), .ref qk, .ref qr])), (qk, .inl (cK, n, .inl f)), (qr, .inl (cR, n, .inl g)), (h1, .inr (4, [.int lo, .int (nI mo), .ref rk, .ref rr])), (rk, .inl (cL, n2, .inl fo)), (rr, .inl (cS, n2, .inl go))] s.heap := hP
  have hl := lv_entry ([.ref h0, .ref h1, .int p1]) (n := 4) (Nat.le_of_ble_eq_true rfl)
  rw [lg_entry_eq]
  generalize (lg_sl ([.ref h0, .ref h1, .int p1]) ++ List.replicate (4 - (lg_sl ([.ref h0, .ref h1, .int p1])).length) Slot.unset).toArray = ls at hl ⊢
  have hl : lv_has ls 4 [(0, .ref h0), (1, .ref h1), (2, .int p1)] := hl
  have k_1 := (fun _ h => List.mem_cons_of_mem _ (List.mem_append_right _ (List.mem_append_left _ h)) : ∀ w ∈ wsX40, w ∈ v_X4_append)
  have k_2 := hts (.fieldLink RX4 22 "TwinRoots$Page" "many" "I") (List.mem_of_getElem? (i := 1) rfl)
  have k_3 := hts (.fieldLink RX4 15 "TwinRoots$Page" "keys" "[I") (List.mem_of_getElem? (i := 2) rfl)
  have k_4 := hts (.fieldLink RX4 19 "TwinRoots$Page" "refs" "[I") (List.mem_of_getElem? (i := 3) rfl)
  refine lv_iload_n hx hb dX4_append_0 rfl (lv_at hl 2 rfl) ?_
  refine lv_istore_n (lv' := [(3, .int p1), (0, .ref h0), (1, .ref h1), (2, .int p1)]) hx hb dX4_append_1 rfl hl (by decide) rfl (fun ls hl => ?_)
  have loop_2 : ∀ (Q : State → Prop), (∀ (i : Nat) (xv : Int32) (fv : Nat → Int32) (gv : Nat → Int32) (H : Heap) (locs : List Loc) (ls : Array Slot), i ≤ n → va_P (dC, dI) vwCl [(h0, .inr (4, [.int lf, .int (nI i), .ref qk, .ref qr])), (qk, .inl (cK, n, .inl fv)), (qr, .inl (cR, n, .inl gv)), (h1, .inr (4, [.int lo, .int (nI mo), .ref rk, .ref rr])), (rk, .inl (cL, n2, .inl fo)), (rr, .inl (cS, n2, .inl go))] H → va_D A [(h0, .inr (4, [.int lf, .int (nI i), .ref qk, .ref qr])), (qk, .inl (cK, n, .inl fv)), (qr, .inl (cR, n, .inl gv)), (h1, .inr (4, [.int lo, .int (nI mo), .ref rk, .ref rr])), (rk, .inl (cL, n2, .inl fo)), (rr, .inl (cS, n2, .inl go))] → va_S A s.heap H locs → lv_has ls 4 [(0, .ref h0), (1, .ref h1), (2, .int p1), (3, .int xv)] → W p l e (headSpec v_X4_append ({ frames := 1, cells := 0, slots := 0, locals := 21 } : Room)).room s m ([.ref h0, .ref h1, .int p1] : List Value).toArray below meth c H locs 0 0 Q (F0 m 78 ls [])) → ∀ (nf i : Nat) (xv : Int32) (fv : Nat → Int32) (gv : Nat → Int32) (H : Heap) (locs : List Loc) (ls : Array Slot), i ≤ n → n + 1 ≤ i + nf → va_P (dC, dI) vwCl [(h0, .inr (4, [.int lf, .int (nI i), .ref qk, .ref qr])), (qk, .inl (cK, n, .inl fv)), (qr, .inl (cR, n, .inl gv)), (h1, .inr (4, [.int lo, .int (nI mo), .ref rk, .ref rr])), (rk, .inl (cL, n2, .inl fo)), (rr, .inl (cS, n2, .inl go))] H → va_D A [(h0, .inr (4, [.int lf, .int (nI i), .ref qk, .ref qr])), (qk, .inl (cK, n, .inl fv)), (qr, .inl (cR, n, .inl gv)), (h1, .inr (4, [.int lo, .int (nI mo), .ref rk, .ref rr])), (rk, .inl (cL, n2, .inl fo)), (rr, .inl (cS, n2, .inl go))] → va_S A s.heap H locs → lv_has ls 4 [(0, .ref h0), (1, .ref h1), (2, .int p1), (3, .int xv)] → W p l e (headSpec v_X4_append ({ frames := 1, cells := 0, slots := 0, locals := 21 } : Room)).room s m ([.ref h0, .ref h1, .int p1] : List Value).toArray below meth c H locs 0 0 Q (F0 m 2 ls []) := by
    intro Q kx nf
    induction nf with
    | zero =>
      intro i xv fv gv H locs ls h1 h2
      exact absurd h2 (by omega)
    | succ nf ih =>
      intro i xv fv gv H locs ls hi hn hP hD hS hl
      refine lv_iload_n hx hb dX4_append_2 rfl (lv_at hl 3 rfl) ?_
      refine lv_aload_n hx hb dX4_append_3 rfl (lv_at hl 1 rfl) ?_
      refine va_get (D := (dC, dI)) (ci := 4) (v := .int (nI mo)) (C := RX4) (T := TX4) (N := 4) hx hb hts k_1 hown hK hP 3 rfl rfl 1 (by decide) k_2 (fun _ h9 => h9) rfl dX4_append_4 ?_
      refine lv_icmp_ge (tgt := 78) hx hb dX4_append_7 (by decide) (fun c_1 => ?_) (fun c_1 => ?_)
      · exact kx i xv fv gv _ _ _ (by omega) hP hD hS (lv_sub hl [0, 1, 2, 3] rfl)
      · refine lv_aload_n hx hb dX4_append_10 rfl (lv_at hl 0 rfl) ?_
        refine va_get (D := (dC, dI)) (ci := 4) (v := .int (nI i)) (C := RX4) (T := TX4) (N := 4) hx hb hts k_1 hown hK hP 0 rfl rfl 1 (by decide) k_2 (fun _ h9 => h9) rfl dX4_append_11 ?_
        refine lv_aload_n hx hb dX4_append_14 rfl (lv_at hl 0 rfl) ?_
        refine va_get (D := (dC, dI)) (ci := 4) (v := .ref qk) (C := RX4) (T := TX4) (N := 4) hx hb hts k_1 hown hK hP 0 rfl rfl 2 (by decide) k_3 (fun _ h9 => h9) rfl dX4_append_15 ?_
        refine va_alen (v := nI n) hx hb hK hP 1 0 rfl rfl rfl dX4_append_18 ?_
        refine lv_icmp_ge (tgt := 78) hx hb dX4_append_19 (by decide) (fun c_2 => ?_) (fun c_2 => ?_)
        · exact kx i xv fv gv _ _ _ (by omega) hP hD hS (lv_sub hl [0, 1, 2, 3] rfl)
        · have hlt : i < n := Nat.lt_of_not_le (fun h => c_2 (nI_le h (by omega)))
          refine lv_aload_n hx hb dX4_append_22 rfl (lv_at hl 0 rfl) ?_
          refine va_get (D := (dC, dI)) (ci := 4) (v := .int (nI i)) (C := RX4) (T := TX4) (N := 4) hx hb hts k_1 hown hK hP 0 rfl rfl 1 (by decide) k_2 (fun _ h9 => h9) rfl dX4_append_23 ?_
          refine lv_aload_n hx hb dX4_append_26 rfl (lv_at hl 0 rfl) ?_
          refine va_get (D := (dC, dI)) (ci := 4) (v := .ref qr) (C := RX4) (T := TX4) (N := 4) hx hb hts k_1 hown hK hP 0 rfl rfl 3 (by decide) k_4 (fun _ h9 => h9) rfl dX4_append_27 ?_
          refine va_alen (v := nI n) hx hb hK hP 2 1 rfl rfl rfl dX4_append_30 ?_
          refine lv_icmp_ge (tgt := 78) hx hb dX4_append_31 (by decide) (fun c_3 => ?_) (fun c_3 => ?_)
          · exact absurd c_3 (nI_ge hlt (by omega))
          refine lv_aload_n hx hb dX4_append_34 rfl (lv_at hl 0 rfl) ?_
          refine va_get (D := (dC, dI)) (ci := 4) (v := .ref qk) (C := RX4) (T := TX4) (N := 4) hx hb hts k_1 hown hK hP 0 rfl rfl 2 (by decide) k_3 (fun _ h9 => h9) rfl dX4_append_35 ?_
          refine lv_aload_n hx hb dX4_append_38 rfl (lv_at hl 0 rfl) ?_
          refine va_get (D := (dC, dI)) (ci := 4) (v := .int (nI i)) (C := RX4) (T := TX4) (N := 4) hx hb hts k_1 hown hK hP 0 rfl rfl 1 (by decide) k_2 (fun _ h9 => h9) rfl dX4_append_39 ?_
          refine lv_aload_n hx hb dX4_append_42 rfl (lv_at hl 1 rfl) ?_
          refine lv_iload_n hx hb dX4_append_43 rfl (lv_at hl 3 rfl) ?_
          have hPc := hP.sub (ws' := [(h1, .inr (4, [.int lo, .int (nI mo), .ref rk, .ref rr])), (rk, .inl (cL, n2, .inl fo)), (rr, .inl (cS, n2, .inl go))]) [3, 4, 5] rfl
          have hDc := hD.sub (ws' := [(h1, .inr (4, [.int lo, .int (nI mo), .ref rk, .ref rr])), (rk, .inl (cL, n2, .inl fo)), (rr, .inl (cS, n2, .inl go))]) [3, 4, 5] (by decide) rfl
          have hKc := hK.sub (tys' := [(cL, .int), (cS, .int)]) [2, 3] rfl
          have hFc := va_free (wc := [(h1, .inr (4, [.int lo, .int (nI mo), .ref rk, .ref rr])), (rk, .inl (cL, n2, .inl fo)), (rr, .inl (cS, n2, .inl go))]) hD hS hA [3, 4, 5] rfl
          refine va_calli (va_runV (As := [.int xv]) (rest := [.int (nI i), .ref qk]) ⟨hx, hb, hml, hown, hts⟩ (c_X4_keyAt l dC dI H.size h1 rk rr n2 mo lo cL cS fo go xv (by first | assumption | omega | decide) (by first | assumption | omega | decide)) (cwV 1 hts g_X4_append_X4_keyAt rfl rfl rfl (by decide +kernel) ⟨Nat.le_of_ble_eq_true rfl, Nat.le_of_ble_eq_true rfl⟩) ⟨fun a U g mk q => by obtain ⟨q0, q1, qP, qK, qD⟩ := q; exact ⟨q0, q1, qP, va_K.moved (u := U) (U := U.calling g mk a) (Vm.Alike.refl U.vm) qK, qD⟩, va_recv hKc hPc (ci := 4) (q0 := 0) rfl rfl, fun U hU hW => ⟨rfl, by rw [hU], by rw [hU]; exact hPc, va_K.moved hW.alike hKc, hDc.weaken (fun _ _ _ _ => trivial)⟩⟩ rfl rfl hl.1 rfl (lv_room (Nat.le_of_ble_eq_true rfl)) dX4_append_44 ⟨(show 0 + 0 ≤ 0 by omega), (show 0 + 0 ≤ 0 by omega)⟩) hS (fun q _ h => hFc q h) hFc (fun r_4 u t H1 locs ht hvm hw hB hz1 hk1 hS => ?_)
          obtain ⟨hP1, hK1, hD1⟩ := hB
          rw [ht] at hP1
          have hK1 := va_K.moved hvm.symm hK1
          try dsimp only at hw
          obtain ⟨hP, hD⟩ := va_join (wr := [(h0, .inr (4, [.int lf, .int (nI i), .ref qk, .ref qr])), (qk, .inl (cK, n, .inl fv)), (qr, .inl (cR, n, .inl gv))]) (w1 := [(h1, .inr (4, [.int lo, .int (nI mo), .ref rk, .ref rr])), (rk, .inl (cL, n2, .inl fo)), (rr, .inl (cS, n2, .inl go))]) hP hD [3, 4, 5] [0, 1, 2] rfl rfl (by decide) (by decide) hk1 hFc hP1 hD1
          have hK := (hK.sub (tys' := [(cK, .int), (cR, .int)]) [0, 1] rfl).app hK1
          generalize H1 = H at hP hS ⊢
          have hP : va_P (dC, dI) vwCl [(h0, .inr (4, [.int lf, .int (nI i), .ref qk, .ref qr])), (qk, .inl (cK, n, .inl fv)), (qr, .inl (cR, n, .inl gv)), (h1, .inr (4, [.int lo, .int (nI mo), .ref rk, .ref rr])), (rk, .inl (cL, n2, .inl fo)), (rr, .inl (cS, n2, .inl go))] H := hP
          have hD : va_D A [(h0, .inr (4, [.int lf, .int (nI i), .ref qk, .ref qr])), (qk, .inl (cK, n, .inl fv)), (qr, .inl (cR, n, .inl gv)), (h1, .inr (4, [.int lo, .int (nI mo), .ref rk, .ref rr])), (rk, .inl (cL, n2, .inl fo)), (rr, .inl (cS, n2, .inl go))] := hD
          have hK : va_K (dC, dI) vwCl [(cK, .int), (cR, .int), (cL, .int), (cS, .int)] s := hK
          have hw_r_4 := hw
          refine va_iast hx hb hK hP hD hS 1 0 rfl rfl (show vp_in (nI i) n from vp_in_nI (by omega) (by omega)) dX4_append_47 (fun H locs hP hD hS => ?_)
          have hP : va_P (dC, dI) vwCl [(h0, .inr (4, [.int lf, .int (nI i), .ref qk, .ref qr])), (qk, .inl (cK, n, .inl (upd fv ((nI i).toNatClampNeg) r_4))), (qr, .inl (cR, n, .inl gv)), (h1, .inr (4, [.int lo, .int (nI mo), .ref rk, .ref rr])), (rk, .inl (cL, n2, .inl fo)), (rr, .inl (cS, n2, .inl go))] H := hP
          have hD : va_D A [(h0, .inr (4, [.int lf, .int (nI i), .ref qk, .ref qr])), (qk, .inl (cK, n, .inl (upd fv ((nI i).toNatClampNeg) r_4))), (qr, .inl (cR, n, .inl gv)), (h1, .inr (4, [.int lo, .int (nI mo), .ref rk, .ref rr])), (rk, .inl (cL, n2, .inl fo)), (rr, .inl (cS, n2, .inl go))] := hD
          obtain ⟨f_5, ef_5⟩ : ∃ g9, g9 = upd fv ((nI i).toNatClampNeg) r_4 := ⟨_, rfl⟩
          rw [← ef_5] at hP hD
          refine lv_aload_n hx hb dX4_append_48 rfl (lv_at hl 0 rfl) ?_
          refine va_get (D := (dC, dI)) (ci := 4) (v := .ref qr) (C := RX4) (T := TX4) (N := 4) hx hb hts k_1 hown hK hP 0 rfl rfl 3 (by decide) k_4 (fun _ h9 => h9) rfl dX4_append_49 ?_
          refine lv_aload_n hx hb dX4_append_52 rfl (lv_at hl 0 rfl) ?_
          refine va_get (D := (dC, dI)) (ci := 4) (v := .int (nI i)) (C := RX4) (T := TX4) (N := 4) hx hb hts k_1 hown hK hP 0 rfl rfl 1 (by decide) k_2 (fun _ h9 => h9) rfl dX4_append_53 ?_
          refine lv_aload_n hx hb dX4_append_56 rfl (lv_at hl 1 rfl) ?_
          refine lv_iload_n hx hb dX4_append_57 rfl (lv_at hl 3 rfl) ?_
          have hPc := hP.sub (ws' := [(h1, .inr (4, [.int lo, .int (nI mo), .ref rk, .ref rr])), (rk, .inl (cL, n2, .inl fo)), (rr, .inl (cS, n2, .inl go))]) [3, 4, 5] rfl
          have hDc := hD.sub (ws' := [(h1, .inr (4, [.int lo, .int (nI mo), .ref rk, .ref rr])), (rk, .inl (cL, n2, .inl fo)), (rr, .inl (cS, n2, .inl go))]) [3, 4, 5] (by decide) rfl
          have hKc := hK.sub (tys' := [(cL, .int), (cS, .int)]) [2, 3] rfl
          have hFc := va_free (wc := [(h1, .inr (4, [.int lo, .int (nI mo), .ref rk, .ref rr])), (rk, .inl (cL, n2, .inl fo)), (rr, .inl (cS, n2, .inl go))]) hD hS hA [3, 4, 5] rfl
          refine va_calli (va_runV (As := [.int xv]) (rest := [.int (nI i), .ref qr]) ⟨hx, hb, hml, hown, hts⟩ (c_X4_refAt l dC dI H.size h1 rk rr n2 mo lo cL cS fo go xv (by first | assumption | omega | decide) (by first | assumption | omega | decide)) (cwV 1 hts g_X4_append_X4_refAt rfl rfl rfl (by decide +kernel) ⟨Nat.le_of_ble_eq_true rfl, Nat.le_of_ble_eq_true rfl⟩) ⟨fun a U g mk q => by obtain ⟨q0, q1, qP, qK, qD⟩ := q; exact ⟨q0, q1, qP, va_K.moved (u := U) (U := U.calling g mk a) (Vm.Alike.refl U.vm) qK, qD⟩, va_recv hKc hPc (ci := 4) (q0 := 0) rfl rfl, fun U hU hW => ⟨rfl, by rw [hU], by rw [hU]; exact hPc, va_K.moved hW.alike hKc, hDc.weaken (fun _ _ _ _ => trivial)⟩⟩ rfl rfl hl.1 rfl (lv_room (Nat.le_of_ble_eq_true rfl)) dX4_append_58 ⟨(show 0 + 0 ≤ 0 by omega), (show 0 + 0 ≤ 0 by omega)⟩) hS (fun q _ h => hFc q h) hFc (fun r_6 u t H1 locs ht hvm hw hB hz1 hk1 hS => ?_)
          obtain ⟨hP1, hK1, hD1⟩ := hB
          rw [ht] at hP1
          have hK1 := va_K.moved hvm.symm hK1
          try dsimp only at hw
          obtain ⟨hP, hD⟩ := va_join (wr := [(h0, .inr (4, [.int lf, .int (nI i), .ref qk, .ref qr])), (qk, .inl (cK, n, .inl f_5)), (qr, .inl (cR, n, .inl gv))]) (w1 := [(h1, .inr (4, [.int lo, .int (nI mo), .ref rk, .ref rr])), (rk, .inl (cL, n2, .inl fo)), (rr, .inl (cS, n2, .inl go))]) hP hD [3, 4, 5] [0, 1, 2] rfl rfl (by decide) (by decide) hk1 hFc hP1 hD1
          have hK := (hK.sub (tys' := [(cK, .int), (cR, .int)]) [0, 1] rfl).app hK1
          generalize H1 = H at hP hS ⊢
          have hP : va_P (dC, dI) vwCl [(h0, .inr (4, [.int lf, .int (nI i), .ref qk, .ref qr])), (qk, .inl (cK, n, .inl f_5)), (qr, .inl (cR, n, .inl gv)), (h1, .inr (4, [.int lo, .int (nI mo), .ref rk, .ref rr])), (rk, .inl (cL, n2, .inl fo)), (rr, .inl (cS, n2, .inl go))] H := hP
          have hD : va_D A [(h0, .inr (4, [.int lf, .int (nI i), .ref qk, .ref qr])), (qk, .inl (cK, n, .inl f_5)), (qr, .inl (cR, n, .inl gv)), (h1, .inr (4, [.int lo, .int (nI mo), .ref rk, .ref rr])), (rk, .inl (cL, n2, .inl fo)), (rr, .inl (cS, n2, .inl go))] := hD
          have hK : va_K (dC, dI) vwCl [(cK, .int), (cR, .int), (cL, .int), (cS, .int)] s := hK
          have hw_r_6 := hw
          refine va_iast hx hb hK hP hD hS 2 1 rfl rfl (show vp_in (nI i) n from vp_in_nI (by omega) (by omega)) dX4_append_61 (fun H locs hP hD hS => ?_)
          have hP : va_P (dC, dI) vwCl [(h0, .inr (4, [.int lf, .int (nI i), .ref qk, .ref qr])), (qk, .inl (cK, n, .inl f_5)), (qr, .inl (cR, n, .inl (upd gv ((nI i).toNatClampNeg) r_6))), (h1, .inr (4, [.int lo, .int (nI mo), .ref rk, .ref rr])), (rk, .inl (cL, n2, .inl fo)), (rr, .inl (cS, n2, .inl go))] H := hP
          have hD : va_D A [(h0, .inr (4, [.int lf, .int (nI i), .ref qk, .ref qr])), (qk, .inl (cK, n, .inl f_5)), (qr, .inl (cR, n, .inl (upd gv ((nI i).toNatClampNeg) r_6))), (h1, .inr (4, [.int lo, .int (nI mo), .ref rk, .ref rr])), (rk, .inl (cL, n2, .inl fo)), (rr, .inl (cS, n2, .inl go))] := hD
          obtain ⟨f_7, ef_7⟩ : ∃ g9, g9 = upd gv ((nI i).toNatClampNeg) r_6 := ⟨_, rfl⟩
          rw [← ef_7] at hP hD
          refine lv_aload_n hx hb dX4_append_62 rfl (lv_at hl 0 rfl) ?_
          refine lv_dup hx hb dX4_append_63 rfl ?_
          refine va_get (D := (dC, dI)) (ci := 4) (v := .int (nI i)) (C := RX4) (T := TX4) (N := 4) hx hb hts k_1 hown hK hP 0 rfl rfl 1 (by decide) k_2 (fun _ h9 => h9) rfl dX4_append_64 ?_
          refine lv_iconst (v := 1) hx hb dX4_append_67 (by decide) ?_
          refine lv_iadd hx hb dX4_append_68 ?_
          refine lv_topi (fun z_8 ez_8 => ?_)
          obtain rfl : z_8 = nI (i + 1) := ez_8.trans (nI_1 i)
          refine va_put (D := (dC, dI)) (ci := 4) (v := .int (nI (i + 1))) (ty := .int) (C := RX4) (T := TX4) (N := 4) hx hb hts k_1 tyX4 tyX4_ok nmX4 hown hK hP hD hS 0 rfl rfl 1 (by decide) k_2 (fun _ h9 => h9) rfl (by decide +kernel) rfl rfl (Nat.le_of_ble_eq_true rfl) dX4_append_69 (fun H locs hP hD hS => ?_)
          have hP : va_P (dC, dI) vwCl [(h0, .inr (4, [.int lf, .int (nI (i + 1)), .ref qk, .ref qr])), (qk, .inl (cK, n, .inl f_5)), (qr, .inl (cR, n, .inl f_7)), (h1, .inr (4, [.int lo, .int (nI mo), .ref rk, .ref rr])), (rk, .inl (cL, n2, .inl fo)), (rr, .inl (cS, n2, .inl go))] H := hP
          have hD : va_D A [(h0, .inr (4, [.int lf, .int (nI (i + 1)), .ref qk, .ref qr])), (qk, .inl (cK, n, .inl f_5)), (qr, .inl (cR, n, .inl f_7)), (h1, .inr (4, [.int lo, .int (nI mo), .ref rk, .ref rr])), (rk, .inl (cL, n2, .inl fo)), (rr, .inl (cS, n2, .inl go))] := hD
          obtain ⟨x_9, ex_9⟩ : ∃ y : Int32, xv + Int32.ofInt 1 = y := ⟨_, rfl⟩
          refine lv_iinc (v := x_9) (lv' := [(3, .int x_9), (0, .ref h0), (1, .ref h1), (2, .int p1)]) hx hb dX4_append_72 hl (k := 3) rfl (ex_9) (by decide) rfl (fun ls hl => ?_)
          refine lv_goto (tgt := 2) hx hb dX4_append_75 (by decide) ?_
          exact ih (i + 1) x_9 f_5 f_7 _ _ _ (by omega) (by omega) hP hD hS (lv_sub hl [1, 2, 3, 0] rfl)
  refine loop_2 _ (fun i xv fv gv H locs ls hi hP hD hS hl => ?_) (n + 1) mn p1 f g _ _ _ (by omega) (by omega) hP hD hS (lv_sub hl [1, 2, 3, 0] rfl)
  have hP9 := hP.sub (ws' := [(h0, .inr (4, [.int lf, .int (nI i), .ref qk, .ref qr])), (qk, .inl (cK, n, .inl fv)), (qr, .inl (cR, n, .inl gv)), (h1, .inr (4, [.int lo, .int (nI mo), .ref rk, .ref rr])), (rk, .inl (cL, n2, .inl fo)), (rr, .inl (cS, n2, .inl go))]) [0, 1, 2, 3, 4, 5] rfl
  have hD9 := hD.sub (ws' := [(h0, .inr (4, [.int lf, .int (nI i), .ref qk, .ref qr])), (qk, .inl (cK, n, .inl fv)), (qr, .inl (cR, n, .inl gv)), (h1, .inr (4, [.int lo, .int (nI mo), .ref rk, .ref rr])), (rk, .inl (cL, n2, .inl fo)), (rr, .inl (cS, n2, .inl go))]) [0, 1, 2, 3, 4, 5] (by decide) rfl
  have hK9 := hK.sub (tys' := [(cK, .int), (cR, .int), (cL, .int), (cS, .int)]) [0, 1, 2, 3] rfl
  exact W.vret hx hb hr (fun t ht hW => ⟨⟨(i, fv, gv), rfl, (by omega), by rw [ht]; exact hP9, va_K.moved hW.alike hK9, hD9⟩, hS.F ht⟩) hS.2.2 dX4_append_78
def v_X4_copy : List Cond := .code yX4_copy cX4_copy 2 none :: ([.fieldLink RX4 9 "TwinRoots$Page" "leaf" "Z", .code yX4_clear cX4_clear 2 none, .fieldLink RX4 22 "TwinRoots$Page" "many" "I", .methodLink RX4 26 yX4_clear, .instanceMethod yX4_clear, .selects RX4 yX4_clear yX4_clear, .initialized RX4, .code yX4_append cX4_append 4 none, .fieldLink RX4 15 "TwinRoots$Page" "keys" "[I", .fieldLink RX4 19 "TwinRoots$Page" "refs" "[I", .code yX4_keyAt cX4_keyAt 2 (some .int), .methodLink RX4 34 yX4_keyAt, .instanceMethod yX4_keyAt, .selects RX4 yX4_keyAt yX4_keyAt, .code yX4_refAt cX4_refAt 2 (some .int), .methodLink RX4 38 yX4_refAt, .instanceMethod yX4_refAt, .selects RX4 yX4_refAt yX4_refAt, .methodLink RX4 30 yX4_append, .instanceMethod yX4_append, .selects RX4 yX4_append yX4_append] ++ (wsX40 ++ ([])))
set_option maxRecDepth 20000 in
theorem g_X4_copy_X4_clear : GoodIn v_X4_copy (wsV RX4 26 RX4 yX4_clear v_X4_clear) := goodIn_r _ [4, 5, 6, 7, 2, 1, 3, 22, 23, 24, 25] (by decide +kernel) (by decide +kernel)
set_option maxRecDepth 20000 in
theorem g_X4_copy_X4_append : GoodIn v_X4_copy (wsV RX4 30 RX4 yX4_append v_X4_append) := goodIn_r _ [19, 20, 21, 7, 8, 3, 9, 10, 11, 12, 13, 14, 7, 15, 16, 17, 18, 22, 23, 24, 25] (by decide +kernel) (by decide +kernel)
set_option maxHeartbeats 4000000 in
set_option maxRecDepth 100000 in
/-- copy -/
theorem c_X4_copy (l : Launch) (dC : Nat → ClassId) (dI : Nat → Nat → Nat) (sz : Nat) (h0 : Nat) (qk : Nat) (qr : Nat) (n : Nat) (mn : Nat) (lf : Int32) (cK : ClassId) (cR : ClassId) (f : Nat → Int32) (g : Nat → Int32) (h1 : Nat) (rk : Nat) (rr : Nat) (n2 : Nat) (mo : Nat) (lo : Int32) (cL : ClassId) (cS : ClassId) (fo : Nat → Int32) (go : Nat → Int32) (zn : n ≤ 40) (zm : mn ≤ n) (zn2 : n2 ≤ 40) (zo : mo ≤ n2) (zz : lo = 0 ∨ lo = 1) : Met l yX4_copy v_X4_copy ({ frames := 2, cells := 0, slots := 0, locals := 44 } : Room) (va_Pc [.ref h0, .ref h1] (fun U => U.heap.size = sz ∧ va_P (dC, dI) vwCl [(h0, .inr (4, [.int lf, .int (nI mn), .ref qk, .ref qr])), (qk, .inl (cK, n, .inl f)), (qr, .inl (cR, n, .inl g)), (h1, .inr (4, [.int lo, .int (nI mo), .ref rk, .ref rr])), (rk, .inl (cL, n2, .inl fo)), (rr, .inl (cS, n2, .inl go))] U.heap ∧ va_K (dC, dI) vwCl [(cK, .int), (cR, .int), (cL, .int), (cS, .int)] U ∧ va_D (fun _ => True) [(h0, .inr (4, [.int lf, .int (nI mn), .ref qk, .ref qr])), (qk, .inl (cK, n, .inl f)), (qr, .inl (cR, n, .inl g)), (h1, .inr (4, [.int lo, .int (nI mo), .ref rk, .ref rr])), (rk, .inl (cL, n2, .inl fo)), (rr, .inl (cS, n2, .inl go))])) (va_Qv (fun (u : Nat × (Nat → Int32) × (Nat → Int32)) => match u with | (m2, f2, g2) => m2 ≤ n) (fun (u : Nat × (Nat → Int32) × (Nat → Int32)) (t : State) => match u with | (m2, f2, g2) => va_P (dC, dI) vwCl [(h0, .inr (4, [.int lo, .int (nI m2), .ref qk, .ref qr])), (qk, .inl (cK, n, .inl f2)), (qr, .inl (cR, n, .inl g2)), (h1, .inr (4, [.int lo, .int (nI mo), .ref rk, .ref rr])), (rk, .inl (cL, n2, .inl fo)), (rr, .inl (cS, n2, .inl go))] t.heap ∧ va_K (dC, dI) vwCl [(cK, .int), (cR, .int), (cL, .int), (cS, .int)] t ∧ va_D (va_A [(h0, .inr (4, [.int lf, .int (nI mn), .ref qk, .ref qr])), (qk, .inl (cK, n, .inl f)), (qr, .inl (cR, n, .inl g)), (h1, .inr (4, [.int lo, .int (nI mo), .ref rk, .ref rr])), (rk, .inl (cL, n2, .inl fo)), (rr, .inl (cS, n2, .inl go))] sz) [(h0, .inr (4, [.int lo, .int (nI m2), .ref qk, .ref qr])), (qk, .inl (cK, n, .inl f2)), (qr, .inl (cR, n, .inl g2)), (h1, .inr (4, [.int lo, .int (nI mo), .ref rk, .ref rr])), (rk, .inl (cL, n2, .inl fo)), (rr, .inl (cS, n2, .inl go))]) (va_A [(h0, .inr (4, [.int lf, .int (nI mn), .ref qk, .ref qr])), (qk, .inl (cK, n, .inl f)), (qr, .inl (cR, n, .inl g)), (h1, .inr (4, [.int lo, .int (nI mo), .ref rk, .ref rr])), (rk, .inl (cL, n2, .inl fo)), (rr, .inl (cS, n2, .inl go))] sz)) 0 0 (va_A [(h0, .inr (4, [.int lf, .int (nI mn), .ref qk, .ref qr])), (qk, .inl (cK, n, .inl f)), (qr, .inl (cR, n, .inl g)), (h1, .inr (4, [.int lo, .int (nI mo), .ref rk, .ref rr])), (rk, .inl (cL, n2, .inl fo)), (rr, .inl (cS, n2, .inl go))] sz) := by
  refine Met.ofW (cc := cX4_copy) (maxL := 2) (ret := none) (by decide) rfl ?_
  intro p e s m args below meth c s₁ B hml hv
  obtain ⟨rfl, hsz, hP, hK, hD0⟩ := hv
  have hx := B.exec
  have hb := B.bytes
  have hr := B.returns
  have hts := atoms_spec (ws := v_X4_copy) B.pre
  have hown : s.vm.findClass RX4 = some m.cls := findClass_of_methodNamed B.named
  have hlocks := B.notSynchronized
  subst hsz
  have hD := hD0.self (sz := s.heap.size)
  generalize hAe : va_A [(h0, .inr (4, [.int lf, .int (nI mn), .ref qk, .ref qr])), (qk, .inl (cK, n, .inl f)), (qr, .inl (cR, n, .inl g)), (h1, .inr (4, [.int lo, .int (nI mo), .ref rk, .ref rr])), (rk, .inl (cL, n2, .inl fo)), (rr, .inl (cS, n2, .inl go))] s.heap.size = A at hD ⊢
  have hA : ∀ q : Nat, s.heap.size ≤ q → A q := fun q h => by rw [← hAe]; exact Or.inr h
  have hS : va_S A s.heap s.heap [] := va_S.rf
  have hP : va_P (dC, dI) vwCl [(h0, .inr (4, [.int lf, .int (nI mn), .ref qk, .ref qr])), (qk, .inl (cK, n, .inl f)), (qr, .inl (cR, n, .inl g)), (h1, .inr (4, [.int lo, .int (nI mo), .ref rk, .ref rr])), (rk, .inl (cL, n2, .inl fo)), (rr, .inl (cS, n2, .inl go))] s.heap := hP
  have hl := lv_entry ([.ref h0, .ref h1]) (n := 2) (Nat.le_of_ble_eq_true rfl)
  rw [lg_entry_eq]
  generalize (lg_sl ([.ref h0, .ref h1]) ++ List.replicate (2 - (lg_sl ([.ref h0, .ref h1])).length) Slot.unset).toArray = ls at hl ⊢
  have hl : lv_has ls 2 [(0, .ref h0), (1, .ref h1)] := hl
  have k_1 := (fun _ h => List.mem_cons_of_mem _ (List.mem_append_right _ (List.mem_append_left _ h)) : ∀ w ∈ wsX40, w ∈ v_X4_copy)
  have k_2 := hts (.fieldLink RX4 9 "TwinRoots$Page" "leaf" "Z") (List.mem_of_getElem? (i := 1) rfl)
  refine lv_aload_n hx hb dX4_copy_0 rfl (lv_at hl 0 rfl) ?_
  refine lv_aload_n hx hb dX4_copy_1 rfl (lv_at hl 1 rfl) ?_
  refine va_get (D := (dC, dI)) (ci := 4) (v := .int lo) (C := RX4) (T := TX4) (N := 4) hx hb hts k_1 hown hK hP 3 rfl rfl 0 (by decide) k_2 (fun _ h9 => h9) rfl dX4_copy_2 ?_
  have hPc := hP.sub (ws' := [(h0, .inr (4, [.int lf, .int (nI mn), .ref qk, .ref qr]))]) [0] rfl
  have hDc := hD.sub (ws' := [(h0, .inr (4, [.int lf, .int (nI mn), .ref qk, .ref qr]))]) [0] (by decide) rfl
  have hKc := hK.sub (tys' := []) [] rfl
  have hFc := va_free (wc := [(h0, .inr (4, [.int lf, .int (nI mn), .ref qk, .ref qr]))]) hD hS hA [0] rfl
  refine va_callv (va_runV (As := [.int lo]) (rest := []) ⟨hx, hb, hml, hown, hts⟩ (c_X4_clear l dC dI s.heap.size h0 qk qr mn lf lo (by first | assumption | omega | decide)) (cwV 1 hts g_X4_copy_X4_clear rfl rfl rfl (by decide +kernel) ⟨Nat.le_of_ble_eq_true rfl, Nat.le_of_ble_eq_true rfl⟩) ⟨fun a U g mk q => by obtain ⟨q0, q1, qP, qK, qD⟩ := q; exact ⟨q0, q1, qP, va_K.moved (u := U) (U := U.calling g mk a) (Vm.Alike.refl U.vm) qK, qD⟩, va_recv hKc hPc (ci := 4) (q0 := 0) rfl rfl, fun U hU hW => ⟨rfl, by rw [hU], by rw [hU]; exact hPc, va_K.moved hW.alike hKc, hDc.weaken (fun _ _ _ _ => trivial)⟩⟩ rfl rfl hl.1 rfl (lv_room (Nat.le_of_ble_eq_true rfl)) dX4_copy_5 ⟨(show 0 + 0 ≤ 0 by omega), (show 0 + 0 ≤ 0 by omega)⟩) hS (fun q _ h => hFc q h) hFc (fun u t H1 locs ht hvm hw hB hz1 hk1 hS => ?_)
  obtain ⟨hP1, hK1, hD1⟩ := hB
  rw [ht] at hP1
  have hK1 := va_K.moved hvm.symm hK1
  try dsimp only at hw
  obtain ⟨hP, hD⟩ := va_join (wr := [(qk, .inl (cK, n, .inl f)), (qr, .inl (cR, n, .inl g)), (h1, .inr (4, [.int lo, .int (nI mo), .ref rk, .ref rr])), (rk, .inl (cL, n2, .inl fo)), (rr, .inl (cS, n2, .inl go))]) (w1 := [(h0, .inr (4, [.int lo, .int 0, .ref qk, .ref qr]))]) hP hD [0] [1, 2, 3, 4, 5] rfl rfl (by decide) (by decide) hk1 hFc hP1 hD1
  have hK := (hK.sub (tys' := [(cK, .int), (cR, .int), (cL, .int), (cS, .int)]) [0, 1, 2, 3] rfl).app hK1
  generalize H1 = H at hP hS ⊢
  have hP : va_P (dC, dI) vwCl [(qk, .inl (cK, n, .inl f)), (qr, .inl (cR, n, .inl g)), (h1, .inr (4, [.int lo, .int (nI mo), .ref rk, .ref rr])), (rk, .inl (cL, n2, .inl fo)), (rr, .inl (cS, n2, .inl go)), (h0, .inr (4, [.int lo, .int 0, .ref qk, .ref qr]))] H := hP
  have hD : va_D A [(qk, .inl (cK, n, .inl f)), (qr, .inl (cR, n, .inl g)), (h1, .inr (4, [.int lo, .int (nI mo), .ref rk, .ref rr])), (rk, .inl (cL, n2, .inl fo)), (rr, .inl (cS, n2, .inl go)), (h0, .inr (4, [.int lo, .int 0, .ref qk, .ref qr]))] := hD
  have hK : va_K (dC, dI) vwCl [(cK, .int), (cR, .int), (cL, .int), (cS, .int)] s := hK
  refine lv_aload_n hx hb dX4_copy_8 rfl (lv_at hl 0 rfl) ?_
  refine lv_aload_n hx hb dX4_copy_9 rfl (lv_at hl 1 rfl) ?_
  refine lv_iconst (v := 0) hx hb dX4_copy_10 (by decide) ?_
  have hPc := hP.sub (ws' := [(h0, .inr (4, [.int lo, .int 0, .ref qk, .ref qr])), (qk, .inl (cK, n, .inl f)), (qr, .inl (cR, n, .inl g)), (h1, .inr (4, [.int lo, .int (nI mo), .ref rk, .ref rr])), (rk, .inl (cL, n2, .inl fo)), (rr, .inl (cS, n2, .inl go))]) [5, 0, 1, 2, 3, 4] rfl
  have hDc := hD.sub (ws' := [(h0, .inr (4, [.int lo, .int 0, .ref qk, .ref qr])), (qk, .inl (cK, n, .inl f)), (qr, .inl (cR, n, .inl g)), (h1, .inr (4, [.int lo, .int (nI mo), .ref rk, .ref rr])), (rk, .inl (cL, n2, .inl fo)), (rr, .inl (cS, n2, .inl go))]) [5, 0, 1, 2, 3, 4] (by decide) rfl
  have hKc := hK.sub (tys' := [(cK, .int), (cR, .int), (cL, .int), (cS, .int)]) [0, 1, 2, 3] rfl
  have hFc := va_free (wc := [(h0, .inr (4, [.int lo, .int 0, .ref qk, .ref qr])), (qk, .inl (cK, n, .inl f)), (qr, .inl (cR, n, .inl g)), (h1, .inr (4, [.int lo, .int (nI mo), .ref rk, .ref rr])), (rk, .inl (cL, n2, .inl fo)), (rr, .inl (cS, n2, .inl go))]) hD hS hA [5, 0, 1, 2, 3, 4] rfl
  refine va_callv (va_runV (As := [.ref h1, .int 0]) (rest := []) ⟨hx, hb, hml, hown, hts⟩ (c_X4_append l dC dI H.size h0 qk qr n 0 lo cK cR f g h1 rk rr n2 mo lo cL cS fo go 0 (by first | assumption | omega | decide) (by first | assumption | omega | decide) (by first | assumption | omega | decide) (by first | assumption | omega | decide)) (cwV 2 hts g_X4_copy_X4_append rfl rfl rfl (by decide +kernel) ⟨Nat.le_of_ble_eq_true rfl, Nat.le_of_ble_eq_true rfl⟩) ⟨fun a U g mk q => by obtain ⟨q0, q1, qP, qK, qD⟩ := q; exact ⟨q0, q1, qP, va_K.moved (u := U) (U := U.calling g mk a) (Vm.Alike.refl U.vm) qK, qD⟩, va_recv hKc hPc (ci := 4) (q0 := 0) rfl rfl, fun U hU hW => ⟨rfl, by rw [hU], by rw [hU]; exact hPc, va_K.moved hW.alike hKc, hDc.weaken (fun _ _ _ _ => trivial)⟩⟩ rfl rfl hl.1 rfl (lv_room (Nat.le_of_ble_eq_true rfl)) dX4_copy_11 ⟨(show 0 + 0 ≤ 0 by omega), (show 0 + 0 ≤ 0 by omega)⟩) hS (fun q _ h => hFc q h) hFc (fun u t H1 locs ht hvm hw hB hz1 hk1 hS => ?_)
  obtain ⟨m2_3, f2_4, g2_5⟩ := u
  obtain ⟨hP1, hK1, hD1⟩ := hB
  rw [ht] at hP1
  have hK1 := va_K.moved hvm.symm hK1
  try dsimp only at hw
  obtain ⟨hP, hD⟩ := va_join (wr := []) (w1 := [(h0, .inr (4, [.int lo, .int (nI m2_3), .ref qk, .ref qr])), (qk, .inl (cK, n, .inl f2_4)), (qr, .inl (cR, n, .inl g2_5)), (h1, .inr (4, [.int lo, .int (nI mo), .ref rk, .ref rr])), (rk, .inl (cL, n2, .inl fo)), (rr, .inl (cS, n2, .inl go))]) hP hD [5, 0, 1, 2, 3, 4] [] rfl rfl (by decide) (by decide) hk1 hFc hP1 hD1
  have hK := (hK.sub (tys' := []) [] rfl).app hK1
  generalize H1 = H at hP hS ⊢
  have hP : va_P (dC, dI) vwCl [(h0, .inr (4, [.int lo, .int (nI m2_3), .ref qk, .ref qr])), (qk, .inl (cK, n, .inl f2_4)), (qr, .inl (cR, n, .inl g2_5)), (h1, .inr (4, [.int lo, .int (nI mo), .ref rk, .ref rr])), (rk, .inl (cL, n2, .inl fo)), (rr, .inl (cS, n2, .inl go))] H := hP
  have hD : va_D A [(h0, .inr (4, [.int lo, .int (nI m2_3), .ref qk, .ref qr])), (qk, .inl (cK, n, .inl f2_4)), (qr, .inl (cR, n, .inl g2_5)), (h1, .inr (4, [.int lo, .int (nI mo), .ref rk, .ref rr])), (rk, .inl (cL, n2, .inl fo)), (rr, .inl (cS, n2, .inl go))] := hD
  have hK : va_K (dC, dI) vwCl [(cK, .int), (cR, .int), (cL, .int), (cS, .int)] s := hK
  have hw_r_2 := hw
  have hP9 := hP.sub (ws' := [(h0, .inr (4, [.int lo, .int (nI m2_3), .ref qk, .ref qr])), (qk, .inl (cK, n, .inl f2_4)), (qr, .inl (cR, n, .inl g2_5)), (h1, .inr (4, [.int lo, .int (nI mo), .ref rk, .ref rr])), (rk, .inl (cL, n2, .inl fo)), (rr, .inl (cS, n2, .inl go))]) [0, 1, 2, 3, 4, 5] rfl
  have hD9 := hD.sub (ws' := [(h0, .inr (4, [.int lo, .int (nI m2_3), .ref qk, .ref qr])), (qk, .inl (cK, n, .inl f2_4)), (qr, .inl (cR, n, .inl g2_5)), (h1, .inr (4, [.int lo, .int (nI mo), .ref rk, .ref rr])), (rk, .inl (cL, n2, .inl fo)), (rr, .inl (cS, n2, .inl go))]) [0, 1, 2, 3, 4, 5] (by decide) rfl
  have hK9 := hK.sub (tys' := [(cK, .int), (cR, .int), (cL, .int), (cS, .int)]) [0, 1, 2, 3] rfl
  exact W.vret hx hb hr (fun t ht hW => ⟨⟨(m2_3, f2_4, g2_5), rfl, by assumption, by rw [ht]; exact hP9, va_K.moved hW.alike hK9, hD9⟩, hS.F ht⟩) hS.2.2 dX4_copy_14
def v_X4_partInto : List Cond := .code yX4_partInto cX4_partInto 3 none :: ([.fieldLink RX4 22 "TwinRoots$Page" "many" "I", .fieldLink RX4 9 "TwinRoots$Page" "leaf" "Z", .code yX4_clear cX4_clear 2 none, .methodLink RX4 26 yX4_clear, .instanceMethod yX4_clear, .selects RX4 yX4_clear yX4_clear, .initialized RX4, .code yX4_append cX4_append 4 none, .fieldLink RX4 15 "TwinRoots$Page" "keys" "[I", .fieldLink RX4 19 "TwinRoots$Page" "refs" "[I", .code yX4_keyAt cX4_keyAt 2 (some .int), .methodLink RX4 34 yX4_keyAt, .instanceMethod yX4_keyAt, .selects RX4 yX4_keyAt yX4_keyAt, .code yX4_refAt cX4_refAt 2 (some .int), .methodLink RX4 38 yX4_refAt, .instanceMethod yX4_refAt, .selects RX4 yX4_refAt yX4_refAt, .methodLink RX4 30 yX4_append, .instanceMethod yX4_append, .selects RX4 yX4_append yX4_append] ++ (wsX40 ++ ([])))
set_option maxRecDepth 20000 in
theorem g_X4_partInto_X4_clear : GoodIn v_X4_partInto (wsV RX4 26 RX4 yX4_clear v_X4_clear) := goodIn_r _ [4, 5, 6, 7, 3, 2, 1, 22, 23, 24, 25] (by decide +kernel) (by decide +kernel)
set_option maxRecDepth 20000 in
theorem g_X4_partInto_X4_append : GoodIn v_X4_partInto (wsV RX4 30 RX4 yX4_append v_X4_append) := goodIn_r _ [19, 20, 21, 7, 8, 1, 9, 10, 11, 12, 13, 14, 7, 15, 16, 17, 18, 22, 23, 24, 25] (by decide +kernel) (by decide +kernel)
set_option maxHeartbeats 4000000 in
set_option maxRecDepth 100000 in
/-- partInto -/
theorem c_X4_partInto (l : Launch) (dC : Nat → ClassId) (dI : Nat → Nat → Nat) (sz : Nat) (h0 : Nat) (qk : Nat) (qr : Nat) (n : Nat) (mn : Nat) (lf : Int32) (cK : ClassId) (cR : ClassId) (f : Nat → Int32) (g : Nat → Int32) (h1 : Nat) (rk : Nat) (rr : Nat) (n2 : Nat) (mo : Nat) (lo : Int32) (cL : ClassId) (cS : ClassId) (fo : Nat → Int32) (go : Nat → Int32) (zn : n ≤ 40) (zm : mn ≤ n) (zn2 : n2 ≤ 40) (zo : mo ≤ n2) (zz : lf = 0 ∨ lf = 1) : Met l yX4_partInto v_X4_partInto ({ frames := 2, cells := 0, slots := 0, locals := 44 } : Room) (va_Pc [.ref h0, .ref h1] (fun U => U.heap.size = sz ∧ va_P (dC, dI) vwCl [(h0, .inr (4, [.int lf, .int (nI mn), .ref qk, .ref qr])), (qk, .inl (cK, n, .inl f)), (qr, .inl (cR, n, .inl g)), (h1, .inr (4, [.int lo, .int (nI mo), .ref rk, .ref rr])), (rk, .inl (cL, n2, .inl fo)), (rr, .inl (cS, n2, .inl go))] U.heap ∧ va_K (dC, dI) vwCl [(cK, .int), (cR, .int), (cL, .int), (cS, .int)] U ∧ va_D (fun _ => True) [(h0, .inr (4, [.int lf, .int (nI mn), .ref qk, .ref qr])), (qk, .inl (cK, n, .inl f)), (qr, .inl (cR, n, .inl g)), (h1, .inr (4, [.int lo, .int (nI mo), .ref rk, .ref rr])), (rk, .inl (cL, n2, .inl fo)), (rr, .inl (cS, n2, .inl go))])) (va_Qv (fun (u : Nat × Nat × (Nat → Int32) × (Nat → Int32)) => match u with | (m2, m3, f2, g2) => m2 ≤ n ∧ m3 ≤ n2) (fun (u : Nat × Nat × (Nat → Int32) × (Nat → Int32)) (t : State) => match u with | (m2, m3, f2, g2) => va_P (dC, dI) vwCl [(h0, .inr (4, [.int lf, .int (nI m2), .ref qk, .ref qr])), (qk, .inl (cK, n, .inl f)), (qr, .inl (cR, n, .inl g)), (h1, .inr (4, [.int lf, .int (nI m3), .ref rk, .ref rr])), (rk, .inl (cL, n2, .inl f2)), (rr, .inl (cS, n2, .inl g2))] t.heap ∧ va_K (dC, dI) vwCl [(cK, .int), (cR, .int), (cL, .int), (cS, .int)] t ∧ va_D (va_A [(h0, .inr (4, [.int lf, .int (nI mn), .ref qk, .ref qr])), (qk, .inl (cK, n, .inl f)), (qr, .inl (cR, n, .inl g)), (h1, .inr (4, [.int lo, .int (nI mo), .ref rk, .ref rr])), (rk, .inl (cL, n2, .inl fo)), (rr, .inl (cS, n2, .inl go))] sz) [(h0, .inr (4, [.int lf, .int (nI m2), .ref qk, .ref qr])), (qk, .inl (cK, n, .inl f)), (qr, .inl (cR, n, .inl g)), (h1, .inr (4, [.int lf, .int (nI m3), .ref rk, .ref rr])), (rk, .inl (cL, n2, .inl f2)), (rr, .inl (cS, n2, .inl g2))]) (va_A [(h0, .inr (4, [.int lf, .int (nI mn), .ref qk, .ref qr])), (qk, .inl (cK, n, .inl f)), (qr, .inl (cR, n, .inl g)), (h1, .inr (4, [.int lo, .int (nI mo), .ref rk, .ref rr])), (rk, .inl (cL, n2, .inl fo)), (rr, .inl (cS, n2, .inl go))] sz)) 0 0 (va_A [(h0, .inr (4, [.int lf, .int (nI mn), .ref qk, .ref qr])), (qk, .inl (cK, n, .inl f)), (qr, .inl (cR, n, .inl g)), (h1, .inr (4, [.int lo, .int (nI mo), .ref rk, .ref rr])), (rk, .inl (cL, n2, .inl fo)), (rr, .inl (cS, n2, .inl go))] sz) := by
  refine Met.ofW (cc := cX4_partInto) (maxL := 3) (ret := none) (by decide) rfl ?_
  intro p e s m args below meth c s₁ B hml hv
  obtain ⟨rfl, hsz, hP, hK, hD0⟩ := hv
  have hx := B.exec
  have hb := B.bytes
  have hr := B.returns
  have hts := atoms_spec (ws := v_X4_partInto) B.pre
  have hown : s.vm.findClass RX4 = some m.cls := findClass_of_methodNamed B.named
  have hlocks := B.notSynchronized
  subst hsz
  have hD := hD0.self (sz := s.heap.size)
  generalize hAe : va_A [(h0, .inr (4, [.int lf, .int (nI mn), .ref qk, .ref qr])), (qk, .inl (cK, n, .inl f)), (qr, .inl (cR, n, .inl g)), (h1, .inr (4, [.int lo, .int (nI mo), .ref rk, .ref rr])), (rk, .inl (cL, n2, .inl fo)), (rr, .inl (cS, n2, .inl go))] s.heap.size = A at hD ⊢
  have hA : ∀ q : Nat, s.heap.size ≤ q → A q := fun q h => by rw [← hAe]; exact Or.inr h
  have hS : va_S A s.heap s.heap [] := va_S.rf
  have hP : va_P (dC, dI) vwCl [(h0, .inr (4, [.int lf, .int (nI mn), .ref qk, .ref qr])), (qk, .inl (cK, n, .inl f)), (qr, .inl (cR, n, .inl g)), (h1, .inr (4, [.int lo, .int (nI mo), .ref rk, .ref rr])), (rk, .inl (cL, n2, .inl fo)), (rr, .inl (cS, n2, .inl go))] s.heap := hP
  have hl := lv_entry ([.ref h0, .ref h1]) (n := 3) (Nat.le_of_ble_eq_true rfl)
  rw [lg_entry_eq]
  generalize (lg_sl ([.ref h0, .ref h1]) ++ List.replicate (3 - (lg_sl ([.ref h0, .ref h1])).length) Slot.unset).toArray = ls at hl ⊢
  have hl : lv_has ls 3 [(0, .ref h0), (1, .ref h1)] := hl
  have k_1 := (fun _ h => List.mem_cons_of_mem _ (List.mem_append_right _ (List.mem_append_left _ h)) : ∀ w ∈ wsX40, w ∈ v_X4_partInto)
  have k_2 := hts (.fieldLink RX4 22 "TwinRoots$Page" "many" "I") (List.mem_of_getElem? (i := 1) rfl)
  have k_3 := hts (.fieldLink RX4 9 "TwinRoots$Page" "leaf" "Z") (List.mem_of_getElem? (i := 2) rfl)
  refine lv_aload_n hx hb dX4_partInto_0 rfl (lv_at hl 0 rfl) ?_
  refine va_get (D := (dC, dI)) (ci := 4) (v := .int (nI mn)) (C := RX4) (T := TX4) (N := 4) hx hb hts k_1 hown hK hP 0 rfl rfl 1 (by decide) k_2 (fun _ h9 => h9) rfl dX4_partInto_1 ?_
  refine lv_iconst (v := 1) hx hb dX4_partInto_4 (by decide) ?_
  refine lv_iadd hx hb dX4_partInto_5 ?_
  refine lv_topi (fun z_1 ez_1 => ?_)
  obtain rfl : z_1 = nI (mn + 1) := ez_1.trans (nI_1 mn)
  refine lv_iconst (v := 2) hx hb dX4_partInto_6 (by decide) ?_
  refine lv_idiv hx hb dX4_partInto_7 (by decide) ?_
  refine lv_topi (fun z_2 ez_2 => ?_)
  obtain rfl : z_2 = nI ((mn + 1) / 2) := ez_2.trans (pk_div (a := mn + 1) (d := 2) (by omega) (by decide) (by decide))
  refine lv_istore_n (lv' := [(2, .int (nI ((mn + 1) / 2))), (0, .ref h0), (1, .ref h1)]) hx hb dX4_partInto_8 rfl hl (by decide) rfl (fun ls hl => ?_)
  refine lv_aload_n hx hb dX4_partInto_9 rfl (lv_at hl 2 rfl) ?_
  refine lv_aload_n hx hb dX4_partInto_10 rfl (lv_at hl 1 rfl) ?_
  refine va_get (D := (dC, dI)) (ci := 4) (v := .int lf) (C := RX4) (T := TX4) (N := 4) hx hb hts k_1 hown hK hP 0 rfl rfl 0 (by decide) k_3 (fun _ h9 => h9) rfl dX4_partInto_11 ?_
  have hPc := hP.sub (ws' := [(h1, .inr (4, [.int lo, .int (nI mo), .ref rk, .ref rr]))]) [3] rfl
  have hDc := hD.sub (ws' := [(h1, .inr (4, [.int lo, .int (nI mo), .ref rk, .ref rr]))]) [3] (by decide) rfl
  have hKc := hK.sub (tys' := []) [] rfl
  have hFc := va_free (wc := [(h1, .inr (4, [.int lo, .int (nI mo), .ref rk, .ref rr]))]) hD hS hA [3] rfl
  refine va_callv (va_runV (As := [.int lf]) (rest := []) ⟨hx, hb, hml, hown, hts⟩ (c_X4_clear l dC dI s.heap.size h1 rk rr mo lo lf (by first | assumption | omega | decide)) (cwV 1 hts g_X4_partInto_X4_clear rfl rfl rfl (by decide +kernel) ⟨Nat.le_of_ble_eq_true rfl, Nat.le_of_ble_eq_true rfl⟩) ⟨fun a U g mk q => by obtain ⟨q0, q1, qP, qK, qD⟩ := q; exact ⟨q0, q1, qP, va_K.moved (u := U) (U := U.calling g mk a) (Vm.Alike.refl U.vm) qK, qD⟩, va_recv hKc hPc (ci := 4) (q0 := 0) rfl rfl, fun U hU hW => ⟨rfl, by rw [hU], by rw [hU]; exact hPc, va_K.moved hW.alike hKc, hDc.weaken (fun _ _ _ _ => trivial)⟩⟩ rfl rfl hl.1 rfl (lv_room (Nat.le_of_ble_eq_true rfl)) dX4_partInto_14 ⟨(show 0 + 0 ≤ 0 by omega), (show 0 + 0 ≤ 0 by omega)⟩) hS (fun q _ h => hFc q h) hFc (fun u t H1 locs ht hvm hw hB hz1 hk1 hS => ?_)
  obtain ⟨hP1, hK1, hD1⟩ := hB
  rw [ht] at hP1
  have hK1 := va_K.moved hvm.symm hK1
  try dsimp only at hw
  obtain ⟨hP, hD⟩ := va_join (wr := [(h0, .inr (4, [.int lf, .int (nI mn), .ref qk, .ref qr])), (qk, .inl (cK, n, .inl f)), (qr, .inl (cR, n, .inl g)), (rk, .inl (cL, n2, .inl fo)), (rr, .inl (cS, n2, .inl go))]) (w1 := [(h1, .inr (4, [.int lf, .int 0, .ref rk, .ref rr]))]) hP hD [3] [0, 1, 2, 4, 5] rfl rfl (by decide) (by decide) hk1 hFc hP1 hD1
  have hK := (hK.sub (tys' := [(cK, .int), (cR, .int), (cL, .int), (cS, .int)]) [0, 1, 2, 3] rfl).app hK1
  generalize H1 = H at hP hS ⊢
  have hP : va_P (dC, dI) vwCl [(h0, .inr (4, [.int lf, .int (nI mn), .ref qk, .ref qr])), (qk, .inl (cK, n, .inl f)), (qr, .inl (cR, n, .inl g)), (rk, .inl (cL, n2, .inl fo)), (rr, .inl (cS, n2, .inl go)), (h1, .inr (4, [.int lf, .int 0, .ref rk, .ref rr]))] H := hP
  have hD : va_D A [(h0, .inr (4, [.int lf, .int (nI mn), .ref qk, .ref qr])), (qk, .inl (cK, n, .inl f)), (qr, .inl (cR, n, .inl g)), (rk, .inl (cL, n2, .inl fo)), (rr, .inl (cS, n2, .inl go)), (h1, .inr (4, [.int lf, .int 0, .ref rk, .ref rr]))] := hD
  have hK : va_K (dC, dI) vwCl [(cK, .int), (cR, .int), (cL, .int), (cS, .int)] s := hK
  refine lv_aload_n hx hb dX4_partInto_17 rfl (lv_at hl 2 rfl) ?_
  refine lv_aload_n hx hb dX4_partInto_18 rfl (lv_at hl 1 rfl) ?_
  refine lv_iload_n hx hb dX4_partInto_19 rfl (lv_at hl 0 rfl) ?_
  have hPc := hP.sub (ws' := [(h1, .inr (4, [.int lf, .int 0, .ref rk, .ref rr])), (rk, .inl (cL, n2, .inl fo)), (rr, .inl (cS, n2, .inl go)), (h0, .inr (4, [.int lf, .int (nI mn), .ref qk, .ref qr])), (qk, .inl (cK, n, .inl f)), (qr, .inl (cR, n, .inl g))]) [5, 3, 4, 0, 1, 2] rfl
  have hDc := hD.sub (ws' := [(h1, .inr (4, [.int lf, .int 0, .ref rk, .ref rr])), (rk, .inl (cL, n2, .inl fo)), (rr, .inl (cS, n2, .inl go)), (h0, .inr (4, [.int lf, .int (nI mn), .ref qk, .ref qr])), (qk, .inl (cK, n, .inl f)), (qr, .inl (cR, n, .inl g))]) [5, 3, 4, 0, 1, 2] (by decide) rfl
  have hKc := hK.sub (tys' := [(cL, .int), (cS, .int), (cK, .int), (cR, .int)]) [2, 3, 0, 1] rfl
  have hFc := va_free (wc := [(h1, .inr (4, [.int lf, .int 0, .ref rk, .ref rr])), (rk, .inl (cL, n2, .inl fo)), (rr, .inl (cS, n2, .inl go)), (h0, .inr (4, [.int lf, .int (nI mn), .ref qk, .ref qr])), (qk, .inl (cK, n, .inl f)), (qr, .inl (cR, n, .inl g))]) hD hS hA [5, 3, 4, 0, 1, 2] rfl
  refine va_callv (va_runV (As := [.ref h0, .int (nI ((mn + 1) / 2))]) (rest := []) ⟨hx, hb, hml, hown, hts⟩ (c_X4_append l dC dI H.size h1 rk rr n2 0 lf cL cS fo go h0 qk qr n mn lf cK cR f g (nI ((mn + 1) / 2)) (by first | assumption | omega | decide) (by first | assumption | omega | decide) (by first | assumption | omega | decide) (by first | assumption | omega | decide)) (cwV 2 hts g_X4_partInto_X4_append rfl rfl rfl (by decide +kernel) ⟨Nat.le_of_ble_eq_true rfl, Nat.le_of_ble_eq_true rfl⟩) ⟨fun a U g mk q => by obtain ⟨q0, q1, qP, qK, qD⟩ := q; exact ⟨q0, q1, qP, va_K.moved (u := U) (U := U.calling g mk a) (Vm.Alike.refl U.vm) qK, qD⟩, va_recv hKc hPc (ci := 4) (q0 := 0) rfl rfl, fun U hU hW => ⟨rfl, by rw [hU], by rw [hU]; exact hPc, va_K.moved hW.alike hKc, hDc.weaken (fun _ _ _ _ => trivial)⟩⟩ rfl rfl hl.1 rfl (lv_room (Nat.le_of_ble_eq_true rfl)) dX4_partInto_20 ⟨(show 0 + 0 ≤ 0 by omega), (show 0 + 0 ≤ 0 by omega)⟩) hS (fun q _ h => hFc q h) hFc (fun u t H1 locs ht hvm hw hB hz1 hk1 hS => ?_)
  obtain ⟨m2_5, f2_6, g2_7⟩ := u
  obtain ⟨hP1, hK1, hD1⟩ := hB
  rw [ht] at hP1
  have hK1 := va_K.moved hvm.symm hK1
  try dsimp only at hw
  obtain ⟨hP, hD⟩ := va_join (wr := []) (w1 := [(h1, .inr (4, [.int lf, .int (nI m2_5), .ref rk, .ref rr])), (rk, .inl (cL, n2, .inl f2_6)), (rr, .inl (cS, n2, .inl g2_7)), (h0, .inr (4, [.int lf, .int (nI mn), .ref qk, .ref qr])), (qk, .inl (cK, n, .inl f)), (qr, .inl (cR, n, .inl g))]) hP hD [5, 3, 4, 0, 1, 2] [] rfl rfl (by decide) (by decide) hk1 hFc hP1 hD1
  have hK := (hK.sub (tys' := []) [] rfl).app hK1
  generalize H1 = H at hP hS ⊢
  have hP : va_P (dC, dI) vwCl [(h1, .inr (4, [.int lf, .int (nI m2_5), .ref rk, .ref rr])), (rk, .inl (cL, n2, .inl f2_6)), (rr, .inl (cS, n2, .inl g2_7)), (h0, .inr (4, [.int lf, .int (nI mn), .ref qk, .ref qr])), (qk, .inl (cK, n, .inl f)), (qr, .inl (cR, n, .inl g))] H := hP
  have hD : va_D A [(h1, .inr (4, [.int lf, .int (nI m2_5), .ref rk, .ref rr])), (rk, .inl (cL, n2, .inl f2_6)), (rr, .inl (cS, n2, .inl g2_7)), (h0, .inr (4, [.int lf, .int (nI mn), .ref qk, .ref qr])), (qk, .inl (cK, n, .inl f)), (qr, .inl (cR, n, .inl g))] := hD
  have hK : va_K (dC, dI) vwCl [(cL, .int), (cS, .int), (cK, .int), (cR, .int)] s := hK
  have hw_r_4 := hw
  refine lv_aload_n hx hb dX4_partInto_23 rfl (lv_at hl 1 rfl) ?_
  refine lv_iload_n hx hb dX4_partInto_24 rfl (lv_at hl 0 rfl) ?_
  refine va_put (D := (dC, dI)) (ci := 4) (v := .int (nI ((mn + 1) / 2))) (ty := .int) (C := RX4) (T := TX4) (N := 4) hx hb hts k_1 tyX4 tyX4_ok nmX4 hown hK hP hD hS 3 rfl rfl 1 (by decide) k_2 (fun _ h9 => h9) rfl (by decide +kernel) rfl rfl (Nat.le_of_ble_eq_true rfl) dX4_partInto_25 (fun H locs hP hD hS => ?_)
  have hP : va_P (dC, dI) vwCl [(h1, .inr (4, [.int lf, .int (nI m2_5), .ref rk, .ref rr])), (rk, .inl (cL, n2, .inl f2_6)), (rr, .inl (cS, n2, .inl g2_7)), (h0, .inr (4, [.int lf, .int (nI ((mn + 1) / 2)), .ref qk, .ref qr])), (qk, .inl (cK, n, .inl f)), (qr, .inl (cR, n, .inl g))] H := hP
  have hD : va_D A [(h1, .inr (4, [.int lf, .int (nI m2_5), .ref rk, .ref rr])), (rk, .inl (cL, n2, .inl f2_6)), (rr, .inl (cS, n2, .inl g2_7)), (h0, .inr (4, [.int lf, .int (nI ((mn + 1) / 2)), .ref qk, .ref qr])), (qk, .inl (cK, n, .inl f)), (qr, .inl (cR, n, .inl g))] := hD
  have hP9 := hP.sub (ws' := [(h0, .inr (4, [.int lf, .int (nI ((mn + 1) / 2)), .ref qk, .ref qr])), (qk, .inl (cK, n, .inl f)), (qr, .inl (cR, n, .inl g)), (h1, .inr (4, [.int lf, .int (nI m2_5), .ref rk, .ref rr])), (rk, .inl (cL, n2, .inl f2_6)), (rr, .inl (cS, n2, .inl g2_7))]) [3, 4, 5, 0, 1, 2] rfl
  have hD9 := hD.sub (ws' := [(h0, .inr (4, [.int lf, .int (nI ((mn + 1) / 2)), .ref qk, .ref qr])), (qk, .inl (cK, n, .inl f)), (qr, .inl (cR, n, .inl g)), (h1, .inr (4, [.int lf, .int (nI m2_5), .ref rk, .ref rr])), (rk, .inl (cL, n2, .inl f2_6)), (rr, .inl (cS, n2, .inl g2_7))]) [3, 4, 5, 0, 1, 2] (by decide) rfl
  have hK9 := hK.sub (tys' := [(cK, .int), (cR, .int), (cL, .int), (cS, .int)]) [2, 3, 0, 1] rfl
  exact W.vret hx hb hr (fun t ht hW => ⟨⟨((mn + 1) / 2, m2_5, f2_6, g2_7), rfl, ⟨by omega, by assumption⟩, by rw [ht]; exact hP9, va_K.moved hW.alike hK9, hD9⟩, hS.F ht⟩) hS.2.2 dX4_partInto_28

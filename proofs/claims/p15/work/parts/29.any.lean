def v_X4_insert_any : List Cond := .code yX4_insert cX4_insert 5 none :: ([.fieldLink RX4 22 "TwinRoots$Page" "many" "I", .fieldLink RX4 15 "TwinRoots$Page" "keys" "[I", .fieldLink RX4 19 "TwinRoots$Page" "refs" "[I", .code yX4_keyAt cX4_keyAt 2 (some .int), .methodLink RX4 34 yX4_keyAt, .instanceMethod yX4_keyAt, .selects RX4 yX4_keyAt yX4_keyAt, .initialized RX4, .code yX4_setKey cX4_setKey 3 none, .methodLink RX4 41 yX4_setKey, .instanceMethod yX4_setKey, .selects RX4 yX4_setKey yX4_setKey, .code yX4_refAt cX4_refAt 2 (some .int), .methodLink RX4 38 yX4_refAt, .instanceMethod yX4_refAt, .selects RX4 yX4_refAt yX4_refAt, .code yX4_setRef cX4_setRef 3 none, .methodLink RX4 45 yX4_setRef, .instanceMethod yX4_setRef, .selects RX4 yX4_setRef yX4_setRef] ++ (wsX40 ++ ([])))
set_option maxRecDepth 20000 in
theorem g_X4_insert_any_X4_keyAt : GoodIn v_X4_insert_any (wsV RX4 34 RX4 yX4_keyAt v_X4_keyAt) := goodIn_r _ [5, 6, 7, 8, 4, 1, 2, 21, 22, 23, 24] (by decide +kernel) (by decide +kernel)
set_option maxRecDepth 20000 in
theorem g_X4_insert_any_X4_setKey : GoodIn v_X4_insert_any (wsV RX4 41 RX4 yX4_setKey v_X4_setKey) := goodIn_r _ [10, 11, 12, 8, 9, 1, 2, 21, 22, 23, 24] (by decide +kernel) (by decide +kernel)
set_option maxRecDepth 20000 in
theorem g_X4_insert_any_X4_refAt : GoodIn v_X4_insert_any (wsV RX4 38 RX4 yX4_refAt v_X4_refAt) := goodIn_r _ [14, 15, 16, 8, 13, 1, 3, 21, 22, 23, 24] (by decide +kernel) (by decide +kernel)
set_option maxRecDepth 20000 in
theorem g_X4_insert_any_X4_setRef : GoodIn v_X4_insert_any (wsV RX4 45 RX4 yX4_setRef v_X4_setRef) := goodIn_r _ [18, 19, 20, 8, 17, 1, 3, 21, 22, 23, 24] (by decide +kernel) (by decide +kernel)
set_option maxHeartbeats 4000000 in
set_option maxRecDepth 100000 in
/-- insert at any place -/
theorem c_X4_insert_any (l : Launch) (dC : Nat → ClassId) (dI : Nat → Nat → Nat) (sz : Nat) (h0 : Nat) (qk : Nat) (qr : Nat) (n : Nat) (mn : Nat) (lf : Int32) (cK : ClassId) (cR : ClassId) (f : Nat → Int32) (g : Nat → Int32) (p0 : Int32) (p1 : Int32) (p2 : Int32) (zn : n ≤ 40) (zm : mn ≤ n) : Met l yX4_insert v_X4_insert_any ({ frames := 1, cells := 0, slots := 0, locals := 22 } : Room) (va_Pc [.ref h0, .int p0, .int p1, .int p2] (fun U => U.heap.size = sz ∧ va_P (dC, dI) vwCl [(h0, .inr (4, [.int lf, .int (nI mn), .ref qk, .ref qr])), (qk, .inl (cK, n, .inl f)), (qr, .inl (cR, n, .inl g))] U.heap ∧ va_K (dC, dI) vwCl [(cK, .int), (cR, .int)] U ∧ va_D (fun _ => True) [(h0, .inr (4, [.int lf, .int (nI mn), .ref qk, .ref qr])), (qk, .inl (cK, n, .inl f)), (qr, .inl (cR, n, .inl g))])) (va_Qv (fun (u : Nat × (Nat → Int32) × (Nat → Int32)) => match u with | (m2, f2, g2) => m2 ≤ n) (fun (u : Nat × (Nat → Int32) × (Nat → Int32)) (t : State) => match u with | (m2, f2, g2) => va_P (dC, dI) vwCl [(h0, .inr (4, [.int lf, .int (nI m2), .ref qk, .ref qr])), (qk, .inl (cK, n, .inl f2)), (qr, .inl (cR, n, .inl g2))] t.heap ∧ va_K (dC, dI) vwCl [(cK, .int), (cR, .int)] t ∧ va_D (va_A [(h0, .inr (4, [.int lf, .int (nI mn), .ref qk, .ref qr])), (qk, .inl (cK, n, .inl f)), (qr, .inl (cR, n, .inl g))] sz) [(h0, .inr (4, [.int lf, .int (nI m2), .ref qk, .ref qr])), (qk, .inl (cK, n, .inl f2)), (qr, .inl (cR, n, .inl g2))]) (va_A [(h0, .inr (4, [.int lf, .int (nI mn), .ref qk, .ref qr])), (qk, .inl (cK, n, .inl f)), (qr, .inl (cR, n, .inl g))] sz)) 0 0 (va_A [(h0, .inr (4, [.int lf, .int (nI mn), .ref qk, .ref qr])), (qk, .inl (cK, n, .inl f)), (qr, .inl (cR, n, .inl g))] sz) := by
  refine Met.ofW (cc := cX4_insert) (maxL := 5) (ret := none) (by decide) rfl ?_
  intro p e s m args below meth c s₁ B hml hv
  obtain ⟨rfl, hsz, hP, hK, hD0⟩ := hv
  have hx := B.exec
  have hb := B.bytes
  have hr := B.returns
  have hts := atoms_spec (ws := v_X4_insert_any) B.pre
  have hown : s.vm.findClass RX4 = some m.cls := findClass_of_methodNamed B.named
  have hlocks := B.notSynchronized
  subst hsz
  have hD := hD0.self (sz := s.heap.size)
  generalize hAe : va_A [(h0, .inr (4, [.int lf, .int (nI mn), .ref qk, .ref qr])), (qk, .inl (cK, n, .inl f)), (qr, .inl (cR, n, .inl g))] s.heap.size = A at hD ⊢
  have hA : ∀ q : Nat, s.heap.size ≤ q → A q := fun q h => by rw [← hAe]; exact Or.inr h
  have hS : va_S A s.heap s.heap [] := va_S.rf
  have hP : va_P (dC, dI) vwCl [(h0, .inr (4, [.int lf, .int (nI mn), .ref qk, .ref qr])), (qk, .inl (cK, n, .inl f)), (qr, .inl (cR, n, .inl g))] s.heap := hP
  have hl := lv_entry ([.ref h0, .int p0, .int p1, .int p2]) (n := 5) (Nat.le_of_ble_eq_true rfl)
  rw [lg_entry_eq]
  generalize (lg_sl ([.ref h0, .int p0, .int p1, .int p2]) ++ List.replicate (5 - (lg_sl ([.ref h0, .int p0, .int p1, .int p2])).length) Slot.unset).toArray = ls at hl ⊢
  have hl : lv_has ls 5 [(0, .ref h0), (1, .int p0), (2, .int p1), (3, .int p2)] := hl
  have k_1 := (fun _ h => List.mem_cons_of_mem _ (List.mem_append_right _ (List.mem_append_left _ h)) : ∀ w ∈ wsX40, w ∈ v_X4_insert_any)
  have k_2 := hts (.fieldLink RX4 22 "TwinRoots$Page" "many" "I") (List.mem_of_getElem? (i := 1) rfl)
  have k_3 := hts (.fieldLink RX4 15 "TwinRoots$Page" "keys" "[I") (List.mem_of_getElem? (i := 2) rfl)
  have k_4 := hts (.fieldLink RX4 19 "TwinRoots$Page" "refs" "[I") (List.mem_of_getElem? (i := 3) rfl)
  refine lv_iload_n hx hb dX4_insert_0 rfl (lv_at hl 1 rfl) ?_
  refine lv_if_lt (tgt := 36) hx hb dX4_insert_1 (by decide) (fun c_1 => ?_) (fun c_1 => ?_)
  · have hP9 := hP.sub (ws' := [(h0, .inr (4, [.int lf, .int (nI mn), .ref qk, .ref qr])), (qk, .inl (cK, n, .inl f)), (qr, .inl (cR, n, .inl g))]) [0, 1, 2] rfl
    have hD9 := hD.sub (ws' := [(h0, .inr (4, [.int lf, .int (nI mn), .ref qk, .ref qr])), (qk, .inl (cK, n, .inl f)), (qr, .inl (cR, n, .inl g))]) [0, 1, 2] (by decide) rfl
    have hK9 := hK.sub (tys' := [(cK, .int), (cR, .int)]) [0, 1] rfl
    exact W.vret hx hb hr (fun t ht hW => ⟨⟨(mn, f, g), rfl, (by omega), by rw [ht]; exact hP9, va_K.moved hW.alike hK9, hD9⟩, hS.F ht⟩) hS.2.2 dX4_insert_36
  · obtain ⟨a0, ha0, ea0⟩ := nI_of c_1
    have hl : lv_has ls 5 [(0, .ref h0), (1, .int (nI a0)), (2, .int p1), (3, .int p2)] := by rw [← ea0]; exact hl
    refine lv_iload_n hx hb dX4_insert_4 rfl (lv_at hl 1 rfl) ?_
    refine lv_aload_n hx hb dX4_insert_5 rfl (lv_at hl 0 rfl) ?_
    refine va_get (D := (dC, dI)) (ci := 4) (v := .int (nI mn)) (C := RX4) (T := TX4) (N := 4) hx hb hts k_1 hown hK hP 0 rfl rfl 1 (by decide) k_2 (fun _ h9 => h9) rfl dX4_insert_6 ?_
    refine lv_icmp_gt (tgt := 36) hx hb dX4_insert_9 (by decide) (fun c_2 => ?_) (fun c_2 => ?_)
    · have hP9 := hP.sub (ws' := [(h0, .inr (4, [.int lf, .int (nI mn), .ref qk, .ref qr])), (qk, .inl (cK, n, .inl f)), (qr, .inl (cR, n, .inl g))]) [0, 1, 2] rfl
      have hD9 := hD.sub (ws' := [(h0, .inr (4, [.int lf, .int (nI mn), .ref qk, .ref qr])), (qk, .inl (cK, n, .inl f)), (qr, .inl (cR, n, .inl g))]) [0, 1, 2] (by decide) rfl
      have hK9 := hK.sub (tys' := [(cK, .int), (cR, .int)]) [0, 1] rfl
      exact W.vret hx hb hr (fun t ht hW => ⟨⟨(mn, f, g), rfl, (by omega), by rw [ht]; exact hP9, va_K.moved hW.alike hK9, hD9⟩, hS.F ht⟩) hS.2.2 dX4_insert_36
    · have hq : a0 ≤ mn := Nat.le_of_not_lt (fun h => c_2 (nI_lt h (by omega)))
      refine lv_aload_n hx hb dX4_insert_12 rfl (lv_at hl 0 rfl) ?_
      refine va_get (D := (dC, dI)) (ci := 4) (v := .int (nI mn)) (C := RX4) (T := TX4) (N := 4) hx hb hts k_1 hown hK hP 0 rfl rfl 1 (by decide) k_2 (fun _ h9 => h9) rfl dX4_insert_13 ?_
      refine lv_aload_n hx hb dX4_insert_16 rfl (lv_at hl 0 rfl) ?_
      refine va_get (D := (dC, dI)) (ci := 4) (v := .ref qk) (C := RX4) (T := TX4) (N := 4) hx hb hts k_1 hown hK hP 0 rfl rfl 2 (by decide) k_3 (fun _ h9 => h9) rfl dX4_insert_17 ?_
      refine va_alen (v := nI n) hx hb hK hP 1 0 rfl rfl rfl dX4_insert_20 ?_
      refine lv_icmp_ge (tgt := 36) hx hb dX4_insert_21 (by decide) (fun c_3 => ?_) (fun c_3 => ?_)
      · have hP9 := hP.sub (ws' := [(h0, .inr (4, [.int lf, .int (nI mn), .ref qk, .ref qr])), (qk, .inl (cK, n, .inl f)), (qr, .inl (cR, n, .inl g))]) [0, 1, 2] rfl
        have hD9 := hD.sub (ws' := [(h0, .inr (4, [.int lf, .int (nI mn), .ref qk, .ref qr])), (qk, .inl (cK, n, .inl f)), (qr, .inl (cR, n, .inl g))]) [0, 1, 2] (by decide) rfl
        have hK9 := hK.sub (tys' := [(cK, .int), (cR, .int)]) [0, 1] rfl
        exact W.vret hx hb hr (fun t ht hW => ⟨⟨(mn, f, g), rfl, (by omega), by rw [ht]; exact hP9, va_K.moved hW.alike hK9, hD9⟩, hS.F ht⟩) hS.2.2 dX4_insert_36
      · have hm : mn < n := Nat.lt_of_not_le (fun h => c_3 (nI_le h (by omega)))
        refine lv_aload_n hx hb dX4_insert_24 rfl (lv_at hl 0 rfl) ?_
        refine va_get (D := (dC, dI)) (ci := 4) (v := .int (nI mn)) (C := RX4) (T := TX4) (N := 4) hx hb hts k_1 hown hK hP 0 rfl rfl 1 (by decide) k_2 (fun _ h9 => h9) rfl dX4_insert_25 ?_
        refine lv_aload_n hx hb dX4_insert_28 rfl (lv_at hl 0 rfl) ?_
        refine va_get (D := (dC, dI)) (ci := 4) (v := .ref qr) (C := RX4) (T := TX4) (N := 4) hx hb hts k_1 hown hK hP 0 rfl rfl 3 (by decide) k_4 (fun _ h9 => h9) rfl dX4_insert_29 ?_
        refine va_alen (v := nI n) hx hb hK hP 2 1 rfl rfl rfl dX4_insert_32 ?_
        refine lv_icmp_lt (tgt := 37) hx hb dX4_insert_33 (by decide) (fun c_4 => ?_) (fun c_4 => ?_)
        rotate_left
        · exact absurd (nI_lt hm (by omega)) c_4
        refine lv_aload_n hx hb dX4_insert_37 rfl (lv_at hl 0 rfl) ?_
        refine lv_dup hx hb dX4_insert_38 rfl ?_
        refine va_get (D := (dC, dI)) (ci := 4) (v := .int (nI mn)) (C := RX4) (T := TX4) (N := 4) hx hb hts k_1 hown hK hP 0 rfl rfl 1 (by decide) k_2 (fun _ h9 => h9) rfl dX4_insert_39 ?_
        refine lv_iconst (v := 1) hx hb dX4_insert_42 (by decide) ?_
        refine lv_iadd hx hb dX4_insert_43 ?_
        refine lv_topi (fun z_5 ez_5 => ?_)
        obtain rfl : z_5 = nI (mn + 1) := ez_5.trans (nI_1 mn)
        refine va_put (D := (dC, dI)) (ci := 4) (v := .int (nI (mn + 1))) (ty := .int) (C := RX4) (T := TX4) (N := 4) hx hb hts k_1 tyX4 tyX4_ok nmX4 hown hK hP hD hS 0 rfl rfl 1 (by decide) k_2 (fun _ h9 => h9) rfl (by decide +kernel) rfl rfl (Nat.le_of_ble_eq_true rfl) dX4_insert_44 (fun H locs hP hD hS => ?_)
        have hP : va_P (dC, dI) vwCl [(h0, .inr (4, [.int lf, .int (nI (mn + 1)), .ref qk, .ref qr])), (qk, .inl (cK, n, .inl f)), (qr, .inl (cR, n, .inl g))] H := hP
        have hD : va_D A [(h0, .inr (4, [.int lf, .int (nI (mn + 1)), .ref qk, .ref qr])), (qk, .inl (cK, n, .inl f)), (qr, .inl (cR, n, .inl g))] := hD
        refine lv_aload_n hx hb dX4_insert_47 rfl (lv_at hl 0 rfl) ?_
        refine va_get (D := (dC, dI)) (ci := 4) (v := .int (nI (mn + 1))) (C := RX4) (T := TX4) (N := 4) hx hb hts k_1 hown hK hP 0 rfl rfl 1 (by decide) k_2 (fun _ h9 => h9) rfl dX4_insert_48 ?_
        refine lv_iconst (v := 1) hx hb dX4_insert_51 (by decide) ?_
        refine lv_isub hx hb dX4_insert_52 ?_
        refine lv_topi (fun z_6 ez_6 => ?_)
        obtain rfl : z_6 = nI mn := ez_6.trans (nI_pred mn)
        refine lv_istore (lv' := [(4, .int (nI mn)), (0, .ref h0), (1, .int (nI a0)), (2, .int p1), (3, .int p2)]) hx hb dX4_insert_53 hl (by decide) rfl (fun ls hl => ?_)
        have loop_55 : ∀ (Q : State → Prop), (∀ (i : Nat) (xv : Int32) (fv : Nat → Int32) (gv : Nat → Int32) (H : Heap) (locs : List Loc) (ls : Array Slot), i ≤ mn → (xv = nI (mn - i)) → va_P (dC, dI) vwCl [(h0, .inr (4, [.int lf, .int (nI (mn + 1)), .ref qk, .ref qr])), (qk, .inl (cK, n, .inl fv)), (qr, .inl (cR, n, .inl gv))] H → va_D A [(h0, .inr (4, [.int lf, .int (nI (mn + 1)), .ref qk, .ref qr])), (qk, .inl (cK, n, .inl fv)), (qr, .inl (cR, n, .inl gv))] → va_S A s.heap H locs → lv_has ls 5 [(0, .ref h0), (1, .int (nI a0)), (2, .int p1), (3, .int p2), (4, .int xv)] → W p l e (headSpec v_X4_insert_any ({ frames := 1, cells := 0, slots := 0, locals := 22 } : Room)).room s m ([.ref h0, .int p0, .int p1, .int p2] : List Value).toArray below meth c H locs 0 0 Q (F0 m 95 ls [])) → ∀ (nf i : Nat) (xv : Int32) (fv : Nat → Int32) (gv : Nat → Int32) (H : Heap) (locs : List Loc) (ls : Array Slot), i ≤ mn → mn + 1 ≤ i + nf → (xv = nI (mn - i)) → va_P (dC, dI) vwCl [(h0, .inr (4, [.int lf, .int (nI (mn + 1)), .ref qk, .ref qr])), (qk, .inl (cK, n, .inl fv)), (qr, .inl (cR, n, .inl gv))] H → va_D A [(h0, .inr (4, [.int lf, .int (nI (mn + 1)), .ref qk, .ref qr])), (qk, .inl (cK, n, .inl fv)), (qr, .inl (cR, n, .inl gv))] → va_S A s.heap H locs → lv_has ls 5 [(0, .ref h0), (1, .int (nI a0)), (2, .int p1), (3, .int p2), (4, .int xv)] → W p l e (headSpec v_X4_insert_any ({ frames := 1, cells := 0, slots := 0, locals := 22 } : Room)).room s m ([.ref h0, .int p0, .int p1, .int p2] : List Value).toArray below meth c H locs 0 0 Q (F0 m 55 ls []) := by
          intro Q kx nf
          induction nf with
          | zero =>
            intro i xv fv gv H locs ls h1 h2
            exact absurd h2 (by omega)
          | succ nf ih =>
            intro i xv fv gv H locs ls hi hn hxv hP hD hS hl
            refine lv_iload hx hb dX4_insert_55 (lv_at hl 4 rfl) ?_
            refine lv_iload_n hx hb dX4_insert_57 rfl (lv_at hl 1 rfl) ?_
            refine lv_icmp_le (tgt := 95) hx hb dX4_insert_58 (by decide) (fun c_7 => ?_) (fun c_7 => ?_)
            · exact kx i xv fv gv _ _ _ (by omega) hxv hP hD hS (lv_sub hl [0, 1, 2, 3, 4] rfl)
            · have hlt : a0 < mn - i := by
                rw [hxv] at c_7
                exact Nat.lt_of_not_le (fun h => c_7 (nI_le h (by omega)))
              refine lv_aload_n hx hb dX4_insert_61 rfl (lv_at hl 0 rfl) ?_
              refine lv_iload hx hb dX4_insert_62 (lv_at hl 4 rfl) ?_
              refine lv_aload_n hx hb dX4_insert_64 rfl (lv_at hl 0 rfl) ?_
              refine lv_iload hx hb dX4_insert_65 (lv_at hl 4 rfl) ?_
              refine lv_iconst (v := 1) hx hb dX4_insert_67 (by decide) ?_
              refine lv_isub hx hb dX4_insert_68 ?_
              refine lv_topi (fun z_8 _ => ?_)
              have hPc := hP.sub (ws' := [(h0, .inr (4, [.int lf, .int (nI (mn + 1)), .ref qk, .ref qr])), (qk, .inl (cK, n, .inl fv)), (qr, .inl (cR, n, .inl gv))]) [0, 1, 2] rfl
              have hDc := hD.sub (ws' := [(h0, .inr (4, [.int lf, .int (nI (mn + 1)), .ref qk, .ref qr])), (qk, .inl (cK, n, .inl fv)), (qr, .inl (cR, n, .inl gv))]) [0, 1, 2] (by decide) rfl
              have hKc := hK.sub (tys' := [(cK, .int), (cR, .int)]) [0, 1] rfl
              have hFc := va_free (wc := [(h0, .inr (4, [.int lf, .int (nI (mn + 1)), .ref qk, .ref qr])), (qk, .inl (cK, n, .inl fv)), (qr, .inl (cR, n, .inl gv))]) hD hS hA [0, 1, 2] rfl
              refine va_calli (va_runV (As := [.int z_8]) (rest := [.int xv, .ref h0]) ⟨hx, hb, hml, hown, hts⟩ (c_X4_keyAt l dC dI H.size h0 qk qr n (mn + 1) lf cK cR fv gv z_8 (by first | assumption | omega | decide) (by first | assumption | omega | decide)) (cwV 1 hts g_X4_insert_any_X4_keyAt rfl rfl rfl (by decide +kernel) ⟨Nat.le_of_ble_eq_true rfl, Nat.le_of_ble_eq_true rfl⟩) ⟨fun a U g mk q => by obtain ⟨q0, q1, qP, qK, qD⟩ := q; exact ⟨q0, q1, qP, va_K.moved (u := U) (U := U.calling g mk a) (Vm.Alike.refl U.vm) qK, qD⟩, va_recv hKc hPc (ci := 4) (q0 := 0) rfl rfl, fun U hU hW => ⟨rfl, by rw [hU], by rw [hU]; exact hPc, va_K.moved hW.alike hKc, hDc.weaken (fun _ _ _ _ => trivial)⟩⟩ rfl rfl hl.1 rfl (lv_room (Nat.le_of_ble_eq_true rfl)) dX4_insert_69 ⟨(show 0 + 0 ≤ 0 by omega), (show 0 + 0 ≤ 0 by omega)⟩) hS (fun q _ h => hFc q h) hFc (fun r_9 u t H1 locs ht hvm hw hB hz1 hk1 hS => ?_)
              obtain ⟨hP1, hK1, hD1⟩ := hB
              rw [ht] at hP1
              have hK1 := va_K.moved hvm.symm hK1
              try dsimp only at hw
              obtain ⟨hP, hD⟩ := va_join (wr := []) (w1 := [(h0, .inr (4, [.int lf, .int (nI (mn + 1)), .ref qk, .ref qr])), (qk, .inl (cK, n, .inl fv)), (qr, .inl (cR, n, .inl gv))]) hP hD [0, 1, 2] [] rfl rfl (by decide) (by decide) hk1 hFc hP1 hD1
              have hK := (hK.sub (tys' := []) [] rfl).app hK1
              generalize H1 = H at hP hS ⊢
              have hP : va_P (dC, dI) vwCl [(h0, .inr (4, [.int lf, .int (nI (mn + 1)), .ref qk, .ref qr])), (qk, .inl (cK, n, .inl fv)), (qr, .inl (cR, n, .inl gv))] H := hP
              have hD : va_D A [(h0, .inr (4, [.int lf, .int (nI (mn + 1)), .ref qk, .ref qr])), (qk, .inl (cK, n, .inl fv)), (qr, .inl (cR, n, .inl gv))] := hD
              have hK : va_K (dC, dI) vwCl [(cK, .int), (cR, .int)] s := hK
              have hw_r_9 := hw
              have hPc := hP.sub (ws' := [(h0, .inr (4, [.int lf, .int (nI (mn + 1)), .ref qk, .ref qr])), (qk, .inl (cK, n, .inl fv)), (qr, .inl (cR, n, .inl gv))]) [0, 1, 2] rfl
              have hDc := hD.sub (ws' := [(h0, .inr (4, [.int lf, .int (nI (mn + 1)), .ref qk, .ref qr])), (qk, .inl (cK, n, .inl fv)), (qr, .inl (cR, n, .inl gv))]) [0, 1, 2] (by decide) rfl
              have hKc := hK.sub (tys' := [(cK, .int), (cR, .int)]) [0, 1] rfl
              have hFc := va_free (wc := [(h0, .inr (4, [.int lf, .int (nI (mn + 1)), .ref qk, .ref qr])), (qk, .inl (cK, n, .inl fv)), (qr, .inl (cR, n, .inl gv))]) hD hS hA [0, 1, 2] rfl
              refine va_callv (va_runV (As := [.int xv, .int r_9]) (rest := []) ⟨hx, hb, hml, hown, hts⟩ (c_X4_setKey l dC dI H.size h0 qk qr n (mn + 1) lf cK cR fv gv xv r_9 (by first | assumption | omega | decide) (by first | assumption | omega | decide)) (cwV 2 hts g_X4_insert_any_X4_setKey rfl rfl rfl (by decide +kernel) ⟨Nat.le_of_ble_eq_true rfl, Nat.le_of_ble_eq_true rfl⟩) ⟨fun a U g mk q => by obtain ⟨q0, q1, qP, qK, qD⟩ := q; exact ⟨q0, q1, qP, va_K.moved (u := U) (U := U.calling g mk a) (Vm.Alike.refl U.vm) qK, qD⟩, va_recv hKc hPc (ci := 4) (q0 := 0) rfl rfl, fun U hU hW => ⟨rfl, by rw [hU], by rw [hU]; exact hPc, va_K.moved hW.alike hKc, hDc.weaken (fun _ _ _ _ => trivial)⟩⟩ rfl rfl hl.1 rfl (lv_room (Nat.le_of_ble_eq_true rfl)) dX4_insert_72 ⟨(show 0 + 0 ≤ 0 by omega), (show 0 + 0 ≤ 0 by omega)⟩) hS (fun q _ h => hFc q h) hFc (fun u t H1 locs ht hvm hw hB hz1 hk1 hS => ?_)
              obtain ⟨f2_11, rfl⟩ : ∃ z, z = u := ⟨_, rfl⟩
              obtain ⟨hP1, hK1, hD1⟩ := hB
              rw [ht] at hP1
              have hK1 := va_K.moved hvm.symm hK1
              try dsimp only at hw
              obtain ⟨hP, hD⟩ := va_join (wr := []) (w1 := [(h0, .inr (4, [.int lf, .int (nI (mn + 1)), .ref qk, .ref qr])), (qk, .inl (cK, n, .inl f2_11)), (qr, .inl (cR, n, .inl gv))]) hP hD [0, 1, 2] [] rfl rfl (by decide) (by decide) hk1 hFc hP1 hD1
              have hK := (hK.sub (tys' := []) [] rfl).app hK1
              generalize H1 = H at hP hS ⊢
              have hP : va_P (dC, dI) vwCl [(h0, .inr (4, [.int lf, .int (nI (mn + 1)), .ref qk, .ref qr])), (qk, .inl (cK, n, .inl f2_11)), (qr, .inl (cR, n, .inl gv))] H := hP
              have hD : va_D A [(h0, .inr (4, [.int lf, .int (nI (mn + 1)), .ref qk, .ref qr])), (qk, .inl (cK, n, .inl f2_11)), (qr, .inl (cR, n, .inl gv))] := hD
              have hK : va_K (dC, dI) vwCl [(cK, .int), (cR, .int)] s := hK
              refine lv_aload_n hx hb dX4_insert_75 rfl (lv_at hl 0 rfl) ?_
              refine lv_iload hx hb dX4_insert_76 (lv_at hl 4 rfl) ?_
              refine lv_aload_n hx hb dX4_insert_78 rfl (lv_at hl 0 rfl) ?_
              refine lv_iload hx hb dX4_insert_79 (lv_at hl 4 rfl) ?_
              refine lv_iconst (v := 1) hx hb dX4_insert_81 (by decide) ?_
              refine lv_isub hx hb dX4_insert_82 ?_
              refine lv_topi (fun z_12 _ => ?_)
              have hPc := hP.sub (ws' := [(h0, .inr (4, [.int lf, .int (nI (mn + 1)), .ref qk, .ref qr])), (qk, .inl (cK, n, .inl f2_11)), (qr, .inl (cR, n, .inl gv))]) [0, 1, 2] rfl
              have hDc := hD.sub (ws' := [(h0, .inr (4, [.int lf, .int (nI (mn + 1)), .ref qk, .ref qr])), (qk, .inl (cK, n, .inl f2_11)), (qr, .inl (cR, n, .inl gv))]) [0, 1, 2] (by decide) rfl
              have hKc := hK.sub (tys' := [(cK, .int), (cR, .int)]) [0, 1] rfl
              have hFc := va_free (wc := [(h0, .inr (4, [.int lf, .int (nI (mn + 1)), .ref qk, .ref qr])), (qk, .inl (cK, n, .inl f2_11)), (qr, .inl (cR, n, .inl gv))]) hD hS hA [0, 1, 2] rfl
              refine va_calli (va_runV (As := [.int z_12]) (rest := [.int xv, .ref h0]) ⟨hx, hb, hml, hown, hts⟩ (c_X4_refAt l dC dI H.size h0 qk qr n (mn + 1) lf cK cR f2_11 gv z_12 (by first | assumption | omega | decide) (by first | assumption | omega | decide)) (cwV 1 hts g_X4_insert_any_X4_refAt rfl rfl rfl (by decide +kernel) ⟨Nat.le_of_ble_eq_true rfl, Nat.le_of_ble_eq_true rfl⟩) ⟨fun a U g mk q => by obtain ⟨q0, q1, qP, qK, qD⟩ := q; exact ⟨q0, q1, qP, va_K.moved (u := U) (U := U.calling g mk a) (Vm.Alike.refl U.vm) qK, qD⟩, va_recv hKc hPc (ci := 4) (q0 := 0) rfl rfl, fun U hU hW => ⟨rfl, by rw [hU], by rw [hU]; exact hPc, va_K.moved hW.alike hKc, hDc.weaken (fun _ _ _ _ => trivial)⟩⟩ rfl rfl hl.1 rfl (lv_room (Nat.le_of_ble_eq_true rfl)) dX4_insert_83 ⟨(show 0 + 0 ≤ 0 by omega), (show 0 + 0 ≤ 0 by omega)⟩) hS (fun q _ h => hFc q h) hFc (fun r_13 u t H1 locs ht hvm hw hB hz1 hk1 hS => ?_)
              obtain ⟨hP1, hK1, hD1⟩ := hB
              rw [ht] at hP1
              have hK1 := va_K.moved hvm.symm hK1
              try dsimp only at hw
              obtain ⟨hP, hD⟩ := va_join (wr := []) (w1 := [(h0, .inr (4, [.int lf, .int (nI (mn + 1)), .ref qk, .ref qr])), (qk, .inl (cK, n, .inl f2_11)), (qr, .inl (cR, n, .inl gv))]) hP hD [0, 1, 2] [] rfl rfl (by decide) (by decide) hk1 hFc hP1 hD1
              have hK := (hK.sub (tys' := []) [] rfl).app hK1
              generalize H1 = H at hP hS ⊢
              have hP : va_P (dC, dI) vwCl [(h0, .inr (4, [.int lf, .int (nI (mn + 1)), .ref qk, .ref qr])), (qk, .inl (cK, n, .inl f2_11)), (qr, .inl (cR, n, .inl gv))] H := hP
              have hD : va_D A [(h0, .inr (4, [.int lf, .int (nI (mn + 1)), .ref qk, .ref qr])), (qk, .inl (cK, n, .inl f2_11)), (qr, .inl (cR, n, .inl gv))] := hD
              have hK : va_K (dC, dI) vwCl [(cK, .int), (cR, .int)] s := hK
              have hw_r_13 := hw
              have hPc := hP.sub (ws' := [(h0, .inr (4, [.int lf, .int (nI (mn + 1)), .ref qk, .ref qr])), (qk, .inl (cK, n, .inl f2_11)), (qr, .inl (cR, n, .inl gv))]) [0, 1, 2] rfl
              have hDc := hD.sub (ws' := [(h0, .inr (4, [.int lf, .int (nI (mn + 1)), .ref qk, .ref qr])), (qk, .inl (cK, n, .inl f2_11)), (qr, .inl (cR, n, .inl gv))]) [0, 1, 2] (by decide) rfl
              have hKc := hK.sub (tys' := [(cK, .int), (cR, .int)]) [0, 1] rfl
              have hFc := va_free (wc := [(h0, .inr (4, [.int lf, .int (nI (mn + 1)), .ref qk, .ref qr])), (qk, .inl (cK, n, .inl f2_11)), (qr, .inl (cR, n, .inl gv))]) hD hS hA [0, 1, 2] rfl
              refine va_callv (va_runV (As := [.int xv, .int r_13]) (rest := []) ⟨hx, hb, hml, hown, hts⟩ (c_X4_setRef l dC dI H.size h0 qk qr n (mn + 1) lf cK cR f2_11 gv xv r_13 (by first | assumption | omega | decide) (by first | assumption | omega | decide)) (cwV 2 hts g_X4_insert_any_X4_setRef rfl rfl rfl (by decide +kernel) ⟨Nat.le_of_ble_eq_true rfl, Nat.le_of_ble_eq_true rfl⟩) ⟨fun a U g mk q => by obtain ⟨q0, q1, qP, qK, qD⟩ := q; exact ⟨q0, q1, qP, va_K.moved (u := U) (U := U.calling g mk a) (Vm.Alike.refl U.vm) qK, qD⟩, va_recv hKc hPc (ci := 4) (q0 := 0) rfl rfl, fun U hU hW => ⟨rfl, by rw [hU], by rw [hU]; exact hPc, va_K.moved hW.alike hKc, hDc.weaken (fun _ _ _ _ => trivial)⟩⟩ rfl rfl hl.1 rfl (lv_room (Nat.le_of_ble_eq_true rfl)) dX4_insert_86 ⟨(show 0 + 0 ≤ 0 by omega), (show 0 + 0 ≤ 0 by omega)⟩) hS (fun q _ h => hFc q h) hFc (fun u t H1 locs ht hvm hw hB hz1 hk1 hS => ?_)
              obtain ⟨f2_15, rfl⟩ : ∃ z, z = u := ⟨_, rfl⟩
              obtain ⟨hP1, hK1, hD1⟩ := hB
              rw [ht] at hP1
              have hK1 := va_K.moved hvm.symm hK1
              try dsimp only at hw
              obtain ⟨hP, hD⟩ := va_join (wr := []) (w1 := [(h0, .inr (4, [.int lf, .int (nI (mn + 1)), .ref qk, .ref qr])), (qk, .inl (cK, n, .inl f2_11)), (qr, .inl (cR, n, .inl f2_15))]) hP hD [0, 1, 2] [] rfl rfl (by decide) (by decide) hk1 hFc hP1 hD1
              have hK := (hK.sub (tys' := []) [] rfl).app hK1
              generalize H1 = H at hP hS ⊢
              have hP : va_P (dC, dI) vwCl [(h0, .inr (4, [.int lf, .int (nI (mn + 1)), .ref qk, .ref qr])), (qk, .inl (cK, n, .inl f2_11)), (qr, .inl (cR, n, .inl f2_15))] H := hP
              have hD : va_D A [(h0, .inr (4, [.int lf, .int (nI (mn + 1)), .ref qk, .ref qr])), (qk, .inl (cK, n, .inl f2_11)), (qr, .inl (cR, n, .inl f2_15))] := hD
              have hK : va_K (dC, dI) vwCl [(cK, .int), (cR, .int)] s := hK
              obtain ⟨x_16, ex_16⟩ : ∃ y : Int32, xv + Int32.ofInt (-1) = y := ⟨_, rfl⟩
              refine lv_iinc (v := x_16) (lv' := [(4, .int x_16), (0, .ref h0), (1, .int (nI a0)), (2, .int p1), (3, .int p2)]) hx hb dX4_insert_89 hl (k := 4) rfl (ex_16) (by decide) rfl (fun ls hl => ?_)
              refine lv_goto (tgt := 55) hx hb dX4_insert_92 (by decide) ?_
              exact ih (i + 1) x_16 f2_11 f2_15 _ _ _ (by omega) (by omega) (by rw [← ex_16, hxv, show mn - i = (mn - (i + 1)) + 1 by omega]; exact pk_m1 _) hP hD hS (lv_sub hl [1, 2, 3, 4, 0] rfl)
        refine loop_55 _ (fun i xv fv gv H locs ls hi hxv hP hD hS hl => ?_) (mn + 1) 0 (nI mn) f g _ _ _ (by omega) (by omega) rfl hP hD hS (lv_sub hl [1, 2, 3, 4, 0] rfl)
        refine lv_aload_n hx hb dX4_insert_95 rfl (lv_at hl 0 rfl) ?_
        refine lv_iload_n hx hb dX4_insert_96 rfl (lv_at hl 1 rfl) ?_
        refine lv_iload_n hx hb dX4_insert_97 rfl (lv_at hl 2 rfl) ?_
        have hPc := hP.sub (ws' := [(h0, .inr (4, [.int lf, .int (nI (mn + 1)), .ref qk, .ref qr])), (qk, .inl (cK, n, .inl fv)), (qr, .inl (cR, n, .inl gv))]) [0, 1, 2] rfl
        have hDc := hD.sub (ws' := [(h0, .inr (4, [.int lf, .int (nI (mn + 1)), .ref qk, .ref qr])), (qk, .inl (cK, n, .inl fv)), (qr, .inl (cR, n, .inl gv))]) [0, 1, 2] (by decide) rfl
        have hKc := hK.sub (tys' := [(cK, .int), (cR, .int)]) [0, 1] rfl
        have hFc := va_free (wc := [(h0, .inr (4, [.int lf, .int (nI (mn + 1)), .ref qk, .ref qr])), (qk, .inl (cK, n, .inl fv)), (qr, .inl (cR, n, .inl gv))]) hD hS hA [0, 1, 2] rfl
        refine va_callv (va_runV (As := [.int (nI a0), .int p1]) (rest := []) ⟨hx, hb, hml, hown, hts⟩ (c_X4_setKey l dC dI H.size h0 qk qr n (mn + 1) lf cK cR fv gv (nI a0) p1 (by first | assumption | omega | decide) (by first | assumption | omega | decide)) (cwV 2 hts g_X4_insert_any_X4_setKey rfl rfl rfl (by decide +kernel) ⟨Nat.le_of_ble_eq_true rfl, Nat.le_of_ble_eq_true rfl⟩) ⟨fun a U g mk q => by obtain ⟨q0, q1, qP, qK, qD⟩ := q; exact ⟨q0, q1, qP, va_K.moved (u := U) (U := U.calling g mk a) (Vm.Alike.refl U.vm) qK, qD⟩, va_recv hKc hPc (ci := 4) (q0 := 0) rfl rfl, fun U hU hW => ⟨rfl, by rw [hU], by rw [hU]; exact hPc, va_K.moved hW.alike hKc, hDc.weaken (fun _ _ _ _ => trivial)⟩⟩ rfl rfl hl.1 rfl (lv_room (Nat.le_of_ble_eq_true rfl)) dX4_insert_98 ⟨(show 0 + 0 ≤ 0 by omega), (show 0 + 0 ≤ 0 by omega)⟩) hS (fun q _ h => hFc q h) hFc (fun u t H1 locs ht hvm hw hB hz1 hk1 hS => ?_)
        obtain ⟨f2_18, rfl⟩ : ∃ z, z = u := ⟨_, rfl⟩
        obtain ⟨hP1, hK1, hD1⟩ := hB
        rw [ht] at hP1
        have hK1 := va_K.moved hvm.symm hK1
        try dsimp only at hw
        obtain ⟨hP, hD⟩ := va_join (wr := []) (w1 := [(h0, .inr (4, [.int lf, .int (nI (mn + 1)), .ref qk, .ref qr])), (qk, .inl (cK, n, .inl f2_18)), (qr, .inl (cR, n, .inl gv))]) hP hD [0, 1, 2] [] rfl rfl (by decide) (by decide) hk1 hFc hP1 hD1
        have hK := (hK.sub (tys' := []) [] rfl).app hK1
        generalize H1 = H at hP hS ⊢
        have hP : va_P (dC, dI) vwCl [(h0, .inr (4, [.int lf, .int (nI (mn + 1)), .ref qk, .ref qr])), (qk, .inl (cK, n, .inl f2_18)), (qr, .inl (cR, n, .inl gv))] H := hP
        have hD : va_D A [(h0, .inr (4, [.int lf, .int (nI (mn + 1)), .ref qk, .ref qr])), (qk, .inl (cK, n, .inl f2_18)), (qr, .inl (cR, n, .inl gv))] := hD
        have hK : va_K (dC, dI) vwCl [(cK, .int), (cR, .int)] s := hK
        refine lv_aload_n hx hb dX4_insert_101 rfl (lv_at hl 0 rfl) ?_
        refine lv_iload_n hx hb dX4_insert_102 rfl (lv_at hl 1 rfl) ?_
        refine lv_iload_n hx hb dX4_insert_103 rfl (lv_at hl 3 rfl) ?_
        have hPc := hP.sub (ws' := [(h0, .inr (4, [.int lf, .int (nI (mn + 1)), .ref qk, .ref qr])), (qk, .inl (cK, n, .inl f2_18)), (qr, .inl (cR, n, .inl gv))]) [0, 1, 2] rfl
        have hDc := hD.sub (ws' := [(h0, .inr (4, [.int lf, .int (nI (mn + 1)), .ref qk, .ref qr])), (qk, .inl (cK, n, .inl f2_18)), (qr, .inl (cR, n, .inl gv))]) [0, 1, 2] (by decide) rfl
        have hKc := hK.sub (tys' := [(cK, .int), (cR, .int)]) [0, 1] rfl
        have hFc := va_free (wc := [(h0, .inr (4, [.int lf, .int (nI (mn + 1)), .ref qk, .ref qr])), (qk, .inl (cK, n, .inl f2_18)), (qr, .inl (cR, n, .inl gv))]) hD hS hA [0, 1, 2] rfl
        refine va_callv (va_runV (As := [.int (nI a0), .int p2]) (rest := []) ⟨hx, hb, hml, hown, hts⟩ (c_X4_setRef l dC dI H.size h0 qk qr n (mn + 1) lf cK cR f2_18 gv (nI a0) p2 (by first | assumption | omega | decide) (by first | assumption | omega | decide)) (cwV 2 hts g_X4_insert_any_X4_setRef rfl rfl rfl (by decide +kernel) ⟨Nat.le_of_ble_eq_true rfl, Nat.le_of_ble_eq_true rfl⟩) ⟨fun a U g mk q => by obtain ⟨q0, q1, qP, qK, qD⟩ := q; exact ⟨q0, q1, qP, va_K.moved (u := U) (U := U.calling g mk a) (Vm.Alike.refl U.vm) qK, qD⟩, va_recv hKc hPc (ci := 4) (q0 := 0) rfl rfl, fun U hU hW => ⟨rfl, by rw [hU], by rw [hU]; exact hPc, va_K.moved hW.alike hKc, hDc.weaken (fun _ _ _ _ => trivial)⟩⟩ rfl rfl hl.1 rfl (lv_room (Nat.le_of_ble_eq_true rfl)) dX4_insert_104 ⟨(show 0 + 0 ≤ 0 by omega), (show 0 + 0 ≤ 0 by omega)⟩) hS (fun q _ h => hFc q h) hFc (fun u t H1 locs ht hvm hw hB hz1 hk1 hS => ?_)
        obtain ⟨f2_20, rfl⟩ : ∃ z, z = u := ⟨_, rfl⟩
        obtain ⟨hP1, hK1, hD1⟩ := hB
        rw [ht] at hP1
        have hK1 := va_K.moved hvm.symm hK1
        try dsimp only at hw
        obtain ⟨hP, hD⟩ := va_join (wr := []) (w1 := [(h0, .inr (4, [.int lf, .int (nI (mn + 1)), .ref qk, .ref qr])), (qk, .inl (cK, n, .inl f2_18)), (qr, .inl (cR, n, .inl f2_20))]) hP hD [0, 1, 2] [] rfl rfl (by decide) (by decide) hk1 hFc hP1 hD1
        have hK := (hK.sub (tys' := []) [] rfl).app hK1
        generalize H1 = H at hP hS ⊢
        have hP : va_P (dC, dI) vwCl [(h0, .inr (4, [.int lf, .int (nI (mn + 1)), .ref qk, .ref qr])), (qk, .inl (cK, n, .inl f2_18)), (qr, .inl (cR, n, .inl f2_20))] H := hP
        have hD : va_D A [(h0, .inr (4, [.int lf, .int (nI (mn + 1)), .ref qk, .ref qr])), (qk, .inl (cK, n, .inl f2_18)), (qr, .inl (cR, n, .inl f2_20))] := hD
        have hK : va_K (dC, dI) vwCl [(cK, .int), (cR, .int)] s := hK
        have hP9 := hP.sub (ws' := [(h0, .inr (4, [.int lf, .int (nI (mn + 1)), .ref qk, .ref qr])), (qk, .inl (cK, n, .inl f2_18)), (qr, .inl (cR, n, .inl f2_20))]) [0, 1, 2] rfl
        have hD9 := hD.sub (ws' := [(h0, .inr (4, [.int lf, .int (nI (mn + 1)), .ref qk, .ref qr])), (qk, .inl (cK, n, .inl f2_18)), (qr, .inl (cR, n, .inl f2_20))]) [0, 1, 2] (by decide) rfl
        have hK9 := hK.sub (tys' := [(cK, .int), (cR, .int)]) [0, 1] rfl
        exact W.vret hx hb hr (fun t ht hW => ⟨⟨(mn + 1, f2_18, f2_20), rfl, (by omega), by rw [ht]; exact hP9, va_K.moved hW.alike hK9, hD9⟩, hS.F ht⟩) hS.2.2 dX4_insert_107
def v_X4_takeOut_any : List Cond := .code yX4_takeOut cX4_takeOut 3 none :: ([.fieldLink RX4 22 "TwinRoots$Page" "many" "I", .code yX4_keyAt cX4_keyAt 2 (some .int), .fieldLink RX4 15 "TwinRoots$Page" "keys" "[I", .methodLink RX4 34 yX4_keyAt, .instanceMethod yX4_keyAt, .selects RX4 yX4_keyAt yX4_keyAt, .initialized RX4, .code yX4_setKey cX4_setKey 3 none, .methodLink RX4 41 yX4_setKey, .instanceMethod yX4_setKey, .selects RX4 yX4_setKey yX4_setKey, .code yX4_refAt cX4_refAt 2 (some .int), .fieldLink RX4 19 "TwinRoots$Page" "refs" "[I", .methodLink RX4 38 yX4_refAt, .instanceMethod yX4_refAt, .selects RX4 yX4_refAt yX4_refAt, .code yX4_setRef cX4_setRef 3 none, .methodLink RX4 45 yX4_setRef, .instanceMethod yX4_setRef, .selects RX4 yX4_setRef yX4_setRef] ++ (wsX40 ++ ([])))
set_option maxRecDepth 20000 in
theorem g_X4_takeOut_any_X4_keyAt : GoodIn v_X4_takeOut_any (wsV RX4 34 RX4 yX4_keyAt v_X4_keyAt) := goodIn_r _ [4, 5, 6, 7, 2, 1, 3, 21, 22, 23, 24] (by decide +kernel) (by decide +kernel)
set_option maxRecDepth 20000 in
theorem g_X4_takeOut_any_X4_setKey : GoodIn v_X4_takeOut_any (wsV RX4 41 RX4 yX4_setKey v_X4_setKey) := goodIn_r _ [9, 10, 11, 7, 8, 1, 3, 21, 22, 23, 24] (by decide +kernel) (by decide +kernel)
set_option maxRecDepth 20000 in
theorem g_X4_takeOut_any_X4_refAt : GoodIn v_X4_takeOut_any (wsV RX4 38 RX4 yX4_refAt v_X4_refAt) := goodIn_r _ [14, 15, 16, 7, 12, 1, 13, 21, 22, 23, 24] (by decide +kernel) (by decide +kernel)
set_option maxRecDepth 20000 in
theorem g_X4_takeOut_any_X4_setRef : GoodIn v_X4_takeOut_any (wsV RX4 45 RX4 yX4_setRef v_X4_setRef) := goodIn_r _ [18, 19, 20, 7, 17, 1, 13, 21, 22, 23, 24] (by decide +kernel) (by decide +kernel)
set_option maxHeartbeats 4000000 in
set_option maxRecDepth 100000 in
/-- takeOut at any place -/
theorem c_X4_takeOut_any (l : Launch) (dC : Nat → ClassId) (dI : Nat → Nat → Nat) (sz : Nat) (h0 : Nat) (qk : Nat) (qr : Nat) (n : Nat) (mn : Nat) (lf : Int32) (cK : ClassId) (cR : ClassId) (f : Nat → Int32) (g : Nat → Int32) (p0 : Int32) (zn : n ≤ 40) (zm : mn ≤ n) : Met l yX4_takeOut v_X4_takeOut_any ({ frames := 1, cells := 0, slots := 0, locals := 22 } : Room) (va_Pc [.ref h0, .int p0] (fun U => U.heap.size = sz ∧ va_P (dC, dI) vwCl [(h0, .inr (4, [.int lf, .int (nI mn), .ref qk, .ref qr])), (qk, .inl (cK, n, .inl f)), (qr, .inl (cR, n, .inl g))] U.heap ∧ va_K (dC, dI) vwCl [(cK, .int), (cR, .int)] U ∧ va_D (fun _ => True) [(h0, .inr (4, [.int lf, .int (nI mn), .ref qk, .ref qr])), (qk, .inl (cK, n, .inl f)), (qr, .inl (cR, n, .inl g))])) (va_Qv (fun (u : Nat × (Nat → Int32) × (Nat → Int32)) => match u with | (m2, f2, g2) => m2 ≤ n) (fun (u : Nat × (Nat → Int32) × (Nat → Int32)) (t : State) => match u with | (m2, f2, g2) => va_P (dC, dI) vwCl [(h0, .inr (4, [.int lf, .int (nI m2), .ref qk, .ref qr])), (qk, .inl (cK, n, .inl f2)), (qr, .inl (cR, n, .inl g2))] t.heap ∧ va_K (dC, dI) vwCl [(cK, .int), (cR, .int)] t ∧ va_D (va_A [(h0, .inr (4, [.int lf, .int (nI mn), .ref qk, .ref qr])), (qk, .inl (cK, n, .inl f)), (qr, .inl (cR, n, .inl g))] sz) [(h0, .inr (4, [.int lf, .int (nI m2), .ref qk, .ref qr])), (qk, .inl (cK, n, .inl f2)), (qr, .inl (cR, n, .inl g2))]) (va_A [(h0, .inr (4, [.int lf, .int (nI mn), .ref qk, .ref qr])), (qk, .inl (cK, n, .inl f)), (qr, .inl (cR, n, .inl g))] sz)) 0 0 (va_A [(h0, .inr (4, [.int lf, .int (nI mn), .ref qk, .ref qr])), (qk, .inl (cK, n, .inl f)), (qr, .inl (cR, n, .inl g))] sz) := by
  refine Met.ofW (cc := cX4_takeOut) (maxL := 3) (ret := none) (by decide) rfl ?_
  intro p e s m args below meth c s₁ B hml hv
  obtain ⟨rfl, hsz, hP, hK, hD0⟩ := hv
  have hx := B.exec
  have hb := B.bytes
  have hr := B.returns
  have hts := atoms_spec (ws := v_X4_takeOut_any) B.pre
  have hown : s.vm.findClass RX4 = some m.cls := findClass_of_methodNamed B.named
  have hlocks := B.notSynchronized
  subst hsz
  have hD := hD0.self (sz := s.heap.size)
  generalize hAe : va_A [(h0, .inr (4, [.int lf, .int (nI mn), .ref qk, .ref qr])), (qk, .inl (cK, n, .inl f)), (qr, .inl (cR, n, .inl g))] s.heap.size = A at hD ⊢
  have hA : ∀ q : Nat, s.heap.size ≤ q → A q := fun q h => by rw [← hAe]; exact Or.inr h
  have hS : va_S A s.heap s.heap [] := va_S.rf
  have hP : va_P (dC, dI) vwCl [(h0, .inr (4, [.int lf, .int (nI mn), .ref qk, .ref qr])), (qk, .inl (cK, n, .inl f)), (qr, .inl (cR, n, .inl g))] s.heap := hP
  have hl := lv_entry ([.ref h0, .int p0]) (n := 3) (Nat.le_of_ble_eq_true rfl)
  rw [lg_entry_eq]
  generalize (lg_sl ([.ref h0, .int p0]) ++ List.replicate (3 - (lg_sl ([.ref h0, .int p0])).length) Slot.unset).toArray = ls at hl ⊢
  have hl : lv_has ls 3 [(0, .ref h0), (1, .int p0)] := hl
  have k_1 := (fun _ h => List.mem_cons_of_mem _ (List.mem_append_right _ (List.mem_append_left _ h)) : ∀ w ∈ wsX40, w ∈ v_X4_takeOut_any)
  have k_2 := hts (.fieldLink RX4 22 "TwinRoots$Page" "many" "I") (List.mem_of_getElem? (i := 1) rfl)
  refine lv_iload_n hx hb dX4_takeOut_0 rfl (lv_at hl 1 rfl) ?_
  refine lv_if_lt (tgt := 12) hx hb dX4_takeOut_1 (by decide) (fun c_1 => ?_) (fun c_1 => ?_)
  · have hP9 := hP.sub (ws' := [(h0, .inr (4, [.int lf, .int (nI mn), .ref qk, .ref qr])), (qk, .inl (cK, n, .inl f)), (qr, .inl (cR, n, .inl g))]) [0, 1, 2] rfl
    have hD9 := hD.sub (ws' := [(h0, .inr (4, [.int lf, .int (nI mn), .ref qk, .ref qr])), (qk, .inl (cK, n, .inl f)), (qr, .inl (cR, n, .inl g))]) [0, 1, 2] (by decide) rfl
    have hK9 := hK.sub (tys' := [(cK, .int), (cR, .int)]) [0, 1] rfl
    exact W.vret hx hb hr (fun t ht hW => ⟨⟨(mn, f, g), rfl, (by omega), by rw [ht]; exact hP9, va_K.moved hW.alike hK9, hD9⟩, hS.F ht⟩) hS.2.2 dX4_takeOut_12
  · obtain ⟨i0, hi0, ei0⟩ := nI_of c_1
    have hl : lv_has ls 3 [(0, .ref h0), (1, .int (nI i0))] := by rw [← ei0]; exact hl
    refine lv_iload_n hx hb dX4_takeOut_4 rfl (lv_at hl 1 rfl) ?_
    refine lv_aload_n hx hb dX4_takeOut_5 rfl (lv_at hl 0 rfl) ?_
    refine va_get (D := (dC, dI)) (ci := 4) (v := .int (nI mn)) (C := RX4) (T := TX4) (N := 4) hx hb hts k_1 hown hK hP 0 rfl rfl 1 (by decide) k_2 (fun _ h9 => h9) rfl dX4_takeOut_6 ?_
    refine lv_icmp_lt (tgt := 13) hx hb dX4_takeOut_9 (by decide) (fun c_2 => ?_) (fun c_2 => ?_)
    · have hq : i0 < mn := (nI_ltI (by omega) (by omega)).mp c_2
      refine lv_iload_n hx hb dX4_takeOut_13 rfl (lv_at hl 1 rfl) ?_
      refine lv_istore_n (lv' := [(2, .int (nI i0)), (0, .ref h0), (1, .int (nI i0))]) hx hb dX4_takeOut_14 rfl hl (by decide) rfl (fun ls hl => ?_)
      have loop_15 : ∀ (Q : State → Prop), (∀ (i : Nat) (fv : Nat → Int32) (gv : Nat → Int32) (H : Heap) (locs : List Loc) (ls : Array Slot), i ≤ mn → va_P (dC, dI) vwCl [(h0, .inr (4, [.int lf, .int (nI mn), .ref qk, .ref qr])), (qk, .inl (cK, n, .inl fv)), (qr, .inl (cR, n, .inl gv))] H → va_D A [(h0, .inr (4, [.int lf, .int (nI mn), .ref qk, .ref qr])), (qk, .inl (cK, n, .inl fv)), (qr, .inl (cR, n, .inl gv))] → va_S A s.heap H locs → lv_has ls 3 [(0, .ref h0), (1, .int (nI i0)), (2, .int (nI i))] → W p l e (headSpec v_X4_takeOut_any ({ frames := 1, cells := 0, slots := 0, locals := 22 } : Room)).room s m ([.ref h0, .int p0] : List Value).toArray below meth c H locs 0 0 Q (F0 m 55 ls [])) → ∀ (nf i : Nat) (fv : Nat → Int32) (gv : Nat → Int32) (H : Heap) (locs : List Loc) (ls : Array Slot), i ≤ mn → mn + 1 ≤ i + nf → va_P (dC, dI) vwCl [(h0, .inr (4, [.int lf, .int (nI mn), .ref qk, .ref qr])), (qk, .inl (cK, n, .inl fv)), (qr, .inl (cR, n, .inl gv))] H → va_D A [(h0, .inr (4, [.int lf, .int (nI mn), .ref qk, .ref qr])), (qk, .inl (cK, n, .inl fv)), (qr, .inl (cR, n, .inl gv))] → va_S A s.heap H locs → lv_has ls 3 [(0, .ref h0), (1, .int (nI i0)), (2, .int (nI i))] → W p l e (headSpec v_X4_takeOut_any ({ frames := 1, cells := 0, slots := 0, locals := 22 } : Room)).room s m ([.ref h0, .int p0] : List Value).toArray below meth c H locs 0 0 Q (F0 m 15 ls []) := by
        intro Q kx nf
        induction nf with
        | zero =>
          intro i fv gv H locs ls h1 h2
          exact absurd h2 (by omega)
        | succ nf ih =>
          intro i fv gv H locs ls hi hn hP hD hS hl
          refine lv_iload_n hx hb dX4_takeOut_15 rfl (lv_at hl 2 rfl) ?_
          refine lv_aload_n hx hb dX4_takeOut_16 rfl (lv_at hl 0 rfl) ?_
          refine va_get (D := (dC, dI)) (ci := 4) (v := .int (nI mn)) (C := RX4) (T := TX4) (N := 4) hx hb hts k_1 hown hK hP 0 rfl rfl 1 (by decide) k_2 (fun _ h9 => h9) rfl dX4_takeOut_17 ?_
          refine lv_iconst (v := 1) hx hb dX4_takeOut_20 (by decide) ?_
          refine lv_isub hx hb dX4_takeOut_21 ?_
          refine lv_topi (fun z_3 ez_3 => ?_)
          obtain rfl : z_3 = nI (mn - 1) := ez_3.trans (pk_sub (a := mn) (b := 1) (by omega))
          refine lv_icmp_ge (tgt := 55) hx hb dX4_takeOut_22 (by decide) (fun c_4 => ?_) (fun c_4 => ?_)
          · exact kx i fv gv _ _ _ (by omega) hP hD hS (lv_sub hl [0, 1, 2] rfl)
          · have hlt : i < mn - 1 := Nat.lt_of_not_le (fun h => c_4 (nI_le h (by omega)))
            refine lv_aload_n hx hb dX4_takeOut_25 rfl (lv_at hl 0 rfl) ?_
            refine lv_iload_n hx hb dX4_takeOut_26 rfl (lv_at hl 2 rfl) ?_
            refine lv_aload_n hx hb dX4_takeOut_27 rfl (lv_at hl 0 rfl) ?_
            refine lv_iload_n hx hb dX4_takeOut_28 rfl (lv_at hl 2 rfl) ?_
            refine lv_iconst (v := 1) hx hb dX4_takeOut_29 (by decide) ?_
            refine lv_iadd hx hb dX4_takeOut_30 ?_
            refine lv_topi (fun z_5 ez_5 => ?_)
            obtain rfl : z_5 = nI (i + 1) := ez_5.trans (nI_1 i)
            have hPc := hP.sub (ws' := [(h0, .inr (4, [.int lf, .int (nI mn), .ref qk, .ref qr])), (qk, .inl (cK, n, .inl fv)), (qr, .inl (cR, n, .inl gv))]) [0, 1, 2] rfl
            have hDc := hD.sub (ws' := [(h0, .inr (4, [.int lf, .int (nI mn), .ref qk, .ref qr])), (qk, .inl (cK, n, .inl fv)), (qr, .inl (cR, n, .inl gv))]) [0, 1, 2] (by decide) rfl
            have hKc := hK.sub (tys' := [(cK, .int), (cR, .int)]) [0, 1] rfl
            have hFc := va_free (wc := [(h0, .inr (4, [.int lf, .int (nI mn), .ref qk, .ref qr])), (qk, .inl (cK, n, .inl fv)), (qr, .inl (cR, n, .inl gv))]) hD hS hA [0, 1, 2] rfl
            refine va_calli (va_runV (As := [.int (nI (i + 1))]) (rest := [.int (nI i), .ref h0]) ⟨hx, hb, hml, hown, hts⟩ (c_X4_keyAt l dC dI H.size h0 qk qr n mn lf cK cR fv gv (nI (i + 1)) (by first | assumption | omega | decide) (by first | assumption | omega | decide)) (cwV 1 hts g_X4_takeOut_any_X4_keyAt rfl rfl rfl (by decide +kernel) ⟨Nat.le_of_ble_eq_true rfl, Nat.le_of_ble_eq_true rfl⟩) ⟨fun a U g mk q => by obtain ⟨q0, q1, qP, qK, qD⟩ := q; exact ⟨q0, q1, qP, va_K.moved (u := U) (U := U.calling g mk a) (Vm.Alike.refl U.vm) qK, qD⟩, va_recv hKc hPc (ci := 4) (q0 := 0) rfl rfl, fun U hU hW => ⟨rfl, by rw [hU], by rw [hU]; exact hPc, va_K.moved hW.alike hKc, hDc.weaken (fun _ _ _ _ => trivial)⟩⟩ rfl rfl hl.1 rfl (lv_room (Nat.le_of_ble_eq_true rfl)) dX4_takeOut_31 ⟨(show 0 + 0 ≤ 0 by omega), (show 0 + 0 ≤ 0 by omega)⟩) hS (fun q _ h => hFc q h) hFc (fun r_6 u t H1 locs ht hvm hw hB hz1 hk1 hS => ?_)
            obtain ⟨hP1, hK1, hD1⟩ := hB
            rw [ht] at hP1
            have hK1 := va_K.moved hvm.symm hK1
            try dsimp only at hw
            obtain ⟨hP, hD⟩ := va_join (wr := []) (w1 := [(h0, .inr (4, [.int lf, .int (nI mn), .ref qk, .ref qr])), (qk, .inl (cK, n, .inl fv)), (qr, .inl (cR, n, .inl gv))]) hP hD [0, 1, 2] [] rfl rfl (by decide) (by decide) hk1 hFc hP1 hD1
            have hK := (hK.sub (tys' := []) [] rfl).app hK1
            generalize H1 = H at hP hS ⊢
            have hP : va_P (dC, dI) vwCl [(h0, .inr (4, [.int lf, .int (nI mn), .ref qk, .ref qr])), (qk, .inl (cK, n, .inl fv)), (qr, .inl (cR, n, .inl gv))] H := hP
            have hD : va_D A [(h0, .inr (4, [.int lf, .int (nI mn), .ref qk, .ref qr])), (qk, .inl (cK, n, .inl fv)), (qr, .inl (cR, n, .inl gv))] := hD
            have hK : va_K (dC, dI) vwCl [(cK, .int), (cR, .int)] s := hK
            have hw_r_6 := hw
            have hPc := hP.sub (ws' := [(h0, .inr (4, [.int lf, .int (nI mn), .ref qk, .ref qr])), (qk, .inl (cK, n, .inl fv)), (qr, .inl (cR, n, .inl gv))]) [0, 1, 2] rfl
            have hDc := hD.sub (ws' := [(h0, .inr (4, [.int lf, .int (nI mn), .ref qk, .ref qr])), (qk, .inl (cK, n, .inl fv)), (qr, .inl (cR, n, .inl gv))]) [0, 1, 2] (by decide) rfl
            have hKc := hK.sub (tys' := [(cK, .int), (cR, .int)]) [0, 1] rfl
            have hFc := va_free (wc := [(h0, .inr (4, [.int lf, .int (nI mn), .ref qk, .ref qr])), (qk, .inl (cK, n, .inl fv)), (qr, .inl (cR, n, .inl gv))]) hD hS hA [0, 1, 2] rfl
            refine va_callv (va_runV (As := [.int (nI i), .int r_6]) (rest := []) ⟨hx, hb, hml, hown, hts⟩ (c_X4_setKey l dC dI H.size h0 qk qr n mn lf cK cR fv gv (nI i) r_6 (by first | assumption | omega | decide) (by first | assumption | omega | decide)) (cwV 2 hts g_X4_takeOut_any_X4_setKey rfl rfl rfl (by decide +kernel) ⟨Nat.le_of_ble_eq_true rfl, Nat.le_of_ble_eq_true rfl⟩) ⟨fun a U g mk q => by obtain ⟨q0, q1, qP, qK, qD⟩ := q; exact ⟨q0, q1, qP, va_K.moved (u := U) (U := U.calling g mk a) (Vm.Alike.refl U.vm) qK, qD⟩, va_recv hKc hPc (ci := 4) (q0 := 0) rfl rfl, fun U hU hW => ⟨rfl, by rw [hU], by rw [hU]; exact hPc, va_K.moved hW.alike hKc, hDc.weaken (fun _ _ _ _ => trivial)⟩⟩ rfl rfl hl.1 rfl (lv_room (Nat.le_of_ble_eq_true rfl)) dX4_takeOut_34 ⟨(show 0 + 0 ≤ 0 by omega), (show 0 + 0 ≤ 0 by omega)⟩) hS (fun q _ h => hFc q h) hFc (fun u t H1 locs ht hvm hw hB hz1 hk1 hS => ?_)
            obtain ⟨f2_8, rfl⟩ : ∃ z, z = u := ⟨_, rfl⟩
            obtain ⟨hP1, hK1, hD1⟩ := hB
            rw [ht] at hP1
            have hK1 := va_K.moved hvm.symm hK1
            try dsimp only at hw
            obtain ⟨hP, hD⟩ := va_join (wr := []) (w1 := [(h0, .inr (4, [.int lf, .int (nI mn), .ref qk, .ref qr])), (qk, .inl (cK, n, .inl f2_8)), (qr, .inl (cR, n, .inl gv))]) hP hD [0, 1, 2] [] rfl rfl (by decide) (by decide) hk1 hFc hP1 hD1
            have hK := (hK.sub (tys' := []) [] rfl).app hK1
            generalize H1 = H at hP hS ⊢
            have hP : va_P (dC, dI) vwCl [(h0, .inr (4, [.int lf, .int (nI mn), .ref qk, .ref qr])), (qk, .inl (cK, n, .inl f2_8)), (qr, .inl (cR, n, .inl gv))] H := hP
            have hD : va_D A [(h0, .inr (4, [.int lf, .int (nI mn), .ref qk, .ref qr])), (qk, .inl (cK, n, .inl f2_8)), (qr, .inl (cR, n, .inl gv))] := hD
            have hK : va_K (dC, dI) vwCl [(cK, .int), (cR, .int)] s := hK
            refine lv_aload_n hx hb dX4_takeOut_37 rfl (lv_at hl 0 rfl) ?_
            refine lv_iload_n hx hb dX4_takeOut_38 rfl (lv_at hl 2 rfl) ?_
            refine lv_aload_n hx hb dX4_takeOut_39 rfl (lv_at hl 0 rfl) ?_
            refine lv_iload_n hx hb dX4_takeOut_40 rfl (lv_at hl 2 rfl) ?_
            refine lv_iconst (v := 1) hx hb dX4_takeOut_41 (by decide) ?_
            refine lv_iadd hx hb dX4_takeOut_42 ?_
            refine lv_topi (fun z_9 ez_9 => ?_)
            obtain rfl : z_9 = nI (i + 1) := ez_9.trans (nI_1 i)
            have hPc := hP.sub (ws' := [(h0, .inr (4, [.int lf, .int (nI mn), .ref qk, .ref qr])), (qk, .inl (cK, n, .inl f2_8)), (qr, .inl (cR, n, .inl gv))]) [0, 1, 2] rfl
            have hDc := hD.sub (ws' := [(h0, .inr (4, [.int lf, .int (nI mn), .ref qk, .ref qr])), (qk, .inl (cK, n, .inl f2_8)), (qr, .inl (cR, n, .inl gv))]) [0, 1, 2] (by decide) rfl
            have hKc := hK.sub (tys' := [(cK, .int), (cR, .int)]) [0, 1] rfl
            have hFc := va_free (wc := [(h0, .inr (4, [.int lf, .int (nI mn), .ref qk, .ref qr])), (qk, .inl (cK, n, .inl f2_8)), (qr, .inl (cR, n, .inl gv))]) hD hS hA [0, 1, 2] rfl
            refine va_calli (va_runV (As := [.int (nI (i + 1))]) (rest := [.int (nI i), .ref h0]) ⟨hx, hb, hml, hown, hts⟩ (c_X4_refAt l dC dI H.size h0 qk qr n mn lf cK cR f2_8 gv (nI (i + 1)) (by first | assumption | omega | decide) (by first | assumption | omega | decide)) (cwV 1 hts g_X4_takeOut_any_X4_refAt rfl rfl rfl (by decide +kernel) ⟨Nat.le_of_ble_eq_true rfl, Nat.le_of_ble_eq_true rfl⟩) ⟨fun a U g mk q => by obtain ⟨q0, q1, qP, qK, qD⟩ := q; exact ⟨q0, q1, qP, va_K.moved (u := U) (U := U.calling g mk a) (Vm.Alike.refl U.vm) qK, qD⟩, va_recv hKc hPc (ci := 4) (q0 := 0) rfl rfl, fun U hU hW => ⟨rfl, by rw [hU], by rw [hU]; exact hPc, va_K.moved hW.alike hKc, hDc.weaken (fun _ _ _ _ => trivial)⟩⟩ rfl rfl hl.1 rfl (lv_room (Nat.le_of_ble_eq_true rfl)) dX4_takeOut_43 ⟨(show 0 + 0 ≤ 0 by omega), (show 0 + 0 ≤ 0 by omega)⟩) hS (fun q _ h => hFc q h) hFc (fun r_10 u t H1 locs ht hvm hw hB hz1 hk1 hS => ?_)
            obtain ⟨hP1, hK1, hD1⟩ := hB
            rw [ht] at hP1
            have hK1 := va_K.moved hvm.symm hK1
            try dsimp only at hw
            obtain ⟨hP, hD⟩ := va_join (wr := []) (w1 := [(h0, .inr (4, [.int lf, .int (nI mn), .ref qk, .ref qr])), (qk, .inl (cK, n, .inl f2_8)), (qr, .inl (cR, n, .inl gv))]) hP hD [0, 1, 2] [] rfl rfl (by decide) (by decide) hk1 hFc hP1 hD1
            have hK := (hK.sub (tys' := []) [] rfl).app hK1
            generalize H1 = H at hP hS ⊢
            have hP : va_P (dC, dI) vwCl [(h0, .inr (4, [.int lf, .int (nI mn), .ref qk, .ref qr])), (qk, .inl (cK, n, .inl f2_8)), (qr, .inl (cR, n, .inl gv))] H := hP
            have hD : va_D A [(h0, .inr (4, [.int lf, .int (nI mn), .ref qk, .ref qr])), (qk, .inl (cK, n, .inl f2_8)), (qr, .inl (cR, n, .inl gv))] := hD
            have hK : va_K (dC, dI) vwCl [(cK, .int), (cR, .int)] s := hK
            have hw_r_10 := hw
            have hPc := hP.sub (ws' := [(h0, .inr (4, [.int lf, .int (nI mn), .ref qk, .ref qr])), (qk, .inl (cK, n, .inl f2_8)), (qr, .inl (cR, n, .inl gv))]) [0, 1, 2] rfl
            have hDc := hD.sub (ws' := [(h0, .inr (4, [.int lf, .int (nI mn), .ref qk, .ref qr])), (qk, .inl (cK, n, .inl f2_8)), (qr, .inl (cR, n, .inl gv))]) [0, 1, 2] (by decide) rfl
            have hKc := hK.sub (tys' := [(cK, .int), (cR, .int)]) [0, 1] rfl
            have hFc := va_free (wc := [(h0, .inr (4, [.int lf, .int (nI mn), .ref qk, .ref qr])), (qk, .inl (cK, n, .inl f2_8)), (qr, .inl (cR, n, .inl gv))]) hD hS hA [0, 1, 2] rfl
            refine va_callv (va_runV (As := [.int (nI i), .int r_10]) (rest := []) ⟨hx, hb, hml, hown, hts⟩ (c_X4_setRef l dC dI H.size h0 qk qr n mn lf cK cR f2_8 gv (nI i) r_10 (by first | assumption | omega | decide) (by first | assumption | omega | decide)) (cwV 2 hts g_X4_takeOut_any_X4_setRef rfl rfl rfl (by decide +kernel) ⟨Nat.le_of_ble_eq_true rfl, Nat.le_of_ble_eq_true rfl⟩) ⟨fun a U g mk q => by obtain ⟨q0, q1, qP, qK, qD⟩ := q; exact ⟨q0, q1, qP, va_K.moved (u := U) (U := U.calling g mk a) (Vm.Alike.refl U.vm) qK, qD⟩, va_recv hKc hPc (ci := 4) (q0 := 0) rfl rfl, fun U hU hW => ⟨rfl, by rw [hU], by rw [hU]; exact hPc, va_K.moved hW.alike hKc, hDc.weaken (fun _ _ _ _ => trivial)⟩⟩ rfl rfl hl.1 rfl (lv_room (Nat.le_of_ble_eq_true rfl)) dX4_takeOut_46 ⟨(show 0 + 0 ≤ 0 by omega), (show 0 + 0 ≤ 0 by omega)⟩) hS (fun q _ h => hFc q h) hFc (fun u t H1 locs ht hvm hw hB hz1 hk1 hS => ?_)
            obtain ⟨f2_12, rfl⟩ : ∃ z, z = u := ⟨_, rfl⟩
            obtain ⟨hP1, hK1, hD1⟩ := hB
            rw [ht] at hP1
            have hK1 := va_K.moved hvm.symm hK1
            try dsimp only at hw
            obtain ⟨hP, hD⟩ := va_join (wr := []) (w1 := [(h0, .inr (4, [.int lf, .int (nI mn), .ref qk, .ref qr])), (qk, .inl (cK, n, .inl f2_8)), (qr, .inl (cR, n, .inl f2_12))]) hP hD [0, 1, 2] [] rfl rfl (by decide) (by decide) hk1 hFc hP1 hD1
            have hK := (hK.sub (tys' := []) [] rfl).app hK1
            generalize H1 = H at hP hS ⊢
            have hP : va_P (dC, dI) vwCl [(h0, .inr (4, [.int lf, .int (nI mn), .ref qk, .ref qr])), (qk, .inl (cK, n, .inl f2_8)), (qr, .inl (cR, n, .inl f2_12))] H := hP
            have hD : va_D A [(h0, .inr (4, [.int lf, .int (nI mn), .ref qk, .ref qr])), (qk, .inl (cK, n, .inl f2_8)), (qr, .inl (cR, n, .inl f2_12))] := hD
            have hK : va_K (dC, dI) vwCl [(cK, .int), (cR, .int)] s := hK
            refine lv_iinc (v := (nI (i + 1))) (lv' := [(2, .int (nI (i + 1))), (0, .ref h0), (1, .int (nI i0))]) hx hb dX4_takeOut_49 hl (k := 2) rfl (nI_1 i) (by decide) rfl (fun ls hl => ?_)
            refine lv_goto (tgt := 15) hx hb dX4_takeOut_52 (by decide) ?_
            exact ih (i + 1) f2_8 f2_12 _ _ _ (by omega) (by omega) hP hD hS (lv_sub hl [1, 2, 0] rfl)
      refine loop_15 _ (fun i fv gv H locs ls hi hP hD hS hl => ?_) (mn + 1) i0 f g _ _ _ (by omega) (by omega) hP hD hS (lv_sub hl [1, 2, 0] rfl)
      refine lv_aload_n hx hb dX4_takeOut_55 rfl (lv_at hl 0 rfl) ?_
      refine lv_dup hx hb dX4_takeOut_56 rfl ?_
      refine va_get (D := (dC, dI)) (ci := 4) (v := .int (nI mn)) (C := RX4) (T := TX4) (N := 4) hx hb hts k_1 hown hK hP 0 rfl rfl 1 (by decide) k_2 (fun _ h9 => h9) rfl dX4_takeOut_57 ?_
      refine lv_iconst (v := 1) hx hb dX4_takeOut_60 (by decide) ?_
      refine lv_isub hx hb dX4_takeOut_61 ?_
      refine lv_topi (fun z_13 ez_13 => ?_)
      obtain rfl : z_13 = nI (mn - 1) := ez_13.trans (pk_sub (a := mn) (b := 1) (by omega))
      refine va_put (D := (dC, dI)) (ci := 4) (v := .int (nI (mn - 1))) (ty := .int) (C := RX4) (T := TX4) (N := 4) hx hb hts k_1 tyX4 tyX4_ok nmX4 hown hK hP hD hS 0 rfl rfl 1 (by decide) k_2 (fun _ h9 => h9) rfl (by decide +kernel) rfl rfl (Nat.le_of_ble_eq_true rfl) dX4_takeOut_62 (fun H locs hP hD hS => ?_)
      have hP : va_P (dC, dI) vwCl [(h0, .inr (4, [.int lf, .int (nI (mn - 1)), .ref qk, .ref qr])), (qk, .inl (cK, n, .inl fv)), (qr, .inl (cR, n, .inl gv))] H := hP
      have hD : va_D A [(h0, .inr (4, [.int lf, .int (nI (mn - 1)), .ref qk, .ref qr])), (qk, .inl (cK, n, .inl fv)), (qr, .inl (cR, n, .inl gv))] := hD
      have hP9 := hP.sub (ws' := [(h0, .inr (4, [.int lf, .int (nI (mn - 1)), .ref qk, .ref qr])), (qk, .inl (cK, n, .inl fv)), (qr, .inl (cR, n, .inl gv))]) [0, 1, 2] rfl
      have hD9 := hD.sub (ws' := [(h0, .inr (4, [.int lf, .int (nI (mn - 1)), .ref qk, .ref qr])), (qk, .inl (cK, n, .inl fv)), (qr, .inl (cR, n, .inl gv))]) [0, 1, 2] (by decide) rfl
      have hK9 := hK.sub (tys' := [(cK, .int), (cR, .int)]) [0, 1] rfl
      exact W.vret hx hb hr (fun t ht hW => ⟨⟨(mn - 1, fv, gv), rfl, (by omega), by rw [ht]; exact hP9, va_K.moved hW.alike hK9, hD9⟩, hS.F ht⟩) hS.2.2 dX4_takeOut_65
    · have hP9 := hP.sub (ws' := [(h0, .inr (4, [.int lf, .int (nI mn), .ref qk, .ref qr])), (qk, .inl (cK, n, .inl f)), (qr, .inl (cR, n, .inl g))]) [0, 1, 2] rfl
      have hD9 := hD.sub (ws' := [(h0, .inr (4, [.int lf, .int (nI mn), .ref qk, .ref qr])), (qk, .inl (cK, n, .inl f)), (qr, .inl (cR, n, .inl g))]) [0, 1, 2] (by decide) rfl
      have hK9 := hK.sub (tys' := [(cK, .int), (cR, .int)]) [0, 1] rfl
      exact W.vret hx hb hr (fun t ht hW => ⟨⟨(mn, f, g), rfl, (by omega), by rw [ht]; exact hP9, va_K.moved hW.alike hK9, hD9⟩, hS.F ht⟩) hS.2.2 dX4_takeOut_12
def v_X4_clear3 : List Cond := .code yX4_clear cX4_clear 2 none :: ([.fieldLink RX4 9 "TwinRoots$Page" "leaf" "Z", .fieldLink RX4 22 "TwinRoots$Page" "many" "I"] ++ (wsX40 ++ ([])))
set_option maxHeartbeats 4000000 in
set_option maxRecDepth 100000 in
/-- clear, with its rows -/
theorem c_X4_clear3 (l : Launch) (dC : Nat → ClassId) (dI : Nat → Nat → Nat) (sz : Nat) (h0 : Nat) (qk : Nat) (qr : Nat) (n : Nat) (mn : Nat) (lf : Int32) (cK : ClassId) (cR : ClassId) (f : Nat → Int32) (g : Nat → Int32) (p0 : Int32) (zz : p0 = 0 ∨ p0 = 1) : Met l yX4_clear v_X4_clear3 ({ frames := 0, cells := 0, slots := 0, locals := 0 } : Room) (va_Pc [.ref h0, .int p0] (fun U => U.heap.size = sz ∧ va_P (dC, dI) vwCl [(h0, .inr (4, [.int lf, .int (nI mn), .ref qk, .ref qr])), (qk, .inl (cK, n, .inl f)), (qr, .inl (cR, n, .inl g))] U.heap ∧ va_K (dC, dI) vwCl [(cK, .int), (cR, .int)] U ∧ va_D (fun _ => True) [(h0, .inr (4, [.int lf, .int (nI mn), .ref qk, .ref qr])), (qk, .inl (cK, n, .inl f)), (qr, .inl (cR, n, .inl g))])) (va_Qv (fun (_ : Unit) => True) (fun (_ : Unit) (t : State) => va_P (dC, dI) vwCl [(h0, .inr (4, [.int p0, .int 0, .ref qk, .ref qr])), (qk, .inl (cK, n, .inl f)), (qr, .inl (cR, n, .inl g))] t.heap ∧ va_K (dC, dI) vwCl [(cK, .int), (cR, .int)] t ∧ va_D (va_A [(h0, .inr (4, [.int lf, .int (nI mn), .ref qk, .ref qr])), (qk, .inl (cK, n, .inl f)), (qr, .inl (cR, n, .inl g))] sz) [(h0, .inr (4, [.int p0, .int 0, .ref qk, .ref qr])), (qk, .inl (cK, n, .inl f)), (qr, .inl (cR, n, .inl g))]) (va_A [(h0, .inr (4, [.int lf, .int (nI mn), .ref qk, .ref qr])), (qk, .inl (cK, n, .inl f)), (qr, .inl (cR, n, .inl g))] sz)) 0 0 (va_A [(h0, .inr (4, [.int lf, .int (nI mn), .ref qk, .ref qr])), (qk, .inl (cK, n, .inl f)), (qr, .inl (cR, n, .inl g))] sz) := by
  refine Met.ofW (cc := cX4_clear) (maxL := 2) (ret := none) (by decide) rfl ?_
  intro p e s m args below meth c s₁ B hml hv
  obtain ⟨rfl, hsz, hP, hK, hD0⟩ := hv
  have hx := B.exec
  have hb := B.bytes
  have hr := B.returns
  have hts := atoms_spec (ws := v_X4_clear3) B.pre
  have hown : s.vm.findClass RX4 = some m.cls := findClass_of_methodNamed B.named
  have hlocks := B.notSynchronized
  subst hsz
  have hD := hD0.self (sz := s.heap.size)
  generalize hAe : va_A [(h0, .inr (4, [.int lf, .int (nI mn), .ref qk, .ref qr])), (qk, .inl (cK, n, .inl f)), (qr, .inl (cR, n, .inl g))] s.heap.size = A at hD ⊢
  have hA : ∀ q : Nat, s.heap.size ≤ q → A q := fun q h => by rw [← hAe]; exact Or.inr h
  have hS : va_S A s.heap s.heap [] := va_S.rf
  have hP : va_P (dC, dI) vwCl [(h0, .inr (4, [.int lf, .int (nI mn), .ref qk, .ref qr])), (qk, .inl (cK, n, .inl f)), (qr, .inl (cR, n, .inl g))] s.heap := hP
  have hl := lv_entry ([.ref h0, .int p0]) (n := 2) (Nat.le_of_ble_eq_true rfl)
  rw [lg_entry_eq]
  generalize (lg_sl ([.ref h0, .int p0]) ++ List.replicate (2 - (lg_sl ([.ref h0, .int p0])).length) Slot.unset).toArray = ls at hl ⊢
  have hl : lv_has ls 2 [(0, .ref h0), (1, .int p0)] := hl
  have k_1 := (fun _ h => List.mem_cons_of_mem _ (List.mem_append_right _ (List.mem_append_left _ h)) : ∀ w ∈ wsX40, w ∈ v_X4_clear3)
  have k_2 := hts (.fieldLink RX4 9 "TwinRoots$Page" "leaf" "Z") (List.mem_of_getElem? (i := 1) rfl)
  have k_3 := hts (.fieldLink RX4 22 "TwinRoots$Page" "many" "I") (List.mem_of_getElem? (i := 2) rfl)
  refine lv_aload_n hx hb dX4_clear_0 rfl (lv_at hl 0 rfl) ?_
  refine lv_iload_n hx hb dX4_clear_1 rfl (lv_at hl 1 rfl) ?_
  refine va_put (D := (dC, dI)) (ci := 4) (v := .int p0) (ty := .boolean) (C := RX4) (T := TX4) (N := 4) hx hb hts k_1 tyX4 tyX4_ok nmX4 hown hK hP hD hS 0 rfl rfl 0 (by decide) k_2 (fun _ h9 => h9) rfl (by decide +kernel) (b01_nar zz) (b01_fit zz) (Nat.le_of_ble_eq_true rfl) dX4_clear_2 (fun H locs hP hD hS => ?_)
  have hP : va_P (dC, dI) vwCl [(h0, .inr (4, [.int p0, .int (nI mn), .ref qk, .ref qr])), (qk, .inl (cK, n, .inl f)), (qr, .inl (cR, n, .inl g))] H := hP
  have hD : va_D A [(h0, .inr (4, [.int p0, .int (nI mn), .ref qk, .ref qr])), (qk, .inl (cK, n, .inl f)), (qr, .inl (cR, n, .inl g))] := hD
  refine lv_aload_n hx hb dX4_clear_5 rfl (lv_at hl 0 rfl) ?_
  refine lv_iconst (v := 0) hx hb dX4_clear_6 (by decide) ?_
  refine va_put (D := (dC, dI)) (ci := 4) (v := .int 0) (ty := .int) (C := RX4) (T := TX4) (N := 4) hx hb hts k_1 tyX4 tyX4_ok nmX4 hown hK hP hD hS 0 rfl rfl 1 (by decide) k_3 (fun _ h9 => h9) rfl (by decide +kernel) rfl rfl (Nat.le_of_ble_eq_true rfl) dX4_clear_7 (fun H locs hP hD hS => ?_)
  have hP : va_P (dC, dI) vwCl [(h0, .inr (4, [.int p0, .int 0, .ref qk, .ref qr])), (qk, .inl (cK, n, .inl f)), (qr, .inl (cR, n, .inl g))] H := hP
  have hD : va_D A [(h0, .inr (4, [.int p0, .int 0, .ref qk, .ref qr])), (qk, .inl (cK, n, .inl f)), (qr, .inl (cR, n, .inl g))] := hD
  have hP9 := hP.sub (ws' := [(h0, .inr (4, [.int p0, .int 0, .ref qk, .ref qr])), (qk, .inl (cK, n, .inl f)), (qr, .inl (cR, n, .inl g))]) [0, 1, 2] rfl
  have hD9 := hD.sub (ws' := [(h0, .inr (4, [.int p0, .int 0, .ref qk, .ref qr])), (qk, .inl (cK, n, .inl f)), (qr, .inl (cR, n, .inl g))]) [0, 1, 2] (by decide) rfl
  have hK9 := hK.sub (tys' := [(cK, .int), (cR, .int)]) [0, 1] rfl
  exact W.vret hx hb hr (fun t ht hW => ⟨⟨(), rfl, trivial, by rw [ht]; exact hP9, va_K.moved hW.alike hK9, hD9⟩, hS.F ht⟩) hS.2.2 dX4_clear_10

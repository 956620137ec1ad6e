theorem dX1_blockAt_0 : decode cX1_blockAt 0 = .ok (.iload_n 1, 1) := by decide +kernel
theorem dX1_blockAt_1 : decode cX1_blockAt 1 = .ok (.ifCond .lt 21, 3) := by decide +kernel
theorem dX1_blockAt_4 : decode cX1_blockAt 4 = .ok (.iload_n 1, 1) := by decide +kernel
theorem dX1_blockAt_5 : decode cX1_blockAt 5 = .ok (.aload_n 0, 1) := by decide +kernel
theorem dX1_blockAt_6 : decode cX1_blockAt 6 = .ok (.getfield 23, 3) := by decide +kernel
theorem dX1_blockAt_9 : decode cX1_blockAt 9 = .ok (.arraylength, 1) := by decide +kernel
theorem dX1_blockAt_10 : decode cX1_blockAt 10 = .ok (.if_icmp .ge 12, 3) := by decide +kernel
theorem dX1_blockAt_13 : decode cX1_blockAt 13 = .ok (.aload_n 0, 1) := by decide +kernel
theorem dX1_blockAt_14 : decode cX1_blockAt 14 = .ok (.getfield 23, 3) := by decide +kernel
theorem dX1_blockAt_17 : decode cX1_blockAt 17 = .ok (.iload_n 1, 1) := by decide +kernel
theorem dX1_blockAt_18 : decode cX1_blockAt 18 = .ok (.iaload, 1) := by decide +kernel
theorem dX1_blockAt_19 : decode cX1_blockAt 19 = .ok (.goto 4, 3) := by decide +kernel
theorem dX1_blockAt_22 : decode cX1_blockAt 22 = .ok (.iconst 0, 1) := by decide +kernel
theorem dX1_blockAt_23 : decode cX1_blockAt 23 = .ok (.ireturn, 1) := by decide +kernel
theorem dX1_findPath_0 : decode cX1_findPath 0 = .ok (.aload_n 0, 1) := by decide +kernel
theorem dX1_findPath_1 : decode cX1_findPath 1 = .ok (.iconst 1, 1) := by decide +kernel
theorem dX1_findPath_2 : decode cX1_findPath 2 = .ok (.putfield 49, 3) := by decide +kernel
theorem dX1_findPath_5 : decode cX1_findPath 5 = .ok (.aload_n 0, 1) := by decide +kernel
theorem dX1_findPath_6 : decode cX1_findPath 6 = .ok (.iconst 0, 1) := by decide +kernel
theorem dX1_findPath_7 : decode cX1_findPath 7 = .ok (.iload_n 1, 1) := by decide +kernel
theorem dX1_findPath_8 : decode cX1_findPath 8 = .ok (.iconst 0, 1) := by decide +kernel
theorem dX1_findPath_9 : decode cX1_findPath 9 = .ok (.invokevirtual 154, 3) := by decide +kernel
theorem dX1_findPath_12 : decode cX1_findPath 12 = .ok (.aload_n 0, 1) := by decide +kernel
theorem dX1_findPath_13 : decode cX1_findPath 13 = .ok (.getfield 15, 3) := by decide +kernel
theorem dX1_findPath_16 : decode cX1_findPath 16 = .ok (.iload_n 1, 1) := by decide +kernel
theorem dX1_findPath_17 : decode cX1_findPath 17 = .ok (.invokevirtual 57, 3) := by decide +kernel
theorem dX1_findPath_20 : decode cX1_findPath 20 = .ok (.astore_n 3, 1) := by decide +kernel
theorem dX1_findPath_21 : decode cX1_findPath 21 = .ok (.aload_n 0, 1) := by decide +kernel
theorem dX1_findPath_22 : decode cX1_findPath 22 = .ok (.getfield 49, 3) := by decide +kernel
theorem dX1_findPath_25 : decode cX1_findPath 25 = .ok (.bipush 12, 2) := by decide +kernel
theorem dX1_findPath_27 : decode cX1_findPath 27 = .ok (.if_icmp .ge 81, 3) := by decide +kernel
theorem dX1_findPath_30 : decode cX1_findPath 30 = .ok (.aload_n 3, 1) := by decide +kernel
theorem dX1_findPath_31 : decode cX1_findPath 31 = .ok (.getfield 110, 3) := by decide +kernel
theorem dX1_findPath_34 : decode cX1_findPath 34 = .ok (.ifCond .ne 74, 3) := by decide +kernel
theorem dX1_findPath_37 : decode cX1_findPath 37 = .ok (.aload_n 3, 1) := by decide +kernel
theorem dX1_findPath_38 : decode cX1_findPath 38 = .ok (.iload_n 2, 1) := by decide +kernel
theorem dX1_findPath_39 : decode cX1_findPath 39 = .ok (.invokevirtual 157, 3) := by decide +kernel
theorem dX1_findPath_42 : decode cX1_findPath 42 = .ok (.istore 4, 2) := by decide +kernel
theorem dX1_findPath_44 : decode cX1_findPath 44 = .ok (.aload_n 0, 1) := by decide +kernel
theorem dX1_findPath_45 : decode cX1_findPath 45 = .ok (.aload_n 0, 1) := by decide +kernel
theorem dX1_findPath_46 : decode cX1_findPath 46 = .ok (.getfield 49, 3) := by decide +kernel
theorem dX1_findPath_49 : decode cX1_findPath 49 = .ok (.iconst 1, 1) := by decide +kernel
theorem dX1_findPath_50 : decode cX1_findPath 50 = .ok (.isub, 1) := by decide +kernel
theorem dX1_findPath_51 : decode cX1_findPath 51 = .ok (.aload_n 0, 1) := by decide +kernel
theorem dX1_findPath_52 : decode cX1_findPath 52 = .ok (.aload_n 0, 1) := by decide +kernel
theorem dX1_findPath_53 : decode cX1_findPath 53 = .ok (.getfield 49, 3) := by decide +kernel
theorem dX1_findPath_56 : decode cX1_findPath 56 = .ok (.iconst 1, 1) := by decide +kernel
theorem dX1_findPath_57 : decode cX1_findPath 57 = .ok (.isub, 1) := by decide +kernel
theorem dX1_findPath_58 : decode cX1_findPath 58 = .ok (.invokevirtual 53, 3) := by decide +kernel
theorem dX1_findPath_61 : decode cX1_findPath 61 = .ok (.iload 4, 2) := by decide +kernel
theorem dX1_findPath_63 : decode cX1_findPath 63 = .ok (.invokevirtual 154, 3) := by decide +kernel
theorem dX1_findPath_66 : decode cX1_findPath 66 = .ok (.aload_n 0, 1) := by decide +kernel
theorem dX1_findPath_67 : decode cX1_findPath 67 = .ok (.aload_n 0, 1) := by decide +kernel
theorem dX1_findPath_68 : decode cX1_findPath 68 = .ok (.getfield 49, 3) := by decide +kernel
theorem dX1_findPath_71 : decode cX1_findPath 71 = .ok (.aload_n 3, 1) := by decide +kernel
theorem dX1_findPath_72 : decode cX1_findPath 72 = .ok (.iload 4, 2) := by decide +kernel
theorem dX1_findPath_74 : decode cX1_findPath 74 = .ok (.invokevirtual 141, 3) := by decide +kernel
theorem dX1_findPath_77 : decode cX1_findPath 77 = .ok (.iconst 0, 1) := by decide +kernel
theorem dX1_findPath_78 : decode cX1_findPath 78 = .ok (.invokevirtual 154, 3) := by decide +kernel
theorem dX1_findPath_81 : decode cX1_findPath 81 = .ok (.aload_n 0, 1) := by decide +kernel
theorem dX1_findPath_82 : decode cX1_findPath 82 = .ok (.getfield 15, 3) := by decide +kernel
theorem dX1_findPath_85 : decode cX1_findPath 85 = .ok (.aload_n 3, 1) := by decide +kernel
theorem dX1_findPath_86 : decode cX1_findPath 86 = .ok (.iload 4, 2) := by decide +kernel
theorem dX1_findPath_88 : decode cX1_findPath 88 = .ok (.invokevirtual 141, 3) := by decide +kernel
theorem dX1_findPath_91 : decode cX1_findPath 91 = .ok (.invokevirtual 57, 3) := by decide +kernel
theorem dX1_findPath_94 : decode cX1_findPath 94 = .ok (.astore_n 3, 1) := by decide +kernel
theorem dX1_findPath_95 : decode cX1_findPath 95 = .ok (.aload_n 0, 1) := by decide +kernel
theorem dX1_findPath_96 : decode cX1_findPath 96 = .ok (.dup, 1) := by decide +kernel
theorem dX1_findPath_97 : decode cX1_findPath 97 = .ok (.getfield 49, 3) := by decide +kernel
theorem dX1_findPath_100 : decode cX1_findPath 100 = .ok (.iconst 1, 1) := by decide +kernel
theorem dX1_findPath_101 : decode cX1_findPath 101 = .ok (.iadd, 1) := by decide +kernel
theorem dX1_findPath_102 : decode cX1_findPath 102 = .ok (.putfield 49, 3) := by decide +kernel
theorem dX1_findPath_105 : decode cX1_findPath 105 = .ok (.goto (-84), 3) := by decide +kernel
theorem dX1_findPath_108 : decode cX1_findPath 108 = .ok (.return_, 1) := by decide +kernel
theorem dX1_partIfTooMany_0 : decode cX1_partIfTooMany 0 = .ok (.aload_n 0, 1) := by decide +kernel
theorem dX1_partIfTooMany_1 : decode cX1_partIfTooMany 1 = .ok (.getfield 35, 3) := by decide +kernel
theorem dX1_partIfTooMany_4 : decode cX1_partIfTooMany 4 = .ok (.getfield 107, 3) := by decide +kernel
theorem dX1_partIfTooMany_7 : decode cX1_partIfTooMany 7 = .ok (.aload_n 0, 1) := by decide +kernel
theorem dX1_partIfTooMany_8 : decode cX1_partIfTooMany 8 = .ok (.getfield 9, 3) := by decide +kernel
theorem dX1_partIfTooMany_11 : decode cX1_partIfTooMany 11 = .ok (.aload_n 0, 1) := by decide +kernel
theorem dX1_partIfTooMany_12 : decode cX1_partIfTooMany 12 = .ok (.getfield 35, 3) := by decide +kernel
theorem dX1_partIfTooMany_15 : decode cX1_partIfTooMany 15 = .ok (.getfield 110, 3) := by decide +kernel
theorem dX1_partIfTooMany_18 : decode cX1_partIfTooMany 18 = .ok (.invokevirtual 114, 3) := by decide +kernel
theorem dX1_partIfTooMany_21 : decode cX1_partIfTooMany 21 = .ok (.if_icmp .gt 5, 3) := by decide +kernel
theorem dX1_partIfTooMany_24 : decode cX1_partIfTooMany 24 = .ok (.iconst 0, 1) := by decide +kernel
theorem dX1_partIfTooMany_25 : decode cX1_partIfTooMany 25 = .ok (.ireturn, 1) := by decide +kernel
theorem dX1_partIfTooMany_26 : decode cX1_partIfTooMany 26 = .ok (.aload_n 0, 1) := by decide +kernel
theorem dX1_partIfTooMany_27 : decode cX1_partIfTooMany 27 = .ok (.getfield 35, 3) := by decide +kernel
theorem dX1_partIfTooMany_30 : decode cX1_partIfTooMany 30 = .ok (.aload_n 0, 1) := by decide +kernel
theorem dX1_partIfTooMany_31 : decode cX1_partIfTooMany 31 = .ok (.getfield 39, 3) := by decide +kernel
theorem dX1_partIfTooMany_34 : decode cX1_partIfTooMany 34 = .ok (.invokevirtual 120, 3) := by decide +kernel
theorem dX1_partIfTooMany_37 : decode cX1_partIfTooMany 37 = .ok (.iconst 1, 1) := by decide +kernel
theorem dX1_partIfTooMany_38 : decode cX1_partIfTooMany 38 = .ok (.ireturn, 1) := by decide +kernel
theorem dX1_placeAt_0 : decode cX1_placeAt 0 = .ok (.iload_n 1, 1) := by decide +kernel
theorem dX1_placeAt_1 : decode cX1_placeAt 1 = .ok (.ifCond .lt 21, 3) := by decide +kernel
theorem dX1_placeAt_4 : decode cX1_placeAt 4 = .ok (.iload_n 1, 1) := by decide +kernel
theorem dX1_placeAt_5 : decode cX1_placeAt 5 = .ok (.aload_n 0, 1) := by decide +kernel
theorem dX1_placeAt_6 : decode cX1_placeAt 6 = .ok (.getfield 27, 3) := by decide +kernel
theorem dX1_placeAt_9 : decode cX1_placeAt 9 = .ok (.arraylength, 1) := by decide +kernel
theorem dX1_placeAt_10 : decode cX1_placeAt 10 = .ok (.if_icmp .ge 12, 3) := by decide +kernel
theorem dX1_placeAt_13 : decode cX1_placeAt 13 = .ok (.aload_n 0, 1) := by decide +kernel
theorem dX1_placeAt_14 : decode cX1_placeAt 14 = .ok (.getfield 27, 3) := by decide +kernel
theorem dX1_placeAt_17 : decode cX1_placeAt 17 = .ok (.iload_n 1, 1) := by decide +kernel
theorem dX1_placeAt_18 : decode cX1_placeAt 18 = .ok (.iaload, 1) := by decide +kernel
theorem dX1_placeAt_19 : decode cX1_placeAt 19 = .ok (.goto 4, 3) := by decide +kernel
theorem dX1_placeAt_22 : decode cX1_placeAt 22 = .ok (.iconst 0, 1) := by decide +kernel
theorem dX1_placeAt_23 : decode cX1_placeAt 23 = .ok (.ireturn, 1) := by decide +kernel
theorem dX1_setPath_0 : decode cX1_setPath 0 = .ok (.iload_n 1, 1) := by decide +kernel
theorem dX1_setPath_1 : decode cX1_setPath 1 = .ok (.ifCond .lt 35, 3) := by decide +kernel
theorem dX1_setPath_4 : decode cX1_setPath 4 = .ok (.iload_n 1, 1) := by decide +kernel
theorem dX1_setPath_5 : decode cX1_setPath 5 = .ok (.aload_n 0, 1) := by decide +kernel
theorem dX1_setPath_6 : decode cX1_setPath 6 = .ok (.getfield 23, 3) := by decide +kernel
theorem dX1_setPath_9 : decode cX1_setPath 9 = .ok (.arraylength, 1) := by decide +kernel
theorem dX1_setPath_10 : decode cX1_setPath 10 = .ok (.if_icmp .ge 26, 3) := by decide +kernel
theorem dX1_setPath_13 : decode cX1_setPath 13 = .ok (.iload_n 1, 1) := by decide +kernel
theorem dX1_setPath_14 : decode cX1_setPath 14 = .ok (.aload_n 0, 1) := by decide +kernel
theorem dX1_setPath_15 : decode cX1_setPath 15 = .ok (.getfield 27, 3) := by decide +kernel
theorem dX1_setPath_18 : decode cX1_setPath 18 = .ok (.arraylength, 1) := by decide +kernel
theorem dX1_setPath_19 : decode cX1_setPath 19 = .ok (.if_icmp .ge 17, 3) := by decide +kernel
theorem dX1_setPath_22 : decode cX1_setPath 22 = .ok (.aload_n 0, 1) := by decide +kernel
theorem dX1_setPath_23 : decode cX1_setPath 23 = .ok (.getfield 23, 3) := by decide +kernel
theorem dX1_setPath_26 : decode cX1_setPath 26 = .ok (.iload_n 1, 1) := by decide +kernel
theorem dX1_setPath_27 : decode cX1_setPath 27 = .ok (.iload_n 2, 1) := by decide +kernel
theorem dX1_setPath_28 : decode cX1_setPath 28 = .ok (.iastore, 1) := by decide +kernel
theorem dX1_setPath_29 : decode cX1_setPath 29 = .ok (.aload_n 0, 1) := by decide +kernel
theorem dX1_setPath_30 : decode cX1_setPath 30 = .ok (.getfield 27, 3) := by decide +kernel
theorem dX1_setPath_33 : decode cX1_setPath 33 = .ok (.iload_n 1, 1) := by decide +kernel
theorem dX1_setPath_34 : decode cX1_setPath 34 = .ok (.iload_n 3, 1) := by decide +kernel
theorem dX1_setPath_35 : decode cX1_setPath 35 = .ok (.iastore, 1) := by decide +kernel
theorem dX1_setPath_36 : decode cX1_setPath 36 = .ok (.return_, 1) := by decide +kernel
def v_X1_blockAt : List Cond := .code yX1_blockAt cX1_blockAt 2 (some .int) :: ([.fieldLink RX1 23 "TwinRoots$Editor" "pathBlocks" "[I"] ++ (wsX10 ++ ([])))
set_option maxHeartbeats 4000000 in
set_option maxRecDepth 100000 in
/-- blockAt: some number -/
theorem c_X1_blockAt (l : Launch) (dC : Nat → ClassId) (dI : Nat → Nat → Nat) (sz : Nat) (he : Nat) (hm : Nat) (hf : Nat) (hp : Nat) (eb : Nat) (ep : Nat) (nd : Nat) (mt : Nat) (ab : Nat) (el : Nat) (p0 : Int32) (cI : ClassId) (fb : Nat → Int32) : Met l yX1_blockAt v_X1_blockAt ({ frames := 0, cells := 0, slots := 0, locals := 0 } : Room) (va_Pc [.ref he, .int p0] (fun U => U.heap.size = sz ∧ va_P (dC, dI) vwCl [(he, .inr (1, [.ref hm, .ref hf, .ref hp, .ref eb, .ref ep, .int (nI el), .ref nd, .ref mt, .ref ab])), (eb, .inl (cI, 12, .inl fb))] U.heap ∧ va_K (dC, dI) vwCl [(cI, .int)] U ∧ va_D (fun _ => True) [(he, .inr (1, [.ref hm, .ref hf, .ref hp, .ref eb, .ref ep, .int (nI el), .ref nd, .ref mt, .ref ab])), (eb, .inl (cI, 12, .inl fb))])) (va_Qi (fun (r : Int32) (_ : Unit) => True) (fun (_ : Unit) (t : State) => va_P (dC, dI) vwCl [(he, .inr (1, [.ref hm, .ref hf, .ref hp, .ref eb, .ref ep, .int (nI el), .ref nd, .ref mt, .ref ab])), (eb, .inl (cI, 12, .inl fb))] t.heap ∧ va_K (dC, dI) vwCl [(cI, .int)] t ∧ va_D (va_A [(he, .inr (1, [.ref hm, .ref hf, .ref hp, .ref eb, .ref ep, .int (nI el), .ref nd, .ref mt, .ref ab])), (eb, .inl (cI, 12, .inl fb))] sz) [(he, .inr (1, [.ref hm, .ref hf, .ref hp, .ref eb, .ref ep, .int (nI el), .ref nd, .ref mt, .ref ab])), (eb, .inl (cI, 12, .inl fb))]) (va_A [(he, .inr (1, [.ref hm, .ref hf, .ref hp, .ref eb, .ref ep, .int (nI el), .ref nd, .ref mt, .ref ab])), (eb, .inl (cI, 12, .inl fb))] sz)) 0 0 (va_A [(he, .inr (1, [.ref hm, .ref hf, .ref hp, .ref eb, .ref ep, .int (nI el), .ref nd, .ref mt, .ref ab])), (eb, .inl (cI, 12, .inl fb))] sz) := by
  refine Met.ofW (cc := cX1_blockAt) (maxL := 2) (ret := (some .int)) (by decide) rfl ?_
  intro p e s m args below meth c s₁ B hml hv
  obtain ⟨rfl, hsz, hP, hK, hD0⟩ := hv
  have hx := B.exec
  have hb := B.bytes
  have hr := B.returns
  have hts := atoms_spec (ws := v_X1_blockAt) B.pre
  have hown : s.vm.findClass RX1 = some m.cls := findClass_of_methodNamed B.named
  have hlocks := B.notSynchronized
  subst hsz
  have hD := hD0.self (sz := s.heap.size)
  generalize hAe : va_A [(he, .inr (1, [.ref hm, .ref hf, .ref hp, .ref eb, .ref ep, .int (nI el), .ref nd, .ref mt, .ref ab])), (eb, .inl (cI, 12, .inl fb))] s.heap.size = A at hD ⊢
  have hA : ∀ q : Nat, s.heap.size ≤ q → A q := fun q h => by rw [← hAe]; exact Or.inr h
  have hS : va_S A s.heap s.heap [] := va_S.rf
  have hP : va_P (dC, dI) vwCl [(he, .inr (1, [.ref hm, .ref hf, .ref hp, .ref eb, .ref ep, .int (nI el), .ref nd, .ref mt, .ref ab])), (eb, .inl (cI, 12, .inl fb))] s.heap := hP
  have hl := lv_entry ([.ref he, .int p0]) (n := 2) (Nat.le_of_ble_eq_true rfl)
  rw [lg_entry_eq]
  generalize (lg_sl ([.ref he, .int p0]) ++ List.replicate (2 - (lg_sl ([.ref he, .int p0])).length) Slot.unset).toArray = ls at hl ⊢
  have hl : lv_has ls 2 [(0, .ref he), (1, .int p0)] := hl
  have k_1 := (fun _ h => List.mem_cons_of_mem _ (List.mem_append_right _ (List.mem_append_left _ h)) : ∀ w ∈ wsX10, w ∈ v_X1_blockAt)
  have k_2 := hts (.fieldLink RX1 23 "TwinRoots$Editor" "pathBlocks" "[I") (List.mem_of_getElem? (i := 1) rfl)
  refine lv_iload_n hx hb dX1_blockAt_0 rfl (lv_at hl 1 rfl) ?_
  refine lv_if_lt (tgt := 22) hx hb dX1_blockAt_1 (by decide) (fun c_1 => ?_) (fun c_1 => ?_)
  · refine lv_iconst (v := 0) hx hb dX1_blockAt_22 (by decide) ?_
    have hP9 := hP.sub (ws' := [(he, .inr (1, [.ref hm, .ref hf, .ref hp, .ref eb, .ref ep, .int (nI el), .ref nd, .ref mt, .ref ab])), (eb, .inl (cI, 12, .inl fb))]) [0, 1] rfl
    have hD9 := hD.sub (ws' := [(he, .inr (1, [.ref hm, .ref hf, .ref hp, .ref eb, .ref ep, .int (nI el), .ref nd, .ref mt, .ref ab])), (eb, .inl (cI, 12, .inl fb))]) [0, 1] (by decide) rfl
    have hK9 := hK.sub (tys' := [(cI, .int)]) [0] rfl
    exact W.iret (v := 0) hx hb hr (fun t ht hW => ⟨⟨0, (), rfl, trivial, by rw [ht]; exact hP9, va_K.moved hW.alike hK9, hD9⟩, hS.F ht⟩) hS.2.2 dX1_blockAt_23
  · refine lv_iload_n hx hb dX1_blockAt_4 rfl (lv_at hl 1 rfl) ?_
    refine lv_aload_n hx hb dX1_blockAt_5 rfl (lv_at hl 0 rfl) ?_
    refine va_get (D := (dC, dI)) (ci := 1) (v := .ref eb) (C := RX1) (T := TX1) (N := 9) hx hb hts k_1 hown hK hP 0 rfl rfl 3 (by decide) k_2 (fun _ h9 => h9) rfl dX1_blockAt_6 ?_
    refine va_alen (v := nI 12) hx hb hK hP 1 0 rfl rfl rfl dX1_blockAt_9 ?_
    refine lv_icmp_ge (tgt := 22) hx hb dX1_blockAt_10 (by decide) (fun c_2 => ?_) (fun c_2 => ?_)
    · refine lv_iconst (v := 0) hx hb dX1_blockAt_22 (by decide) ?_
      have hP9 := hP.sub (ws' := [(he, .inr (1, [.ref hm, .ref hf, .ref hp, .ref eb, .ref ep, .int (nI el), .ref nd, .ref mt, .ref ab])), (eb, .inl (cI, 12, .inl fb))]) [0, 1] rfl
      have hD9 := hD.sub (ws' := [(he, .inr (1, [.ref hm, .ref hf, .ref hp, .ref eb, .ref ep, .int (nI el), .ref nd, .ref mt, .ref ab])), (eb, .inl (cI, 12, .inl fb))]) [0, 1] (by decide) rfl
      have hK9 := hK.sub (tys' := [(cI, .int)]) [0] rfl
      exact W.iret (v := 0) hx hb hr (fun t ht hW => ⟨⟨0, (), rfl, trivial, by rw [ht]; exact hP9, va_K.moved hW.alike hK9, hD9⟩, hS.F ht⟩) hS.2.2 dX1_blockAt_23
    · refine lv_aload_n hx hb dX1_blockAt_13 rfl (lv_at hl 0 rfl) ?_
      refine va_get (D := (dC, dI)) (ci := 1) (v := .ref eb) (C := RX1) (T := TX1) (N := 9) hx hb hts k_1 hown hK hP 0 rfl rfl 3 (by decide) k_2 (fun _ h9 => h9) rfl dX1_blockAt_14 ?_
      refine lv_iload_n hx hb dX1_blockAt_17 rfl (lv_at hl 1 rfl) ?_
      refine va_iald hx hb hK hP 1 0 rfl rfl (in_guard c_1 c_2 (by omega)) dX1_blockAt_18 ?_
      refine lv_topi (fun z_3 _ => ?_)
      refine lv_goto (tgt := 23) hx hb dX1_blockAt_19 (by decide) ?_
      have hP9 := hP.sub (ws' := [(he, .inr (1, [.ref hm, .ref hf, .ref hp, .ref eb, .ref ep, .int (nI el), .ref nd, .ref mt, .ref ab])), (eb, .inl (cI, 12, .inl fb))]) [0, 1] rfl
      have hD9 := hD.sub (ws' := [(he, .inr (1, [.ref hm, .ref hf, .ref hp, .ref eb, .ref ep, .int (nI el), .ref nd, .ref mt, .ref ab])), (eb, .inl (cI, 12, .inl fb))]) [0, 1] (by decide) rfl
      have hK9 := hK.sub (tys' := [(cI, .int)]) [0] rfl
      exact W.iret (v := z_3) hx hb hr (fun t ht hW => ⟨⟨z_3, (), rfl, trivial, by rw [ht]; exact hP9, va_K.moved hW.alike hK9, hD9⟩, hS.F ht⟩) hS.2.2 dX1_blockAt_23
def v_X1_placeAt : List Cond := .code yX1_placeAt cX1_placeAt 2 (some .int) :: ([.fieldLink RX1 27 "TwinRoots$Editor" "pathPlaces" "[I"] ++ (wsX10 ++ ([])))
set_option maxHeartbeats 4000000 in
set_option maxRecDepth 100000 in
/-- placeAt: some number -/
theorem c_X1_placeAt (l : Launch) (dC : Nat → ClassId) (dI : Nat → Nat → Nat) (sz : Nat) (he : Nat) (hm : Nat) (hf : Nat) (hp : Nat) (eb : Nat) (ep : Nat) (nd : Nat) (mt : Nat) (ab : Nat) (el : Nat) (p0 : Int32) (cI : ClassId) (fq : Nat → Int32) : Met l yX1_placeAt v_X1_placeAt ({ frames := 0, cells := 0, slots := 0, locals := 0 } : Room) (va_Pc [.ref he, .int p0] (fun U => U.heap.size = sz ∧ va_P (dC, dI) vwCl [(he, .inr (1, [.ref hm, .ref hf, .ref hp, .ref eb, .ref ep, .int (nI el), .ref nd, .ref mt, .ref ab])), (ep, .inl (cI, 12, .inl fq))] U.heap ∧ va_K (dC, dI) vwCl [(cI, .int)] U ∧ va_D (fun _ => True) [(he, .inr (1, [.ref hm, .ref hf, .ref hp, .ref eb, .ref ep, .int (nI el), .ref nd, .ref mt, .ref ab])), (ep, .inl (cI, 12, .inl fq))])) (va_Qi (fun (r : Int32) (_ : Unit) => True) (fun (_ : Unit) (t : State) => va_P (dC, dI) vwCl [(he, .inr (1, [.ref hm, .ref hf, .ref hp, .ref eb, .ref ep, .int (nI el), .ref nd, .ref mt, .ref ab])), (ep, .inl (cI, 12, .inl fq))] t.heap ∧ va_K (dC, dI) vwCl [(cI, .int)] t ∧ va_D (va_A [(he, .inr (1, [.ref hm, .ref hf, .ref hp, .ref eb, .ref ep, .int (nI el), .ref nd, .ref mt, .ref ab])), (ep, .inl (cI, 12, .inl fq))] sz) [(he, .inr (1, [.ref hm, .ref hf, .ref hp, .ref eb, .ref ep, .int (nI el), .ref nd, .ref mt, .ref ab])), (ep, .inl (cI, 12, .inl fq))]) (va_A [(he, .inr (1, [.ref hm, .ref hf, .ref hp, .ref eb, .ref ep, .int (nI el), .ref nd, .ref mt, .ref ab])), (ep, .inl (cI, 12, .inl fq))] sz)) 0 0 (va_A [(he, .inr (1, [.ref hm, .ref hf, .ref hp, .ref eb, .ref ep, .int (nI el), .ref nd, .ref mt, .ref ab])), (ep, .inl (cI, 12, .inl fq))] sz) := by
  refine Met.ofW (cc := cX1_placeAt) (maxL := 2) (ret := (some .int)) (by decide) rfl ?_
  intro p e s m args below meth c s₁ B hml hv
  obtain ⟨rfl, hsz, hP, hK, hD0⟩ := hv
  have hx := B.exec
  have hb := B.bytes
  have hr := B.returns
  have hts := atoms_spec (ws := v_X1_placeAt) B.pre
  have hown : s.vm.findClass RX1 = some m.cls := findClass_of_methodNamed B.named
  have hlocks := B.notSynchronized
  subst hsz
  have hD := hD0.self (sz := s.heap.size)
  generalize hAe : va_A [(he, .inr (1, [.ref hm, .ref hf, .ref hp, .ref eb, .ref ep, .int (nI el), .ref nd, .ref mt, .ref ab])), (ep, .inl (cI, 12, .inl fq))] s.heap.size = A at hD ⊢
  have hA : ∀ q : Nat, s.heap.size ≤ q → A q := fun q h => by rw [← hAe]; exact Or.inr h
  have hS : va_S A s.heap s.heap [] := va_S.rf
  have hP : va_P (dC, dI) vwCl [(he, .inr (1, [.ref hm, .ref hf, .ref hp, .ref eb, .ref ep, .int (nI el), .ref nd, .ref mt, .ref ab])), (ep, .inl (cI, 12, .inl fq))] s.heap := hP
  have hl := lv_entry ([.ref he, .int p0]) (n := 2) (Nat.le_of_ble_eq_true rfl)
  rw [lg_entry_eq]
  generalize (lg_sl ([.ref he, .int p0]) ++ List.replicate (2 - (lg_sl ([.ref he, .int p0])).length) Slot.unset).toArray = ls at hl ⊢
  have hl : lv_has ls 2 [(0, .ref he), (1, .int p0)] := hl
  have k_1 := (fun _ h => List.mem_cons_of_mem _ (List.mem_append_right _ (List.mem_append_left _ h)) : ∀ w ∈ wsX10, w ∈ v_X1_placeAt)
  have k_2 := hts (.fieldLink RX1 27 "TwinRoots$Editor" "pathPlaces" "[I") (List.mem_of_getElem? (i := 1) rfl)
  refine lv_iload_n hx hb dX1_placeAt_0 rfl (lv_at hl 1 rfl) ?_
  refine lv_if_lt (tgt := 22) hx hb dX1_placeAt_1 (by decide) (fun c_1 => ?_) (fun c_1 => ?_)
  · refine lv_iconst (v := 0) hx hb dX1_placeAt_22 (by decide) ?_
    have hP9 := hP.sub (ws' := [(he, .inr (1, [.ref hm, .ref hf, .ref hp, .ref eb, .ref ep, .int (nI el), .ref nd, .ref mt, .ref ab])), (ep, .inl (cI, 12, .inl fq))]) [0, 1] rfl
    have hD9 := hD.sub (ws' := [(he, .inr (1, [.ref hm, .ref hf, .ref hp, .ref eb, .ref ep, .int (nI el), .ref nd, .ref mt, .ref ab])), (ep, .inl (cI, 12, .inl fq))]) [0, 1] (by decide) rfl
    have hK9 := hK.sub (tys' := [(cI, .int)]) [0] rfl
    exact W.iret (v := 0) hx hb hr (fun t ht hW => ⟨⟨0, (), rfl, trivial, by rw [ht]; exact hP9, va_K.moved hW.alike hK9, hD9⟩, hS.F ht⟩) hS.2.2 dX1_placeAt_23
  · refine lv_iload_n hx hb dX1_placeAt_4 rfl (lv_at hl 1 rfl) ?_
    refine lv_aload_n hx hb dX1_placeAt_5 rfl (lv_at hl 0 rfl) ?_
    refine va_get (D := (dC, dI)) (ci := 1) (v := .ref ep) (C := RX1) (T := TX1) (N := 9) hx hb hts k_1 hown hK hP 0 rfl rfl 4 (by decide) k_2 (fun _ h9 => h9) rfl dX1_placeAt_6 ?_
    refine va_alen (v := nI 12) hx hb hK hP 1 0 rfl rfl rfl dX1_placeAt_9 ?_
    refine lv_icmp_ge (tgt := 22) hx hb dX1_placeAt_10 (by decide) (fun c_2 => ?_) (fun c_2 => ?_)
    · refine lv_iconst (v := 0) hx hb dX1_placeAt_22 (by decide) ?_
      have hP9 := hP.sub (ws' := [(he, .inr (1, [.ref hm, .ref hf, .ref hp, .ref eb, .ref ep, .int (nI el), .ref nd, .ref mt, .ref ab])), (ep, .inl (cI, 12, .inl fq))]) [0, 1] rfl
      have hD9 := hD.sub (ws' := [(he, .inr (1, [.ref hm, .ref hf, .ref hp, .ref eb, .ref ep, .int (nI el), .ref nd, .ref mt, .ref ab])), (ep, .inl (cI, 12, .inl fq))]) [0, 1] (by decide) rfl
      have hK9 := hK.sub (tys' := [(cI, .int)]) [0] rfl
      exact W.iret (v := 0) hx hb hr (fun t ht hW => ⟨⟨0, (), rfl, trivial, by rw [ht]; exact hP9, va_K.moved hW.alike hK9, hD9⟩, hS.F ht⟩) hS.2.2 dX1_placeAt_23
    · refine lv_aload_n hx hb dX1_placeAt_13 rfl (lv_at hl 0 rfl) ?_
      refine va_get (D := (dC, dI)) (ci := 1) (v := .ref ep) (C := RX1) (T := TX1) (N := 9) hx hb hts k_1 hown hK hP 0 rfl rfl 4 (by decide) k_2 (fun _ h9 => h9) rfl dX1_placeAt_14 ?_
      refine lv_iload_n hx hb dX1_placeAt_17 rfl (lv_at hl 1 rfl) ?_
      refine va_iald hx hb hK hP 1 0 rfl rfl (in_guard c_1 c_2 (by omega)) dX1_placeAt_18 ?_
      refine lv_topi (fun z_3 _ => ?_)
      refine lv_goto (tgt := 23) hx hb dX1_placeAt_19 (by decide) ?_
      have hP9 := hP.sub (ws' := [(he, .inr (1, [.ref hm, .ref hf, .ref hp, .ref eb, .ref ep, .int (nI el), .ref nd, .ref mt, .ref ab])), (ep, .inl (cI, 12, .inl fq))]) [0, 1] rfl
      have hD9 := hD.sub (ws' := [(he, .inr (1, [.ref hm, .ref hf, .ref hp, .ref eb, .ref ep, .int (nI el), .ref nd, .ref mt, .ref ab])), (ep, .inl (cI, 12, .inl fq))]) [0, 1] (by decide) rfl
      have hK9 := hK.sub (tys' := [(cI, .int)]) [0] rfl
      exact W.iret (v := z_3) hx hb hr (fun t ht hW => ⟨⟨z_3, (), rfl, trivial, by rw [ht]; exact hP9, va_K.moved hW.alike hK9, hD9⟩, hS.F ht⟩) hS.2.2 dX1_placeAt_23
def v_X1_setPath : List Cond := .code yX1_setPath cX1_setPath 4 none :: ([.fieldLink RX1 23 "TwinRoots$Editor" "pathBlocks" "[I", .fieldLink RX1 27 "TwinRoots$Editor" "pathPlaces" "[I"] ++ (wsX10 ++ ([])))
set_option maxHeartbeats 4000000 in
set_option maxRecDepth 100000 in
/-- setPath -/
theorem c_X1_setPath (l : Launch) (dC : Nat → ClassId) (dI : Nat → Nat → Nat) (sz : Nat) (he : Nat) (hm : Nat) (hf : Nat) (hp : Nat) (eb : Nat) (ep : Nat) (nd : Nat) (mt : Nat) (ab : Nat) (el : Nat) (p0 : Int32) (p1 : Int32) (p2 : Int32) (cI : ClassId) (fb : Nat → Int32) (fq : Nat → Int32) : Met l yX1_setPath v_X1_setPath ({ frames := 0, cells := 0, slots := 0, locals := 0 } : Room) (va_Pc [.ref he, .int p0, .int p1, .int p2] (fun U => U.heap.size = sz ∧ va_P (dC, dI) vwCl [(he, .inr (1, [.ref hm, .ref hf, .ref hp, .ref eb, .ref ep, .int (nI el), .ref nd, .ref mt, .ref ab])), (eb, .inl (cI, 12, .inl fb)), (ep, .inl (cI, 12, .inl fq))] U.heap ∧ va_K (dC, dI) vwCl [(cI, .int)] U ∧ va_D (fun _ => True) [(he, .inr (1, [.ref hm, .ref hf, .ref hp, .ref eb, .ref ep, .int (nI el), .ref nd, .ref mt, .ref ab])), (eb, .inl (cI, 12, .inl fb)), (ep, .inl (cI, 12, .inl fq))])) (va_Qv (fun (u : (Nat → Int32) × (Nat → Int32)) => match u with | (fb2, fq2) => True) (fun (u : (Nat → Int32) × (Nat → Int32)) (t : State) => match u with | (fb2, fq2) => va_P (dC, dI) vwCl [(he, .inr (1, [.ref hm, .ref hf, .ref hp, .ref eb, .ref ep, .int (nI el), .ref nd, .ref mt, .ref ab])), (eb, .inl (cI, 12, .inl fb2)), (ep, .inl (cI, 12, .inl fq2))] t.heap ∧ va_K (dC, dI) vwCl [(cI, .int)] t ∧ va_D (va_A [(he, .inr (1, [.ref hm, .ref hf, .ref hp, .ref eb, .ref ep, .int (nI el), .ref nd, .ref mt, .ref ab])), (eb, .inl (cI, 12, .inl fb)), (ep, .inl (cI, 12, .inl fq))] sz) [(he, .inr (1, [.ref hm, .ref hf, .ref hp, .ref eb, .ref ep, .int (nI el), .ref nd, .ref mt, .ref ab])), (eb, .inl (cI, 12, .inl fb2)), (ep, .inl (cI, 12, .inl fq2))]) (va_A [(he, .inr (1, [.ref hm, .ref hf, .ref hp, .ref eb, .ref ep, .int (nI el), .ref nd, .ref mt, .ref ab])), (eb, .inl (cI, 12, .inl fb)), (ep, .inl (cI, 12, .inl fq))] sz)) 0 0 (va_A [(he, .inr (1, [.ref hm, .ref hf, .ref hp, .ref eb, .ref ep, .int (nI el), .ref nd, .ref mt, .ref ab])), (eb, .inl (cI, 12, .inl fb)), (ep, .inl (cI, 12, .inl fq))] sz) := by
  refine Met.ofW (cc := cX1_setPath) (maxL := 4) (ret := none) (by decide) rfl ?_
  intro p e s m args below meth c s₁ B hml hv
  obtain ⟨rfl, hsz, hP, hK, hD0⟩ := hv
  have hx := B.exec
  have hb := B.bytes
  have hr := B.returns
  have hts := atoms_spec (ws := v_X1_setPath) B.pre
  have hown : s.vm.findClass RX1 = some m.cls := findClass_of_methodNamed B.named
  have hlocks := B.notSynchronized
  subst hsz
  have hD := hD0.self (sz := s.heap.size)
  generalize hAe : va_A [(he, .inr (1, [.ref hm, .ref hf, .ref hp, .ref eb, .ref ep, .int (nI el), .ref nd, .ref mt, .ref ab])), (eb, .inl (cI, 12, .inl fb)), (ep, .inl (cI, 12, .inl fq))] s.heap.size = A at hD ⊢
  have hA : ∀ q : Nat, s.heap.size ≤ q → A q := fun q h => by rw [← hAe]; exact Or.inr h
  have hS : va_S A s.heap s.heap [] := va_S.rf
  have hP : va_P (dC, dI) vwCl [(he, .inr (1, [.ref hm, .ref hf, .ref hp, .ref eb, .ref ep, .int (nI el), .ref nd, .ref mt, .ref ab])), (eb, .inl (cI, 12, .inl fb)), (ep, .inl (cI, 12, .inl fq))] s.heap := hP
  have hl := lv_entry ([.ref he, .int p0, .int p1, .int p2]) (n := 4) (Nat.le_of_ble_eq_true rfl)
  rw [lg_entry_eq]
  generalize (lg_sl ([.ref he, .int p0, .int p1, .int p2]) ++ List.replicate (4 - (lg_sl ([.ref he, .int p0, .int p1, .int p2])).length) Slot.unset).toArray = ls at hl ⊢
  have hl : lv_has ls 4 [(0, .ref he), (1, .int p0), (2, .int p1), (3, .int p2)] := hl
  have k_1 := (fun _ h => List.mem_cons_of_mem _ (List.mem_append_right _ (List.mem_append_left _ h)) : ∀ w ∈ wsX10, w ∈ v_X1_setPath)
  have k_2 := hts (.fieldLink RX1 23 "TwinRoots$Editor" "pathBlocks" "[I") (List.mem_of_getElem? (i := 1) rfl)
  have k_3 := hts (.fieldLink RX1 27 "TwinRoots$Editor" "pathPlaces" "[I") (List.mem_of_getElem? (i := 2) rfl)
  refine lv_iload_n hx hb dX1_setPath_0 rfl (lv_at hl 1 rfl) ?_
  refine lv_if_lt (tgt := 36) hx hb dX1_setPath_1 (by decide) (fun c_1 => ?_) (fun c_1 => ?_)
  · have hP9 := hP.sub (ws' := [(he, .inr (1, [.ref hm, .ref hf, .ref hp, .ref eb, .ref ep, .int (nI el), .ref nd, .ref mt, .ref ab])), (eb, .inl (cI, 12, .inl fb)), (ep, .inl (cI, 12, .inl fq))]) [0, 1, 2] rfl
    have hD9 := hD.sub (ws' := [(he, .inr (1, [.ref hm, .ref hf, .ref hp, .ref eb, .ref ep, .int (nI el), .ref nd, .ref mt, .ref ab])), (eb, .inl (cI, 12, .inl fb)), (ep, .inl (cI, 12, .inl fq))]) [0, 1, 2] (by decide) rfl
    have hK9 := hK.sub (tys' := [(cI, .int)]) [0] rfl
    exact W.vret hx hb hr (fun t ht hW => ⟨⟨(fb, fq), rfl, trivial, by rw [ht]; exact hP9, va_K.moved hW.alike hK9, hD9⟩, hS.F ht⟩) hS.2.2 dX1_setPath_36
  · refine lv_iload_n hx hb dX1_setPath_4 rfl (lv_at hl 1 rfl) ?_
    refine lv_aload_n hx hb dX1_setPath_5 rfl (lv_at hl 0 rfl) ?_
    refine va_get (D := (dC, dI)) (ci := 1) (v := .ref eb) (C := RX1) (T := TX1) (N := 9) hx hb hts k_1 hown hK hP 0 rfl rfl 3 (by decide) k_2 (fun _ h9 => h9) rfl dX1_setPath_6 ?_
    refine va_alen (v := nI 12) hx hb hK hP 1 0 rfl rfl rfl dX1_setPath_9 ?_
    refine lv_icmp_ge (tgt := 36) hx hb dX1_setPath_10 (by decide) (fun c_2 => ?_) (fun c_2 => ?_)
    · have hP9 := hP.sub (ws' := [(he, .inr (1, [.ref hm, .ref hf, .ref hp, .ref eb, .ref ep, .int (nI el), .ref nd, .ref mt, .ref ab])), (eb, .inl (cI, 12, .inl fb)), (ep, .inl (cI, 12, .inl fq))]) [0, 1, 2] rfl
      have hD9 := hD.sub (ws' := [(he, .inr (1, [.ref hm, .ref hf, .ref hp, .ref eb, .ref ep, .int (nI el), .ref nd, .ref mt, .ref ab])), (eb, .inl (cI, 12, .inl fb)), (ep, .inl (cI, 12, .inl fq))]) [0, 1, 2] (by decide) rfl
      have hK9 := hK.sub (tys' := [(cI, .int)]) [0] rfl
      exact W.vret hx hb hr (fun t ht hW => ⟨⟨(fb, fq), rfl, trivial, by rw [ht]; exact hP9, va_K.moved hW.alike hK9, hD9⟩, hS.F ht⟩) hS.2.2 dX1_setPath_36
    · refine lv_iload_n hx hb dX1_setPath_13 rfl (lv_at hl 1 rfl) ?_
      refine lv_aload_n hx hb dX1_setPath_14 rfl (lv_at hl 0 rfl) ?_
      refine va_get (D := (dC, dI)) (ci := 1) (v := .ref ep) (C := RX1) (T := TX1) (N := 9) hx hb hts k_1 hown hK hP 0 rfl rfl 4 (by decide) k_3 (fun _ h9 => h9) rfl dX1_setPath_15 ?_
      refine va_alen (v := nI 12) hx hb hK hP 2 0 rfl rfl rfl dX1_setPath_18 ?_
      refine lv_icmp_ge (tgt := 36) hx hb dX1_setPath_19 (by decide) (fun c_3 => ?_) (fun c_3 => ?_)
      · have hP9 := hP.sub (ws' := [(he, .inr (1, [.ref hm, .ref hf, .ref hp, .ref eb, .ref ep, .int (nI el), .ref nd, .ref mt, .ref ab])), (eb, .inl (cI, 12, .inl fb)), (ep, .inl (cI, 12, .inl fq))]) [0, 1, 2] rfl
        have hD9 := hD.sub (ws' := [(he, .inr (1, [.ref hm, .ref hf, .ref hp, .ref eb, .ref ep, .int (nI el), .ref nd, .ref mt, .ref ab])), (eb, .inl (cI, 12, .inl fb)), (ep, .inl (cI, 12, .inl fq))]) [0, 1, 2] (by decide) rfl
        have hK9 := hK.sub (tys' := [(cI, .int)]) [0] rfl
        exact W.vret hx hb hr (fun t ht hW => ⟨⟨(fb, fq), rfl, trivial, by rw [ht]; exact hP9, va_K.moved hW.alike hK9, hD9⟩, hS.F ht⟩) hS.2.2 dX1_setPath_36
      · refine lv_aload_n hx hb dX1_setPath_22 rfl (lv_at hl 0 rfl) ?_
        refine va_get (D := (dC, dI)) (ci := 1) (v := .ref eb) (C := RX1) (T := TX1) (N := 9) hx hb hts k_1 hown hK hP 0 rfl rfl 3 (by decide) k_2 (fun _ h9 => h9) rfl dX1_setPath_23 ?_
        refine lv_iload_n hx hb dX1_setPath_26 rfl (lv_at hl 1 rfl) ?_
        refine lv_iload_n hx hb dX1_setPath_27 rfl (lv_at hl 2 rfl) ?_
        refine va_iast hx hb hK hP hD hS 1 0 rfl rfl (in_guard c_1 c_2 (by omega)) dX1_setPath_28 (fun H locs hP hD hS => ?_)
        have hP : va_P (dC, dI) vwCl [(he, .inr (1, [.ref hm, .ref hf, .ref hp, .ref eb, .ref ep, .int (nI el), .ref nd, .ref mt, .ref ab])), (eb, .inl (cI, 12, .inl (upd fb (p0.toNatClampNeg) p1))), (ep, .inl (cI, 12, .inl fq))] H := hP
        have hD : va_D A [(he, .inr (1, [.ref hm, .ref hf, .ref hp, .ref eb, .ref ep, .int (nI el), .ref nd, .ref mt, .ref ab])), (eb, .inl (cI, 12, .inl (upd fb (p0.toNatClampNeg) p1))), (ep, .inl (cI, 12, .inl fq))] := hD
        obtain ⟨f_4, ef_4⟩ : ∃ g9, g9 = upd fb (p0.toNatClampNeg) p1 := ⟨_, rfl⟩
        rw [← ef_4] at hP hD
        refine lv_aload_n hx hb dX1_setPath_29 rfl (lv_at hl 0 rfl) ?_
        refine va_get (D := (dC, dI)) (ci := 1) (v := .ref ep) (C := RX1) (T := TX1) (N := 9) hx hb hts k_1 hown hK hP 0 rfl rfl 4 (by decide) k_3 (fun _ h9 => h9) rfl dX1_setPath_30 ?_
        refine lv_iload_n hx hb dX1_setPath_33 rfl (lv_at hl 1 rfl) ?_
        refine lv_iload_n hx hb dX1_setPath_34 rfl (lv_at hl 3 rfl) ?_
        refine va_iast hx hb hK hP hD hS 2 0 rfl rfl (in_guard c_1 c_2 (by omega)) dX1_setPath_35 (fun H locs hP hD hS => ?_)
        have hP : va_P (dC, dI) vwCl [(he, .inr (1, [.ref hm, .ref hf, .ref hp, .ref eb, .ref ep, .int (nI el), .ref nd, .ref mt, .ref ab])), (eb, .inl (cI, 12, .inl f_4)), (ep, .inl (cI, 12, .inl (upd fq (p0.toNatClampNeg) p2)))] H := hP
        have hD : va_D A [(he, .inr (1, [.ref hm, .ref hf, .ref hp, .ref eb, .ref ep, .int (nI el), .ref nd, .ref mt, .ref ab])), (eb, .inl (cI, 12, .inl f_4)), (ep, .inl (cI, 12, .inl (upd fq (p0.toNatClampNeg) p2)))] := hD
        obtain ⟨f_5, ef_5⟩ : ∃ g9, g9 = upd fq (p0.toNatClampNeg) p2 := ⟨_, rfl⟩
        rw [← ef_5] at hP hD
        have hP9 := hP.sub (ws' := [(he, .inr (1, [.ref hm, .ref hf, .ref hp, .ref eb, .ref ep, .int (nI el), .ref nd, .ref mt, .ref ab])), (eb, .inl (cI, 12, .inl f_4)), (ep, .inl (cI, 12, .inl f_5))]) [0, 1, 2] rfl
        have hD9 := hD.sub (ws' := [(he, .inr (1, [.ref hm, .ref hf, .ref hp, .ref eb, .ref ep, .int (nI el), .ref nd, .ref mt, .ref ab])), (eb, .inl (cI, 12, .inl f_4)), (ep, .inl (cI, 12, .inl f_5))]) [0, 1, 2] (by decide) rfl
        have hK9 := hK.sub (tys' := [(cI, .int)]) [0] rfl
        exact W.vret hx hb hr (fun t ht hW => ⟨⟨(f_4, f_5), rfl, trivial, by rw [ht]; exact hP9, va_K.moved hW.alike hK9, hD9⟩, hS.F ht⟩) hS.2.2 dX1_setPath_36
def v_X1_findPath : List Cond := .code yX1_findPath cX1_findPath 5 none :: ([.fieldLink RX1 49 "TwinRoots$Editor" "levels" "I", .code yX1_setPath cX1_setPath 4 none, .fieldLink RX1 23 "TwinRoots$Editor" "pathBlocks" "[I", .fieldLink RX1 27 "TwinRoots$Editor" "pathPlaces" "[I", .methodLink RX1 154 yX1_setPath, .instanceMethod yX1_setPath, .selects RX1 yX1_setPath yX1_setPath, .initialized RX1, .fieldLink RX1 15 "TwinRoots$Editor" "forest" "LTwinRoots$Forest;", .code yX2_page cX2_page 2 (some (.object "TwinRoots$Page")), .fieldLink RX2 20 "TwinRoots$Forest" "empty" "LTwinRoots$Page;", .fieldLink RX2 11 "TwinRoots$Forest" "pages" "[LTwinRoots$Page;", .methodLink RX1 57 yX2_page, .instanceMethod yX2_page, .selects RX2 yX2_page yX2_page, .initialized RX2, .fieldLink RX1 110 "TwinRoots$Page" "leaf" "Z", .code yX4_childFor cX4_childFor 3 (some .int), .fieldLink RX4 22 "TwinRoots$Page" "many" "I", .code yX4_keyAt cX4_keyAt 2 (some .int), .fieldLink RX4 15 "TwinRoots$Page" "keys" "[I", .methodLink RX4 34 yX4_keyAt, .instanceMethod yX4_keyAt, .selects RX4 yX4_keyAt yX4_keyAt, .initialized RX4, .methodLink RX1 157 yX4_childFor, .instanceMethod yX4_childFor, .selects RX4 yX4_childFor yX4_childFor, .code yX1_blockAt cX1_blockAt 2 (some .int), .methodLink RX1 53 yX1_blockAt, .instanceMethod yX1_blockAt, .selects RX1 yX1_blockAt yX1_blockAt, .code yX4_refAt cX4_refAt 2 (some .int), .fieldLink RX4 19 "TwinRoots$Page" "refs" "[I", .methodLink RX1 141 yX4_refAt, .instanceMethod yX4_refAt, .selects RX4 yX4_refAt yX4_refAt] ++ (wsX10 ++ (wsX20 ++ (wsX40 ++ ([])))))
set_option maxRecDepth 20000 in
theorem g_X1_findPath_X1_setPath : GoodIn v_X1_findPath (wsV RX1 154 RX1 yX1_setPath v_X1_setPath) := goodIn_r _ [5, 6, 7, 8, 2, 3, 4, 38, 39, 40, 41, 42, 43, 44, 45, 46] (by decide +kernel) (by decide +kernel)
set_option maxRecDepth 20000 in
theorem g_X1_findPath_X2_page : GoodIn v_X1_findPath (wsV RX1 57 RX2 yX2_page v_X2_page) := goodIn_r _ [13, 14, 15, 16, 10, 11, 12, 47, 48, 49, 50, 51, 52] (by decide +kernel) (by decide +kernel)
set_option maxRecDepth 20000 in
theorem g_X1_findPath_X4_childFor : GoodIn v_X1_findPath (wsV RX1 157 RX4 yX4_childFor v_X4_childFor) := goodIn_r _ [26, 27, 28, 25, 18, 19, 20, 21, 22, 23, 24, 25, 53, 54, 55, 56] (by decide +kernel) (by decide +kernel)
set_option maxRecDepth 20000 in
theorem g_X1_findPath_X1_blockAt : GoodIn v_X1_findPath (wsV RX1 53 RX1 yX1_blockAt v_X1_blockAt) := goodIn_r _ [30, 31, 32, 8, 29, 3, 38, 39, 40, 41, 42, 43, 44, 45, 46] (by decide +kernel) (by decide +kernel)
set_option maxRecDepth 20000 in
theorem g_X1_findPath_X4_refAt : GoodIn v_X1_findPath (wsV RX1 141 RX4 yX4_refAt v_X4_refAt) := goodIn_r _ [35, 36, 37, 25, 33, 19, 34, 53, 54, 55, 56] (by decide +kernel) (by decide +kernel)
set_option maxHeartbeats 4000000 in
set_option maxRecDepth 100000 in
/-- findPath -/
theorem c_X1_findPath (l : Launch) (dC : Nat → ClassId) (dI : Nat → Nat → Nat) (sz : Nat) (he : Nat) (hm : Nat) (hf : Nat) (hp : Nat) (eb : Nat) (ep : Nat) (nd : Nat) (mt : Nat) (ab : Nat) (x0 : Int32) (p0 : Int32) (p1 : Int32) (fb : Nat → Int32) (fq : Nat → Int32) (qp : Nat) (qe : Nat) (ql : Nat) (b : Nat) (lo : Nat) (le : Nat) (dp : Int32) (cO : ClassId) (fp : Nat → Option Nat) (G : pgG) (Pg : List Nat) (cI : ClassId) (S : pgS) (zb : b ≤ 64) (hI : pgI G Pg S) (hpg : ∀ i, i < b → ∃ a, a ∈ Pg ∧ (G a).2.2.2 = 0 ∧ fp i = some a) (hm_qe : qe ∈ Pg) (ht_qe : (G qe).2.2.2 = 0) : Met l yX1_findPath v_X1_findPath ({ frames := 2, cells := 0, slots := 0, locals := 43 } : Room) (va_Pc [.ref he, .int p0, .int p1] (fun U => U.heap.size = sz ∧ va_P (dC, dI) vwCl ([(he, .inr (1, [.ref hm, .ref hf, .ref hp, .ref eb, .ref ep, .int x0, .ref nd, .ref mt, .ref ab])), (eb, .inl (cI, 12, .inl fb)), (ep, .inl (cI, 12, .inl fq)), (hf, .inr (2, [.int dp, .ref qp, .ref qe, .ref ql, .int (nI lo), .int (nI le)])), (qp, .inl (cO, b, .inr (.inr (.inr (.inr fp)))))] ++ pool G cI Pg S) U.heap ∧ va_K (dC, dI) vwCl [(cO, .object RX4), (cI, .int)] U ∧ va_D (fun _ => True) ([(he, .inr (1, [.ref hm, .ref hf, .ref hp, .ref eb, .ref ep, .int x0, .ref nd, .ref mt, .ref ab])), (eb, .inl (cI, 12, .inl fb)), (ep, .inl (cI, 12, .inl fq)), (hf, .inr (2, [.int dp, .ref qp, .ref qe, .ref ql, .int (nI lo), .int (nI le)])), (qp, .inl (cO, b, .inr (.inr (.inr (.inr fp)))))] ++ pool G cI Pg S))) (va_Qv (fun (u : Nat × (Nat → Int32) × (Nat → Int32)) => match u with | (el2, fb2, fq2) => 1 ≤ el2 ∧ el2 ≤ 12) (fun (u : Nat × (Nat → Int32) × (Nat → Int32)) (t : State) => match u with | (el2, fb2, fq2) => va_P (dC, dI) vwCl ([(he, .inr (1, [.ref hm, .ref hf, .ref hp, .ref eb, .ref ep, .int (nI el2), .ref nd, .ref mt, .ref ab])), (eb, .inl (cI, 12, .inl fb2)), (ep, .inl (cI, 12, .inl fq2)), (hf, .inr (2, [.int dp, .ref qp, .ref qe, .ref ql, .int (nI lo), .int (nI le)])), (qp, .inl (cO, b, .inr (.inr (.inr (.inr fp)))))] ++ pool G cI Pg S) t.heap ∧ va_K (dC, dI) vwCl [(cO, .object RX4), (cI, .int)] t ∧ va_D (va_A ([(he, .inr (1, [.ref hm, .ref hf, .ref hp, .ref eb, .ref ep, .int x0, .ref nd, .ref mt, .ref ab])), (eb, .inl (cI, 12, .inl fb)), (ep, .inl (cI, 12, .inl fq)), (hf, .inr (2, [.int dp, .ref qp, .ref qe, .ref ql, .int (nI lo), .int (nI le)])), (qp, .inl (cO, b, .inr (.inr (.inr (.inr fp)))))] ++ pool G cI Pg S) sz) ([(he, .inr (1, [.ref hm, .ref hf, .ref hp, .ref eb, .ref ep, .int (nI el2), .ref nd, .ref mt, .ref ab])), (eb, .inl (cI, 12, .inl fb2)), (ep, .inl (cI, 12, .inl fq2)), (hf, .inr (2, [.int dp, .ref qp, .ref qe, .ref ql, .int (nI lo), .int (nI le)])), (qp, .inl (cO, b, .inr (.inr (.inr (.inr fp)))))] ++ pool G cI Pg S)) (va_A ([(he, .inr (1, [.ref hm, .ref hf, .ref hp, .ref eb, .ref ep, .int x0, .ref nd, .ref mt, .ref ab])), (eb, .inl (cI, 12, .inl fb)), (ep, .inl (cI, 12, .inl fq)), (hf, .inr (2, [.int dp, .ref qp, .ref qe, .ref ql, .int (nI lo), .int (nI le)])), (qp, .inl (cO, b, .inr (.inr (.inr (.inr fp)))))] ++ pool G cI Pg S) sz)) 0 0 (va_A ([(he, .inr (1, [.ref hm, .ref hf, .ref hp, .ref eb, .ref ep, .int x0, .ref nd, .ref mt, .ref ab])), (eb, .inl (cI, 12, .inl fb)), (ep, .inl (cI, 12, .inl fq)), (hf, .inr (2, [.int dp, .ref qp, .ref qe, .ref ql, .int (nI lo), .int (nI le)])), (qp, .inl (cO, b, .inr (.inr (.inr (.inr fp)))))] ++ pool G cI Pg S) sz) := by
  refine Met.ofW (cc := cX1_findPath) (maxL := 5) (ret := none) (by decide) rfl ?_
  intro p e s m args below meth c s₁ B hml hv
  obtain ⟨rfl, hsz, hP, hK, hD0⟩ := hv
  have hx := B.exec
  have hb := B.bytes
  have hr := B.returns
  have hts := atoms_spec (ws := v_X1_findPath) B.pre
  have hown : s.vm.findClass RX1 = some m.cls := findClass_of_methodNamed B.named
  have hlocks := B.notSynchronized
  subst hsz
  have hD := hD0.self (sz := s.heap.size)
  generalize hAe : va_A ([(he, .inr (1, [.ref hm, .ref hf, .ref hp, .ref eb, .ref ep, .int x0, .ref nd, .ref mt, .ref ab])), (eb, .inl (cI, 12, .inl fb)), (ep, .inl (cI, 12, .inl fq)), (hf, .inr (2, [.int dp, .ref qp, .ref qe, .ref ql, .int (nI lo), .int (nI le)])), (qp, .inl (cO, b, .inr (.inr (.inr (.inr fp)))))] ++ pool G cI Pg S) s.heap.size = A at hD ⊢
  have hA : ∀ q : Nat, s.heap.size ≤ q → A q := fun q h => by rw [← hAe]; exact Or.inr h
  have hS : va_S A s.heap s.heap [] := va_S.rf
  have hP : va_P (dC, dI) vwCl ([(he, .inr (1, [.ref hm, .ref hf, .ref hp, .ref eb, .ref ep, .int x0, .ref nd, .ref mt, .ref ab])), (eb, .inl (cI, 12, .inl fb)), (ep, .inl (cI, 12, .inl fq)), (hf, .inr (2, [.int dp, .ref qp, .ref qe, .ref ql, .int (nI lo), .int (nI le)])), (qp, .inl (cO, b, .inr (.inr (.inr (.inr fp)))))] ++ pool G cI Pg S) s.heap := hP
  have hl := lv_entry ([.ref he, .int p0, .int p1]) (n := 5) (Nat.le_of_ble_eq_true rfl)
  rw [lg_entry_eq]
  generalize (lg_sl ([.ref he, .int p0, .int p1]) ++ List.replicate (5 - (lg_sl ([.ref he, .int p0, .int p1])).length) Slot.unset).toArray = ls at hl ⊢
  have hl : lv_has ls 5 [(0, .ref he), (1, .int p0), (2, .int p1)] := hl
  have k_1 := (fun _ h => List.mem_cons_of_mem _ (List.mem_append_right _ (List.mem_append_left _ h)) : ∀ w ∈ wsX10, w ∈ v_X1_findPath)
  have k_2 := hts (.fieldLink RX1 49 "TwinRoots$Editor" "levels" "I") (List.mem_of_getElem? (i := 1) rfl)
  have k_3 := hts (.fieldLink RX1 15 "TwinRoots$Editor" "forest" "LTwinRoots$Forest;") (List.mem_of_getElem? (i := 9) rfl)
  have k_4 := (fun _ h => List.mem_cons_of_mem _ (List.mem_append_right _ (List.mem_append_right _ (List.mem_append_right _ (List.mem_append_left _ h)))) : ∀ w ∈ wsX40, w ∈ v_X1_findPath)
  have k_5 := hts (.fieldLink RX1 110 "TwinRoots$Page" "leaf" "Z") (List.mem_of_getElem? (i := 17) rfl)
  refine lv_aload_n hx hb dX1_findPath_0 rfl (lv_at hl 0 rfl) ?_
  refine lv_iconst (v := 1) hx hb dX1_findPath_1 (by decide) ?_
  refine va_put (D := (dC, dI)) (ci := 1) (v := .int 1) (ty := .int) (C := RX1) (T := TX1) (N := 9) hx hb hts k_1 tyX1 tyX1_ok nmX1 hown hK hP hD hS 0 rfl rfl 5 (by decide) k_2 (fun _ h9 => h9) rfl (by decide +kernel) rfl rfl (Nat.le_of_ble_eq_true rfl) dX1_findPath_2 (fun H locs hP hD hS => ?_)
  have hP : va_P (dC, dI) vwCl ([(he, .inr (1, [.ref hm, .ref hf, .ref hp, .ref eb, .ref ep, .int 1, .ref nd, .ref mt, .ref ab])), (eb, .inl (cI, 12, .inl fb)), (ep, .inl (cI, 12, .inl fq)), (hf, .inr (2, [.int dp, .ref qp, .ref qe, .ref ql, .int (nI lo), .int (nI le)])), (qp, .inl (cO, b, .inr (.inr (.inr (.inr fp)))))] ++ pool G cI Pg S) H := hP
  have hD : va_D A ([(he, .inr (1, [.ref hm, .ref hf, .ref hp, .ref eb, .ref ep, .int 1, .ref nd, .ref mt, .ref ab])), (eb, .inl (cI, 12, .inl fb)), (ep, .inl (cI, 12, .inl fq)), (hf, .inr (2, [.int dp, .ref qp, .ref qe, .ref ql, .int (nI lo), .int (nI le)])), (qp, .inl (cO, b, .inr (.inr (.inr (.inr fp)))))] ++ pool G cI Pg S) := hD
  refine lv_aload_n hx hb dX1_findPath_5 rfl (lv_at hl 0 rfl) ?_
  refine lv_iconst (v := 0) hx hb dX1_findPath_6 (by decide) ?_
  refine lv_iload_n hx hb dX1_findPath_7 rfl (lv_at hl 1 rfl) ?_
  refine lv_iconst (v := 0) hx hb dX1_findPath_8 (by decide) ?_
  have hPc := hP.sub (ws' := [(he, .inr (1, [.ref hm, .ref hf, .ref hp, .ref eb, .ref ep, .int 1, .ref nd, .ref mt, .ref ab])), (eb, .inl (cI, 12, .inl fb)), (ep, .inl (cI, 12, .inl fq))]) [0, 1, 2] rfl
  have hDc := hD.sub (ws' := [(he, .inr (1, [.ref hm, .ref hf, .ref hp, .ref eb, .ref ep, .int 1, .ref nd, .ref mt, .ref ab])), (eb, .inl (cI, 12, .inl fb)), (ep, .inl (cI, 12, .inl fq))]) [0, 1, 2] (by decide) rfl
  have hKc := hK.sub (tys' := [(cI, .int)]) [1] rfl
  have hFc := va_free (wc := [(he, .inr (1, [.ref hm, .ref hf, .ref hp, .ref eb, .ref ep, .int 1, .ref nd, .ref mt, .ref ab])), (eb, .inl (cI, 12, .inl fb)), (ep, .inl (cI, 12, .inl fq))]) hD hS hA [0, 1, 2] rfl
  refine va_callv (va_runV (As := [.int 0, .int p0, .int 0]) (rest := []) ⟨hx, hb, hml, hown, hts⟩ (c_X1_setPath l dC dI H.size he hm hf hp eb ep nd mt ab 1 0 p0 0 cI fb fq) (cwV 3 hts g_X1_findPath_X1_setPath rfl rfl rfl (by decide +kernel) ⟨Nat.le_of_ble_eq_true rfl, Nat.le_of_ble_eq_true rfl⟩) ⟨fun a U g mk q => by obtain ⟨q0, q1, qP, qK, qD⟩ := q; exact ⟨q0, q1, qP, va_K.moved (u := U) (U := U.calling g mk a) (Vm.Alike.refl U.vm) qK, qD⟩, va_recv hKc hPc (ci := 1) (q0 := 0) rfl rfl, fun U hU hW => ⟨rfl, by rw [hU], by rw [hU]; exact hPc, va_K.moved hW.alike hKc, hDc.weaken (fun _ _ _ _ => trivial)⟩⟩ rfl rfl hl.1 rfl (lv_room (Nat.le_of_ble_eq_true rfl)) dX1_findPath_9 ⟨(show 0 + 0 ≤ 0 by omega), (show 0 + 0 ≤ 0 by omega)⟩) hS (fun q _ h => hFc q h) hFc (fun u t H1 locs ht hvm hw hB hz1 hk1 hS => ?_)
  obtain ⟨fb2_2, fq2_3⟩ := u
  obtain ⟨hP1, hK1, hD1⟩ := hB
  rw [ht] at hP1
  have hK1 := va_K.moved hvm.symm hK1
  try dsimp only at hw
  obtain ⟨hP, hD⟩ := va_joinQ (wr := [(hf, .inr (2, [.int dp, .ref qp, .ref qe, .ref ql, .int (nI lo), .int (nI le)])), (qp, .inl (cO, b, .inr (.inr (.inr (.inr fp)))))]) (w1 := [(he, .inr (1, [.ref hm, .ref hf, .ref hp, .ref eb, .ref ep, .int (nI 1), .ref nd, .ref mt, .ref ab])), (eb, .inl (cI, 12, .inl fb2_2)), (ep, .inl (cI, 12, .inl fq2_3))]) hP hD [0, 1, 2] [3, 4] rfl rfl (by decide) (by decide) hk1 hFc hP1 hD1
  have hK := (hK.sub (tys' := [(cO, .object RX4), (cI, .int)]) [0, 1] rfl).app hK1
  have hK : va_K (dC, dI) vwCl [(cO, .object RX4), (cI, .int)] s := hK.sub [0, 1] rfl
  generalize H1 = H at hP hS ⊢
  have hP : va_P (dC, dI) vwCl ([(hf, .inr (2, [.int dp, .ref qp, .ref qe, .ref ql, .int (nI lo), .int (nI le)])), (qp, .inl (cO, b, .inr (.inr (.inr (.inr fp))))), (he, .inr (1, [.ref hm, .ref hf, .ref hp, .ref eb, .ref ep, .int (nI 1), .ref nd, .ref mt, .ref ab])), (eb, .inl (cI, 12, .inl fb2_2)), (ep, .inl (cI, 12, .inl fq2_3))] ++ pool G cI Pg S) H := hP
  have hD : va_D A ([(hf, .inr (2, [.int dp, .ref qp, .ref qe, .ref ql, .int (nI lo), .int (nI le)])), (qp, .inl (cO, b, .inr (.inr (.inr (.inr fp))))), (he, .inr (1, [.ref hm, .ref hf, .ref hp, .ref eb, .ref ep, .int (nI 1), .ref nd, .ref mt, .ref ab])), (eb, .inl (cI, 12, .inl fb2_2)), (ep, .inl (cI, 12, .inl fq2_3))] ++ pool G cI Pg S) := hD
  have hK : va_K (dC, dI) vwCl [(cO, .object RX4), (cI, .int)] s := hK
  refine lv_aload_n hx hb dX1_findPath_12 rfl (lv_at hl 0 rfl) ?_
  refine va_get (D := (dC, dI)) (ci := 1) (v := .ref hf) (C := RX1) (T := TX1) (N := 9) hx hb hts k_1 hown hK hP 2 rfl rfl 1 (by decide) k_3 (fun _ h9 => h9) rfl dX1_findPath_13 ?_
  refine lv_iload_n hx hb dX1_findPath_16 rfl (lv_at hl 1 rfl) ?_
  have hPc := hP.part (cx := [(hf, .inr (2, [.int dp, .ref qp, .ref qe, .ref ql, .int (nI lo), .int (nI le)])), (qp, .inl (cO, b, .inr (.inr (.inr (.inr fp)))))]) [0, 1] rfl
  have hDc := hD.part (cx := [(hf, .inr (2, [.int dp, .ref qp, .ref qe, .ref ql, .int (nI lo), .int (nI le)])), (qp, .inl (cO, b, .inr (.inr (.inr (.inr fp)))))]) [0, 1] (by decide) rfl
  have hFc := va_freeP (cx := [(hf, .inr (2, [.int dp, .ref qp, .ref qe, .ref ql, .int (nI lo), .int (nI le)])), (qp, .inl (cO, b, .inr (.inr (.inr (.inr fp)))))]) hD hS hA [0, 1] rfl
  have hKc := hK.sub (tys' := [(cO, .object RX4), (cI, .int)]) [0, 1] rfl
  refine va_callr (va_runV (As := [.int p0]) (rest := []) ⟨hx, hb, hml, hown, hts⟩ (c_X2_page l dC dI H.size hf qp qe ql b lo le dp cO fp G Pg cI S p0 (by first | assumption | omega | decide) (by first | assumption | omega | decide) (by first | assumption | omega | decide) (by first | assumption | omega | decide) (by first | assumption | omega | decide)) (cwV 1 hts g_X1_findPath_X2_page rfl rfl rfl (by decide +kernel) ⟨Nat.le_of_ble_eq_true rfl, Nat.le_of_ble_eq_true rfl⟩) ⟨fun a U g mk q => by obtain ⟨q0, q1, qP, qK, qD⟩ := q; exact ⟨q0, q1, qP, va_K.moved (u := U) (U := U.calling g mk a) (Vm.Alike.refl U.vm) qK, qD⟩, va_recv hKc hPc (ci := 2) (q0 := 0) rfl rfl, fun U hU hW => ⟨rfl, by rw [hU], by rw [hU]; exact hPc, va_K.moved hW.alike hKc, hDc.weaken (fun _ _ _ _ => trivial)⟩⟩ rfl rfl hl.1 rfl (lv_room (Nat.le_of_ble_eq_true rfl)) dX1_findPath_17 ⟨(show 0 + 0 ≤ 0 by omega), (show 0 + 0 ≤ 0 by omega)⟩) hS (fun q _ h => hFc q h) hFc (fun u r_4 t H1 locs ht hvm hw hB hz1 hk1 hS => ?_)
  obtain ⟨a_5, rfl⟩ : ∃ z, z = u := ⟨_, rfl⟩
  obtain ⟨hra, hP1, hK1, hD1⟩ := hB
  have hra := hra.symm
  subst hra
  rw [ht] at hP1
  have hK1 := va_K.moved hvm.symm hK1
  try dsimp only at hw
  obtain ⟨hP, hD⟩ := va_joinP (wr := [(he, .inr (1, [.ref hm, .ref hf, .ref hp, .ref eb, .ref ep, .int (nI 1), .ref nd, .ref mt, .ref ab])), (eb, .inl (cI, 12, .inl fb2_2)), (ep, .inl (cI, 12, .inl fq2_3))]) (rx := [(hf, .inr (2, [.int dp, .ref qp, .ref qe, .ref ql, .int (nI lo), .int (nI le)])), (qp, .inl (cO, b, .inr (.inr (.inr (.inr fp)))))]) (pl1 := pool G cI Pg S) hP hD [0, 1] [2, 3, 4] rfl rfl (by decide) (by decide) hk1 hFc hP1 hD1
  have hK := (hK.sub (tys' := [(cO, .object RX4), (cI, .int)]) [0, 1] rfl).app hK1
  have hK : va_K (dC, dI) vwCl [(cO, .object RX4), (cI, .int)] s := hK.sub [0, 1] rfl
  generalize H1 = H at hP hS ⊢
  have hP : va_P (dC, dI) vwCl ([(he, .inr (1, [.ref hm, .ref hf, .ref hp, .ref eb, .ref ep, .int (nI 1), .ref nd, .ref mt, .ref ab])), (eb, .inl (cI, 12, .inl fb2_2)), (ep, .inl (cI, 12, .inl fq2_3)), (hf, .inr (2, [.int dp, .ref qp, .ref qe, .ref ql, .int (nI lo), .int (nI le)])), (qp, .inl (cO, b, .inr (.inr (.inr (.inr fp)))))] ++ pool G cI Pg S) H := hP
  have hD : va_D A ([(he, .inr (1, [.ref hm, .ref hf, .ref hp, .ref eb, .ref ep, .int (nI 1), .ref nd, .ref mt, .ref ab])), (eb, .inl (cI, 12, .inl fb2_2)), (ep, .inl (cI, 12, .inl fq2_3)), (hf, .inr (2, [.int dp, .ref qp, .ref qe, .ref ql, .int (nI lo), .int (nI le)])), (qp, .inl (cO, b, .inr (.inr (.inr (.inr fp)))))] ++ pool G cI Pg S) := hD
  have hK : va_K (dC, dI) vwCl [(cO, .object RX4), (cI, .int)] s := hK
  have hm_a_5 := hw.1
  have ht_a_5 := hw.2
  refine lv_astore_n (lv' := [(3, .ref a_5), (0, .ref he), (1, .int p0), (2, .int p1)]) hx hb dX1_findPath_20 rfl hl (by decide) rfl (fun ls hl => ?_)
  have loop_21 : ∀ (Q : State → Prop), (∀ (i : Nat) (pz : Nat) (v1 : Nat → Int32) (v2 : Nat → Int32) (H : Heap) (locs : List Loc) (ls : Array Slot), i ≤ 12 → (pz ∈ Pg) → ((G pz).2.2.2 = 0) → (1 ≤ i) → va_P (dC, dI) vwCl ([(he, .inr (1, [.ref hm, .ref hf, .ref hp, .ref eb, .ref ep, .int (nI i), .ref nd, .ref mt, .ref ab])), (eb, .inl (cI, 12, .inl v1)), (ep, .inl (cI, 12, .inl v2)), (hf, .inr (2, [.int dp, .ref qp, .ref qe, .ref ql, .int (nI lo), .int (nI le)])), (qp, .inl (cO, b, .inr (.inr (.inr (.inr fp)))))] ++ pool G cI Pg S) H → va_D A ([(he, .inr (1, [.ref hm, .ref hf, .ref hp, .ref eb, .ref ep, .int (nI i), .ref nd, .ref mt, .ref ab])), (eb, .inl (cI, 12, .inl v1)), (ep, .inl (cI, 12, .inl v2)), (hf, .inr (2, [.int dp, .ref qp, .ref qe, .ref ql, .int (nI lo), .int (nI le)])), (qp, .inl (cO, b, .inr (.inr (.inr (.inr fp)))))] ++ pool G cI Pg S) → va_S A s.heap H locs → lv_has ls 5 [(0, .ref he), (1, .int p0), (2, .int p1), (3, .ref pz)] → W p l e (headSpec v_X1_findPath ({ frames := 2, cells := 0, slots := 0, locals := 43 } : Room)).room s m ([.ref he, .int p0, .int p1] : List Value).toArray below meth c H locs 0 0 Q (F0 m 108 ls [])) → ∀ (nf i : Nat) (pz : Nat) (v1 : Nat → Int32) (v2 : Nat → Int32) (H : Heap) (locs : List Loc) (ls : Array Slot), i ≤ 12 → 12 + 1 ≤ i + nf → (pz ∈ Pg) → ((G pz).2.2.2 = 0) → (1 ≤ i) → va_P (dC, dI) vwCl ([(he, .inr (1, [.ref hm, .ref hf, .ref hp, .ref eb, .ref ep, .int (nI i), .ref nd, .ref mt, .ref ab])), (eb, .inl (cI, 12, .inl v1)), (ep, .inl (cI, 12, .inl v2)), (hf, .inr (2, [.int dp, .ref qp, .ref qe, .ref ql, .int (nI lo), .int (nI le)])), (qp, .inl (cO, b, .inr (.inr (.inr (.inr fp)))))] ++ pool G cI Pg S) H → va_D A ([(he, .inr (1, [.ref hm, .ref hf, .ref hp, .ref eb, .ref ep, .int (nI i), .ref nd, .ref mt, .ref ab])), (eb, .inl (cI, 12, .inl v1)), (ep, .inl (cI, 12, .inl v2)), (hf, .inr (2, [.int dp, .ref qp, .ref qe, .ref ql, .int (nI lo), .int (nI le)])), (qp, .inl (cO, b, .inr (.inr (.inr (.inr fp)))))] ++ pool G cI Pg S) → va_S A s.heap H locs → lv_has ls 5 [(0, .ref he), (1, .int p0), (2, .int p1), (3, .ref pz)] → W p l e (headSpec v_X1_findPath ({ frames := 2, cells := 0, slots := 0, locals := 43 } : Room)).room s m ([.ref he, .int p0, .int p1] : List Value).toArray below meth c H locs 0 0 Q (F0 m 21 ls []) := by
    intro Q kx nf
    induction nf with
    | zero =>
      intro i pz v1 v2 H locs ls h1 h2
      exact absurd h2 (by omega)
    | succ nf ih =>
      intro i pz v1 v2 H locs ls hi hn hm_pz ht_pz h_1 hP hD hS hl
      refine lv_aload_n hx hb dX1_findPath_21 rfl (lv_at hl 0 rfl) ?_
      refine va_get (D := (dC, dI)) (ci := 1) (v := .int (nI i)) (C := RX1) (T := TX1) (N := 9) hx hb hts k_1 hown hK hP 0 rfl rfl 5 (by decide) k_2 (fun _ h9 => h9) rfl dX1_findPath_22 ?_
      refine lv_bipush (v := 12) hx hb dX1_findPath_25 (by decide) ?_
      refine lv_icmp_ge (tgt := 108) hx hb dX1_findPath_27 (by decide) (fun c_6 => ?_) (fun c_6 => ?_)
      · exact kx i pz v1 v2 _ _ _ (by omega) hm_pz ht_pz h_1 hP hD hS (lv_sub hl [0, 1, 2, 3] rfl)
      · have hlt : i < 12 := Nat.lt_of_not_le (fun h => c_6 (nI_le h (by omega)))
        refine lv_aload_n hx hb dX1_findPath_30 rfl (lv_at hl 3 rfl) ?_
        obtain ⟨k9, hk9⟩ := pool_at (G := G) (cI := cI) (S := S) [(he, .inr (1, [.ref hm, .ref hf, .ref hp, .ref eb, .ref ep, .int (nI i), .ref nd, .ref mt, .ref ab])), (eb, .inl (cI, 12, .inl v1)), (ep, .inl (cI, 12, .inl v2)), (hf, .inr (2, [.int dp, .ref qp, .ref qe, .ref ql, .int (nI lo), .int (nI le)])), (qp, .inl (cO, b, .inr (.inr (.inr (.inr fp)))))] hm_pz
        refine va_get (D := (dC, dI)) (ci := 4) (v := .int (S pz).1) (C := RX4) (T := TX4) (N := 4) hx hb hts k_4 hown hK hP k9 hk9 rfl 0 (by decide) k_5 (fun _ h9 => h9) rfl dX1_findPath_31 ?_
        refine lv_if_ne (tgt := 108) hx hb dX1_findPath_34 (by decide) (fun c_7 => ?_) (fun c_7 => ?_)
        · exact kx i pz v1 v2 _ _ _ (by omega) hm_pz ht_pz h_1 hP hD hS (lv_sub hl [0, 1, 2, 3] rfl)
        · refine lv_aload_n hx hb dX1_findPath_37 rfl (lv_at hl 3 rfl) ?_
          refine lv_iload_n hx hb dX1_findPath_38 rfl (lv_at hl 2 rfl) ?_
          have hz1_pz := (hI pz hm_pz).1
          have hz2_pz := (hI pz hm_pz).2.1
          have hz3_pz := (hI pz hm_pz).2.2
          have hT9 := in1 hm_pz
          have hPc : va_P (dC, dI) vwCl [(pz, .inr (4, [.int (S pz).1, .int (nI (S pz).2.1), .ref (G pz).1, .ref (G pz).2.1])), ((G pz).1, .inl (cI, (G pz).2.2.1, .inl (S pz).2.2.1)), ((G pz).2.1, .inl (cI, (G pz).2.2.1, .inl (S pz).2.2.2))] H := pool_cut (T := [pz]) (cx := []) hP hT9 [] rfl
          have hDc : va_D A [(pz, .inr (4, [.int (S pz).1, .int (nI (S pz).2.1), .ref (G pz).1, .ref (G pz).2.1])), ((G pz).1, .inl (cI, (G pz).2.2.1, .inl (S pz).2.2.1)), ((G pz).2.1, .inl (cI, (G pz).2.2.1, .inl (S pz).2.2.2))] := pool_cutD (T := [pz]) (cx := []) hD hT9 (nd1) [] (by decide) rfl
          have hFc : ∀ q, va_A [(pz, .inr (4, [.int (S pz).1, .int (nI (S pz).2.1), .ref (G pz).1, .ref (G pz).2.1])), ((G pz).1, .inl (cI, (G pz).2.2.1, .inl (S pz).2.2.1)), ((G pz).2.1, .inl (cI, (G pz).2.2.1, .inl (S pz).2.2.2))] (H).size q → A q := pool_free (T := [pz]) (cx := []) hD hS hA hT9 [] rfl
          have hKc := hK.sub (tys' := [(cI, .int), (cI, .int)]) [1, 1] rfl
          refine va_calli (va_runV (As := [.int p1]) (rest := []) ⟨hx, hb, hml, hown, hts⟩ (c_X4_childFor l dC dI H.size pz (G pz).1 (G pz).2.1 (G pz).2.2.1 (S pz).2.1 (S pz).1 cI cI (S pz).2.2.1 (S pz).2.2.2 p1 (by first | assumption | omega | decide) (by first | assumption | omega | decide)) (cwV 1 hts g_X1_findPath_X4_childFor rfl rfl rfl (by decide +kernel) ⟨Nat.le_of_ble_eq_true rfl, Nat.le_of_ble_eq_true rfl⟩) ⟨fun a U g mk q => by obtain ⟨q0, q1, qP, qK, qD⟩ := q; exact ⟨q0, q1, qP, va_K.moved (u := U) (U := U.calling g mk a) (Vm.Alike.refl U.vm) qK, qD⟩, va_recv hKc hPc (ci := 4) (q0 := 0) rfl rfl, fun U hU hW => ⟨rfl, by rw [hU], by rw [hU]; exact hPc, va_K.moved hW.alike hKc, hDc.weaken (fun _ _ _ _ => trivial)⟩⟩ rfl rfl hl.1 rfl (lv_room (Nat.le_of_ble_eq_true rfl)) dX1_findPath_39 ⟨(show 0 + 0 ≤ 0 by omega), (show 0 + 0 ≤ 0 by omega)⟩) hS (fun q _ h => hFc q h) hFc (fun r_8 u t H1 locs ht hvm hw hB hz1 hk1 hS => ?_)
          obtain ⟨j_9, rfl⟩ : ∃ z, z = u := ⟨_, rfl⟩
          obtain ⟨hP1, hK1, hD1⟩ := hB
          rw [ht] at hP1
          have hK1 := va_K.moved hvm.symm hK1
          try dsimp only at hw
          obtain ⟨hP, hD⟩ := pool_join (S := S) (S1 := S) (T := [pz]) (cx := []) (wr := [(he, .inr (1, [.ref hm, .ref hf, .ref hp, .ref eb, .ref ep, .int (nI i), .ref nd, .ref mt, .ref ab])), (eb, .inl (cI, 12, .inl v1)), (ep, .inl (cI, 12, .inl v2)), (hf, .inr (2, [.int dp, .ref qp, .ref qe, .ref ql, .int (nI lo), .int (nI le)])), (qp, .inl (cO, b, .inr (.inr (.inr (.inr fp)))))]) (rx := []) hP hD hT9 [] [0, 1, 2, 3, 4] rfl rfl (by decide) (by decide) hk1 hFc hP1 hD1
          rw [pgJ_same] at hP hD
          have hK := (hK.sub (tys' := [(cO, .object RX4), (cI, .int)]) [0, 1] rfl).app hK1
          have hK : va_K (dC, dI) vwCl [(cO, .object RX4), (cI, .int)] s := hK.sub [0, 1] rfl
          generalize H1 = H at hP hS ⊢
          have hP : va_P (dC, dI) vwCl ([(he, .inr (1, [.ref hm, .ref hf, .ref hp, .ref eb, .ref ep, .int (nI i), .ref nd, .ref mt, .ref ab])), (eb, .inl (cI, 12, .inl v1)), (ep, .inl (cI, 12, .inl v2)), (hf, .inr (2, [.int dp, .ref qp, .ref qe, .ref ql, .int (nI lo), .int (nI le)])), (qp, .inl (cO, b, .inr (.inr (.inr (.inr fp)))))] ++ pool G cI Pg S) H := hP
          have hD : va_D A ([(he, .inr (1, [.ref hm, .ref hf, .ref hp, .ref eb, .ref ep, .int (nI i), .ref nd, .ref mt, .ref ab])), (eb, .inl (cI, 12, .inl v1)), (ep, .inl (cI, 12, .inl v2)), (hf, .inr (2, [.int dp, .ref qp, .ref qe, .ref ql, .int (nI lo), .int (nI le)])), (qp, .inl (cO, b, .inr (.inr (.inr (.inr fp)))))] ++ pool G cI Pg S) := hD
          have hK : va_K (dC, dI) vwCl [(cO, .object RX4), (cI, .int)] s := hK
          have hw_r_8 := hw
          obtain rfl : r_8 = nI j_9 := hw.1
          refine lv_istore (lv' := [(4, .int (nI j_9)), (0, .ref he), (1, .int p0), (2, .int p1), (3, .ref pz)]) hx hb dX1_findPath_42 hl (by decide) rfl (fun ls hl => ?_)
          refine lv_aload_n hx hb dX1_findPath_44 rfl (lv_at hl 1 rfl) ?_
          refine lv_aload_n hx hb dX1_findPath_45 rfl (lv_at hl 1 rfl) ?_
          refine va_get (D := (dC, dI)) (ci := 1) (v := .int (nI i)) (C := RX1) (T := TX1) (N := 9) hx hb hts k_1 hown hK hP 0 rfl rfl 5 (by decide) k_2 (fun _ h9 => h9) rfl dX1_findPath_46 ?_
          refine lv_iconst (v := 1) hx hb dX1_findPath_49 (by decide) ?_
          refine lv_isub hx hb dX1_findPath_50 ?_
          refine lv_topi (fun z_10 _ => ?_)
          refine lv_aload_n hx hb dX1_findPath_51 rfl (lv_at hl 1 rfl) ?_
          refine lv_aload_n hx hb dX1_findPath_52 rfl (lv_at hl 1 rfl) ?_
          refine va_get (D := (dC, dI)) (ci := 1) (v := .int (nI i)) (C := RX1) (T := TX1) (N := 9) hx hb hts k_1 hown hK hP 0 rfl rfl 5 (by decide) k_2 (fun _ h9 => h9) rfl dX1_findPath_53 ?_
          refine lv_iconst (v := 1) hx hb dX1_findPath_56 (by decide) ?_
          refine lv_isub hx hb dX1_findPath_57 ?_
          refine lv_topi (fun z_11 _ => ?_)
          have hPc := hP.sub (ws' := [(he, .inr (1, [.ref hm, .ref hf, .ref hp, .ref eb, .ref ep, .int (nI i), .ref nd, .ref mt, .ref ab])), (eb, .inl (cI, 12, .inl v1))]) [0, 1] rfl
          have hDc := hD.sub (ws' := [(he, .inr (1, [.ref hm, .ref hf, .ref hp, .ref eb, .ref ep, .int (nI i), .ref nd, .ref mt, .ref ab])), (eb, .inl (cI, 12, .inl v1))]) [0, 1] (by decide) rfl
          have hKc := hK.sub (tys' := [(cI, .int)]) [1] rfl
          have hFc := va_free (wc := [(he, .inr (1, [.ref hm, .ref hf, .ref hp, .ref eb, .ref ep, .int (nI i), .ref nd, .ref mt, .ref ab])), (eb, .inl (cI, 12, .inl v1))]) hD hS hA [0, 1] rfl
          refine va_calli (va_runV (As := [.int z_11]) (rest := [.int z_10, .ref he]) ⟨hx, hb, hml, hown, hts⟩ (c_X1_blockAt l dC dI H.size he hm hf hp eb ep nd mt ab i z_11 cI v1) (cwV 1 hts g_X1_findPath_X1_blockAt rfl rfl rfl (by decide +kernel) ⟨Nat.le_of_ble_eq_true rfl, Nat.le_of_ble_eq_true rfl⟩) ⟨fun a U g mk q => by obtain ⟨q0, q1, qP, qK, qD⟩ := q; exact ⟨q0, q1, qP, va_K.moved (u := U) (U := U.calling g mk a) (Vm.Alike.refl U.vm) qK, qD⟩, va_recv hKc hPc (ci := 1) (q0 := 0) rfl rfl, fun U hU hW => ⟨rfl, by rw [hU], by rw [hU]; exact hPc, va_K.moved hW.alike hKc, hDc.weaken (fun _ _ _ _ => trivial)⟩⟩ rfl rfl hl.1 rfl (lv_room (Nat.le_of_ble_eq_true rfl)) dX1_findPath_58 ⟨(show 0 + 0 ≤ 0 by omega), (show 0 + 0 ≤ 0 by omega)⟩) hS (fun q _ h => hFc q h) hFc (fun r_12 u t H1 locs ht hvm hw hB hz1 hk1 hS => ?_)
          obtain ⟨hP1, hK1, hD1⟩ := hB
          rw [ht] at hP1
          have hK1 := va_K.moved hvm.symm hK1
          try dsimp only at hw
          obtain ⟨hP, hD⟩ := va_joinQ (wr := [(ep, .inl (cI, 12, .inl v2)), (hf, .inr (2, [.int dp, .ref qp, .ref qe, .ref ql, .int (nI lo), .int (nI le)])), (qp, .inl (cO, b, .inr (.inr (.inr (.inr fp)))))]) (w1 := [(he, .inr (1, [.ref hm, .ref hf, .ref hp, .ref eb, .ref ep, .int (nI i), .ref nd, .ref mt, .ref ab])), (eb, .inl (cI, 12, .inl v1))]) hP hD [0, 1] [2, 3, 4] rfl rfl (by decide) (by decide) hk1 hFc hP1 hD1
          have hK := (hK.sub (tys' := [(cO, .object RX4), (cI, .int)]) [0, 1] rfl).app hK1
          have hK : va_K (dC, dI) vwCl [(cO, .object RX4), (cI, .int)] s := hK.sub [0, 1] rfl
          generalize H1 = H at hP hS ⊢
          have hP : va_P (dC, dI) vwCl ([(ep, .inl (cI, 12, .inl v2)), (hf, .inr (2, [.int dp, .ref qp, .ref qe, .ref ql, .int (nI lo), .int (nI le)])), (qp, .inl (cO, b, .inr (.inr (.inr (.inr fp))))), (he, .inr (1, [.ref hm, .ref hf, .ref hp, .ref eb, .ref ep, .int (nI i), .ref nd, .ref mt, .ref ab])), (eb, .inl (cI, 12, .inl v1))] ++ pool G cI Pg S) H := hP
          have hD : va_D A ([(ep, .inl (cI, 12, .inl v2)), (hf, .inr (2, [.int dp, .ref qp, .ref qe, .ref ql, .int (nI lo), .int (nI le)])), (qp, .inl (cO, b, .inr (.inr (.inr (.inr fp))))), (he, .inr (1, [.ref hm, .ref hf, .ref hp, .ref eb, .ref ep, .int (nI i), .ref nd, .ref mt, .ref ab])), (eb, .inl (cI, 12, .inl v1))] ++ pool G cI Pg S) := hD
          have hK : va_K (dC, dI) vwCl [(cO, .object RX4), (cI, .int)] s := hK
          have hw_r_12 := hw
          refine lv_iload hx hb dX1_findPath_61 (lv_at hl 0 rfl) ?_
          have hPc := hP.sub (ws' := [(he, .inr (1, [.ref hm, .ref hf, .ref hp, .ref eb, .ref ep, .int (nI i), .ref nd, .ref mt, .ref ab])), (eb, .inl (cI, 12, .inl v1)), (ep, .inl (cI, 12, .inl v2))]) [3, 4, 0] rfl
          have hDc := hD.sub (ws' := [(he, .inr (1, [.ref hm, .ref hf, .ref hp, .ref eb, .ref ep, .int (nI i), .ref nd, .ref mt, .ref ab])), (eb, .inl (cI, 12, .inl v1)), (ep, .inl (cI, 12, .inl v2))]) [3, 4, 0] (by decide) rfl
          have hKc := hK.sub (tys' := [(cI, .int)]) [1] rfl
          have hFc := va_free (wc := [(he, .inr (1, [.ref hm, .ref hf, .ref hp, .ref eb, .ref ep, .int (nI i), .ref nd, .ref mt, .ref ab])), (eb, .inl (cI, 12, .inl v1)), (ep, .inl (cI, 12, .inl v2))]) hD hS hA [3, 4, 0] rfl
          refine va_callv (va_runV (As := [.int z_10, .int r_12, .int (nI j_9)]) (rest := []) ⟨hx, hb, hml, hown, hts⟩ (c_X1_setPath l dC dI H.size he hm hf hp eb ep nd mt ab i z_10 r_12 (nI j_9) cI v1 v2) (cwV 3 hts g_X1_findPath_X1_setPath rfl rfl rfl (by decide +kernel) ⟨Nat.le_of_ble_eq_true rfl, Nat.le_of_ble_eq_true rfl⟩) ⟨fun a U g mk q => by obtain ⟨q0, q1, qP, qK, qD⟩ := q; exact ⟨q0, q1, qP, va_K.moved (u := U) (U := U.calling g mk a) (Vm.Alike.refl U.vm) qK, qD⟩, va_recv hKc hPc (ci := 1) (q0 := 0) rfl rfl, fun U hU hW => ⟨rfl, by rw [hU], by rw [hU]; exact hPc, va_K.moved hW.alike hKc, hDc.weaken (fun _ _ _ _ => trivial)⟩⟩ rfl rfl hl.1 rfl (lv_room (Nat.le_of_ble_eq_true rfl)) dX1_findPath_63 ⟨(show 0 + 0 ≤ 0 by omega), (show 0 + 0 ≤ 0 by omega)⟩) hS (fun q _ h => hFc q h) hFc (fun u t H1 locs ht hvm hw hB hz1 hk1 hS => ?_)
          obtain ⟨fb2_14, fq2_15⟩ := u
          obtain ⟨hP1, hK1, hD1⟩ := hB
          rw [ht] at hP1
          have hK1 := va_K.moved hvm.symm hK1
          try dsimp only at hw
          obtain ⟨hP, hD⟩ := va_joinQ (wr := [(hf, .inr (2, [.int dp, .ref qp, .ref qe, .ref ql, .int (nI lo), .int (nI le)])), (qp, .inl (cO, b, .inr (.inr (.inr (.inr fp)))))]) (w1 := [(he, .inr (1, [.ref hm, .ref hf, .ref hp, .ref eb, .ref ep, .int (nI i), .ref nd, .ref mt, .ref ab])), (eb, .inl (cI, 12, .inl fb2_14)), (ep, .inl (cI, 12, .inl fq2_15))]) hP hD [3, 4, 0] [1, 2] rfl rfl (by decide) (by decide) hk1 hFc hP1 hD1
          have hK := (hK.sub (tys' := [(cO, .object RX4), (cI, .int)]) [0, 1] rfl).app hK1
          have hK : va_K (dC, dI) vwCl [(cO, .object RX4), (cI, .int)] s := hK.sub [0, 1] rfl
          generalize H1 = H at hP hS ⊢
          have hP : va_P (dC, dI) vwCl ([(hf, .inr (2, [.int dp, .ref qp, .ref qe, .ref ql, .int (nI lo), .int (nI le)])), (qp, .inl (cO, b, .inr (.inr (.inr (.inr fp))))), (he, .inr (1, [.ref hm, .ref hf, .ref hp, .ref eb, .ref ep, .int (nI i), .ref nd, .ref mt, .ref ab])), (eb, .inl (cI, 12, .inl fb2_14)), (ep, .inl (cI, 12, .inl fq2_15))] ++ pool G cI Pg S) H := hP
          have hD : va_D A ([(hf, .inr (2, [.int dp, .ref qp, .ref qe, .ref ql, .int (nI lo), .int (nI le)])), (qp, .inl (cO, b, .inr (.inr (.inr (.inr fp))))), (he, .inr (1, [.ref hm, .ref hf, .ref hp, .ref eb, .ref ep, .int (nI i), .ref nd, .ref mt, .ref ab])), (eb, .inl (cI, 12, .inl fb2_14)), (ep, .inl (cI, 12, .inl fq2_15))] ++ pool G cI Pg S) := hD
          have hK : va_K (dC, dI) vwCl [(cO, .object RX4), (cI, .int)] s := hK
          refine lv_aload_n hx hb dX1_findPath_66 rfl (lv_at hl 1 rfl) ?_
          refine lv_aload_n hx hb dX1_findPath_67 rfl (lv_at hl 1 rfl) ?_
          refine va_get (D := (dC, dI)) (ci := 1) (v := .int (nI i)) (C := RX1) (T := TX1) (N := 9) hx hb hts k_1 hown hK hP 2 rfl rfl 5 (by decide) k_2 (fun _ h9 => h9) rfl dX1_findPath_68 ?_
          refine lv_aload_n hx hb dX1_findPath_71 rfl (lv_at hl 4 rfl) ?_
          refine lv_iload hx hb dX1_findPath_72 (lv_at hl 0 rfl) ?_
          have hz1_pz := (hI pz hm_pz).1
          have hz2_pz := (hI pz hm_pz).2.1
          have hz3_pz := (hI pz hm_pz).2.2
          have hT9 := in1 hm_pz
          have hPc : va_P (dC, dI) vwCl [(pz, .inr (4, [.int (S pz).1, .int (nI (S pz).2.1), .ref (G pz).1, .ref (G pz).2.1])), ((G pz).1, .inl (cI, (G pz).2.2.1, .inl (S pz).2.2.1)), ((G pz).2.1, .inl (cI, (G pz).2.2.1, .inl (S pz).2.2.2))] H := pool_cut (T := [pz]) (cx := []) hP hT9 [] rfl
          have hDc : va_D A [(pz, .inr (4, [.int (S pz).1, .int (nI (S pz).2.1), .ref (G pz).1, .ref (G pz).2.1])), ((G pz).1, .inl (cI, (G pz).2.2.1, .inl (S pz).2.2.1)), ((G pz).2.1, .inl (cI, (G pz).2.2.1, .inl (S pz).2.2.2))] := pool_cutD (T := [pz]) (cx := []) hD hT9 (nd1) [] (by decide) rfl
          have hFc : ∀ q, va_A [(pz, .inr (4, [.int (S pz).1, .int (nI (S pz).2.1), .ref (G pz).1, .ref (G pz).2.1])), ((G pz).1, .inl (cI, (G pz).2.2.1, .inl (S pz).2.2.1)), ((G pz).2.1, .inl (cI, (G pz).2.2.1, .inl (S pz).2.2.2))] (H).size q → A q := pool_free (T := [pz]) (cx := []) hD hS hA hT9 [] rfl
          have hKc := hK.sub (tys' := [(cI, .int), (cI, .int)]) [1, 1] rfl
          refine va_calli (va_runV (As := [.int (nI j_9)]) (rest := [.int (nI i), .ref he]) ⟨hx, hb, hml, hown, hts⟩ (c_X4_refAt l dC dI H.size pz (G pz).1 (G pz).2.1 (G pz).2.2.1 (S pz).2.1 (S pz).1 cI cI (S pz).2.2.1 (S pz).2.2.2 (nI j_9) (by first | assumption | omega | decide) (by first | assumption | omega | decide)) (cwV 1 hts g_X1_findPath_X4_refAt rfl rfl rfl (by decide +kernel) ⟨Nat.le_of_ble_eq_true rfl, Nat.le_of_ble_eq_true rfl⟩) ⟨fun a U g mk q => by obtain ⟨q0, q1, qP, qK, qD⟩ := q; exact ⟨q0, q1, qP, va_K.moved (u := U) (U := U.calling g mk a) (Vm.Alike.refl U.vm) qK, qD⟩, va_recv hKc hPc (ci := 4) (q0 := 0) rfl rfl, fun U hU hW => ⟨rfl, by rw [hU], by rw [hU]; exact hPc, va_K.moved hW.alike hKc, hDc.weaken (fun _ _ _ _ => trivial)⟩⟩ rfl rfl hl.1 rfl (lv_room (Nat.le_of_ble_eq_true rfl)) dX1_findPath_74 ⟨(show 0 + 0 ≤ 0 by omega), (show 0 + 0 ≤ 0 by omega)⟩) hS (fun q _ h => hFc q h) hFc (fun r_16 u t H1 locs ht hvm hw hB hz1 hk1 hS => ?_)
          obtain ⟨hP1, hK1, hD1⟩ := hB
          rw [ht] at hP1
          have hK1 := va_K.moved hvm.symm hK1
          try dsimp only at hw
          obtain ⟨hP, hD⟩ := pool_join (S := S) (S1 := S) (T := [pz]) (cx := []) (wr := [(hf, .inr (2, [.int dp, .ref qp, .ref qe, .ref ql, .int (nI lo), .int (nI le)])), (qp, .inl (cO, b, .inr (.inr (.inr (.inr fp))))), (he, .inr (1, [.ref hm, .ref hf, .ref hp, .ref eb, .ref ep, .int (nI i), .ref nd, .ref mt, .ref ab])), (eb, .inl (cI, 12, .inl fb2_14)), (ep, .inl (cI, 12, .inl fq2_15))]) (rx := []) hP hD hT9 [] [0, 1, 2, 3, 4] rfl rfl (by decide) (by decide) hk1 hFc hP1 hD1
          rw [pgJ_same] at hP hD
          have hK := (hK.sub (tys' := [(cO, .object RX4), (cI, .int)]) [0, 1] rfl).app hK1
          have hK : va_K (dC, dI) vwCl [(cO, .object RX4), (cI, .int)] s := hK.sub [0, 1] rfl
          generalize H1 = H at hP hS ⊢
          have hP : va_P (dC, dI) vwCl ([(hf, .inr (2, [.int dp, .ref qp, .ref qe, .ref ql, .int (nI lo), .int (nI le)])), (qp, .inl (cO, b, .inr (.inr (.inr (.inr fp))))), (he, .inr (1, [.ref hm, .ref hf, .ref hp, .ref eb, .ref ep, .int (nI i), .ref nd, .ref mt, .ref ab])), (eb, .inl (cI, 12, .inl fb2_14)), (ep, .inl (cI, 12, .inl fq2_15))] ++ pool G cI Pg S) H := hP
          have hD : va_D A ([(hf, .inr (2, [.int dp, .ref qp, .ref qe, .ref ql, .int (nI lo), .int (nI le)])), (qp, .inl (cO, b, .inr (.inr (.inr (.inr fp))))), (he, .inr (1, [.ref hm, .ref hf, .ref hp, .ref eb, .ref ep, .int (nI i), .ref nd, .ref mt, .ref ab])), (eb, .inl (cI, 12, .inl fb2_14)), (ep, .inl (cI, 12, .inl fq2_15))] ++ pool G cI Pg S) := hD
          have hK : va_K (dC, dI) vwCl [(cO, .object RX4), (cI, .int)] s := hK
          have hw_r_16 := hw
          refine lv_iconst (v := 0) hx hb dX1_findPath_77 (by decide) ?_
          have hPc := hP.sub (ws' := [(he, .inr (1, [.ref hm, .ref hf, .ref hp, .ref eb, .ref ep, .int (nI i), .ref nd, .ref mt, .ref ab])), (eb, .inl (cI, 12, .inl fb2_14)), (ep, .inl (cI, 12, .inl fq2_15))]) [2, 3, 4] rfl
          have hDc := hD.sub (ws' := [(he, .inr (1, [.ref hm, .ref hf, .ref hp, .ref eb, .ref ep, .int (nI i), .ref nd, .ref mt, .ref ab])), (eb, .inl (cI, 12, .inl fb2_14)), (ep, .inl (cI, 12, .inl fq2_15))]) [2, 3, 4] (by decide) rfl
          have hKc := hK.sub (tys' := [(cI, .int)]) [1] rfl
          have hFc := va_free (wc := [(he, .inr (1, [.ref hm, .ref hf, .ref hp, .ref eb, .ref ep, .int (nI i), .ref nd, .ref mt, .ref ab])), (eb, .inl (cI, 12, .inl fb2_14)), (ep, .inl (cI, 12, .inl fq2_15))]) hD hS hA [2, 3, 4] rfl
          refine va_callv (va_runV (As := [.int (nI i), .int r_16, .int 0]) (rest := []) ⟨hx, hb, hml, hown, hts⟩ (c_X1_setPath l dC dI H.size he hm hf hp eb ep nd mt ab i (nI i) r_16 0 cI fb2_14 fq2_15) (cwV 3 hts g_X1_findPath_X1_setPath rfl rfl rfl (by decide +kernel) ⟨Nat.le_of_ble_eq_true rfl, Nat.le_of_ble_eq_true rfl⟩) ⟨fun a U g mk q => by obtain ⟨q0, q1, qP, qK, qD⟩ := q; exact ⟨q0, q1, qP, va_K.moved (u := U) (U := U.calling g mk a) (Vm.Alike.refl U.vm) qK, qD⟩, va_recv hKc hPc (ci := 1) (q0 := 0) rfl rfl, fun U hU hW => ⟨rfl, by rw [hU], by rw [hU]; exact hPc, va_K.moved hW.alike hKc, hDc.weaken (fun _ _ _ _ => trivial)⟩⟩ rfl rfl hl.1 rfl (lv_room (Nat.le_of_ble_eq_true rfl)) dX1_findPath_78 ⟨(show 0 + 0 ≤ 0 by omega), (show 0 + 0 ≤ 0 by omega)⟩) hS (fun q _ h => hFc q h) hFc (fun u t H1 locs ht hvm hw hB hz1 hk1 hS => ?_)
          obtain ⟨fb2_18, fq2_19⟩ := u
          obtain ⟨hP1, hK1, hD1⟩ := hB
          rw [ht] at hP1
          have hK1 := va_K.moved hvm.symm hK1
          try dsimp only at hw
          obtain ⟨hP, hD⟩ := va_joinQ (wr := [(hf, .inr (2, [.int dp, .ref qp, .ref qe, .ref ql, .int (nI lo), .int (nI le)])), (qp, .inl (cO, b, .inr (.inr (.inr (.inr fp)))))]) (w1 := [(he, .inr (1, [.ref hm, .ref hf, .ref hp, .ref eb, .ref ep, .int (nI i), .ref nd, .ref mt, .ref ab])), (eb, .inl (cI, 12, .inl fb2_18)), (ep, .inl (cI, 12, .inl fq2_19))]) hP hD [2, 3, 4] [0, 1] rfl rfl (by decide) (by decide) hk1 hFc hP1 hD1
          have hK := (hK.sub (tys' := [(cO, .object RX4), (cI, .int)]) [0, 1] rfl).app hK1
          have hK : va_K (dC, dI) vwCl [(cO, .object RX4), (cI, .int)] s := hK.sub [0, 1] rfl
          generalize H1 = H at hP hS ⊢
          have hP : va_P (dC, dI) vwCl ([(hf, .inr (2, [.int dp, .ref qp, .ref qe, .ref ql, .int (nI lo), .int (nI le)])), (qp, .inl (cO, b, .inr (.inr (.inr (.inr fp))))), (he, .inr (1, [.ref hm, .ref hf, .ref hp, .ref eb, .ref ep, .int (nI i), .ref nd, .ref mt, .ref ab])), (eb, .inl (cI, 12, .inl fb2_18)), (ep, .inl (cI, 12, .inl fq2_19))] ++ pool G cI Pg S) H := hP
          have hD : va_D A ([(hf, .inr (2, [.int dp, .ref qp, .ref qe, .ref ql, .int (nI lo), .int (nI le)])), (qp, .inl (cO, b, .inr (.inr (.inr (.inr fp))))), (he, .inr (1, [.ref hm, .ref hf, .ref hp, .ref eb, .ref ep, .int (nI i), .ref nd, .ref mt, .ref ab])), (eb, .inl (cI, 12, .inl fb2_18)), (ep, .inl (cI, 12, .inl fq2_19))] ++ pool G cI Pg S) := hD
          have hK : va_K (dC, dI) vwCl [(cO, .object RX4), (cI, .int)] s := hK
          refine lv_aload_n hx hb dX1_findPath_81 rfl (lv_at hl 1 rfl) ?_
          refine va_get (D := (dC, dI)) (ci := 1) (v := .ref hf) (C := RX1) (T := TX1) (N := 9) hx hb hts k_1 hown hK hP 2 rfl rfl 1 (by decide) k_3 (fun _ h9 => h9) rfl dX1_findPath_82 ?_
          refine lv_aload_n hx hb dX1_findPath_85 rfl (lv_at hl 4 rfl) ?_
          refine lv_iload hx hb dX1_findPath_86 (lv_at hl 0 rfl) ?_
          have hz1_pz := (hI pz hm_pz).1
          have hz2_pz := (hI pz hm_pz).2.1
          have hz3_pz := (hI pz hm_pz).2.2
          have hT9 := in1 hm_pz
          have hPc : va_P (dC, dI) vwCl [(pz, .inr (4, [.int (S pz).1, .int (nI (S pz).2.1), .ref (G pz).1, .ref (G pz).2.1])), ((G pz).1, .inl (cI, (G pz).2.2.1, .inl (S pz).2.2.1)), ((G pz).2.1, .inl (cI, (G pz).2.2.1, .inl (S pz).2.2.2))] H := pool_cut (T := [pz]) (cx := []) hP hT9 [] rfl
          have hDc : va_D A [(pz, .inr (4, [.int (S pz).1, .int (nI (S pz).2.1), .ref (G pz).1, .ref (G pz).2.1])), ((G pz).1, .inl (cI, (G pz).2.2.1, .inl (S pz).2.2.1)), ((G pz).2.1, .inl (cI, (G pz).2.2.1, .inl (S pz).2.2.2))] := pool_cutD (T := [pz]) (cx := []) hD hT9 (nd1) [] (by decide) rfl
          have hFc : ∀ q, va_A [(pz, .inr (4, [.int (S pz).1, .int (nI (S pz).2.1), .ref (G pz).1, .ref (G pz).2.1])), ((G pz).1, .inl (cI, (G pz).2.2.1, .inl (S pz).2.2.1)), ((G pz).2.1, .inl (cI, (G pz).2.2.1, .inl (S pz).2.2.2))] (H).size q → A q := pool_free (T := [pz]) (cx := []) hD hS hA hT9 [] rfl
          have hKc := hK.sub (tys' := [(cI, .int), (cI, .int)]) [1, 1] rfl
          refine va_calli (va_runV (As := [.int (nI j_9)]) (rest := [.ref hf]) ⟨hx, hb, hml, hown, hts⟩ (c_X4_refAt l dC dI H.size pz (G pz).1 (G pz).2.1 (G pz).2.2.1 (S pz).2.1 (S pz).1 cI cI (S pz).2.2.1 (S pz).2.2.2 (nI j_9) (by first | assumption | omega | decide) (by first | assumption | omega | decide)) (cwV 1 hts g_X1_findPath_X4_refAt rfl rfl rfl (by decide +kernel) ⟨Nat.le_of_ble_eq_true rfl, Nat.le_of_ble_eq_true rfl⟩) ⟨fun a U g mk q => by obtain ⟨q0, q1, qP, qK, qD⟩ := q; exact ⟨q0, q1, qP, va_K.moved (u := U) (U := U.calling g mk a) (Vm.Alike.refl U.vm) qK, qD⟩, va_recv hKc hPc (ci := 4) (q0 := 0) rfl rfl, fun U hU hW => ⟨rfl, by rw [hU], by rw [hU]; exact hPc, va_K.moved hW.alike hKc, hDc.weaken (fun _ _ _ _ => trivial)⟩⟩ rfl rfl hl.1 rfl (lv_room (Nat.le_of_ble_eq_true rfl)) dX1_findPath_88 ⟨(show 0 + 0 ≤ 0 by omega), (show 0 + 0 ≤ 0 by omega)⟩) hS (fun q _ h => hFc q h) hFc (fun r_20 u t H1 locs ht hvm hw hB hz1 hk1 hS => ?_)
          obtain ⟨hP1, hK1, hD1⟩ := hB
          rw [ht] at hP1
          have hK1 := va_K.moved hvm.symm hK1
          try dsimp only at hw
          obtain ⟨hP, hD⟩ := pool_join (S := S) (S1 := S) (T := [pz]) (cx := []) (wr := [(hf, .inr (2, [.int dp, .ref qp, .ref qe, .ref ql, .int (nI lo), .int (nI le)])), (qp, .inl (cO, b, .inr (.inr (.inr (.inr fp))))), (he, .inr (1, [.ref hm, .ref hf, .ref hp, .ref eb, .ref ep, .int (nI i), .ref nd, .ref mt, .ref ab])), (eb, .inl (cI, 12, .inl fb2_18)), (ep, .inl (cI, 12, .inl fq2_19))]) (rx := []) hP hD hT9 [] [0, 1, 2, 3, 4] rfl rfl (by decide) (by decide) hk1 hFc hP1 hD1
          rw [pgJ_same] at hP hD
          have hK := (hK.sub (tys' := [(cO, .object RX4), (cI, .int)]) [0, 1] rfl).app hK1
          have hK : va_K (dC, dI) vwCl [(cO, .object RX4), (cI, .int)] s := hK.sub [0, 1] rfl
          generalize H1 = H at hP hS ⊢
          have hP : va_P (dC, dI) vwCl ([(hf, .inr (2, [.int dp, .ref qp, .ref qe, .ref ql, .int (nI lo), .int (nI le)])), (qp, .inl (cO, b, .inr (.inr (.inr (.inr fp))))), (he, .inr (1, [.ref hm, .ref hf, .ref hp, .ref eb, .ref ep, .int (nI i), .ref nd, .ref mt, .ref ab])), (eb, .inl (cI, 12, .inl fb2_18)), (ep, .inl (cI, 12, .inl fq2_19))] ++ pool G cI Pg S) H := hP
          have hD : va_D A ([(hf, .inr (2, [.int dp, .ref qp, .ref qe, .ref ql, .int (nI lo), .int (nI le)])), (qp, .inl (cO, b, .inr (.inr (.inr (.inr fp))))), (he, .inr (1, [.ref hm, .ref hf, .ref hp, .ref eb, .ref ep, .int (nI i), .ref nd, .ref mt, .ref ab])), (eb, .inl (cI, 12, .inl fb2_18)), (ep, .inl (cI, 12, .inl fq2_19))] ++ pool G cI Pg S) := hD
          have hK : va_K (dC, dI) vwCl [(cO, .object RX4), (cI, .int)] s := hK
          have hw_r_20 := hw
          have hPc := hP.part (cx := [(hf, .inr (2, [.int dp, .ref qp, .ref qe, .ref ql, .int (nI lo), .int (nI le)])), (qp, .inl (cO, b, .inr (.inr (.inr (.inr fp)))))]) [0, 1] rfl
          have hDc := hD.part (cx := [(hf, .inr (2, [.int dp, .ref qp, .ref qe, .ref ql, .int (nI lo), .int (nI le)])), (qp, .inl (cO, b, .inr (.inr (.inr (.inr fp)))))]) [0, 1] (by decide) rfl
          have hFc := va_freeP (cx := [(hf, .inr (2, [.int dp, .ref qp, .ref qe, .ref ql, .int (nI lo), .int (nI le)])), (qp, .inl (cO, b, .inr (.inr (.inr (.inr fp)))))]) hD hS hA [0, 1] rfl
          have hKc := hK.sub (tys' := [(cO, .object RX4), (cI, .int)]) [0, 1] rfl
          refine va_callr (va_runV (As := [.int r_20]) (rest := []) ⟨hx, hb, hml, hown, hts⟩ (c_X2_page l dC dI H.size hf qp qe ql b lo le dp cO fp G Pg cI S r_20 (by first | assumption | omega | decide) (by first | assumption | omega | decide) (by first | assumption | omega | decide) (by first | assumption | omega | decide) (by first | assumption | omega | decide)) (cwV 1 hts g_X1_findPath_X2_page rfl rfl rfl (by decide +kernel) ⟨Nat.le_of_ble_eq_true rfl, Nat.le_of_ble_eq_true rfl⟩) ⟨fun a U g mk q => by obtain ⟨q0, q1, qP, qK, qD⟩ := q; exact ⟨q0, q1, qP, va_K.moved (u := U) (U := U.calling g mk a) (Vm.Alike.refl U.vm) qK, qD⟩, va_recv hKc hPc (ci := 2) (q0 := 0) rfl rfl, fun U hU hW => ⟨rfl, by rw [hU], by rw [hU]; exact hPc, va_K.moved hW.alike hKc, hDc.weaken (fun _ _ _ _ => trivial)⟩⟩ rfl rfl hl.1 rfl (lv_room (Nat.le_of_ble_eq_true rfl)) dX1_findPath_91 ⟨(show 0 + 0 ≤ 0 by omega), (show 0 + 0 ≤ 0 by omega)⟩) hS (fun q _ h => hFc q h) hFc (fun u r_21 t H1 locs ht hvm hw hB hz1 hk1 hS => ?_)
          obtain ⟨a_22, rfl⟩ : ∃ z, z = u := ⟨_, rfl⟩
          obtain ⟨hra, hP1, hK1, hD1⟩ := hB
          have hra := hra.symm
          subst hra
          rw [ht] at hP1
          have hK1 := va_K.moved hvm.symm hK1
          try dsimp only at hw
          obtain ⟨hP, hD⟩ := va_joinP (wr := [(he, .inr (1, [.ref hm, .ref hf, .ref hp, .ref eb, .ref ep, .int (nI i), .ref nd, .ref mt, .ref ab])), (eb, .inl (cI, 12, .inl fb2_18)), (ep, .inl (cI, 12, .inl fq2_19))]) (rx := [(hf, .inr (2, [.int dp, .ref qp, .ref qe, .ref ql, .int (nI lo), .int (nI le)])), (qp, .inl (cO, b, .inr (.inr (.inr (.inr fp)))))]) (pl1 := pool G cI Pg S) hP hD [0, 1] [2, 3, 4] rfl rfl (by decide) (by decide) hk1 hFc hP1 hD1
          have hK := (hK.sub (tys' := [(cO, .object RX4), (cI, .int)]) [0, 1] rfl).app hK1
          have hK : va_K (dC, dI) vwCl [(cO, .object RX4), (cI, .int)] s := hK.sub [0, 1] rfl
          generalize H1 = H at hP hS ⊢
          have hP : va_P (dC, dI) vwCl ([(he, .inr (1, [.ref hm, .ref hf, .ref hp, .ref eb, .ref ep, .int (nI i), .ref nd, .ref mt, .ref ab])), (eb, .inl (cI, 12, .inl fb2_18)), (ep, .inl (cI, 12, .inl fq2_19)), (hf, .inr (2, [.int dp, .ref qp, .ref qe, .ref ql, .int (nI lo), .int (nI le)])), (qp, .inl (cO, b, .inr (.inr (.inr (.inr fp)))))] ++ pool G cI Pg S) H := hP
          have hD : va_D A ([(he, .inr (1, [.ref hm, .ref hf, .ref hp, .ref eb, .ref ep, .int (nI i), .ref nd, .ref mt, .ref ab])), (eb, .inl (cI, 12, .inl fb2_18)), (ep, .inl (cI, 12, .inl fq2_19)), (hf, .inr (2, [.int dp, .ref qp, .ref qe, .ref ql, .int (nI lo), .int (nI le)])), (qp, .inl (cO, b, .inr (.inr (.inr (.inr fp)))))] ++ pool G cI Pg S) := hD
          have hK : va_K (dC, dI) vwCl [(cO, .object RX4), (cI, .int)] s := hK
          have hm_a_22 := hw.1
          have ht_a_22 := hw.2
          refine lv_astore_n (lv' := [(3, .ref a_22), (4, .int (nI j_9)), (0, .ref he), (1, .int p0), (2, .int p1)]) hx hb dX1_findPath_94 rfl hl (by decide) rfl (fun ls hl => ?_)
          refine lv_aload_n hx hb dX1_findPath_95 rfl (lv_at hl 2 rfl) ?_
          refine lv_dup hx hb dX1_findPath_96 rfl ?_
          refine va_get (D := (dC, dI)) (ci := 1) (v := .int (nI i)) (C := RX1) (T := TX1) (N := 9) hx hb hts k_1 hown hK hP 0 rfl rfl 5 (by decide) k_2 (fun _ h9 => h9) rfl dX1_findPath_97 ?_
          refine lv_iconst (v := 1) hx hb dX1_findPath_100 (by decide) ?_
          refine lv_iadd hx hb dX1_findPath_101 ?_
          refine lv_topi (fun z_23 ez_23 => ?_)
          obtain rfl : z_23 = nI (i + 1) := ez_23.trans (nI_1 i)
          refine va_put (D := (dC, dI)) (ci := 1) (v := .int (nI (i + 1))) (ty := .int) (C := RX1) (T := TX1) (N := 9) hx hb hts k_1 tyX1 tyX1_ok nmX1 hown hK hP hD hS 0 rfl rfl 5 (by decide) k_2 (fun _ h9 => h9) rfl (by decide +kernel) rfl rfl (Nat.le_of_ble_eq_true rfl) dX1_findPath_102 (fun H locs hP hD hS => ?_)
          have hP : va_P (dC, dI) vwCl ([(he, .inr (1, [.ref hm, .ref hf, .ref hp, .ref eb, .ref ep, .int (nI (i + 1)), .ref nd, .ref mt, .ref ab])), (eb, .inl (cI, 12, .inl fb2_18)), (ep, .inl (cI, 12, .inl fq2_19)), (hf, .inr (2, [.int dp, .ref qp, .ref qe, .ref ql, .int (nI lo), .int (nI le)])), (qp, .inl (cO, b, .inr (.inr (.inr (.inr fp)))))] ++ pool G cI Pg S) H := hP
          have hD : va_D A ([(he, .inr (1, [.ref hm, .ref hf, .ref hp, .ref eb, .ref ep, .int (nI (i + 1)), .ref nd, .ref mt, .ref ab])), (eb, .inl (cI, 12, .inl fb2_18)), (ep, .inl (cI, 12, .inl fq2_19)), (hf, .inr (2, [.int dp, .ref qp, .ref qe, .ref ql, .int (nI lo), .int (nI le)])), (qp, .inl (cO, b, .inr (.inr (.inr (.inr fp)))))] ++ pool G cI Pg S) := hD
          refine lv_goto (tgt := 21) hx hb dX1_findPath_105 (by decide) ?_
          exact ih (i + 1) a_22 fb2_18 fq2_19 _ _ _ (by omega) (by omega) hm_a_22 ht_a_22 (by omega) hP hD hS (lv_sub hl [2, 3, 4, 0] rfl)
  refine loop_21 _ (fun i pz v1 v2 H locs ls hi hm_pz ht_pz h_1 hP hD hS hl => ?_) (12 + 1) 1 a_5 fb2_2 fq2_3 _ _ _ (by omega) (by omega) hm_a_5 ht_a_5 (by omega) hP hD hS (lv_sub hl [1, 2, 3, 0] rfl)
  have hP9 := hP.part (cx := [(he, .inr (1, [.ref hm, .ref hf, .ref hp, .ref eb, .ref ep, .int (nI i), .ref nd, .ref mt, .ref ab])), (eb, .inl (cI, 12, .inl v1)), (ep, .inl (cI, 12, .inl v2)), (hf, .inr (2, [.int dp, .ref qp, .ref qe, .ref ql, .int (nI lo), .int (nI le)])), (qp, .inl (cO, b, .inr (.inr (.inr (.inr fp)))))]) [0, 1, 2, 3, 4] rfl
  have hD9 := hD.part (cx := [(he, .inr (1, [.ref hm, .ref hf, .ref hp, .ref eb, .ref ep, .int (nI i), .ref nd, .ref mt, .ref ab])), (eb, .inl (cI, 12, .inl v1)), (ep, .inl (cI, 12, .inl v2)), (hf, .inr (2, [.int dp, .ref qp, .ref qe, .ref ql, .int (nI lo), .int (nI le)])), (qp, .inl (cO, b, .inr (.inr (.inr (.inr fp)))))]) [0, 1, 2, 3, 4] (by decide) rfl
  have hK9 := hK.sub (tys' := [(cO, .object RX4), (cI, .int)]) [0, 1] rfl
  exact W.vret hx hb hr (fun t ht hW => ⟨⟨(i, v1, v2), rfl, ⟨by omega, by omega⟩, by rw [ht]; exact hP9, va_K.moved hW.alike hK9, hD9⟩, hS.F ht⟩) hS.2.2 dX1_findPath_108
def v_X1_partIfTooMany : List Cond := .code yX1_partIfTooMany cX1_partIfTooMany 1 (some .boolean) :: ([.fieldLink RX1 35 "TwinRoots$Editor" "node" "LTwinRoots$Page;", .fieldLink RX1 107 "TwinRoots$Page" "many" "I", .fieldLink RX1 9 "TwinRoots$Editor" "limits" "LTwinRoots$Limits;", .fieldLink RX1 110 "TwinRoots$Page" "leaf" "Z", .code yX3_most cX3_most 2 (some .int), .fieldLink RX3 13 "TwinRoots$Limits" "mostChildren" "I", .fieldLink RX3 7 "TwinRoots$Limits" "mostKeys" "I", .methodLink RX1 114 yX3_most, .instanceMethod yX3_most, .selects RX3 yX3_most yX3_most, .initialized RX3, .fieldLink RX1 39 "TwinRoots$Editor" "mate" "LTwinRoots$Page;", .code yX4_partInto cX4_partInto 3 none, .fieldLink RX4 22 "TwinRoots$Page" "many" "I", .fieldLink RX4 9 "TwinRoots$Page" "leaf" "Z", .code yX4_clear cX4_clear 2 none, .methodLink RX4 26 yX4_clear, .instanceMethod yX4_clear, .selects RX4 yX4_clear yX4_clear, .initialized RX4, .code yX4_append cX4_append 4 none, .fieldLink RX4 15 "TwinRoots$Page" "keys" "[I", .fieldLink RX4 19 "TwinRoots$Page" "refs" "[I", .code yX4_keyAt cX4_keyAt 2 (some .int), .methodLink RX4 34 yX4_keyAt, .instanceMethod yX4_keyAt, .selects RX4 yX4_keyAt yX4_keyAt, .code yX4_refAt cX4_refAt 2 (some .int), .methodLink RX4 38 yX4_refAt, .instanceMethod yX4_refAt, .selects RX4 yX4_refAt yX4_refAt, .methodLink RX4 30 yX4_append, .instanceMethod yX4_append, .selects RX4 yX4_append yX4_append, .methodLink RX1 120 yX4_partInto, .instanceMethod yX4_partInto, .selects RX4 yX4_partInto yX4_partInto] ++ (wsX10 ++ (wsX40 ++ (wsX30 ++ ([])))))
set_option maxRecDepth 20000 in
theorem g_X1_partIfTooMany_X3_most : GoodIn v_X1_partIfTooMany (wsV RX1 114 RX3 yX3_most v_X3_most) := goodIn_r _ [8, 9, 10, 11, 5, 6, 7, 51, 52] (by decide +kernel) (by decide +kernel)
set_option maxRecDepth 20000 in
theorem g_X1_partIfTooMany_X4_partInto : GoodIn v_X1_partIfTooMany (wsV RX1 120 RX4 yX4_partInto v_X4_partInto) := goodIn_r _ [35, 36, 37, 20, 13, 14, 15, 16, 17, 18, 19, 20, 21, 22, 23, 24, 25, 26, 27, 28, 29, 30, 31, 32, 33, 34, 47, 48, 49, 50] (by decide +kernel) (by decide +kernel)
set_option maxHeartbeats 4000000 in
set_option maxRecDepth 100000 in
/-- partIfTooMany -/
theorem c_X1_partIfTooMany (l : Launch) (dC : Nat → ClassId) (dI : Nat → Nat → Nat) (sz : Nat) (he : Nat) (hm : Nat) (hf : Nat) (hp : Nat) (eb : Nat) (ep : Nat) (nd : Nat) (mt : Nat) (ab : Nat) (el : Nat) (mk : Int32) (mc : Int32) (G : pgG) (Pg : List Nat) (cI : ClassId) (S : pgS) (hI : pgI G Pg S) (hm_nd : nd ∈ Pg) (ht_nd : (G nd).2.2.2 = 2) (hm_mt : mt ∈ Pg) (ht_mt : (G mt).2.2.2 = 3) (hm_ab : ab ∈ Pg) (ht_ab : (G ab).2.2.2 = 4) : Met l yX1_partIfTooMany v_X1_partIfTooMany ({ frames := 3, cells := 0, slots := 0, locals := 66 } : Room) (va_Pc [.ref he] (fun U => U.heap.size = sz ∧ va_P (dC, dI) vwCl ([(he, .inr (1, [.ref hm, .ref hf, .ref hp, .ref eb, .ref ep, .int (nI el), .ref nd, .ref mt, .ref ab])), (hm, .inr (3, [.int mk, .int mc]))] ++ pool G cI Pg S) U.heap ∧ va_K (dC, dI) vwCl [(cI, .int)] U ∧ va_D (fun _ => True) ([(he, .inr (1, [.ref hm, .ref hf, .ref hp, .ref eb, .ref ep, .int (nI el), .ref nd, .ref mt, .ref ab])), (hm, .inr (3, [.int mk, .int mc]))] ++ pool G cI Pg S))) (va_Qi (fun (r : Int32) (S2 : pgS) => pgI G Pg S2 ∧ (r = 0 ∨ r = 1)) (fun (S2 : pgS) (t : State) => va_P (dC, dI) vwCl ([(he, .inr (1, [.ref hm, .ref hf, .ref hp, .ref eb, .ref ep, .int (nI el), .ref nd, .ref mt, .ref ab])), (hm, .inr (3, [.int mk, .int mc]))] ++ pool G cI Pg S2) t.heap ∧ va_K (dC, dI) vwCl [(cI, .int)] t ∧ va_D (va_A ([(he, .inr (1, [.ref hm, .ref hf, .ref hp, .ref eb, .ref ep, .int (nI el), .ref nd, .ref mt, .ref ab])), (hm, .inr (3, [.int mk, .int mc]))] ++ pool G cI Pg S) sz) ([(he, .inr (1, [.ref hm, .ref hf, .ref hp, .ref eb, .ref ep, .int (nI el), .ref nd, .ref mt, .ref ab])), (hm, .inr (3, [.int mk, .int mc]))] ++ pool G cI Pg S2)) (va_A ([(he, .inr (1, [.ref hm, .ref hf, .ref hp, .ref eb, .ref ep, .int (nI el), .ref nd, .ref mt, .ref ab])), (hm, .inr (3, [.int mk, .int mc]))] ++ pool G cI Pg S) sz)) 0 0 (va_A ([(he, .inr (1, [.ref hm, .ref hf, .ref hp, .ref eb, .ref ep, .int (nI el), .ref nd, .ref mt, .ref ab])), (hm, .inr (3, [.int mk, .int mc]))] ++ pool G cI Pg S) sz) := by
  refine Met.ofW (cc := cX1_partIfTooMany) (maxL := 1) (ret := (some .boolean)) (by decide) rfl ?_
  intro p e s m args below meth c s₁ B hml hv
  obtain ⟨rfl, hsz, hP, hK, hD0⟩ := hv
  have hx := B.exec
  have hb := B.bytes
  have hr := B.returns
  have hts := atoms_spec (ws := v_X1_partIfTooMany) B.pre
  have hown : s.vm.findClass RX1 = some m.cls := findClass_of_methodNamed B.named
  have hlocks := B.notSynchronized
  subst hsz
  have hD := hD0.self (sz := s.heap.size)
  generalize hAe : va_A ([(he, .inr (1, [.ref hm, .ref hf, .ref hp, .ref eb, .ref ep, .int (nI el), .ref nd, .ref mt, .ref ab])), (hm, .inr (3, [.int mk, .int mc]))] ++ pool G cI Pg S) s.heap.size = A at hD ⊢
  have hA : ∀ q : Nat, s.heap.size ≤ q → A q := fun q h => by rw [← hAe]; exact Or.inr h
  have hS : va_S A s.heap s.heap [] := va_S.rf
  have hP : va_P (dC, dI) vwCl ([(he, .inr (1, [.ref hm, .ref hf, .ref hp, .ref eb, .ref ep, .int (nI el), .ref nd, .ref mt, .ref ab])), (hm, .inr (3, [.int mk, .int mc]))] ++ pool G cI Pg S) s.heap := hP
  have hl := lv_entry ([.ref he]) (n := 1) (Nat.le_of_ble_eq_true rfl)
  rw [lg_entry_eq]
  generalize (lg_sl ([.ref he]) ++ List.replicate (1 - (lg_sl ([.ref he])).length) Slot.unset).toArray = ls at hl ⊢
  have hl : lv_has ls 1 [(0, .ref he)] := hl
  have k_1 := (fun _ h => List.mem_cons_of_mem _ (List.mem_append_right _ (List.mem_append_left _ h)) : ∀ w ∈ wsX10, w ∈ v_X1_partIfTooMany)
  have k_2 := hts (.fieldLink RX1 35 "TwinRoots$Editor" "node" "LTwinRoots$Page;") (List.mem_of_getElem? (i := 1) rfl)
  have k_3 := (fun _ h => List.mem_cons_of_mem _ (List.mem_append_right _ (List.mem_append_right _ (List.mem_append_left _ h))) : ∀ w ∈ wsX40, w ∈ v_X1_partIfTooMany)
  have k_4 := hts (.fieldLink RX1 107 "TwinRoots$Page" "many" "I") (List.mem_of_getElem? (i := 2) rfl)
  have k_5 := hts (.fieldLink RX1 9 "TwinRoots$Editor" "limits" "LTwinRoots$Limits;") (List.mem_of_getElem? (i := 3) rfl)
  have k_6 := hts (.fieldLink RX1 110 "TwinRoots$Page" "leaf" "Z") (List.mem_of_getElem? (i := 4) rfl)
  have k_7 := hts (.fieldLink RX1 39 "TwinRoots$Editor" "mate" "LTwinRoots$Page;") (List.mem_of_getElem? (i := 12) rfl)
  refine lv_aload_n hx hb dX1_partIfTooMany_0 rfl (lv_at hl 0 rfl) ?_
  refine va_get (D := (dC, dI)) (ci := 1) (v := .ref nd) (C := RX1) (T := TX1) (N := 9) hx hb hts k_1 hown hK hP 0 rfl rfl 6 (by decide) k_2 (fun _ h9 => h9) rfl dX1_partIfTooMany_1 ?_
  obtain ⟨k9, hk9⟩ := pool_at (G := G) (cI := cI) (S := S) [(he, .inr (1, [.ref hm, .ref hf, .ref hp, .ref eb, .ref ep, .int (nI el), .ref nd, .ref mt, .ref ab])), (hm, .inr (3, [.int mk, .int mc]))] hm_nd
  refine va_get (D := (dC, dI)) (ci := 4) (v := .int (nI (S nd).2.1)) (C := RX4) (T := TX4) (N := 4) hx hb hts k_3 hown hK hP k9 hk9 rfl 1 (by decide) k_4 (fun _ h9 => h9) rfl dX1_partIfTooMany_4 ?_
  refine lv_aload_n hx hb dX1_partIfTooMany_7 rfl (lv_at hl 0 rfl) ?_
  refine va_get (D := (dC, dI)) (ci := 1) (v := .ref hm) (C := RX1) (T := TX1) (N := 9) hx hb hts k_1 hown hK hP 0 rfl rfl 0 (by decide) k_5 (fun _ h9 => h9) rfl dX1_partIfTooMany_8 ?_
  refine lv_aload_n hx hb dX1_partIfTooMany_11 rfl (lv_at hl 0 rfl) ?_
  refine va_get (D := (dC, dI)) (ci := 1) (v := .ref nd) (C := RX1) (T := TX1) (N := 9) hx hb hts k_1 hown hK hP 0 rfl rfl 6 (by decide) k_2 (fun _ h9 => h9) rfl dX1_partIfTooMany_12 ?_
  obtain ⟨k9, hk9⟩ := pool_at (G := G) (cI := cI) (S := S) [(he, .inr (1, [.ref hm, .ref hf, .ref hp, .ref eb, .ref ep, .int (nI el), .ref nd, .ref mt, .ref ab])), (hm, .inr (3, [.int mk, .int mc]))] hm_nd
  refine va_get (D := (dC, dI)) (ci := 4) (v := .int (S nd).1) (C := RX4) (T := TX4) (N := 4) hx hb hts k_3 hown hK hP k9 hk9 rfl 0 (by decide) k_6 (fun _ h9 => h9) rfl dX1_partIfTooMany_15 ?_
  have hPc := hP.sub (ws' := [(hm, .inr (3, [.int mk, .int mc]))]) [1] rfl
  have hDc := hD.sub (ws' := [(hm, .inr (3, [.int mk, .int mc]))]) [1] (by decide) rfl
  have hKc := hK.sub (tys' := []) [] rfl
  have hFc := va_free (wc := [(hm, .inr (3, [.int mk, .int mc]))]) hD hS hA [1] rfl
  refine va_calli (va_runV (As := [.int (S nd).1]) (rest := [.int (nI (S nd).2.1)]) ⟨hx, hb, hml, hown, hts⟩ (c_X3_most l dC dI s.heap.size hm mk mc (S nd).1) (cwV 1 hts g_X1_partIfTooMany_X3_most rfl rfl rfl (by decide +kernel) ⟨Nat.le_of_ble_eq_true rfl, Nat.le_of_ble_eq_true rfl⟩) ⟨fun a U g mk q => by obtain ⟨q0, q1, qP, qK, qD⟩ := q; exact ⟨q0, q1, qP, va_K.moved (u := U) (U := U.calling g mk a) (Vm.Alike.refl U.vm) qK, qD⟩, va_recv hKc hPc (ci := 3) (q0 := 0) rfl rfl, fun U hU hW => ⟨rfl, by rw [hU], by rw [hU]; exact hPc, va_K.moved hW.alike hKc, hDc.weaken (fun _ _ _ _ => trivial)⟩⟩ rfl rfl hl.1 rfl (lv_room (Nat.le_of_ble_eq_true rfl)) dX1_partIfTooMany_18 ⟨(show 0 + 0 ≤ 0 by omega), (show 0 + 0 ≤ 0 by omega)⟩) hS (fun q _ h => hFc q h) hFc (fun r_1 u t H1 locs ht hvm hw hB hz1 hk1 hS => ?_)
  obtain ⟨hP1, hK1, hD1⟩ := hB
  rw [ht] at hP1
  have hK1 := va_K.moved hvm.symm hK1
  try dsimp only at hw
  obtain ⟨hP, hD⟩ := va_joinQ (wr := [(he, .inr (1, [.ref hm, .ref hf, .ref hp, .ref eb, .ref ep, .int (nI el), .ref nd, .ref mt, .ref ab]))]) (w1 := [(hm, .inr (3, [.int mk, .int mc]))]) hP hD [1] [0] rfl rfl (by decide) (by decide) hk1 hFc hP1 hD1
  have hK := (hK.sub (tys' := [(cI, .int)]) [0] rfl).app hK1
  have hK : va_K (dC, dI) vwCl [(cI, .int)] s := hK.sub [0] rfl
  generalize H1 = H at hP hS ⊢
  have hP : va_P (dC, dI) vwCl ([(he, .inr (1, [.ref hm, .ref hf, .ref hp, .ref eb, .ref ep, .int (nI el), .ref nd, .ref mt, .ref ab])), (hm, .inr (3, [.int mk, .int mc]))] ++ pool G cI Pg S) H := hP
  have hD : va_D A ([(he, .inr (1, [.ref hm, .ref hf, .ref hp, .ref eb, .ref ep, .int (nI el), .ref nd, .ref mt, .ref ab])), (hm, .inr (3, [.int mk, .int mc]))] ++ pool G cI Pg S) := hD
  have hK : va_K (dC, dI) vwCl [(cI, .int)] s := hK
  have hw_r_1 := hw
  refine lv_icmp_gt (tgt := 26) hx hb dX1_partIfTooMany_21 (by decide) (fun c_2 => ?_) (fun c_2 => ?_)
  · refine lv_aload_n hx hb dX1_partIfTooMany_26 rfl (lv_at hl 0 rfl) ?_
    refine va_get (D := (dC, dI)) (ci := 1) (v := .ref nd) (C := RX1) (T := TX1) (N := 9) hx hb hts k_1 hown hK hP 0 rfl rfl 6 (by decide) k_2 (fun _ h9 => h9) rfl dX1_partIfTooMany_27 ?_
    refine lv_aload_n hx hb dX1_partIfTooMany_30 rfl (lv_at hl 0 rfl) ?_
    refine va_get (D := (dC, dI)) (ci := 1) (v := .ref mt) (C := RX1) (T := TX1) (N := 9) hx hb hts k_1 hown hK hP 0 rfl rfl 7 (by decide) k_7 (fun _ h9 => h9) rfl dX1_partIfTooMany_31 ?_
    have hz1_nd := (hI nd hm_nd).1
    have hz2_nd := (hI nd hm_nd).2.1
    have hz3_nd := (hI nd hm_nd).2.2
    have hz1_mt := (hI mt hm_mt).1
    have hz2_mt := (hI mt hm_mt).2.1
    have hz3_mt := (hI mt hm_mt).2.2
    have hab : nd ≠ mt := fun h9 => absurd (congrArg (fun x => (G x).2.2.2) h9) (by show (G nd).2.2.2 ≠ (G mt).2.2.2; have h7 := ht_nd; have h8 := ht_mt; omega)
    have hT9 := in2 hm_nd hm_mt
    have hPc : va_P (dC, dI) vwCl [(nd, .inr (4, [.int (S nd).1, .int (nI (S nd).2.1), .ref (G nd).1, .ref (G nd).2.1])), ((G nd).1, .inl (cI, (G nd).2.2.1, .inl (S nd).2.2.1)), ((G nd).2.1, .inl (cI, (G nd).2.2.1, .inl (S nd).2.2.2)), (mt, .inr (4, [.int (S mt).1, .int (nI (S mt).2.1), .ref (G mt).1, .ref (G mt).2.1])), ((G mt).1, .inl (cI, (G mt).2.2.1, .inl (S mt).2.2.1)), ((G mt).2.1, .inl (cI, (G mt).2.2.1, .inl (S mt).2.2.2))] H := pool_cut (T := [nd, mt]) (cx := []) hP hT9 [] rfl
    have hDc : va_D A [(nd, .inr (4, [.int (S nd).1, .int (nI (S nd).2.1), .ref (G nd).1, .ref (G nd).2.1])), ((G nd).1, .inl (cI, (G nd).2.2.1, .inl (S nd).2.2.1)), ((G nd).2.1, .inl (cI, (G nd).2.2.1, .inl (S nd).2.2.2)), (mt, .inr (4, [.int (S mt).1, .int (nI (S mt).2.1), .ref (G mt).1, .ref (G mt).2.1])), ((G mt).1, .inl (cI, (G mt).2.2.1, .inl (S mt).2.2.1)), ((G mt).2.1, .inl (cI, (G mt).2.2.1, .inl (S mt).2.2.2))] := pool_cutD (T := [nd, mt]) (cx := []) hD hT9 (nd2 hab) [] (by decide) rfl
    have hFc : ∀ q, va_A [(nd, .inr (4, [.int (S nd).1, .int (nI (S nd).2.1), .ref (G nd).1, .ref (G nd).2.1])), ((G nd).1, .inl (cI, (G nd).2.2.1, .inl (S nd).2.2.1)), ((G nd).2.1, .inl (cI, (G nd).2.2.1, .inl (S nd).2.2.2)), (mt, .inr (4, [.int (S mt).1, .int (nI (S mt).2.1), .ref (G mt).1, .ref (G mt).2.1])), ((G mt).1, .inl (cI, (G mt).2.2.1, .inl (S mt).2.2.1)), ((G mt).2.1, .inl (cI, (G mt).2.2.1, .inl (S mt).2.2.2))] (H).size q → A q := pool_free (T := [nd, mt]) (cx := []) hD hS hA hT9 [] rfl
    have hKc := hK.sub (tys' := [(cI, .int), (cI, .int), (cI, .int), (cI, .int)]) [0, 0, 0, 0] rfl
    refine va_callv (va_runV (As := [.ref mt]) (rest := []) ⟨hx, hb, hml, hown, hts⟩ (c_X4_partInto l dC dI H.size nd (G nd).1 (G nd).2.1 (G nd).2.2.1 (S nd).2.1 (S nd).1 cI cI (S nd).2.2.1 (S nd).2.2.2 mt (G mt).1 (G mt).2.1 (G mt).2.2.1 (S mt).2.1 (S mt).1 cI cI (S mt).2.2.1 (S mt).2.2.2 (by first | assumption | omega | decide) (by first | assumption | omega | decide) (by first | assumption | omega | decide) (by first | assumption | omega | decide) (by first | assumption | omega | decide)) (cwV 1 hts g_X1_partIfTooMany_X4_partInto rfl rfl rfl (by decide +kernel) ⟨Nat.le_of_ble_eq_true rfl, Nat.le_of_ble_eq_true rfl⟩) ⟨fun a U g mk q => by obtain ⟨q0, q1, qP, qK, qD⟩ := q; exact ⟨q0, q1, qP, va_K.moved (u := U) (U := U.calling g mk a) (Vm.Alike.refl U.vm) qK, qD⟩, va_recv hKc hPc (ci := 4) (q0 := 0) rfl rfl, fun U hU hW => ⟨rfl, by rw [hU], by rw [hU]; exact hPc, va_K.moved hW.alike hKc, hDc.weaken (fun _ _ _ _ => trivial)⟩⟩ rfl rfl hl.1 rfl (lv_room (Nat.le_of_ble_eq_true rfl)) dX1_partIfTooMany_34 ⟨(show 0 + 0 ≤ 0 by omega), (show 0 + 0 ≤ 0 by omega)⟩) hS (fun q _ h => hFc q h) hFc (fun u t H1 locs ht hvm hw hB hz1 hk1 hS => ?_)
    obtain ⟨m2_4, m3_5, f2_6, g2_7⟩ := u
    obtain ⟨hP1, hK1, hD1⟩ := hB
    rw [ht] at hP1
    have hK1 := va_K.moved hvm.symm hK1
    try dsimp only at hw
    obtain ⟨hP, hD⟩ := pool_join (S := S) (S1 := (pgJ [nd] (fun _ => ((S nd).1, m2_4, (S nd).2.2.1, (S nd).2.2.2)) (fun _ => ((S nd).1, m3_5, f2_6, g2_7)))) (T := [nd, mt]) (cx := []) (wr := [(he, .inr (1, [.ref hm, .ref hf, .ref hp, .ref eb, .ref ep, .int (nI el), .ref nd, .ref mt, .ref ab])), (hm, .inr (3, [.int mk, .int mc]))]) (rx := []) hP hD hT9 [] [0, 1] rfl rfl (by decide) (by decide) hk1 hFc (by rw [pool2 hab]; exact hP1) (by rw [pool2 hab]; exact hD1)
    obtain ⟨S_8, eS_8⟩ : ∃ x, x = pgJ [nd, mt] (pgJ [nd] (fun _ => ((S nd).1, m2_4, (S nd).2.2.1, (S nd).2.2.2)) (fun _ => ((S nd).1, m3_5, f2_6, g2_7))) S := ⟨_, rfl⟩
    rw [← eS_8] at hP hD
    have hK := (hK.sub (tys' := [(cI, .int)]) [0] rfl).app hK1
    have hK : va_K (dC, dI) vwCl [(cI, .int)] s := hK.sub [0] rfl
    generalize H1 = H at hP hS ⊢
    have hP : va_P (dC, dI) vwCl ([(he, .inr (1, [.ref hm, .ref hf, .ref hp, .ref eb, .ref ep, .int (nI el), .ref nd, .ref mt, .ref ab])), (hm, .inr (3, [.int mk, .int mc]))] ++ pool G cI Pg S_8) H := hP
    have hD : va_D A ([(he, .inr (1, [.ref hm, .ref hf, .ref hp, .ref eb, .ref ep, .int (nI el), .ref nd, .ref mt, .ref ab])), (hm, .inr (3, [.int mk, .int mc]))] ++ pool G cI Pg S_8) := hD
    have hK : va_K (dC, dI) vwCl [(cI, .int)] s := hK
    have hI : pgI G Pg S_8 := by rw [eS_8]; exact pgI_2 hI hab (by first | assumption | exact Or.inl rfl | exact Or.inr rfl | exact hw.2.1 | exact hw.1) (by first | assumption | omega) (by first | assumption | exact Or.inl rfl | exact Or.inr rfl | exact hw.2.1 | exact hw.1) (by first | assumption | omega)
    have hw_r_3 := hw
    refine lv_iconst (v := 1) hx hb dX1_partIfTooMany_37 (by decide) ?_
    have hP9 := hP.part (cx := [(he, .inr (1, [.ref hm, .ref hf, .ref hp, .ref eb, .ref ep, .int (nI el), .ref nd, .ref mt, .ref ab])), (hm, .inr (3, [.int mk, .int mc]))]) [0, 1] rfl
    have hD9 := hD.part (cx := [(he, .inr (1, [.ref hm, .ref hf, .ref hp, .ref eb, .ref ep, .int (nI el), .ref nd, .ref mt, .ref ab])), (hm, .inr (3, [.int mk, .int mc]))]) [0, 1] (by decide) rfl
    have hK9 := hK.sub (tys' := [(cI, .int)]) [0] rfl
    exact W.zret (v := 1) hx hb hr rfl (fun t ht hW => ⟨⟨1, (S_8), rfl, ⟨hI, Or.inr rfl⟩, by rw [ht]; exact hP9, va_K.moved hW.alike hK9, hD9⟩, hS.F ht⟩) hS.2.2 dX1_partIfTooMany_38
  · refine lv_iconst (v := 0) hx hb dX1_partIfTooMany_24 (by decide) ?_
    have hP9 := hP.part (cx := [(he, .inr (1, [.ref hm, .ref hf, .ref hp, .ref eb, .ref ep, .int (nI el), .ref nd, .ref mt, .ref ab])), (hm, .inr (3, [.int mk, .int mc]))]) [0, 1] rfl
    have hD9 := hD.part (cx := [(he, .inr (1, [.ref hm, .ref hf, .ref hp, .ref eb, .ref ep, .int (nI el), .ref nd, .ref mt, .ref ab])), (hm, .inr (3, [.int mk, .int mc]))]) [0, 1] (by decide) rfl
    have hK9 := hK.sub (tys' := [(cI, .int)]) [0] rfl
    exact W.zret (v := 0) hx hb hr rfl (fun t ht hW => ⟨⟨0, (S), rfl, ⟨hI, Or.inl rfl⟩, by rw [ht]; exact hP9, va_K.moved hW.alike hK9, hD9⟩, hS.F ht⟩) hS.2.2 dX1_partIfTooMany_25

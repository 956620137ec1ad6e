theorem dJ13_bitCount_95d88_0 : decode cJ13_bitCount_95d88 0 = .ok (.lload_n 0, 1) := by decide +kernel
theorem dJ13_bitCount_95d88_1 : decode cJ13_bitCount_95d88 1 = .ok (.lload_n 0, 1) := by decide +kernel
theorem dJ13_bitCount_95d88_2 : decode cJ13_bitCount_95d88 2 = .ok (.iconst 1, 1) := by decide +kernel
theorem dJ13_bitCount_95d88_3 : decode cJ13_bitCount_95d88 3 = .ok (.lushr, 1) := by decide +kernel
theorem dJ13_bitCount_95d88_4 : decode cJ13_bitCount_95d88 4 = .ok (.ldc2_w 314, 3) := by decide +kernel
theorem dJ13_bitCount_95d88_7 : decode cJ13_bitCount_95d88 7 = .ok (.land, 1) := by decide +kernel
theorem dJ13_bitCount_95d88_8 : decode cJ13_bitCount_95d88 8 = .ok (.lsub, 1) := by decide +kernel
theorem dJ13_bitCount_95d88_9 : decode cJ13_bitCount_95d88 9 = .ok (.lstore_n 0, 1) := by decide +kernel
theorem dJ13_bitCount_95d88_10 : decode cJ13_bitCount_95d88 10 = .ok (.lload_n 0, 1) := by decide +kernel
theorem dJ13_bitCount_95d88_11 : decode cJ13_bitCount_95d88 11 = .ok (.ldc2_w 316, 3) := by decide +kernel
theorem dJ13_bitCount_95d88_14 : decode cJ13_bitCount_95d88 14 = .ok (.land, 1) := by decide +kernel
theorem dJ13_bitCount_95d88_15 : decode cJ13_bitCount_95d88 15 = .ok (.lload_n 0, 1) := by decide +kernel
theorem dJ13_bitCount_95d88_16 : decode cJ13_bitCount_95d88 16 = .ok (.iconst 2, 1) := by decide +kernel
theorem dJ13_bitCount_95d88_17 : decode cJ13_bitCount_95d88 17 = .ok (.lushr, 1) := by decide +kernel
theorem dJ13_bitCount_95d88_18 : decode cJ13_bitCount_95d88 18 = .ok (.ldc2_w 316, 3) := by decide +kernel
theorem dJ13_bitCount_95d88_21 : decode cJ13_bitCount_95d88 21 = .ok (.land, 1) := by decide +kernel
theorem dJ13_bitCount_95d88_22 : decode cJ13_bitCount_95d88 22 = .ok (.ladd, 1) := by decide +kernel
theorem dJ13_bitCount_95d88_23 : decode cJ13_bitCount_95d88 23 = .ok (.lstore_n 0, 1) := by decide +kernel
theorem dJ13_bitCount_95d88_24 : decode cJ13_bitCount_95d88 24 = .ok (.lload_n 0, 1) := by decide +kernel
theorem dJ13_bitCount_95d88_25 : decode cJ13_bitCount_95d88 25 = .ok (.lload_n 0, 1) := by decide +kernel
theorem dJ13_bitCount_95d88_26 : decode cJ13_bitCount_95d88 26 = .ok (.iconst 4, 1) := by decide +kernel
theorem dJ13_bitCount_95d88_27 : decode cJ13_bitCount_95d88 27 = .ok (.lushr, 1) := by decide +kernel
theorem dJ13_bitCount_95d88_28 : decode cJ13_bitCount_95d88 28 = .ok (.ladd, 1) := by decide +kernel
theorem dJ13_bitCount_95d88_29 : decode cJ13_bitCount_95d88 29 = .ok (.ldc2_w 318, 3) := by decide +kernel
theorem dJ13_bitCount_95d88_32 : decode cJ13_bitCount_95d88 32 = .ok (.land, 1) := by decide +kernel
theorem dJ13_bitCount_95d88_33 : decode cJ13_bitCount_95d88 33 = .ok (.lstore_n 0, 1) := by decide +kernel
theorem dJ13_bitCount_95d88_34 : decode cJ13_bitCount_95d88 34 = .ok (.lload_n 0, 1) := by decide +kernel
theorem dJ13_bitCount_95d88_35 : decode cJ13_bitCount_95d88 35 = .ok (.lload_n 0, 1) := by decide +kernel
theorem dJ13_bitCount_95d88_36 : decode cJ13_bitCount_95d88 36 = .ok (.bipush 8, 2) := by decide +kernel
theorem dJ13_bitCount_95d88_38 : decode cJ13_bitCount_95d88 38 = .ok (.lushr, 1) := by decide +kernel
theorem dJ13_bitCount_95d88_39 : decode cJ13_bitCount_95d88 39 = .ok (.ladd, 1) := by decide +kernel
theorem dJ13_bitCount_95d88_40 : decode cJ13_bitCount_95d88 40 = .ok (.lstore_n 0, 1) := by decide +kernel
theorem dJ13_bitCount_95d88_41 : decode cJ13_bitCount_95d88 41 = .ok (.lload_n 0, 1) := by decide +kernel
theorem dJ13_bitCount_95d88_42 : decode cJ13_bitCount_95d88 42 = .ok (.lload_n 0, 1) := by decide +kernel
theorem dJ13_bitCount_95d88_43 : decode cJ13_bitCount_95d88 43 = .ok (.bipush 16, 2) := by decide +kernel
theorem dJ13_bitCount_95d88_45 : decode cJ13_bitCount_95d88 45 = .ok (.lushr, 1) := by decide +kernel
theorem dJ13_bitCount_95d88_46 : decode cJ13_bitCount_95d88 46 = .ok (.ladd, 1) := by decide +kernel
theorem dJ13_bitCount_95d88_47 : decode cJ13_bitCount_95d88 47 = .ok (.lstore_n 0, 1) := by decide +kernel
theorem dJ13_bitCount_95d88_48 : decode cJ13_bitCount_95d88 48 = .ok (.lload_n 0, 1) := by decide +kernel
theorem dJ13_bitCount_95d88_49 : decode cJ13_bitCount_95d88 49 = .ok (.lload_n 0, 1) := by decide +kernel
theorem dJ13_bitCount_95d88_50 : decode cJ13_bitCount_95d88 50 = .ok (.bipush 32, 2) := by decide +kernel
theorem dJ13_bitCount_95d88_52 : decode cJ13_bitCount_95d88 52 = .ok (.lushr, 1) := by decide +kernel
theorem dJ13_bitCount_95d88_53 : decode cJ13_bitCount_95d88 53 = .ok (.ladd, 1) := by decide +kernel
theorem dJ13_bitCount_95d88_54 : decode cJ13_bitCount_95d88 54 = .ok (.lstore_n 0, 1) := by decide +kernel
theorem dJ13_bitCount_95d88_55 : decode cJ13_bitCount_95d88 55 = .ok (.lload_n 0, 1) := by decide +kernel
theorem dJ13_bitCount_95d88_56 : decode cJ13_bitCount_95d88 56 = .ok (.l2i, 1) := by decide +kernel
theorem dJ13_bitCount_95d88_57 : decode cJ13_bitCount_95d88 57 = .ok (.bipush 127, 2) := by decide +kernel
theorem dJ13_bitCount_95d88_59 : decode cJ13_bitCount_95d88 59 = .ok (.iand, 1) := by decide +kernel
theorem dJ13_bitCount_95d88_60 : decode cJ13_bitCount_95d88 60 = .ok (.ireturn, 1) := by decide +kernel
theorem dX8_comeUp_0 : decode cX8_comeUp 0 = .ok (.aload_n 0, 1) := by decide +kernel
theorem dX8_comeUp_1 : decode cX8_comeUp 1 = .ok (.iload_n 1, 1) := by decide +kernel
theorem dX8_comeUp_2 : decode cX8_comeUp 2 = .ok (.putfield 140, 3) := by decide +kernel
theorem dX8_comeUp_5 : decode cX8_comeUp 5 = .ok (.aload_n 0, 1) := by decide +kernel
theorem dX8_comeUp_6 : decode cX8_comeUp 6 = .ok (.getfield 74, 3) := by decide +kernel
theorem dX8_comeUp_9 : decode cX8_comeUp 9 = .ok (.aload_n 0, 1) := by decide +kernel
theorem dX8_comeUp_10 : decode cX8_comeUp 10 = .ok (.iload_n 1, 1) := by decide +kernel
theorem dX8_comeUp_11 : decode cX8_comeUp 11 = .ok (.invokevirtual 143, 3) := by decide +kernel
theorem dX8_comeUp_14 : decode cX8_comeUp 14 = .ok (.invokevirtual 184, 3) := by decide +kernel
theorem dX8_comeUp_17 : decode cX8_comeUp 17 = .ok (.aload_n 0, 1) := by decide +kernel
theorem dX8_comeUp_18 : decode cX8_comeUp 18 = .ok (.lconst 0, 1) := by decide +kernel
theorem dX8_comeUp_19 : decode cX8_comeUp 19 = .ok (.putfield 99, 3) := by decide +kernel
theorem dX8_comeUp_22 : decode cX8_comeUp 22 = .ok (.aload_n 0, 1) := by decide +kernel
theorem dX8_comeUp_23 : decode cX8_comeUp 23 = .ok (.iconst 0, 1) := by decide +kernel
theorem dX8_comeUp_24 : decode cX8_comeUp 24 = .ok (.putfield 77, 3) := by decide +kernel
theorem dX8_comeUp_27 : decode cX8_comeUp 27 = .ok (.return_, 1) := by decide +kernel
theorem dX8_format_0 : decode cX8_format 0 = .ok (.aload_n 0, 1) := by decide +kernel
theorem dX8_format_1 : decode cX8_format 1 = .ok (.getfield 28, 3) := by decide +kernel
theorem dX8_format_4 : decode cX8_format 4 = .ok (.iconst (-1), 1) := by decide +kernel
theorem dX8_format_5 : decode cX8_format 5 = .ok (.iconst 0, 1) := by decide +kernel
theorem dX8_format_6 : decode cX8_format 6 = .ok (.invokevirtual 81, 3) := by decide +kernel
theorem dX8_format_9 : decode cX8_format 9 = .ok (.aload_n 0, 1) := by decide +kernel
theorem dX8_format_10 : decode cX8_format 10 = .ok (.getfield 67, 3) := by decide +kernel
theorem dX8_format_13 : decode cX8_format 13 = .ok (.iconst 0, 1) := by decide +kernel
theorem dX8_format_14 : decode cX8_format 14 = .ok (.iconst 0, 1) := by decide +kernel
theorem dX8_format_15 : decode cX8_format 15 = .ok (.iconst 0, 1) := by decide +kernel
theorem dX8_format_16 : decode cX8_format 16 = .ok (.lconst 0, 1) := by decide +kernel
theorem dX8_format_17 : decode cX8_format 17 = .ok (.invokevirtual 84, 3) := by decide +kernel
theorem dX8_format_20 : decode cX8_format 20 = .ok (.aload_n 0, 1) := by decide +kernel
theorem dX8_format_21 : decode cX8_format 21 = .ok (.getfield 71, 3) := by decide +kernel
theorem dX8_format_24 : decode cX8_format 24 = .ok (.iconst 0, 1) := by decide +kernel
theorem dX8_format_25 : decode cX8_format 25 = .ok (.iconst 0, 1) := by decide +kernel
theorem dX8_format_26 : decode cX8_format 26 = .ok (.iconst 0, 1) := by decide +kernel
theorem dX8_format_27 : decode cX8_format 27 = .ok (.lconst 0, 1) := by decide +kernel
theorem dX8_format_28 : decode cX8_format 28 = .ok (.invokevirtual 84, 3) := by decide +kernel
theorem dX8_format_31 : decode cX8_format 31 = .ok (.aload_n 0, 1) := by decide +kernel
theorem dX8_format_32 : decode cX8_format 32 = .ok (.iconst 0, 1) := by decide +kernel
theorem dX8_format_33 : decode cX8_format 33 = .ok (.invokevirtual 88, 3) := by decide +kernel
theorem dX8_format_36 : decode cX8_format 36 = .ok (.pop, 1) := by decide +kernel
theorem dX8_format_37 : decode cX8_format 37 = .ok (.aload_n 0, 1) := by decide +kernel
theorem dX8_format_38 : decode cX8_format 38 = .ok (.iconst 1, 1) := by decide +kernel
theorem dX8_format_39 : decode cX8_format 39 = .ok (.invokevirtual 88, 3) := by decide +kernel
theorem dX8_format_42 : decode cX8_format 42 = .ok (.pop, 1) := by decide +kernel
theorem dX8_format_43 : decode cX8_format 43 = .ok (.aload_n 0, 1) := by decide +kernel
theorem dX8_format_44 : decode cX8_format 44 = .ok (.iconst 0, 1) := by decide +kernel
theorem dX8_format_45 : decode cX8_format 45 = .ok (.invokevirtual 92, 3) := by decide +kernel
theorem dX8_format_48 : decode cX8_format 48 = .ok (.return_, 1) := by decide +kernel
theorem dX8_freeBlocks_0 : decode cX8_freeBlocks 0 = .ok (.aload_n 0, 1) := by decide +kernel
theorem dX8_freeBlocks_1 : decode cX8_freeBlocks 1 = .ok (.getfield 74, 3) := by decide +kernel
theorem dX8_freeBlocks_4 : decode cX8_freeBlocks 4 = .ok (.getfield 103, 3) := by decide +kernel
theorem dX8_freeBlocks_7 : decode cX8_freeBlocks 7 = .ok (.aload_n 0, 1) := by decide +kernel
theorem dX8_freeBlocks_8 : decode cX8_freeBlocks 8 = .ok (.getfield 67, 3) := by decide +kernel
theorem dX8_freeBlocks_11 : decode cX8_freeBlocks 11 = .ok (.getfield 103, 3) := by decide +kernel
theorem dX8_freeBlocks_14 : decode cX8_freeBlocks 14 = .ok (.lor, 1) := by decide +kernel
theorem dX8_freeBlocks_15 : decode cX8_freeBlocks 15 = .ok (.aload_n 0, 1) := by decide +kernel
theorem dX8_freeBlocks_16 : decode cX8_freeBlocks 16 = .ok (.getfield 71, 3) := by decide +kernel
theorem dX8_freeBlocks_19 : decode cX8_freeBlocks 19 = .ok (.getfield 103, 3) := by decide +kernel
theorem dX8_freeBlocks_22 : decode cX8_freeBlocks 22 = .ok (.lor, 1) := by decide +kernel
theorem dX8_freeBlocks_23 : decode cX8_freeBlocks 23 = .ok (.lstore_n 1, 1) := by decide +kernel
theorem dX8_freeBlocks_24 : decode cX8_freeBlocks 24 = .ok (.lconst 0, 1) := by decide +kernel
theorem dX8_freeBlocks_25 : decode cX8_freeBlocks 25 = .ok (.lstore_n 3, 1) := by decide +kernel
theorem dX8_freeBlocks_26 : decode cX8_freeBlocks 26 = .ok (.iconst 2, 1) := by decide +kernel
theorem dX8_freeBlocks_27 : decode cX8_freeBlocks 27 = .ok (.istore 5, 2) := by decide +kernel
theorem dX8_freeBlocks_29 : decode cX8_freeBlocks 29 = .ok (.iload 5, 2) := by decide +kernel
theorem dX8_freeBlocks_31 : decode cX8_freeBlocks 31 = .ok (.aload_n 0, 1) := by decide +kernel
theorem dX8_freeBlocks_32 : decode cX8_freeBlocks 32 = .ok (.getfield 28, 3) := by decide +kernel
theorem dX8_freeBlocks_35 : decode cX8_freeBlocks 35 = .ok (.getfield 195, 3) := by decide +kernel
theorem dX8_freeBlocks_38 : decode cX8_freeBlocks 38 = .ok (.if_icmp .ge 26, 3) := by decide +kernel
theorem dX8_freeBlocks_41 : decode cX8_freeBlocks 41 = .ok (.lload_n 1, 1) := by decide +kernel
theorem dX8_freeBlocks_42 : decode cX8_freeBlocks 42 = .ok (.iload 5, 2) := by decide +kernel
theorem dX8_freeBlocks_44 : decode cX8_freeBlocks 44 = .ok (.invokestatic 198, 3) := by decide +kernel
theorem dX8_freeBlocks_47 : decode cX8_freeBlocks 47 = .ok (.ifCond .ne 11, 3) := by decide +kernel
theorem dX8_freeBlocks_50 : decode cX8_freeBlocks 50 = .ok (.lload_n 3, 1) := by decide +kernel
theorem dX8_freeBlocks_51 : decode cX8_freeBlocks 51 = .ok (.iload 5, 2) := by decide +kernel
theorem dX8_freeBlocks_53 : decode cX8_freeBlocks 53 = .ok (.invokestatic 227, 3) := by decide +kernel
theorem dX8_freeBlocks_56 : decode cX8_freeBlocks 56 = .ok (.lor, 1) := by decide +kernel
theorem dX8_freeBlocks_57 : decode cX8_freeBlocks 57 = .ok (.lstore_n 3, 1) := by decide +kernel
theorem dX8_freeBlocks_58 : decode cX8_freeBlocks 58 = .ok (.iinc 5 1, 3) := by decide +kernel
theorem dX8_freeBlocks_61 : decode cX8_freeBlocks 61 = .ok (.goto (-32), 3) := by decide +kernel
theorem dX8_freeBlocks_64 : decode cX8_freeBlocks 64 = .ok (.lload_n 3, 1) := by decide +kernel
theorem dX8_freeBlocks_65 : decode cX8_freeBlocks 65 = .ok (.lreturn, 1) := by decide +kernel
theorem dX8_goDown_0 : decode cX8_goDown 0 = .ok (.aload_n 0, 1) := by decide +kernel
theorem dX8_goDown_1 : decode cX8_goDown 1 = .ok (.iconst 1, 1) := by decide +kernel
theorem dX8_goDown_2 : decode cX8_goDown 2 = .ok (.putfield 77, 3) := by decide +kernel
theorem dX8_goDown_5 : decode cX8_goDown 5 = .ok (.iconst 3, 1) := by decide +kernel
theorem dX8_goDown_6 : decode cX8_goDown 6 = .ok (.ireturn, 1) := by decide +kernel
theorem dX8_told_0 : decode cX8_told 0 = .ok (.iload_n 1, 1) := by decide +kernel
theorem dX8_told_1 : decode cX8_told 1 = .ok (.iconst 1, 1) := by decide +kernel
theorem dX8_told_2 : decode cX8_told 2 = .ok (.if_icmp .ne 10, 3) := by decide +kernel
theorem dX8_told_5 : decode cX8_told 5 = .ok (.aload_n 0, 1) := by decide +kernel
theorem dX8_told_6 : decode cX8_told 6 = .ok (.getfield 71, 3) := by decide +kernel
theorem dX8_told_9 : decode cX8_told 9 = .ok (.goto 7, 3) := by decide +kernel
theorem dX8_told_12 : decode cX8_told 12 = .ok (.aload_n 0, 1) := by decide +kernel
theorem dX8_told_13 : decode cX8_told 13 = .ok (.getfield 67, 3) := by decide +kernel
theorem dX8_told_16 : decode cX8_told 16 = .ok (.areturn, 1) := by decide +kernel
theorem dX8_writeRoot_0 : decode cX8_writeRoot 0 = .ok (.aload_n 0, 1) := by decide +kernel
theorem dX8_writeRoot_1 : decode cX8_writeRoot 1 = .ok (.iload_n 1, 1) := by decide +kernel
theorem dX8_writeRoot_2 : decode cX8_writeRoot 2 = .ok (.invokevirtual 143, 3) := by decide +kernel
theorem dX8_writeRoot_5 : decode cX8_writeRoot 5 = .ok (.aload_n 0, 1) := by decide +kernel
theorem dX8_writeRoot_6 : decode cX8_writeRoot 6 = .ok (.getfield 28, 3) := by decide +kernel
theorem dX8_writeRoot_9 : decode cX8_writeRoot 9 = .ok (.invokevirtual 220, 3) := by decide +kernel
theorem dX8_writeRoot_12 : decode cX8_writeRoot 12 = .ok (.aload_n 0, 1) := by decide +kernel
theorem dX8_writeRoot_13 : decode cX8_writeRoot 13 = .ok (.getfield 28, 3) := by decide +kernel
theorem dX8_writeRoot_16 : decode cX8_writeRoot 16 = .ok (.iload_n 1, 1) := by decide +kernel
theorem dX8_writeRoot_17 : decode cX8_writeRoot 17 = .ok (.invokevirtual 224, 3) := by decide +kernel
theorem dX8_writeRoot_20 : decode cX8_writeRoot 20 = .ok (.ireturn, 1) := by decide +kernel
def v_J13_bitCount_95d88 : List Cond := .code yJ13_bitCount_95d88 cJ13_bitCount_95d88 2 (some .int) :: ([.constantLong RJ13 314 (6148914691236517205), .constantLong RJ13 316 (3689348814741910323), .constantLong RJ13 318 (1085102592571150095)] ++ ([]))
set_option maxHeartbeats 4000000 in
set_option maxRecDepth 100000 in
/-- bitCount: some number -/
theorem c_J13_bitCount_95d88 (l : Launch) (dC : Nat → ClassId) (dI : Nat → Nat → Nat) (sz : Nat) (p0 : Int64) : Met l yJ13_bitCount_95d88 v_J13_bitCount_95d88 ({ frames := 0, cells := 0, slots := 0, locals := 0 } : Room) (va_Pc [.long p0] (fun U => U.heap.size = sz ∧ va_P (dC, dI) vwCl [] U.heap ∧ va_K (dC, dI) vwCl [] U ∧ va_D (fun _ => True) [])) (va_Qi (fun (r : Int32) (_ : Unit) => True) (fun (_ : Unit) (t : State) => va_P (dC, dI) vwCl [] t.heap ∧ va_K (dC, dI) vwCl [] t ∧ va_D (va_A [] sz) []) (va_A [] sz)) 0 0 (va_A [] sz) := by
  refine Met.ofW (cc := cJ13_bitCount_95d88) (maxL := 2) (ret := (some .int)) (by decide) rfl ?_
  intro p e s m args below meth c s₁ B hml hv
  obtain ⟨rfl, hsz, hP, hK, hD0⟩ := hv
  have hx := B.exec
  have hb := B.bytes
  have hr := B.returns
  have hts := atoms_spec (ws := v_J13_bitCount_95d88) B.pre
  have hown : s.vm.findClass RJ13 = some m.cls := findClass_of_methodNamed B.named
  have hlocks := B.notSynchronized
  subst hsz
  have hD := hD0.self (sz := s.heap.size)
  generalize hAe : va_A [] s.heap.size = A at hD ⊢
  have hA : ∀ q : Nat, s.heap.size ≤ q → A q := fun q h => by rw [← hAe]; exact Or.inr h
  have hS : va_S A s.heap s.heap [] := va_S.rf
  have hP : va_P (dC, dI) vwCl [] s.heap := hP
  have hl := lv_entry ([.long p0]) (n := 2) (Nat.le_of_ble_eq_true rfl)
  rw [lg_entry_eq]
  generalize (lg_sl ([.long p0]) ++ List.replicate (2 - (lg_sl ([.long p0])).length) Slot.unset).toArray = ls at hl ⊢
  have hl : lv_has ls 2 [(0, .long p0)] := hl
  have k_1 := hts (.constantLong RJ13 314 (6148914691236517205)) (List.mem_of_getElem? (i := 1) rfl)
  have k_2 := hts (.constantLong RJ13 316 (3689348814741910323)) (List.mem_of_getElem? (i := 2) rfl)
  have k_3 := hts (.constantLong RJ13 318 (1085102592571150095)) (List.mem_of_getElem? (i := 3) rfl)
  refine lv_lload_n hx hb dJ13_bitCount_95d88_0 rfl (lv_at hl 0 rfl) ?_
  refine lv_lload_n hx hb dJ13_bitCount_95d88_1 rfl (lv_at hl 0 rfl) ?_
  refine lv_iconst (v := 1) hx hb dJ13_bitCount_95d88_2 (by decide) ?_
  refine lv_lushr hx hb dJ13_bitCount_95d88_3 rfl ?_
  refine lv_topl (fun z_1 _ => ?_)
  refine lv_ldc2 (v := (6148914691236517205)) hx hb hown k_1 dJ13_bitCount_95d88_4 ?_
  refine lv_land hx hb dJ13_bitCount_95d88_7 ?_
  refine lv_topl (fun z_2 _ => ?_)
  refine lv_lsub hx hb dJ13_bitCount_95d88_8 ?_
  refine lv_topl (fun z_3 _ => ?_)
  refine lv_lstore_n (lv' := [(0, .long z_3)]) hx hb dJ13_bitCount_95d88_9 rfl hl (by decide) rfl (fun ls hl => ?_)
  refine lv_lload_n hx hb dJ13_bitCount_95d88_10 rfl (lv_at hl 0 rfl) ?_
  refine lv_ldc2 (v := (3689348814741910323)) hx hb hown k_2 dJ13_bitCount_95d88_11 ?_
  refine lv_land hx hb dJ13_bitCount_95d88_14 ?_
  refine lv_topl (fun z_4 _ => ?_)
  refine lv_lload_n hx hb dJ13_bitCount_95d88_15 rfl (lv_at hl 0 rfl) ?_
  refine lv_iconst (v := 2) hx hb dJ13_bitCount_95d88_16 (by decide) ?_
  refine lv_lushr hx hb dJ13_bitCount_95d88_17 rfl ?_
  refine lv_topl (fun z_5 _ => ?_)
  refine lv_ldc2 (v := (3689348814741910323)) hx hb hown k_2 dJ13_bitCount_95d88_18 ?_
  refine lv_land hx hb dJ13_bitCount_95d88_21 ?_
  refine lv_topl (fun z_6 _ => ?_)
  refine lv_ladd hx hb dJ13_bitCount_95d88_22 ?_
  refine lv_topl (fun z_7 _ => ?_)
  refine lv_lstore_n (lv' := [(0, .long z_7)]) hx hb dJ13_bitCount_95d88_23 rfl hl (by decide) rfl (fun ls hl => ?_)
  refine lv_lload_n hx hb dJ13_bitCount_95d88_24 rfl (lv_at hl 0 rfl) ?_
  refine lv_lload_n hx hb dJ13_bitCount_95d88_25 rfl (lv_at hl 0 rfl) ?_
  refine lv_iconst (v := 4) hx hb dJ13_bitCount_95d88_26 (by decide) ?_
  refine lv_lushr hx hb dJ13_bitCount_95d88_27 rfl ?_
  refine lv_topl (fun z_8 _ => ?_)
  refine lv_ladd hx hb dJ13_bitCount_95d88_28 ?_
  refine lv_topl (fun z_9 _ => ?_)
  refine lv_ldc2 (v := (1085102592571150095)) hx hb hown k_3 dJ13_bitCount_95d88_29 ?_
  refine lv_land hx hb dJ13_bitCount_95d88_32 ?_
  refine lv_topl (fun z_10 _ => ?_)
  refine lv_lstore_n (lv' := [(0, .long z_10)]) hx hb dJ13_bitCount_95d88_33 rfl hl (by decide) rfl (fun ls hl => ?_)
  refine lv_lload_n hx hb dJ13_bitCount_95d88_34 rfl (lv_at hl 0 rfl) ?_
  refine lv_lload_n hx hb dJ13_bitCount_95d88_35 rfl (lv_at hl 0 rfl) ?_
  refine lv_bipush (v := 8) hx hb dJ13_bitCount_95d88_36 (by decide) ?_
  refine lv_lushr hx hb dJ13_bitCount_95d88_38 rfl ?_
  refine lv_topl (fun z_11 _ => ?_)
  refine lv_ladd hx hb dJ13_bitCount_95d88_39 ?_
  refine lv_topl (fun z_12 _ => ?_)
  refine lv_lstore_n (lv' := [(0, .long z_12)]) hx hb dJ13_bitCount_95d88_40 rfl hl (by decide) rfl (fun ls hl => ?_)
  refine lv_lload_n hx hb dJ13_bitCount_95d88_41 rfl (lv_at hl 0 rfl) ?_
  refine lv_lload_n hx hb dJ13_bitCount_95d88_42 rfl (lv_at hl 0 rfl) ?_
  refine lv_bipush (v := 16) hx hb dJ13_bitCount_95d88_43 (by decide) ?_
  refine lv_lushr hx hb dJ13_bitCount_95d88_45 rfl ?_
  refine lv_topl (fun z_13 _ => ?_)
  refine lv_ladd hx hb dJ13_bitCount_95d88_46 ?_
  refine lv_topl (fun z_14 _ => ?_)
  refine lv_lstore_n (lv' := [(0, .long z_14)]) hx hb dJ13_bitCount_95d88_47 rfl hl (by decide) rfl (fun ls hl => ?_)
  refine lv_lload_n hx hb dJ13_bitCount_95d88_48 rfl (lv_at hl 0 rfl) ?_
  refine lv_lload_n hx hb dJ13_bitCount_95d88_49 rfl (lv_at hl 0 rfl) ?_
  refine lv_bipush (v := 32) hx hb dJ13_bitCount_95d88_50 (by decide) ?_
  refine lv_lushr hx hb dJ13_bitCount_95d88_52 rfl ?_
  refine lv_topl (fun z_15 _ => ?_)
  refine lv_ladd hx hb dJ13_bitCount_95d88_53 ?_
  refine lv_topl (fun z_16 _ => ?_)
  refine lv_lstore_n (lv' := [(0, .long z_16)]) hx hb dJ13_bitCount_95d88_54 rfl hl (by decide) rfl (fun ls hl => ?_)
  refine lv_lload_n hx hb dJ13_bitCount_95d88_55 rfl (lv_at hl 0 rfl) ?_
  refine lv_l2i hx hb dJ13_bitCount_95d88_56 rfl ?_
  refine lv_topi (fun z_17 _ => ?_)
  refine lv_bipush (v := 127) hx hb dJ13_bitCount_95d88_57 (by decide) ?_
  refine lv_iand hx hb dJ13_bitCount_95d88_59 ?_
  refine lv_topi (fun z_18 _ => ?_)
  have hP9 := hP.sub (ws' := []) [] rfl
  have hD9 := hD.sub (ws' := []) [] (by decide) rfl
  have hK9 := hK.sub (tys' := []) [] rfl
  exact W.iret (v := z_18) hx hb hr (fun t ht hW => ⟨⟨z_18, (), rfl, trivial, by rw [ht]; exact hP9, va_K.moved hW.alike hK9, hD9⟩, hS.F ht⟩) hS.2.2 dJ13_bitCount_95d88_60
def v_X8_told_0 : List Cond := .code yX8_told cX8_told 2 (some (.object "TwinRoots$Told")) :: ([.fieldLink RX8 67 "TwinRoots" "rootZero" "LTwinRoots$Told;"] ++ (wsX80 ++ ([])))
set_option maxHeartbeats 4000000 in
set_option maxRecDepth 100000 in
theorem c_X8_told_0 (l : Launch) (dC : Nat → ClassId) (dI : Nat → Nat → Nat) (sz : Nat) (ax : Nat) (hd : Nat) (hf : Nat) (hs : Nat) (hp : Nat) (he : Nat) (q0 : Nat) (q1 : Nat) (qk : Nat) (lt : Int32) (dn : Int32) (fx : Int64) : Met l yX8_told v_X8_told_0 ({ frames := 0, cells := 0, slots := 0, locals := 0 } : Room) (va_Pc [.ref ax, .int 0] (fun U => U.heap.size = sz ∧ va_P (dC, dI) vwCl [(ax, .inr (8, [.ref hd, .ref hf, .ref hs, .ref hp, .ref he, .ref q0, .ref q1, .ref qk, .int lt, .long fx, .int dn]))] U.heap ∧ va_K (dC, dI) vwCl [] U ∧ va_D (fun _ => True) [(ax, .inr (8, [.ref hd, .ref hf, .ref hs, .ref hp, .ref he, .ref q0, .ref q1, .ref qk, .int lt, .long fx, .int dn]))])) (va_Qr (fun (_ : Unit) => True) (fun (_ : Unit) (ra : Nat) (t : State) => ra = q0 ∧ va_P (dC, dI) vwCl [(ax, .inr (8, [.ref hd, .ref hf, .ref hs, .ref hp, .ref he, .ref q0, .ref q1, .ref qk, .int lt, .long fx, .int dn]))] t.heap ∧ va_K (dC, dI) vwCl [] t ∧ va_D (va_A [(ax, .inr (8, [.ref hd, .ref hf, .ref hs, .ref hp, .ref he, .ref q0, .ref q1, .ref qk, .int lt, .long fx, .int dn]))] sz) [(ax, .inr (8, [.ref hd, .ref hf, .ref hs, .ref hp, .ref he, .ref q0, .ref q1, .ref qk, .int lt, .long fx, .int dn]))]) (va_A [(ax, .inr (8, [.ref hd, .ref hf, .ref hs, .ref hp, .ref he, .ref q0, .ref q1, .ref qk, .int lt, .long fx, .int dn]))] sz)) 0 0 (va_A [(ax, .inr (8, [.ref hd, .ref hf, .ref hs, .ref hp, .ref he, .ref q0, .ref q1, .ref qk, .int lt, .long fx, .int dn]))] sz) := by
  refine Met.ofW (cc := cX8_told) (maxL := 2) (ret := (some (.object "TwinRoots$Told"))) (by decide) rfl ?_
  intro p e s m args below meth c s₁ B hml hv
  obtain ⟨rfl, hsz, hP, hK, hD0⟩ := hv
  have hx := B.exec
  have hb := B.bytes
  have hr := B.returns
  have hts := atoms_spec (ws := v_X8_told_0) B.pre
  have hown : s.vm.findClass RX8 = some m.cls := findClass_of_methodNamed B.named
  have hlocks := B.notSynchronized
  subst hsz
  have hD := hD0.self (sz := s.heap.size)
  generalize hAe : va_A [(ax, .inr (8, [.ref hd, .ref hf, .ref hs, .ref hp, .ref he, .ref q0, .ref q1, .ref qk, .int lt, .long fx, .int dn]))] s.heap.size = A at hD ⊢
  have hA : ∀ q : Nat, s.heap.size ≤ q → A q := fun q h => by rw [← hAe]; exact Or.inr h
  have hS : va_S A s.heap s.heap [] := va_S.rf
  have hP : va_P (dC, dI) vwCl [(ax, .inr (8, [.ref hd, .ref hf, .ref hs, .ref hp, .ref he, .ref q0, .ref q1, .ref qk, .int lt, .long fx, .int dn]))] s.heap := hP
  have hl := lv_entry ([.ref ax, .int 0]) (n := 2) (Nat.le_of_ble_eq_true rfl)
  rw [lg_entry_eq]
  generalize (lg_sl ([.ref ax, .int 0]) ++ List.replicate (2 - (lg_sl ([.ref ax, .int 0])).length) Slot.unset).toArray = ls at hl ⊢
  have hl : lv_has ls 2 [(0, .ref ax), (1, .int 0)] := hl
  have k_1 := (fun _ h => List.mem_cons_of_mem _ (List.mem_append_right _ (List.mem_append_left _ h)) : ∀ w ∈ wsX80, w ∈ v_X8_told_0)
  have k_2 := hts (.fieldLink RX8 67 "TwinRoots" "rootZero" "LTwinRoots$Told;") (List.mem_of_getElem? (i := 1) rfl)
  refine lv_iload_n hx hb dX8_told_0 rfl (lv_at hl 1 rfl) ?_
  refine lv_iconst (v := 1) hx hb dX8_told_1 (by decide) ?_
  refine lv_icmp_ne (tgt := 12) hx hb dX8_told_2 (by decide) (fun c_1 => ?_) (fun c_1 => ?_)
  rotate_left
  · exact absurd c_1 (by decide)
  refine lv_aload_n hx hb dX8_told_12 rfl (lv_at hl 0 rfl) ?_
  refine va_get (D := (dC, dI)) (ci := 8) (v := .ref q0) (C := RX8) (T := TX8) (N := 11) hx hb hts k_1 hown hK hP 0 rfl rfl 5 (by decide) k_2 (fun _ h9 => h9) rfl dX8_told_13 ?_
  have hP9 := hP.sub (ws' := [(ax, .inr (8, [.ref hd, .ref hf, .ref hs, .ref hp, .ref he, .ref q0, .ref q1, .ref qk, .int lt, .long fx, .int dn]))]) [0] rfl
  have hD9 := hD.sub (ws' := [(ax, .inr (8, [.ref hd, .ref hf, .ref hs, .ref hp, .ref he, .ref q0, .ref q1, .ref qk, .int lt, .long fx, .int dn]))]) [0] (by decide) rfl
  have hK9 := hK.sub (tys' := []) [] rfl
  exact W.aret (v := .ref q0) hx hb hr (Or.inl ⟨_, rfl⟩) (Or.inr ⟨_, rfl⟩) (fun t ht hW => ⟨⟨(), q0, rfl, trivial, rfl, by rw [ht]; exact hP9, va_K.moved hW.alike hK9, hD9⟩, hS.F ht⟩) hS.2.2 dX8_told_16
def v_X8_told_1 : List Cond := .code yX8_told cX8_told 2 (some (.object "TwinRoots$Told")) :: ([.fieldLink RX8 71 "TwinRoots" "rootOne" "LTwinRoots$Told;"] ++ (wsX80 ++ ([])))
set_option maxHeartbeats 4000000 in
set_option maxRecDepth 100000 in
theorem c_X8_told_1 (l : Launch) (dC : Nat → ClassId) (dI : Nat → Nat → Nat) (sz : Nat) (ax : Nat) (hd : Nat) (hf : Nat) (hs : Nat) (hp : Nat) (he : Nat) (q0 : Nat) (q1 : Nat) (qk : Nat) (lt : Int32) (dn : Int32) (fx : Int64) : Met l yX8_told v_X8_told_1 ({ frames := 0, cells := 0, slots := 0, locals := 0 } : Room) (va_Pc [.ref ax, .int 1] (fun U => U.heap.size = sz ∧ va_P (dC, dI) vwCl [(ax, .inr (8, [.ref hd, .ref hf, .ref hs, .ref hp, .ref he, .ref q0, .ref q1, .ref qk, .int lt, .long fx, .int dn]))] U.heap ∧ va_K (dC, dI) vwCl [] U ∧ va_D (fun _ => True) [(ax, .inr (8, [.ref hd, .ref hf, .ref hs, .ref hp, .ref he, .ref q0, .ref q1, .ref qk, .int lt, .long fx, .int dn]))])) (va_Qr (fun (_ : Unit) => True) (fun (_ : Unit) (ra : Nat) (t : State) => ra = q1 ∧ va_P (dC, dI) vwCl [(ax, .inr (8, [.ref hd, .ref hf, .ref hs, .ref hp, .ref he, .ref q0, .ref q1, .ref qk, .int lt, .long fx, .int dn]))] t.heap ∧ va_K (dC, dI) vwCl [] t ∧ va_D (va_A [(ax, .inr (8, [.ref hd, .ref hf, .ref hs, .ref hp, .ref he, .ref q0, .ref q1, .ref qk, .int lt, .long fx, .int dn]))] sz) [(ax, .inr (8, [.ref hd, .ref hf, .ref hs, .ref hp, .ref he, .ref q0, .ref q1, .ref qk, .int lt, .long fx, .int dn]))]) (va_A [(ax, .inr (8, [.ref hd, .ref hf, .ref hs, .ref hp, .ref he, .ref q0, .ref q1, .ref qk, .int lt, .long fx, .int dn]))] sz)) 0 0 (va_A [(ax, .inr (8, [.ref hd, .ref hf, .ref hs, .ref hp, .ref he, .ref q0, .ref q1, .ref qk, .int lt, .long fx, .int dn]))] sz) := by
  refine Met.ofW (cc := cX8_told) (maxL := 2) (ret := (some (.object "TwinRoots$Told"))) (by decide) rfl ?_
  intro p e s m args below meth c s₁ B hml hv
  obtain ⟨rfl, hsz, hP, hK, hD0⟩ := hv
  have hx := B.exec
  have hb := B.bytes
  have hr := B.returns
  have hts := atoms_spec (ws := v_X8_told_1) B.pre
  have hown : s.vm.findClass RX8 = some m.cls := findClass_of_methodNamed B.named
  have hlocks := B.notSynchronized
  subst hsz
  have hD := hD0.self (sz := s.heap.size)
  generalize hAe : va_A [(ax, .inr (8, [.ref hd, .ref hf, .ref hs, .ref hp, .ref he, .ref q0, .ref q1, .ref qk, .int lt, .long fx, .int dn]))] s.heap.size = A at hD ⊢
  have hA : ∀ q : Nat, s.heap.size ≤ q → A q := fun q h => by rw [← hAe]; exact Or.inr h
  have hS : va_S A s.heap s.heap [] := va_S.rf
  have hP : va_P (dC, dI) vwCl [(ax, .inr (8, [.ref hd, .ref hf, .ref hs, .ref hp, .ref he, .ref q0, .ref q1, .ref qk, .int lt, .long fx, .int dn]))] s.heap := hP
  have hl := lv_entry ([.ref ax, .int 1]) (n := 2) (Nat.le_of_ble_eq_true rfl)
  rw [lg_entry_eq]
  generalize (lg_sl ([.ref ax, .int 1]) ++ List.replicate (2 - (lg_sl ([.ref ax, .int 1])).length) Slot.unset).toArray = ls at hl ⊢
  have hl : lv_has ls 2 [(0, .ref ax), (1, .int 1)] := hl
  have k_1 := (fun _ h => List.mem_cons_of_mem _ (List.mem_append_right _ (List.mem_append_left _ h)) : ∀ w ∈ wsX80, w ∈ v_X8_told_1)
  have k_2 := hts (.fieldLink RX8 71 "TwinRoots" "rootOne" "LTwinRoots$Told;") (List.mem_of_getElem? (i := 1) rfl)
  refine lv_iload_n hx hb dX8_told_0 rfl (lv_at hl 1 rfl) ?_
  refine lv_iconst (v := 1) hx hb dX8_told_1 (by decide) ?_
  refine lv_icmp_ne (tgt := 12) hx hb dX8_told_2 (by decide) (fun c_1 => ?_) (fun c_1 => ?_)
  · exact absurd (by decide) c_1
  refine lv_aload_n hx hb dX8_told_5 rfl (lv_at hl 0 rfl) ?_
  refine va_get (D := (dC, dI)) (ci := 8) (v := .ref q1) (C := RX8) (T := TX8) (N := 11) hx hb hts k_1 hown hK hP 0 rfl rfl 6 (by decide) k_2 (fun _ h9 => h9) rfl dX8_told_6 ?_
  refine lv_goto (tgt := 16) hx hb dX8_told_9 (by decide) ?_
  have hP9 := hP.sub (ws' := [(ax, .inr (8, [.ref hd, .ref hf, .ref hs, .ref hp, .ref he, .ref q0, .ref q1, .ref qk, .int lt, .long fx, .int dn]))]) [0] rfl
  have hD9 := hD.sub (ws' := [(ax, .inr (8, [.ref hd, .ref hf, .ref hs, .ref hp, .ref he, .ref q0, .ref q1, .ref qk, .int lt, .long fx, .int dn]))]) [0] (by decide) rfl
  have hK9 := hK.sub (tys' := []) [] rfl
  exact W.aret (v := .ref q1) hx hb hr (Or.inl ⟨_, rfl⟩) (Or.inr ⟨_, rfl⟩) (fun t ht hW => ⟨⟨(), q1, rfl, trivial, rfl, by rw [ht]; exact hP9, va_K.moved hW.alike hK9, hD9⟩, hS.F ht⟩) hS.2.2 dX8_told_16
def v_X8_goDown : List Cond := .code yX8_goDown cX8_goDown 1 (some .int) :: ([.fieldLink RX8 77 "TwinRoots" "down" "Z"] ++ (wsX80 ++ ([])))
set_option maxHeartbeats 4000000 in
set_option maxRecDepth 100000 in
/-- X8_goDown -/
theorem c_X8_goDown (l : Launch) (dC : Nat → ClassId) (dI : Nat → Nat → Nat) (sz : Nat) (ax : Nat) (hd : Nat) (hf : Nat) (hs : Nat) (hp : Nat) (he : Nat) (q0 : Nat) (q1 : Nat) (qk : Nat) (lt : Int32) (dn : Int32) (fx : Int64) (zlt : lt = 0 ∨ lt = 1) : Met l yX8_goDown v_X8_goDown ({ frames := 0, cells := 0, slots := 0, locals := 0 } : Room) (va_Pc [.ref ax] (fun U => U.heap.size = sz ∧ va_P (dC, dI) vwCl [(ax, .inr (8, [.ref hd, .ref hf, .ref hs, .ref hp, .ref he, .ref q0, .ref q1, .ref qk, .int lt, .long fx, .int dn]))] U.heap ∧ va_K (dC, dI) vwCl [] U ∧ va_D (fun _ => True) [(ax, .inr (8, [.ref hd, .ref hf, .ref hs, .ref hp, .ref he, .ref q0, .ref q1, .ref qk, .int lt, .long fx, .int dn]))])) (va_Qi (fun (r : Int32) (u : Int32 × Int64 × Int32) => match u with | (lt2, fx2, dn2) => (lt2 = 0 ∨ lt2 = 1)) (fun (u : Int32 × Int64 × Int32) (t : State) => match u with | (lt2, fx2, dn2) => va_P (dC, dI) vwCl [(ax, .inr (8, [.ref hd, .ref hf, .ref hs, .ref hp, .ref he, .ref q0, .ref q1, .ref qk, .int lt2, .long fx2, .int dn2]))] t.heap ∧ va_K (dC, dI) vwCl [] t ∧ va_D (va_A [(ax, .inr (8, [.ref hd, .ref hf, .ref hs, .ref hp, .ref he, .ref q0, .ref q1, .ref qk, .int lt, .long fx, .int dn]))] sz) [(ax, .inr (8, [.ref hd, .ref hf, .ref hs, .ref hp, .ref he, .ref q0, .ref q1, .ref qk, .int lt2, .long fx2, .int dn2]))]) (va_A [(ax, .inr (8, [.ref hd, .ref hf, .ref hs, .ref hp, .ref he, .ref q0, .ref q1, .ref qk, .int lt, .long fx, .int dn]))] sz)) 0 0 (va_A [(ax, .inr (8, [.ref hd, .ref hf, .ref hs, .ref hp, .ref he, .ref q0, .ref q1, .ref qk, .int lt, .long fx, .int dn]))] sz) := by
  refine Met.ofW (cc := cX8_goDown) (maxL := 1) (ret := (some .int)) (by decide) rfl ?_
  intro p e s m args below meth c s₁ B hml hv
  obtain ⟨rfl, hsz, hP, hK, hD0⟩ := hv
  have hx := B.exec
  have hb := B.bytes
  have hr := B.returns
  have hts := atoms_spec (ws := v_X8_goDown) B.pre
  have hown : s.vm.findClass RX8 = some m.cls := findClass_of_methodNamed B.named
  have hlocks := B.notSynchronized
  subst hsz
  have hD := hD0.self (sz := s.heap.size)
  generalize hAe : va_A [(ax, .inr (8, [.ref hd, .ref hf, .ref hs, .ref hp, .ref he, .ref q0, .ref q1, .ref qk, .int lt, .long fx, .int dn]))] s.heap.size = A at hD ⊢
  have hA : ∀ q : Nat, s.heap.size ≤ q → A q := fun q h => by rw [← hAe]; exact Or.inr h
  have hS : va_S A s.heap s.heap [] := va_S.rf
  have hP : va_P (dC, dI) vwCl [(ax, .inr (8, [.ref hd, .ref hf, .ref hs, .ref hp, .ref he, .ref q0, .ref q1, .ref qk, .int lt, .long fx, .int dn]))] s.heap := hP
  have hl := lv_entry ([.ref ax]) (n := 1) (Nat.le_of_ble_eq_true rfl)
  rw [lg_entry_eq]
  generalize (lg_sl ([.ref ax]) ++ List.replicate (1 - (lg_sl ([.ref ax])).length) Slot.unset).toArray = ls at hl ⊢
  have hl : lv_has ls 1 [(0, .ref ax)] := hl
  have k_1 := (fun _ h => List.mem_cons_of_mem _ (List.mem_append_right _ (List.mem_append_left _ h)) : ∀ w ∈ wsX80, w ∈ v_X8_goDown)
  have k_2 := hts (.fieldLink RX8 77 "TwinRoots" "down" "Z") (List.mem_of_getElem? (i := 1) rfl)
  refine lv_aload_n hx hb dX8_goDown_0 rfl (lv_at hl 0 rfl) ?_
  refine lv_iconst (v := 1) hx hb dX8_goDown_1 (by decide) ?_
  refine va_put (D := (dC, dI)) (ci := 8) (v := .int 1) (ty := .boolean) (C := RX8) (T := TX8) (N := 11) hx hb hts k_1 tyX8 tyX8_ok nmX8 hown hK hP hD hS 0 rfl rfl 10 (by decide) k_2 (fun _ h9 => h9) rfl (by decide +kernel) rfl rfl (Nat.le_of_ble_eq_true rfl) dX8_goDown_2 (fun H locs hP hD hS => ?_)
  have hP : va_P (dC, dI) vwCl [(ax, .inr (8, [.ref hd, .ref hf, .ref hs, .ref hp, .ref he, .ref q0, .ref q1, .ref qk, .int lt, .long fx, .int 1]))] H := hP
  have hD : va_D A [(ax, .inr (8, [.ref hd, .ref hf, .ref hs, .ref hp, .ref he, .ref q0, .ref q1, .ref qk, .int lt, .long fx, .int 1]))] := hD
  refine lv_iconst (v := 3) hx hb dX8_goDown_5 (by decide) ?_
  have hP9 := hP.sub (ws' := [(ax, .inr (8, [.ref hd, .ref hf, .ref hs, .ref hp, .ref he, .ref q0, .ref q1, .ref qk, .int lt, .long fx, .int 1]))]) [0] rfl
  have hD9 := hD.sub (ws' := [(ax, .inr (8, [.ref hd, .ref hf, .ref hs, .ref hp, .ref he, .ref q0, .ref q1, .ref qk, .int lt, .long fx, .int 1]))]) [0] (by decide) rfl
  have hK9 := hK.sub (tys' := []) [] rfl
  exact W.iret (v := 3) hx hb hr (fun t ht hW => ⟨⟨3, (lt, fx, 1), rfl, (by first | assumption | exact hw.2 | exact hw.2.1 | exact hw | exact Or.inl rfl | exact Or.inr rfl), by rw [ht]; exact hP9, va_K.moved hW.alike hK9, hD9⟩, hS.F ht⟩) hS.2.2 dX8_goDown_6
def v_X8_writeRoot_0 : List Cond := .code yX8_writeRoot cX8_writeRoot 2 (some .boolean) :: ([.code yX8_told cX8_told 2 (some (.object "TwinRoots$Told")), .fieldLink RX8 67 "TwinRoots" "rootZero" "LTwinRoots$Told;", .methodLink RX8 143 yX8_told, .instanceMethod yX8_told, .selects RX8 yX8_told yX8_told, .initialized RX8, .fieldLink RX8 28 "TwinRoots" "disk" "LTwinRoots$Disk;", .code yX7_layOut cX7_layOut 2 none, .code yX0_startImage cX0_startImage 2 none, .fieldLink RX0 20 "TwinRoots$Disk" "image" "[I", .methodLink RX7 29 yX0_startImage, .instanceMethod yX0_startImage, .selects RX0 yX0_startImage yX0_startImage, .initialized RX0, .constant RX7 34 (1414677326), .code yX0_lay cX0_lay 3 none, .methodLink RX7 35 yX0_lay, .instanceMethod yX0_lay, .selects RX0 yX0_lay yX0_lay, .fieldLink RX7 9 "TwinRoots$Told" "epoch" "I", .fieldLink RX7 15 "TwinRoots$Told" "top" "I", .fieldLink RX7 18 "TwinRoots$Told" "keys" "I", .methodLink RX8 220 yX7_layOut, .instanceMethod yX7_layOut, .selects RX7 yX7_layOut yX7_layOut, .initialized RX7, .code yX0_write cX0_write 6 (some .boolean), .fieldLink RX0 7 "TwinRoots$Disk" "words" "I", .code yX0_sealOf cX0_sealOf 5 (some .int), .code Lib.Math.max.name Lib.Math.max.code 2 (some .int), .methodLink RX0 26 Lib.Math.max.name, .static Lib.Math.max.name, .initialized "java/lang/Math", .methodLink RX0 41 yX0_sealOf, .static yX0_sealOf, .methodLink RX0 45 yX0_lay, .fieldLink RX0 23 "TwinRoots$Disk" "writesAhead" "I", .code yX0_cellOf cX0_cellOf 4 (some .int), .fieldLink RX0 13 "TwinRoots$Disk" "blocks" "I", .methodLink RX0 38 yX0_cellOf, .instanceMethod yX0_cellOf, .selects RX0 yX0_cellOf yX0_cellOf, .fieldLink RX0 16 "TwinRoots$Disk" "cells" "[I", .fieldLink RX0 49 "TwinRoots$Disk" "writes" "I", .fieldLink RX0 35 "TwinRoots$Disk" "wordsOfCut" "I", .methodLink RX8 224 yX0_write, .instanceMethod yX0_write, .selects RX0 yX0_write yX0_write] ++ (wsX80 ++ (wsX00 ++ (wsX70 ++ ([])))))
set_option maxRecDepth 20000 in
theorem g_X8_writeRoot_0_X8_told_0 : GoodIn v_X8_writeRoot_0 (wsV RX8 143 RX8 yX8_told v_X8_told_0) := goodIn_r _ [3, 4, 5, 6, 1, 2, 49, 50, 51, 52, 53, 54, 55, 56, 57, 58, 59] (by decide +kernel) (by decide +kernel)
set_option maxRecDepth 20000 in
theorem g_X8_writeRoot_0_X7_layOut : GoodIn v_X8_writeRoot_0 (wsV RX8 220 RX7 yX7_layOut v_X7_layOut) := goodIn_r _ [23, 24, 25, 26, 8, 9, 10, 11, 12, 13, 14, 15, 16, 17, 18, 19, 20, 21, 22, 60, 61, 62, 63, 64, 65, 66, 67, 68, 69, 70] (by decide +kernel) (by decide +kernel)
set_option maxRecDepth 20000 in
theorem g_X8_writeRoot_0_X0_write_any : GoodIn v_X8_writeRoot_0 (wsV RX8 224 RX0 yX0_write v_X0_write_any) := goodIn_r _ [46, 47, 48, 14, 27, 28, 10, 29, 30, 31, 32, 33, 34, 35, 14, 16, 36, 18, 19, 37, 38, 39, 40, 41, 42, 43, 44, 45, 60, 61, 62, 63, 64, 65, 66] (by decide +kernel) (by decide +kernel)
set_option maxHeartbeats 4000000 in
set_option maxRecDepth 100000 in
/-- X8_writeRoot -/
theorem c_X8_writeRoot_0 (l : Launch) (dC : Nat → ClassId) (dI : Nat → Nat → Nat) (sz : Nat) (ax : Nat) (hd : Nat) (hf : Nat) (hs : Nat) (hp : Nat) (he : Nat) (q0 : Nat) (q1 : Nat) (qk : Nat) (qc : Nat) (qi : Nat) (w : Nat) (b : Nat) (lt : Int32) (dn : Int32) (wr : Int32) (wa : Int32) (wc : Int32) (a1 : Int32) (a2 : Int32) (a3 : Int32) (fx : Int64) (a4 : Int64) (fc : Nat → Int32) (gi : Nat → Int32) (cI : ClassId) (zw0 : 12 ≤ w) (zw : w ≤ 40) (zb0 : 4 ≤ b) (zb : b ≤ 64) (zwb : w * b ≤ 2560) : Met l yX8_writeRoot v_X8_writeRoot_0 ({ frames := 3, cells := 0, slots := 0, locals := 62 } : Room) (va_Pc [.ref ax, .int 0] (fun U => U.heap.size = sz ∧ va_P (dC, dI) vwCl [(ax, .inr (8, [.ref hd, .ref hf, .ref hs, .ref hp, .ref he, .ref q0, .ref q1, .ref qk, .int lt, .long fx, .int dn])), (hd, .inr (0, [.int (nI w), .int (nI b), .int wr, .ref qc, .ref qi, .int wa, .int wc])), (qc, .inl (cI, w * b, .inl fc)), (qi, .inl (cI, w, .inl gi)), (q0, .inr (7, [.int a1, .int a2, .int a3, .long a4]))] U.heap ∧ va_K (dC, dI) vwCl [(cI, .int)] U ∧ va_D (fun _ => True) [(ax, .inr (8, [.ref hd, .ref hf, .ref hs, .ref hp, .ref he, .ref q0, .ref q1, .ref qk, .int lt, .long fx, .int dn])), (hd, .inr (0, [.int (nI w), .int (nI b), .int wr, .ref qc, .ref qi, .int wa, .int wc])), (qc, .inl (cI, w * b, .inl fc)), (qi, .inl (cI, w, .inl gi)), (q0, .inr (7, [.int a1, .int a2, .int a3, .long a4]))])) (va_Qi (fun (r : Int32) (u : Int32 × Int32 × Int32 × (Nat → Int32) × (Nat → Int32)) => match u with | (wr2, wa2, wc2, fc2, gi2) => r = 0 ∨ r = 1) (fun (u : Int32 × Int32 × Int32 × (Nat → Int32) × (Nat → Int32)) (t : State) => match u with | (wr2, wa2, wc2, fc2, gi2) => va_P (dC, dI) vwCl [(ax, .inr (8, [.ref hd, .ref hf, .ref hs, .ref hp, .ref he, .ref q0, .ref q1, .ref qk, .int lt, .long fx, .int dn])), (hd, .inr (0, [.int (nI w), .int (nI b), .int wr2, .ref qc, .ref qi, .int wa2, .int wc2])), (qc, .inl (cI, w * b, .inl fc2)), (qi, .inl (cI, w, .inl gi2)), (q0, .inr (7, [.int a1, .int a2, .int a3, .long a4]))] t.heap ∧ va_K (dC, dI) vwCl [(cI, .int)] t ∧ va_D (va_A [(ax, .inr (8, [.ref hd, .ref hf, .ref hs, .ref hp, .ref he, .ref q0, .ref q1, .ref qk, .int lt, .long fx, .int dn])), (hd, .inr (0, [.int (nI w), .int (nI b), .int wr, .ref qc, .ref qi, .int wa, .int wc])), (qc, .inl (cI, w * b, .inl fc)), (qi, .inl (cI, w, .inl gi)), (q0, .inr (7, [.int a1, .int a2, .int a3, .long a4]))] sz) [(ax, .inr (8, [.ref hd, .ref hf, .ref hs, .ref hp, .ref he, .ref q0, .ref q1, .ref qk, .int lt, .long fx, .int dn])), (hd, .inr (0, [.int (nI w), .int (nI b), .int wr2, .ref qc, .ref qi, .int wa2, .int wc2])), (qc, .inl (cI, w * b, .inl fc2)), (qi, .inl (cI, w, .inl gi2)), (q0, .inr (7, [.int a1, .int a2, .int a3, .long a4]))]) (va_A [(ax, .inr (8, [.ref hd, .ref hf, .ref hs, .ref hp, .ref he, .ref q0, .ref q1, .ref qk, .int lt, .long fx, .int dn])), (hd, .inr (0, [.int (nI w), .int (nI b), .int wr, .ref qc, .ref qi, .int wa, .int wc])), (qc, .inl (cI, w * b, .inl fc)), (qi, .inl (cI, w, .inl gi)), (q0, .inr (7, [.int a1, .int a2, .int a3, .long a4]))] sz)) 0 0 (va_A [(ax, .inr (8, [.ref hd, .ref hf, .ref hs, .ref hp, .ref he, .ref q0, .ref q1, .ref qk, .int lt, .long fx, .int dn])), (hd, .inr (0, [.int (nI w), .int (nI b), .int wr, .ref qc, .ref qi, .int wa, .int wc])), (qc, .inl (cI, w * b, .inl fc)), (qi, .inl (cI, w, .inl gi)), (q0, .inr (7, [.int a1, .int a2, .int a3, .long a4]))] sz) := by
  refine Met.ofW (cc := cX8_writeRoot) (maxL := 2) (ret := (some .boolean)) (by decide) rfl ?_
  intro p e s m args below meth c s₁ B hml hv
  obtain ⟨rfl, hsz, hP, hK, hD0⟩ := hv
  have hx := B.exec
  have hb := B.bytes
  have hr := B.returns
  have hts := atoms_spec (ws := v_X8_writeRoot_0) B.pre
  have hown : s.vm.findClass RX8 = some m.cls := findClass_of_methodNamed B.named
  have hlocks := B.notSynchronized
  subst hsz
  have hD := hD0.self (sz := s.heap.size)
  generalize hAe : va_A [(ax, .inr (8, [.ref hd, .ref hf, .ref hs, .ref hp, .ref he, .ref q0, .ref q1, .ref qk, .int lt, .long fx, .int dn])), (hd, .inr (0, [.int (nI w), .int (nI b), .int wr, .ref qc, .ref qi, .int wa, .int wc])), (qc, .inl (cI, w * b, .inl fc)), (qi, .inl (cI, w, .inl gi)), (q0, .inr (7, [.int a1, .int a2, .int a3, .long a4]))] s.heap.size = A at hD ⊢
  have hA : ∀ q : Nat, s.heap.size ≤ q → A q := fun q h => by rw [← hAe]; exact Or.inr h
  have hS : va_S A s.heap s.heap [] := va_S.rf
  have hP : va_P (dC, dI) vwCl [(ax, .inr (8, [.ref hd, .ref hf, .ref hs, .ref hp, .ref he, .ref q0, .ref q1, .ref qk, .int lt, .long fx, .int dn])), (hd, .inr (0, [.int (nI w), .int (nI b), .int wr, .ref qc, .ref qi, .int wa, .int wc])), (qc, .inl (cI, w * b, .inl fc)), (qi, .inl (cI, w, .inl gi)), (q0, .inr (7, [.int a1, .int a2, .int a3, .long a4]))] s.heap := hP
  have hl := lv_entry ([.ref ax, .int 0]) (n := 2) (Nat.le_of_ble_eq_true rfl)
  rw [lg_entry_eq]
  generalize (lg_sl ([.ref ax, .int 0]) ++ List.replicate (2 - (lg_sl ([.ref ax, .int 0])).length) Slot.unset).toArray = ls at hl ⊢
  have hl : lv_has ls 2 [(0, .ref ax), (1, .int 0)] := hl
  have k_1 := (fun _ h => List.mem_cons_of_mem _ (List.mem_append_right _ (List.mem_append_left _ h)) : ∀ w ∈ wsX80, w ∈ v_X8_writeRoot_0)
  have k_2 := hts (.fieldLink RX8 28 "TwinRoots" "disk" "LTwinRoots$Disk;") (List.mem_of_getElem? (i := 7) rfl)
  refine lv_aload_n hx hb dX8_writeRoot_0 rfl (lv_at hl 0 rfl) ?_
  refine lv_iload_n hx hb dX8_writeRoot_1 rfl (lv_at hl 1 rfl) ?_
  have hPc := hP.sub (ws' := [(ax, .inr (8, [.ref hd, .ref hf, .ref hs, .ref hp, .ref he, .ref q0, .ref q1, .ref qk, .int lt, .long fx, .int dn]))]) [0] rfl
  have hDc := hD.sub (ws' := [(ax, .inr (8, [.ref hd, .ref hf, .ref hs, .ref hp, .ref he, .ref q0, .ref q1, .ref qk, .int lt, .long fx, .int dn]))]) [0] (by decide) rfl
  have hKc := hK.sub (tys' := []) [] rfl
  have hFc := va_free (wc := [(ax, .inr (8, [.ref hd, .ref hf, .ref hs, .ref hp, .ref he, .ref q0, .ref q1, .ref qk, .int lt, .long fx, .int dn]))]) hD hS hA [0] rfl
  refine va_callr (va_runV (As := [.int 0]) (rest := []) ⟨hx, hb, hml, hown, hts⟩ (c_X8_told_0 l dC dI s.heap.size ax hd hf hs hp he q0 q1 qk lt dn fx) (cwV 1 hts g_X8_writeRoot_0_X8_told_0 rfl rfl rfl (by decide +kernel) ⟨Nat.le_of_ble_eq_true rfl, Nat.le_of_ble_eq_true rfl⟩) ⟨fun a U g mk q => by obtain ⟨q0, q1, qP, qK, qD⟩ := q; exact ⟨q0, q1, qP, va_K.moved (u := U) (U := U.calling g mk a) (Vm.Alike.refl U.vm) qK, qD⟩, va_recv hKc hPc (ci := 8) (q0 := 0) rfl rfl, fun U hU hW => ⟨rfl, by rw [hU], by rw [hU]; exact hPc, va_K.moved hW.alike hKc, hDc.weaken (fun _ _ _ _ => trivial)⟩⟩ rfl rfl hl.1 rfl (lv_room (Nat.le_of_ble_eq_true rfl)) dX8_writeRoot_2 ⟨(show 0 + 0 ≤ 0 by omega), (show 0 + 0 ≤ 0 by omega)⟩) hS (fun q _ h => hFc q h) hFc (fun u r_1 t H1 locs ht hvm hw hB hz1 hk1 hS => ?_)
  obtain ⟨hra, hP1, hK1, hD1⟩ := hB
  have hra := hra.symm
  subst hra
  rw [ht] at hP1
  have hK1 := va_K.moved hvm.symm hK1
  try dsimp only at hw
  obtain ⟨hP, hD⟩ := va_join (wr := [(hd, .inr (0, [.int (nI w), .int (nI b), .int wr, .ref qc, .ref qi, .int wa, .int wc])), (qc, .inl (cI, w * b, .inl fc)), (qi, .inl (cI, w, .inl gi)), (q0, .inr (7, [.int a1, .int a2, .int a3, .long a4]))]) (w1 := [(ax, .inr (8, [.ref hd, .ref hf, .ref hs, .ref hp, .ref he, .ref q0, .ref q1, .ref qk, .int lt, .long fx, .int dn]))]) hP hD [0] [1, 2, 3, 4] rfl rfl (by decide) (by decide) hk1 hFc hP1 hD1
  have hK := (hK.sub (tys' := [(cI, .int)]) [0] rfl).app hK1
  generalize H1 = H at hP hS ⊢
  have hP : va_P (dC, dI) vwCl [(hd, .inr (0, [.int (nI w), .int (nI b), .int wr, .ref qc, .ref qi, .int wa, .int wc])), (qc, .inl (cI, w * b, .inl fc)), (qi, .inl (cI, w, .inl gi)), (q0, .inr (7, [.int a1, .int a2, .int a3, .long a4])), (ax, .inr (8, [.ref hd, .ref hf, .ref hs, .ref hp, .ref he, .ref q0, .ref q1, .ref qk, .int lt, .long fx, .int dn]))] H := hP
  have hD : va_D A [(hd, .inr (0, [.int (nI w), .int (nI b), .int wr, .ref qc, .ref qi, .int wa, .int wc])), (qc, .inl (cI, w * b, .inl fc)), (qi, .inl (cI, w, .inl gi)), (q0, .inr (7, [.int a1, .int a2, .int a3, .long a4])), (ax, .inr (8, [.ref hd, .ref hf, .ref hs, .ref hp, .ref he, .ref q0, .ref q1, .ref qk, .int lt, .long fx, .int dn]))] := hD
  have hK : va_K (dC, dI) vwCl [(cI, .int)] s := hK
  refine lv_aload_n hx hb dX8_writeRoot_5 rfl (lv_at hl 0 rfl) ?_
  refine va_get (D := (dC, dI)) (ci := 8) (v := .ref hd) (C := RX8) (T := TX8) (N := 11) hx hb hts k_1 hown hK hP 4 rfl rfl 0 (by decide) k_2 (fun _ h9 => h9) rfl dX8_writeRoot_6 ?_
  have hPc := hP.sub (ws' := [(q0, .inr (7, [.int a1, .int a2, .int a3, .long a4])), (hd, .inr (0, [.int (nI w), .int (nI b), .int wr, .ref qc, .ref qi, .int wa, .int wc])), (qi, .inl (cI, w, .inl gi))]) [3, 0, 2] rfl
  have hDc := hD.sub (ws' := [(q0, .inr (7, [.int a1, .int a2, .int a3, .long a4])), (hd, .inr (0, [.int (nI w), .int (nI b), .int wr, .ref qc, .ref qi, .int wa, .int wc])), (qi, .inl (cI, w, .inl gi))]) [3, 0, 2] (by decide) rfl
  have hKc := hK.sub (tys' := [(cI, .int)]) [0] rfl
  have hFc := va_free (wc := [(q0, .inr (7, [.int a1, .int a2, .int a3, .long a4])), (hd, .inr (0, [.int (nI w), .int (nI b), .int wr, .ref qc, .ref qi, .int wa, .int wc])), (qi, .inl (cI, w, .inl gi))]) hD hS hA [3, 0, 2] rfl
  refine va_callv (va_runV (As := [.ref hd]) (rest := []) ⟨hx, hb, hml, hown, hts⟩ (c_X7_layOut l dC dI H.size q0 hd w b qc qi wr wa wc a1 a2 a3 a4 cI gi (by first | assumption | omega | decide)) (cwV 1 hts g_X8_writeRoot_0_X7_layOut rfl rfl rfl (by decide +kernel) ⟨Nat.le_of_ble_eq_true rfl, Nat.le_of_ble_eq_true rfl⟩) ⟨fun a U g mk q => by obtain ⟨q0, q1, qP, qK, qD⟩ := q; exact ⟨q0, q1, qP, va_K.moved (u := U) (U := U.calling g mk a) (Vm.Alike.refl U.vm) qK, qD⟩, va_recv hKc hPc (ci := 7) (q0 := 0) rfl rfl, fun U hU hW => ⟨rfl, by rw [hU], by rw [hU]; exact hPc, va_K.moved hW.alike hKc, hDc.weaken (fun _ _ _ _ => trivial)⟩⟩ rfl rfl hl.1 rfl (lv_room (Nat.le_of_ble_eq_true rfl)) dX8_writeRoot_9 ⟨(show 0 + 0 ≤ 0 by omega), (show 0 + 0 ≤ 0 by omega)⟩) hS (fun q _ h => hFc q h) hFc (fun u t H1 locs ht hvm hw hB hz1 hk1 hS => ?_)
  obtain ⟨g2_3, rfl⟩ : ∃ z, z = u := ⟨_, rfl⟩
  obtain ⟨hP1, hK1, hD1⟩ := hB
  rw [ht] at hP1
  have hK1 := va_K.moved hvm.symm hK1
  try dsimp only at hw
  obtain ⟨hP, hD⟩ := va_join (wr := [(qc, .inl (cI, w * b, .inl fc)), (ax, .inr (8, [.ref hd, .ref hf, .ref hs, .ref hp, .ref he, .ref q0, .ref q1, .ref qk, .int lt, .long fx, .int dn]))]) (w1 := [(q0, .inr (7, [.int a1, .int a2, .int a3, .long a4])), (hd, .inr (0, [.int (nI w), .int (nI b), .int wr, .ref qc, .ref qi, .int wa, .int wc])), (qi, .inl (cI, w, .inl g2_3))]) hP hD [3, 0, 2] [1, 4] rfl rfl (by decide) (by decide) hk1 hFc hP1 hD1
  have hK := (hK.sub (tys' := []) [] rfl).app hK1
  generalize H1 = H at hP hS ⊢
  have hP : va_P (dC, dI) vwCl [(qc, .inl (cI, w * b, .inl fc)), (ax, .inr (8, [.ref hd, .ref hf, .ref hs, .ref hp, .ref he, .ref q0, .ref q1, .ref qk, .int lt, .long fx, .int dn])), (q0, .inr (7, [.int a1, .int a2, .int a3, .long a4])), (hd, .inr (0, [.int (nI w), .int (nI b), .int wr, .ref qc, .ref qi, .int wa, .int wc])), (qi, .inl (cI, w, .inl g2_3))] H := hP
  have hD : va_D A [(qc, .inl (cI, w * b, .inl fc)), (ax, .inr (8, [.ref hd, .ref hf, .ref hs, .ref hp, .ref he, .ref q0, .ref q1, .ref qk, .int lt, .long fx, .int dn])), (q0, .inr (7, [.int a1, .int a2, .int a3, .long a4])), (hd, .inr (0, [.int (nI w), .int (nI b), .int wr, .ref qc, .ref qi, .int wa, .int wc])), (qi, .inl (cI, w, .inl g2_3))] := hD
  have hK : va_K (dC, dI) vwCl [(cI, .int)] s := hK
  refine lv_aload_n hx hb dX8_writeRoot_12 rfl (lv_at hl 0 rfl) ?_
  refine va_get (D := (dC, dI)) (ci := 8) (v := .ref hd) (C := RX8) (T := TX8) (N := 11) hx hb hts k_1 hown hK hP 1 rfl rfl 0 (by decide) k_2 (fun _ h9 => h9) rfl dX8_writeRoot_13 ?_
  refine lv_iload_n hx hb dX8_writeRoot_16 rfl (lv_at hl 1 rfl) ?_
  have hPc := hP.sub (ws' := [(hd, .inr (0, [.int (nI w), .int (nI b), .int wr, .ref qc, .ref qi, .int wa, .int wc])), (qc, .inl (cI, w * b, .inl fc)), (qi, .inl (cI, w, .inl g2_3))]) [3, 0, 4] rfl
  have hDc := hD.sub (ws' := [(hd, .inr (0, [.int (nI w), .int (nI b), .int wr, .ref qc, .ref qi, .int wa, .int wc])), (qc, .inl (cI, w * b, .inl fc)), (qi, .inl (cI, w, .inl g2_3))]) [3, 0, 4] (by decide) rfl
  have hKc := hK.sub (tys' := [(cI, .int), (cI, .int)]) [0, 0] rfl
  have hFc := va_free (wc := [(hd, .inr (0, [.int (nI w), .int (nI b), .int wr, .ref qc, .ref qi, .int wa, .int wc])), (qc, .inl (cI, w * b, .inl fc)), (qi, .inl (cI, w, .inl g2_3))]) hD hS hA [3, 0, 4] rfl
  refine va_calli (va_runV (As := [.int 0]) (rest := []) ⟨hx, hb, hml, hown, hts⟩ (c_X0_write_any l dC dI H.size hd w b qc qi wr wa wc 0 cI cI fc g2_3 (by first | assumption | omega | decide) (by first | assumption | omega | decide) (by first | assumption | omega | decide) (by first | assumption | omega | decide) (by first | assumption | omega | decide)) (cwV 1 hts g_X8_writeRoot_0_X0_write_any rfl rfl rfl (by decide +kernel) ⟨Nat.le_of_ble_eq_true rfl, Nat.le_of_ble_eq_true rfl⟩) ⟨fun a U g mk q => by obtain ⟨q0, q1, qP, qK, qD⟩ := q; exact ⟨q0, q1, qP, va_K.moved (u := U) (U := U.calling g mk a) (Vm.Alike.refl U.vm) qK, qD⟩, va_recv hKc hPc (ci := 0) (q0 := 0) rfl rfl, fun U hU hW => ⟨rfl, by rw [hU], by rw [hU]; exact hPc, va_K.moved hW.alike hKc, hDc.weaken (fun _ _ _ _ => trivial)⟩⟩ rfl rfl hl.1 rfl (lv_room (Nat.le_of_ble_eq_true rfl)) dX8_writeRoot_17 ⟨(show 0 + 0 ≤ 0 by omega), (show 0 + 0 ≤ 0 by omega)⟩) hS (fun q _ h => hFc q h) hFc (fun r_4 u t H1 locs ht hvm hw hB hz1 hk1 hS => ?_)
  obtain ⟨wr2_5, wa2_6, f2_7, g2_8⟩ := u
  obtain ⟨hP1, hK1, hD1⟩ := hB
  rw [ht] at hP1
  have hK1 := va_K.moved hvm.symm hK1
  try dsimp only at hw
  obtain ⟨hP, hD⟩ := va_join (wr := [(ax, .inr (8, [.ref hd, .ref hf, .ref hs, .ref hp, .ref he, .ref q0, .ref q1, .ref qk, .int lt, .long fx, .int dn])), (q0, .inr (7, [.int a1, .int a2, .int a3, .long a4]))]) (w1 := [(hd, .inr (0, [.int (nI w), .int (nI b), .int wr2_5, .ref qc, .ref qi, .int wa2_6, .int wc])), (qc, .inl (cI, w * b, .inl f2_7)), (qi, .inl (cI, w, .inl g2_8))]) hP hD [3, 0, 4] [1, 2] rfl rfl (by decide) (by decide) hk1 hFc hP1 hD1
  have hK := (hK.sub (tys' := []) [] rfl).app hK1
  generalize H1 = H at hP hS ⊢
  have hP : va_P (dC, dI) vwCl [(ax, .inr (8, [.ref hd, .ref hf, .ref hs, .ref hp, .ref he, .ref q0, .ref q1, .ref qk, .int lt, .long fx, .int dn])), (q0, .inr (7, [.int a1, .int a2, .int a3, .long a4])), (hd, .inr (0, [.int (nI w), .int (nI b), .int wr2_5, .ref qc, .ref qi, .int wa2_6, .int wc])), (qc, .inl (cI, w * b, .inl f2_7)), (qi, .inl (cI, w, .inl g2_8))] H := hP
  have hD : va_D A [(ax, .inr (8, [.ref hd, .ref hf, .ref hs, .ref hp, .ref he, .ref q0, .ref q1, .ref qk, .int lt, .long fx, .int dn])), (q0, .inr (7, [.int a1, .int a2, .int a3, .long a4])), (hd, .inr (0, [.int (nI w), .int (nI b), .int wr2_5, .ref qc, .ref qi, .int wa2_6, .int wc])), (qc, .inl (cI, w * b, .inl f2_7)), (qi, .inl (cI, w, .inl g2_8))] := hD
  have hK : va_K (dC, dI) vwCl [(cI, .int), (cI, .int)] s := hK
  have hw_r_4 := hw
  have hP9 := hP.sub (ws' := [(ax, .inr (8, [.ref hd, .ref hf, .ref hs, .ref hp, .ref he, .ref q0, .ref q1, .ref qk, .int lt, .long fx, .int dn])), (hd, .inr (0, [.int (nI w), .int (nI b), .int wr2_5, .ref qc, .ref qi, .int wa2_6, .int wc])), (qc, .inl (cI, w * b, .inl f2_7)), (qi, .inl (cI, w, .inl g2_8)), (q0, .inr (7, [.int a1, .int a2, .int a3, .long a4]))]) [0, 2, 3, 4, 1] rfl
  have hD9 := hD.sub (ws' := [(ax, .inr (8, [.ref hd, .ref hf, .ref hs, .ref hp, .ref he, .ref q0, .ref q1, .ref qk, .int lt, .long fx, .int dn])), (hd, .inr (0, [.int (nI w), .int (nI b), .int wr2_5, .ref qc, .ref qi, .int wa2_6, .int wc])), (qc, .inl (cI, w * b, .inl f2_7)), (qi, .inl (cI, w, .inl g2_8)), (q0, .inr (7, [.int a1, .int a2, .int a3, .long a4]))]) [0, 2, 3, 4, 1] (by decide) rfl
  have hK9 := hK.sub (tys' := [(cI, .int)]) [0] rfl
  exact W.zret (v := r_4) hx hb hr (b01_nar hw_r_4) (fun t ht hW => ⟨⟨r_4, (wr2_5, wa2_6, wc, f2_7, g2_8), rfl, hw_r_4, by rw [ht]; exact hP9, va_K.moved hW.alike hK9, hD9⟩, hS.F ht⟩) hS.2.2 dX8_writeRoot_20
def v_X8_writeRoot_1 : List Cond := .code yX8_writeRoot cX8_writeRoot 2 (some .boolean) :: ([.code yX8_told cX8_told 2 (some (.object "TwinRoots$Told")), .fieldLink RX8 71 "TwinRoots" "rootOne" "LTwinRoots$Told;", .methodLink RX8 143 yX8_told, .instanceMethod yX8_told, .selects RX8 yX8_told yX8_told, .initialized RX8, .fieldLink RX8 28 "TwinRoots" "disk" "LTwinRoots$Disk;", .code yX7_layOut cX7_layOut 2 none, .code yX0_startImage cX0_startImage 2 none, .fieldLink RX0 20 "TwinRoots$Disk" "image" "[I", .methodLink RX7 29 yX0_startImage, .instanceMethod yX0_startImage, .selects RX0 yX0_startImage yX0_startImage, .initialized RX0, .constant RX7 34 (1414677326), .code yX0_lay cX0_lay 3 none, .methodLink RX7 35 yX0_lay, .instanceMethod yX0_lay, .selects RX0 yX0_lay yX0_lay, .fieldLink RX7 9 "TwinRoots$Told" "epoch" "I", .fieldLink RX7 15 "TwinRoots$Told" "top" "I", .fieldLink RX7 18 "TwinRoots$Told" "keys" "I", .methodLink RX8 220 yX7_layOut, .instanceMethod yX7_layOut, .selects RX7 yX7_layOut yX7_layOut, .initialized RX7, .code yX0_write cX0_write 6 (some .boolean), .fieldLink RX0 7 "TwinRoots$Disk" "words" "I", .code yX0_sealOf cX0_sealOf 5 (some .int), .code Lib.Math.max.name Lib.Math.max.code 2 (some .int), .methodLink RX0 26 Lib.Math.max.name, .static Lib.Math.max.name, .initialized "java/lang/Math", .methodLink RX0 41 yX0_sealOf, .static yX0_sealOf, .methodLink RX0 45 yX0_lay, .fieldLink RX0 23 "TwinRoots$Disk" "writesAhead" "I", .code yX0_cellOf cX0_cellOf 4 (some .int), .fieldLink RX0 13 "TwinRoots$Disk" "blocks" "I", .methodLink RX0 38 yX0_cellOf, .instanceMethod yX0_cellOf, .selects RX0 yX0_cellOf yX0_cellOf, .fieldLink RX0 16 "TwinRoots$Disk" "cells" "[I", .fieldLink RX0 49 "TwinRoots$Disk" "writes" "I", .fieldLink RX0 35 "TwinRoots$Disk" "wordsOfCut" "I", .methodLink RX8 224 yX0_write, .instanceMethod yX0_write, .selects RX0 yX0_write yX0_write] ++ (wsX80 ++ (wsX00 ++ (wsX70 ++ ([])))))
set_option maxRecDepth 20000 in
theorem g_X8_writeRoot_1_X8_told_1 : GoodIn v_X8_writeRoot_1 (wsV RX8 143 RX8 yX8_told v_X8_told_1) := goodIn_r _ [3, 4, 5, 6, 1, 2, 49, 50, 51, 52, 53, 54, 55, 56, 57, 58, 59] (by decide +kernel) (by decide +kernel)
set_option maxRecDepth 20000 in
theorem g_X8_writeRoot_1_X7_layOut : GoodIn v_X8_writeRoot_1 (wsV RX8 220 RX7 yX7_layOut v_X7_layOut) := goodIn_r _ [23, 24, 25, 26, 8, 9, 10, 11, 12, 13, 14, 15, 16, 17, 18, 19, 20, 21, 22, 60, 61, 62, 63, 64, 65, 66, 67, 68, 69, 70] (by decide +kernel) (by decide +kernel)
set_option maxRecDepth 20000 in
theorem g_X8_writeRoot_1_X0_write_any : GoodIn v_X8_writeRoot_1 (wsV RX8 224 RX0 yX0_write v_X0_write_any) := goodIn_r _ [46, 47, 48, 14, 27, 28, 10, 29, 30, 31, 32, 33, 34, 35, 14, 16, 36, 18, 19, 37, 38, 39, 40, 41, 42, 43, 44, 45, 60, 61, 62, 63, 64, 65, 66] (by decide +kernel) (by decide +kernel)
set_option maxHeartbeats 4000000 in
set_option maxRecDepth 100000 in
/-- X8_writeRoot -/
theorem c_X8_writeRoot_1 (l : Launch) (dC : Nat → ClassId) (dI : Nat → Nat → Nat) (sz : Nat) (ax : Nat) (hd : Nat) (hf : Nat) (hs : Nat) (hp : Nat) (he : Nat) (q0 : Nat) (q1 : Nat) (qk : Nat) (qc : Nat) (qi : Nat) (w : Nat) (b : Nat) (lt : Int32) (dn : Int32) (wr : Int32) (wa : Int32) (wc : Int32) (b1 : Int32) (b2 : Int32) (b3 : Int32) (fx : Int64) (b4 : Int64) (fc : Nat → Int32) (gi : Nat → Int32) (cI : ClassId) (zw0 : 12 ≤ w) (zw : w ≤ 40) (zb0 : 4 ≤ b) (zb : b ≤ 64) (zwb : w * b ≤ 2560) : Met l yX8_writeRoot v_X8_writeRoot_1 ({ frames := 3, cells := 0, slots := 0, locals := 62 } : Room) (va_Pc [.ref ax, .int 1] (fun U => U.heap.size = sz ∧ va_P (dC, dI) vwCl [(ax, .inr (8, [.ref hd, .ref hf, .ref hs, .ref hp, .ref he, .ref q0, .ref q1, .ref qk, .int lt, .long fx, .int dn])), (hd, .inr (0, [.int (nI w), .int (nI b), .int wr, .ref qc, .ref qi, .int wa, .int wc])), (qc, .inl (cI, w * b, .inl fc)), (qi, .inl (cI, w, .inl gi)), (q1, .inr (7, [.int b1, .int b2, .int b3, .long b4]))] U.heap ∧ va_K (dC, dI) vwCl [(cI, .int)] U ∧ va_D (fun _ => True) [(ax, .inr (8, [.ref hd, .ref hf, .ref hs, .ref hp, .ref he, .ref q0, .ref q1, .ref qk, .int lt, .long fx, .int dn])), (hd, .inr (0, [.int (nI w), .int (nI b), .int wr, .ref qc, .ref qi, .int wa, .int wc])), (qc, .inl (cI, w * b, .inl fc)), (qi, .inl (cI, w, .inl gi)), (q1, .inr (7, [.int b1, .int b2, .int b3, .long b4]))])) (va_Qi (fun (r : Int32) (u : Int32 × Int32 × Int32 × (Nat → Int32) × (Nat → Int32)) => match u with | (wr2, wa2, wc2, fc2, gi2) => r = 0 ∨ r = 1) (fun (u : Int32 × Int32 × Int32 × (Nat → Int32) × (Nat → Int32)) (t : State) => match u with | (wr2, wa2, wc2, fc2, gi2) => va_P (dC, dI) vwCl [(ax, .inr (8, [.ref hd, .ref hf, .ref hs, .ref hp, .ref he, .ref q0, .ref q1, .ref qk, .int lt, .long fx, .int dn])), (hd, .inr (0, [.int (nI w), .int (nI b), .int wr2, .ref qc, .ref qi, .int wa2, .int wc2])), (qc, .inl (cI, w * b, .inl fc2)), (qi, .inl (cI, w, .inl gi2)), (q1, .inr (7, [.int b1, .int b2, .int b3, .long b4]))] t.heap ∧ va_K (dC, dI) vwCl [(cI, .int)] t ∧ va_D (va_A [(ax, .inr (8, [.ref hd, .ref hf, .ref hs, .ref hp, .ref he, .ref q0, .ref q1, .ref qk, .int lt, .long fx, .int dn])), (hd, .inr (0, [.int (nI w), .int (nI b), .int wr, .ref qc, .ref qi, .int wa, .int wc])), (qc, .inl (cI, w * b, .inl fc)), (qi, .inl (cI, w, .inl gi)), (q1, .inr (7, [.int b1, .int b2, .int b3, .long b4]))] sz) [(ax, .inr (8, [.ref hd, .ref hf, .ref hs, .ref hp, .ref he, .ref q0, .ref q1, .ref qk, .int lt, .long fx, .int dn])), (hd, .inr (0, [.int (nI w), .int (nI b), .int wr2, .ref qc, .ref qi, .int wa2, .int wc2])), (qc, .inl (cI, w * b, .inl fc2)), (qi, .inl (cI, w, .inl gi2)), (q1, .inr (7, [.int b1, .int b2, .int b3, .long b4]))]) (va_A [(ax, .inr (8, [.ref hd, .ref hf, .ref hs, .ref hp, .ref he, .ref q0, .ref q1, .ref qk, .int lt, .long fx, .int dn])), (hd, .inr (0, [.int (nI w), .int (nI b), .int wr, .ref qc, .ref qi, .int wa, .int wc])), (qc, .inl (cI, w * b, .inl fc)), (qi, .inl (cI, w, .inl gi)), (q1, .inr (7, [.int b1, .int b2, .int b3, .long b4]))] sz)) 0 0 (va_A [(ax, .inr (8, [.ref hd, .ref hf, .ref hs, .ref hp, .ref he, .ref q0, .ref q1, .ref qk, .int lt, .long fx, .int dn])), (hd, .inr (0, [.int (nI w), .int (nI b), .int wr, .ref qc, .ref qi, .int wa, .int wc])), (qc, .inl (cI, w * b, .inl fc)), (qi, .inl (cI, w, .inl gi)), (q1, .inr (7, [.int b1, .int b2, .int b3, .long b4]))] sz) := by
  refine Met.ofW (cc := cX8_writeRoot) (maxL := 2) (ret := (some .boolean)) (by decide) rfl ?_
  intro p e s m args below meth c s₁ B hml hv
  obtain ⟨rfl, hsz, hP, hK, hD0⟩ := hv
  have hx := B.exec
  have hb := B.bytes
  have hr := B.returns
  have hts := atoms_spec (ws := v_X8_writeRoot_1) B.pre
  have hown : s.vm.findClass RX8 = some m.cls := findClass_of_methodNamed B.named
  have hlocks := B.notSynchronized
  subst hsz
  have hD := hD0.self (sz := s.heap.size)
  generalize hAe : va_A [(ax, .inr (8, [.ref hd, .ref hf, .ref hs, .ref hp, .ref he, .ref q0, .ref q1, .ref qk, .int lt, .long fx, .int dn])), (hd, .inr (0, [.int (nI w), .int (nI b), .int wr, .ref qc, .ref qi, .int wa, .int wc])), (qc, .inl (cI, w * b, .inl fc)), (qi, .inl (cI, w, .inl gi)), (q1, .inr (7, [.int b1, .int b2, .int b3, .long b4]))] s.heap.size = A at hD ⊢
  have hA : ∀ q : Nat, s.heap.size ≤ q → A q := fun q h => by rw [← hAe]; exact Or.inr h
  have hS : va_S A s.heap s.heap [] := va_S.rf
  have hP : va_P (dC, dI) vwCl [(ax, .inr (8, [.ref hd, .ref hf, .ref hs, .ref hp, .ref he, .ref q0, .ref q1, .ref qk, .int lt, .long fx, .int dn])), (hd, .inr (0, [.int (nI w), .int (nI b), .int wr, .ref qc, .ref qi, .int wa, .int wc])), (qc, .inl (cI, w * b, .inl fc)), (qi, .inl (cI, w, .inl gi)), (q1, .inr (7, [.int b1, .int b2, .int b3, .long b4]))] s.heap := hP
  have hl := lv_entry ([.ref ax, .int 1]) (n := 2) (Nat.le_of_ble_eq_true rfl)
  rw [lg_entry_eq]
  generalize (lg_sl ([.ref ax, .int 1]) ++ List.replicate (2 - (lg_sl ([.ref ax, .int 1])).length) Slot.unset).toArray = ls at hl ⊢
  have hl : lv_has ls 2 [(0, .ref ax), (1, .int 1)] := hl
  have k_1 := (fun _ h => List.mem_cons_of_mem _ (List.mem_append_right _ (List.mem_append_left _ h)) : ∀ w ∈ wsX80, w ∈ v_X8_writeRoot_1)
  have k_2 := hts (.fieldLink RX8 28 "TwinRoots" "disk" "LTwinRoots$Disk;") (List.mem_of_getElem? (i := 7) rfl)
  refine lv_aload_n hx hb dX8_writeRoot_0 rfl (lv_at hl 0 rfl) ?_
  refine lv_iload_n hx hb dX8_writeRoot_1 rfl (lv_at hl 1 rfl) ?_
  have hPc := hP.sub (ws' := [(ax, .inr (8, [.ref hd, .ref hf, .ref hs, .ref hp, .ref he, .ref q0, .ref q1, .ref qk, .int lt, .long fx, .int dn]))]) [0] rfl
  have hDc := hD.sub (ws' := [(ax, .inr (8, [.ref hd, .ref hf, .ref hs, .ref hp, .ref he, .ref q0, .ref q1, .ref qk, .int lt, .long fx, .int dn]))]) [0] (by decide) rfl
  have hKc := hK.sub (tys' := []) [] rfl
  have hFc := va_free (wc := [(ax, .inr (8, [.ref hd, .ref hf, .ref hs, .ref hp, .ref he, .ref q0, .ref q1, .ref qk, .int lt, .long fx, .int dn]))]) hD hS hA [0] rfl
  refine va_callr (va_runV (As := [.int 1]) (rest := []) ⟨hx, hb, hml, hown, hts⟩ (c_X8_told_1 l dC dI s.heap.size ax hd hf hs hp he q0 q1 qk lt dn fx) (cwV 1 hts g_X8_writeRoot_1_X8_told_1 rfl rfl rfl (by decide +kernel) ⟨Nat.le_of_ble_eq_true rfl, Nat.le_of_ble_eq_true rfl⟩) ⟨fun a U g mk q => by obtain ⟨q0, q1, qP, qK, qD⟩ := q; exact ⟨q0, q1, qP, va_K.moved (u := U) (U := U.calling g mk a) (Vm.Alike.refl U.vm) qK, qD⟩, va_recv hKc hPc (ci := 8) (q0 := 0) rfl rfl, fun U hU hW => ⟨rfl, by rw [hU], by rw [hU]; exact hPc, va_K.moved hW.alike hKc, hDc.weaken (fun _ _ _ _ => trivial)⟩⟩ rfl rfl hl.1 rfl (lv_room (Nat.le_of_ble_eq_true rfl)) dX8_writeRoot_2 ⟨(show 0 + 0 ≤ 0 by omega), (show 0 + 0 ≤ 0 by omega)⟩) hS (fun q _ h => hFc q h) hFc (fun u r_1 t H1 locs ht hvm hw hB hz1 hk1 hS => ?_)
  obtain ⟨hra, hP1, hK1, hD1⟩ := hB
  have hra := hra.symm
  subst hra
  rw [ht] at hP1
  have hK1 := va_K.moved hvm.symm hK1
  try dsimp only at hw
  obtain ⟨hP, hD⟩ := va_join (wr := [(hd, .inr (0, [.int (nI w), .int (nI b), .int wr, .ref qc, .ref qi, .int wa, .int wc])), (qc, .inl (cI, w * b, .inl fc)), (qi, .inl (cI, w, .inl gi)), (q1, .inr (7, [.int b1, .int b2, .int b3, .long b4]))]) (w1 := [(ax, .inr (8, [.ref hd, .ref hf, .ref hs, .ref hp, .ref he, .ref q0, .ref q1, .ref qk, .int lt, .long fx, .int dn]))]) hP hD [0] [1, 2, 3, 4] rfl rfl (by decide) (by decide) hk1 hFc hP1 hD1
  have hK := (hK.sub (tys' := [(cI, .int)]) [0] rfl).app hK1
  generalize H1 = H at hP hS ⊢
  have hP : va_P (dC, dI) vwCl [(hd, .inr (0, [.int (nI w), .int (nI b), .int wr, .ref qc, .ref qi, .int wa, .int wc])), (qc, .inl (cI, w * b, .inl fc)), (qi, .inl (cI, w, .inl gi)), (q1, .inr (7, [.int b1, .int b2, .int b3, .long b4])), (ax, .inr (8, [.ref hd, .ref hf, .ref hs, .ref hp, .ref he, .ref q0, .ref q1, .ref qk, .int lt, .long fx, .int dn]))] H := hP
  have hD : va_D A [(hd, .inr (0, [.int (nI w), .int (nI b), .int wr, .ref qc, .ref qi, .int wa, .int wc])), (qc, .inl (cI, w * b, .inl fc)), (qi, .inl (cI, w, .inl gi)), (q1, .inr (7, [.int b1, .int b2, .int b3, .long b4])), (ax, .inr (8, [.ref hd, .ref hf, .ref hs, .ref hp, .ref he, .ref q0, .ref q1, .ref qk, .int lt, .long fx, .int dn]))] := hD
  have hK : va_K (dC, dI) vwCl [(cI, .int)] s := hK
  refine lv_aload_n hx hb dX8_writeRoot_5 rfl (lv_at hl 0 rfl) ?_
  refine va_get (D := (dC, dI)) (ci := 8) (v := .ref hd) (C := RX8) (T := TX8) (N := 11) hx hb hts k_1 hown hK hP 4 rfl rfl 0 (by decide) k_2 (fun _ h9 => h9) rfl dX8_writeRoot_6 ?_
  have hPc := hP.sub (ws' := [(q1, .inr (7, [.int b1, .int b2, .int b3, .long b4])), (hd, .inr (0, [.int (nI w), .int (nI b), .int wr, .ref qc, .ref qi, .int wa, .int wc])), (qi, .inl (cI, w, .inl gi))]) [3, 0, 2] rfl
  have hDc := hD.sub (ws' := [(q1, .inr (7, [.int b1, .int b2, .int b3, .long b4])), (hd, .inr (0, [.int (nI w), .int (nI b), .int wr, .ref qc, .ref qi, .int wa, .int wc])), (qi, .inl (cI, w, .inl gi))]) [3, 0, 2] (by decide) rfl
  have hKc := hK.sub (tys' := [(cI, .int)]) [0] rfl
  have hFc := va_free (wc := [(q1, .inr (7, [.int b1, .int b2, .int b3, .long b4])), (hd, .inr (0, [.int (nI w), .int (nI b), .int wr, .ref qc, .ref qi, .int wa, .int wc])), (qi, .inl (cI, w, .inl gi))]) hD hS hA [3, 0, 2] rfl
  refine va_callv (va_runV (As := [.ref hd]) (rest := []) ⟨hx, hb, hml, hown, hts⟩ (c_X7_layOut l dC dI H.size q1 hd w b qc qi wr wa wc b1 b2 b3 b4 cI gi (by first | assumption | omega | decide)) (cwV 1 hts g_X8_writeRoot_1_X7_layOut rfl rfl rfl (by decide +kernel) ⟨Nat.le_of_ble_eq_true rfl, Nat.le_of_ble_eq_true rfl⟩) ⟨fun a U g mk q => by obtain ⟨q0, q1, qP, qK, qD⟩ := q; exact ⟨q0, q1, qP, va_K.moved (u := U) (U := U.calling g mk a) (Vm.Alike.refl U.vm) qK, qD⟩, va_recv hKc hPc (ci := 7) (q0 := 0) rfl rfl, fun U hU hW => ⟨rfl, by rw [hU], by rw [hU]; exact hPc, va_K.moved hW.alike hKc, hDc.weaken (fun _ _ _ _ => trivial)⟩⟩ rfl rfl hl.1 rfl (lv_room (Nat.le_of_ble_eq_true rfl)) dX8_writeRoot_9 ⟨(show 0 + 0 ≤ 0 by omega), (show 0 + 0 ≤ 0 by omega)⟩) hS (fun q _ h => hFc q h) hFc (fun u t H1 locs ht hvm hw hB hz1 hk1 hS => ?_)
  obtain ⟨g2_3, rfl⟩ : ∃ z, z = u := ⟨_, rfl⟩
  obtain ⟨hP1, hK1, hD1⟩ := hB
  rw [ht] at hP1
  have hK1 := va_K.moved hvm.symm hK1
  try dsimp only at hw
  obtain ⟨hP, hD⟩ := va_join (wr := [(qc, .inl (cI, w * b, .inl fc)), (ax, .inr (8, [.ref hd, .ref hf, .ref hs, .ref hp, .ref he, .ref q0, .ref q1, .ref qk, .int lt, .long fx, .int dn]))]) (w1 := [(q1, .inr (7, [.int b1, .int b2, .int b3, .long b4])), (hd, .inr (0, [.int (nI w), .int (nI b), .int wr, .ref qc, .ref qi, .int wa, .int wc])), (qi, .inl (cI, w, .inl g2_3))]) hP hD [3, 0, 2] [1, 4] rfl rfl (by decide) (by decide) hk1 hFc hP1 hD1
  have hK := (hK.sub (tys' := []) [] rfl).app hK1
  generalize H1 = H at hP hS ⊢
  have hP : va_P (dC, dI) vwCl [(qc, .inl (cI, w * b, .inl fc)), (ax, .inr (8, [.ref hd, .ref hf, .ref hs, .ref hp, .ref he, .ref q0, .ref q1, .ref qk, .int lt, .long fx, .int dn])), (q1, .inr (7, [.int b1, .int b2, .int b3, .long b4])), (hd, .inr (0, [.int (nI w), .int (nI b), .int wr, .ref qc, .ref qi, .int wa, .int wc])), (qi, .inl (cI, w, .inl g2_3))] H := hP
  have hD : va_D A [(qc, .inl (cI, w * b, .inl fc)), (ax, .inr (8, [.ref hd, .ref hf, .ref hs, .ref hp, .ref he, .ref q0, .ref q1, .ref qk, .int lt, .long fx, .int dn])), (q1, .inr (7, [.int b1, .int b2, .int b3, .long b4])), (hd, .inr (0, [.int (nI w), .int (nI b), .int wr, .ref qc, .ref qi, .int wa, .int wc])), (qi, .inl (cI, w, .inl g2_3))] := hD
  have hK : va_K (dC, dI) vwCl [(cI, .int)] s := hK
  refine lv_aload_n hx hb dX8_writeRoot_12 rfl (lv_at hl 0 rfl) ?_
  refine va_get (D := (dC, dI)) (ci := 8) (v := .ref hd) (C := RX8) (T := TX8) (N := 11) hx hb hts k_1 hown hK hP 1 rfl rfl 0 (by decide) k_2 (fun _ h9 => h9) rfl dX8_writeRoot_13 ?_
  refine lv_iload_n hx hb dX8_writeRoot_16 rfl (lv_at hl 1 rfl) ?_
  have hPc := hP.sub (ws' := [(hd, .inr (0, [.int (nI w), .int (nI b), .int wr, .ref qc, .ref qi, .int wa, .int wc])), (qc, .inl (cI, w * b, .inl fc)), (qi, .inl (cI, w, .inl g2_3))]) [3, 0, 4] rfl
  have hDc := hD.sub (ws' := [(hd, .inr (0, [.int (nI w), .int (nI b), .int wr, .ref qc, .ref qi, .int wa, .int wc])), (qc, .inl (cI, w * b, .inl fc)), (qi, .inl (cI, w, .inl g2_3))]) [3, 0, 4] (by decide) rfl
  have hKc := hK.sub (tys' := [(cI, .int), (cI, .int)]) [0, 0] rfl
  have hFc := va_free (wc := [(hd, .inr (0, [.int (nI w), .int (nI b), .int wr, .ref qc, .ref qi, .int wa, .int wc])), (qc, .inl (cI, w * b, .inl fc)), (qi, .inl (cI, w, .inl g2_3))]) hD hS hA [3, 0, 4] rfl
  refine va_calli (va_runV (As := [.int 1]) (rest := []) ⟨hx, hb, hml, hown, hts⟩ (c_X0_write_any l dC dI H.size hd w b qc qi wr wa wc 1 cI cI fc g2_3 (by first | assumption | omega | decide) (by first | assumption | omega | decide) (by first | assumption | omega | decide) (by first | assumption | omega | decide) (by first | assumption | omega | decide)) (cwV 1 hts g_X8_writeRoot_1_X0_write_any rfl rfl rfl (by decide +kernel) ⟨Nat.le_of_ble_eq_true rfl, Nat.le_of_ble_eq_true rfl⟩) ⟨fun a U g mk q => by obtain ⟨q0, q1, qP, qK, qD⟩ := q; exact ⟨q0, q1, qP, va_K.moved (u := U) (U := U.calling g mk a) (Vm.Alike.refl U.vm) qK, qD⟩, va_recv hKc hPc (ci := 0) (q0 := 0) rfl rfl, fun U hU hW => ⟨rfl, by rw [hU], by rw [hU]; exact hPc, va_K.moved hW.alike hKc, hDc.weaken (fun _ _ _ _ => trivial)⟩⟩ rfl rfl hl.1 rfl (lv_room (Nat.le_of_ble_eq_true rfl)) dX8_writeRoot_17 ⟨(show 0 + 0 ≤ 0 by omega), (show 0 + 0 ≤ 0 by omega)⟩) hS (fun q _ h => hFc q h) hFc (fun r_4 u t H1 locs ht hvm hw hB hz1 hk1 hS => ?_)
  obtain ⟨wr2_5, wa2_6, f2_7, g2_8⟩ := u
  obtain ⟨hP1, hK1, hD1⟩ := hB
  rw [ht] at hP1
  have hK1 := va_K.moved hvm.symm hK1
  try dsimp only at hw
  obtain ⟨hP, hD⟩ := va_join (wr := [(ax, .inr (8, [.ref hd, .ref hf, .ref hs, .ref hp, .ref he, .ref q0, .ref q1, .ref qk, .int lt, .long fx, .int dn])), (q1, .inr (7, [.int b1, .int b2, .int b3, .long b4]))]) (w1 := [(hd, .inr (0, [.int (nI w), .int (nI b), .int wr2_5, .ref qc, .ref qi, .int wa2_6, .int wc])), (qc, .inl (cI, w * b, .inl f2_7)), (qi, .inl (cI, w, .inl g2_8))]) hP hD [3, 0, 4] [1, 2] rfl rfl (by decide) (by decide) hk1 hFc hP1 hD1
  have hK := (hK.sub (tys' := []) [] rfl).app hK1
  generalize H1 = H at hP hS ⊢
  have hP : va_P (dC, dI) vwCl [(ax, .inr (8, [.ref hd, .ref hf, .ref hs, .ref hp, .ref he, .ref q0, .ref q1, .ref qk, .int lt, .long fx, .int dn])), (q1, .inr (7, [.int b1, .int b2, .int b3, .long b4])), (hd, .inr (0, [.int (nI w), .int (nI b), .int wr2_5, .ref qc, .ref qi, .int wa2_6, .int wc])), (qc, .inl (cI, w * b, .inl f2_7)), (qi, .inl (cI, w, .inl g2_8))] H := hP
  have hD : va_D A [(ax, .inr (8, [.ref hd, .ref hf, .ref hs, .ref hp, .ref he, .ref q0, .ref q1, .ref qk, .int lt, .long fx, .int dn])), (q1, .inr (7, [.int b1, .int b2, .int b3, .long b4])), (hd, .inr (0, [.int (nI w), .int (nI b), .int wr2_5, .ref qc, .ref qi, .int wa2_6, .int wc])), (qc, .inl (cI, w * b, .inl f2_7)), (qi, .inl (cI, w, .inl g2_8))] := hD
  have hK : va_K (dC, dI) vwCl [(cI, .int), (cI, .int)] s := hK
  have hw_r_4 := hw
  have hP9 := hP.sub (ws' := [(ax, .inr (8, [.ref hd, .ref hf, .ref hs, .ref hp, .ref he, .ref q0, .ref q1, .ref qk, .int lt, .long fx, .int dn])), (hd, .inr (0, [.int (nI w), .int (nI b), .int wr2_5, .ref qc, .ref qi, .int wa2_6, .int wc])), (qc, .inl (cI, w * b, .inl f2_7)), (qi, .inl (cI, w, .inl g2_8)), (q1, .inr (7, [.int b1, .int b2, .int b3, .long b4]))]) [0, 2, 3, 4, 1] rfl
  have hD9 := hD.sub (ws' := [(ax, .inr (8, [.ref hd, .ref hf, .ref hs, .ref hp, .ref he, .ref q0, .ref q1, .ref qk, .int lt, .long fx, .int dn])), (hd, .inr (0, [.int (nI w), .int (nI b), .int wr2_5, .ref qc, .ref qi, .int wa2_6, .int wc])), (qc, .inl (cI, w * b, .inl f2_7)), (qi, .inl (cI, w, .inl g2_8)), (q1, .inr (7, [.int b1, .int b2, .int b3, .long b4]))]) [0, 2, 3, 4, 1] (by decide) rfl
  have hK9 := hK.sub (tys' := [(cI, .int)]) [0] rfl
  exact W.zret (v := r_4) hx hb hr (b01_nar hw_r_4) (fun t ht hW => ⟨⟨r_4, (wr2_5, wa2_6, wc, f2_7, g2_8), rfl, hw_r_4, by rw [ht]; exact hP9, va_K.moved hW.alike hK9, hD9⟩, hS.F ht⟩) hS.2.2 dX8_writeRoot_20
def v_X8_comeUp_0 : List Cond := .code yX8_comeUp cX8_comeUp 2 none :: ([.fieldLink RX8 140 "TwinRoots" "latest" "I", .fieldLink RX8 74 "TwinRoots" "working" "LTwinRoots$Told;", .code yX8_told cX8_told 2 (some (.object "TwinRoots$Told")), .fieldLink RX8 67 "TwinRoots" "rootZero" "LTwinRoots$Told;", .methodLink RX8 143 yX8_told, .instanceMethod yX8_told, .selects RX8 yX8_told yX8_told, .initialized RX8, .code yX7_copy cX7_copy 2 none, .fieldLink RX7 9 "TwinRoots$Told" "epoch" "I", .fieldLink RX7 15 "TwinRoots$Told" "top" "I", .fieldLink RX7 18 "TwinRoots$Told" "keys" "I", .fieldLink RX7 21 "TwinRoots$Told" "reach" "J", .code yX7_tell cX7_tell 6 none, .methodLink RX7 25 yX7_tell, .instanceMethod yX7_tell, .selects RX7 yX7_tell yX7_tell, .initialized RX7, .methodLink RX8 184 yX7_copy, .instanceMethod yX7_copy, .selects RX7 yX7_copy yX7_copy, .fieldLink RX8 99 "TwinRoots" "fresh" "J", .fieldLink RX8 77 "TwinRoots" "down" "Z"] ++ (wsX80 ++ (wsX70 ++ ([]))))
set_option maxRecDepth 20000 in
theorem g_X8_comeUp_0_X8_told_0 : GoodIn v_X8_comeUp_0 (wsV RX8 143 RX8 yX8_told v_X8_told_0) := goodIn_r _ [5, 6, 7, 8, 3, 4, 24, 25, 26, 27, 28, 29, 30, 31, 32, 33, 34] (by decide +kernel) (by decide +kernel)
set_option maxRecDepth 20000 in
theorem g_X8_comeUp_0_X7_copy : GoodIn v_X8_comeUp_0 (wsV RX8 184 RX7 yX7_copy v_X7_copy) := goodIn_r _ [19, 20, 21, 18, 9, 10, 11, 12, 13, 14, 15, 16, 17, 18, 35, 36, 37, 38] (by decide +kernel) (by decide +kernel)
set_option maxHeartbeats 4000000 in
set_option maxRecDepth 100000 in
/-- X8_comeUp -/
theorem c_X8_comeUp_0 (l : Launch) (dC : Nat → ClassId) (dI : Nat → Nat → Nat) (sz : Nat) (ax : Nat) (hd : Nat) (hf : Nat) (hs : Nat) (hp : Nat) (he : Nat) (q0 : Nat) (q1 : Nat) (qk : Nat) (lt : Int32) (dn : Int32) (a1 : Int32) (a2 : Int32) (a3 : Int32) (c1 : Int32) (c2 : Int32) (c3 : Int32) (fx : Int64) (a4 : Int64) (c4 : Int64) : Met l yX8_comeUp v_X8_comeUp_0 ({ frames := 2, cells := 0, slots := 0, locals := 46 } : Room) (va_Pc [.ref ax, .int 0] (fun U => U.heap.size = sz ∧ va_P (dC, dI) vwCl [(ax, .inr (8, [.ref hd, .ref hf, .ref hs, .ref hp, .ref he, .ref q0, .ref q1, .ref qk, .int lt, .long fx, .int dn])), (q0, .inr (7, [.int a1, .int a2, .int a3, .long a4])), (qk, .inr (7, [.int c1, .int c2, .int c3, .long c4]))] U.heap ∧ va_K (dC, dI) vwCl [] U ∧ va_D (fun _ => True) [(ax, .inr (8, [.ref hd, .ref hf, .ref hs, .ref hp, .ref he, .ref q0, .ref q1, .ref qk, .int lt, .long fx, .int dn])), (q0, .inr (7, [.int a1, .int a2, .int a3, .long a4])), (qk, .inr (7, [.int c1, .int c2, .int c3, .long c4]))])) (va_Qv (fun (u : Int32 × Int64 × Int32 × Int32 × Int32 × Int32 × Int64) => match u with | (lt2, fx2, dn2, c12, c22, c32, c42) => (lt2 = 0 ∨ lt2 = 1)) (fun (u : Int32 × Int64 × Int32 × Int32 × Int32 × Int32 × Int64) (t : State) => match u with | (lt2, fx2, dn2, c12, c22, c32, c42) => va_P (dC, dI) vwCl [(ax, .inr (8, [.ref hd, .ref hf, .ref hs, .ref hp, .ref he, .ref q0, .ref q1, .ref qk, .int lt2, .long fx2, .int dn2])), (q0, .inr (7, [.int a1, .int a2, .int a3, .long a4])), (qk, .inr (7, [.int c12, .int c22, .int c32, .long c42]))] t.heap ∧ va_K (dC, dI) vwCl [] t ∧ va_D (va_A [(ax, .inr (8, [.ref hd, .ref hf, .ref hs, .ref hp, .ref he, .ref q0, .ref q1, .ref qk, .int lt, .long fx, .int dn])), (q0, .inr (7, [.int a1, .int a2, .int a3, .long a4])), (qk, .inr (7, [.int c1, .int c2, .int c3, .long c4]))] sz) [(ax, .inr (8, [.ref hd, .ref hf, .ref hs, .ref hp, .ref he, .ref q0, .ref q1, .ref qk, .int lt2, .long fx2, .int dn2])), (q0, .inr (7, [.int a1, .int a2, .int a3, .long a4])), (qk, .inr (7, [.int c12, .int c22, .int c32, .long c42]))]) (va_A [(ax, .inr (8, [.ref hd, .ref hf, .ref hs, .ref hp, .ref he, .ref q0, .ref q1, .ref qk, .int lt, .long fx, .int dn])), (q0, .inr (7, [.int a1, .int a2, .int a3, .long a4])), (qk, .inr (7, [.int c1, .int c2, .int c3, .long c4]))] sz)) 0 0 (va_A [(ax, .inr (8, [.ref hd, .ref hf, .ref hs, .ref hp, .ref he, .ref q0, .ref q1, .ref qk, .int lt, .long fx, .int dn])), (q0, .inr (7, [.int a1, .int a2, .int a3, .long a4])), (qk, .inr (7, [.int c1, .int c2, .int c3, .long c4]))] sz) := by
  refine Met.ofW (cc := cX8_comeUp) (maxL := 2) (ret := none) (by decide) rfl ?_
  intro p e s m args below meth c s₁ B hml hv
  obtain ⟨rfl, hsz, hP, hK, hD0⟩ := hv
  have hx := B.exec
  have hb := B.bytes
  have hr := B.returns
  have hts := atoms_spec (ws := v_X8_comeUp_0) B.pre
  have hown : s.vm.findClass RX8 = some m.cls := findClass_of_methodNamed B.named
  have hlocks := B.notSynchronized
  subst hsz
  have hD := hD0.self (sz := s.heap.size)
  generalize hAe : va_A [(ax, .inr (8, [.ref hd, .ref hf, .ref hs, .ref hp, .ref he, .ref q0, .ref q1, .ref qk, .int lt, .long fx, .int dn])), (q0, .inr (7, [.int a1, .int a2, .int a3, .long a4])), (qk, .inr (7, [.int c1, .int c2, .int c3, .long c4]))] s.heap.size = A at hD ⊢
  have hA : ∀ q : Nat, s.heap.size ≤ q → A q := fun q h => by rw [← hAe]; exact Or.inr h
  have hS : va_S A s.heap s.heap [] := va_S.rf
  have hP : va_P (dC, dI) vwCl [(ax, .inr (8, [.ref hd, .ref hf, .ref hs, .ref hp, .ref he, .ref q0, .ref q1, .ref qk, .int lt, .long fx, .int dn])), (q0, .inr (7, [.int a1, .int a2, .int a3, .long a4])), (qk, .inr (7, [.int c1, .int c2, .int c3, .long c4]))] s.heap := hP
  have hl := lv_entry ([.ref ax, .int 0]) (n := 2) (Nat.le_of_ble_eq_true rfl)
  rw [lg_entry_eq]
  generalize (lg_sl ([.ref ax, .int 0]) ++ List.replicate (2 - (lg_sl ([.ref ax, .int 0])).length) Slot.unset).toArray = ls at hl ⊢
  have hl : lv_has ls 2 [(0, .ref ax), (1, .int 0)] := hl
  have k_1 := (fun _ h => List.mem_cons_of_mem _ (List.mem_append_right _ (List.mem_append_left _ h)) : ∀ w ∈ wsX80, w ∈ v_X8_comeUp_0)
  have k_2 := hts (.fieldLink RX8 140 "TwinRoots" "latest" "I") (List.mem_of_getElem? (i := 1) rfl)
  have k_3 := hts (.fieldLink RX8 74 "TwinRoots" "working" "LTwinRoots$Told;") (List.mem_of_getElem? (i := 2) rfl)
  have k_4 := hts (.fieldLink RX8 99 "TwinRoots" "fresh" "J") (List.mem_of_getElem? (i := 22) rfl)
  have k_5 := hts (.fieldLink RX8 77 "TwinRoots" "down" "Z") (List.mem_of_getElem? (i := 23) rfl)
  refine lv_aload_n hx hb dX8_comeUp_0 rfl (lv_at hl 0 rfl) ?_
  refine lv_iload_n hx hb dX8_comeUp_1 rfl (lv_at hl 1 rfl) ?_
  refine va_put (D := (dC, dI)) (ci := 8) (v := .int 0) (ty := .int) (C := RX8) (T := TX8) (N := 11) hx hb hts k_1 tyX8 tyX8_ok nmX8 hown hK hP hD hS 0 rfl rfl 8 (by decide) k_2 (fun _ h9 => h9) rfl (by decide +kernel) rfl rfl (Nat.le_of_ble_eq_true rfl) dX8_comeUp_2 (fun H locs hP hD hS => ?_)
  have hP : va_P (dC, dI) vwCl [(ax, .inr (8, [.ref hd, .ref hf, .ref hs, .ref hp, .ref he, .ref q0, .ref q1, .ref qk, .int 0, .long fx, .int dn])), (q0, .inr (7, [.int a1, .int a2, .int a3, .long a4])), (qk, .inr (7, [.int c1, .int c2, .int c3, .long c4]))] H := hP
  have hD : va_D A [(ax, .inr (8, [.ref hd, .ref hf, .ref hs, .ref hp, .ref he, .ref q0, .ref q1, .ref qk, .int 0, .long fx, .int dn])), (q0, .inr (7, [.int a1, .int a2, .int a3, .long a4])), (qk, .inr (7, [.int c1, .int c2, .int c3, .long c4]))] := hD
  refine lv_aload_n hx hb dX8_comeUp_5 rfl (lv_at hl 0 rfl) ?_
  refine va_get (D := (dC, dI)) (ci := 8) (v := .ref qk) (C := RX8) (T := TX8) (N := 11) hx hb hts k_1 hown hK hP 0 rfl rfl 7 (by decide) k_3 (fun _ h9 => h9) rfl dX8_comeUp_6 ?_
  refine lv_aload_n hx hb dX8_comeUp_9 rfl (lv_at hl 0 rfl) ?_
  refine lv_iload_n hx hb dX8_comeUp_10 rfl (lv_at hl 1 rfl) ?_
  have hPc := hP.sub (ws' := [(ax, .inr (8, [.ref hd, .ref hf, .ref hs, .ref hp, .ref he, .ref q0, .ref q1, .ref qk, .int 0, .long fx, .int dn]))]) [0] rfl
  have hDc := hD.sub (ws' := [(ax, .inr (8, [.ref hd, .ref hf, .ref hs, .ref hp, .ref he, .ref q0, .ref q1, .ref qk, .int 0, .long fx, .int dn]))]) [0] (by decide) rfl
  have hKc := hK.sub (tys' := []) [] rfl
  have hFc := va_free (wc := [(ax, .inr (8, [.ref hd, .ref hf, .ref hs, .ref hp, .ref he, .ref q0, .ref q1, .ref qk, .int 0, .long fx, .int dn]))]) hD hS hA [0] rfl
  refine va_callr (va_runV (As := [.int 0]) (rest := [.ref qk]) ⟨hx, hb, hml, hown, hts⟩ (c_X8_told_0 l dC dI H.size ax hd hf hs hp he q0 q1 qk 0 dn fx) (cwV 1 hts g_X8_comeUp_0_X8_told_0 rfl rfl rfl (by decide +kernel) ⟨Nat.le_of_ble_eq_true rfl, Nat.le_of_ble_eq_true rfl⟩) ⟨fun a U g mk q => by obtain ⟨q0, q1, qP, qK, qD⟩ := q; exact ⟨q0, q1, qP, va_K.moved (u := U) (U := U.calling g mk a) (Vm.Alike.refl U.vm) qK, qD⟩, va_recv hKc hPc (ci := 8) (q0 := 0) rfl rfl, fun U hU hW => ⟨rfl, by rw [hU], by rw [hU]; exact hPc, va_K.moved hW.alike hKc, hDc.weaken (fun _ _ _ _ => trivial)⟩⟩ rfl rfl hl.1 rfl (lv_room (Nat.le_of_ble_eq_true rfl)) dX8_comeUp_11 ⟨(show 0 + 0 ≤ 0 by omega), (show 0 + 0 ≤ 0 by omega)⟩) hS (fun q _ h => hFc q h) hFc (fun u r_1 t H1 locs ht hvm hw hB hz1 hk1 hS => ?_)
  obtain ⟨hra, hP1, hK1, hD1⟩ := hB
  have hra := hra.symm
  subst hra
  rw [ht] at hP1
  have hK1 := va_K.moved hvm.symm hK1
  try dsimp only at hw
  obtain ⟨hP, hD⟩ := va_join (wr := [(q0, .inr (7, [.int a1, .int a2, .int a3, .long a4])), (qk, .inr (7, [.int c1, .int c2, .int c3, .long c4]))]) (w1 := [(ax, .inr (8, [.ref hd, .ref hf, .ref hs, .ref hp, .ref he, .ref q0, .ref q1, .ref qk, .int 0, .long fx, .int dn]))]) hP hD [0] [1, 2] rfl rfl (by decide) (by decide) hk1 hFc hP1 hD1
  have hK := (hK.sub (tys' := []) [] rfl).app hK1
  generalize H1 = H at hP hS ⊢
  have hP : va_P (dC, dI) vwCl [(q0, .inr (7, [.int a1, .int a2, .int a3, .long a4])), (qk, .inr (7, [.int c1, .int c2, .int c3, .long c4])), (ax, .inr (8, [.ref hd, .ref hf, .ref hs, .ref hp, .ref he, .ref q0, .ref q1, .ref qk, .int 0, .long fx, .int dn]))] H := hP
  have hD : va_D A [(q0, .inr (7, [.int a1, .int a2, .int a3, .long a4])), (qk, .inr (7, [.int c1, .int c2, .int c3, .long c4])), (ax, .inr (8, [.ref hd, .ref hf, .ref hs, .ref hp, .ref he, .ref q0, .ref q1, .ref qk, .int 0, .long fx, .int dn]))] := hD
  have hK : va_K (dC, dI) vwCl [] s := hK
  have hPc := hP.sub (ws' := [(qk, .inr (7, [.int c1, .int c2, .int c3, .long c4])), (q0, .inr (7, [.int a1, .int a2, .int a3, .long a4]))]) [1, 0] rfl
  have hDc := hD.sub (ws' := [(qk, .inr (7, [.int c1, .int c2, .int c3, .long c4])), (q0, .inr (7, [.int a1, .int a2, .int a3, .long a4]))]) [1, 0] (by decide) rfl
  have hKc := hK.sub (tys' := []) [] rfl
  have hFc := va_free (wc := [(qk, .inr (7, [.int c1, .int c2, .int c3, .long c4])), (q0, .inr (7, [.int a1, .int a2, .int a3, .long a4]))]) hD hS hA [1, 0] rfl
  refine va_callv (va_runV (As := [.ref q0]) (rest := []) ⟨hx, hb, hml, hown, hts⟩ (c_X7_copy l dC dI H.size qk q0 c1 c2 c3 c4 a1 a2 a3 a4) (cwV 1 hts g_X8_comeUp_0_X7_copy rfl rfl rfl (by decide +kernel) ⟨Nat.le_of_ble_eq_true rfl, Nat.le_of_ble_eq_true rfl⟩) ⟨fun a U g mk q => by obtain ⟨q0, q1, qP, qK, qD⟩ := q; exact ⟨q0, q1, qP, va_K.moved (u := U) (U := U.calling g mk a) (Vm.Alike.refl U.vm) qK, qD⟩, va_recv hKc hPc (ci := 7) (q0 := 0) rfl rfl, fun U hU hW => ⟨rfl, by rw [hU], by rw [hU]; exact hPc, va_K.moved hW.alike hKc, hDc.weaken (fun _ _ _ _ => trivial)⟩⟩ rfl rfl hl.1 rfl (lv_room (Nat.le_of_ble_eq_true rfl)) dX8_comeUp_14 ⟨(show 0 + 0 ≤ 0 by omega), (show 0 + 0 ≤ 0 by omega)⟩) hS (fun q _ h => hFc q h) hFc (fun u t H1 locs ht hvm hw hB hz1 hk1 hS => ?_)
  obtain ⟨hP1, hK1, hD1⟩ := hB
  rw [ht] at hP1
  have hK1 := va_K.moved hvm.symm hK1
  try dsimp only at hw
  obtain ⟨hP, hD⟩ := va_join (wr := [(ax, .inr (8, [.ref hd, .ref hf, .ref hs, .ref hp, .ref he, .ref q0, .ref q1, .ref qk, .int 0, .long fx, .int dn]))]) (w1 := [(qk, .inr (7, [.int a1, .int a2, .int a3, .long a4])), (q0, .inr (7, [.int a1, .int a2, .int a3, .long a4]))]) hP hD [1, 0] [2] rfl rfl (by decide) (by decide) hk1 hFc hP1 hD1
  have hK := (hK.sub (tys' := []) [] rfl).app hK1
  generalize H1 = H at hP hS ⊢
  have hP : va_P (dC, dI) vwCl [(ax, .inr (8, [.ref hd, .ref hf, .ref hs, .ref hp, .ref he, .ref q0, .ref q1, .ref qk, .int 0, .long fx, .int dn])), (qk, .inr (7, [.int a1, .int a2, .int a3, .long a4])), (q0, .inr (7, [.int a1, .int a2, .int a3, .long a4]))] H := hP
  have hD : va_D A [(ax, .inr (8, [.ref hd, .ref hf, .ref hs, .ref hp, .ref he, .ref q0, .ref q1, .ref qk, .int 0, .long fx, .int dn])), (qk, .inr (7, [.int a1, .int a2, .int a3, .long a4])), (q0, .inr (7, [.int a1, .int a2, .int a3, .long a4]))] := hD
  have hK : va_K (dC, dI) vwCl [] s := hK
  refine lv_aload_n hx hb dX8_comeUp_17 rfl (lv_at hl 0 rfl) ?_
  refine lv_lconst (v := 0) hx hb dX8_comeUp_18 (by decide) ?_
  refine va_put (D := (dC, dI)) (ci := 8) (v := .long 0) (ty := .long) (C := RX8) (T := TX8) (N := 11) hx hb hts k_1 tyX8 tyX8_ok nmX8 hown hK hP hD hS 0 rfl rfl 9 (by decide) k_4 (fun _ h9 => h9) rfl (by decide +kernel) rfl rfl (Nat.le_of_ble_eq_true rfl) dX8_comeUp_19 (fun H locs hP hD hS => ?_)
  have hP : va_P (dC, dI) vwCl [(ax, .inr (8, [.ref hd, .ref hf, .ref hs, .ref hp, .ref he, .ref q0, .ref q1, .ref qk, .int 0, .long 0, .int dn])), (qk, .inr (7, [.int a1, .int a2, .int a3, .long a4])), (q0, .inr (7, [.int a1, .int a2, .int a3, .long a4]))] H := hP
  have hD : va_D A [(ax, .inr (8, [.ref hd, .ref hf, .ref hs, .ref hp, .ref he, .ref q0, .ref q1, .ref qk, .int 0, .long 0, .int dn])), (qk, .inr (7, [.int a1, .int a2, .int a3, .long a4])), (q0, .inr (7, [.int a1, .int a2, .int a3, .long a4]))] := hD
  refine lv_aload_n hx hb dX8_comeUp_22 rfl (lv_at hl 0 rfl) ?_
  refine lv_iconst (v := 0) hx hb dX8_comeUp_23 (by decide) ?_
  refine va_put (D := (dC, dI)) (ci := 8) (v := .int 0) (ty := .boolean) (C := RX8) (T := TX8) (N := 11) hx hb hts k_1 tyX8 tyX8_ok nmX8 hown hK hP hD hS 0 rfl rfl 10 (by decide) k_5 (fun _ h9 => h9) rfl (by decide +kernel) rfl rfl (Nat.le_of_ble_eq_true rfl) dX8_comeUp_24 (fun H locs hP hD hS => ?_)
  have hP : va_P (dC, dI) vwCl [(ax, .inr (8, [.ref hd, .ref hf, .ref hs, .ref hp, .ref he, .ref q0, .ref q1, .ref qk, .int 0, .long 0, .int 0])), (qk, .inr (7, [.int a1, .int a2, .int a3, .long a4])), (q0, .inr (7, [.int a1, .int a2, .int a3, .long a4]))] H := hP
  have hD : va_D A [(ax, .inr (8, [.ref hd, .ref hf, .ref hs, .ref hp, .ref he, .ref q0, .ref q1, .ref qk, .int 0, .long 0, .int 0])), (qk, .inr (7, [.int a1, .int a2, .int a3, .long a4])), (q0, .inr (7, [.int a1, .int a2, .int a3, .long a4]))] := hD
  have hP9 := hP.sub (ws' := [(ax, .inr (8, [.ref hd, .ref hf, .ref hs, .ref hp, .ref he, .ref q0, .ref q1, .ref qk, .int 0, .long 0, .int 0])), (q0, .inr (7, [.int a1, .int a2, .int a3, .long a4])), (qk, .inr (7, [.int a1, .int a2, .int a3, .long a4]))]) [0, 2, 1] rfl
  have hD9 := hD.sub (ws' := [(ax, .inr (8, [.ref hd, .ref hf, .ref hs, .ref hp, .ref he, .ref q0, .ref q1, .ref qk, .int 0, .long 0, .int 0])), (q0, .inr (7, [.int a1, .int a2, .int a3, .long a4])), (qk, .inr (7, [.int a1, .int a2, .int a3, .long a4]))]) [0, 2, 1] (by decide) rfl
  have hK9 := hK.sub (tys' := []) [] rfl
  exact W.vret hx hb hr (fun t ht hW => ⟨⟨(0, 0, 0, a1, a2, a3, a4), rfl, (by first | assumption | exact hw.2 | exact hw.2.1 | exact hw | exact Or.inl rfl | exact Or.inr rfl), by rw [ht]; exact hP9, va_K.moved hW.alike hK9, hD9⟩, hS.F ht⟩) hS.2.2 dX8_comeUp_27
def v_X8_comeUp_1 : List Cond := .code yX8_comeUp cX8_comeUp 2 none :: ([.fieldLink RX8 140 "TwinRoots" "latest" "I", .fieldLink RX8 74 "TwinRoots" "working" "LTwinRoots$Told;", .code yX8_told cX8_told 2 (some (.object "TwinRoots$Told")), .fieldLink RX8 71 "TwinRoots" "rootOne" "LTwinRoots$Told;", .methodLink RX8 143 yX8_told, .instanceMethod yX8_told, .selects RX8 yX8_told yX8_told, .initialized RX8, .code yX7_copy cX7_copy 2 none, .fieldLink RX7 9 "TwinRoots$Told" "epoch" "I", .fieldLink RX7 15 "TwinRoots$Told" "top" "I", .fieldLink RX7 18 "TwinRoots$Told" "keys" "I", .fieldLink RX7 21 "TwinRoots$Told" "reach" "J", .code yX7_tell cX7_tell 6 none, .methodLink RX7 25 yX7_tell, .instanceMethod yX7_tell, .selects RX7 yX7_tell yX7_tell, .initialized RX7, .methodLink RX8 184 yX7_copy, .instanceMethod yX7_copy, .selects RX7 yX7_copy yX7_copy, .fieldLink RX8 99 "TwinRoots" "fresh" "J", .fieldLink RX8 77 "TwinRoots" "down" "Z"] ++ (wsX80 ++ (wsX70 ++ ([]))))
set_option maxRecDepth 20000 in
theorem g_X8_comeUp_1_X8_told_1 : GoodIn v_X8_comeUp_1 (wsV RX8 143 RX8 yX8_told v_X8_told_1) := goodIn_r _ [5, 6, 7, 8, 3, 4, 24, 25, 26, 27, 28, 29, 30, 31, 32, 33, 34] (by decide +kernel) (by decide +kernel)
set_option maxRecDepth 20000 in
theorem g_X8_comeUp_1_X7_copy : GoodIn v_X8_comeUp_1 (wsV RX8 184 RX7 yX7_copy v_X7_copy) := goodIn_r _ [19, 20, 21, 18, 9, 10, 11, 12, 13, 14, 15, 16, 17, 18, 35, 36, 37, 38] (by decide +kernel) (by decide +kernel)
set_option maxHeartbeats 4000000 in
set_option maxRecDepth 100000 in
/-- X8_comeUp -/
theorem c_X8_comeUp_1 (l : Launch) (dC : Nat → ClassId) (dI : Nat → Nat → Nat) (sz : Nat) (ax : Nat) (hd : Nat) (hf : Nat) (hs : Nat) (hp : Nat) (he : Nat) (q0 : Nat) (q1 : Nat) (qk : Nat) (lt : Int32) (dn : Int32) (b1 : Int32) (b2 : Int32) (b3 : Int32) (c1 : Int32) (c2 : Int32) (c3 : Int32) (fx : Int64) (b4 : Int64) (c4 : Int64) : Met l yX8_comeUp v_X8_comeUp_1 ({ frames := 2, cells := 0, slots := 0, locals := 46 } : Room) (va_Pc [.ref ax, .int 1] (fun U => U.heap.size = sz ∧ va_P (dC, dI) vwCl [(ax, .inr (8, [.ref hd, .ref hf, .ref hs, .ref hp, .ref he, .ref q0, .ref q1, .ref qk, .int lt, .long fx, .int dn])), (q1, .inr (7, [.int b1, .int b2, .int b3, .long b4])), (qk, .inr (7, [.int c1, .int c2, .int c3, .long c4]))] U.heap ∧ va_K (dC, dI) vwCl [] U ∧ va_D (fun _ => True) [(ax, .inr (8, [.ref hd, .ref hf, .ref hs, .ref hp, .ref he, .ref q0, .ref q1, .ref qk, .int lt, .long fx, .int dn])), (q1, .inr (7, [.int b1, .int b2, .int b3, .long b4])), (qk, .inr (7, [.int c1, .int c2, .int c3, .long c4]))])) (va_Qv (fun (u : Int32 × Int64 × Int32 × Int32 × Int32 × Int32 × Int64) => match u with | (lt2, fx2, dn2, c12, c22, c32, c42) => (lt2 = 0 ∨ lt2 = 1)) (fun (u : Int32 × Int64 × Int32 × Int32 × Int32 × Int32 × Int64) (t : State) => match u with | (lt2, fx2, dn2, c12, c22, c32, c42) => va_P (dC, dI) vwCl [(ax, .inr (8, [.ref hd, .ref hf, .ref hs, .ref hp, .ref he, .ref q0, .ref q1, .ref qk, .int lt2, .long fx2, .int dn2])), (q1, .inr (7, [.int b1, .int b2, .int b3, .long b4])), (qk, .inr (7, [.int c12, .int c22, .int c32, .long c42]))] t.heap ∧ va_K (dC, dI) vwCl [] t ∧ va_D (va_A [(ax, .inr (8, [.ref hd, .ref hf, .ref hs, .ref hp, .ref he, .ref q0, .ref q1, .ref qk, .int lt, .long fx, .int dn])), (q1, .inr (7, [.int b1, .int b2, .int b3, .long b4])), (qk, .inr (7, [.int c1, .int c2, .int c3, .long c4]))] sz) [(ax, .inr (8, [.ref hd, .ref hf, .ref hs, .ref hp, .ref he, .ref q0, .ref q1, .ref qk, .int lt2, .long fx2, .int dn2])), (q1, .inr (7, [.int b1, .int b2, .int b3, .long b4])), (qk, .inr (7, [.int c12, .int c22, .int c32, .long c42]))]) (va_A [(ax, .inr (8, [.ref hd, .ref hf, .ref hs, .ref hp, .ref he, .ref q0, .ref q1, .ref qk, .int lt, .long fx, .int dn])), (q1, .inr (7, [.int b1, .int b2, .int b3, .long b4])), (qk, .inr (7, [.int c1, .int c2, .int c3, .long c4]))] sz)) 0 0 (va_A [(ax, .inr (8, [.ref hd, .ref hf, .ref hs, .ref hp, .ref he, .ref q0, .ref q1, .ref qk, .int lt, .long fx, .int dn])), (q1, .inr (7, [.int b1, .int b2, .int b3, .long b4])), (qk, .inr (7, [.int c1, .int c2, .int c3, .long c4]))] sz) := by
  refine Met.ofW (cc := cX8_comeUp) (maxL := 2) (ret := none) (by decide) rfl ?_
  intro p e s m args below meth c s₁ B hml hv
  obtain ⟨rfl, hsz, hP, hK, hD0⟩ := hv
  have hx := B.exec
  have hb := B.bytes
  have hr := B.returns
  have hts := atoms_spec (ws := v_X8_comeUp_1) B.pre
  have hown : s.vm.findClass RX8 = some m.cls := findClass_of_methodNamed B.named
  have hlocks := B.notSynchronized
  subst hsz
  have hD := hD0.self (sz := s.heap.size)
  generalize hAe : va_A [(ax, .inr (8, [.ref hd, .ref hf, .ref hs, .ref hp, .ref he, .ref q0, .ref q1, .ref qk, .int lt, .long fx, .int dn])), (q1, .inr (7, [.int b1, .int b2, .int b3, .long b4])), (qk, .inr (7, [.int c1, .int c2, .int c3, .long c4]))] s.heap.size = A at hD ⊢
  have hA : ∀ q : Nat, s.heap.size ≤ q → A q := fun q h => by rw [← hAe]; exact Or.inr h
  have hS : va_S A s.heap s.heap [] := va_S.rf
  have hP : va_P (dC, dI) vwCl [(ax, .inr (8, [.ref hd, .ref hf, .ref hs, .ref hp, .ref he, .ref q0, .ref q1, .ref qk, .int lt, .long fx, .int dn])), (q1, .inr (7, [.int b1, .int b2, .int b3, .long b4])), (qk, .inr (7, [.int c1, .int c2, .int c3, .long c4]))] s.heap := hP
  have hl := lv_entry ([.ref ax, .int 1]) (n := 2) (Nat.le_of_ble_eq_true rfl)
  rw [lg_entry_eq]
  generalize (lg_sl ([.ref ax, .int 1]) ++ List.replicate (2 - (lg_sl ([.ref ax, .int 1])).length) Slot.unset).toArray = ls at hl ⊢
  have hl : lv_has ls 2 [(0, .ref ax), (1, .int 1)] := hl
  have k_1 := (fun _ h => List.mem_cons_of_mem _ (List.mem_append_right _ (List.mem_append_left _ h)) : ∀ w ∈ wsX80, w ∈ v_X8_comeUp_1)
  have k_2 := hts (.fieldLink RX8 140 "TwinRoots" "latest" "I") (List.mem_of_getElem? (i := 1) rfl)
  have k_3 := hts (.fieldLink RX8 74 "TwinRoots" "working" "LTwinRoots$Told;") (List.mem_of_getElem? (i := 2) rfl)
  have k_4 := hts (.fieldLink RX8 99 "TwinRoots" "fresh" "J") (List.mem_of_getElem? (i := 22) rfl)
  have k_5 := hts (.fieldLink RX8 77 "TwinRoots" "down" "Z") (List.mem_of_getElem? (i := 23) rfl)
  refine lv_aload_n hx hb dX8_comeUp_0 rfl (lv_at hl 0 rfl) ?_
  refine lv_iload_n hx hb dX8_comeUp_1 rfl (lv_at hl 1 rfl) ?_
  refine va_put (D := (dC, dI)) (ci := 8) (v := .int 1) (ty := .int) (C := RX8) (T := TX8) (N := 11) hx hb hts k_1 tyX8 tyX8_ok nmX8 hown hK hP hD hS 0 rfl rfl 8 (by decide) k_2 (fun _ h9 => h9) rfl (by decide +kernel) rfl rfl (Nat.le_of_ble_eq_true rfl) dX8_comeUp_2 (fun H locs hP hD hS => ?_)
  have hP : va_P (dC, dI) vwCl [(ax, .inr (8, [.ref hd, .ref hf, .ref hs, .ref hp, .ref he, .ref q0, .ref q1, .ref qk, .int 1, .long fx, .int dn])), (q1, .inr (7, [.int b1, .int b2, .int b3, .long b4])), (qk, .inr (7, [.int c1, .int c2, .int c3, .long c4]))] H := hP
  have hD : va_D A [(ax, .inr (8, [.ref hd, .ref hf, .ref hs, .ref hp, .ref he, .ref q0, .ref q1, .ref qk, .int 1, .long fx, .int dn])), (q1, .inr (7, [.int b1, .int b2, .int b3, .long b4])), (qk, .inr (7, [.int c1, .int c2, .int c3, .long c4]))] := hD
  refine lv_aload_n hx hb dX8_comeUp_5 rfl (lv_at hl 0 rfl) ?_
  refine va_get (D := (dC, dI)) (ci := 8) (v := .ref qk) (C := RX8) (T := TX8) (N := 11) hx hb hts k_1 hown hK hP 0 rfl rfl 7 (by decide) k_3 (fun _ h9 => h9) rfl dX8_comeUp_6 ?_
  refine lv_aload_n hx hb dX8_comeUp_9 rfl (lv_at hl 0 rfl) ?_
  refine lv_iload_n hx hb dX8_comeUp_10 rfl (lv_at hl 1 rfl) ?_
  have hPc := hP.sub (ws' := [(ax, .inr (8, [.ref hd, .ref hf, .ref hs, .ref hp, .ref he, .ref q0, .ref q1, .ref qk, .int 1, .long fx, .int dn]))]) [0] rfl
  have hDc := hD.sub (ws' := [(ax, .inr (8, [.ref hd, .ref hf, .ref hs, .ref hp, .ref he, .ref q0, .ref q1, .ref qk, .int 1, .long fx, .int dn]))]) [0] (by decide) rfl
  have hKc := hK.sub (tys' := []) [] rfl
  have hFc := va_free (wc := [(ax, .inr (8, [.ref hd, .ref hf, .ref hs, .ref hp, .ref he, .ref q0, .ref q1, .ref qk, .int 1, .long fx, .int dn]))]) hD hS hA [0] rfl
  refine va_callr (va_runV (As := [.int 1]) (rest := [.ref qk]) ⟨hx, hb, hml, hown, hts⟩ (c_X8_told_1 l dC dI H.size ax hd hf hs hp he q0 q1 qk 1 dn fx) (cwV 1 hts g_X8_comeUp_1_X8_told_1 rfl rfl rfl (by decide +kernel) ⟨Nat.le_of_ble_eq_true rfl, Nat.le_of_ble_eq_true rfl⟩) ⟨fun a U g mk q => by obtain ⟨q0, q1, qP, qK, qD⟩ := q; exact ⟨q0, q1, qP, va_K.moved (u := U) (U := U.calling g mk a) (Vm.Alike.refl U.vm) qK, qD⟩, va_recv hKc hPc (ci := 8) (q0 := 0) rfl rfl, fun U hU hW => ⟨rfl, by rw [hU], by rw [hU]; exact hPc, va_K.moved hW.alike hKc, hDc.weaken (fun _ _ _ _ => trivial)⟩⟩ rfl rfl hl.1 rfl (lv_room (Nat.le_of_ble_eq_true rfl)) dX8_comeUp_11 ⟨(show 0 + 0 ≤ 0 by omega), (show 0 + 0 ≤ 0 by omega)⟩) hS (fun q _ h => hFc q h) hFc (fun u r_1 t H1 locs ht hvm hw hB hz1 hk1 hS => ?_)
  obtain ⟨hra, hP1, hK1, hD1⟩ := hB
  have hra := hra.symm
  subst hra
  rw [ht] at hP1
  have hK1 := va_K.moved hvm.symm hK1
  try dsimp only at hw
  obtain ⟨hP, hD⟩ := va_join (wr := [(q1, .inr (7, [.int b1, .int b2, .int b3, .long b4])), (qk, .inr (7, [.int c1, .int c2, .int c3, .long c4]))]) (w1 := [(ax, .inr (8, [.ref hd, .ref hf, .ref hs, .ref hp, .ref he, .ref q0, .ref q1, .ref qk, .int 1, .long fx, .int dn]))]) hP hD [0] [1, 2] rfl rfl (by decide) (by decide) hk1 hFc hP1 hD1
  have hK := (hK.sub (tys' := []) [] rfl).app hK1
  generalize H1 = H at hP hS ⊢
  have hP : va_P (dC, dI) vwCl [(q1, .inr (7, [.int b1, .int b2, .int b3, .long b4])), (qk, .inr (7, [.int c1, .int c2, .int c3, .long c4])), (ax, .inr (8, [.ref hd, .ref hf, .ref hs, .ref hp, .ref he, .ref q0, .ref q1, .ref qk, .int 1, .long fx, .int dn]))] H := hP
  have hD : va_D A [(q1, .inr (7, [.int b1, .int b2, .int b3, .long b4])), (qk, .inr (7, [.int c1, .int c2, .int c3, .long c4])), (ax, .inr (8, [.ref hd, .ref hf, .ref hs, .ref hp, .ref he, .ref q0, .ref q1, .ref qk, .int 1, .long fx, .int dn]))] := hD
  have hK : va_K (dC, dI) vwCl [] s := hK
  have hPc := hP.sub (ws' := [(qk, .inr (7, [.int c1, .int c2, .int c3, .long c4])), (q1, .inr (7, [.int b1, .int b2, .int b3, .long b4]))]) [1, 0] rfl
  have hDc := hD.sub (ws' := [(qk, .inr (7, [.int c1, .int c2, .int c3, .long c4])), (q1, .inr (7, [.int b1, .int b2, .int b3, .long b4]))]) [1, 0] (by decide) rfl
  have hKc := hK.sub (tys' := []) [] rfl
  have hFc := va_free (wc := [(qk, .inr (7, [.int c1, .int c2, .int c3, .long c4])), (q1, .inr (7, [.int b1, .int b2, .int b3, .long b4]))]) hD hS hA [1, 0] rfl
  refine va_callv (va_runV (As := [.ref q1]) (rest := []) ⟨hx, hb, hml, hown, hts⟩ (c_X7_copy l dC dI H.size qk q1 c1 c2 c3 c4 b1 b2 b3 b4) (cwV 1 hts g_X8_comeUp_1_X7_copy rfl rfl rfl (by decide +kernel) ⟨Nat.le_of_ble_eq_true rfl, Nat.le_of_ble_eq_true rfl⟩) ⟨fun a U g mk q => by obtain ⟨q0, q1, qP, qK, qD⟩ := q; exact ⟨q0, q1, qP, va_K.moved (u := U) (U := U.calling g mk a) (Vm.Alike.refl U.vm) qK, qD⟩, va_recv hKc hPc (ci := 7) (q0 := 0) rfl rfl, fun U hU hW => ⟨rfl, by rw [hU], by rw [hU]; exact hPc, va_K.moved hW.alike hKc, hDc.weaken (fun _ _ _ _ => trivial)⟩⟩ rfl rfl hl.1 rfl (lv_room (Nat.le_of_ble_eq_true rfl)) dX8_comeUp_14 ⟨(show 0 + 0 ≤ 0 by omega), (show 0 + 0 ≤ 0 by omega)⟩) hS (fun q _ h => hFc q h) hFc (fun u t H1 locs ht hvm hw hB hz1 hk1 hS => ?_)
  obtain ⟨hP1, hK1, hD1⟩ := hB
  rw [ht] at hP1
  have hK1 := va_K.moved hvm.symm hK1
  try dsimp only at hw
  obtain ⟨hP, hD⟩ := va_join (wr := [(ax, .inr (8, [.ref hd, .ref hf, .ref hs, .ref hp, .ref he, .ref q0, .ref q1, .ref qk, .int 1, .long fx, .int dn]))]) (w1 := [(qk, .inr (7, [.int b1, .int b2, .int b3, .long b4])), (q1, .inr (7, [.int b1, .int b2, .int b3, .long b4]))]) hP hD [1, 0] [2] rfl rfl (by decide) (by decide) hk1 hFc hP1 hD1
  have hK := (hK.sub (tys' := []) [] rfl).app hK1
  generalize H1 = H at hP hS ⊢
  have hP : va_P (dC, dI) vwCl [(ax, .inr (8, [.ref hd, .ref hf, .ref hs, .ref hp, .ref he, .ref q0, .ref q1, .ref qk, .int 1, .long fx, .int dn])), (qk, .inr (7, [.int b1, .int b2, .int b3, .long b4])), (q1, .inr (7, [.int b1, .int b2, .int b3, .long b4]))] H := hP
  have hD : va_D A [(ax, .inr (8, [.ref hd, .ref hf, .ref hs, .ref hp, .ref he, .ref q0, .ref q1, .ref qk, .int 1, .long fx, .int dn])), (qk, .inr (7, [.int b1, .int b2, .int b3, .long b4])), (q1, .inr (7, [.int b1, .int b2, .int b3, .long b4]))] := hD
  have hK : va_K (dC, dI) vwCl [] s := hK
  refine lv_aload_n hx hb dX8_comeUp_17 rfl (lv_at hl 0 rfl) ?_
  refine lv_lconst (v := 0) hx hb dX8_comeUp_18 (by decide) ?_
  refine va_put (D := (dC, dI)) (ci := 8) (v := .long 0) (ty := .long) (C := RX8) (T := TX8) (N := 11) hx hb hts k_1 tyX8 tyX8_ok nmX8 hown hK hP hD hS 0 rfl rfl 9 (by decide) k_4 (fun _ h9 => h9) rfl (by decide +kernel) rfl rfl (Nat.le_of_ble_eq_true rfl) dX8_comeUp_19 (fun H locs hP hD hS => ?_)
  have hP : va_P (dC, dI) vwCl [(ax, .inr (8, [.ref hd, .ref hf, .ref hs, .ref hp, .ref he, .ref q0, .ref q1, .ref qk, .int 1, .long 0, .int dn])), (qk, .inr (7, [.int b1, .int b2, .int b3, .long b4])), (q1, .inr (7, [.int b1, .int b2, .int b3, .long b4]))] H := hP
  have hD : va_D A [(ax, .inr (8, [.ref hd, .ref hf, .ref hs, .ref hp, .ref he, .ref q0, .ref q1, .ref qk, .int 1, .long 0, .int dn])), (qk, .inr (7, [.int b1, .int b2, .int b3, .long b4])), (q1, .inr (7, [.int b1, .int b2, .int b3, .long b4]))] := hD
  refine lv_aload_n hx hb dX8_comeUp_22 rfl (lv_at hl 0 rfl) ?_
  refine lv_iconst (v := 0) hx hb dX8_comeUp_23 (by decide) ?_
  refine va_put (D := (dC, dI)) (ci := 8) (v := .int 0) (ty := .boolean) (C := RX8) (T := TX8) (N := 11) hx hb hts k_1 tyX8 tyX8_ok nmX8 hown hK hP hD hS 0 rfl rfl 10 (by decide) k_5 (fun _ h9 => h9) rfl (by decide +kernel) rfl rfl (Nat.le_of_ble_eq_true rfl) dX8_comeUp_24 (fun H locs hP hD hS => ?_)
  have hP : va_P (dC, dI) vwCl [(ax, .inr (8, [.ref hd, .ref hf, .ref hs, .ref hp, .ref he, .ref q0, .ref q1, .ref qk, .int 1, .long 0, .int 0])), (qk, .inr (7, [.int b1, .int b2, .int b3, .long b4])), (q1, .inr (7, [.int b1, .int b2, .int b3, .long b4]))] H := hP
  have hD : va_D A [(ax, .inr (8, [.ref hd, .ref hf, .ref hs, .ref hp, .ref he, .ref q0, .ref q1, .ref qk, .int 1, .long 0, .int 0])), (qk, .inr (7, [.int b1, .int b2, .int b3, .long b4])), (q1, .inr (7, [.int b1, .int b2, .int b3, .long b4]))] := hD
  have hP9 := hP.sub (ws' := [(ax, .inr (8, [.ref hd, .ref hf, .ref hs, .ref hp, .ref he, .ref q0, .ref q1, .ref qk, .int 1, .long 0, .int 0])), (q1, .inr (7, [.int b1, .int b2, .int b3, .long b4])), (qk, .inr (7, [.int b1, .int b2, .int b3, .long b4]))]) [0, 2, 1] rfl
  have hD9 := hD.sub (ws' := [(ax, .inr (8, [.ref hd, .ref hf, .ref hs, .ref hp, .ref he, .ref q0, .ref q1, .ref qk, .int 1, .long 0, .int 0])), (q1, .inr (7, [.int b1, .int b2, .int b3, .long b4])), (qk, .inr (7, [.int b1, .int b2, .int b3, .long b4]))]) [0, 2, 1] (by decide) rfl
  have hK9 := hK.sub (tys' := []) [] rfl
  exact W.vret hx hb hr (fun t ht hW => ⟨⟨(1, 0, 0, b1, b2, b3, b4), rfl, (by first | assumption | exact hw.2 | exact hw.2.1 | exact hw | exact Or.inl rfl | exact Or.inr rfl), by rw [ht]; exact hP9, va_K.moved hW.alike hK9, hD9⟩, hS.F ht⟩) hS.2.2 dX8_comeUp_27
def v_X8_format : List Cond := .code yX8_format cX8_format 1 none :: ([.fieldLink RX8 28 "TwinRoots" "disk" "LTwinRoots$Disk;", .code yX0_setCut cX0_setCut 3 none, .code Lib.Math.max.name Lib.Math.max.code 2 (some .int), .methodLink RX0 26 Lib.Math.max.name, .static Lib.Math.max.name, .initialized "java/lang/Math", .fieldLink RX0 23 "TwinRoots$Disk" "writesAhead" "I", .fieldLink RX0 7 "TwinRoots$Disk" "words" "I", .code Lib.Math.min.name Lib.Math.min.code 2 (some .int), .methodLink RX0 32 Lib.Math.min.name, .static Lib.Math.min.name, .fieldLink RX0 35 "TwinRoots$Disk" "wordsOfCut" "I", .methodLink RX8 81 yX0_setCut, .instanceMethod yX0_setCut, .selects RX0 yX0_setCut yX0_setCut, .initialized RX0, .fieldLink RX8 67 "TwinRoots" "rootZero" "LTwinRoots$Told;", .code yX7_tell cX7_tell 6 none, .fieldLink RX7 9 "TwinRoots$Told" "epoch" "I", .fieldLink RX7 15 "TwinRoots$Told" "top" "I", .fieldLink RX7 18 "TwinRoots$Told" "keys" "I", .fieldLink RX7 21 "TwinRoots$Told" "reach" "J", .methodLink RX8 84 yX7_tell, .instanceMethod yX7_tell, .selects RX7 yX7_tell yX7_tell, .initialized RX7, .fieldLink RX8 71 "TwinRoots" "rootOne" "LTwinRoots$Told;", .code yX8_writeRoot cX8_writeRoot 2 (some .boolean), .code yX8_told cX8_told 2 (some (.object "TwinRoots$Told")), .methodLink RX8 143 yX8_told, .instanceMethod yX8_told, .selects RX8 yX8_told yX8_told, .initialized RX8, .code yX7_layOut cX7_layOut 2 none, .code yX0_startImage cX0_startImage 2 none, .fieldLink RX0 20 "TwinRoots$Disk" "image" "[I", .methodLink RX7 29 yX0_startImage, .instanceMethod yX0_startImage, .selects RX0 yX0_startImage yX0_startImage, .constant RX7 34 (1414677326), .code yX0_lay cX0_lay 3 none, .methodLink RX7 35 yX0_lay, .instanceMethod yX0_lay, .selects RX0 yX0_lay yX0_lay, .methodLink RX8 220 yX7_layOut, .instanceMethod yX7_layOut, .selects RX7 yX7_layOut yX7_layOut, .code yX0_write cX0_write 6 (some .boolean), .code yX0_sealOf cX0_sealOf 5 (some .int), .methodLink RX0 41 yX0_sealOf, .static yX0_sealOf, .methodLink RX0 45 yX0_lay, .code yX0_cellOf cX0_cellOf 4 (some .int), .fieldLink RX0 13 "TwinRoots$Disk" "blocks" "I", .methodLink RX0 38 yX0_cellOf, .instanceMethod yX0_cellOf, .selects RX0 yX0_cellOf yX0_cellOf, .fieldLink RX0 16 "TwinRoots$Disk" "cells" "[I", .fieldLink RX0 49 "TwinRoots$Disk" "writes" "I", .methodLink RX8 224 yX0_write, .instanceMethod yX0_write, .selects RX0 yX0_write yX0_write, .methodLink RX8 88 yX8_writeRoot, .instanceMethod yX8_writeRoot, .selects RX8 yX8_writeRoot yX8_writeRoot, .code yX8_comeUp cX8_comeUp 2 none, .fieldLink RX8 140 "TwinRoots" "latest" "I", .fieldLink RX8 74 "TwinRoots" "working" "LTwinRoots$Told;", .code yX7_copy cX7_copy 2 none, .methodLink RX7 25 yX7_tell, .methodLink RX8 184 yX7_copy, .instanceMethod yX7_copy, .selects RX7 yX7_copy yX7_copy, .fieldLink RX8 99 "TwinRoots" "fresh" "J", .fieldLink RX8 77 "TwinRoots" "down" "Z", .methodLink RX8 92 yX8_comeUp, .instanceMethod yX8_comeUp, .selects RX8 yX8_comeUp yX8_comeUp] ++ (wsX80 ++ (wsX00 ++ (wsX70 ++ ([])))))
set_option maxRecDepth 20000 in
theorem g_X8_format_X0_setCut : GoodIn v_X8_format (wsV RX8 81 RX0 yX0_setCut v_X0_setCut) := goodIn_r _ [13, 14, 15, 16, 2, 3, 4, 5, 6, 7, 8, 9, 10, 11, 12, 90, 91, 92, 93, 94, 95, 96] (by decide +kernel) (by decide +kernel)
set_option maxRecDepth 20000 in
theorem g_X8_format_X7_tell : GoodIn v_X8_format (wsV RX8 84 RX7 yX7_tell v_X7_tell) := goodIn_r _ [23, 24, 25, 26, 18, 19, 20, 21, 22, 97, 98, 99, 100] (by decide +kernel) (by decide +kernel)
set_option maxRecDepth 20000 in
theorem g_X8_format_X8_writeRoot_0 : GoodIn v_X8_format (wsV RX8 88 RX8 yX8_writeRoot v_X8_writeRoot_0) := goodIn_r _ [63, 64, 65, 33, 28, 29, 17, 30, 31, 32, 33, 1, 34, 35, 36, 37, 38, 39, 16, 40, 41, 42, 43, 44, 19, 20, 21, 45, 46, 47, 26, 48, 8, 49, 3, 4, 5, 6, 50, 51, 52, 7, 53, 54, 55, 56, 57, 58, 59, 12, 60, 61, 62, 79, 80, 81, 82, 83, 84, 85, 86, 87, 88, 89, 90, 91, 92, 93, 94, 95, 96, 97, 98, 99, 100] (by decide +kernel) (by decide +kernel)
set_option maxRecDepth 20000 in
theorem g_X8_format_X8_writeRoot_1 : GoodIn v_X8_format (wsV RX8 88 RX8 yX8_writeRoot v_X8_writeRoot_1) := goodIn_r _ [63, 64, 65, 33, 28, 29, 27, 30, 31, 32, 33, 1, 34, 35, 36, 37, 38, 39, 16, 40, 41, 42, 43, 44, 19, 20, 21, 45, 46, 47, 26, 48, 8, 49, 3, 4, 5, 6, 50, 51, 52, 7, 53, 54, 55, 56, 57, 58, 59, 12, 60, 61, 62, 79, 80, 81, 82, 83, 84, 85, 86, 87, 88, 89, 90, 91, 92, 93, 94, 95, 96, 97, 98, 99, 100] (by decide +kernel) (by decide +kernel)
set_option maxRecDepth 20000 in
theorem g_X8_format_X8_comeUp_0 : GoodIn v_X8_format (wsV RX8 92 RX8 yX8_comeUp v_X8_comeUp_0) := goodIn_r _ [76, 77, 78, 33, 66, 67, 68, 29, 17, 30, 31, 32, 33, 69, 19, 20, 21, 22, 18, 70, 24, 25, 26, 71, 72, 73, 74, 75, 79, 80, 81, 82, 83, 84, 85, 86, 87, 88, 89, 97, 98, 99, 100] (by decide +kernel) (by decide +kernel)
set_option maxHeartbeats 4000000 in
set_option maxRecDepth 100000 in
/-- X8_format -/
theorem c_X8_format (l : Launch) (dC : Nat → ClassId) (dI : Nat → Nat → Nat) (sz : Nat) (ax : Nat) (hd : Nat) (hf : Nat) (hs : Nat) (hp : Nat) (he : Nat) (q0 : Nat) (q1 : Nat) (qk : Nat) (qc : Nat) (qi : Nat) (w : Nat) (b : Nat) (lt : Int32) (dn : Int32) (wr : Int32) (wa : Int32) (wc : Int32) (a1 : Int32) (a2 : Int32) (a3 : Int32) (b1 : Int32) (b2 : Int32) (b3 : Int32) (c1 : Int32) (c2 : Int32) (c3 : Int32) (fx : Int64) (a4 : Int64) (b4 : Int64) (c4 : Int64) (fc : Nat → Int32) (gi : Nat → Int32) (cI : ClassId) (zw0 : 12 ≤ w) (zw : w ≤ 40) (zb0 : 4 ≤ b) (zb : b ≤ 64) (zwb : w * b ≤ 2560) : Met l yX8_format v_X8_format ({ frames := 4, cells := 0, slots := 0, locals := 83 } : Room) (va_Pc [.ref ax] (fun U => U.heap.size = sz ∧ va_P (dC, dI) vwCl [(ax, .inr (8, [.ref hd, .ref hf, .ref hs, .ref hp, .ref he, .ref q0, .ref q1, .ref qk, .int lt, .long fx, .int dn])), (hd, .inr (0, [.int (nI w), .int (nI b), .int wr, .ref qc, .ref qi, .int wa, .int wc])), (qc, .inl (cI, w * b, .inl fc)), (qi, .inl (cI, w, .inl gi)), (q0, .inr (7, [.int a1, .int a2, .int a3, .long a4])), (q1, .inr (7, [.int b1, .int b2, .int b3, .long b4])), (qk, .inr (7, [.int c1, .int c2, .int c3, .long c4]))] U.heap ∧ va_K (dC, dI) vwCl [(cI, .int)] U ∧ va_D (fun _ => True) [(ax, .inr (8, [.ref hd, .ref hf, .ref hs, .ref hp, .ref he, .ref q0, .ref q1, .ref qk, .int lt, .long fx, .int dn])), (hd, .inr (0, [.int (nI w), .int (nI b), .int wr, .ref qc, .ref qi, .int wa, .int wc])), (qc, .inl (cI, w * b, .inl fc)), (qi, .inl (cI, w, .inl gi)), (q0, .inr (7, [.int a1, .int a2, .int a3, .long a4])), (q1, .inr (7, [.int b1, .int b2, .int b3, .long b4])), (qk, .inr (7, [.int c1, .int c2, .int c3, .long c4]))])) (va_Qv (fun (u : Int32 × Int64 × Int32 × Int32 × Int32 × Int32 × (Nat → Int32) × (Nat → Int32) × Int32 × Int32 × Int32 × Int64 × Int32 × Int32 × Int32 × Int64 × Int32 × Int32 × Int32 × Int64) => match u with | (lt2, fx2, dn2, wr2, wa2, wc2, fc2, gi2, a12, a22, a32, a42, b12, b22, b32, b42, c12, c22, c32, c42) => (lt2 = 0 ∨ lt2 = 1)) (fun (u : Int32 × Int64 × Int32 × Int32 × Int32 × Int32 × (Nat → Int32) × (Nat → Int32) × Int32 × Int32 × Int32 × Int64 × Int32 × Int32 × Int32 × Int64 × Int32 × Int32 × Int32 × Int64) (t : State) => match u with | (lt2, fx2, dn2, wr2, wa2, wc2, fc2, gi2, a12, a22, a32, a42, b12, b22, b32, b42, c12, c22, c32, c42) => va_P (dC, dI) vwCl [(ax, .inr (8, [.ref hd, .ref hf, .ref hs, .ref hp, .ref he, .ref q0, .ref q1, .ref qk, .int lt2, .long fx2, .int dn2])), (hd, .inr (0, [.int (nI w), .int (nI b), .int wr2, .ref qc, .ref qi, .int wa2, .int wc2])), (qc, .inl (cI, w * b, .inl fc2)), (qi, .inl (cI, w, .inl gi2)), (q0, .inr (7, [.int a12, .int a22, .int a32, .long a42])), (q1, .inr (7, [.int b12, .int b22, .int b32, .long b42])), (qk, .inr (7, [.int c12, .int c22, .int c32, .long c42]))] t.heap ∧ va_K (dC, dI) vwCl [(cI, .int)] t ∧ va_D (va_A [(ax, .inr (8, [.ref hd, .ref hf, .ref hs, .ref hp, .ref he, .ref q0, .ref q1, .ref qk, .int lt, .long fx, .int dn])), (hd, .inr (0, [.int (nI w), .int (nI b), .int wr, .ref qc, .ref qi, .int wa, .int wc])), (qc, .inl (cI, w * b, .inl fc)), (qi, .inl (cI, w, .inl gi)), (q0, .inr (7, [.int a1, .int a2, .int a3, .long a4])), (q1, .inr (7, [.int b1, .int b2, .int b3, .long b4])), (qk, .inr (7, [.int c1, .int c2, .int c3, .long c4]))] sz) [(ax, .inr (8, [.ref hd, .ref hf, .ref hs, .ref hp, .ref he, .ref q0, .ref q1, .ref qk, .int lt2, .long fx2, .int dn2])), (hd, .inr (0, [.int (nI w), .int (nI b), .int wr2, .ref qc, .ref qi, .int wa2, .int wc2])), (qc, .inl (cI, w * b, .inl fc2)), (qi, .inl (cI, w, .inl gi2)), (q0, .inr (7, [.int a12, .int a22, .int a32, .long a42])), (q1, .inr (7, [.int b12, .int b22, .int b32, .long b42])), (qk, .inr (7, [.int c12, .int c22, .int c32, .long c42]))]) (va_A [(ax, .inr (8, [.ref hd, .ref hf, .ref hs, .ref hp, .ref he, .ref q0, .ref q1, .ref qk, .int lt, .long fx, .int dn])), (hd, .inr (0, [.int (nI w), .int (nI b), .int wr, .ref qc, .ref qi, .int wa, .int wc])), (qc, .inl (cI, w * b, .inl fc)), (qi, .inl (cI, w, .inl gi)), (q0, .inr (7, [.int a1, .int a2, .int a3, .long a4])), (q1, .inr (7, [.int b1, .int b2, .int b3, .long b4])), (qk, .inr (7, [.int c1, .int c2, .int c3, .long c4]))] sz)) 0 0 (va_A [(ax, .inr (8, [.ref hd, .ref hf, .ref hs, .ref hp, .ref he, .ref q0, .ref q1, .ref qk, .int lt, .long fx, .int dn])), (hd, .inr (0, [.int (nI w), .int (nI b), .int wr, .ref qc, .ref qi, .int wa, .int wc])), (qc, .inl (cI, w * b, .inl fc)), (qi, .inl (cI, w, .inl gi)), (q0, .inr (7, [.int a1, .int a2, .int a3, .long a4])), (q1, .inr (7, [.int b1, .int b2, .int b3, .long b4])), (qk, .inr (7, [.int c1, .int c2, .int c3, .long c4]))] sz) := by
  refine Met.ofW (cc := cX8_format) (maxL := 1) (ret := none) (by decide) rfl ?_
  intro p e s m args below meth c s₁ B hml hv
  obtain ⟨rfl, hsz, hP, hK, hD0⟩ := hv
  have hx := B.exec
  have hb := B.bytes
  have hr := B.returns
  have hts := atoms_spec (ws := v_X8_format) B.pre
  have hown : s.vm.findClass RX8 = some m.cls := findClass_of_methodNamed B.named
  have hlocks := B.notSynchronized
  subst hsz
  have hD := hD0.self (sz := s.heap.size)
  generalize hAe : va_A [(ax, .inr (8, [.ref hd, .ref hf, .ref hs, .ref hp, .ref he, .ref q0, .ref q1, .ref qk, .int lt, .long fx, .int dn])), (hd, .inr (0, [.int (nI w), .int (nI b), .int wr, .ref qc, .ref qi, .int wa, .int wc])), (qc, .inl (cI, w * b, .inl fc)), (qi, .inl (cI, w, .inl gi)), (q0, .inr (7, [.int a1, .int a2, .int a3, .long a4])), (q1, .inr (7, [.int b1, .int b2, .int b3, .long b4])), (qk, .inr (7, [.int c1, .int c2, .int c3, .long c4]))] s.heap.size = A at hD ⊢
  have hA : ∀ q : Nat, s.heap.size ≤ q → A q := fun q h => by rw [← hAe]; exact Or.inr h
  have hS : va_S A s.heap s.heap [] := va_S.rf
  have hP : va_P (dC, dI) vwCl [(ax, .inr (8, [.ref hd, .ref hf, .ref hs, .ref hp, .ref he, .ref q0, .ref q1, .ref qk, .int lt, .long fx, .int dn])), (hd, .inr (0, [.int (nI w), .int (nI b), .int wr, .ref qc, .ref qi, .int wa, .int wc])), (qc, .inl (cI, w * b, .inl fc)), (qi, .inl (cI, w, .inl gi)), (q0, .inr (7, [.int a1, .int a2, .int a3, .long a4])), (q1, .inr (7, [.int b1, .int b2, .int b3, .long b4])), (qk, .inr (7, [.int c1, .int c2, .int c3, .long c4]))] s.heap := hP
  have hl := lv_entry ([.ref ax]) (n := 1) (Nat.le_of_ble_eq_true rfl)
  rw [lg_entry_eq]
  generalize (lg_sl ([.ref ax]) ++ List.replicate (1 - (lg_sl ([.ref ax])).length) Slot.unset).toArray = ls at hl ⊢
  have hl : lv_has ls 1 [(0, .ref ax)] := hl
  have k_1 := (fun _ h => List.mem_cons_of_mem _ (List.mem_append_right _ (List.mem_append_left _ h)) : ∀ w ∈ wsX80, w ∈ v_X8_format)
  have k_2 := hts (.fieldLink RX8 28 "TwinRoots" "disk" "LTwinRoots$Disk;") (List.mem_of_getElem? (i := 1) rfl)
  have k_3 := hts (.fieldLink RX8 67 "TwinRoots" "rootZero" "LTwinRoots$Told;") (List.mem_of_getElem? (i := 17) rfl)
  have k_4 := hts (.fieldLink RX8 71 "TwinRoots" "rootOne" "LTwinRoots$Told;") (List.mem_of_getElem? (i := 27) rfl)
  refine lv_aload_n hx hb dX8_format_0 rfl (lv_at hl 0 rfl) ?_
  refine va_get (D := (dC, dI)) (ci := 8) (v := .ref hd) (C := RX8) (T := TX8) (N := 11) hx hb hts k_1 hown hK hP 0 rfl rfl 0 (by decide) k_2 (fun _ h9 => h9) rfl dX8_format_1 ?_
  refine lv_iconst (v := -1) hx hb dX8_format_4 (by decide) ?_
  refine lv_iconst (v := 0) hx hb dX8_format_5 (by decide) ?_
  have hPc := hP.sub (ws' := [(hd, .inr (0, [.int (nI w), .int (nI b), .int wr, .ref qc, .ref qi, .int wa, .int wc]))]) [1] rfl
  have hDc := hD.sub (ws' := [(hd, .inr (0, [.int (nI w), .int (nI b), .int wr, .ref qc, .ref qi, .int wa, .int wc]))]) [1] (by decide) rfl
  have hKc := hK.sub (tys' := []) [] rfl
  have hFc := va_free (wc := [(hd, .inr (0, [.int (nI w), .int (nI b), .int wr, .ref qc, .ref qi, .int wa, .int wc]))]) hD hS hA [1] rfl
  refine va_callv (va_runV (As := [.int (-1), .int 0]) (rest := []) ⟨hx, hb, hml, hown, hts⟩ (c_X0_setCut l dC dI s.heap.size hd w b qc qi wr wa wc (-1) 0) (cwV 2 hts g_X8_format_X0_setCut rfl rfl rfl (by decide +kernel) ⟨Nat.le_of_ble_eq_true rfl, Nat.le_of_ble_eq_true rfl⟩) ⟨fun a U g mk q => by obtain ⟨q0, q1, qP, qK, qD⟩ := q; exact ⟨q0, q1, qP, va_K.moved (u := U) (U := U.calling g mk a) (Vm.Alike.refl U.vm) qK, qD⟩, va_recv hKc hPc (ci := 0) (q0 := 0) rfl rfl, fun U hU hW => ⟨rfl, by rw [hU], by rw [hU]; exact hPc, va_K.moved hW.alike hKc, hDc.weaken (fun _ _ _ _ => trivial)⟩⟩ rfl rfl hl.1 rfl (lv_room (Nat.le_of_ble_eq_true rfl)) dX8_format_6 ⟨(show 0 + 0 ≤ 0 by omega), (show 0 + 0 ≤ 0 by omega)⟩) hS (fun q _ h => hFc q h) hFc (fun u t H1 locs ht hvm hw hB hz1 hk1 hS => ?_)
  obtain ⟨wa2_2, wc2_3⟩ := u
  obtain ⟨hP1, hK1, hD1⟩ := hB
  rw [ht] at hP1
  have hK1 := va_K.moved hvm.symm hK1
  try dsimp only at hw
  obtain ⟨hP, hD⟩ := va_join (wr := [(ax, .inr (8, [.ref hd, .ref hf, .ref hs, .ref hp, .ref he, .ref q0, .ref q1, .ref qk, .int lt, .long fx, .int dn])), (qc, .inl (cI, w * b, .inl fc)), (qi, .inl (cI, w, .inl gi)), (q0, .inr (7, [.int a1, .int a2, .int a3, .long a4])), (q1, .inr (7, [.int b1, .int b2, .int b3, .long b4])), (qk, .inr (7, [.int c1, .int c2, .int c3, .long c4]))]) (w1 := [(hd, .inr (0, [.int (nI w), .int (nI b), .int wr, .ref qc, .ref qi, .int wa2_2, .int wc2_3]))]) hP hD [1] [0, 2, 3, 4, 5, 6] rfl rfl (by decide) (by decide) hk1 hFc hP1 hD1
  have hK := (hK.sub (tys' := [(cI, .int)]) [0] rfl).app hK1
  generalize H1 = H at hP hS ⊢
  have hP : va_P (dC, dI) vwCl [(ax, .inr (8, [.ref hd, .ref hf, .ref hs, .ref hp, .ref he, .ref q0, .ref q1, .ref qk, .int lt, .long fx, .int dn])), (qc, .inl (cI, w * b, .inl fc)), (qi, .inl (cI, w, .inl gi)), (q0, .inr (7, [.int a1, .int a2, .int a3, .long a4])), (q1, .inr (7, [.int b1, .int b2, .int b3, .long b4])), (qk, .inr (7, [.int c1, .int c2, .int c3, .long c4])), (hd, .inr (0, [.int (nI w), .int (nI b), .int wr, .ref qc, .ref qi, .int wa2_2, .int wc2_3]))] H := hP
  have hD : va_D A [(ax, .inr (8, [.ref hd, .ref hf, .ref hs, .ref hp, .ref he, .ref q0, .ref q1, .ref qk, .int lt, .long fx, .int dn])), (qc, .inl (cI, w * b, .inl fc)), (qi, .inl (cI, w, .inl gi)), (q0, .inr (7, [.int a1, .int a2, .int a3, .long a4])), (q1, .inr (7, [.int b1, .int b2, .int b3, .long b4])), (qk, .inr (7, [.int c1, .int c2, .int c3, .long c4])), (hd, .inr (0, [.int (nI w), .int (nI b), .int wr, .ref qc, .ref qi, .int wa2_2, .int wc2_3]))] := hD
  have hK : va_K (dC, dI) vwCl [(cI, .int)] s := hK
  refine lv_aload_n hx hb dX8_format_9 rfl (lv_at hl 0 rfl) ?_
  refine va_get (D := (dC, dI)) (ci := 8) (v := .ref q0) (C := RX8) (T := TX8) (N := 11) hx hb hts k_1 hown hK hP 0 rfl rfl 5 (by decide) k_3 (fun _ h9 => h9) rfl dX8_format_10 ?_
  refine lv_iconst (v := 0) hx hb dX8_format_13 (by decide) ?_
  refine lv_iconst (v := 0) hx hb dX8_format_14 (by decide) ?_
  refine lv_iconst (v := 0) hx hb dX8_format_15 (by decide) ?_
  refine lv_lconst (v := 0) hx hb dX8_format_16 (by decide) ?_
  have hPc := hP.sub (ws' := [(q0, .inr (7, [.int a1, .int a2, .int a3, .long a4]))]) [3] rfl
  have hDc := hD.sub (ws' := [(q0, .inr (7, [.int a1, .int a2, .int a3, .long a4]))]) [3] (by decide) rfl
  have hKc := hK.sub (tys' := []) [] rfl
  have hFc := va_free (wc := [(q0, .inr (7, [.int a1, .int a2, .int a3, .long a4]))]) hD hS hA [3] rfl
  refine va_callv (va_runV (As := [.int 0, .int 0, .int 0, .long 0]) (rest := []) ⟨hx, hb, hml, hown, hts⟩ (c_X7_tell l dC dI H.size q0 a1 a2 a3 a4 0 0 0 0) (cwV 4 hts g_X8_format_X7_tell rfl rfl rfl (by decide +kernel) ⟨Nat.le_of_ble_eq_true rfl, Nat.le_of_ble_eq_true rfl⟩) ⟨fun a U g mk q => by obtain ⟨q0, q1, qP, qK, qD⟩ := q; exact ⟨q0, q1, qP, va_K.moved (u := U) (U := U.calling g mk a) (Vm.Alike.refl U.vm) qK, qD⟩, va_recv hKc hPc (ci := 7) (q0 := 0) rfl rfl, fun U hU hW => ⟨rfl, by rw [hU], by rw [hU]; exact hPc, va_K.moved hW.alike hKc, hDc.weaken (fun _ _ _ _ => trivial)⟩⟩ rfl rfl hl.1 rfl (lv_room (Nat.le_of_ble_eq_true rfl)) dX8_format_17 ⟨(show 0 + 0 ≤ 0 by omega), (show 0 + 0 ≤ 0 by omega)⟩) hS (fun q _ h => hFc q h) hFc (fun u t H1 locs ht hvm hw hB hz1 hk1 hS => ?_)
  obtain ⟨hP1, hK1, hD1⟩ := hB
  rw [ht] at hP1
  have hK1 := va_K.moved hvm.symm hK1
  try dsimp only at hw
  obtain ⟨hP, hD⟩ := va_join (wr := [(ax, .inr (8, [.ref hd, .ref hf, .ref hs, .ref hp, .ref he, .ref q0, .ref q1, .ref qk, .int lt, .long fx, .int dn])), (qc, .inl (cI, w * b, .inl fc)), (qi, .inl (cI, w, .inl gi)), (q1, .inr (7, [.int b1, .int b2, .int b3, .long b4])), (qk, .inr (7, [.int c1, .int c2, .int c3, .long c4])), (hd, .inr (0, [.int (nI w), .int (nI b), .int wr, .ref qc, .ref qi, .int wa2_2, .int wc2_3]))]) (w1 := [(q0, .inr (7, [.int 0, .int 0, .int 0, .long 0]))]) hP hD [3] [0, 1, 2, 4, 5, 6] rfl rfl (by decide) (by decide) hk1 hFc hP1 hD1
  have hK := (hK.sub (tys' := [(cI, .int)]) [0] rfl).app hK1
  generalize H1 = H at hP hS ⊢
  have hP : va_P (dC, dI) vwCl [(ax, .inr (8, [.ref hd, .ref hf, .ref hs, .ref hp, .ref he, .ref q0, .ref q1, .ref qk, .int lt, .long fx, .int dn])), (qc, .inl (cI, w * b, .inl fc)), (qi, .inl (cI, w, .inl gi)), (q1, .inr (7, [.int b1, .int b2, .int b3, .long b4])), (qk, .inr (7, [.int c1, .int c2, .int c3, .long c4])), (hd, .inr (0, [.int (nI w), .int (nI b), .int wr, .ref qc, .ref qi, .int wa2_2, .int wc2_3])), (q0, .inr (7, [.int 0, .int 0, .int 0, .long 0]))] H := hP
  have hD : va_D A [(ax, .inr (8, [.ref hd, .ref hf, .ref hs, .ref hp, .ref he, .ref q0, .ref q1, .ref qk, .int lt, .long fx, .int dn])), (qc, .inl (cI, w * b, .inl fc)), (qi, .inl (cI, w, .inl gi)), (q1, .inr (7, [.int b1, .int b2, .int b3, .long b4])), (qk, .inr (7, [.int c1, .int c2, .int c3, .long c4])), (hd, .inr (0, [.int (nI w), .int (nI b), .int wr, .ref qc, .ref qi, .int wa2_2, .int wc2_3])), (q0, .inr (7, [.int 0, .int 0, .int 0, .long 0]))] := hD
  have hK : va_K (dC, dI) vwCl [(cI, .int)] s := hK
  refine lv_aload_n hx hb dX8_format_20 rfl (lv_at hl 0 rfl) ?_
  refine va_get (D := (dC, dI)) (ci := 8) (v := .ref q1) (C := RX8) (T := TX8) (N := 11) hx hb hts k_1 hown hK hP 0 rfl rfl 6 (by decide) k_4 (fun _ h9 => h9) rfl dX8_format_21 ?_
  refine lv_iconst (v := 0) hx hb dX8_format_24 (by decide) ?_
  refine lv_iconst (v := 0) hx hb dX8_format_25 (by decide) ?_
  refine lv_iconst (v := 0) hx hb dX8_format_26 (by decide) ?_
  refine lv_lconst (v := 0) hx hb dX8_format_27 (by decide) ?_
  have hPc := hP.sub (ws' := [(q1, .inr (7, [.int b1, .int b2, .int b3, .long b4]))]) [3] rfl
  have hDc := hD.sub (ws' := [(q1, .inr (7, [.int b1, .int b2, .int b3, .long b4]))]) [3] (by decide) rfl
  have hKc := hK.sub (tys' := []) [] rfl
  have hFc := va_free (wc := [(q1, .inr (7, [.int b1, .int b2, .int b3, .long b4]))]) hD hS hA [3] rfl
  refine va_callv (va_runV (As := [.int 0, .int 0, .int 0, .long 0]) (rest := []) ⟨hx, hb, hml, hown, hts⟩ (c_X7_tell l dC dI H.size q1 b1 b2 b3 b4 0 0 0 0) (cwV 4 hts g_X8_format_X7_tell rfl rfl rfl (by decide +kernel) ⟨Nat.le_of_ble_eq_true rfl, Nat.le_of_ble_eq_true rfl⟩) ⟨fun a U g mk q => by obtain ⟨q0, q1, qP, qK, qD⟩ := q; exact ⟨q0, q1, qP, va_K.moved (u := U) (U := U.calling g mk a) (Vm.Alike.refl U.vm) qK, qD⟩, va_recv hKc hPc (ci := 7) (q0 := 0) rfl rfl, fun U hU hW => ⟨rfl, by rw [hU], by rw [hU]; exact hPc, va_K.moved hW.alike hKc, hDc.weaken (fun _ _ _ _ => trivial)⟩⟩ rfl rfl hl.1 rfl (lv_room (Nat.le_of_ble_eq_true rfl)) dX8_format_28 ⟨(show 0 + 0 ≤ 0 by omega), (show 0 + 0 ≤ 0 by omega)⟩) hS (fun q _ h => hFc q h) hFc (fun u t H1 locs ht hvm hw hB hz1 hk1 hS => ?_)
  obtain ⟨hP1, hK1, hD1⟩ := hB
  rw [ht] at hP1
  have hK1 := va_K.moved hvm.symm hK1
  try dsimp only at hw
  obtain ⟨hP, hD⟩ := va_join (wr := [(ax, .inr (8, [.ref hd, .ref hf, .ref hs, .ref hp, .ref he, .ref q0, .ref q1, .ref qk, .int lt, .long fx, .int dn])), (qc, .inl (cI, w * b, .inl fc)), (qi, .inl (cI, w, .inl gi)), (qk, .inr (7, [.int c1, .int c2, .int c3, .long c4])), (hd, .inr (0, [.int (nI w), .int (nI b), .int wr, .ref qc, .ref qi, .int wa2_2, .int wc2_3])), (q0, .inr (7, [.int 0, .int 0, .int 0, .long 0]))]) (w1 := [(q1, .inr (7, [.int 0, .int 0, .int 0, .long 0]))]) hP hD [3] [0, 1, 2, 4, 5, 6] rfl rfl (by decide) (by decide) hk1 hFc hP1 hD1
  have hK := (hK.sub (tys' := [(cI, .int)]) [0] rfl).app hK1
  generalize H1 = H at hP hS ⊢
  have hP : va_P (dC, dI) vwCl [(ax, .inr (8, [.ref hd, .ref hf, .ref hs, .ref hp, .ref he, .ref q0, .ref q1, .ref qk, .int lt, .long fx, .int dn])), (qc, .inl (cI, w * b, .inl fc)), (qi, .inl (cI, w, .inl gi)), (qk, .inr (7, [.int c1, .int c2, .int c3, .long c4])), (hd, .inr (0, [.int (nI w), .int (nI b), .int wr, .ref qc, .ref qi, .int wa2_2, .int wc2_3])), (q0, .inr (7, [.int 0, .int 0, .int 0, .long 0])), (q1, .inr (7, [.int 0, .int 0, .int 0, .long 0]))] H := hP
  have hD : va_D A [(ax, .inr (8, [.ref hd, .ref hf, .ref hs, .ref hp, .ref he, .ref q0, .ref q1, .ref qk, .int lt, .long fx, .int dn])), (qc, .inl (cI, w * b, .inl fc)), (qi, .inl (cI, w, .inl gi)), (qk, .inr (7, [.int c1, .int c2, .int c3, .long c4])), (hd, .inr (0, [.int (nI w), .int (nI b), .int wr, .ref qc, .ref qi, .int wa2_2, .int wc2_3])), (q0, .inr (7, [.int 0, .int 0, .int 0, .long 0])), (q1, .inr (7, [.int 0, .int 0, .int 0, .long 0]))] := hD
  have hK : va_K (dC, dI) vwCl [(cI, .int)] s := hK
  refine lv_aload_n hx hb dX8_format_31 rfl (lv_at hl 0 rfl) ?_
  refine lv_iconst (v := 0) hx hb dX8_format_32 (by decide) ?_
  have hPc := hP.sub (ws' := [(ax, .inr (8, [.ref hd, .ref hf, .ref hs, .ref hp, .ref he, .ref q0, .ref q1, .ref qk, .int lt, .long fx, .int dn])), (hd, .inr (0, [.int (nI w), .int (nI b), .int wr, .ref qc, .ref qi, .int wa2_2, .int wc2_3])), (qc, .inl (cI, w * b, .inl fc)), (qi, .inl (cI, w, .inl gi)), (q0, .inr (7, [.int 0, .int 0, .int 0, .long 0]))]) [0, 4, 1, 2, 5] rfl
  have hDc := hD.sub (ws' := [(ax, .inr (8, [.ref hd, .ref hf, .ref hs, .ref hp, .ref he, .ref q0, .ref q1, .ref qk, .int lt, .long fx, .int dn])), (hd, .inr (0, [.int (nI w), .int (nI b), .int wr, .ref qc, .ref qi, .int wa2_2, .int wc2_3])), (qc, .inl (cI, w * b, .inl fc)), (qi, .inl (cI, w, .inl gi)), (q0, .inr (7, [.int 0, .int 0, .int 0, .long 0]))]) [0, 4, 1, 2, 5] (by decide) rfl
  have hKc := hK.sub (tys' := [(cI, .int)]) [0] rfl
  have hFc := va_free (wc := [(ax, .inr (8, [.ref hd, .ref hf, .ref hs, .ref hp, .ref he, .ref q0, .ref q1, .ref qk, .int lt, .long fx, .int dn])), (hd, .inr (0, [.int (nI w), .int (nI b), .int wr, .ref qc, .ref qi, .int wa2_2, .int wc2_3])), (qc, .inl (cI, w * b, .inl fc)), (qi, .inl (cI, w, .inl gi)), (q0, .inr (7, [.int 0, .int 0, .int 0, .long 0]))]) hD hS hA [0, 4, 1, 2, 5] rfl
  refine va_calli (va_runV (As := [.int 0]) (rest := []) ⟨hx, hb, hml, hown, hts⟩ (c_X8_writeRoot_0 l dC dI H.size ax hd hf hs hp he q0 q1 qk qc qi w b lt dn wr wa2_2 wc2_3 0 0 0 fx 0 fc gi cI (by first | assumption | omega | decide) (by first | assumption | omega | decide) (by first | assumption | omega | decide) (by first | assumption | omega | decide) (by first | assumption | omega | decide)) (cwV 1 hts g_X8_format_X8_writeRoot_0 rfl rfl rfl (by decide +kernel) ⟨Nat.le_of_ble_eq_true rfl, Nat.le_of_ble_eq_true rfl⟩) ⟨fun a U g mk q => by obtain ⟨q0, q1, qP, qK, qD⟩ := q; exact ⟨q0, q1, qP, va_K.moved (u := U) (U := U.calling g mk a) (Vm.Alike.refl U.vm) qK, qD⟩, va_recv hKc hPc (ci := 8) (q0 := 0) rfl rfl, fun U hU hW => ⟨rfl, by rw [hU], by rw [hU]; exact hPc, va_K.moved hW.alike hKc, hDc.weaken (fun _ _ _ _ => trivial)⟩⟩ rfl rfl hl.1 rfl (lv_room (Nat.le_of_ble_eq_true rfl)) dX8_format_33 ⟨(show 0 + 0 ≤ 0 by omega), (show 0 + 0 ≤ 0 by omega)⟩) hS (fun q _ h => hFc q h) hFc (fun r_6 u t H1 locs ht hvm hw hB hz1 hk1 hS => ?_)
  obtain ⟨wr2_7, wa2_8, wc2_9, fc2_10, gi2_11⟩ := u
  obtain ⟨hP1, hK1, hD1⟩ := hB
  rw [ht] at hP1
  have hK1 := va_K.moved hvm.symm hK1
  try dsimp only at hw
  obtain ⟨hP, hD⟩ := va_join (wr := [(qk, .inr (7, [.int c1, .int c2, .int c3, .long c4])), (q1, .inr (7, [.int 0, .int 0, .int 0, .long 0]))]) (w1 := [(ax, .inr (8, [.ref hd, .ref hf, .ref hs, .ref hp, .ref he, .ref q0, .ref q1, .ref qk, .int lt, .long fx, .int dn])), (hd, .inr (0, [.int (nI w), .int (nI b), .int wr2_7, .ref qc, .ref qi, .int wa2_8, .int wc2_9])), (qc, .inl (cI, w * b, .inl fc2_10)), (qi, .inl (cI, w, .inl gi2_11)), (q0, .inr (7, [.int 0, .int 0, .int 0, .long 0]))]) hP hD [0, 4, 1, 2, 5] [3, 6] rfl rfl (by decide) (by decide) hk1 hFc hP1 hD1
  have hK := (hK.sub (tys' := []) [] rfl).app hK1
  generalize H1 = H at hP hS ⊢
  have hP : va_P (dC, dI) vwCl [(qk, .inr (7, [.int c1, .int c2, .int c3, .long c4])), (q1, .inr (7, [.int 0, .int 0, .int 0, .long 0])), (ax, .inr (8, [.ref hd, .ref hf, .ref hs, .ref hp, .ref he, .ref q0, .ref q1, .ref qk, .int lt, .long fx, .int dn])), (hd, .inr (0, [.int (nI w), .int (nI b), .int wr2_7, .ref qc, .ref qi, .int wa2_8, .int wc2_9])), (qc, .inl (cI, w * b, .inl fc2_10)), (qi, .inl (cI, w, .inl gi2_11)), (q0, .inr (7, [.int 0, .int 0, .int 0, .long 0]))] H := hP
  have hD : va_D A [(qk, .inr (7, [.int c1, .int c2, .int c3, .long c4])), (q1, .inr (7, [.int 0, .int 0, .int 0, .long 0])), (ax, .inr (8, [.ref hd, .ref hf, .ref hs, .ref hp, .ref he, .ref q0, .ref q1, .ref qk, .int lt, .long fx, .int dn])), (hd, .inr (0, [.int (nI w), .int (nI b), .int wr2_7, .ref qc, .ref qi, .int wa2_8, .int wc2_9])), (qc, .inl (cI, w * b, .inl fc2_10)), (qi, .inl (cI, w, .inl gi2_11)), (q0, .inr (7, [.int 0, .int 0, .int 0, .long 0]))] := hD
  have hK : va_K (dC, dI) vwCl [(cI, .int)] s := hK
  have hw_r_6 := hw
  refine lv_pop hx hb dX8_format_36 rfl ?_
  refine lv_aload_n hx hb dX8_format_37 rfl (lv_at hl 0 rfl) ?_
  refine lv_iconst (v := 1) hx hb dX8_format_38 (by decide) ?_
  have hPc := hP.sub (ws' := [(ax, .inr (8, [.ref hd, .ref hf, .ref hs, .ref hp, .ref he, .ref q0, .ref q1, .ref qk, .int lt, .long fx, .int dn])), (hd, .inr (0, [.int (nI w), .int (nI b), .int wr2_7, .ref qc, .ref qi, .int wa2_8, .int wc2_9])), (qc, .inl (cI, w * b, .inl fc2_10)), (qi, .inl (cI, w, .inl gi2_11)), (q1, .inr (7, [.int 0, .int 0, .int 0, .long 0]))]) [2, 3, 4, 5, 1] rfl
  have hDc := hD.sub (ws' := [(ax, .inr (8, [.ref hd, .ref hf, .ref hs, .ref hp, .ref he, .ref q0, .ref q1, .ref qk, .int lt, .long fx, .int dn])), (hd, .inr (0, [.int (nI w), .int (nI b), .int wr2_7, .ref qc, .ref qi, .int wa2_8, .int wc2_9])), (qc, .inl (cI, w * b, .inl fc2_10)), (qi, .inl (cI, w, .inl gi2_11)), (q1, .inr (7, [.int 0, .int 0, .int 0, .long 0]))]) [2, 3, 4, 5, 1] (by decide) rfl
  have hKc := hK.sub (tys' := [(cI, .int)]) [0] rfl
  have hFc := va_free (wc := [(ax, .inr (8, [.ref hd, .ref hf, .ref hs, .ref hp, .ref he, .ref q0, .ref q1, .ref qk, .int lt, .long fx, .int dn])), (hd, .inr (0, [.int (nI w), .int (nI b), .int wr2_7, .ref qc, .ref qi, .int wa2_8, .int wc2_9])), (qc, .inl (cI, w * b, .inl fc2_10)), (qi, .inl (cI, w, .inl gi2_11)), (q1, .inr (7, [.int 0, .int 0, .int 0, .long 0]))]) hD hS hA [2, 3, 4, 5, 1] rfl
  refine va_calli (va_runV (As := [.int 1]) (rest := []) ⟨hx, hb, hml, hown, hts⟩ (c_X8_writeRoot_1 l dC dI H.size ax hd hf hs hp he q0 q1 qk qc qi w b lt dn wr2_7 wa2_8 wc2_9 0 0 0 fx 0 fc2_10 gi2_11 cI (by first | assumption | omega | decide) (by first | assumption | omega | decide) (by first | assumption | omega | decide) (by first | assumption | omega | decide) (by first | assumption | omega | decide)) (cwV 1 hts g_X8_format_X8_writeRoot_1 rfl rfl rfl (by decide +kernel) ⟨Nat.le_of_ble_eq_true rfl, Nat.le_of_ble_eq_true rfl⟩) ⟨fun a U g mk q => by obtain ⟨q0, q1, qP, qK, qD⟩ := q; exact ⟨q0, q1, qP, va_K.moved (u := U) (U := U.calling g mk a) (Vm.Alike.refl U.vm) qK, qD⟩, va_recv hKc hPc (ci := 8) (q0 := 0) rfl rfl, fun U hU hW => ⟨rfl, by rw [hU], by rw [hU]; exact hPc, va_K.moved hW.alike hKc, hDc.weaken (fun _ _ _ _ => trivial)⟩⟩ rfl rfl hl.1 rfl (lv_room (Nat.le_of_ble_eq_true rfl)) dX8_format_39 ⟨(show 0 + 0 ≤ 0 by omega), (show 0 + 0 ≤ 0 by omega)⟩) hS (fun q _ h => hFc q h) hFc (fun r_12 u t H1 locs ht hvm hw hB hz1 hk1 hS => ?_)
  obtain ⟨wr2_13, wa2_14, wc2_15, fc2_16, gi2_17⟩ := u
  obtain ⟨hP1, hK1, hD1⟩ := hB
  rw [ht] at hP1
  have hK1 := va_K.moved hvm.symm hK1
  try dsimp only at hw
  obtain ⟨hP, hD⟩ := va_join (wr := [(qk, .inr (7, [.int c1, .int c2, .int c3, .long c4])), (q0, .inr (7, [.int 0, .int 0, .int 0, .long 0]))]) (w1 := [(ax, .inr (8, [.ref hd, .ref hf, .ref hs, .ref hp, .ref he, .ref q0, .ref q1, .ref qk, .int lt, .long fx, .int dn])), (hd, .inr (0, [.int (nI w), .int (nI b), .int wr2_13, .ref qc, .ref qi, .int wa2_14, .int wc2_15])), (qc, .inl (cI, w * b, .inl fc2_16)), (qi, .inl (cI, w, .inl gi2_17)), (q1, .inr (7, [.int 0, .int 0, .int 0, .long 0]))]) hP hD [2, 3, 4, 5, 1] [0, 6] rfl rfl (by decide) (by decide) hk1 hFc hP1 hD1
  have hK := (hK.sub (tys' := []) [] rfl).app hK1
  generalize H1 = H at hP hS ⊢
  have hP : va_P (dC, dI) vwCl [(qk, .inr (7, [.int c1, .int c2, .int c3, .long c4])), (q0, .inr (7, [.int 0, .int 0, .int 0, .long 0])), (ax, .inr (8, [.ref hd, .ref hf, .ref hs, .ref hp, .ref he, .ref q0, .ref q1, .ref qk, .int lt, .long fx, .int dn])), (hd, .inr (0, [.int (nI w), .int (nI b), .int wr2_13, .ref qc, .ref qi, .int wa2_14, .int wc2_15])), (qc, .inl (cI, w * b, .inl fc2_16)), (qi, .inl (cI, w, .inl gi2_17)), (q1, .inr (7, [.int 0, .int 0, .int 0, .long 0]))] H := hP
  have hD : va_D A [(qk, .inr (7, [.int c1, .int c2, .int c3, .long c4])), (q0, .inr (7, [.int 0, .int 0, .int 0, .long 0])), (ax, .inr (8, [.ref hd, .ref hf, .ref hs, .ref hp, .ref he, .ref q0, .ref q1, .ref qk, .int lt, .long fx, .int dn])), (hd, .inr (0, [.int (nI w), .int (nI b), .int wr2_13, .ref qc, .ref qi, .int wa2_14, .int wc2_15])), (qc, .inl (cI, w * b, .inl fc2_16)), (qi, .inl (cI, w, .inl gi2_17)), (q1, .inr (7, [.int 0, .int 0, .int 0, .long 0]))] := hD
  have hK : va_K (dC, dI) vwCl [(cI, .int)] s := hK
  have hw_r_12 := hw
  refine lv_pop hx hb dX8_format_42 rfl ?_
  refine lv_aload_n hx hb dX8_format_43 rfl (lv_at hl 0 rfl) ?_
  refine lv_iconst (v := 0) hx hb dX8_format_44 (by decide) ?_
  have hPc := hP.sub (ws' := [(ax, .inr (8, [.ref hd, .ref hf, .ref hs, .ref hp, .ref he, .ref q0, .ref q1, .ref qk, .int lt, .long fx, .int dn])), (q0, .inr (7, [.int 0, .int 0, .int 0, .long 0])), (qk, .inr (7, [.int c1, .int c2, .int c3, .long c4]))]) [2, 1, 0] rfl
  have hDc := hD.sub (ws' := [(ax, .inr (8, [.ref hd, .ref hf, .ref hs, .ref hp, .ref he, .ref q0, .ref q1, .ref qk, .int lt, .long fx, .int dn])), (q0, .inr (7, [.int 0, .int 0, .int 0, .long 0])), (qk, .inr (7, [.int c1, .int c2, .int c3, .long c4]))]) [2, 1, 0] (by decide) rfl
  have hKc := hK.sub (tys' := []) [] rfl
  have hFc := va_free (wc := [(ax, .inr (8, [.ref hd, .ref hf, .ref hs, .ref hp, .ref he, .ref q0, .ref q1, .ref qk, .int lt, .long fx, .int dn])), (q0, .inr (7, [.int 0, .int 0, .int 0, .long 0])), (qk, .inr (7, [.int c1, .int c2, .int c3, .long c4]))]) hD hS hA [2, 1, 0] rfl
  refine va_callv (va_runV (As := [.int 0]) (rest := []) ⟨hx, hb, hml, hown, hts⟩ (c_X8_comeUp_0 l dC dI H.size ax hd hf hs hp he q0 q1 qk lt dn 0 0 0 c1 c2 c3 fx 0 c4) (cwV 1 hts g_X8_format_X8_comeUp_0 rfl rfl rfl (by decide +kernel) ⟨Nat.le_of_ble_eq_true rfl, Nat.le_of_ble_eq_true rfl⟩) ⟨fun a U g mk q => by obtain ⟨q0, q1, qP, qK, qD⟩ := q; exact ⟨q0, q1, qP, va_K.moved (u := U) (U := U.calling g mk a) (Vm.Alike.refl U.vm) qK, qD⟩, va_recv hKc hPc (ci := 8) (q0 := 0) rfl rfl, fun U hU hW => ⟨rfl, by rw [hU], by rw [hU]; exact hPc, va_K.moved hW.alike hKc, hDc.weaken (fun _ _ _ _ => trivial)⟩⟩ rfl rfl hl.1 rfl (lv_room (Nat.le_of_ble_eq_true rfl)) dX8_format_45 ⟨(show 0 + 0 ≤ 0 by omega), (show 0 + 0 ≤ 0 by omega)⟩) hS (fun q _ h => hFc q h) hFc (fun u t H1 locs ht hvm hw hB hz1 hk1 hS => ?_)
  obtain ⟨lt2_19, fx2_20, dn2_21, c12_22, c22_23, c32_24, c42_25⟩ := u
  obtain ⟨hP1, hK1, hD1⟩ := hB
  rw [ht] at hP1
  have hK1 := va_K.moved hvm.symm hK1
  try dsimp only at hw
  obtain ⟨hP, hD⟩ := va_join (wr := [(hd, .inr (0, [.int (nI w), .int (nI b), .int wr2_13, .ref qc, .ref qi, .int wa2_14, .int wc2_15])), (qc, .inl (cI, w * b, .inl fc2_16)), (qi, .inl (cI, w, .inl gi2_17)), (q1, .inr (7, [.int 0, .int 0, .int 0, .long 0]))]) (w1 := [(ax, .inr (8, [.ref hd, .ref hf, .ref hs, .ref hp, .ref he, .ref q0, .ref q1, .ref qk, .int lt2_19, .long fx2_20, .int dn2_21])), (q0, .inr (7, [.int 0, .int 0, .int 0, .long 0])), (qk, .inr (7, [.int c12_22, .int c22_23, .int c32_24, .long c42_25]))]) hP hD [2, 1, 0] [3, 4, 5, 6] rfl rfl (by decide) (by decide) hk1 hFc hP1 hD1
  have hK := (hK.sub (tys' := [(cI, .int)]) [0] rfl).app hK1
  generalize H1 = H at hP hS ⊢
  have hP : va_P (dC, dI) vwCl [(hd, .inr (0, [.int (nI w), .int (nI b), .int wr2_13, .ref qc, .ref qi, .int wa2_14, .int wc2_15])), (qc, .inl (cI, w * b, .inl fc2_16)), (qi, .inl (cI, w, .inl gi2_17)), (q1, .inr (7, [.int 0, .int 0, .int 0, .long 0])), (ax, .inr (8, [.ref hd, .ref hf, .ref hs, .ref hp, .ref he, .ref q0, .ref q1, .ref qk, .int lt2_19, .long fx2_20, .int dn2_21])), (q0, .inr (7, [.int 0, .int 0, .int 0, .long 0])), (qk, .inr (7, [.int c12_22, .int c22_23, .int c32_24, .long c42_25]))] H := hP
  have hD : va_D A [(hd, .inr (0, [.int (nI w), .int (nI b), .int wr2_13, .ref qc, .ref qi, .int wa2_14, .int wc2_15])), (qc, .inl (cI, w * b, .inl fc2_16)), (qi, .inl (cI, w, .inl gi2_17)), (q1, .inr (7, [.int 0, .int 0, .int 0, .long 0])), (ax, .inr (8, [.ref hd, .ref hf, .ref hs, .ref hp, .ref he, .ref q0, .ref q1, .ref qk, .int lt2_19, .long fx2_20, .int dn2_21])), (q0, .inr (7, [.int 0, .int 0, .int 0, .long 0])), (qk, .inr (7, [.int c12_22, .int c22_23, .int c32_24, .long c42_25]))] := hD
  have hK : va_K (dC, dI) vwCl [(cI, .int)] s := hK
  have hw_r_18 := hw
  have hP9 := hP.sub (ws' := [(ax, .inr (8, [.ref hd, .ref hf, .ref hs, .ref hp, .ref he, .ref q0, .ref q1, .ref qk, .int lt2_19, .long fx2_20, .int dn2_21])), (hd, .inr (0, [.int (nI w), .int (nI b), .int wr2_13, .ref qc, .ref qi, .int wa2_14, .int wc2_15])), (qc, .inl (cI, w * b, .inl fc2_16)), (qi, .inl (cI, w, .inl gi2_17)), (q0, .inr (7, [.int 0, .int 0, .int 0, .long 0])), (q1, .inr (7, [.int 0, .int 0, .int 0, .long 0])), (qk, .inr (7, [.int c12_22, .int c22_23, .int c32_24, .long c42_25]))]) [4, 0, 1, 2, 5, 3, 6] rfl
  have hD9 := hD.sub (ws' := [(ax, .inr (8, [.ref hd, .ref hf, .ref hs, .ref hp, .ref he, .ref q0, .ref q1, .ref qk, .int lt2_19, .long fx2_20, .int dn2_21])), (hd, .inr (0, [.int (nI w), .int (nI b), .int wr2_13, .ref qc, .ref qi, .int wa2_14, .int wc2_15])), (qc, .inl (cI, w * b, .inl fc2_16)), (qi, .inl (cI, w, .inl gi2_17)), (q0, .inr (7, [.int 0, .int 0, .int 0, .long 0])), (q1, .inr (7, [.int 0, .int 0, .int 0, .long 0])), (qk, .inr (7, [.int c12_22, .int c22_23, .int c32_24, .long c42_25]))]) [4, 0, 1, 2, 5, 3, 6] (by decide) rfl
  have hK9 := hK.sub (tys' := [(cI, .int)]) [0] rfl
  exact W.vret hx hb hr (fun t ht hW => ⟨⟨(lt2_19, fx2_20, dn2_21, wr2_13, wa2_14, wc2_15, fc2_16, gi2_17, 0, 0, 0, 0, 0, 0, 0, 0, c12_22, c22_23, c32_24, c42_25), rfl, (by first | assumption | exact hw.2 | exact hw.2.1 | exact hw | exact Or.inl rfl | exact Or.inr rfl), by rw [ht]; exact hP9, va_K.moved hW.alike hK9, hD9⟩, hS.F ht⟩) hS.2.2 dX8_format_48
def v_X8_freeBlocks : List Cond := .code yX8_freeBlocks cX8_freeBlocks 6 (some .long) :: ([.fieldLink RX8 74 "TwinRoots" "working" "LTwinRoots$Told;", .fieldLink RX8 103 "TwinRoots$Told" "reach" "J", .fieldLink RX8 67 "TwinRoots" "rootZero" "LTwinRoots$Told;", .fieldLink RX8 71 "TwinRoots" "rootOne" "LTwinRoots$Told;", .fieldLink RX8 28 "TwinRoots" "disk" "LTwinRoots$Disk;", .fieldLink RX8 195 "TwinRoots$Disk" "blocks" "I", .code yX8_holds cX8_holds 3 (some .boolean), .code yX8_bit cX8_bit 1 (some .long), .methodLink RX8 227 yX8_bit, .static yX8_bit, .initialized RX8, .methodLink RX8 198 yX8_holds, .static yX8_holds] ++ (wsX80 ++ (wsX70 ++ (wsX00 ++ ([])))))
set_option maxRecDepth 20000 in
theorem g_X8_freeBlocks_X8_holds : GoodIn v_X8_freeBlocks (va_wsS RX8 198 yX8_holds v_X8_holds) := goodIn_r _ [12, 13, 11, 7, 8, 9, 10, 11] (by decide +kernel) (by decide +kernel)
set_option maxRecDepth 20000 in
theorem g_X8_freeBlocks_X8_bit : GoodIn v_X8_freeBlocks (va_wsS RX8 227 yX8_bit v_X8_bit) := goodIn_r _ [9, 10, 11, 8] (by decide +kernel) (by decide +kernel)
set_option maxHeartbeats 4000000 in
set_option maxRecDepth 100000 in
/-- X8_freeBlocks -/
theorem c_X8_freeBlocks (l : Launch) (dC : Nat → ClassId) (dI : Nat → Nat → Nat) (sz : Nat) (ax : Nat) (hd : Nat) (hf : Nat) (hs : Nat) (hp : Nat) (he : Nat) (q0 : Nat) (q1 : Nat) (qk : Nat) (qc : Nat) (qi : Nat) (w : Nat) (b : Nat) (lt : Int32) (dn : Int32) (wr : Int32) (wa : Int32) (wc : Int32) (a1 : Int32) (a2 : Int32) (a3 : Int32) (b1 : Int32) (b2 : Int32) (b3 : Int32) (c1 : Int32) (c2 : Int32) (c3 : Int32) (fx : Int64) (a4 : Int64) (b4 : Int64) (c4 : Int64) (zw0 : 12 ≤ w) (zw : w ≤ 40) (zb0 : 4 ≤ b) (zb : b ≤ 64) (zwb : w * b ≤ 2560) : Met l yX8_freeBlocks v_X8_freeBlocks ({ frames := 2, cells := 0, slots := 0, locals := 42 } : Room) (va_Pc [.ref ax] (fun U => U.heap.size = sz ∧ va_P (dC, dI) vwCl [(ax, .inr (8, [.ref hd, .ref hf, .ref hs, .ref hp, .ref he, .ref q0, .ref q1, .ref qk, .int lt, .long fx, .int dn])), (hd, .inr (0, [.int (nI w), .int (nI b), .int wr, .ref qc, .ref qi, .int wa, .int wc])), (q0, .inr (7, [.int a1, .int a2, .int a3, .long a4])), (q1, .inr (7, [.int b1, .int b2, .int b3, .long b4])), (qk, .inr (7, [.int c1, .int c2, .int c3, .long c4]))] U.heap ∧ va_K (dC, dI) vwCl [] U ∧ va_D (fun _ => True) [(ax, .inr (8, [.ref hd, .ref hf, .ref hs, .ref hp, .ref he, .ref q0, .ref q1, .ref qk, .int lt, .long fx, .int dn])), (hd, .inr (0, [.int (nI w), .int (nI b), .int wr, .ref qc, .ref qi, .int wa, .int wc])), (q0, .inr (7, [.int a1, .int a2, .int a3, .long a4])), (q1, .inr (7, [.int b1, .int b2, .int b3, .long b4])), (qk, .inr (7, [.int c1, .int c2, .int c3, .long c4]))])) (va_Ql (fun (r : Int64) (_ : Unit) => True) (fun (_ : Unit) (t : State) => va_P (dC, dI) vwCl [(ax, .inr (8, [.ref hd, .ref hf, .ref hs, .ref hp, .ref he, .ref q0, .ref q1, .ref qk, .int lt, .long fx, .int dn])), (hd, .inr (0, [.int (nI w), .int (nI b), .int wr, .ref qc, .ref qi, .int wa, .int wc])), (q0, .inr (7, [.int a1, .int a2, .int a3, .long a4])), (q1, .inr (7, [.int b1, .int b2, .int b3, .long b4])), (qk, .inr (7, [.int c1, .int c2, .int c3, .long c4]))] t.heap ∧ va_K (dC, dI) vwCl [] t ∧ va_D (va_A [(ax, .inr (8, [.ref hd, .ref hf, .ref hs, .ref hp, .ref he, .ref q0, .ref q1, .ref qk, .int lt, .long fx, .int dn])), (hd, .inr (0, [.int (nI w), .int (nI b), .int wr, .ref qc, .ref qi, .int wa, .int wc])), (q0, .inr (7, [.int a1, .int a2, .int a3, .long a4])), (q1, .inr (7, [.int b1, .int b2, .int b3, .long b4])), (qk, .inr (7, [.int c1, .int c2, .int c3, .long c4]))] sz) [(ax, .inr (8, [.ref hd, .ref hf, .ref hs, .ref hp, .ref he, .ref q0, .ref q1, .ref qk, .int lt, .long fx, .int dn])), (hd, .inr (0, [.int (nI w), .int (nI b), .int wr, .ref qc, .ref qi, .int wa, .int wc])), (q0, .inr (7, [.int a1, .int a2, .int a3, .long a4])), (q1, .inr (7, [.int b1, .int b2, .int b3, .long b4])), (qk, .inr (7, [.int c1, .int c2, .int c3, .long c4]))]) (va_A [(ax, .inr (8, [.ref hd, .ref hf, .ref hs, .ref hp, .ref he, .ref q0, .ref q1, .ref qk, .int lt, .long fx, .int dn])), (hd, .inr (0, [.int (nI w), .int (nI b), .int wr, .ref qc, .ref qi, .int wa, .int wc])), (q0, .inr (7, [.int a1, .int a2, .int a3, .long a4])), (q1, .inr (7, [.int b1, .int b2, .int b3, .long b4])), (qk, .inr (7, [.int c1, .int c2, .int c3, .long c4]))] sz)) 0 0 (va_A [(ax, .inr (8, [.ref hd, .ref hf, .ref hs, .ref hp, .ref he, .ref q0, .ref q1, .ref qk, .int lt, .long fx, .int dn])), (hd, .inr (0, [.int (nI w), .int (nI b), .int wr, .ref qc, .ref qi, .int wa, .int wc])), (q0, .inr (7, [.int a1, .int a2, .int a3, .long a4])), (q1, .inr (7, [.int b1, .int b2, .int b3, .long b4])), (qk, .inr (7, [.int c1, .int c2, .int c3, .long c4]))] sz) := by
  refine Met.ofW (cc := cX8_freeBlocks) (maxL := 6) (ret := (some .long)) (by decide) rfl ?_
  intro p e s m args below meth c s₁ B hml hv
  obtain ⟨rfl, hsz, hP, hK, hD0⟩ := hv
  have hx := B.exec
  have hb := B.bytes
  have hr := B.returns
  have hts := atoms_spec (ws := v_X8_freeBlocks) B.pre
  have hown : s.vm.findClass RX8 = some m.cls := findClass_of_methodNamed B.named
  have hlocks := B.notSynchronized
  subst hsz
  have hD := hD0.self (sz := s.heap.size)
  generalize hAe : va_A [(ax, .inr (8, [.ref hd, .ref hf, .ref hs, .ref hp, .ref he, .ref q0, .ref q1, .ref qk, .int lt, .long fx, .int dn])), (hd, .inr (0, [.int (nI w), .int (nI b), .int wr, .ref qc, .ref qi, .int wa, .int wc])), (q0, .inr (7, [.int a1, .int a2, .int a3, .long a4])), (q1, .inr (7, [.int b1, .int b2, .int b3, .long b4])), (qk, .inr (7, [.int c1, .int c2, .int c3, .long c4]))] s.heap.size = A at hD ⊢
  have hA : ∀ q : Nat, s.heap.size ≤ q → A q := fun q h => by rw [← hAe]; exact Or.inr h
  have hS : va_S A s.heap s.heap [] := va_S.rf
  have hP : va_P (dC, dI) vwCl [(ax, .inr (8, [.ref hd, .ref hf, .ref hs, .ref hp, .ref he, .ref q0, .ref q1, .ref qk, .int lt, .long fx, .int dn])), (hd, .inr (0, [.int (nI w), .int (nI b), .int wr, .ref qc, .ref qi, .int wa, .int wc])), (q0, .inr (7, [.int a1, .int a2, .int a3, .long a4])), (q1, .inr (7, [.int b1, .int b2, .int b3, .long b4])), (qk, .inr (7, [.int c1, .int c2, .int c3, .long c4]))] s.heap := hP
  have hl := lv_entry ([.ref ax]) (n := 6) (Nat.le_of_ble_eq_true rfl)
  rw [lg_entry_eq]
  generalize (lg_sl ([.ref ax]) ++ List.replicate (6 - (lg_sl ([.ref ax])).length) Slot.unset).toArray = ls at hl ⊢
  have hl : lv_has ls 6 [(0, .ref ax)] := hl
  have k_1 := (fun _ h => List.mem_cons_of_mem _ (List.mem_append_right _ (List.mem_append_left _ h)) : ∀ w ∈ wsX80, w ∈ v_X8_freeBlocks)
  have k_2 := hts (.fieldLink RX8 74 "TwinRoots" "working" "LTwinRoots$Told;") (List.mem_of_getElem? (i := 1) rfl)
  have k_3 := (fun _ h => List.mem_cons_of_mem _ (List.mem_append_right _ (List.mem_append_right _ (List.mem_append_left _ h))) : ∀ w ∈ wsX70, w ∈ v_X8_freeBlocks)
  have k_4 := hts (.fieldLink RX8 103 "TwinRoots$Told" "reach" "J") (List.mem_of_getElem? (i := 2) rfl)
  have k_5 := hts (.fieldLink RX8 67 "TwinRoots" "rootZero" "LTwinRoots$Told;") (List.mem_of_getElem? (i := 3) rfl)
  have k_6 := hts (.fieldLink RX8 71 "TwinRoots" "rootOne" "LTwinRoots$Told;") (List.mem_of_getElem? (i := 4) rfl)
  have k_7 := hts (.fieldLink RX8 28 "TwinRoots" "disk" "LTwinRoots$Disk;") (List.mem_of_getElem? (i := 5) rfl)
  have k_8 := (fun _ h => List.mem_cons_of_mem _ (List.mem_append_right _ (List.mem_append_right _ (List.mem_append_right _ (List.mem_append_left _ h)))) : ∀ w ∈ wsX00, w ∈ v_X8_freeBlocks)
  have k_9 := hts (.fieldLink RX8 195 "TwinRoots$Disk" "blocks" "I") (List.mem_of_getElem? (i := 6) rfl)
  refine lv_aload_n hx hb dX8_freeBlocks_0 rfl (lv_at hl 0 rfl) ?_
  refine va_get (D := (dC, dI)) (ci := 8) (v := .ref qk) (C := RX8) (T := TX8) (N := 11) hx hb hts k_1 hown hK hP 0 rfl rfl 7 (by decide) k_2 (fun _ h9 => h9) rfl dX8_freeBlocks_1 ?_
  refine va_get (D := (dC, dI)) (ci := 7) (v := .long c4) (C := RX7) (T := TX7) (N := 4) hx hb hts k_3 hown hK hP 4 rfl rfl 3 (by decide) k_4 (fun _ h9 => h9) rfl dX8_freeBlocks_4 ?_
  refine lv_aload_n hx hb dX8_freeBlocks_7 rfl (lv_at hl 0 rfl) ?_
  refine va_get (D := (dC, dI)) (ci := 8) (v := .ref q0) (C := RX8) (T := TX8) (N := 11) hx hb hts k_1 hown hK hP 0 rfl rfl 5 (by decide) k_5 (fun _ h9 => h9) rfl dX8_freeBlocks_8 ?_
  refine va_get (D := (dC, dI)) (ci := 7) (v := .long a4) (C := RX7) (T := TX7) (N := 4) hx hb hts k_3 hown hK hP 2 rfl rfl 3 (by decide) k_4 (fun _ h9 => h9) rfl dX8_freeBlocks_11 ?_
  refine lv_lor hx hb dX8_freeBlocks_14 ?_
  refine lv_topl (fun z_1 _ => ?_)
  refine lv_aload_n hx hb dX8_freeBlocks_15 rfl (lv_at hl 0 rfl) ?_
  refine va_get (D := (dC, dI)) (ci := 8) (v := .ref q1) (C := RX8) (T := TX8) (N := 11) hx hb hts k_1 hown hK hP 0 rfl rfl 6 (by decide) k_6 (fun _ h9 => h9) rfl dX8_freeBlocks_16 ?_
  refine va_get (D := (dC, dI)) (ci := 7) (v := .long b4) (C := RX7) (T := TX7) (N := 4) hx hb hts k_3 hown hK hP 3 rfl rfl 3 (by decide) k_4 (fun _ h9 => h9) rfl dX8_freeBlocks_19 ?_
  refine lv_lor hx hb dX8_freeBlocks_22 ?_
  refine lv_topl (fun z_2 _ => ?_)
  refine lv_lstore_n (lv' := [(1, .long z_2), (0, .ref ax)]) hx hb dX8_freeBlocks_23 rfl hl (by decide) rfl (fun ls hl => ?_)
  refine lv_lconst (v := 0) hx hb dX8_freeBlocks_24 (by decide) ?_
  refine lv_lstore_n (lv' := [(3, .long 0), (1, .long z_2), (0, .ref ax)]) hx hb dX8_freeBlocks_25 rfl hl (by decide) rfl (fun ls hl => ?_)
  refine lv_iconst (v := 2) hx hb dX8_freeBlocks_26 (by decide) ?_
  refine lv_istore (lv' := [(5, .int 2), (3, .long 0), (1, .long z_2), (0, .ref ax)]) hx hb dX8_freeBlocks_27 hl (by decide) rfl (fun ls hl => ?_)
  have loop_29 : ∀ (Q : State → Prop), (∀ (i : Nat) (fv : Int64) (H : Heap) (locs : List Loc) (ls : Array Slot), i ≤ b → va_P (dC, dI) vwCl [(ax, .inr (8, [.ref hd, .ref hf, .ref hs, .ref hp, .ref he, .ref q0, .ref q1, .ref qk, .int lt, .long fx, .int dn])), (hd, .inr (0, [.int (nI w), .int (nI b), .int wr, .ref qc, .ref qi, .int wa, .int wc])), (q0, .inr (7, [.int a1, .int a2, .int a3, .long a4])), (q1, .inr (7, [.int b1, .int b2, .int b3, .long b4])), (qk, .inr (7, [.int c1, .int c2, .int c3, .long c4]))] H → va_D A [(ax, .inr (8, [.ref hd, .ref hf, .ref hs, .ref hp, .ref he, .ref q0, .ref q1, .ref qk, .int lt, .long fx, .int dn])), (hd, .inr (0, [.int (nI w), .int (nI b), .int wr, .ref qc, .ref qi, .int wa, .int wc])), (q0, .inr (7, [.int a1, .int a2, .int a3, .long a4])), (q1, .inr (7, [.int b1, .int b2, .int b3, .long b4])), (qk, .inr (7, [.int c1, .int c2, .int c3, .long c4]))] → va_S A s.heap H locs → lv_has ls 6 [(0, .ref ax), (1, .long z_2), (3, .long fv), (5, .int (nI i))] → W p l e (headSpec v_X8_freeBlocks ({ frames := 2, cells := 0, slots := 0, locals := 42 } : Room)).room s m ([.ref ax] : List Value).toArray below meth c H locs 0 0 Q (F0 m 64 ls [])) → ∀ (nf i : Nat) (fv : Int64) (H : Heap) (locs : List Loc) (ls : Array Slot), i ≤ b → b + 1 ≤ i + nf → va_P (dC, dI) vwCl [(ax, .inr (8, [.ref hd, .ref hf, .ref hs, .ref hp, .ref he, .ref q0, .ref q1, .ref qk, .int lt, .long fx, .int dn])), (hd, .inr (0, [.int (nI w), .int (nI b), .int wr, .ref qc, .ref qi, .int wa, .int wc])), (q0, .inr (7, [.int a1, .int a2, .int a3, .long a4])), (q1, .inr (7, [.int b1, .int b2, .int b3, .long b4])), (qk, .inr (7, [.int c1, .int c2, .int c3, .long c4]))] H → va_D A [(ax, .inr (8, [.ref hd, .ref hf, .ref hs, .ref hp, .ref he, .ref q0, .ref q1, .ref qk, .int lt, .long fx, .int dn])), (hd, .inr (0, [.int (nI w), .int (nI b), .int wr, .ref qc, .ref qi, .int wa, .int wc])), (q0, .inr (7, [.int a1, .int a2, .int a3, .long a4])), (q1, .inr (7, [.int b1, .int b2, .int b3, .long b4])), (qk, .inr (7, [.int c1, .int c2, .int c3, .long c4]))] → va_S A s.heap H locs → lv_has ls 6 [(0, .ref ax), (1, .long z_2), (3, .long fv), (5, .int (nI i))] → W p l e (headSpec v_X8_freeBlocks ({ frames := 2, cells := 0, slots := 0, locals := 42 } : Room)).room s m ([.ref ax] : List Value).toArray below meth c H locs 0 0 Q (F0 m 29 ls []) := by
    intro Q kx nf
    induction nf with
    | zero =>
      intro i fv H locs ls h1 h2
      exact absurd h2 (by omega)
    | succ nf ih =>
      intro i fv H locs ls hi hn hP hD hS hl
      refine lv_iload hx hb dX8_freeBlocks_29 (lv_at hl 3 rfl) ?_
      refine lv_aload_n hx hb dX8_freeBlocks_31 rfl (lv_at hl 0 rfl) ?_
      refine va_get (D := (dC, dI)) (ci := 8) (v := .ref hd) (C := RX8) (T := TX8) (N := 11) hx hb hts k_1 hown hK hP 0 rfl rfl 0 (by decide) k_7 (fun _ h9 => h9) rfl dX8_freeBlocks_32 ?_
      refine va_get (D := (dC, dI)) (ci := 0) (v := .int (nI b)) (C := RX0) (T := TX0) (N := 7) hx hb hts k_8 hown hK hP 1 rfl rfl 1 (by decide) k_9 (fun _ h9 => h9) rfl dX8_freeBlocks_35 ?_
      refine lv_icmp_ge (tgt := 64) hx hb dX8_freeBlocks_38 (by decide) (fun c_3 => ?_) (fun c_3 => ?_)
      · exact kx i fv _ _ _ (by omega) hP hD hS (lv_sub hl [0, 1, 2, 3] rfl)
      · have hlt : i < b := Nat.lt_of_not_le (fun h => c_3 (nI_le h (by omega)))
        refine lv_lload_n hx hb dX8_freeBlocks_41 rfl (lv_at hl 1 rfl) ?_
        refine lv_iload hx hb dX8_freeBlocks_42 (lv_at hl 3 rfl) ?_
        have hPc := hP.sub (ws' := []) [] rfl
        have hDc := hD.sub (ws' := []) [] (by decide) rfl
        have hKc := hK.sub (tys' := []) [] rfl
        have hFc := va_free (wc := []) hD hS hA [] rfl
        refine va_calli (va_runS (As := [.long z_2, .int (nI i)]) (rest := []) ⟨hx, hb, hml, hown, hts⟩ (c_X8_holds l dC dI H.size z_2 (nI i)) (va_cwS 2 hts g_X8_freeBlocks_X8_holds rfl rfl rfl (by decide +kernel) ⟨Nat.le_of_ble_eq_true rfl, Nat.le_of_ble_eq_true rfl⟩) ⟨fun a U g mk q => by obtain ⟨q0, q1, qP, qK, qD⟩ := q; exact ⟨q0, q1, qP, va_K.moved (u := U) (U := U.calling g mk a) (Vm.Alike.refl U.vm) qK, qD⟩, fun U hU hW => ⟨rfl, by rw [hU], by rw [hU]; exact hPc, va_K.moved hW.alike hKc, hDc.weaken (fun _ _ _ _ => trivial)⟩⟩ rfl rfl hl.1 rfl (lv_room (Nat.le_of_ble_eq_true rfl)) dX8_freeBlocks_44 ⟨(show 0 + 0 ≤ 0 by omega), (show 0 + 0 ≤ 0 by omega)⟩) hS (fun q _ h => hFc q h) hFc (fun r_4 u t H1 locs ht hvm hw hB hz1 hk1 hS => ?_)
        obtain ⟨hP1, hK1, hD1⟩ := hB
        rw [ht] at hP1
        have hK1 := va_K.moved hvm.symm hK1
        try dsimp only at hw
        obtain ⟨hP, hD⟩ := va_join (wr := [(ax, .inr (8, [.ref hd, .ref hf, .ref hs, .ref hp, .ref he, .ref q0, .ref q1, .ref qk, .int lt, .long fx, .int dn])), (hd, .inr (0, [.int (nI w), .int (nI b), .int wr, .ref qc, .ref qi, .int wa, .int wc])), (q0, .inr (7, [.int a1, .int a2, .int a3, .long a4])), (q1, .inr (7, [.int b1, .int b2, .int b3, .long b4])), (qk, .inr (7, [.int c1, .int c2, .int c3, .long c4]))]) (w1 := []) hP hD [] [0, 1, 2, 3, 4] rfl rfl (by decide) (by decide) hk1 hFc hP1 hD1
        have hK := (hK.sub (tys' := []) [] rfl).app hK1
        generalize H1 = H at hP hS ⊢
        have hP : va_P (dC, dI) vwCl [(ax, .inr (8, [.ref hd, .ref hf, .ref hs, .ref hp, .ref he, .ref q0, .ref q1, .ref qk, .int lt, .long fx, .int dn])), (hd, .inr (0, [.int (nI w), .int (nI b), .int wr, .ref qc, .ref qi, .int wa, .int wc])), (q0, .inr (7, [.int a1, .int a2, .int a3, .long a4])), (q1, .inr (7, [.int b1, .int b2, .int b3, .long b4])), (qk, .inr (7, [.int c1, .int c2, .int c3, .long c4]))] H := hP
        have hD : va_D A [(ax, .inr (8, [.ref hd, .ref hf, .ref hs, .ref hp, .ref he, .ref q0, .ref q1, .ref qk, .int lt, .long fx, .int dn])), (hd, .inr (0, [.int (nI w), .int (nI b), .int wr, .ref qc, .ref qi, .int wa, .int wc])), (q0, .inr (7, [.int a1, .int a2, .int a3, .long a4])), (q1, .inr (7, [.int b1, .int b2, .int b3, .long b4])), (qk, .inr (7, [.int c1, .int c2, .int c3, .long c4]))] := hD
        have hK : va_K (dC, dI) vwCl [] s := hK
        have hw_r_4 := hw
        refine lv_if_ne (tgt := 58) hx hb dX8_freeBlocks_47 (by decide) (fun c_5 => ?_) (fun c_5 => ?_)
        · refine lv_iinc (v := (nI (i + 1))) (lv' := [(5, .int (nI (i + 1))), (0, .ref ax), (1, .long z_2), (3, .long fv)]) hx hb dX8_freeBlocks_58 hl (k := 3) rfl (nI_1 i) (by decide) rfl (fun ls hl => ?_)
          refine lv_goto (tgt := 29) hx hb dX8_freeBlocks_61 (by decide) ?_
          exact ih (i + 1) fv _ _ _ (by omega) (by omega) hP hD hS (lv_sub hl [1, 2, 3, 0] rfl)
        · refine lv_lload_n hx hb dX8_freeBlocks_50 rfl (lv_at hl 2 rfl) ?_
          refine lv_iload hx hb dX8_freeBlocks_51 (lv_at hl 3 rfl) ?_
          have hPc := hP.sub (ws' := []) [] rfl
          have hDc := hD.sub (ws' := []) [] (by decide) rfl
          have hKc := hK.sub (tys' := []) [] rfl
          have hFc := va_free (wc := []) hD hS hA [] rfl
          refine va_calll (va_runS (As := [.int (nI i)]) (rest := [.long fv]) ⟨hx, hb, hml, hown, hts⟩ (c_X8_bit l dC dI H.size (nI i)) (va_cwS 1 hts g_X8_freeBlocks_X8_bit rfl rfl rfl (by decide +kernel) ⟨Nat.le_of_ble_eq_true rfl, Nat.le_of_ble_eq_true rfl⟩) ⟨fun a U g mk q => by obtain ⟨q0, q1, qP, qK, qD⟩ := q; exact ⟨q0, q1, qP, va_K.moved (u := U) (U := U.calling g mk a) (Vm.Alike.refl U.vm) qK, qD⟩, fun U hU hW => ⟨rfl, by rw [hU], by rw [hU]; exact hPc, va_K.moved hW.alike hKc, hDc.weaken (fun _ _ _ _ => trivial)⟩⟩ rfl rfl hl.1 rfl (lv_room (Nat.le_of_ble_eq_true rfl)) dX8_freeBlocks_53 ⟨(show 0 + 0 ≤ 0 by omega), (show 0 + 0 ≤ 0 by omega)⟩) hS (fun q _ h => hFc q h) hFc (fun r_6 u t H1 locs ht hvm hw hB hz1 hk1 hS => ?_)
          obtain ⟨hP1, hK1, hD1⟩ := hB
          rw [ht] at hP1
          have hK1 := va_K.moved hvm.symm hK1
          try dsimp only at hw
          obtain ⟨hP, hD⟩ := va_join (wr := [(ax, .inr (8, [.ref hd, .ref hf, .ref hs, .ref hp, .ref he, .ref q0, .ref q1, .ref qk, .int lt, .long fx, .int dn])), (hd, .inr (0, [.int (nI w), .int (nI b), .int wr, .ref qc, .ref qi, .int wa, .int wc])), (q0, .inr (7, [.int a1, .int a2, .int a3, .long a4])), (q1, .inr (7, [.int b1, .int b2, .int b3, .long b4])), (qk, .inr (7, [.int c1, .int c2, .int c3, .long c4]))]) (w1 := []) hP hD [] [0, 1, 2, 3, 4] rfl rfl (by decide) (by decide) hk1 hFc hP1 hD1
          have hK := (hK.sub (tys' := []) [] rfl).app hK1
          generalize H1 = H at hP hS ⊢
          have hP : va_P (dC, dI) vwCl [(ax, .inr (8, [.ref hd, .ref hf, .ref hs, .ref hp, .ref he, .ref q0, .ref q1, .ref qk, .int lt, .long fx, .int dn])), (hd, .inr (0, [.int (nI w), .int (nI b), .int wr, .ref qc, .ref qi, .int wa, .int wc])), (q0, .inr (7, [.int a1, .int a2, .int a3, .long a4])), (q1, .inr (7, [.int b1, .int b2, .int b3, .long b4])), (qk, .inr (7, [.int c1, .int c2, .int c3, .long c4]))] H := hP
          have hD : va_D A [(ax, .inr (8, [.ref hd, .ref hf, .ref hs, .ref hp, .ref he, .ref q0, .ref q1, .ref qk, .int lt, .long fx, .int dn])), (hd, .inr (0, [.int (nI w), .int (nI b), .int wr, .ref qc, .ref qi, .int wa, .int wc])), (q0, .inr (7, [.int a1, .int a2, .int a3, .long a4])), (q1, .inr (7, [.int b1, .int b2, .int b3, .long b4])), (qk, .inr (7, [.int c1, .int c2, .int c3, .long c4]))] := hD
          have hK : va_K (dC, dI) vwCl [] s := hK
          have hw_r_6 := hw
          refine lv_lor hx hb dX8_freeBlocks_56 ?_
          refine lv_topl (fun z_7 _ => ?_)
          refine lv_lstore_n (lv' := [(3, .long z_7), (0, .ref ax), (1, .long z_2), (5, .int (nI i))]) hx hb dX8_freeBlocks_57 rfl hl (by decide) rfl (fun ls hl => ?_)
          refine lv_iinc (v := (nI (i + 1))) (lv' := [(5, .int (nI (i + 1))), (3, .long z_7), (0, .ref ax), (1, .long z_2)]) hx hb dX8_freeBlocks_58 hl (k := 3) rfl (nI_1 i) (by decide) rfl (fun ls hl => ?_)
          refine lv_goto (tgt := 29) hx hb dX8_freeBlocks_61 (by decide) ?_
          exact ih (i + 1) z_7 _ _ _ (by omega) (by omega) hP hD hS (lv_sub hl [2, 3, 1, 0] rfl)
  refine loop_29 _ (fun i fv H locs ls hi hP hD hS hl => ?_) (b + 1) 2 0 _ _ _ (by omega) (by omega) hP hD hS (lv_sub hl [3, 2, 1, 0] rfl)
  refine lv_lload_n hx hb dX8_freeBlocks_64 rfl (lv_at hl 2 rfl) ?_
  have hP9 := hP.sub (ws' := [(ax, .inr (8, [.ref hd, .ref hf, .ref hs, .ref hp, .ref he, .ref q0, .ref q1, .ref qk, .int lt, .long fx, .int dn])), (hd, .inr (0, [.int (nI w), .int (nI b), .int wr, .ref qc, .ref qi, .int wa, .int wc])), (q0, .inr (7, [.int a1, .int a2, .int a3, .long a4])), (q1, .inr (7, [.int b1, .int b2, .int b3, .long b4])), (qk, .inr (7, [.int c1, .int c2, .int c3, .long c4]))]) [0, 1, 2, 3, 4] rfl
  have hD9 := hD.sub (ws' := [(ax, .inr (8, [.ref hd, .ref hf, .ref hs, .ref hp, .ref he, .ref q0, .ref q1, .ref qk, .int lt, .long fx, .int dn])), (hd, .inr (0, [.int (nI w), .int (nI b), .int wr, .ref qc, .ref qi, .int wa, .int wc])), (q0, .inr (7, [.int a1, .int a2, .int a3, .long a4])), (q1, .inr (7, [.int b1, .int b2, .int b3, .long b4])), (qk, .inr (7, [.int c1, .int c2, .int c3, .long c4]))]) [0, 1, 2, 3, 4] (by decide) rfl
  have hK9 := hK.sub (tys' := []) [] rfl
  exact W.lret (v := fv) hx hb hr (fun t ht hW => ⟨⟨fv, (), rfl, trivial, by rw [ht]; exact hP9, va_K.moved hW.alike hK9, hD9⟩, hS.F ht⟩) hS.2.2 dX8_freeBlocks_65

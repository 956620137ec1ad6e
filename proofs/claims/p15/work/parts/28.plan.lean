theorem dX5_begin_0 : decode cX5_begin 0 = .ok (.aload_n 0, 1) := by decide +kernel
theorem dX5_begin_1 : decode cX5_begin 1 = .ok (.iconst 0, 1) := by decide +kernel
theorem dX5_begin_2 : decode cX5_begin 2 = .ok (.putfield 28, 3) := by decide +kernel
theorem dX5_begin_5 : decode cX5_begin 5 = .ok (.aload_n 0, 1) := by decide +kernel
theorem dX5_begin_6 : decode cX5_begin 6 = .ok (.iconst 0, 1) := by decide +kernel
theorem dX5_begin_7 : decode cX5_begin 7 = .ok (.putfield 32, 3) := by decide +kernel
theorem dX5_begin_10 : decode cX5_begin 10 = .ok (.aload_n 0, 1) := by decide +kernel
theorem dX5_begin_11 : decode cX5_begin 11 = .ok (.lload_n 1, 1) := by decide +kernel
theorem dX5_begin_12 : decode cX5_begin 12 = .ok (.putfield 36, 3) := by decide +kernel
theorem dX5_begin_15 : decode cX5_begin 15 = .ok (.aload_n 0, 1) := by decide +kernel
theorem dX5_begin_16 : decode cX5_begin 16 = .ok (.lload_n 3, 1) := by decide +kernel
theorem dX5_begin_17 : decode cX5_begin 17 = .ok (.putfield 40, 3) := by decide +kernel
theorem dX5_begin_20 : decode cX5_begin 20 = .ok (.aload_n 0, 1) := by decide +kernel
theorem dX5_begin_21 : decode cX5_begin 21 = .ok (.lload 5, 2) := by decide +kernel
theorem dX5_begin_23 : decode cX5_begin 23 = .ok (.putfield 43, 3) := by decide +kernel
theorem dX5_begin_26 : decode cX5_begin 26 = .ok (.return_, 1) := by decide +kernel
theorem dX5_draft_0 : decode cX5_draft 0 = .ok (.iload_n 1, 1) := by decide +kernel
theorem dX5_draft_1 : decode cX5_draft 1 = .ok (.ifCond .lt 29, 3) := by decide +kernel
theorem dX5_draft_4 : decode cX5_draft 4 = .ok (.iload_n 1, 1) := by decide +kernel
theorem dX5_draft_5 : decode cX5_draft 5 = .ok (.aload_n 0, 1) := by decide +kernel
theorem dX5_draft_6 : decode cX5_draft 6 = .ok (.getfield 28, 3) := by decide +kernel
theorem dX5_draft_9 : decode cX5_draft 9 = .ok (.if_icmp .ge 21, 3) := by decide +kernel
theorem dX5_draft_12 : decode cX5_draft 12 = .ok (.iload_n 1, 1) := by decide +kernel
theorem dX5_draft_13 : decode cX5_draft 13 = .ok (.aload_n 0, 1) := by decide +kernel
theorem dX5_draft_14 : decode cX5_draft 14 = .ok (.getfield 11, 3) := by decide +kernel
theorem dX5_draft_17 : decode cX5_draft 17 = .ok (.arraylength, 1) := by decide +kernel
theorem dX5_draft_18 : decode cX5_draft 18 = .ok (.if_icmp .ge 12, 3) := by decide +kernel
theorem dX5_draft_21 : decode cX5_draft 21 = .ok (.aload_n 0, 1) := by decide +kernel
theorem dX5_draft_22 : decode cX5_draft 22 = .ok (.getfield 11, 3) := by decide +kernel
theorem dX5_draft_25 : decode cX5_draft 25 = .ok (.iload_n 1, 1) := by decide +kernel
theorem dX5_draft_26 : decode cX5_draft 26 = .ok (.aaload, 1) := by decide +kernel
theorem dX5_draft_27 : decode cX5_draft 27 = .ok (.goto 7, 3) := by decide +kernel
theorem dX5_draft_30 : decode cX5_draft 30 = .ok (.aload_n 0, 1) := by decide +kernel
theorem dX5_draft_31 : decode cX5_draft 31 = .ok (.getfield 24, 3) := by decide +kernel
theorem dX5_draft_34 : decode cX5_draft 34 = .ok (.areturn, 1) := by decide +kernel
theorem dX5_drop_0 : decode cX5_drop 0 = .ok (.aload_n 0, 1) := by decide +kernel
theorem dX5_drop_1 : decode cX5_drop 1 = .ok (.dup, 1) := by decide +kernel
theorem dX5_drop_2 : decode cX5_drop 2 = .ok (.getfield 43, 3) := by decide +kernel
theorem dX5_drop_5 : decode cX5_drop 5 = .ok (.iload_n 1, 1) := by decide +kernel
theorem dX5_drop_6 : decode cX5_drop 6 = .ok (.invokestatic 54, 3) := by decide +kernel
theorem dX5_drop_9 : decode cX5_drop 9 = .ok (.ldc2_w 58, 3) := by decide +kernel
theorem dX5_drop_12 : decode cX5_drop 12 = .ok (.lxor, 1) := by decide +kernel
theorem dX5_drop_13 : decode cX5_drop 13 = .ok (.land, 1) := by decide +kernel
theorem dX5_drop_14 : decode cX5_drop 14 = .ok (.putfield 43, 3) := by decide +kernel
theorem dX5_drop_17 : decode cX5_drop 17 = .ok (.return_, 1) := by decide +kernel
theorem dX5_takeLeast_0 : decode cX5_takeLeast 0 = .ok (.iconst 2, 1) := by decide +kernel
theorem dX5_takeLeast_1 : decode cX5_takeLeast 1 = .ok (.istore_n 1, 1) := by decide +kernel
theorem dX5_takeLeast_2 : decode cX5_takeLeast 2 = .ok (.iload_n 1, 1) := by decide +kernel
theorem dX5_takeLeast_3 : decode cX5_takeLeast 3 = .ok (.bipush 64, 2) := by decide +kernel
theorem dX5_takeLeast_5 : decode cX5_takeLeast 5 = .ok (.if_icmp .ge 52, 3) := by decide +kernel
theorem dX5_takeLeast_8 : decode cX5_takeLeast 8 = .ok (.aload_n 0, 1) := by decide +kernel
theorem dX5_takeLeast_9 : decode cX5_takeLeast 9 = .ok (.getfield 36, 3) := by decide +kernel
theorem dX5_takeLeast_12 : decode cX5_takeLeast 12 = .ok (.iload_n 1, 1) := by decide +kernel
theorem dX5_takeLeast_13 : decode cX5_takeLeast 13 = .ok (.invokestatic 46, 3) := by decide +kernel
theorem dX5_takeLeast_16 : decode cX5_takeLeast 16 = .ok (.ifCond .eq 35, 3) := by decide +kernel
theorem dX5_takeLeast_19 : decode cX5_takeLeast 19 = .ok (.aload_n 0, 1) := by decide +kernel
theorem dX5_takeLeast_20 : decode cX5_takeLeast 20 = .ok (.dup, 1) := by decide +kernel
theorem dX5_takeLeast_21 : decode cX5_takeLeast 21 = .ok (.getfield 36, 3) := by decide +kernel
theorem dX5_takeLeast_24 : decode cX5_takeLeast 24 = .ok (.iload_n 1, 1) := by decide +kernel
theorem dX5_takeLeast_25 : decode cX5_takeLeast 25 = .ok (.invokestatic 54, 3) := by decide +kernel
theorem dX5_takeLeast_28 : decode cX5_takeLeast 28 = .ok (.ldc2_w 58, 3) := by decide +kernel
theorem dX5_takeLeast_31 : decode cX5_takeLeast 31 = .ok (.lxor, 1) := by decide +kernel
theorem dX5_takeLeast_32 : decode cX5_takeLeast 32 = .ok (.land, 1) := by decide +kernel
theorem dX5_takeLeast_33 : decode cX5_takeLeast 33 = .ok (.putfield 36, 3) := by decide +kernel
theorem dX5_takeLeast_36 : decode cX5_takeLeast 36 = .ok (.aload_n 0, 1) := by decide +kernel
theorem dX5_takeLeast_37 : decode cX5_takeLeast 37 = .ok (.dup, 1) := by decide +kernel
theorem dX5_takeLeast_38 : decode cX5_takeLeast 38 = .ok (.getfield 40, 3) := by decide +kernel
theorem dX5_takeLeast_41 : decode cX5_takeLeast 41 = .ok (.iload_n 1, 1) := by decide +kernel
theorem dX5_takeLeast_42 : decode cX5_takeLeast 42 = .ok (.invokestatic 54, 3) := by decide +kernel
theorem dX5_takeLeast_45 : decode cX5_takeLeast 45 = .ok (.lor, 1) := by decide +kernel
theorem dX5_takeLeast_46 : decode cX5_takeLeast 46 = .ok (.putfield 40, 3) := by decide +kernel
theorem dX5_takeLeast_49 : decode cX5_takeLeast 49 = .ok (.iload_n 1, 1) := by decide +kernel
theorem dX5_takeLeast_50 : decode cX5_takeLeast 50 = .ok (.ireturn, 1) := by decide +kernel
theorem dX5_takeLeast_51 : decode cX5_takeLeast 51 = .ok (.iinc 1 1, 3) := by decide +kernel
theorem dX5_takeLeast_54 : decode cX5_takeLeast 54 = .ok (.goto (-52), 3) := by decide +kernel
theorem dX5_takeLeast_57 : decode cX5_takeLeast 57 = .ok (.aload_n 0, 1) := by decide +kernel
theorem dX5_takeLeast_58 : decode cX5_takeLeast 58 = .ok (.iconst 1, 1) := by decide +kernel
theorem dX5_takeLeast_59 : decode cX5_takeLeast 59 = .ok (.putfield 32, 3) := by decide +kernel
theorem dX5_takeLeast_62 : decode cX5_takeLeast 62 = .ok (.iconst 0, 1) := by decide +kernel
theorem dX5_takeLeast_63 : decode cX5_takeLeast 63 = .ok (.ireturn, 1) := by decide +kernel
theorem dX5_target_0 : decode cX5_target 0 = .ok (.iload_n 1, 1) := by decide +kernel
theorem dX5_target_1 : decode cX5_target 1 = .ok (.ifCond .lt 29, 3) := by decide +kernel
theorem dX5_target_4 : decode cX5_target 4 = .ok (.iload_n 1, 1) := by decide +kernel
theorem dX5_target_5 : decode cX5_target 5 = .ok (.aload_n 0, 1) := by decide +kernel
theorem dX5_target_6 : decode cX5_target 6 = .ok (.getfield 28, 3) := by decide +kernel
theorem dX5_target_9 : decode cX5_target 9 = .ok (.if_icmp .ge 21, 3) := by decide +kernel
theorem dX5_target_12 : decode cX5_target 12 = .ok (.iload_n 1, 1) := by decide +kernel
theorem dX5_target_13 : decode cX5_target 13 = .ok (.aload_n 0, 1) := by decide +kernel
theorem dX5_target_14 : decode cX5_target 14 = .ok (.getfield 20, 3) := by decide +kernel
theorem dX5_target_17 : decode cX5_target 17 = .ok (.arraylength, 1) := by decide +kernel
theorem dX5_target_18 : decode cX5_target 18 = .ok (.if_icmp .ge 12, 3) := by decide +kernel
theorem dX5_target_21 : decode cX5_target 21 = .ok (.aload_n 0, 1) := by decide +kernel
theorem dX5_target_22 : decode cX5_target 22 = .ok (.getfield 20, 3) := by decide +kernel
theorem dX5_target_25 : decode cX5_target 25 = .ok (.iload_n 1, 1) := by decide +kernel
theorem dX5_target_26 : decode cX5_target 26 = .ok (.iaload, 1) := by decide +kernel
theorem dX5_target_27 : decode cX5_target 27 = .ok (.goto 4, 3) := by decide +kernel
theorem dX5_target_30 : decode cX5_target 30 = .ok (.iconst 0, 1) := by decide +kernel
theorem dX5_target_31 : decode cX5_target 31 = .ok (.ireturn, 1) := by decide +kernel
theorem dX5_write_0 : decode cX5_write 0 = .ok (.aload_n 0, 1) := by decide +kernel
theorem dX5_write_1 : decode cX5_write 1 = .ok (.getfield 40, 3) := by decide +kernel
theorem dX5_write_4 : decode cX5_write 4 = .ok (.iload_n 2, 1) := by decide +kernel
theorem dX5_write_5 : decode cX5_write 5 = .ok (.invokestatic 46, 3) := by decide +kernel
theorem dX5_write_8 : decode cX5_write 8 = .ok (.ifCond .eq 7, 3) := by decide +kernel
theorem dX5_write_11 : decode cX5_write 11 = .ok (.iload_n 2, 1) := by decide +kernel
theorem dX5_write_12 : decode cX5_write 12 = .ok (.goto 7, 3) := by decide +kernel
theorem dX5_write_15 : decode cX5_write 15 = .ok (.aload_n 0, 1) := by decide +kernel
theorem dX5_write_16 : decode cX5_write 16 = .ok (.invokevirtual 50, 3) := by decide +kernel
theorem dX5_write_19 : decode cX5_write 19 = .ok (.istore_n 3, 1) := by decide +kernel
theorem dX5_write_20 : decode cX5_write 20 = .ok (.aload_n 0, 1) := by decide +kernel
theorem dX5_write_21 : decode cX5_write 21 = .ok (.aload_n 0, 1) := by decide +kernel
theorem dX5_write_22 : decode cX5_write 22 = .ok (.getfield 43, 3) := by decide +kernel
theorem dX5_write_25 : decode cX5_write 25 = .ok (.iload_n 2, 1) := by decide +kernel
theorem dX5_write_26 : decode cX5_write 26 = .ok (.invokestatic 54, 3) := by decide +kernel
theorem dX5_write_29 : decode cX5_write 29 = .ok (.ldc2_w 58, 3) := by decide +kernel
theorem dX5_write_32 : decode cX5_write 32 = .ok (.lxor, 1) := by decide +kernel
theorem dX5_write_33 : decode cX5_write 33 = .ok (.land, 1) := by decide +kernel
theorem dX5_write_34 : decode cX5_write 34 = .ok (.iload_n 3, 1) := by decide +kernel
theorem dX5_write_35 : decode cX5_write 35 = .ok (.invokestatic 54, 3) := by decide +kernel
theorem dX5_write_38 : decode cX5_write 38 = .ok (.lor, 1) := by decide +kernel
theorem dX5_write_39 : decode cX5_write 39 = .ok (.putfield 43, 3) := by decide +kernel
theorem dX5_write_42 : decode cX5_write 42 = .ok (.aload_n 0, 1) := by decide +kernel
theorem dX5_write_43 : decode cX5_write 43 = .ok (.getfield 28, 3) := by decide +kernel
theorem dX5_write_46 : decode cX5_write 46 = .ok (.aload_n 0, 1) := by decide +kernel
theorem dX5_write_47 : decode cX5_write 47 = .ok (.getfield 11, 3) := by decide +kernel
theorem dX5_write_50 : decode cX5_write 50 = .ok (.arraylength, 1) := by decide +kernel
theorem dX5_write_51 : decode cX5_write 51 = .ok (.if_icmp .ge 48, 3) := by decide +kernel
theorem dX5_write_54 : decode cX5_write 54 = .ok (.aload_n 0, 1) := by decide +kernel
theorem dX5_write_55 : decode cX5_write 55 = .ok (.getfield 28, 3) := by decide +kernel
theorem dX5_write_58 : decode cX5_write 58 = .ok (.aload_n 0, 1) := by decide +kernel
theorem dX5_write_59 : decode cX5_write 59 = .ok (.getfield 20, 3) := by decide +kernel
theorem dX5_write_62 : decode cX5_write 62 = .ok (.arraylength, 1) := by decide +kernel
theorem dX5_write_63 : decode cX5_write 63 = .ok (.if_icmp .ge 36, 3) := by decide +kernel
theorem dX5_write_66 : decode cX5_write 66 = .ok (.aload_n 0, 1) := by decide +kernel
theorem dX5_write_67 : decode cX5_write 67 = .ok (.getfield 11, 3) := by decide +kernel
theorem dX5_write_70 : decode cX5_write 70 = .ok (.aload_n 0, 1) := by decide +kernel
theorem dX5_write_71 : decode cX5_write 71 = .ok (.getfield 28, 3) := by decide +kernel
theorem dX5_write_74 : decode cX5_write 74 = .ok (.aaload, 1) := by decide +kernel
theorem dX5_write_75 : decode cX5_write 75 = .ok (.aload_n 1, 1) := by decide +kernel
theorem dX5_write_76 : decode cX5_write 76 = .ok (.invokevirtual 60, 3) := by decide +kernel
theorem dX5_write_79 : decode cX5_write 79 = .ok (.aload_n 0, 1) := by decide +kernel
theorem dX5_write_80 : decode cX5_write 80 = .ok (.getfield 20, 3) := by decide +kernel
theorem dX5_write_83 : decode cX5_write 83 = .ok (.aload_n 0, 1) := by decide +kernel
theorem dX5_write_84 : decode cX5_write 84 = .ok (.getfield 28, 3) := by decide +kernel
theorem dX5_write_87 : decode cX5_write 87 = .ok (.iload_n 3, 1) := by decide +kernel
theorem dX5_write_88 : decode cX5_write 88 = .ok (.iastore, 1) := by decide +kernel
theorem dX5_write_89 : decode cX5_write 89 = .ok (.aload_n 0, 1) := by decide +kernel
theorem dX5_write_90 : decode cX5_write 90 = .ok (.dup, 1) := by decide +kernel
theorem dX5_write_91 : decode cX5_write 91 = .ok (.getfield 28, 3) := by decide +kernel
theorem dX5_write_94 : decode cX5_write 94 = .ok (.iconst 1, 1) := by decide +kernel
theorem dX5_write_95 : decode cX5_write 95 = .ok (.iadd, 1) := by decide +kernel
theorem dX5_write_96 : decode cX5_write 96 = .ok (.putfield 28, 3) := by decide +kernel
theorem dX5_write_99 : decode cX5_write 99 = .ok (.iload_n 3, 1) := by decide +kernel
theorem dX5_write_100 : decode cX5_write 100 = .ok (.ireturn, 1) := by decide +kernel
def v_X5_begin : List Cond := .code yX5_begin cX5_begin 7 none :: ([.fieldLink RX5 28 "TwinRoots$Plan" "many" "I", .fieldLink RX5 32 "TwinRoots$Plan" "noRoom" "Z", .fieldLink RX5 36 "TwinRoots$Plan" "free" "J", .fieldLink RX5 40 "TwinRoots$Plan" "fresh" "J", .fieldLink RX5 43 "TwinRoots$Plan" "work" "J"] ++ (wsX50 ++ ([])))
set_option maxHeartbeats 4000000 in
set_option maxRecDepth 100000 in
/-- begin -/
theorem c_X5_begin (l : Launch) (dC : Nat → ClassId) (dI : Nat → Nat → Nat) (sz : Nat) (hp : Nat) (pd : Nat) (pt : Nat) (pb : Nat) (fr : Int64) (wk : Int64) (fe : Int64) (nr : Int32) (x0 : Int32) (p0 : Int64) (p1 : Int64) (p2 : Int64) : Met l yX5_begin v_X5_begin ({ frames := 0, cells := 0, slots := 0, locals := 0 } : Room) (va_Pc [.ref hp, .long p0, .long p1, .long p2] (fun U => U.heap.size = sz ∧ va_P (dC, dI) vwCl [(hp, .inr (5, [.int x0, .long fr, .long wk, .int nr, .ref pd, .ref pt, .ref pb, .long fe]))] U.heap ∧ va_K (dC, dI) vwCl [] U ∧ va_D (fun _ => True) [(hp, .inr (5, [.int x0, .long fr, .long wk, .int nr, .ref pd, .ref pt, .ref pb, .long fe]))])) (va_Qv (fun (_ : Unit) => True) (fun (_ : Unit) (t : State) => va_P (dC, dI) vwCl [(hp, .inr (5, [.int 0, .long p1, .long p2, .int 0, .ref pd, .ref pt, .ref pb, .long p0]))] t.heap ∧ va_K (dC, dI) vwCl [] t ∧ va_D (va_A [(hp, .inr (5, [.int x0, .long fr, .long wk, .int nr, .ref pd, .ref pt, .ref pb, .long fe]))] sz) [(hp, .inr (5, [.int 0, .long p1, .long p2, .int 0, .ref pd, .ref pt, .ref pb, .long p0]))]) (va_A [(hp, .inr (5, [.int x0, .long fr, .long wk, .int nr, .ref pd, .ref pt, .ref pb, .long fe]))] sz)) 0 0 (va_A [(hp, .inr (5, [.int x0, .long fr, .long wk, .int nr, .ref pd, .ref pt, .ref pb, .long fe]))] sz) := by
  refine Met.ofW (cc := cX5_begin) (maxL := 7) (ret := none) (by decide) rfl ?_
  intro p e s m args below meth c s₁ B hml hv
  obtain ⟨rfl, hsz, hP, hK, hD0⟩ := hv
  have hx := B.exec
  have hb := B.bytes
  have hr := B.returns
  have hts := atoms_spec (ws := v_X5_begin) B.pre
  have hown : s.vm.findClass RX5 = some m.cls := findClass_of_methodNamed B.named
  have hlocks := B.notSynchronized
  subst hsz
  have hD := hD0.self (sz := s.heap.size)
  generalize hAe : va_A [(hp, .inr (5, [.int x0, .long fr, .long wk, .int nr, .ref pd, .ref pt, .ref pb, .long fe]))] s.heap.size = A at hD ⊢
  have hA : ∀ q : Nat, s.heap.size ≤ q → A q := fun q h => by rw [← hAe]; exact Or.inr h
  have hS : va_S A s.heap s.heap [] := va_S.rf
  have hP : va_P (dC, dI) vwCl [(hp, .inr (5, [.int x0, .long fr, .long wk, .int nr, .ref pd, .ref pt, .ref pb, .long fe]))] s.heap := hP
  have hl := lv_entry ([.ref hp, .long p0, .long p1, .long p2]) (n := 7) (Nat.le_of_ble_eq_true rfl)
  rw [lg_entry_eq]
  generalize (lg_sl ([.ref hp, .long p0, .long p1, .long p2]) ++ List.replicate (7 - (lg_sl ([.ref hp, .long p0, .long p1, .long p2])).length) Slot.unset).toArray = ls at hl ⊢
  have hl : lv_has ls 7 [(0, .ref hp), (1, .long p0), (3, .long p1), (5, .long p2)] := hl
  have k_1 := (fun _ h => List.mem_cons_of_mem _ (List.mem_append_right _ (List.mem_append_left _ h)) : ∀ w ∈ wsX50, w ∈ v_X5_begin)
  have k_2 := hts (.fieldLink RX5 28 "TwinRoots$Plan" "many" "I") (List.mem_of_getElem? (i := 1) rfl)
  have k_3 := hts (.fieldLink RX5 32 "TwinRoots$Plan" "noRoom" "Z") (List.mem_of_getElem? (i := 2) rfl)
  have k_4 := hts (.fieldLink RX5 36 "TwinRoots$Plan" "free" "J") (List.mem_of_getElem? (i := 3) rfl)
  have k_5 := hts (.fieldLink RX5 40 "TwinRoots$Plan" "fresh" "J") (List.mem_of_getElem? (i := 4) rfl)
  have k_6 := hts (.fieldLink RX5 43 "TwinRoots$Plan" "work" "J") (List.mem_of_getElem? (i := 5) rfl)
  refine lv_aload_n hx hb dX5_begin_0 rfl (lv_at hl 0 rfl) ?_
  refine lv_iconst (v := 0) hx hb dX5_begin_1 (by decide) ?_
  refine va_put (D := (dC, dI)) (ci := 5) (v := .int 0) (ty := .int) (C := RX5) (T := TX5) (N := 8) hx hb hts k_1 tyX5 tyX5_ok nmX5 hown hK hP hD hS 0 rfl rfl 0 (by decide) k_2 (fun _ h9 => h9) rfl (by decide +kernel) rfl rfl (Nat.le_of_ble_eq_true rfl) dX5_begin_2 (fun H locs hP hD hS => ?_)
  have hP : va_P (dC, dI) vwCl [(hp, .inr (5, [.int 0, .long fr, .long wk, .int nr, .ref pd, .ref pt, .ref pb, .long fe]))] H := hP
  have hD : va_D A [(hp, .inr (5, [.int 0, .long fr, .long wk, .int nr, .ref pd, .ref pt, .ref pb, .long fe]))] := hD
  refine lv_aload_n hx hb dX5_begin_5 rfl (lv_at hl 0 rfl) ?_
  refine lv_iconst (v := 0) hx hb dX5_begin_6 (by decide) ?_
  refine va_put (D := (dC, dI)) (ci := 5) (v := .int 0) (ty := .boolean) (C := RX5) (T := TX5) (N := 8) hx hb hts k_1 tyX5 tyX5_ok nmX5 hown hK hP hD hS 0 rfl rfl 3 (by decide) k_3 (fun _ h9 => h9) rfl (by decide +kernel) rfl rfl (Nat.le_of_ble_eq_true rfl) dX5_begin_7 (fun H locs hP hD hS => ?_)
  have hP : va_P (dC, dI) vwCl [(hp, .inr (5, [.int 0, .long fr, .long wk, .int 0, .ref pd, .ref pt, .ref pb, .long fe]))] H := hP
  have hD : va_D A [(hp, .inr (5, [.int 0, .long fr, .long wk, .int 0, .ref pd, .ref pt, .ref pb, .long fe]))] := hD
  refine lv_aload_n hx hb dX5_begin_10 rfl (lv_at hl 0 rfl) ?_
  refine lv_lload_n hx hb dX5_begin_11 rfl (lv_at hl 1 rfl) ?_
  refine va_put (D := (dC, dI)) (ci := 5) (v := .long p0) (ty := .long) (C := RX5) (T := TX5) (N := 8) hx hb hts k_1 tyX5 tyX5_ok nmX5 hown hK hP hD hS 0 rfl rfl 7 (by decide) k_4 (fun _ h9 => h9) rfl (by decide +kernel) rfl rfl (Nat.le_of_ble_eq_true rfl) dX5_begin_12 (fun H locs hP hD hS => ?_)
  have hP : va_P (dC, dI) vwCl [(hp, .inr (5, [.int 0, .long fr, .long wk, .int 0, .ref pd, .ref pt, .ref pb, .long p0]))] H := hP
  have hD : va_D A [(hp, .inr (5, [.int 0, .long fr, .long wk, .int 0, .ref pd, .ref pt, .ref pb, .long p0]))] := hD
  refine lv_aload_n hx hb dX5_begin_15 rfl (lv_at hl 0 rfl) ?_
  refine lv_lload_n hx hb dX5_begin_16 rfl (lv_at hl 2 rfl) ?_
  refine va_put (D := (dC, dI)) (ci := 5) (v := .long p1) (ty := .long) (C := RX5) (T := TX5) (N := 8) hx hb hts k_1 tyX5 tyX5_ok nmX5 hown hK hP hD hS 0 rfl rfl 1 (by decide) k_5 (fun _ h9 => h9) rfl (by decide +kernel) rfl rfl (Nat.le_of_ble_eq_true rfl) dX5_begin_17 (fun H locs hP hD hS => ?_)
  have hP : va_P (dC, dI) vwCl [(hp, .inr (5, [.int 0, .long p1, .long wk, .int 0, .ref pd, .ref pt, .ref pb, .long p0]))] H := hP
  have hD : va_D A [(hp, .inr (5, [.int 0, .long p1, .long wk, .int 0, .ref pd, .ref pt, .ref pb, .long p0]))] := hD
  refine lv_aload_n hx hb dX5_begin_20 rfl (lv_at hl 0 rfl) ?_
  refine lv_lload hx hb dX5_begin_21 (lv_at hl 3 rfl) ?_
  refine va_put (D := (dC, dI)) (ci := 5) (v := .long p2) (ty := .long) (C := RX5) (T := TX5) (N := 8) hx hb hts k_1 tyX5 tyX5_ok nmX5 hown hK hP hD hS 0 rfl rfl 2 (by decide) k_6 (fun _ h9 => h9) rfl (by decide +kernel) rfl rfl (Nat.le_of_ble_eq_true rfl) dX5_begin_23 (fun H locs hP hD hS => ?_)
  have hP : va_P (dC, dI) vwCl [(hp, .inr (5, [.int 0, .long p1, .long p2, .int 0, .ref pd, .ref pt, .ref pb, .long p0]))] H := hP
  have hD : va_D A [(hp, .inr (5, [.int 0, .long p1, .long p2, .int 0, .ref pd, .ref pt, .ref pb, .long p0]))] := hD
  have hP9 := hP.sub (ws' := [(hp, .inr (5, [.int 0, .long p1, .long p2, .int 0, .ref pd, .ref pt, .ref pb, .long p0]))]) [0] rfl
  have hD9 := hD.sub (ws' := [(hp, .inr (5, [.int 0, .long p1, .long p2, .int 0, .ref pd, .ref pt, .ref pb, .long p0]))]) [0] (by decide) rfl
  have hK9 := hK.sub (tys' := []) [] rfl
  exact W.vret hx hb hr (fun t ht hW => ⟨⟨(), rfl, trivial, by rw [ht]; exact hP9, va_K.moved hW.alike hK9, hD9⟩, hS.F ht⟩) hS.2.2 dX5_begin_26
def v_X5_takeLeast : List Cond := .code yX5_takeLeast cX5_takeLeast 2 (some .int) :: ([.fieldLink RX5 32 "TwinRoots$Plan" "noRoom" "Z", .fieldLink RX5 36 "TwinRoots$Plan" "free" "J", .code yX8_holds cX8_holds 3 (some .boolean), .code yX8_bit cX8_bit 1 (some .long), .methodLink RX8 227 yX8_bit, .static yX8_bit, .initialized RX8, .static yX8_holds, .constantLong RX5 58 (-1), .fieldLink RX5 40 "TwinRoots$Plan" "fresh" "J"] ++ (wsX50 ++ ([])))
set_option maxRecDepth 20000 in
theorem g_X5_takeLeast_X8_holds : GoodIn v_X5_takeLeast v_X8_holds := goodIn_r _ [3, 4, 5, 6, 7] (by decide +kernel) (by decide +kernel)
set_option maxRecDepth 20000 in
theorem g_X5_takeLeast_X8_bit : GoodIn v_X5_takeLeast v_X8_bit := goodIn_r _ [4] (by decide +kernel) (by decide +kernel)
set_option maxHeartbeats 4000000 in
set_option maxRecDepth 100000 in
/-- takeLeast: some BLOCK or none -/
theorem c_X5_takeLeast (l : Launch) (dC : Nat → ClassId) (dI : Nat → Nat → Nat) (sz : Nat) (hp : Nat) (pd : Nat) (pt : Nat) (pb : Nat) (fr : Int64) (wk : Int64) (fe : Int64) (nr : Int32) (pm : Nat) : Met l yX5_takeLeast v_X5_takeLeast ({ frames := 2, cells := 0, slots := 0, locals := 42 } : Room) (va_Pc [.ref hp] (fun U => U.heap.size = sz ∧ va_P (dC, dI) vwCl [(hp, .inr (5, [.int (nI pm), .long fr, .long wk, .int nr, .ref pd, .ref pt, .ref pb, .long fe]))] U.heap ∧ va_K (dC, dI) vwCl [] U ∧ va_D (fun _ => True) [(hp, .inr (5, [.int (nI pm), .long fr, .long wk, .int nr, .ref pd, .ref pt, .ref pb, .long fe]))] ∧ va_Nw (.methodLinkNest RX5 46 yX8_holds "TwinRoots") U ∧ va_Nw (.methodLinkNest RX5 54 yX8_bit "TwinRoots") U)) (va_Qi (fun (r : Int32) (u : Int64 × Int64 × Int32) => match u with | (fr2, fe2, nr2) => True) (fun (u : Int64 × Int64 × Int32) (t : State) => match u with | (fr2, fe2, nr2) => va_P (dC, dI) vwCl [(hp, .inr (5, [.int (nI pm), .long fr2, .long wk, .int nr2, .ref pd, .ref pt, .ref pb, .long fe2]))] t.heap ∧ va_K (dC, dI) vwCl [] t ∧ va_D (va_A [(hp, .inr (5, [.int (nI pm), .long fr, .long wk, .int nr, .ref pd, .ref pt, .ref pb, .long fe]))] sz) [(hp, .inr (5, [.int (nI pm), .long fr2, .long wk, .int nr2, .ref pd, .ref pt, .ref pb, .long fe2]))]) (va_A [(hp, .inr (5, [.int (nI pm), .long fr, .long wk, .int nr, .ref pd, .ref pt, .ref pb, .long fe]))] sz)) 0 0 (va_A [(hp, .inr (5, [.int (nI pm), .long fr, .long wk, .int nr, .ref pd, .ref pt, .ref pb, .long fe]))] sz) := by
  refine Met.ofW (cc := cX5_takeLeast) (maxL := 2) (ret := (some .int)) (by decide) rfl ?_
  intro p e s m args below meth c s₁ B hml hv
  obtain ⟨rfl, hsz, hP, hK, hD0, hNX5_46, hNX5_54⟩ := hv
  have hx := B.exec
  have hb := B.bytes
  have hr := B.returns
  have hts := atoms_spec (ws := v_X5_takeLeast) B.pre
  have hown : s.vm.findClass RX5 = some m.cls := findClass_of_methodNamed B.named
  have hlocks := B.notSynchronized
  subst hsz
  have hD := hD0.self (sz := s.heap.size)
  generalize hAe : va_A [(hp, .inr (5, [.int (nI pm), .long fr, .long wk, .int nr, .ref pd, .ref pt, .ref pb, .long fe]))] s.heap.size = A at hD ⊢
  have hA : ∀ q : Nat, s.heap.size ≤ q → A q := fun q h => by rw [← hAe]; exact Or.inr h
  have hS : va_S A s.heap s.heap [] := va_S.rf
  have hP : va_P (dC, dI) vwCl [(hp, .inr (5, [.int (nI pm), .long fr, .long wk, .int nr, .ref pd, .ref pt, .ref pb, .long fe]))] s.heap := hP
  have hl := lv_entry ([.ref hp]) (n := 2) (Nat.le_of_ble_eq_true rfl)
  rw [lg_entry_eq]
  generalize (lg_sl ([.ref hp]) ++ List.replicate (2 - (lg_sl ([.ref hp])).length) Slot.unset).toArray = ls at hl ⊢
  have hl : lv_has ls 2 [(0, .ref hp)] := hl
  have k_1 := (fun _ h => List.mem_cons_of_mem _ (List.mem_append_right _ (List.mem_append_left _ h)) : ∀ w ∈ wsX50, w ∈ v_X5_takeLeast)
  have k_2 := hts (.fieldLink RX5 32 "TwinRoots$Plan" "noRoom" "Z") (List.mem_of_getElem? (i := 1) rfl)
  have k_3 := hts (.fieldLink RX5 36 "TwinRoots$Plan" "free" "J") (List.mem_of_getElem? (i := 2) rfl)
  have k_4 := hts (.initialized RX8) (List.mem_of_getElem? (i := 7) rfl)
  have k_5 := hts (.static yX8_holds) (List.mem_of_getElem? (i := 8) rfl)
  have k_6 := hts (.static yX8_bit) (List.mem_of_getElem? (i := 6) rfl)
  have k_7 := hts (.constantLong RX5 58 (-1)) (List.mem_of_getElem? (i := 9) rfl)
  have k_8 := hts (.fieldLink RX5 40 "TwinRoots$Plan" "fresh" "J") (List.mem_of_getElem? (i := 10) rfl)
  refine lv_iconst (v := 2) hx hb dX5_takeLeast_0 (by decide) ?_
  refine lv_istore_n (lv' := [(1, .int 2), (0, .ref hp)]) hx hb dX5_takeLeast_1 rfl hl (by decide) rfl (fun ls hl => ?_)
  refine jn_cut (P := fun Q => ∀ (nf i : Nat) (H : Heap) (locs : List Loc) (ls : Array Slot), i ≤ 64 → 64 + 1 ≤ i + nf → va_P (dC, dI) vwCl [(hp, .inr (5, [.int (nI pm), .long fr, .long wk, .int nr, .ref pd, .ref pt, .ref pb, .long fe]))] H → va_D A [(hp, .inr (5, [.int (nI pm), .long fr, .long wk, .int nr, .ref pd, .ref pt, .ref pb, .long fe]))] → va_S A s.heap H locs → lv_has ls 2 [(0, .ref hp), (1, .int (nI i))] → W p l e (headSpec v_X5_takeLeast ({ frames := 2, cells := 0, slots := 0, locals := 42 } : Room)).room s m ([.ref hp] : List Value).toArray below meth c H locs 0 0 Q (F0 m 2 ls [])) ?_ (fun loop_2 => ?_)
  · intro nf
    induction nf with
    | zero =>
      intro i H locs ls h1 h2
      exact absurd h2 (by omega)
    | succ nf ih_2 =>
      intro i H locs ls hi hn hP hD hS hl
      refine lv_iload_n hx hb dX5_takeLeast_2 rfl (lv_at hl 1 rfl) ?_
      refine lv_bipush (v := 64) hx hb dX5_takeLeast_3 (by decide) ?_
      refine lv_icmp_ge (tgt := 57) hx hb dX5_takeLeast_5 (by decide) (fun c_1 => ?_) (fun c_1 => ?_)
      · refine lv_aload_n hx hb dX5_takeLeast_57 rfl (lv_at hl 0 rfl) ?_
        refine lv_iconst (v := 1) hx hb dX5_takeLeast_58 (by decide) ?_
        refine va_put (D := (dC, dI)) (ci := 5) (v := .int 1) (ty := .boolean) (C := RX5) (T := TX5) (N := 8) hx hb hts k_1 tyX5 tyX5_ok nmX5 hown hK hP hD hS 0 rfl rfl 3 (by decide) k_2 (fun _ h9 => h9) rfl (by decide +kernel) rfl rfl (Nat.le_of_ble_eq_true rfl) dX5_takeLeast_59 (fun H locs hP hD hS => ?_)
        have hP : va_P (dC, dI) vwCl [(hp, .inr (5, [.int (nI pm), .long fr, .long wk, .int 1, .ref pd, .ref pt, .ref pb, .long fe]))] H := hP
        have hD : va_D A [(hp, .inr (5, [.int (nI pm), .long fr, .long wk, .int 1, .ref pd, .ref pt, .ref pb, .long fe]))] := hD
        refine lv_iconst (v := 0) hx hb dX5_takeLeast_62 (by decide) ?_
        have hP9 := hP.sub (ws' := [(hp, .inr (5, [.int (nI pm), .long fr, .long wk, .int 1, .ref pd, .ref pt, .ref pb, .long fe]))]) [0] rfl
        have hD9 := hD.sub (ws' := [(hp, .inr (5, [.int (nI pm), .long fr, .long wk, .int 1, .ref pd, .ref pt, .ref pb, .long fe]))]) [0] (by decide) rfl
        have hK9 := hK.sub (tys' := []) [] rfl
        exact W.iret (v := 0) hx hb hr (fun t ht hW => ⟨⟨0, (fr, fe, 1), rfl, trivial, by rw [ht]; exact hP9, va_K.moved hW.alike hK9, hD9⟩, hS.F ht⟩) hS.2.2 dX5_takeLeast_63
      · have hlt : i < 64 := Nat.lt_of_not_le (fun h => c_1 (nI_le h (by omega)))
        refine lv_aload_n hx hb dX5_takeLeast_8 rfl (lv_at hl 0 rfl) ?_
        refine va_get (D := (dC, dI)) (ci := 5) (v := .long fe) (C := RX5) (T := TX5) (N := 8) hx hb hts k_1 hown hK hP 0 rfl rfl 7 (by decide) k_3 (fun _ h9 => h9) rfl dX5_takeLeast_9 ?_
        refine lv_iload_n hx hb dX5_takeLeast_12 rfl (lv_at hl 1 rfl) ?_
        have hPc := hP.sub (ws' := []) [] rfl
        have hDc := hD.sub (ws' := []) [] (by decide) rfl
        have hKc := hK.sub (tys' := []) [] rfl
        have hFc := va_free (wc := []) hD hS hA [] rfl
        refine va_calli (va_runSN (As := [.long fe, .int (nI i)]) (rest := []) ⟨hx, hb, hml, hown, hts⟩ (c_X8_holds l dC dI H.size fe (nI i)) ⟨va_cnB 2 hts g_X5_takeLeast_X8_holds rfl rfl rfl hNX5_46 k_4 (by decide +kernel) ⟨Nat.le_of_ble_eq_true rfl, Nat.le_of_ble_eq_true rfl⟩, k_5, trivial⟩ ⟨fun a U g mk q => by obtain ⟨q0, q1, qP, qK, qD⟩ := q; exact ⟨q0, q1, qP, va_K.moved (u := U) (U := U.calling g mk a) (Vm.Alike.refl U.vm) qK, qD⟩, fun U hU hW => ⟨rfl, by rw [hU], by rw [hU]; exact hPc, va_K.moved hW.alike hKc, hDc.weaken (fun _ _ _ _ => trivial)⟩⟩ rfl rfl hl.1 rfl (lv_room (Nat.le_of_ble_eq_true rfl)) dX5_takeLeast_13 ⟨(show 0 + 0 ≤ 0 by omega), (show 0 + 0 ≤ 0 by omega)⟩) hS (fun q _ h => hFc q h) hFc (fun r_2 u t H1 locs ht hvm hw hB hz1 hk1 hS => ?_)
        obtain ⟨hP1, hK1, hD1⟩ := hB
        rw [ht] at hP1
        have hK1 := va_K.moved hvm.symm hK1
        try dsimp only at hw
        obtain ⟨hP, hD⟩ := va_join (wr := [(hp, .inr (5, [.int (nI pm), .long fr, .long wk, .int nr, .ref pd, .ref pt, .ref pb, .long fe]))]) (w1 := []) hP hD [] [0] rfl rfl (by decide) (by decide) hk1 hFc hP1 hD1
        have hK := (hK.sub (tys' := []) [] rfl).app hK1
        generalize H1 = H at hP hS ⊢
        have hP : va_P (dC, dI) vwCl [(hp, .inr (5, [.int (nI pm), .long fr, .long wk, .int nr, .ref pd, .ref pt, .ref pb, .long fe]))] H := hP
        have hD : va_D A [(hp, .inr (5, [.int (nI pm), .long fr, .long wk, .int nr, .ref pd, .ref pt, .ref pb, .long fe]))] := hD
        have hK : va_K (dC, dI) vwCl [] s := hK
        have hw_r_2 := hw
        refine lv_if_eq (tgt := 51) hx hb dX5_takeLeast_16 (by decide) (fun c_3 => ?_) (fun c_3 => ?_)
        · refine lv_iinc (v := (nI (i + 1))) (lv' := [(1, .int (nI (i + 1))), (0, .ref hp)]) hx hb dX5_takeLeast_51 hl (k := 1) rfl (nI_1 i) (by decide) rfl (fun ls hl => ?_)
          refine lv_goto (tgt := 2) hx hb dX5_takeLeast_54 (by decide) ?_
          exact ih_2 (i + 1) _ _ _ (by omega) (by omega) hP hD hS (lv_sub hl [1, 0] rfl)
        · refine lv_aload_n hx hb dX5_takeLeast_19 rfl (lv_at hl 0 rfl) ?_
          refine lv_dup hx hb dX5_takeLeast_20 rfl ?_
          refine va_get (D := (dC, dI)) (ci := 5) (v := .long fe) (C := RX5) (T := TX5) (N := 8) hx hb hts k_1 hown hK hP 0 rfl rfl 7 (by decide) k_3 (fun _ h9 => h9) rfl dX5_takeLeast_21 ?_
          refine lv_iload_n hx hb dX5_takeLeast_24 rfl (lv_at hl 1 rfl) ?_
          have hPc := hP.sub (ws' := []) [] rfl
          have hDc := hD.sub (ws' := []) [] (by decide) rfl
          have hKc := hK.sub (tys' := []) [] rfl
          have hFc := va_free (wc := []) hD hS hA [] rfl
          refine va_calll (va_runSN (As := [.int (nI i)]) (rest := [.long fe, .ref hp]) ⟨hx, hb, hml, hown, hts⟩ (c_X8_bit l dC dI H.size (nI i)) ⟨va_cnB 1 hts g_X5_takeLeast_X8_bit rfl rfl rfl hNX5_54 k_4 (by decide +kernel) ⟨Nat.le_of_ble_eq_true rfl, Nat.le_of_ble_eq_true rfl⟩, k_6, trivial⟩ ⟨fun a U g mk q => by obtain ⟨q0, q1, qP, qK, qD⟩ := q; exact ⟨q0, q1, qP, va_K.moved (u := U) (U := U.calling g mk a) (Vm.Alike.refl U.vm) qK, qD⟩, fun U hU hW => ⟨rfl, by rw [hU], by rw [hU]; exact hPc, va_K.moved hW.alike hKc, hDc.weaken (fun _ _ _ _ => trivial)⟩⟩ rfl rfl hl.1 rfl (lv_room (Nat.le_of_ble_eq_true rfl)) dX5_takeLeast_25 ⟨(show 0 + 0 ≤ 0 by omega), (show 0 + 0 ≤ 0 by omega)⟩) hS (fun q _ h => hFc q h) hFc (fun r_4 u t H1 locs ht hvm hw hB hz1 hk1 hS => ?_)
          obtain ⟨hP1, hK1, hD1⟩ := hB
          rw [ht] at hP1
          have hK1 := va_K.moved hvm.symm hK1
          try dsimp only at hw
          obtain ⟨hP, hD⟩ := va_join (wr := [(hp, .inr (5, [.int (nI pm), .long fr, .long wk, .int nr, .ref pd, .ref pt, .ref pb, .long fe]))]) (w1 := []) hP hD [] [0] rfl rfl (by decide) (by decide) hk1 hFc hP1 hD1
          have hK := (hK.sub (tys' := []) [] rfl).app hK1
          generalize H1 = H at hP hS ⊢
          have hP : va_P (dC, dI) vwCl [(hp, .inr (5, [.int (nI pm), .long fr, .long wk, .int nr, .ref pd, .ref pt, .ref pb, .long fe]))] H := hP
          have hD : va_D A [(hp, .inr (5, [.int (nI pm), .long fr, .long wk, .int nr, .ref pd, .ref pt, .ref pb, .long fe]))] := hD
          have hK : va_K (dC, dI) vwCl [] s := hK
          have hw_r_4 := hw
          refine lv_ldc2 (v := (-1)) hx hb hown k_7 dX5_takeLeast_28 ?_
          refine lv_lxor hx hb dX5_takeLeast_31 ?_
          refine lv_topl (fun z_5 _ => ?_)
          refine lv_land hx hb dX5_takeLeast_32 ?_
          refine lv_topl (fun z_6 _ => ?_)
          refine va_put (D := (dC, dI)) (ci := 5) (v := .long z_6) (ty := .long) (C := RX5) (T := TX5) (N := 8) hx hb hts k_1 tyX5 tyX5_ok nmX5 hown hK hP hD hS 0 rfl rfl 7 (by decide) k_3 (fun _ h9 => h9) rfl (by decide +kernel) rfl rfl (Nat.le_of_ble_eq_true rfl) dX5_takeLeast_33 (fun H locs hP hD hS => ?_)
          have hP : va_P (dC, dI) vwCl [(hp, .inr (5, [.int (nI pm), .long fr, .long wk, .int nr, .ref pd, .ref pt, .ref pb, .long z_6]))] H := hP
          have hD : va_D A [(hp, .inr (5, [.int (nI pm), .long fr, .long wk, .int nr, .ref pd, .ref pt, .ref pb, .long z_6]))] := hD
          refine lv_aload_n hx hb dX5_takeLeast_36 rfl (lv_at hl 0 rfl) ?_
          refine lv_dup hx hb dX5_takeLeast_37 rfl ?_
          refine va_get (D := (dC, dI)) (ci := 5) (v := .long fr) (C := RX5) (T := TX5) (N := 8) hx hb hts k_1 hown hK hP 0 rfl rfl 1 (by decide) k_8 (fun _ h9 => h9) rfl dX5_takeLeast_38 ?_
          refine lv_iload_n hx hb dX5_takeLeast_41 rfl (lv_at hl 1 rfl) ?_
          have hPc := hP.sub (ws' := []) [] rfl
          have hDc := hD.sub (ws' := []) [] (by decide) rfl
          have hKc := hK.sub (tys' := []) [] rfl
          have hFc := va_free (wc := []) hD hS hA [] rfl
          refine va_calll (va_runSN (As := [.int (nI i)]) (rest := [.long fr, .ref hp]) ⟨hx, hb, hml, hown, hts⟩ (c_X8_bit l dC dI H.size (nI i)) ⟨va_cnB 1 hts g_X5_takeLeast_X8_bit rfl rfl rfl hNX5_54 k_4 (by decide +kernel) ⟨Nat.le_of_ble_eq_true rfl, Nat.le_of_ble_eq_true rfl⟩, k_6, trivial⟩ ⟨fun a U g mk q => by obtain ⟨q0, q1, qP, qK, qD⟩ := q; exact ⟨q0, q1, qP, va_K.moved (u := U) (U := U.calling g mk a) (Vm.Alike.refl U.vm) qK, qD⟩, fun U hU hW => ⟨rfl, by rw [hU], by rw [hU]; exact hPc, va_K.moved hW.alike hKc, hDc.weaken (fun _ _ _ _ => trivial)⟩⟩ rfl rfl hl.1 rfl (lv_room (Nat.le_of_ble_eq_true rfl)) dX5_takeLeast_42 ⟨(show 0 + 0 ≤ 0 by omega), (show 0 + 0 ≤ 0 by omega)⟩) hS (fun q _ h => hFc q h) hFc (fun r_7 u t H1 locs ht hvm hw hB hz1 hk1 hS => ?_)
          obtain ⟨hP1, hK1, hD1⟩ := hB
          rw [ht] at hP1
          have hK1 := va_K.moved hvm.symm hK1
          try dsimp only at hw
          obtain ⟨hP, hD⟩ := va_join (wr := [(hp, .inr (5, [.int (nI pm), .long fr, .long wk, .int nr, .ref pd, .ref pt, .ref pb, .long z_6]))]) (w1 := []) hP hD [] [0] rfl rfl (by decide) (by decide) hk1 hFc hP1 hD1
          have hK := (hK.sub (tys' := []) [] rfl).app hK1
          generalize H1 = H at hP hS ⊢
          have hP : va_P (dC, dI) vwCl [(hp, .inr (5, [.int (nI pm), .long fr, .long wk, .int nr, .ref pd, .ref pt, .ref pb, .long z_6]))] H := hP
          have hD : va_D A [(hp, .inr (5, [.int (nI pm), .long fr, .long wk, .int nr, .ref pd, .ref pt, .ref pb, .long z_6]))] := hD
          have hK : va_K (dC, dI) vwCl [] s := hK
          have hw_r_7 := hw
          refine lv_lor hx hb dX5_takeLeast_45 ?_
          refine lv_topl (fun z_8 _ => ?_)
          refine va_put (D := (dC, dI)) (ci := 5) (v := .long z_8) (ty := .long) (C := RX5) (T := TX5) (N := 8) hx hb hts k_1 tyX5 tyX5_ok nmX5 hown hK hP hD hS 0 rfl rfl 1 (by decide) k_8 (fun _ h9 => h9) rfl (by decide +kernel) rfl rfl (Nat.le_of_ble_eq_true rfl) dX5_takeLeast_46 (fun H locs hP hD hS => ?_)
          have hP : va_P (dC, dI) vwCl [(hp, .inr (5, [.int (nI pm), .long z_8, .long wk, .int nr, .ref pd, .ref pt, .ref pb, .long z_6]))] H := hP
          have hD : va_D A [(hp, .inr (5, [.int (nI pm), .long z_8, .long wk, .int nr, .ref pd, .ref pt, .ref pb, .long z_6]))] := hD
          refine lv_iload_n hx hb dX5_takeLeast_49 rfl (lv_at hl 1 rfl) ?_
          have hP9 := hP.sub (ws' := [(hp, .inr (5, [.int (nI pm), .long z_8, .long wk, .int nr, .ref pd, .ref pt, .ref pb, .long z_6]))]) [0] rfl
          have hD9 := hD.sub (ws' := [(hp, .inr (5, [.int (nI pm), .long z_8, .long wk, .int nr, .ref pd, .ref pt, .ref pb, .long z_6]))]) [0] (by decide) rfl
          have hK9 := hK.sub (tys' := []) [] rfl
          exact W.iret (v := (nI i)) hx hb hr (fun t ht hW => ⟨⟨(nI i), (z_8, z_6, nr), rfl, trivial, by rw [ht]; exact hP9, va_K.moved hW.alike hK9, hD9⟩, hS.F ht⟩) hS.2.2 dX5_takeLeast_50
  exact loop_2 (64 + 1) 2 _ _ _ (by omega) (by omega) hP hD hS (lv_sub hl [1, 0] rfl)
def v_X5_drop : List Cond := .code yX5_drop cX5_drop 2 none :: ([.fieldLink RX5 43 "TwinRoots$Plan" "work" "J", .code yX8_bit cX8_bit 1 (some .long), .initialized RX8, .static yX8_bit, .constantLong RX5 58 (-1)] ++ (wsX50 ++ ([])))
set_option maxRecDepth 20000 in
theorem g_X5_drop_X8_bit : GoodIn v_X5_drop v_X8_bit := goodIn_r _ [2] (by decide +kernel) (by decide +kernel)
set_option maxHeartbeats 4000000 in
set_option maxRecDepth 100000 in
/-- drop -/
theorem c_X5_drop (l : Launch) (dC : Nat → ClassId) (dI : Nat → Nat → Nat) (sz : Nat) (hp : Nat) (pd : Nat) (pt : Nat) (pb : Nat) (fr : Int64) (wk : Int64) (fe : Int64) (nr : Int32) (pm : Nat) (p0 : Int32) : Met l yX5_drop v_X5_drop ({ frames := 1, cells := 0, slots := 0, locals := 20 } : Room) (va_Pc [.ref hp, .int p0] (fun U => U.heap.size = sz ∧ va_P (dC, dI) vwCl [(hp, .inr (5, [.int (nI pm), .long fr, .long wk, .int nr, .ref pd, .ref pt, .ref pb, .long fe]))] U.heap ∧ va_K (dC, dI) vwCl [] U ∧ va_D (fun _ => True) [(hp, .inr (5, [.int (nI pm), .long fr, .long wk, .int nr, .ref pd, .ref pt, .ref pb, .long fe]))] ∧ va_Nw (.methodLinkNest RX5 54 yX8_bit "TwinRoots") U)) (va_Qv (fun (wk2 : Int64) => True) (fun (wk2 : Int64) (t : State) => va_P (dC, dI) vwCl [(hp, .inr (5, [.int (nI pm), .long fr, .long wk2, .int nr, .ref pd, .ref pt, .ref pb, .long fe]))] t.heap ∧ va_K (dC, dI) vwCl [] t ∧ va_D (va_A [(hp, .inr (5, [.int (nI pm), .long fr, .long wk, .int nr, .ref pd, .ref pt, .ref pb, .long fe]))] sz) [(hp, .inr (5, [.int (nI pm), .long fr, .long wk2, .int nr, .ref pd, .ref pt, .ref pb, .long fe]))]) (va_A [(hp, .inr (5, [.int (nI pm), .long fr, .long wk, .int nr, .ref pd, .ref pt, .ref pb, .long fe]))] sz)) 0 0 (va_A [(hp, .inr (5, [.int (nI pm), .long fr, .long wk, .int nr, .ref pd, .ref pt, .ref pb, .long fe]))] sz) := by
  refine Met.ofW (cc := cX5_drop) (maxL := 2) (ret := none) (by decide) rfl ?_
  intro p e s m args below meth c s₁ B hml hv
  obtain ⟨rfl, hsz, hP, hK, hD0, hNX5_54⟩ := hv
  have hx := B.exec
  have hb := B.bytes
  have hr := B.returns
  have hts := atoms_spec (ws := v_X5_drop) B.pre
  have hown : s.vm.findClass RX5 = some m.cls := findClass_of_methodNamed B.named
  have hlocks := B.notSynchronized
  subst hsz
  have hD := hD0.self (sz := s.heap.size)
  generalize hAe : va_A [(hp, .inr (5, [.int (nI pm), .long fr, .long wk, .int nr, .ref pd, .ref pt, .ref pb, .long fe]))] s.heap.size = A at hD ⊢
  have hA : ∀ q : Nat, s.heap.size ≤ q → A q := fun q h => by rw [← hAe]; exact Or.inr h
  have hS : va_S A s.heap s.heap [] := va_S.rf
  have hP : va_P (dC, dI) vwCl [(hp, .inr (5, [.int (nI pm), .long fr, .long wk, .int nr, .ref pd, .ref pt, .ref pb, .long fe]))] s.heap := hP
  have hl := lv_entry ([.ref hp, .int p0]) (n := 2) (Nat.le_of_ble_eq_true rfl)
  rw [lg_entry_eq]
  generalize (lg_sl ([.ref hp, .int p0]) ++ List.replicate (2 - (lg_sl ([.ref hp, .int p0])).length) Slot.unset).toArray = ls at hl ⊢
  have hl : lv_has ls 2 [(0, .ref hp), (1, .int p0)] := hl
  have k_1 := (fun _ h => List.mem_cons_of_mem _ (List.mem_append_right _ (List.mem_append_left _ h)) : ∀ w ∈ wsX50, w ∈ v_X5_drop)
  have k_2 := hts (.fieldLink RX5 43 "TwinRoots$Plan" "work" "J") (List.mem_of_getElem? (i := 1) rfl)
  have k_3 := hts (.initialized RX8) (List.mem_of_getElem? (i := 3) rfl)
  have k_4 := hts (.static yX8_bit) (List.mem_of_getElem? (i := 4) rfl)
  have k_5 := hts (.constantLong RX5 58 (-1)) (List.mem_of_getElem? (i := 5) rfl)
  refine lv_aload_n hx hb dX5_drop_0 rfl (lv_at hl 0 rfl) ?_
  refine lv_dup hx hb dX5_drop_1 rfl ?_
  refine va_get (D := (dC, dI)) (ci := 5) (v := .long wk) (C := RX5) (T := TX5) (N := 8) hx hb hts k_1 hown hK hP 0 rfl rfl 2 (by decide) k_2 (fun _ h9 => h9) rfl dX5_drop_2 ?_
  refine lv_iload_n hx hb dX5_drop_5 rfl (lv_at hl 1 rfl) ?_
  have hPc := hP.sub (ws' := []) [] rfl
  have hDc := hD.sub (ws' := []) [] (by decide) rfl
  have hKc := hK.sub (tys' := []) [] rfl
  have hFc := va_free (wc := []) hD hS hA [] rfl
  refine va_calll (va_runSN (As := [.int p0]) (rest := [.long wk, .ref hp]) ⟨hx, hb, hml, hown, hts⟩ (c_X8_bit l dC dI s.heap.size p0) ⟨va_cnB 1 hts g_X5_drop_X8_bit rfl rfl rfl hNX5_54 k_3 (by decide +kernel) ⟨Nat.le_of_ble_eq_true rfl, Nat.le_of_ble_eq_true rfl⟩, k_4, trivial⟩ ⟨fun a U g mk q => by obtain ⟨q0, q1, qP, qK, qD⟩ := q; exact ⟨q0, q1, qP, va_K.moved (u := U) (U := U.calling g mk a) (Vm.Alike.refl U.vm) qK, qD⟩, fun U hU hW => ⟨rfl, by rw [hU], by rw [hU]; exact hPc, va_K.moved hW.alike hKc, hDc.weaken (fun _ _ _ _ => trivial)⟩⟩ rfl rfl hl.1 rfl (lv_room (Nat.le_of_ble_eq_true rfl)) dX5_drop_6 ⟨(show 0 + 0 ≤ 0 by omega), (show 0 + 0 ≤ 0 by omega)⟩) hS (fun q _ h => hFc q h) hFc (fun r_1 u t H1 locs ht hvm hw hB hz1 hk1 hS => ?_)
  obtain ⟨hP1, hK1, hD1⟩ := hB
  rw [ht] at hP1
  have hK1 := va_K.moved hvm.symm hK1
  try dsimp only at hw
  obtain ⟨hP, hD⟩ := va_join (wr := [(hp, .inr (5, [.int (nI pm), .long fr, .long wk, .int nr, .ref pd, .ref pt, .ref pb, .long fe]))]) (w1 := []) hP hD [] [0] rfl rfl (by decide) (by decide) hk1 hFc hP1 hD1
  have hK := (hK.sub (tys' := []) [] rfl).app hK1
  generalize H1 = H at hP hS ⊢
  have hP : va_P (dC, dI) vwCl [(hp, .inr (5, [.int (nI pm), .long fr, .long wk, .int nr, .ref pd, .ref pt, .ref pb, .long fe]))] H := hP
  have hD : va_D A [(hp, .inr (5, [.int (nI pm), .long fr, .long wk, .int nr, .ref pd, .ref pt, .ref pb, .long fe]))] := hD
  have hK : va_K (dC, dI) vwCl [] s := hK
  have hw_r_1 := hw
  refine lv_ldc2 (v := (-1)) hx hb hown k_5 dX5_drop_9 ?_
  refine lv_lxor hx hb dX5_drop_12 ?_
  refine lv_topl (fun z_2 _ => ?_)
  refine lv_land hx hb dX5_drop_13 ?_
  refine lv_topl (fun z_3 _ => ?_)
  refine va_put (D := (dC, dI)) (ci := 5) (v := .long z_3) (ty := .long) (C := RX5) (T := TX5) (N := 8) hx hb hts k_1 tyX5 tyX5_ok nmX5 hown hK hP hD hS 0 rfl rfl 2 (by decide) k_2 (fun _ h9 => h9) rfl (by decide +kernel) rfl rfl (Nat.le_of_ble_eq_true rfl) dX5_drop_14 (fun H locs hP hD hS => ?_)
  have hP : va_P (dC, dI) vwCl [(hp, .inr (5, [.int (nI pm), .long fr, .long z_3, .int nr, .ref pd, .ref pt, .ref pb, .long fe]))] H := hP
  have hD : va_D A [(hp, .inr (5, [.int (nI pm), .long fr, .long z_3, .int nr, .ref pd, .ref pt, .ref pb, .long fe]))] := hD
  have hP9 := hP.sub (ws' := [(hp, .inr (5, [.int (nI pm), .long fr, .long z_3, .int nr, .ref pd, .ref pt, .ref pb, .long fe]))]) [0] rfl
  have hD9 := hD.sub (ws' := [(hp, .inr (5, [.int (nI pm), .long fr, .long z_3, .int nr, .ref pd, .ref pt, .ref pb, .long fe]))]) [0] (by decide) rfl
  have hK9 := hK.sub (tys' := []) [] rfl
  exact W.vret hx hb hr (fun t ht hW => ⟨⟨(z_3), rfl, trivial, by rw [ht]; exact hP9, va_K.moved hW.alike hK9, hD9⟩, hS.F ht⟩) hS.2.2 dX5_drop_17
def v_X5_target : List Cond := .code yX5_target cX5_target 2 (some .int) :: ([.fieldLink RX5 28 "TwinRoots$Plan" "many" "I", .fieldLink RX5 20 "TwinRoots$Plan" "targets" "[I"] ++ (wsX50 ++ ([])))
set_option maxHeartbeats 4000000 in
set_option maxRecDepth 100000 in
/-- target: some number -/
theorem c_X5_target (l : Launch) (dC : Nat → ClassId) (dI : Nat → Nat → Nat) (sz : Nat) (hp : Nat) (pd : Nat) (pt : Nat) (pb : Nat) (fr : Int64) (wk : Int64) (fe : Int64) (nr : Int32) (pm : Nat) (p0 : Int32) (cI : ClassId) (ft : Nat → Int32) : Met l yX5_target v_X5_target ({ frames := 0, cells := 0, slots := 0, locals := 0 } : Room) (va_Pc [.ref hp, .int p0] (fun U => U.heap.size = sz ∧ va_P (dC, dI) vwCl [(hp, .inr (5, [.int (nI pm), .long fr, .long wk, .int nr, .ref pd, .ref pt, .ref pb, .long fe])), (pt, .inl (cI, 25, .inl ft))] U.heap ∧ va_K (dC, dI) vwCl [(cI, .int)] U ∧ va_D (fun _ => True) [(hp, .inr (5, [.int (nI pm), .long fr, .long wk, .int nr, .ref pd, .ref pt, .ref pb, .long fe])), (pt, .inl (cI, 25, .inl ft))])) (va_Qi (fun (r : Int32) (_ : Unit) => True) (fun (_ : Unit) (t : State) => va_P (dC, dI) vwCl [(hp, .inr (5, [.int (nI pm), .long fr, .long wk, .int nr, .ref pd, .ref pt, .ref pb, .long fe])), (pt, .inl (cI, 25, .inl ft))] t.heap ∧ va_K (dC, dI) vwCl [(cI, .int)] t ∧ va_D (va_A [(hp, .inr (5, [.int (nI pm), .long fr, .long wk, .int nr, .ref pd, .ref pt, .ref pb, .long fe])), (pt, .inl (cI, 25, .inl ft))] sz) [(hp, .inr (5, [.int (nI pm), .long fr, .long wk, .int nr, .ref pd, .ref pt, .ref pb, .long fe])), (pt, .inl (cI, 25, .inl ft))]) (va_A [(hp, .inr (5, [.int (nI pm), .long fr, .long wk, .int nr, .ref pd, .ref pt, .ref pb, .long fe])), (pt, .inl (cI, 25, .inl ft))] sz)) 0 0 (va_A [(hp, .inr (5, [.int (nI pm), .long fr, .long wk, .int nr, .ref pd, .ref pt, .ref pb, .long fe])), (pt, .inl (cI, 25, .inl ft))] sz) := by
  refine Met.ofW (cc := cX5_target) (maxL := 2) (ret := (some .int)) (by decide) rfl ?_
  intro p e s m args below meth c s₁ B hml hv
  obtain ⟨rfl, hsz, hP, hK, hD0⟩ := hv
  have hx := B.exec
  have hb := B.bytes
  have hr := B.returns
  have hts := atoms_spec (ws := v_X5_target) B.pre
  have hown : s.vm.findClass RX5 = some m.cls := findClass_of_methodNamed B.named
  have hlocks := B.notSynchronized
  subst hsz
  have hD := hD0.self (sz := s.heap.size)
  generalize hAe : va_A [(hp, .inr (5, [.int (nI pm), .long fr, .long wk, .int nr, .ref pd, .ref pt, .ref pb, .long fe])), (pt, .inl (cI, 25, .inl ft))] s.heap.size = A at hD ⊢
  have hA : ∀ q : Nat, s.heap.size ≤ q → A q := fun q h => by rw [← hAe]; exact Or.inr h
  have hS : va_S A s.heap s.heap [] := va_S.rf
  have hP : va_P (dC, dI) vwCl [(hp, .inr (5, [.int (nI pm), .long fr, .long wk, .int nr, .ref pd, .ref pt, .ref pb, .long fe])), (pt, .inl (cI, 25, .inl ft))] s.heap := hP
  have hl := lv_entry ([.ref hp, .int p0]) (n := 2) (Nat.le_of_ble_eq_true rfl)
  rw [lg_entry_eq]
  generalize (lg_sl ([.ref hp, .int p0]) ++ List.replicate (2 - (lg_sl ([.ref hp, .int p0])).length) Slot.unset).toArray = ls at hl ⊢
  have hl : lv_has ls 2 [(0, .ref hp), (1, .int p0)] := hl
  have k_1 := (fun _ h => List.mem_cons_of_mem _ (List.mem_append_right _ (List.mem_append_left _ h)) : ∀ w ∈ wsX50, w ∈ v_X5_target)
  have k_2 := hts (.fieldLink RX5 28 "TwinRoots$Plan" "many" "I") (List.mem_of_getElem? (i := 1) rfl)
  have k_3 := hts (.fieldLink RX5 20 "TwinRoots$Plan" "targets" "[I") (List.mem_of_getElem? (i := 2) rfl)
  refine lv_iload_n hx hb dX5_target_0 rfl (lv_at hl 1 rfl) ?_
  refine lv_if_lt (tgt := 30) hx hb dX5_target_1 (by decide) (fun c_1 => ?_) (fun c_1 => ?_)
  · refine lv_iconst (v := 0) hx hb dX5_target_30 (by decide) ?_
    have hP9 := hP.sub (ws' := [(hp, .inr (5, [.int (nI pm), .long fr, .long wk, .int nr, .ref pd, .ref pt, .ref pb, .long fe])), (pt, .inl (cI, 25, .inl ft))]) [0, 1] rfl
    have hD9 := hD.sub (ws' := [(hp, .inr (5, [.int (nI pm), .long fr, .long wk, .int nr, .ref pd, .ref pt, .ref pb, .long fe])), (pt, .inl (cI, 25, .inl ft))]) [0, 1] (by decide) rfl
    have hK9 := hK.sub (tys' := [(cI, .int)]) [0] rfl
    exact W.iret (v := 0) hx hb hr (fun t ht hW => ⟨⟨0, (), rfl, trivial, by rw [ht]; exact hP9, va_K.moved hW.alike hK9, hD9⟩, hS.F ht⟩) hS.2.2 dX5_target_31
  · refine lv_iload_n hx hb dX5_target_4 rfl (lv_at hl 1 rfl) ?_
    refine lv_aload_n hx hb dX5_target_5 rfl (lv_at hl 0 rfl) ?_
    refine va_get (D := (dC, dI)) (ci := 5) (v := .int (nI pm)) (C := RX5) (T := TX5) (N := 8) hx hb hts k_1 hown hK hP 0 rfl rfl 0 (by decide) k_2 (fun _ h9 => h9) rfl dX5_target_6 ?_
    refine lv_icmp_ge (tgt := 30) hx hb dX5_target_9 (by decide) (fun c_2 => ?_) (fun c_2 => ?_)
    · refine lv_iconst (v := 0) hx hb dX5_target_30 (by decide) ?_
      have hP9 := hP.sub (ws' := [(hp, .inr (5, [.int (nI pm), .long fr, .long wk, .int nr, .ref pd, .ref pt, .ref pb, .long fe])), (pt, .inl (cI, 25, .inl ft))]) [0, 1] rfl
      have hD9 := hD.sub (ws' := [(hp, .inr (5, [.int (nI pm), .long fr, .long wk, .int nr, .ref pd, .ref pt, .ref pb, .long fe])), (pt, .inl (cI, 25, .inl ft))]) [0, 1] (by decide) rfl
      have hK9 := hK.sub (tys' := [(cI, .int)]) [0] rfl
      exact W.iret (v := 0) hx hb hr (fun t ht hW => ⟨⟨0, (), rfl, trivial, by rw [ht]; exact hP9, va_K.moved hW.alike hK9, hD9⟩, hS.F ht⟩) hS.2.2 dX5_target_31
    · refine lv_iload_n hx hb dX5_target_12 rfl (lv_at hl 1 rfl) ?_
      refine lv_aload_n hx hb dX5_target_13 rfl (lv_at hl 0 rfl) ?_
      refine va_get (D := (dC, dI)) (ci := 5) (v := .ref pt) (C := RX5) (T := TX5) (N := 8) hx hb hts k_1 hown hK hP 0 rfl rfl 5 (by decide) k_3 (fun _ h9 => h9) rfl dX5_target_14 ?_
      refine va_alen (v := nI 25) hx hb hK hP 1 0 rfl rfl rfl dX5_target_17 ?_
      refine lv_icmp_ge (tgt := 30) hx hb dX5_target_18 (by decide) (fun c_3 => ?_) (fun c_3 => ?_)
      · refine lv_iconst (v := 0) hx hb dX5_target_30 (by decide) ?_
        have hP9 := hP.sub (ws' := [(hp, .inr (5, [.int (nI pm), .long fr, .long wk, .int nr, .ref pd, .ref pt, .ref pb, .long fe])), (pt, .inl (cI, 25, .inl ft))]) [0, 1] rfl
        have hD9 := hD.sub (ws' := [(hp, .inr (5, [.int (nI pm), .long fr, .long wk, .int nr, .ref pd, .ref pt, .ref pb, .long fe])), (pt, .inl (cI, 25, .inl ft))]) [0, 1] (by decide) rfl
        have hK9 := hK.sub (tys' := [(cI, .int)]) [0] rfl
        exact W.iret (v := 0) hx hb hr (fun t ht hW => ⟨⟨0, (), rfl, trivial, by rw [ht]; exact hP9, va_K.moved hW.alike hK9, hD9⟩, hS.F ht⟩) hS.2.2 dX5_target_31
      · refine lv_aload_n hx hb dX5_target_21 rfl (lv_at hl 0 rfl) ?_
        refine va_get (D := (dC, dI)) (ci := 5) (v := .ref pt) (C := RX5) (T := TX5) (N := 8) hx hb hts k_1 hown hK hP 0 rfl rfl 5 (by decide) k_3 (fun _ h9 => h9) rfl dX5_target_22 ?_
        refine lv_iload_n hx hb dX5_target_25 rfl (lv_at hl 1 rfl) ?_
        refine va_iald hx hb hK hP 1 0 rfl rfl (in_guard c_1 c_3 (by omega)) dX5_target_26 ?_
        refine lv_topi (fun z_4 _ => ?_)
        refine lv_goto (tgt := 31) hx hb dX5_target_27 (by decide) ?_
        have hP9 := hP.sub (ws' := [(hp, .inr (5, [.int (nI pm), .long fr, .long wk, .int nr, .ref pd, .ref pt, .ref pb, .long fe])), (pt, .inl (cI, 25, .inl ft))]) [0, 1] rfl
        have hD9 := hD.sub (ws' := [(hp, .inr (5, [.int (nI pm), .long fr, .long wk, .int nr, .ref pd, .ref pt, .ref pb, .long fe])), (pt, .inl (cI, 25, .inl ft))]) [0, 1] (by decide) rfl
        have hK9 := hK.sub (tys' := [(cI, .int)]) [0] rfl
        exact W.iret (v := z_4) hx hb hr (fun t ht hW => ⟨⟨z_4, (), rfl, trivial, by rw [ht]; exact hP9, va_K.moved hW.alike hK9, hD9⟩, hS.F ht⟩) hS.2.2 dX5_target_31
def v_X5_draft : List Cond := .code yX5_draft cX5_draft 2 (some (.object "TwinRoots$Page")) :: ([.fieldLink RX5 24 "TwinRoots$Plan" "blank" "LTwinRoots$Page;", .fieldLink RX5 28 "TwinRoots$Plan" "many" "I", .fieldLink RX5 11 "TwinRoots$Plan" "drafts" "[LTwinRoots$Page;"] ++ (wsX50 ++ ([])))
set_option maxHeartbeats 4000000 in
set_option maxRecDepth 100000 in
/-- draft: one of the plan -/
theorem c_X5_draft (l : Launch) (dC : Nat → ClassId) (dI : Nat → Nat → Nat) (sz : Nat) (hp : Nat) (pd : Nat) (pt : Nat) (pb : Nat) (fr : Int64) (wk : Int64) (fe : Int64) (nr : Int32) (pm : Nat) (p0 : Int32) (cO : ClassId) (fd : Nat → Option Nat) (G : pgG) (Pg : List Nat) (cI : ClassId) (S : pgS) (hI : pgI G Pg S) (hdr : ∀ i, i < 25 → ∃ a, a ∈ Pg ∧ (G a).2.2.2 = 1 ∧ fd i = some a) (hm_pb : pb ∈ Pg) (ht_pb : (G pb).2.2.2 = 1) : Met l yX5_draft v_X5_draft ({ frames := 0, cells := 0, slots := 0, locals := 0 } : Room) (va_Pc [.ref hp, .int p0] (fun U => U.heap.size = sz ∧ va_P (dC, dI) vwCl ([(hp, .inr (5, [.int (nI pm), .long fr, .long wk, .int nr, .ref pd, .ref pt, .ref pb, .long fe])), (pd, .inl (cO, 25, .inr (.inr (.inr (.inr fd)))))] ++ pool G cI Pg S) U.heap ∧ va_K (dC, dI) vwCl [(cO, .object RX4), (cI, .int)] U ∧ va_D (fun _ => True) ([(hp, .inr (5, [.int (nI pm), .long fr, .long wk, .int nr, .ref pd, .ref pt, .ref pb, .long fe])), (pd, .inl (cO, 25, .inr (.inr (.inr (.inr fd)))))] ++ pool G cI Pg S))) (va_Qr (fun (a : Nat) => a ∈ Pg ∧ (G a).2.2.2 = 1) (fun (a : Nat) (ra : Nat) (t : State) => ra = a ∧ va_P (dC, dI) vwCl ([(hp, .inr (5, [.int (nI pm), .long fr, .long wk, .int nr, .ref pd, .ref pt, .ref pb, .long fe])), (pd, .inl (cO, 25, .inr (.inr (.inr (.inr fd)))))] ++ pool G cI Pg S) t.heap ∧ va_K (dC, dI) vwCl [(cO, .object RX4), (cI, .int)] t ∧ va_D (va_A ([(hp, .inr (5, [.int (nI pm), .long fr, .long wk, .int nr, .ref pd, .ref pt, .ref pb, .long fe])), (pd, .inl (cO, 25, .inr (.inr (.inr (.inr fd)))))] ++ pool G cI Pg S) sz) ([(hp, .inr (5, [.int (nI pm), .long fr, .long wk, .int nr, .ref pd, .ref pt, .ref pb, .long fe])), (pd, .inl (cO, 25, .inr (.inr (.inr (.inr fd)))))] ++ pool G cI Pg S)) (va_A ([(hp, .inr (5, [.int (nI pm), .long fr, .long wk, .int nr, .ref pd, .ref pt, .ref pb, .long fe])), (pd, .inl (cO, 25, .inr (.inr (.inr (.inr fd)))))] ++ pool G cI Pg S) sz)) 0 0 (va_A ([(hp, .inr (5, [.int (nI pm), .long fr, .long wk, .int nr, .ref pd, .ref pt, .ref pb, .long fe])), (pd, .inl (cO, 25, .inr (.inr (.inr (.inr fd)))))] ++ pool G cI Pg S) sz) := by
  refine Met.ofW (cc := cX5_draft) (maxL := 2) (ret := (some (.object "TwinRoots$Page"))) (by decide) rfl ?_
  intro p e s m args below meth c s₁ B hml hv
  obtain ⟨rfl, hsz, hP, hK, hD0⟩ := hv
  have hx := B.exec
  have hb := B.bytes
  have hr := B.returns
  have hts := atoms_spec (ws := v_X5_draft) B.pre
  have hown : s.vm.findClass RX5 = some m.cls := findClass_of_methodNamed B.named
  have hlocks := B.notSynchronized
  subst hsz
  have hD := hD0.self (sz := s.heap.size)
  generalize hAe : va_A ([(hp, .inr (5, [.int (nI pm), .long fr, .long wk, .int nr, .ref pd, .ref pt, .ref pb, .long fe])), (pd, .inl (cO, 25, .inr (.inr (.inr (.inr fd)))))] ++ pool G cI Pg S) s.heap.size = A at hD ⊢
  have hA : ∀ q : Nat, s.heap.size ≤ q → A q := fun q h => by rw [← hAe]; exact Or.inr h
  have hS : va_S A s.heap s.heap [] := va_S.rf
  have hP : va_P (dC, dI) vwCl ([(hp, .inr (5, [.int (nI pm), .long fr, .long wk, .int nr, .ref pd, .ref pt, .ref pb, .long fe])), (pd, .inl (cO, 25, .inr (.inr (.inr (.inr fd)))))] ++ pool G cI Pg S) s.heap := hP
  have hl := lv_entry ([.ref hp, .int p0]) (n := 2) (Nat.le_of_ble_eq_true rfl)
  rw [lg_entry_eq]
  generalize (lg_sl ([.ref hp, .int p0]) ++ List.replicate (2 - (lg_sl ([.ref hp, .int p0])).length) Slot.unset).toArray = ls at hl ⊢
  have hl : lv_has ls 2 [(0, .ref hp), (1, .int p0)] := hl
  have k_1 := (fun _ h => List.mem_cons_of_mem _ (List.mem_append_right _ (List.mem_append_left _ h)) : ∀ w ∈ wsX50, w ∈ v_X5_draft)
  have k_2 := hts (.fieldLink RX5 24 "TwinRoots$Plan" "blank" "LTwinRoots$Page;") (List.mem_of_getElem? (i := 1) rfl)
  have k_3 := hts (.fieldLink RX5 28 "TwinRoots$Plan" "many" "I") (List.mem_of_getElem? (i := 2) rfl)
  have k_4 := hts (.fieldLink RX5 11 "TwinRoots$Plan" "drafts" "[LTwinRoots$Page;") (List.mem_of_getElem? (i := 3) rfl)
  refine lv_iload_n hx hb dX5_draft_0 rfl (lv_at hl 1 rfl) ?_
  refine lv_if_lt (tgt := 30) hx hb dX5_draft_1 (by decide) (fun c_1 => ?_) (fun c_1 => ?_)
  · refine lv_aload_n hx hb dX5_draft_30 rfl (lv_at hl 0 rfl) ?_
    refine va_get (D := (dC, dI)) (ci := 5) (v := .ref pb) (C := RX5) (T := TX5) (N := 8) hx hb hts k_1 hown hK hP 0 rfl rfl 6 (by decide) k_2 (fun _ h9 => h9) rfl dX5_draft_31 ?_
    have hP9 := hP.part (cx := [(hp, .inr (5, [.int (nI pm), .long fr, .long wk, .int nr, .ref pd, .ref pt, .ref pb, .long fe])), (pd, .inl (cO, 25, .inr (.inr (.inr (.inr fd)))))]) [0, 1] rfl
    have hD9 := hD.part (cx := [(hp, .inr (5, [.int (nI pm), .long fr, .long wk, .int nr, .ref pd, .ref pt, .ref pb, .long fe])), (pd, .inl (cO, 25, .inr (.inr (.inr (.inr fd)))))]) [0, 1] (by decide) rfl
    have hK9 := hK.sub (tys' := [(cO, .object RX4), (cI, .int)]) [0, 1] rfl
    exact W.aret (v := .ref pb) hx hb hr (Or.inl ⟨_, rfl⟩) (Or.inr ⟨_, rfl⟩) (fun t ht hW => ⟨⟨(pb), pb, rfl, ⟨hm_pb, ht_pb⟩, rfl, by rw [ht]; exact hP9, va_K.moved hW.alike hK9, hD9⟩, hS.F ht⟩) hS.2.2 dX5_draft_34
  · refine lv_iload_n hx hb dX5_draft_4 rfl (lv_at hl 1 rfl) ?_
    refine lv_aload_n hx hb dX5_draft_5 rfl (lv_at hl 0 rfl) ?_
    refine va_get (D := (dC, dI)) (ci := 5) (v := .int (nI pm)) (C := RX5) (T := TX5) (N := 8) hx hb hts k_1 hown hK hP 0 rfl rfl 0 (by decide) k_3 (fun _ h9 => h9) rfl dX5_draft_6 ?_
    refine lv_icmp_ge (tgt := 30) hx hb dX5_draft_9 (by decide) (fun c_2 => ?_) (fun c_2 => ?_)
    · refine lv_aload_n hx hb dX5_draft_30 rfl (lv_at hl 0 rfl) ?_
      refine va_get (D := (dC, dI)) (ci := 5) (v := .ref pb) (C := RX5) (T := TX5) (N := 8) hx hb hts k_1 hown hK hP 0 rfl rfl 6 (by decide) k_2 (fun _ h9 => h9) rfl dX5_draft_31 ?_
      have hP9 := hP.part (cx := [(hp, .inr (5, [.int (nI pm), .long fr, .long wk, .int nr, .ref pd, .ref pt, .ref pb, .long fe])), (pd, .inl (cO, 25, .inr (.inr (.inr (.inr fd)))))]) [0, 1] rfl
      have hD9 := hD.part (cx := [(hp, .inr (5, [.int (nI pm), .long fr, .long wk, .int nr, .ref pd, .ref pt, .ref pb, .long fe])), (pd, .inl (cO, 25, .inr (.inr (.inr (.inr fd)))))]) [0, 1] (by decide) rfl
      have hK9 := hK.sub (tys' := [(cO, .object RX4), (cI, .int)]) [0, 1] rfl
      exact W.aret (v := .ref pb) hx hb hr (Or.inl ⟨_, rfl⟩) (Or.inr ⟨_, rfl⟩) (fun t ht hW => ⟨⟨(pb), pb, rfl, ⟨hm_pb, ht_pb⟩, rfl, by rw [ht]; exact hP9, va_K.moved hW.alike hK9, hD9⟩, hS.F ht⟩) hS.2.2 dX5_draft_34
    · refine lv_iload_n hx hb dX5_draft_12 rfl (lv_at hl 1 rfl) ?_
      refine lv_aload_n hx hb dX5_draft_13 rfl (lv_at hl 0 rfl) ?_
      refine va_get (D := (dC, dI)) (ci := 5) (v := .ref pd) (C := RX5) (T := TX5) (N := 8) hx hb hts k_1 hown hK hP 0 rfl rfl 4 (by decide) k_4 (fun _ h9 => h9) rfl dX5_draft_14 ?_
      refine va_alen (v := nI 25) hx hb hK hP 1 0 rfl rfl rfl dX5_draft_17 ?_
      refine lv_icmp_ge (tgt := 30) hx hb dX5_draft_18 (by decide) (fun c_3 => ?_) (fun c_3 => ?_)
      · refine lv_aload_n hx hb dX5_draft_30 rfl (lv_at hl 0 rfl) ?_
        refine va_get (D := (dC, dI)) (ci := 5) (v := .ref pb) (C := RX5) (T := TX5) (N := 8) hx hb hts k_1 hown hK hP 0 rfl rfl 6 (by decide) k_2 (fun _ h9 => h9) rfl dX5_draft_31 ?_
        have hP9 := hP.part (cx := [(hp, .inr (5, [.int (nI pm), .long fr, .long wk, .int nr, .ref pd, .ref pt, .ref pb, .long fe])), (pd, .inl (cO, 25, .inr (.inr (.inr (.inr fd)))))]) [0, 1] rfl
        have hD9 := hD.part (cx := [(hp, .inr (5, [.int (nI pm), .long fr, .long wk, .int nr, .ref pd, .ref pt, .ref pb, .long fe])), (pd, .inl (cO, 25, .inr (.inr (.inr (.inr fd)))))]) [0, 1] (by decide) rfl
        have hK9 := hK.sub (tys' := [(cO, .object RX4), (cI, .int)]) [0, 1] rfl
        exact W.aret (v := .ref pb) hx hb hr (Or.inl ⟨_, rfl⟩) (Or.inr ⟨_, rfl⟩) (fun t ht hW => ⟨⟨(pb), pb, rfl, ⟨hm_pb, ht_pb⟩, rfl, by rw [ht]; exact hP9, va_K.moved hW.alike hK9, hD9⟩, hS.F ht⟩) hS.2.2 dX5_draft_34
      · refine lv_aload_n hx hb dX5_draft_21 rfl (lv_at hl 0 rfl) ?_
        refine va_get (D := (dC, dI)) (ci := 5) (v := .ref pd) (C := RX5) (T := TX5) (N := 8) hx hb hts k_1 hown hK hP 0 rfl rfl 4 (by decide) k_4 (fun _ h9 => h9) rfl dX5_draft_22 ?_
        refine lv_iload_n hx hb dX5_draft_25 rfl (lv_at hl 1 rfl) ?_
        refine va_aldq hx hb hK hP 1 0 rfl rfl (in_guard c_1 c_3 (by omega)) dX5_draft_26 ?_
        obtain ⟨a_4, hm_a_4, ht_a_4, ez_a_4⟩ := hdr _ (in_lt (in_guard c_1 c_3 (by omega)))
        refine lv_rf ez_a_4 ?_
        refine lv_goto (tgt := 34) hx hb dX5_draft_27 (by decide) ?_
        have hP9 := hP.part (cx := [(hp, .inr (5, [.int (nI pm), .long fr, .long wk, .int nr, .ref pd, .ref pt, .ref pb, .long fe])), (pd, .inl (cO, 25, .inr (.inr (.inr (.inr fd)))))]) [0, 1] rfl
        have hD9 := hD.part (cx := [(hp, .inr (5, [.int (nI pm), .long fr, .long wk, .int nr, .ref pd, .ref pt, .ref pb, .long fe])), (pd, .inl (cO, 25, .inr (.inr (.inr (.inr fd)))))]) [0, 1] (by decide) rfl
        have hK9 := hK.sub (tys' := [(cO, .object RX4), (cI, .int)]) [0, 1] rfl
        exact W.aret (v := .ref a_4) hx hb hr (Or.inl ⟨_, rfl⟩) (Or.inr ⟨_, rfl⟩) (fun t ht hW => ⟨⟨(a_4), a_4, rfl, ⟨hm_a_4, ht_a_4⟩, rfl, by rw [ht]; exact hP9, va_K.moved hW.alike hK9, hD9⟩, hS.F ht⟩) hS.2.2 dX5_draft_34
def v_X5_write : List Cond := .code yX5_write cX5_write 4 (some .int) :: ([.fieldLink RX5 40 "TwinRoots$Plan" "fresh" "J", .code yX8_holds cX8_holds 3 (some .boolean), .code yX8_bit cX8_bit 1 (some .long), .methodLink RX8 227 yX8_bit, .static yX8_bit, .initialized RX8, .static yX8_holds, .code yX5_takeLeast cX5_takeLeast 2 (some .int), .fieldLink RX5 32 "TwinRoots$Plan" "noRoom" "Z", .fieldLink RX5 36 "TwinRoots$Plan" "free" "J", .constantLong RX5 58 (-1), .methodLink RX5 50 yX5_takeLeast, .instanceMethod yX5_takeLeast, .selects RX5 yX5_takeLeast yX5_takeLeast, .initialized RX5, .fieldLink RX5 43 "TwinRoots$Plan" "work" "J", .fieldLink RX5 28 "TwinRoots$Plan" "many" "I", .fieldLink RX5 11 "TwinRoots$Plan" "drafts" "[LTwinRoots$Page;", .fieldLink RX5 20 "TwinRoots$Plan" "targets" "[I", .code yX4_copy cX4_copy 2 none, .fieldLink RX4 9 "TwinRoots$Page" "leaf" "Z", .code yX4_clear cX4_clear 2 none, .fieldLink RX4 22 "TwinRoots$Page" "many" "I", .methodLink RX4 26 yX4_clear, .instanceMethod yX4_clear, .selects RX4 yX4_clear yX4_clear, .initialized RX4, .code yX4_append cX4_append 4 none, .fieldLink RX4 15 "TwinRoots$Page" "keys" "[I", .fieldLink RX4 19 "TwinRoots$Page" "refs" "[I", .code yX4_keyAt cX4_keyAt 2 (some .int), .methodLink RX4 34 yX4_keyAt, .instanceMethod yX4_keyAt, .selects RX4 yX4_keyAt yX4_keyAt, .code yX4_refAt cX4_refAt 2 (some .int), .methodLink RX4 38 yX4_refAt, .instanceMethod yX4_refAt, .selects RX4 yX4_refAt yX4_refAt, .methodLink RX4 30 yX4_append, .instanceMethod yX4_append, .selects RX4 yX4_append yX4_append, .methodLink RX5 60 yX4_copy, .instanceMethod yX4_copy, .selects RX4 yX4_copy yX4_copy] ++ (wsX50 ++ (wsX40 ++ ([]))))
set_option maxRecDepth 20000 in
theorem g_X5_write_X8_holds : GoodIn v_X5_write v_X8_holds := goodIn_r _ [2, 3, 4, 5, 6] (by decide +kernel) (by decide +kernel)
set_option maxRecDepth 20000 in
theorem g_X5_write_X5_takeLeast : GoodIn v_X5_write (wsV RX5 50 RX5 yX5_takeLeast v_X5_takeLeast) := goodIn_r _ [12, 13, 14, 15, 8, 9, 10, 2, 3, 4, 5, 6, 7, 11, 1, 45, 46, 47, 48, 49, 50, 51, 52] (by decide +kernel) (by decide +kernel)
set_option maxRecDepth 20000 in
theorem g_X5_write_X8_bit : GoodIn v_X5_write v_X8_bit := goodIn_r _ [3] (by decide +kernel) (by decide +kernel)
set_option maxRecDepth 20000 in
theorem g_X5_write_X4_copy : GoodIn v_X5_write (wsV RX5 60 RX4 yX4_copy v_X4_copy) := goodIn_r _ [42, 43, 44, 27, 20, 21, 22, 23, 24, 25, 26, 27, 28, 29, 30, 31, 32, 33, 34, 35, 36, 37, 38, 39, 40, 41, 53, 54, 55, 56] (by decide +kernel) (by decide +kernel)
set_option maxHeartbeats 4000000 in
set_option maxRecDepth 100000 in
/-- write: a draft more -/
theorem c_X5_write (l : Launch) (dC : Nat → ClassId) (dI : Nat → Nat → Nat) (sz : Nat) (hp : Nat) (pd : Nat) (pt : Nat) (pb : Nat) (fr : Int64) (wk : Int64) (fe : Int64) (nr : Int32) (pm : Nat) (a0 : Nat) (p1 : Int32) (cO : ClassId) (fd : Nat → Option Nat) (ft : Nat → Int32) (G : pgG) (Pg : List Nat) (cI : ClassId) (S : pgS) (zpm : pm ≤ 25) (hI : pgI G Pg S) (hdr : ∀ i, i < 25 → ∃ a, a ∈ Pg ∧ (G a).2.2.2 = 1 ∧ fd i = some a) (hm_pb : pb ∈ Pg) (ht_pb : (G pb).2.2.2 = 1) (hm_a0 : a0 ∈ Pg) (ht_a0 : 1 < (G a0).2.2.2) : Met l yX5_write v_X5_write ({ frames := 3, cells := 0, slots := 0, locals := 65 } : Room) (va_Pc [.ref hp, .ref a0, .int p1] (fun U => U.heap.size = sz ∧ va_P (dC, dI) vwCl ([(hp, .inr (5, [.int (nI pm), .long fr, .long wk, .int nr, .ref pd, .ref pt, .ref pb, .long fe])), (pd, .inl (cO, 25, .inr (.inr (.inr (.inr fd))))), (pt, .inl (cI, 25, .inl ft))] ++ pool G cI Pg S) U.heap ∧ va_K (dC, dI) vwCl [(cO, .object RX4), (cI, .int)] U ∧ va_D (fun _ => True) ([(hp, .inr (5, [.int (nI pm), .long fr, .long wk, .int nr, .ref pd, .ref pt, .ref pb, .long fe])), (pd, .inl (cO, 25, .inr (.inr (.inr (.inr fd))))), (pt, .inl (cI, 25, .inl ft))] ++ pool G cI Pg S) ∧ va_Nw (.methodLinkNest RX5 46 yX8_holds "TwinRoots") U ∧ va_Nw (.methodLinkNest RX5 54 yX8_bit "TwinRoots") U)) (va_Qi (fun (r : Int32) (u : Nat × Int64 × Int64 × Int64 × Int32 × (Nat → Int32) × pgS) => match u with | (pm2, fr2, wk2, fe2, nr2, ft2, S2) => pgI G Pg S2 ∧ pm2 ≤ 25) (fun (u : Nat × Int64 × Int64 × Int64 × Int32 × (Nat → Int32) × pgS) (t : State) => match u with | (pm2, fr2, wk2, fe2, nr2, ft2, S2) => va_P (dC, dI) vwCl ([(hp, .inr (5, [.int (nI pm2), .long fr2, .long wk2, .int nr2, .ref pd, .ref pt, .ref pb, .long fe2])), (pd, .inl (cO, 25, .inr (.inr (.inr (.inr fd))))), (pt, .inl (cI, 25, .inl ft2))] ++ pool G cI Pg S2) t.heap ∧ va_K (dC, dI) vwCl [(cO, .object RX4), (cI, .int)] t ∧ va_D (va_A ([(hp, .inr (5, [.int (nI pm), .long fr, .long wk, .int nr, .ref pd, .ref pt, .ref pb, .long fe])), (pd, .inl (cO, 25, .inr (.inr (.inr (.inr fd))))), (pt, .inl (cI, 25, .inl ft))] ++ pool G cI Pg S) sz) ([(hp, .inr (5, [.int (nI pm2), .long fr2, .long wk2, .int nr2, .ref pd, .ref pt, .ref pb, .long fe2])), (pd, .inl (cO, 25, .inr (.inr (.inr (.inr fd))))), (pt, .inl (cI, 25, .inl ft2))] ++ pool G cI Pg S2)) (va_A ([(hp, .inr (5, [.int (nI pm), .long fr, .long wk, .int nr, .ref pd, .ref pt, .ref pb, .long fe])), (pd, .inl (cO, 25, .inr (.inr (.inr (.inr fd))))), (pt, .inl (cI, 25, .inl ft))] ++ pool G cI Pg S) sz)) 0 0 (va_A ([(hp, .inr (5, [.int (nI pm), .long fr, .long wk, .int nr, .ref pd, .ref pt, .ref pb, .long fe])), (pd, .inl (cO, 25, .inr (.inr (.inr (.inr fd))))), (pt, .inl (cI, 25, .inl ft))] ++ pool G cI Pg S) sz) := by
  refine Met.ofW (cc := cX5_write) (maxL := 4) (ret := (some .int)) (by decide) rfl ?_
  intro p e s m args below meth c s₁ B hml hv
  obtain ⟨rfl, hsz, hP, hK, hD0, hNX5_46, hNX5_54⟩ := hv
  have hx := B.exec
  have hb := B.bytes
  have hr := B.returns
  have hts := atoms_spec (ws := v_X5_write) B.pre
  have hown : s.vm.findClass RX5 = some m.cls := findClass_of_methodNamed B.named
  have hlocks := B.notSynchronized
  subst hsz
  have hD := hD0.self (sz := s.heap.size)
  generalize hAe : va_A ([(hp, .inr (5, [.int (nI pm), .long fr, .long wk, .int nr, .ref pd, .ref pt, .ref pb, .long fe])), (pd, .inl (cO, 25, .inr (.inr (.inr (.inr fd))))), (pt, .inl (cI, 25, .inl ft))] ++ pool G cI Pg S) s.heap.size = A at hD ⊢
  have hA : ∀ q : Nat, s.heap.size ≤ q → A q := fun q h => by rw [← hAe]; exact Or.inr h
  have hS : va_S A s.heap s.heap [] := va_S.rf
  have hP : va_P (dC, dI) vwCl ([(hp, .inr (5, [.int (nI pm), .long fr, .long wk, .int nr, .ref pd, .ref pt, .ref pb, .long fe])), (pd, .inl (cO, 25, .inr (.inr (.inr (.inr fd))))), (pt, .inl (cI, 25, .inl ft))] ++ pool G cI Pg S) s.heap := hP
  have hl := lv_entry ([.ref hp, .ref a0, .int p1]) (n := 4) (Nat.le_of_ble_eq_true rfl)
  rw [lg_entry_eq]
  generalize (lg_sl ([.ref hp, .ref a0, .int p1]) ++ List.replicate (4 - (lg_sl ([.ref hp, .ref a0, .int p1])).length) Slot.unset).toArray = ls at hl ⊢
  have hl : lv_has ls 4 [(0, .ref hp), (1, .ref a0), (2, .int p1)] := hl
  have k_1 := (fun _ h => List.mem_cons_of_mem _ (List.mem_append_right _ (List.mem_append_left _ h)) : ∀ w ∈ wsX50, w ∈ v_X5_write)
  have k_2 := hts (.fieldLink RX5 40 "TwinRoots$Plan" "fresh" "J") (List.mem_of_getElem? (i := 1) rfl)
  have k_3 := hts (.initialized RX8) (List.mem_of_getElem? (i := 6) rfl)
  have k_4 := hts (.static yX8_holds) (List.mem_of_getElem? (i := 7) rfl)
  have k_5 := hts (.fieldLink RX5 43 "TwinRoots$Plan" "work" "J") (List.mem_of_getElem? (i := 16) rfl)
  have k_6 := hts (.static yX8_bit) (List.mem_of_getElem? (i := 5) rfl)
  have k_7 := hts (.constantLong RX5 58 (-1)) (List.mem_of_getElem? (i := 11) rfl)
  have k_8 := hts (.fieldLink RX5 28 "TwinRoots$Plan" "many" "I") (List.mem_of_getElem? (i := 17) rfl)
  have k_9 := hts (.fieldLink RX5 11 "TwinRoots$Plan" "drafts" "[LTwinRoots$Page;") (List.mem_of_getElem? (i := 18) rfl)
  have k_10 := hts (.fieldLink RX5 20 "TwinRoots$Plan" "targets" "[I") (List.mem_of_getElem? (i := 19) rfl)
  refine lv_aload_n hx hb dX5_write_0 rfl (lv_at hl 0 rfl) ?_
  refine va_get (D := (dC, dI)) (ci := 5) (v := .long fr) (C := RX5) (T := TX5) (N := 8) hx hb hts k_1 hown hK hP 0 rfl rfl 1 (by decide) k_2 (fun _ h9 => h9) rfl dX5_write_1 ?_
  refine lv_iload_n hx hb dX5_write_4 rfl (lv_at hl 2 rfl) ?_
  have hPc := hP.sub (ws' := []) [] rfl
  have hDc := hD.sub (ws' := []) [] (by decide) rfl
  have hKc := hK.sub (tys' := []) [] rfl
  have hFc := va_free (wc := []) hD hS hA [] rfl
  refine va_calli (va_runSN (As := [.long fr, .int p1]) (rest := []) ⟨hx, hb, hml, hown, hts⟩ (c_X8_holds l dC dI s.heap.size fr p1) ⟨va_cnB 2 hts g_X5_write_X8_holds rfl rfl rfl hNX5_46 k_3 (by decide +kernel) ⟨Nat.le_of_ble_eq_true rfl, Nat.le_of_ble_eq_true rfl⟩, k_4, trivial⟩ ⟨fun a U g mk q => by obtain ⟨q0, q1, qP, qK, qD⟩ := q; exact ⟨q0, q1, qP, va_K.moved (u := U) (U := U.calling g mk a) (Vm.Alike.refl U.vm) qK, qD⟩, fun U hU hW => ⟨rfl, by rw [hU], by rw [hU]; exact hPc, va_K.moved hW.alike hKc, hDc.weaken (fun _ _ _ _ => trivial)⟩⟩ rfl rfl hl.1 rfl (lv_room (Nat.le_of_ble_eq_true rfl)) dX5_write_5 ⟨(show 0 + 0 ≤ 0 by omega), (show 0 + 0 ≤ 0 by omega)⟩) hS (fun q _ h => hFc q h) hFc (fun r_1 u t H1 locs ht hvm hw hB hz1 hk1 hS => ?_)
  obtain ⟨hP1, hK1, hD1⟩ := hB
  rw [ht] at hP1
  have hK1 := va_K.moved hvm.symm hK1
  try dsimp only at hw
  obtain ⟨hP, hD⟩ := va_joinQ (wr := [(hp, .inr (5, [.int (nI pm), .long fr, .long wk, .int nr, .ref pd, .ref pt, .ref pb, .long fe])), (pd, .inl (cO, 25, .inr (.inr (.inr (.inr fd))))), (pt, .inl (cI, 25, .inl ft))]) (w1 := []) hP hD [] [0, 1, 2] rfl rfl (by decide) (by decide) hk1 hFc hP1 hD1
  have hK := (hK.sub (tys' := [(cO, .object RX4), (cI, .int)]) [0, 1] rfl).app hK1
  have hK : va_K (dC, dI) vwCl [(cO, .object RX4), (cI, .int)] s := hK.sub [0, 1] rfl
  generalize H1 = H at hP hS ⊢
  have hP : va_P (dC, dI) vwCl ([(hp, .inr (5, [.int (nI pm), .long fr, .long wk, .int nr, .ref pd, .ref pt, .ref pb, .long fe])), (pd, .inl (cO, 25, .inr (.inr (.inr (.inr fd))))), (pt, .inl (cI, 25, .inl ft))] ++ pool G cI Pg S) H := hP
  have hD : va_D A ([(hp, .inr (5, [.int (nI pm), .long fr, .long wk, .int nr, .ref pd, .ref pt, .ref pb, .long fe])), (pd, .inl (cO, 25, .inr (.inr (.inr (.inr fd))))), (pt, .inl (cI, 25, .inl ft))] ++ pool G cI Pg S) := hD
  have hK : va_K (dC, dI) vwCl [(cO, .object RX4), (cI, .int)] s := hK
  have hw_r_1 := hw
  refine lv_if_eq (tgt := 15) hx hb dX5_write_8 (by decide) (fun c_2 => ?_) (fun c_2 => ?_)
  · refine lv_aload_n hx hb dX5_write_15 rfl (lv_at hl 0 rfl) ?_
    have hPc := hP.sub (ws' := [(hp, .inr (5, [.int (nI pm), .long fr, .long wk, .int nr, .ref pd, .ref pt, .ref pb, .long fe]))]) [0] rfl
    have hDc := hD.sub (ws' := [(hp, .inr (5, [.int (nI pm), .long fr, .long wk, .int nr, .ref pd, .ref pt, .ref pb, .long fe]))]) [0] (by decide) rfl
    have hKc := hK.sub (tys' := []) [] rfl
    have hFc := va_free (wc := [(hp, .inr (5, [.int (nI pm), .long fr, .long wk, .int nr, .ref pd, .ref pt, .ref pb, .long fe]))]) hD hS hA [0] rfl
    refine va_calli (va_runV (As := []) (rest := []) ⟨hx, hb, hml, hown, hts⟩ (c_X5_takeLeast l dC dI H.size hp pd pt pb fr wk fe nr pm) (cwV 0 hts g_X5_write_X5_takeLeast rfl rfl rfl (by decide +kernel) ⟨Nat.le_of_ble_eq_true rfl, Nat.le_of_ble_eq_true rfl⟩) ⟨fun a U g mk q => by obtain ⟨q0, q1, qP, qK, qD, qX0, qX1⟩ := q; exact ⟨q0, q1, qP, va_K.moved (u := U) (U := U.calling g mk a) (Vm.Alike.refl U.vm) qK, qD, va_Nw.same (u := U) (U := U.calling g mk a) rfl rfl qX0, va_Nw.same (u := U) (U := U.calling g mk a) rfl rfl qX1⟩, va_recv hKc hPc (ci := 5) (q0 := 0) rfl rfl, fun U hU hW => ⟨rfl, by rw [hU], by rw [hU]; exact hPc, va_K.moved hW.alike hKc, hDc.weaken (fun _ _ _ _ => trivial), va_Nw.warmM hW hNX5_46, va_Nw.warmM hW hNX5_54⟩⟩ rfl rfl hl.1 rfl (lv_room (Nat.le_of_ble_eq_true rfl)) dX5_write_16 ⟨(show 0 + 0 ≤ 0 by omega), (show 0 + 0 ≤ 0 by omega)⟩) hS (fun q _ h => hFc q h) hFc (fun r_3 u t H1 locs ht hvm hw hB hz1 hk1 hS => ?_)
    obtain ⟨fr2_4, fe2_5, nr2_6⟩ := u
    obtain ⟨hP1, hK1, hD1⟩ := hB
    rw [ht] at hP1
    have hK1 := va_K.moved hvm.symm hK1
    try dsimp only at hw
    obtain ⟨hP, hD⟩ := va_joinQ (wr := [(pd, .inl (cO, 25, .inr (.inr (.inr (.inr fd))))), (pt, .inl (cI, 25, .inl ft))]) (w1 := [(hp, .inr (5, [.int (nI pm), .long fr2_4, .long wk, .int nr2_6, .ref pd, .ref pt, .ref pb, .long fe2_5]))]) hP hD [0] [1, 2] rfl rfl (by decide) (by decide) hk1 hFc hP1 hD1
    have hK := (hK.sub (tys' := [(cO, .object RX4), (cI, .int)]) [0, 1] rfl).app hK1
    have hK : va_K (dC, dI) vwCl [(cO, .object RX4), (cI, .int)] s := hK.sub [0, 1] rfl
    generalize H1 = H at hP hS ⊢
    have hP : va_P (dC, dI) vwCl ([(pd, .inl (cO, 25, .inr (.inr (.inr (.inr fd))))), (pt, .inl (cI, 25, .inl ft)), (hp, .inr (5, [.int (nI pm), .long fr2_4, .long wk, .int nr2_6, .ref pd, .ref pt, .ref pb, .long fe2_5]))] ++ pool G cI Pg S) H := hP
    have hD : va_D A ([(pd, .inl (cO, 25, .inr (.inr (.inr (.inr fd))))), (pt, .inl (cI, 25, .inl ft)), (hp, .inr (5, [.int (nI pm), .long fr2_4, .long wk, .int nr2_6, .ref pd, .ref pt, .ref pb, .long fe2_5]))] ++ pool G cI Pg S) := hD
    have hK : va_K (dC, dI) vwCl [(cO, .object RX4), (cI, .int)] s := hK
    have hw_r_3 := hw
    refine lv_istore_n (lv' := [(3, .int r_3), (0, .ref hp), (1, .ref a0), (2, .int p1)]) hx hb dX5_write_19 rfl hl (by decide) rfl (fun ls hl => ?_)
    refine lv_aload_n hx hb dX5_write_20 rfl (lv_at hl 1 rfl) ?_
    refine lv_aload_n hx hb dX5_write_21 rfl (lv_at hl 1 rfl) ?_
    refine va_get (D := (dC, dI)) (ci := 5) (v := .long wk) (C := RX5) (T := TX5) (N := 8) hx hb hts k_1 hown hK hP 2 rfl rfl 2 (by decide) k_5 (fun _ h9 => h9) rfl dX5_write_22 ?_
    refine lv_iload_n hx hb dX5_write_25 rfl (lv_at hl 3 rfl) ?_
    have hPc := hP.sub (ws' := []) [] rfl
    have hDc := hD.sub (ws' := []) [] (by decide) rfl
    have hKc := hK.sub (tys' := []) [] rfl
    have hFc := va_free (wc := []) hD hS hA [] rfl
    refine va_calll (va_runSN (As := [.int p1]) (rest := [.long wk, .ref hp]) ⟨hx, hb, hml, hown, hts⟩ (c_X8_bit l dC dI H.size p1) ⟨va_cnB 1 hts g_X5_write_X8_bit rfl rfl rfl hNX5_54 k_3 (by decide +kernel) ⟨Nat.le_of_ble_eq_true rfl, Nat.le_of_ble_eq_true rfl⟩, k_6, trivial⟩ ⟨fun a U g mk q => by obtain ⟨q0, q1, qP, qK, qD⟩ := q; exact ⟨q0, q1, qP, va_K.moved (u := U) (U := U.calling g mk a) (Vm.Alike.refl U.vm) qK, qD⟩, fun U hU hW => ⟨rfl, by rw [hU], by rw [hU]; exact hPc, va_K.moved hW.alike hKc, hDc.weaken (fun _ _ _ _ => trivial)⟩⟩ rfl rfl hl.1 rfl (lv_room (Nat.le_of_ble_eq_true rfl)) dX5_write_26 ⟨(show 0 + 0 ≤ 0 by omega), (show 0 + 0 ≤ 0 by omega)⟩) hS (fun q _ h => hFc q h) hFc (fun r_7 u t H1 locs ht hvm hw hB hz1 hk1 hS => ?_)
    obtain ⟨hP1, hK1, hD1⟩ := hB
    rw [ht] at hP1
    have hK1 := va_K.moved hvm.symm hK1
    try dsimp only at hw
    obtain ⟨hP, hD⟩ := va_joinQ (wr := [(pd, .inl (cO, 25, .inr (.inr (.inr (.inr fd))))), (pt, .inl (cI, 25, .inl ft)), (hp, .inr (5, [.int (nI pm), .long fr2_4, .long wk, .int nr2_6, .ref pd, .ref pt, .ref pb, .long fe2_5]))]) (w1 := []) hP hD [] [0, 1, 2] rfl rfl (by decide) (by decide) hk1 hFc hP1 hD1
    have hK := (hK.sub (tys' := [(cO, .object RX4), (cI, .int)]) [0, 1] rfl).app hK1
    have hK : va_K (dC, dI) vwCl [(cO, .object RX4), (cI, .int)] s := hK.sub [0, 1] rfl
    generalize H1 = H at hP hS ⊢
    have hP : va_P (dC, dI) vwCl ([(pd, .inl (cO, 25, .inr (.inr (.inr (.inr fd))))), (pt, .inl (cI, 25, .inl ft)), (hp, .inr (5, [.int (nI pm), .long fr2_4, .long wk, .int nr2_6, .ref pd, .ref pt, .ref pb, .long fe2_5]))] ++ pool G cI Pg S) H := hP
    have hD : va_D A ([(pd, .inl (cO, 25, .inr (.inr (.inr (.inr fd))))), (pt, .inl (cI, 25, .inl ft)), (hp, .inr (5, [.int (nI pm), .long fr2_4, .long wk, .int nr2_6, .ref pd, .ref pt, .ref pb, .long fe2_5]))] ++ pool G cI Pg S) := hD
    have hK : va_K (dC, dI) vwCl [(cO, .object RX4), (cI, .int)] s := hK
    have hw_r_7 := hw
    refine lv_ldc2 (v := (-1)) hx hb hown k_7 dX5_write_29 ?_
    refine lv_lxor hx hb dX5_write_32 ?_
    refine lv_topl (fun z_8 _ => ?_)
    refine lv_land hx hb dX5_write_33 ?_
    refine lv_topl (fun z_9 _ => ?_)
    refine lv_iload_n hx hb dX5_write_34 rfl (lv_at hl 0 rfl) ?_
    have hPc := hP.sub (ws' := []) [] rfl
    have hDc := hD.sub (ws' := []) [] (by decide) rfl
    have hKc := hK.sub (tys' := []) [] rfl
    have hFc := va_free (wc := []) hD hS hA [] rfl
    refine va_calll (va_runSN (As := [.int r_3]) (rest := [.long z_9, .ref hp]) ⟨hx, hb, hml, hown, hts⟩ (c_X8_bit l dC dI H.size r_3) ⟨va_cnB 1 hts g_X5_write_X8_bit rfl rfl rfl hNX5_54 k_3 (by decide +kernel) ⟨Nat.le_of_ble_eq_true rfl, Nat.le_of_ble_eq_true rfl⟩, k_6, trivial⟩ ⟨fun a U g mk q => by obtain ⟨q0, q1, qP, qK, qD⟩ := q; exact ⟨q0, q1, qP, va_K.moved (u := U) (U := U.calling g mk a) (Vm.Alike.refl U.vm) qK, qD⟩, fun U hU hW => ⟨rfl, by rw [hU], by rw [hU]; exact hPc, va_K.moved hW.alike hKc, hDc.weaken (fun _ _ _ _ => trivial)⟩⟩ rfl rfl hl.1 rfl (lv_room (Nat.le_of_ble_eq_true rfl)) dX5_write_35 ⟨(show 0 + 0 ≤ 0 by omega), (show 0 + 0 ≤ 0 by omega)⟩) hS (fun q _ h => hFc q h) hFc (fun r_10 u t H1 locs ht hvm hw hB hz1 hk1 hS => ?_)
    obtain ⟨hP1, hK1, hD1⟩ := hB
    rw [ht] at hP1
    have hK1 := va_K.moved hvm.symm hK1
    try dsimp only at hw
    obtain ⟨hP, hD⟩ := va_joinQ (wr := [(pd, .inl (cO, 25, .inr (.inr (.inr (.inr fd))))), (pt, .inl (cI, 25, .inl ft)), (hp, .inr (5, [.int (nI pm), .long fr2_4, .long wk, .int nr2_6, .ref pd, .ref pt, .ref pb, .long fe2_5]))]) (w1 := []) hP hD [] [0, 1, 2] rfl rfl (by decide) (by decide) hk1 hFc hP1 hD1
    have hK := (hK.sub (tys' := [(cO, .object RX4), (cI, .int)]) [0, 1] rfl).app hK1
    have hK : va_K (dC, dI) vwCl [(cO, .object RX4), (cI, .int)] s := hK.sub [0, 1] rfl
    generalize H1 = H at hP hS ⊢
    have hP : va_P (dC, dI) vwCl ([(pd, .inl (cO, 25, .inr (.inr (.inr (.inr fd))))), (pt, .inl (cI, 25, .inl ft)), (hp, .inr (5, [.int (nI pm), .long fr2_4, .long wk, .int nr2_6, .ref pd, .ref pt, .ref pb, .long fe2_5]))] ++ pool G cI Pg S) H := hP
    have hD : va_D A ([(pd, .inl (cO, 25, .inr (.inr (.inr (.inr fd))))), (pt, .inl (cI, 25, .inl ft)), (hp, .inr (5, [.int (nI pm), .long fr2_4, .long wk, .int nr2_6, .ref pd, .ref pt, .ref pb, .long fe2_5]))] ++ pool G cI Pg S) := hD
    have hK : va_K (dC, dI) vwCl [(cO, .object RX4), (cI, .int)] s := hK
    have hw_r_10 := hw
    refine lv_lor hx hb dX5_write_38 ?_
    refine lv_topl (fun z_11 _ => ?_)
    refine va_put (D := (dC, dI)) (ci := 5) (v := .long z_11) (ty := .long) (C := RX5) (T := TX5) (N := 8) hx hb hts k_1 tyX5 tyX5_ok nmX5 hown hK hP hD hS 2 rfl rfl 2 (by decide) k_5 (fun _ h9 => h9) rfl (by decide +kernel) rfl rfl (Nat.le_of_ble_eq_true rfl) dX5_write_39 (fun H locs hP hD hS => ?_)
    have hP : va_P (dC, dI) vwCl ([(pd, .inl (cO, 25, .inr (.inr (.inr (.inr fd))))), (pt, .inl (cI, 25, .inl ft)), (hp, .inr (5, [.int (nI pm), .long fr2_4, .long z_11, .int nr2_6, .ref pd, .ref pt, .ref pb, .long fe2_5]))] ++ pool G cI Pg S) H := hP
    have hD : va_D A ([(pd, .inl (cO, 25, .inr (.inr (.inr (.inr fd))))), (pt, .inl (cI, 25, .inl ft)), (hp, .inr (5, [.int (nI pm), .long fr2_4, .long z_11, .int nr2_6, .ref pd, .ref pt, .ref pb, .long fe2_5]))] ++ pool G cI Pg S) := hD
    refine lv_aload_n hx hb dX5_write_42 rfl (lv_at hl 1 rfl) ?_
    refine va_get (D := (dC, dI)) (ci := 5) (v := .int (nI pm)) (C := RX5) (T := TX5) (N := 8) hx hb hts k_1 hown hK hP 2 rfl rfl 0 (by decide) k_8 (fun _ h9 => h9) rfl dX5_write_43 ?_
    refine lv_aload_n hx hb dX5_write_46 rfl (lv_at hl 1 rfl) ?_
    refine va_get (D := (dC, dI)) (ci := 5) (v := .ref pd) (C := RX5) (T := TX5) (N := 8) hx hb hts k_1 hown hK hP 2 rfl rfl 4 (by decide) k_9 (fun _ h9 => h9) rfl dX5_write_47 ?_
    refine va_alen (v := nI 25) hx hb hK hP 0 0 rfl rfl rfl dX5_write_50 ?_
    refine lv_icmp_ge (tgt := 99) hx hb dX5_write_51 (by decide) (fun c_12 => ?_) (fun c_12 => ?_)
    · refine lv_iload_n hx hb dX5_write_99 rfl (lv_at hl 0 rfl) ?_
      have hP9 := hP.part (cx := [(hp, .inr (5, [.int (nI pm), .long fr2_4, .long z_11, .int nr2_6, .ref pd, .ref pt, .ref pb, .long fe2_5])), (pd, .inl (cO, 25, .inr (.inr (.inr (.inr fd))))), (pt, .inl (cI, 25, .inl ft))]) [2, 0, 1] rfl
      have hD9 := hD.part (cx := [(hp, .inr (5, [.int (nI pm), .long fr2_4, .long z_11, .int nr2_6, .ref pd, .ref pt, .ref pb, .long fe2_5])), (pd, .inl (cO, 25, .inr (.inr (.inr (.inr fd))))), (pt, .inl (cI, 25, .inl ft))]) [2, 0, 1] (by decide) rfl
      have hK9 := hK.sub (tys' := [(cO, .object RX4), (cI, .int)]) [0, 1] rfl
      exact W.iret (v := r_3) hx hb hr (fun t ht hW => ⟨⟨r_3, (pm, fr2_4, z_11, fe2_5, nr2_6, ft, S), rfl, ⟨hI, by omega⟩, by rw [ht]; exact hP9, va_K.moved hW.alike hK9, hD9⟩, hS.F ht⟩) hS.2.2 dX5_write_100
    · have hlt : pm < 25 := Nat.lt_of_not_le (fun h => c_12 (nI_le h (by omega)))
      refine lv_aload_n hx hb dX5_write_54 rfl (lv_at hl 1 rfl) ?_
      refine va_get (D := (dC, dI)) (ci := 5) (v := .int (nI pm)) (C := RX5) (T := TX5) (N := 8) hx hb hts k_1 hown hK hP 2 rfl rfl 0 (by decide) k_8 (fun _ h9 => h9) rfl dX5_write_55 ?_
      refine lv_aload_n hx hb dX5_write_58 rfl (lv_at hl 1 rfl) ?_
      refine va_get (D := (dC, dI)) (ci := 5) (v := .ref pt) (C := RX5) (T := TX5) (N := 8) hx hb hts k_1 hown hK hP 2 rfl rfl 5 (by decide) k_10 (fun _ h9 => h9) rfl dX5_write_59 ?_
      refine va_alen (v := nI 25) hx hb hK hP 1 1 rfl rfl rfl dX5_write_62 ?_
      refine lv_icmp_ge (tgt := 99) hx hb dX5_write_63 (by decide) (fun c_13 => ?_) (fun c_13 => ?_)
      · exact absurd c_13 (nI_ge hlt (by omega))
      refine lv_aload_n hx hb dX5_write_66 rfl (lv_at hl 1 rfl) ?_
      refine va_get (D := (dC, dI)) (ci := 5) (v := .ref pd) (C := RX5) (T := TX5) (N := 8) hx hb hts k_1 hown hK hP 2 rfl rfl 4 (by decide) k_9 (fun _ h9 => h9) rfl dX5_write_67 ?_
      refine lv_aload_n hx hb dX5_write_70 rfl (lv_at hl 1 rfl) ?_
      refine va_get (D := (dC, dI)) (ci := 5) (v := .int (nI pm)) (C := RX5) (T := TX5) (N := 8) hx hb hts k_1 hown hK hP 2 rfl rfl 0 (by decide) k_8 (fun _ h9 => h9) rfl dX5_write_71 ?_
      refine va_aldq hx hb hK hP 0 0 rfl rfl (show vp_in (nI pm) 25 from vp_in_nI (by omega) (by omega)) dX5_write_74 ?_
      obtain ⟨a_14, hm_a_14, ht_a_14, ez_a_14⟩ := hdr _ (in_lt (show vp_in (nI pm) 25 from vp_in_nI (by omega) (by omega)))
      refine lv_rf ez_a_14 ?_
      refine lv_aload_n hx hb dX5_write_75 rfl (lv_at hl 2 rfl) ?_
      have hz1_a_14 := (hI a_14 hm_a_14).1
      have hz2_a_14 := (hI a_14 hm_a_14).2.1
      have hz3_a_14 := (hI a_14 hm_a_14).2.2
      have hz1_a0 := (hI a0 hm_a0).1
      have hz2_a0 := (hI a0 hm_a0).2.1
      have hz3_a0 := (hI a0 hm_a0).2.2
      have hab : a_14 ≠ a0 := fun h9 => absurd (congrArg (fun x => (G x).2.2.2) h9) (by show (G a_14).2.2.2 ≠ (G a0).2.2.2; have h7 := ht_a_14; have h8 := ht_a0; omega)
      have hT9 := in2 hm_a_14 hm_a0
      have hPc : va_P (dC, dI) vwCl [(a_14, .inr (4, [.int (S a_14).1, .int (nI (S a_14).2.1), .ref (G a_14).1, .ref (G a_14).2.1])), ((G a_14).1, .inl (cI, (G a_14).2.2.1, .inl (S a_14).2.2.1)), ((G a_14).2.1, .inl (cI, (G a_14).2.2.1, .inl (S a_14).2.2.2)), (a0, .inr (4, [.int (S a0).1, .int (nI (S a0).2.1), .ref (G a0).1, .ref (G a0).2.1])), ((G a0).1, .inl (cI, (G a0).2.2.1, .inl (S a0).2.2.1)), ((G a0).2.1, .inl (cI, (G a0).2.2.1, .inl (S a0).2.2.2))] H := pool_cut (T := [a_14, a0]) (cx := []) hP hT9 [] rfl
      have hDc : va_D A [(a_14, .inr (4, [.int (S a_14).1, .int (nI (S a_14).2.1), .ref (G a_14).1, .ref (G a_14).2.1])), ((G a_14).1, .inl (cI, (G a_14).2.2.1, .inl (S a_14).2.2.1)), ((G a_14).2.1, .inl (cI, (G a_14).2.2.1, .inl (S a_14).2.2.2)), (a0, .inr (4, [.int (S a0).1, .int (nI (S a0).2.1), .ref (G a0).1, .ref (G a0).2.1])), ((G a0).1, .inl (cI, (G a0).2.2.1, .inl (S a0).2.2.1)), ((G a0).2.1, .inl (cI, (G a0).2.2.1, .inl (S a0).2.2.2))] := pool_cutD (T := [a_14, a0]) (cx := []) hD hT9 (nd2 hab) [] (by decide) rfl
      have hFc : ∀ q, va_A [(a_14, .inr (4, [.int (S a_14).1, .int (nI (S a_14).2.1), .ref (G a_14).1, .ref (G a_14).2.1])), ((G a_14).1, .inl (cI, (G a_14).2.2.1, .inl (S a_14).2.2.1)), ((G a_14).2.1, .inl (cI, (G a_14).2.2.1, .inl (S a_14).2.2.2)), (a0, .inr (4, [.int (S a0).1, .int (nI (S a0).2.1), .ref (G a0).1, .ref (G a0).2.1])), ((G a0).1, .inl (cI, (G a0).2.2.1, .inl (S a0).2.2.1)), ((G a0).2.1, .inl (cI, (G a0).2.2.1, .inl (S a0).2.2.2))] (H).size q → A q := pool_free (T := [a_14, a0]) (cx := []) hD hS hA hT9 [] rfl
      have hKc := hK.sub (tys' := [(cI, .int), (cI, .int), (cI, .int), (cI, .int)]) [1, 1, 1, 1] rfl
      refine va_callv (va_runV (As := [.ref a0]) (rest := []) ⟨hx, hb, hml, hown, hts⟩ (c_X4_copy l dC dI H.size a_14 (G a_14).1 (G a_14).2.1 (G a_14).2.2.1 (S a_14).2.1 (S a_14).1 cI cI (S a_14).2.2.1 (S a_14).2.2.2 a0 (G a0).1 (G a0).2.1 (G a0).2.2.1 (S a0).2.1 (S a0).1 cI cI (S a0).2.2.1 (S a0).2.2.2 (by first | assumption | omega | decide) (by first | assumption | omega | decide) (by first | assumption | omega | decide) (by first | assumption | omega | decide) (by first | assumption | omega | decide)) (cwV 1 hts g_X5_write_X4_copy rfl rfl rfl (by decide +kernel) ⟨Nat.le_of_ble_eq_true rfl, Nat.le_of_ble_eq_true rfl⟩) ⟨fun a U g mk q => by obtain ⟨q0, q1, qP, qK, qD⟩ := q; exact ⟨q0, q1, qP, va_K.moved (u := U) (U := U.calling g mk a) (Vm.Alike.refl U.vm) qK, qD⟩, va_recv hKc hPc (ci := 4) (q0 := 0) rfl rfl, fun U hU hW => ⟨rfl, by rw [hU], by rw [hU]; exact hPc, va_K.moved hW.alike hKc, hDc.weaken (fun _ _ _ _ => trivial)⟩⟩ rfl rfl hl.1 rfl (lv_room (Nat.le_of_ble_eq_true rfl)) dX5_write_76 ⟨(show 0 + 0 ≤ 0 by omega), (show 0 + 0 ≤ 0 by omega)⟩) hS (fun q _ h => hFc q h) hFc (fun u t H1 locs ht hvm hw hB hz1 hk1 hS => ?_)
      obtain ⟨m2_16, f2_17, g2_18⟩ := u
      obtain ⟨hP1, hK1, hD1⟩ := hB
      rw [ht] at hP1
      have hK1 := va_K.moved hvm.symm hK1
      try dsimp only at hw
      obtain ⟨hP, hD⟩ := pool_join (S := S) (S1 := (pgJ [a_14] (fun _ => ((S a0).1, m2_16, f2_17, g2_18)) (fun _ => ((S a0).1, (S a0).2.1, (S a0).2.2.1, (S a0).2.2.2)))) (T := [a_14, a0]) (cx := []) (wr := [(pd, .inl (cO, 25, .inr (.inr (.inr (.inr fd))))), (pt, .inl (cI, 25, .inl ft)), (hp, .inr (5, [.int (nI pm), .long fr2_4, .long z_11, .int nr2_6, .ref pd, .ref pt, .ref pb, .long fe2_5]))]) (rx := []) hP hD hT9 [] [0, 1, 2] rfl rfl (by decide) (by decide) hk1 hFc (by rw [pool2 hab]; exact hP1) (by rw [pool2 hab]; exact hD1)
      obtain ⟨S_19, eS_19⟩ : ∃ x, x = pgJ [a_14, a0] (pgJ [a_14] (fun _ => ((S a0).1, m2_16, f2_17, g2_18)) (fun _ => ((S a0).1, (S a0).2.1, (S a0).2.2.1, (S a0).2.2.2))) S := ⟨_, rfl⟩
      rw [← eS_19] at hP hD
      have hK := (hK.sub (tys' := [(cO, .object RX4), (cI, .int)]) [0, 1] rfl).app hK1
      have hK : va_K (dC, dI) vwCl [(cO, .object RX4), (cI, .int)] s := hK.sub [0, 1] rfl
      generalize H1 = H at hP hS ⊢
      have hP : va_P (dC, dI) vwCl ([(pd, .inl (cO, 25, .inr (.inr (.inr (.inr fd))))), (pt, .inl (cI, 25, .inl ft)), (hp, .inr (5, [.int (nI pm), .long fr2_4, .long z_11, .int nr2_6, .ref pd, .ref pt, .ref pb, .long fe2_5]))] ++ pool G cI Pg S_19) H := hP
      have hD : va_D A ([(pd, .inl (cO, 25, .inr (.inr (.inr (.inr fd))))), (pt, .inl (cI, 25, .inl ft)), (hp, .inr (5, [.int (nI pm), .long fr2_4, .long z_11, .int nr2_6, .ref pd, .ref pt, .ref pb, .long fe2_5]))] ++ pool G cI Pg S_19) := hD
      have hK : va_K (dC, dI) vwCl [(cO, .object RX4), (cI, .int)] s := hK
      have hI : pgI G Pg S_19 := by rw [eS_19]; exact pgI_2 hI hab (by first | assumption | exact Or.inl rfl | exact Or.inr rfl | exact hw.2.1 | exact hw.1) (by first | assumption | omega) (by first | assumption | exact Or.inl rfl | exact Or.inr rfl | exact hw.2.1 | exact hw.1) (by first | assumption | omega)
      have hw_r_15 := hw
      refine lv_aload_n hx hb dX5_write_79 rfl (lv_at hl 1 rfl) ?_
      refine va_get (D := (dC, dI)) (ci := 5) (v := .ref pt) (C := RX5) (T := TX5) (N := 8) hx hb hts k_1 hown hK hP 2 rfl rfl 5 (by decide) k_10 (fun _ h9 => h9) rfl dX5_write_80 ?_
      refine lv_aload_n hx hb dX5_write_83 rfl (lv_at hl 1 rfl) ?_
      refine va_get (D := (dC, dI)) (ci := 5) (v := .int (nI pm)) (C := RX5) (T := TX5) (N := 8) hx hb hts k_1 hown hK hP 2 rfl rfl 0 (by decide) k_8 (fun _ h9 => h9) rfl dX5_write_84 ?_
      refine lv_iload_n hx hb dX5_write_87 rfl (lv_at hl 0 rfl) ?_
      refine va_iast hx hb hK hP hD hS 1 1 rfl rfl (show vp_in (nI pm) 25 from vp_in_nI (by omega) (by omega)) dX5_write_88 (fun H locs hP hD hS => ?_)
      have hP : va_P (dC, dI) vwCl ([(pd, .inl (cO, 25, .inr (.inr (.inr (.inr fd))))), (pt, .inl (cI, 25, .inl (upd ft ((nI pm).toNatClampNeg) r_3))), (hp, .inr (5, [.int (nI pm), .long fr2_4, .long z_11, .int nr2_6, .ref pd, .ref pt, .ref pb, .long fe2_5]))] ++ pool G cI Pg S_19) H := hP
      have hD : va_D A ([(pd, .inl (cO, 25, .inr (.inr (.inr (.inr fd))))), (pt, .inl (cI, 25, .inl (upd ft ((nI pm).toNatClampNeg) r_3))), (hp, .inr (5, [.int (nI pm), .long fr2_4, .long z_11, .int nr2_6, .ref pd, .ref pt, .ref pb, .long fe2_5]))] ++ pool G cI Pg S_19) := hD
      obtain ⟨f_20, ef_20⟩ : ∃ g9, g9 = upd ft ((nI pm).toNatClampNeg) r_3 := ⟨_, rfl⟩
      rw [← ef_20] at hP hD
      refine lv_aload_n hx hb dX5_write_89 rfl (lv_at hl 1 rfl) ?_
      refine lv_dup hx hb dX5_write_90 rfl ?_
      refine va_get (D := (dC, dI)) (ci := 5) (v := .int (nI pm)) (C := RX5) (T := TX5) (N := 8) hx hb hts k_1 hown hK hP 2 rfl rfl 0 (by decide) k_8 (fun _ h9 => h9) rfl dX5_write_91 ?_
      refine lv_iconst (v := 1) hx hb dX5_write_94 (by decide) ?_
      refine lv_iadd hx hb dX5_write_95 ?_
      refine lv_topi (fun z_21 ez_21 => ?_)
      obtain rfl : z_21 = nI (pm + 1) := ez_21.trans (nI_1 pm)
      refine va_put (D := (dC, dI)) (ci := 5) (v := .int (nI (pm + 1))) (ty := .int) (C := RX5) (T := TX5) (N := 8) hx hb hts k_1 tyX5 tyX5_ok nmX5 hown hK hP hD hS 2 rfl rfl 0 (by decide) k_8 (fun _ h9 => h9) rfl (by decide +kernel) rfl rfl (Nat.le_of_ble_eq_true rfl) dX5_write_96 (fun H locs hP hD hS => ?_)
      have hP : va_P (dC, dI) vwCl ([(pd, .inl (cO, 25, .inr (.inr (.inr (.inr fd))))), (pt, .inl (cI, 25, .inl f_20)), (hp, .inr (5, [.int (nI (pm + 1)), .long fr2_4, .long z_11, .int nr2_6, .ref pd, .ref pt, .ref pb, .long fe2_5]))] ++ pool G cI Pg S_19) H := hP
      have hD : va_D A ([(pd, .inl (cO, 25, .inr (.inr (.inr (.inr fd))))), (pt, .inl (cI, 25, .inl f_20)), (hp, .inr (5, [.int (nI (pm + 1)), .long fr2_4, .long z_11, .int nr2_6, .ref pd, .ref pt, .ref pb, .long fe2_5]))] ++ pool G cI Pg S_19) := hD
      refine lv_iload_n hx hb dX5_write_99 rfl (lv_at hl 0 rfl) ?_
      have hP9 := hP.part (cx := [(hp, .inr (5, [.int (nI (pm + 1)), .long fr2_4, .long z_11, .int nr2_6, .ref pd, .ref pt, .ref pb, .long fe2_5])), (pd, .inl (cO, 25, .inr (.inr (.inr (.inr fd))))), (pt, .inl (cI, 25, .inl f_20))]) [2, 0, 1] rfl
      have hD9 := hD.part (cx := [(hp, .inr (5, [.int (nI (pm + 1)), .long fr2_4, .long z_11, .int nr2_6, .ref pd, .ref pt, .ref pb, .long fe2_5])), (pd, .inl (cO, 25, .inr (.inr (.inr (.inr fd))))), (pt, .inl (cI, 25, .inl f_20))]) [2, 0, 1] (by decide) rfl
      have hK9 := hK.sub (tys' := [(cO, .object RX4), (cI, .int)]) [0, 1] rfl
      exact W.iret (v := r_3) hx hb hr (fun t ht hW => ⟨⟨r_3, (pm + 1, fr2_4, z_11, fe2_5, nr2_6, f_20, S_19), rfl, ⟨hI, by omega⟩, by rw [ht]; exact hP9, va_K.moved hW.alike hK9, hD9⟩, hS.F ht⟩) hS.2.2 dX5_write_100
  · refine lv_iload_n hx hb dX5_write_11 rfl (lv_at hl 2 rfl) ?_
    refine lv_goto (tgt := 19) hx hb dX5_write_12 (by decide) ?_
    refine lv_istore_n (lv' := [(3, .int p1), (0, .ref hp), (1, .ref a0), (2, .int p1)]) hx hb dX5_write_19 rfl hl (by decide) rfl (fun ls hl => ?_)
    refine lv_aload_n hx hb dX5_write_20 rfl (lv_at hl 1 rfl) ?_
    refine lv_aload_n hx hb dX5_write_21 rfl (lv_at hl 1 rfl) ?_
    refine va_get (D := (dC, dI)) (ci := 5) (v := .long wk) (C := RX5) (T := TX5) (N := 8) hx hb hts k_1 hown hK hP 0 rfl rfl 2 (by decide) k_5 (fun _ h9 => h9) rfl dX5_write_22 ?_
    refine lv_iload_n hx hb dX5_write_25 rfl (lv_at hl 3 rfl) ?_
    have hPc := hP.sub (ws' := []) [] rfl
    have hDc := hD.sub (ws' := []) [] (by decide) rfl
    have hKc := hK.sub (tys' := []) [] rfl
    have hFc := va_free (wc := []) hD hS hA [] rfl
    refine va_calll (va_runSN (As := [.int p1]) (rest := [.long wk, .ref hp]) ⟨hx, hb, hml, hown, hts⟩ (c_X8_bit l dC dI H.size p1) ⟨va_cnB 1 hts g_X5_write_X8_bit rfl rfl rfl hNX5_54 k_3 (by decide +kernel) ⟨Nat.le_of_ble_eq_true rfl, Nat.le_of_ble_eq_true rfl⟩, k_6, trivial⟩ ⟨fun a U g mk q => by obtain ⟨q0, q1, qP, qK, qD⟩ := q; exact ⟨q0, q1, qP, va_K.moved (u := U) (U := U.calling g mk a) (Vm.Alike.refl U.vm) qK, qD⟩, fun U hU hW => ⟨rfl, by rw [hU], by rw [hU]; exact hPc, va_K.moved hW.alike hKc, hDc.weaken (fun _ _ _ _ => trivial)⟩⟩ rfl rfl hl.1 rfl (lv_room (Nat.le_of_ble_eq_true rfl)) dX5_write_26 ⟨(show 0 + 0 ≤ 0 by omega), (show 0 + 0 ≤ 0 by omega)⟩) hS (fun q _ h => hFc q h) hFc (fun r_22 u t H1 locs ht hvm hw hB hz1 hk1 hS => ?_)
    obtain ⟨hP1, hK1, hD1⟩ := hB
    rw [ht] at hP1
    have hK1 := va_K.moved hvm.symm hK1
    try dsimp only at hw
    obtain ⟨hP, hD⟩ := va_joinQ (wr := [(hp, .inr (5, [.int (nI pm), .long fr, .long wk, .int nr, .ref pd, .ref pt, .ref pb, .long fe])), (pd, .inl (cO, 25, .inr (.inr (.inr (.inr fd))))), (pt, .inl (cI, 25, .inl ft))]) (w1 := []) hP hD [] [0, 1, 2] rfl rfl (by decide) (by decide) hk1 hFc hP1 hD1
    have hK := (hK.sub (tys' := [(cO, .object RX4), (cI, .int)]) [0, 1] rfl).app hK1
    have hK : va_K (dC, dI) vwCl [(cO, .object RX4), (cI, .int)] s := hK.sub [0, 1] rfl
    generalize H1 = H at hP hS ⊢
    have hP : va_P (dC, dI) vwCl ([(hp, .inr (5, [.int (nI pm), .long fr, .long wk, .int nr, .ref pd, .ref pt, .ref pb, .long fe])), (pd, .inl (cO, 25, .inr (.inr (.inr (.inr fd))))), (pt, .inl (cI, 25, .inl ft))] ++ pool G cI Pg S) H := hP
    have hD : va_D A ([(hp, .inr (5, [.int (nI pm), .long fr, .long wk, .int nr, .ref pd, .ref pt, .ref pb, .long fe])), (pd, .inl (cO, 25, .inr (.inr (.inr (.inr fd))))), (pt, .inl (cI, 25, .inl ft))] ++ pool G cI Pg S) := hD
    have hK : va_K (dC, dI) vwCl [(cO, .object RX4), (cI, .int)] s := hK
    have hw_r_22 := hw
    refine lv_ldc2 (v := (-1)) hx hb hown k_7 dX5_write_29 ?_
    refine lv_lxor hx hb dX5_write_32 ?_
    refine lv_topl (fun z_23 _ => ?_)
    refine lv_land hx hb dX5_write_33 ?_
    refine lv_topl (fun z_24 _ => ?_)
    refine lv_iload_n hx hb dX5_write_34 rfl (lv_at hl 0 rfl) ?_
    have hPc := hP.sub (ws' := []) [] rfl
    have hDc := hD.sub (ws' := []) [] (by decide) rfl
    have hKc := hK.sub (tys' := []) [] rfl
    have hFc := va_free (wc := []) hD hS hA [] rfl
    refine va_calll (va_runSN (As := [.int p1]) (rest := [.long z_24, .ref hp]) ⟨hx, hb, hml, hown, hts⟩ (c_X8_bit l dC dI H.size p1) ⟨va_cnB 1 hts g_X5_write_X8_bit rfl rfl rfl hNX5_54 k_3 (by decide +kernel) ⟨Nat.le_of_ble_eq_true rfl, Nat.le_of_ble_eq_true rfl⟩, k_6, trivial⟩ ⟨fun a U g mk q => by obtain ⟨q0, q1, qP, qK, qD⟩ := q; exact ⟨q0, q1, qP, va_K.moved (u := U) (U := U.calling g mk a) (Vm.Alike.refl U.vm) qK, qD⟩, fun U hU hW => ⟨rfl, by rw [hU], by rw [hU]; exact hPc, va_K.moved hW.alike hKc, hDc.weaken (fun _ _ _ _ => trivial)⟩⟩ rfl rfl hl.1 rfl (lv_room (Nat.le_of_ble_eq_true rfl)) dX5_write_35 ⟨(show 0 + 0 ≤ 0 by omega), (show 0 + 0 ≤ 0 by omega)⟩) hS (fun q _ h => hFc q h) hFc (fun r_25 u t H1 locs ht hvm hw hB hz1 hk1 hS => ?_)
    obtain ⟨hP1, hK1, hD1⟩ := hB
    rw [ht] at hP1
    have hK1 := va_K.moved hvm.symm hK1
    try dsimp only at hw
    obtain ⟨hP, hD⟩ := va_joinQ (wr := [(hp, .inr (5, [.int (nI pm), .long fr, .long wk, .int nr, .ref pd, .ref pt, .ref pb, .long fe])), (pd, .inl (cO, 25, .inr (.inr (.inr (.inr fd))))), (pt, .inl (cI, 25, .inl ft))]) (w1 := []) hP hD [] [0, 1, 2] rfl rfl (by decide) (by decide) hk1 hFc hP1 hD1
    have hK := (hK.sub (tys' := [(cO, .object RX4), (cI, .int)]) [0, 1] rfl).app hK1
    have hK : va_K (dC, dI) vwCl [(cO, .object RX4), (cI, .int)] s := hK.sub [0, 1] rfl
    generalize H1 = H at hP hS ⊢
    have hP : va_P (dC, dI) vwCl ([(hp, .inr (5, [.int (nI pm), .long fr, .long wk, .int nr, .ref pd, .ref pt, .ref pb, .long fe])), (pd, .inl (cO, 25, .inr (.inr (.inr (.inr fd))))), (pt, .inl (cI, 25, .inl ft))] ++ pool G cI Pg S) H := hP
    have hD : va_D A ([(hp, .inr (5, [.int (nI pm), .long fr, .long wk, .int nr, .ref pd, .ref pt, .ref pb, .long fe])), (pd, .inl (cO, 25, .inr (.inr (.inr (.inr fd))))), (pt, .inl (cI, 25, .inl ft))] ++ pool G cI Pg S) := hD
    have hK : va_K (dC, dI) vwCl [(cO, .object RX4), (cI, .int)] s := hK
    have hw_r_25 := hw
    refine lv_lor hx hb dX5_write_38 ?_
    refine lv_topl (fun z_26 _ => ?_)
    refine va_put (D := (dC, dI)) (ci := 5) (v := .long z_26) (ty := .long) (C := RX5) (T := TX5) (N := 8) hx hb hts k_1 tyX5 tyX5_ok nmX5 hown hK hP hD hS 0 rfl rfl 2 (by decide) k_5 (fun _ h9 => h9) rfl (by decide +kernel) rfl rfl (Nat.le_of_ble_eq_true rfl) dX5_write_39 (fun H locs hP hD hS => ?_)
    have hP : va_P (dC, dI) vwCl ([(hp, .inr (5, [.int (nI pm), .long fr, .long z_26, .int nr, .ref pd, .ref pt, .ref pb, .long fe])), (pd, .inl (cO, 25, .inr (.inr (.inr (.inr fd))))), (pt, .inl (cI, 25, .inl ft))] ++ pool G cI Pg S) H := hP
    have hD : va_D A ([(hp, .inr (5, [.int (nI pm), .long fr, .long z_26, .int nr, .ref pd, .ref pt, .ref pb, .long fe])), (pd, .inl (cO, 25, .inr (.inr (.inr (.inr fd))))), (pt, .inl (cI, 25, .inl ft))] ++ pool G cI Pg S) := hD
    refine lv_aload_n hx hb dX5_write_42 rfl (lv_at hl 1 rfl) ?_
    refine va_get (D := (dC, dI)) (ci := 5) (v := .int (nI pm)) (C := RX5) (T := TX5) (N := 8) hx hb hts k_1 hown hK hP 0 rfl rfl 0 (by decide) k_8 (fun _ h9 => h9) rfl dX5_write_43 ?_
    refine lv_aload_n hx hb dX5_write_46 rfl (lv_at hl 1 rfl) ?_
    refine va_get (D := (dC, dI)) (ci := 5) (v := .ref pd) (C := RX5) (T := TX5) (N := 8) hx hb hts k_1 hown hK hP 0 rfl rfl 4 (by decide) k_9 (fun _ h9 => h9) rfl dX5_write_47 ?_
    refine va_alen (v := nI 25) hx hb hK hP 1 0 rfl rfl rfl dX5_write_50 ?_
    refine lv_icmp_ge (tgt := 99) hx hb dX5_write_51 (by decide) (fun c_27 => ?_) (fun c_27 => ?_)
    · refine lv_iload_n hx hb dX5_write_99 rfl (lv_at hl 0 rfl) ?_
      have hP9 := hP.part (cx := [(hp, .inr (5, [.int (nI pm), .long fr, .long z_26, .int nr, .ref pd, .ref pt, .ref pb, .long fe])), (pd, .inl (cO, 25, .inr (.inr (.inr (.inr fd))))), (pt, .inl (cI, 25, .inl ft))]) [0, 1, 2] rfl
      have hD9 := hD.part (cx := [(hp, .inr (5, [.int (nI pm), .long fr, .long z_26, .int nr, .ref pd, .ref pt, .ref pb, .long fe])), (pd, .inl (cO, 25, .inr (.inr (.inr (.inr fd))))), (pt, .inl (cI, 25, .inl ft))]) [0, 1, 2] (by decide) rfl
      have hK9 := hK.sub (tys' := [(cO, .object RX4), (cI, .int)]) [0, 1] rfl
      exact W.iret (v := p1) hx hb hr (fun t ht hW => ⟨⟨p1, (pm, fr, z_26, fe, nr, ft, S), rfl, ⟨hI, by omega⟩, by rw [ht]; exact hP9, va_K.moved hW.alike hK9, hD9⟩, hS.F ht⟩) hS.2.2 dX5_write_100
    · have hlt : pm < 25 := Nat.lt_of_not_le (fun h => c_27 (nI_le h (by omega)))
      refine lv_aload_n hx hb dX5_write_54 rfl (lv_at hl 1 rfl) ?_
      refine va_get (D := (dC, dI)) (ci := 5) (v := .int (nI pm)) (C := RX5) (T := TX5) (N := 8) hx hb hts k_1 hown hK hP 0 rfl rfl 0 (by decide) k_8 (fun _ h9 => h9) rfl dX5_write_55 ?_
      refine lv_aload_n hx hb dX5_write_58 rfl (lv_at hl 1 rfl) ?_
      refine va_get (D := (dC, dI)) (ci := 5) (v := .ref pt) (C := RX5) (T := TX5) (N := 8) hx hb hts k_1 hown hK hP 0 rfl rfl 5 (by decide) k_10 (fun _ h9 => h9) rfl dX5_write_59 ?_
      refine va_alen (v := nI 25) hx hb hK hP 2 1 rfl rfl rfl dX5_write_62 ?_
      refine lv_icmp_ge (tgt := 99) hx hb dX5_write_63 (by decide) (fun c_28 => ?_) (fun c_28 => ?_)
      · exact absurd c_28 (nI_ge hlt (by omega))
      refine lv_aload_n hx hb dX5_write_66 rfl (lv_at hl 1 rfl) ?_
      refine va_get (D := (dC, dI)) (ci := 5) (v := .ref pd) (C := RX5) (T := TX5) (N := 8) hx hb hts k_1 hown hK hP 0 rfl rfl 4 (by decide) k_9 (fun _ h9 => h9) rfl dX5_write_67 ?_
      refine lv_aload_n hx hb dX5_write_70 rfl (lv_at hl 1 rfl) ?_
      refine va_get (D := (dC, dI)) (ci := 5) (v := .int (nI pm)) (C := RX5) (T := TX5) (N := 8) hx hb hts k_1 hown hK hP 0 rfl rfl 0 (by decide) k_8 (fun _ h9 => h9) rfl dX5_write_71 ?_
      refine va_aldq hx hb hK hP 1 0 rfl rfl (show vp_in (nI pm) 25 from vp_in_nI (by omega) (by omega)) dX5_write_74 ?_
      obtain ⟨a_29, hm_a_29, ht_a_29, ez_a_29⟩ := hdr _ (in_lt (show vp_in (nI pm) 25 from vp_in_nI (by omega) (by omega)))
      refine lv_rf ez_a_29 ?_
      refine lv_aload_n hx hb dX5_write_75 rfl (lv_at hl 2 rfl) ?_
      have hz1_a_29 := (hI a_29 hm_a_29).1
      have hz2_a_29 := (hI a_29 hm_a_29).2.1
      have hz3_a_29 := (hI a_29 hm_a_29).2.2
      have hz1_a0 := (hI a0 hm_a0).1
      have hz2_a0 := (hI a0 hm_a0).2.1
      have hz3_a0 := (hI a0 hm_a0).2.2
      have hab : a_29 ≠ a0 := fun h9 => absurd (congrArg (fun x => (G x).2.2.2) h9) (by show (G a_29).2.2.2 ≠ (G a0).2.2.2; have h7 := ht_a_29; have h8 := ht_a0; omega)
      have hT9 := in2 hm_a_29 hm_a0
      have hPc : va_P (dC, dI) vwCl [(a_29, .inr (4, [.int (S a_29).1, .int (nI (S a_29).2.1), .ref (G a_29).1, .ref (G a_29).2.1])), ((G a_29).1, .inl (cI, (G a_29).2.2.1, .inl (S a_29).2.2.1)), ((G a_29).2.1, .inl (cI, (G a_29).2.2.1, .inl (S a_29).2.2.2)), (a0, .inr (4, [.int (S a0).1, .int (nI (S a0).2.1), .ref (G a0).1, .ref (G a0).2.1])), ((G a0).1, .inl (cI, (G a0).2.2.1, .inl (S a0).2.2.1)), ((G a0).2.1, .inl (cI, (G a0).2.2.1, .inl (S a0).2.2.2))] H := pool_cut (T := [a_29, a0]) (cx := []) hP hT9 [] rfl
      have hDc : va_D A [(a_29, .inr (4, [.int (S a_29).1, .int (nI (S a_29).2.1), .ref (G a_29).1, .ref (G a_29).2.1])), ((G a_29).1, .inl (cI, (G a_29).2.2.1, .inl (S a_29).2.2.1)), ((G a_29).2.1, .inl (cI, (G a_29).2.2.1, .inl (S a_29).2.2.2)), (a0, .inr (4, [.int (S a0).1, .int (nI (S a0).2.1), .ref (G a0).1, .ref (G a0).2.1])), ((G a0).1, .inl (cI, (G a0).2.2.1, .inl (S a0).2.2.1)), ((G a0).2.1, .inl (cI, (G a0).2.2.1, .inl (S a0).2.2.2))] := pool_cutD (T := [a_29, a0]) (cx := []) hD hT9 (nd2 hab) [] (by decide) rfl
      have hFc : ∀ q, va_A [(a_29, .inr (4, [.int (S a_29).1, .int (nI (S a_29).2.1), .ref (G a_29).1, .ref (G a_29).2.1])), ((G a_29).1, .inl (cI, (G a_29).2.2.1, .inl (S a_29).2.2.1)), ((G a_29).2.1, .inl (cI, (G a_29).2.2.1, .inl (S a_29).2.2.2)), (a0, .inr (4, [.int (S a0).1, .int (nI (S a0).2.1), .ref (G a0).1, .ref (G a0).2.1])), ((G a0).1, .inl (cI, (G a0).2.2.1, .inl (S a0).2.2.1)), ((G a0).2.1, .inl (cI, (G a0).2.2.1, .inl (S a0).2.2.2))] (H).size q → A q := pool_free (T := [a_29, a0]) (cx := []) hD hS hA hT9 [] rfl
      have hKc := hK.sub (tys' := [(cI, .int), (cI, .int), (cI, .int), (cI, .int)]) [1, 1, 1, 1] rfl
      refine va_callv (va_runV (As := [.ref a0]) (rest := []) ⟨hx, hb, hml, hown, hts⟩ (c_X4_copy l dC dI H.size a_29 (G a_29).1 (G a_29).2.1 (G a_29).2.2.1 (S a_29).2.1 (S a_29).1 cI cI (S a_29).2.2.1 (S a_29).2.2.2 a0 (G a0).1 (G a0).2.1 (G a0).2.2.1 (S a0).2.1 (S a0).1 cI cI (S a0).2.2.1 (S a0).2.2.2 (by first | assumption | omega | decide) (by first | assumption | omega | decide) (by first | assumption | omega | decide) (by first | assumption | omega | decide) (by first | assumption | omega | decide)) (cwV 1 hts g_X5_write_X4_copy rfl rfl rfl (by decide +kernel) ⟨Nat.le_of_ble_eq_true rfl, Nat.le_of_ble_eq_true rfl⟩) ⟨fun a U g mk q => by obtain ⟨q0, q1, qP, qK, qD⟩ := q; exact ⟨q0, q1, qP, va_K.moved (u := U) (U := U.calling g mk a) (Vm.Alike.refl U.vm) qK, qD⟩, va_recv hKc hPc (ci := 4) (q0 := 0) rfl rfl, fun U hU hW => ⟨rfl, by rw [hU], by rw [hU]; exact hPc, va_K.moved hW.alike hKc, hDc.weaken (fun _ _ _ _ => trivial)⟩⟩ rfl rfl hl.1 rfl (lv_room (Nat.le_of_ble_eq_true rfl)) dX5_write_76 ⟨(show 0 + 0 ≤ 0 by omega), (show 0 + 0 ≤ 0 by omega)⟩) hS (fun q _ h => hFc q h) hFc (fun u t H1 locs ht hvm hw hB hz1 hk1 hS => ?_)
      obtain ⟨m2_31, f2_32, g2_33⟩ := u
      obtain ⟨hP1, hK1, hD1⟩ := hB
      rw [ht] at hP1
      have hK1 := va_K.moved hvm.symm hK1
      try dsimp only at hw
      obtain ⟨hP, hD⟩ := pool_join (S := S) (S1 := (pgJ [a_29] (fun _ => ((S a0).1, m2_31, f2_32, g2_33)) (fun _ => ((S a0).1, (S a0).2.1, (S a0).2.2.1, (S a0).2.2.2)))) (T := [a_29, a0]) (cx := []) (wr := [(hp, .inr (5, [.int (nI pm), .long fr, .long z_26, .int nr, .ref pd, .ref pt, .ref pb, .long fe])), (pd, .inl (cO, 25, .inr (.inr (.inr (.inr fd))))), (pt, .inl (cI, 25, .inl ft))]) (rx := []) hP hD hT9 [] [0, 1, 2] rfl rfl (by decide) (by decide) hk1 hFc (by rw [pool2 hab]; exact hP1) (by rw [pool2 hab]; exact hD1)
      obtain ⟨S_34, eS_34⟩ : ∃ x, x = pgJ [a_29, a0] (pgJ [a_29] (fun _ => ((S a0).1, m2_31, f2_32, g2_33)) (fun _ => ((S a0).1, (S a0).2.1, (S a0).2.2.1, (S a0).2.2.2))) S := ⟨_, rfl⟩
      rw [← eS_34] at hP hD
      have hK := (hK.sub (tys' := [(cO, .object RX4), (cI, .int)]) [0, 1] rfl).app hK1
      have hK : va_K (dC, dI) vwCl [(cO, .object RX4), (cI, .int)] s := hK.sub [0, 1] rfl
      generalize H1 = H at hP hS ⊢
      have hP : va_P (dC, dI) vwCl ([(hp, .inr (5, [.int (nI pm), .long fr, .long z_26, .int nr, .ref pd, .ref pt, .ref pb, .long fe])), (pd, .inl (cO, 25, .inr (.inr (.inr (.inr fd))))), (pt, .inl (cI, 25, .inl ft))] ++ pool G cI Pg S_34) H := hP
      have hD : va_D A ([(hp, .inr (5, [.int (nI pm), .long fr, .long z_26, .int nr, .ref pd, .ref pt, .ref pb, .long fe])), (pd, .inl (cO, 25, .inr (.inr (.inr (.inr fd))))), (pt, .inl (cI, 25, .inl ft))] ++ pool G cI Pg S_34) := hD
      have hK : va_K (dC, dI) vwCl [(cO, .object RX4), (cI, .int)] s := hK
      have hI : pgI G Pg S_34 := by rw [eS_34]; exact pgI_2 hI hab (by first | assumption | exact Or.inl rfl | exact Or.inr rfl | exact hw.2.1 | exact hw.1) (by first | assumption | omega) (by first | assumption | exact Or.inl rfl | exact Or.inr rfl | exact hw.2.1 | exact hw.1) (by first | assumption | omega)
      have hw_r_30 := hw
      refine lv_aload_n hx hb dX5_write_79 rfl (lv_at hl 1 rfl) ?_
      refine va_get (D := (dC, dI)) (ci := 5) (v := .ref pt) (C := RX5) (T := TX5) (N := 8) hx hb hts k_1 hown hK hP 0 rfl rfl 5 (by decide) k_10 (fun _ h9 => h9) rfl dX5_write_80 ?_
      refine lv_aload_n hx hb dX5_write_83 rfl (lv_at hl 1 rfl) ?_
      refine va_get (D := (dC, dI)) (ci := 5) (v := .int (nI pm)) (C := RX5) (T := TX5) (N := 8) hx hb hts k_1 hown hK hP 0 rfl rfl 0 (by decide) k_8 (fun _ h9 => h9) rfl dX5_write_84 ?_
      refine lv_iload_n hx hb dX5_write_87 rfl (lv_at hl 0 rfl) ?_
      refine va_iast hx hb hK hP hD hS 2 1 rfl rfl (show vp_in (nI pm) 25 from vp_in_nI (by omega) (by omega)) dX5_write_88 (fun H locs hP hD hS => ?_)
      have hP : va_P (dC, dI) vwCl ([(hp, .inr (5, [.int (nI pm), .long fr, .long z_26, .int nr, .ref pd, .ref pt, .ref pb, .long fe])), (pd, .inl (cO, 25, .inr (.inr (.inr (.inr fd))))), (pt, .inl (cI, 25, .inl (upd ft ((nI pm).toNatClampNeg) p1)))] ++ pool G cI Pg S_34) H := hP
      have hD : va_D A ([(hp, .inr (5, [.int (nI pm), .long fr, .long z_26, .int nr, .ref pd, .ref pt, .ref pb, .long fe])), (pd, .inl (cO, 25, .inr (.inr (.inr (.inr fd))))), (pt, .inl (cI, 25, .inl (upd ft ((nI pm).toNatClampNeg) p1)))] ++ pool G cI Pg S_34) := hD
      obtain ⟨f_35, ef_35⟩ : ∃ g9, g9 = upd ft ((nI pm).toNatClampNeg) p1 := ⟨_, rfl⟩
      rw [← ef_35] at hP hD
      refine lv_aload_n hx hb dX5_write_89 rfl (lv_at hl 1 rfl) ?_
      refine lv_dup hx hb dX5_write_90 rfl ?_
      refine va_get (D := (dC, dI)) (ci := 5) (v := .int (nI pm)) (C := RX5) (T := TX5) (N := 8) hx hb hts k_1 hown hK hP 0 rfl rfl 0 (by decide) k_8 (fun _ h9 => h9) rfl dX5_write_91 ?_
      refine lv_iconst (v := 1) hx hb dX5_write_94 (by decide) ?_
      refine lv_iadd hx hb dX5_write_95 ?_
      refine lv_topi (fun z_36 ez_36 => ?_)
      obtain rfl : z_36 = nI (pm + 1) := ez_36.trans (nI_1 pm)
      refine va_put (D := (dC, dI)) (ci := 5) (v := .int (nI (pm + 1))) (ty := .int) (C := RX5) (T := TX5) (N := 8) hx hb hts k_1 tyX5 tyX5_ok nmX5 hown hK hP hD hS 0 rfl rfl 0 (by decide) k_8 (fun _ h9 => h9) rfl (by decide +kernel) rfl rfl (Nat.le_of_ble_eq_true rfl) dX5_write_96 (fun H locs hP hD hS => ?_)
      have hP : va_P (dC, dI) vwCl ([(hp, .inr (5, [.int (nI (pm + 1)), .long fr, .long z_26, .int nr, .ref pd, .ref pt, .ref pb, .long fe])), (pd, .inl (cO, 25, .inr (.inr (.inr (.inr fd))))), (pt, .inl (cI, 25, .inl f_35))] ++ pool G cI Pg S_34) H := hP
      have hD : va_D A ([(hp, .inr (5, [.int (nI (pm + 1)), .long fr, .long z_26, .int nr, .ref pd, .ref pt, .ref pb, .long fe])), (pd, .inl (cO, 25, .inr (.inr (.inr (.inr fd))))), (pt, .inl (cI, 25, .inl f_35))] ++ pool G cI Pg S_34) := hD
      refine lv_iload_n hx hb dX5_write_99 rfl (lv_at hl 0 rfl) ?_
      have hP9 := hP.part (cx := [(hp, .inr (5, [.int (nI (pm + 1)), .long fr, .long z_26, .int nr, .ref pd, .ref pt, .ref pb, .long fe])), (pd, .inl (cO, 25, .inr (.inr (.inr (.inr fd))))), (pt, .inl (cI, 25, .inl f_35))]) [0, 1, 2] rfl
      have hD9 := hD.part (cx := [(hp, .inr (5, [.int (nI (pm + 1)), .long fr, .long z_26, .int nr, .ref pd, .ref pt, .ref pb, .long fe])), (pd, .inl (cO, 25, .inr (.inr (.inr (.inr fd))))), (pt, .inl (cI, 25, .inl f_35))]) [0, 1, 2] (by decide) rfl
      have hK9 := hK.sub (tys' := [(cO, .object RX4), (cI, .int)]) [0, 1] rfl
      exact W.iret (v := p1) hx hb hr (fun t ht hW => ⟨⟨p1, (pm + 1, fr, z_26, fe, nr, f_35, S_34), rfl, ⟨hI, by omega⟩, by rw [ht]; exact hP9, va_K.moved hW.alike hK9, hD9⟩, hS.F ht⟩) hS.2.2 dX5_write_100

theorem dX2_inLine_0 : decode cX2_inLine 0 = .ok (.iload_n 1, 1) := by decide +kernel
theorem dX2_inLine_1 : decode cX2_inLine 1 = .ok (.ifCond .lt 33, 3) := by decide +kernel
theorem dX2_inLine_4 : decode cX2_inLine 4 = .ok (.iload_n 1, 1) := by decide +kernel
theorem dX2_inLine_5 : decode cX2_inLine 5 = .ok (.aload_n 0, 1) := by decide +kernel
theorem dX2_inLine_6 : decode cX2_inLine 6 = .ok (.getfield 50, 3) := by decide +kernel
theorem dX2_inLine_9 : decode cX2_inLine 9 = .ok (.if_icmp .ge 25, 3) := by decide +kernel
theorem dX2_inLine_12 : decode cX2_inLine 12 = .ok (.iload_n 1, 1) := by decide +kernel
theorem dX2_inLine_13 : decode cX2_inLine 13 = .ok (.aload_n 0, 1) := by decide +kernel
theorem dX2_inLine_14 : decode cX2_inLine 14 = .ok (.getfield 24, 3) := by decide +kernel
theorem dX2_inLine_17 : decode cX2_inLine 17 = .ok (.arraylength, 1) := by decide +kernel
theorem dX2_inLine_18 : decode cX2_inLine 18 = .ok (.if_icmp .ge 16, 3) := by decide +kernel
theorem dX2_inLine_21 : decode cX2_inLine 21 = .ok (.aload_n 0, 1) := by decide +kernel
theorem dX2_inLine_22 : decode cX2_inLine 22 = .ok (.aload_n 0, 1) := by decide +kernel
theorem dX2_inLine_23 : decode cX2_inLine 23 = .ok (.getfield 24, 3) := by decide +kernel
theorem dX2_inLine_26 : decode cX2_inLine 26 = .ok (.iload_n 1, 1) := by decide +kernel
theorem dX2_inLine_27 : decode cX2_inLine 27 = .ok (.iaload, 1) := by decide +kernel
theorem dX2_inLine_28 : decode cX2_inLine 28 = .ok (.invokevirtual 28, 3) := by decide +kernel
theorem dX2_inLine_31 : decode cX2_inLine 31 = .ok (.goto 7, 3) := by decide +kernel
theorem dX2_inLine_34 : decode cX2_inLine 34 = .ok (.aload_n 0, 1) := by decide +kernel
theorem dX2_inLine_35 : decode cX2_inLine 35 = .ok (.getfield 20, 3) := by decide +kernel
theorem dX2_inLine_38 : decode cX2_inLine 38 = .ok (.areturn, 1) := by decide +kernel
theorem dX2_leaf_0 : decode cX2_leaf 0 = .ok (.aload_n 0, 1) := by decide +kernel
theorem dX2_leaf_1 : decode cX2_leaf 1 = .ok (.aload_n 0, 1) := by decide +kernel
theorem dX2_leaf_2 : decode cX2_leaf 2 = .ok (.getfield 47, 3) := by decide +kernel
theorem dX2_leaf_5 : decode cX2_leaf 5 = .ok (.iload_n 1, 1) := by decide +kernel
theorem dX2_leaf_6 : decode cX2_leaf 6 = .ok (.iadd, 1) := by decide +kernel
theorem dX2_leaf_7 : decode cX2_leaf 7 = .ok (.invokevirtual 56, 3) := by decide +kernel
theorem dX2_leaf_10 : decode cX2_leaf 10 = .ok (.areturn, 1) := by decide +kernel
theorem dX2_leafFor_0 : decode cX2_leafFor 0 = .ok (.aload_n 0, 1) := by decide +kernel
theorem dX2_leafFor_1 : decode cX2_leafFor 1 = .ok (.iload_n 1, 1) := by decide +kernel
theorem dX2_leafFor_2 : decode cX2_leafFor 2 = .ok (.invokevirtual 28, 3) := by decide +kernel
theorem dX2_leafFor_5 : decode cX2_leafFor 5 = .ok (.astore_n 3, 1) := by decide +kernel
theorem dX2_leafFor_6 : decode cX2_leafFor 6 = .ok (.iconst 1, 1) := by decide +kernel
theorem dX2_leafFor_7 : decode cX2_leafFor 7 = .ok (.istore 4, 2) := by decide +kernel
theorem dX2_leafFor_9 : decode cX2_leafFor 9 = .ok (.iload 4, 2) := by decide +kernel
theorem dX2_leafFor_11 : decode cX2_leafFor 11 = .ok (.bipush 12, 2) := by decide +kernel
theorem dX2_leafFor_13 : decode cX2_leafFor 13 = .ok (.if_icmp .ge 30, 3) := by decide +kernel
theorem dX2_leafFor_16 : decode cX2_leafFor 16 = .ok (.aload_n 3, 1) := by decide +kernel
theorem dX2_leafFor_17 : decode cX2_leafFor 17 = .ok (.getfield 32, 3) := by decide +kernel
theorem dX2_leafFor_20 : decode cX2_leafFor 20 = .ok (.ifCond .ne 23, 3) := by decide +kernel
theorem dX2_leafFor_23 : decode cX2_leafFor 23 = .ok (.aload_n 0, 1) := by decide +kernel
theorem dX2_leafFor_24 : decode cX2_leafFor 24 = .ok (.aload_n 3, 1) := by decide +kernel
theorem dX2_leafFor_25 : decode cX2_leafFor 25 = .ok (.aload_n 3, 1) := by decide +kernel
theorem dX2_leafFor_26 : decode cX2_leafFor 26 = .ok (.iload_n 2, 1) := by decide +kernel
theorem dX2_leafFor_27 : decode cX2_leafFor 27 = .ok (.invokevirtual 36, 3) := by decide +kernel
theorem dX2_leafFor_30 : decode cX2_leafFor 30 = .ok (.invokevirtual 40, 3) := by decide +kernel
theorem dX2_leafFor_33 : decode cX2_leafFor 33 = .ok (.invokevirtual 28, 3) := by decide +kernel
theorem dX2_leafFor_36 : decode cX2_leafFor 36 = .ok (.astore_n 3, 1) := by decide +kernel
theorem dX2_leafFor_37 : decode cX2_leafFor 37 = .ok (.iinc 4 1, 3) := by decide +kernel
theorem dX2_leafFor_40 : decode cX2_leafFor 40 = .ok (.goto (-31), 3) := by decide +kernel
theorem dX2_leafFor_43 : decode cX2_leafFor 43 = .ok (.aload_n 3, 1) := by decide +kernel
theorem dX2_leafFor_44 : decode cX2_leafFor 44 = .ok (.getfield 32, 3) := by decide +kernel
theorem dX2_leafFor_47 : decode cX2_leafFor 47 = .ok (.ifCond .eq 7, 3) := by decide +kernel
theorem dX2_leafFor_50 : decode cX2_leafFor 50 = .ok (.aload_n 3, 1) := by decide +kernel
theorem dX2_leafFor_51 : decode cX2_leafFor 51 = .ok (.goto 7, 3) := by decide +kernel
theorem dX2_leafFor_54 : decode cX2_leafFor 54 = .ok (.aload_n 0, 1) := by decide +kernel
theorem dX2_leafFor_55 : decode cX2_leafFor 55 = .ok (.getfield 20, 3) := by decide +kernel
theorem dX2_leafFor_58 : decode cX2_leafFor 58 = .ok (.areturn, 1) := by decide +kernel
theorem dX2_leaves_0 : decode cX2_leaves 0 = .ok (.aload_n 0, 1) := by decide +kernel
theorem dX2_leaves_1 : decode cX2_leaves 1 = .ok (.getfield 50, 3) := by decide +kernel
theorem dX2_leaves_4 : decode cX2_leaves 4 = .ok (.aload_n 0, 1) := by decide +kernel
theorem dX2_leaves_5 : decode cX2_leaves 5 = .ok (.getfield 47, 3) := by decide +kernel
theorem dX2_leaves_8 : decode cX2_leaves 8 = .ok (.isub, 1) := by decide +kernel
theorem dX2_leaves_9 : decode cX2_leaves 9 = .ok (.ireturn, 1) := by decide +kernel
theorem dX2_lineUp_0 : decode cX2_lineUp 0 = .ok (.aload_n 0, 1) := by decide +kernel
theorem dX2_lineUp_1 : decode cX2_lineUp 1 = .ok (.getfield 50, 3) := by decide +kernel
theorem dX2_lineUp_4 : decode cX2_lineUp 4 = .ok (.aload_n 0, 1) := by decide +kernel
theorem dX2_lineUp_5 : decode cX2_lineUp 5 = .ok (.getfield 24, 3) := by decide +kernel
theorem dX2_lineUp_8 : decode cX2_lineUp 8 = .ok (.arraylength, 1) := by decide +kernel
theorem dX2_lineUp_9 : decode cX2_lineUp 9 = .ok (.if_icmp .ge 23, 3) := by decide +kernel
theorem dX2_lineUp_12 : decode cX2_lineUp 12 = .ok (.aload_n 0, 1) := by decide +kernel
theorem dX2_lineUp_13 : decode cX2_lineUp 13 = .ok (.getfield 24, 3) := by decide +kernel
theorem dX2_lineUp_16 : decode cX2_lineUp 16 = .ok (.aload_n 0, 1) := by decide +kernel
theorem dX2_lineUp_17 : decode cX2_lineUp 17 = .ok (.getfield 50, 3) := by decide +kernel
theorem dX2_lineUp_20 : decode cX2_lineUp 20 = .ok (.iload_n 1, 1) := by decide +kernel
theorem dX2_lineUp_21 : decode cX2_lineUp 21 = .ok (.iastore, 1) := by decide +kernel
theorem dX2_lineUp_22 : decode cX2_lineUp 22 = .ok (.aload_n 0, 1) := by decide +kernel
theorem dX2_lineUp_23 : decode cX2_lineUp 23 = .ok (.dup, 1) := by decide +kernel
theorem dX2_lineUp_24 : decode cX2_lineUp 24 = .ok (.getfield 50, 3) := by decide +kernel
theorem dX2_lineUp_27 : decode cX2_lineUp 27 = .ok (.iconst 1, 1) := by decide +kernel
theorem dX2_lineUp_28 : decode cX2_lineUp 28 = .ok (.iadd, 1) := by decide +kernel
theorem dX2_lineUp_29 : decode cX2_lineUp 29 = .ok (.putfield 50, 3) := by decide +kernel
theorem dX2_lineUp_32 : decode cX2_lineUp 32 = .ok (.return_, 1) := by decide +kernel
theorem dX2_lineUpChildren_0 : decode cX2_lineUpChildren 0 = .ok (.iconst 0, 1) := by decide +kernel
theorem dX2_lineUpChildren_1 : decode cX2_lineUpChildren 1 = .ok (.istore_n 2, 1) := by decide +kernel
theorem dX2_lineUpChildren_2 : decode cX2_lineUpChildren 2 = .ok (.iload_n 2, 1) := by decide +kernel
theorem dX2_lineUpChildren_3 : decode cX2_lineUpChildren 3 = .ok (.aload_n 1, 1) := by decide +kernel
theorem dX2_lineUpChildren_4 : decode cX2_lineUpChildren 4 = .ok (.getfield 63, 3) := by decide +kernel
theorem dX2_lineUpChildren_7 : decode cX2_lineUpChildren 7 = .ok (.if_icmp .ge 18, 3) := by decide +kernel
theorem dX2_lineUpChildren_10 : decode cX2_lineUpChildren 10 = .ok (.aload_n 0, 1) := by decide +kernel
theorem dX2_lineUpChildren_11 : decode cX2_lineUpChildren 11 = .ok (.aload_n 1, 1) := by decide +kernel
theorem dX2_lineUpChildren_12 : decode cX2_lineUpChildren 12 = .ok (.iload_n 2, 1) := by decide +kernel
theorem dX2_lineUpChildren_13 : decode cX2_lineUpChildren 13 = .ok (.invokevirtual 40, 3) := by decide +kernel
theorem dX2_lineUpChildren_16 : decode cX2_lineUpChildren 16 = .ok (.invokevirtual 53, 3) := by decide +kernel
theorem dX2_lineUpChildren_19 : decode cX2_lineUpChildren 19 = .ok (.iinc 2 1, 3) := by decide +kernel
theorem dX2_lineUpChildren_22 : decode cX2_lineUpChildren 22 = .ok (.goto (-20), 3) := by decide +kernel
theorem dX2_lineUpChildren_25 : decode cX2_lineUpChildren 25 = .ok (.return_, 1) := by decide +kernel
theorem dX2_page_0 : decode cX2_page 0 = .ok (.iload_n 1, 1) := by decide +kernel
theorem dX2_page_1 : decode cX2_page 1 = .ok (.iconst 2, 1) := by decide +kernel
theorem dX2_page_2 : decode cX2_page 2 = .ok (.if_icmp .lt 21, 3) := by decide +kernel
theorem dX2_page_5 : decode cX2_page 5 = .ok (.iload_n 1, 1) := by decide +kernel
theorem dX2_page_6 : decode cX2_page 6 = .ok (.aload_n 0, 1) := by decide +kernel
theorem dX2_page_7 : decode cX2_page 7 = .ok (.getfield 11, 3) := by decide +kernel
theorem dX2_page_10 : decode cX2_page 10 = .ok (.arraylength, 1) := by decide +kernel
theorem dX2_page_11 : decode cX2_page 11 = .ok (.if_icmp .ge 12, 3) := by decide +kernel
theorem dX2_page_14 : decode cX2_page 14 = .ok (.aload_n 0, 1) := by decide +kernel
theorem dX2_page_15 : decode cX2_page 15 = .ok (.getfield 11, 3) := by decide +kernel
theorem dX2_page_18 : decode cX2_page 18 = .ok (.iload_n 1, 1) := by decide +kernel
theorem dX2_page_19 : decode cX2_page 19 = .ok (.aaload, 1) := by decide +kernel
theorem dX2_page_20 : decode cX2_page 20 = .ok (.goto 7, 3) := by decide +kernel
theorem dX2_page_23 : decode cX2_page 23 = .ok (.aload_n 0, 1) := by decide +kernel
theorem dX2_page_24 : decode cX2_page 24 = .ok (.getfield 20, 3) := by decide +kernel
theorem dX2_page_27 : decode cX2_page 27 = .ok (.areturn, 1) := by decide +kernel
theorem dX2_walk_0 : decode cX2_walk 0 = .ok (.aload_n 0, 1) := by decide +kernel
theorem dX2_walk_1 : decode cX2_walk 1 = .ok (.iconst 0, 1) := by decide +kernel
theorem dX2_walk_2 : decode cX2_walk 2 = .ok (.putfield 43, 3) := by decide +kernel
theorem dX2_walk_5 : decode cX2_walk 5 = .ok (.aload_n 0, 1) := by decide +kernel
theorem dX2_walk_6 : decode cX2_walk 6 = .ok (.iconst 0, 1) := by decide +kernel
theorem dX2_walk_7 : decode cX2_walk 7 = .ok (.putfield 47, 3) := by decide +kernel
theorem dX2_walk_10 : decode cX2_walk 10 = .ok (.aload_n 0, 1) := by decide +kernel
theorem dX2_walk_11 : decode cX2_walk 11 = .ok (.iconst 0, 1) := by decide +kernel
theorem dX2_walk_12 : decode cX2_walk 12 = .ok (.putfield 50, 3) := by decide +kernel
theorem dX2_walk_15 : decode cX2_walk 15 = .ok (.iload_n 1, 1) := by decide +kernel
theorem dX2_walk_16 : decode cX2_walk 16 = .ok (.ifCond .ne 4, 3) := by decide +kernel
theorem dX2_walk_19 : decode cX2_walk 19 = .ok (.return_, 1) := by decide +kernel
theorem dX2_walk_20 : decode cX2_walk 20 = .ok (.aload_n 0, 1) := by decide +kernel
theorem dX2_walk_21 : decode cX2_walk 21 = .ok (.iload_n 1, 1) := by decide +kernel
theorem dX2_walk_22 : decode cX2_walk 22 = .ok (.invokevirtual 53, 3) := by decide +kernel
theorem dX2_walk_25 : decode cX2_walk 25 = .ok (.aload_n 0, 1) := by decide +kernel
theorem dX2_walk_26 : decode cX2_walk 26 = .ok (.iconst 1, 1) := by decide +kernel
theorem dX2_walk_27 : decode cX2_walk 27 = .ok (.putfield 43, 3) := by decide +kernel
theorem dX2_walk_30 : decode cX2_walk 30 = .ok (.aload_n 0, 1) := by decide +kernel
theorem dX2_walk_31 : decode cX2_walk 31 = .ok (.getfield 43, 3) := by decide +kernel
theorem dX2_walk_34 : decode cX2_walk 34 = .ok (.bipush 12, 2) := by decide +kernel
theorem dX2_walk_36 : decode cX2_walk 36 = .ok (.if_icmp .ge 65, 3) := by decide +kernel
theorem dX2_walk_39 : decode cX2_walk 39 = .ok (.aload_n 0, 1) := by decide +kernel
theorem dX2_walk_40 : decode cX2_walk 40 = .ok (.aload_n 0, 1) := by decide +kernel
theorem dX2_walk_41 : decode cX2_walk 41 = .ok (.getfield 47, 3) := by decide +kernel
theorem dX2_walk_44 : decode cX2_walk 44 = .ok (.invokevirtual 56, 3) := by decide +kernel
theorem dX2_walk_47 : decode cX2_walk 47 = .ok (.getfield 32, 3) := by decide +kernel
theorem dX2_walk_50 : decode cX2_walk 50 = .ok (.ifCond .ne 51, 3) := by decide +kernel
theorem dX2_walk_53 : decode cX2_walk 53 = .ok (.aload_n 0, 1) := by decide +kernel
theorem dX2_walk_54 : decode cX2_walk 54 = .ok (.getfield 50, 3) := by decide +kernel
theorem dX2_walk_57 : decode cX2_walk 57 = .ok (.istore_n 2, 1) := by decide +kernel
theorem dX2_walk_58 : decode cX2_walk 58 = .ok (.aload_n 0, 1) := by decide +kernel
theorem dX2_walk_59 : decode cX2_walk 59 = .ok (.getfield 47, 3) := by decide +kernel
theorem dX2_walk_62 : decode cX2_walk 62 = .ok (.istore_n 3, 1) := by decide +kernel
theorem dX2_walk_63 : decode cX2_walk 63 = .ok (.iload_n 3, 1) := by decide +kernel
theorem dX2_walk_64 : decode cX2_walk 64 = .ok (.iload_n 2, 1) := by decide +kernel
theorem dX2_walk_65 : decode cX2_walk 65 = .ok (.if_icmp .ge 18, 3) := by decide +kernel
theorem dX2_walk_68 : decode cX2_walk 68 = .ok (.aload_n 0, 1) := by decide +kernel
theorem dX2_walk_69 : decode cX2_walk 69 = .ok (.aload_n 0, 1) := by decide +kernel
theorem dX2_walk_70 : decode cX2_walk 70 = .ok (.iload_n 3, 1) := by decide +kernel
theorem dX2_walk_71 : decode cX2_walk 71 = .ok (.invokevirtual 56, 3) := by decide +kernel
theorem dX2_walk_74 : decode cX2_walk 74 = .ok (.invokevirtual 59, 3) := by decide +kernel
theorem dX2_walk_77 : decode cX2_walk 77 = .ok (.iinc 3 1, 3) := by decide +kernel
theorem dX2_walk_80 : decode cX2_walk 80 = .ok (.goto (-17), 3) := by decide +kernel
theorem dX2_walk_83 : decode cX2_walk 83 = .ok (.aload_n 0, 1) := by decide +kernel
theorem dX2_walk_84 : decode cX2_walk 84 = .ok (.iload_n 2, 1) := by decide +kernel
theorem dX2_walk_85 : decode cX2_walk 85 = .ok (.putfield 47, 3) := by decide +kernel
theorem dX2_walk_88 : decode cX2_walk 88 = .ok (.aload_n 0, 1) := by decide +kernel
theorem dX2_walk_89 : decode cX2_walk 89 = .ok (.dup, 1) := by decide +kernel
theorem dX2_walk_90 : decode cX2_walk 90 = .ok (.getfield 43, 3) := by decide +kernel
theorem dX2_walk_93 : decode cX2_walk 93 = .ok (.iconst 1, 1) := by decide +kernel
theorem dX2_walk_94 : decode cX2_walk 94 = .ok (.iadd, 1) := by decide +kernel
theorem dX2_walk_95 : decode cX2_walk 95 = .ok (.putfield 43, 3) := by decide +kernel
theorem dX2_walk_98 : decode cX2_walk 98 = .ok (.goto (-68), 3) := by decide +kernel
theorem dX2_walk_101 : decode cX2_walk 101 = .ok (.return_, 1) := by decide +kernel
theorem ge2_pos {x : Int32} (h : ¬ x < 2) : ¬ x < 0 := fun h9 => h (Int32.lt_trans h9 (by decide))
theorem in_lt {x : Int32} {n : Nat} (h : vp_in x n) : x.toNatClampNeg < n := Nat.not_le.mp fun q => h (Or.inr q)
def v_X2_page : List Cond := .code yX2_page cX2_page 2 (some (.object "TwinRoots$Page")) :: ([.fieldLink RX2 20 "TwinRoots$Forest" "empty" "LTwinRoots$Page;", .fieldLink RX2 11 "TwinRoots$Forest" "pages" "[LTwinRoots$Page;"] ++ (wsX20 ++ ([])))
set_option maxHeartbeats 4000000 in
set_option maxRecDepth 100000 in
/-- page: one of the forest -/
theorem c_X2_page (l : Launch) (dC : Nat → ClassId) (dI : Nat → Nat → Nat) (sz : Nat) (hf : Nat) (qp : Nat) (qe : Nat) (ql : Nat) (b : Nat) (lo : Nat) (le : Nat) (dp : Int32) (cO : ClassId) (fp : Nat → Option Nat) (G : pgG) (Pg : List Nat) (cI : ClassId) (S : pgS) (p0 : Int32) (zb : b ≤ 64) (hI : pgI G Pg S) (hpg : ∀ i, i < b → ∃ a, a ∈ Pg ∧ (G a).2.2.2 = 0 ∧ fp i = some a) (hm_qe : qe ∈ Pg) (ht_qe : (G qe).2.2.2 = 0) : Met l yX2_page v_X2_page ({ frames := 0, cells := 0, slots := 0, locals := 0 } : Room) (va_Pc [.ref hf, .int p0] (fun U => U.heap.size = sz ∧ va_P (dC, dI) vwCl ([(hf, .inr (2, [.int dp, .ref qp, .ref qe, .ref ql, .int (nI lo), .int (nI le)])), (qp, .inl (cO, b, .inr (.inr (.inr (.inr fp)))))] ++ pool G cI Pg S) U.heap ∧ va_K (dC, dI) vwCl [(cO, .object RX4), (cI, .int)] U ∧ va_D (fun _ => True) ([(hf, .inr (2, [.int dp, .ref qp, .ref qe, .ref ql, .int (nI lo), .int (nI le)])), (qp, .inl (cO, b, .inr (.inr (.inr (.inr fp)))))] ++ pool G cI Pg S))) (va_Qr (fun (a : Nat) => a ∈ Pg ∧ (G a).2.2.2 = 0) (fun (a : Nat) (ra : Nat) (t : State) => ra = a ∧ va_P (dC, dI) vwCl ([(hf, .inr (2, [.int dp, .ref qp, .ref qe, .ref ql, .int (nI lo), .int (nI le)])), (qp, .inl (cO, b, .inr (.inr (.inr (.inr fp)))))] ++ pool G cI Pg S) t.heap ∧ va_K (dC, dI) vwCl [(cO, .object RX4), (cI, .int)] t ∧ va_D (va_A ([(hf, .inr (2, [.int dp, .ref qp, .ref qe, .ref ql, .int (nI lo), .int (nI le)])), (qp, .inl (cO, b, .inr (.inr (.inr (.inr fp)))))] ++ pool G cI Pg S) sz) ([(hf, .inr (2, [.int dp, .ref qp, .ref qe, .ref ql, .int (nI lo), .int (nI le)])), (qp, .inl (cO, b, .inr (.inr (.inr (.inr fp)))))] ++ pool G cI Pg S)) (va_A ([(hf, .inr (2, [.int dp, .ref qp, .ref qe, .ref ql, .int (nI lo), .int (nI le)])), (qp, .inl (cO, b, .inr (.inr (.inr (.inr fp)))))] ++ pool G cI Pg S) sz)) 0 0 (va_A ([(hf, .inr (2, [.int dp, .ref qp, .ref qe, .ref ql, .int (nI lo), .int (nI le)])), (qp, .inl (cO, b, .inr (.inr (.inr (.inr fp)))))] ++ pool G cI Pg S) sz) := by
  refine Met.ofW (cc := cX2_page) (maxL := 2) (ret := (some (.object "TwinRoots$Page"))) (by decide) rfl ?_
  intro p e s m args below meth c s₁ B hml hv
  obtain ⟨rfl, hsz, hP, hK, hD0⟩ := hv
  have hx := B.exec
  have hb := B.bytes
  have hr := B.returns
  have hts := atoms_spec (ws := v_X2_page) B.pre
  have hown : s.vm.findClass RX2 = some m.cls := findClass_of_methodNamed B.named
  have hlocks := B.notSynchronized
  subst hsz
  have hD := hD0.self (sz := s.heap.size)
  generalize hAe : va_A ([(hf, .inr (2, [.int dp, .ref qp, .ref qe, .ref ql, .int (nI lo), .int (nI le)])), (qp, .inl (cO, b, .inr (.inr (.inr (.inr fp)))))] ++ pool G cI Pg S) s.heap.size = A at hD ⊢
  have hA : ∀ q : Nat, s.heap.size ≤ q → A q := fun q h => by rw [← hAe]; exact Or.inr h
  have hS : va_S A s.heap s.heap [] := va_S.rf
  have hP : va_P (dC, dI) vwCl ([(hf, .inr (2, [.int dp, .ref qp, .ref qe, .ref ql, .int (nI lo), .int (nI le)])), (qp, .inl (cO, b, .inr (.inr (.inr (.inr fp)))))] ++ pool G cI Pg S) s.heap := hP
  have hl := lv_entry ([.ref hf, .int p0]) (n := 2) (Nat.le_of_ble_eq_true rfl)
  rw [lg_entry_eq]
  generalize (lg_sl ([.ref hf, .int p0]) ++ List.replicate (2 - (lg_sl ([.ref hf, .int p0])).length) Slot.unset).toArray = ls at hl ⊢
  have hl : lv_has ls 2 [(0, .ref hf), (1, .int p0)] := hl
  have k_1 := (fun _ h => List.mem_cons_of_mem _ (List.mem_append_right _ (List.mem_append_left _ h)) : ∀ w ∈ wsX20, w ∈ v_X2_page)
  have k_2 := hts (.fieldLink RX2 20 "TwinRoots$Forest" "empty" "LTwinRoots$Page;") (List.mem_of_getElem? (i := 1) rfl)
  have k_3 := hts (.fieldLink RX2 11 "TwinRoots$Forest" "pages" "[LTwinRoots$Page;") (List.mem_of_getElem? (i := 2) rfl)
  refine lv_iload_n hx hb dX2_page_0 rfl (lv_at hl 1 rfl) ?_
  refine lv_iconst (v := 2) hx hb dX2_page_1 (by decide) ?_
  refine lv_icmp_lt (tgt := 23) hx hb dX2_page_2 (by decide) (fun c_1 => ?_) (fun c_1 => ?_)
  · refine lv_aload_n hx hb dX2_page_23 rfl (lv_at hl 0 rfl) ?_
    refine va_get (D := (dC, dI)) (ci := 2) (v := .ref qe) (C := RX2) (T := TX2) (N := 6) hx hb hts k_1 hown hK hP 0 rfl rfl 2 (by decide) k_2 (fun _ h9 => h9) rfl dX2_page_24 ?_
    have hP9 := hP.part (cx := [(hf, .inr (2, [.int dp, .ref qp, .ref qe, .ref ql, .int (nI lo), .int (nI le)])), (qp, .inl (cO, b, .inr (.inr (.inr (.inr fp)))))]) [0, 1] rfl
    have hD9 := hD.part (cx := [(hf, .inr (2, [.int dp, .ref qp, .ref qe, .ref ql, .int (nI lo), .int (nI le)])), (qp, .inl (cO, b, .inr (.inr (.inr (.inr fp)))))]) [0, 1] (by decide) rfl
    have hK9 := hK.sub (tys' := [(cO, .object RX4), (cI, .int)]) [0, 1] rfl
    exact W.aret (v := .ref qe) hx hb hr (Or.inl ⟨_, rfl⟩) (Or.inr ⟨_, rfl⟩) (fun t ht hW => ⟨⟨(qe), qe, rfl, ⟨hm_qe, ht_qe⟩, rfl, by rw [ht]; exact hP9, va_K.moved hW.alike hK9, hD9⟩, hS.F ht⟩) hS.2.2 dX2_page_27
  · refine lv_iload_n hx hb dX2_page_5 rfl (lv_at hl 1 rfl) ?_
    refine lv_aload_n hx hb dX2_page_6 rfl (lv_at hl 0 rfl) ?_
    refine va_get (D := (dC, dI)) (ci := 2) (v := .ref qp) (C := RX2) (T := TX2) (N := 6) hx hb hts k_1 hown hK hP 0 rfl rfl 1 (by decide) k_3 (fun _ h9 => h9) rfl dX2_page_7 ?_
    refine va_alen (v := nI b) hx hb hK hP 1 0 rfl rfl rfl dX2_page_10 ?_
    refine lv_icmp_ge (tgt := 23) hx hb dX2_page_11 (by decide) (fun c_2 => ?_) (fun c_2 => ?_)
    · refine lv_aload_n hx hb dX2_page_23 rfl (lv_at hl 0 rfl) ?_
      refine va_get (D := (dC, dI)) (ci := 2) (v := .ref qe) (C := RX2) (T := TX2) (N := 6) hx hb hts k_1 hown hK hP 0 rfl rfl 2 (by decide) k_2 (fun _ h9 => h9) rfl dX2_page_24 ?_
      have hP9 := hP.part (cx := [(hf, .inr (2, [.int dp, .ref qp, .ref qe, .ref ql, .int (nI lo), .int (nI le)])), (qp, .inl (cO, b, .inr (.inr (.inr (.inr fp)))))]) [0, 1] rfl
      have hD9 := hD.part (cx := [(hf, .inr (2, [.int dp, .ref qp, .ref qe, .ref ql, .int (nI lo), .int (nI le)])), (qp, .inl (cO, b, .inr (.inr (.inr (.inr fp)))))]) [0, 1] (by decide) rfl
      have hK9 := hK.sub (tys' := [(cO, .object RX4), (cI, .int)]) [0, 1] rfl
      exact W.aret (v := .ref qe) hx hb hr (Or.inl ⟨_, rfl⟩) (Or.inr ⟨_, rfl⟩) (fun t ht hW => ⟨⟨(qe), qe, rfl, ⟨hm_qe, ht_qe⟩, rfl, by rw [ht]; exact hP9, va_K.moved hW.alike hK9, hD9⟩, hS.F ht⟩) hS.2.2 dX2_page_27
    · refine lv_aload_n hx hb dX2_page_14 rfl (lv_at hl 0 rfl) ?_
      refine va_get (D := (dC, dI)) (ci := 2) (v := .ref qp) (C := RX2) (T := TX2) (N := 6) hx hb hts k_1 hown hK hP 0 rfl rfl 1 (by decide) k_3 (fun _ h9 => h9) rfl dX2_page_15 ?_
      refine lv_iload_n hx hb dX2_page_18 rfl (lv_at hl 1 rfl) ?_
      refine va_aldq hx hb hK hP 1 0 rfl rfl (in_guard (ge2_pos c_1) c_2 (by omega)) dX2_page_19 ?_
      obtain ⟨a_3, hm_a_3, ht_a_3, ez_a_3⟩ := hpg _ (in_lt (in_guard (ge2_pos c_1) c_2 (by omega)))
      refine lv_rf ez_a_3 ?_
      refine lv_goto (tgt := 27) hx hb dX2_page_20 (by decide) ?_
      have hP9 := hP.part (cx := [(hf, .inr (2, [.int dp, .ref qp, .ref qe, .ref ql, .int (nI lo), .int (nI le)])), (qp, .inl (cO, b, .inr (.inr (.inr (.inr fp)))))]) [0, 1] rfl
      have hD9 := hD.part (cx := [(hf, .inr (2, [.int dp, .ref qp, .ref qe, .ref ql, .int (nI lo), .int (nI le)])), (qp, .inl (cO, b, .inr (.inr (.inr (.inr fp)))))]) [0, 1] (by decide) rfl
      have hK9 := hK.sub (tys' := [(cO, .object RX4), (cI, .int)]) [0, 1] rfl
      exact W.aret (v := .ref a_3) hx hb hr (Or.inl ⟨_, rfl⟩) (Or.inr ⟨_, rfl⟩) (fun t ht hW => ⟨⟨(a_3), a_3, rfl, ⟨hm_a_3, ht_a_3⟩, rfl, by rw [ht]; exact hP9, va_K.moved hW.alike hK9, hD9⟩, hS.F ht⟩) hS.2.2 dX2_page_27
def v_X2_leafFor : List Cond := .code yX2_leafFor cX2_leafFor 5 (some (.object "TwinRoots$Page")) :: ([.code yX2_page cX2_page 2 (some (.object "TwinRoots$Page")), .fieldLink RX2 20 "TwinRoots$Forest" "empty" "LTwinRoots$Page;", .fieldLink RX2 11 "TwinRoots$Forest" "pages" "[LTwinRoots$Page;", .methodLink RX2 28 yX2_page, .instanceMethod yX2_page, .selects RX2 yX2_page yX2_page, .initialized RX2, .fieldLink RX2 32 "TwinRoots$Page" "leaf" "Z", .code yX4_childFor cX4_childFor 3 (some .int), .fieldLink RX4 22 "TwinRoots$Page" "many" "I", .code yX4_keyAt cX4_keyAt 2 (some .int), .fieldLink RX4 15 "TwinRoots$Page" "keys" "[I", .methodLink RX4 34 yX4_keyAt, .instanceMethod yX4_keyAt, .selects RX4 yX4_keyAt yX4_keyAt, .initialized RX4, .methodLink RX2 36 yX4_childFor, .instanceMethod yX4_childFor, .selects RX4 yX4_childFor yX4_childFor, .code yX4_refAt cX4_refAt 2 (some .int), .fieldLink RX4 19 "TwinRoots$Page" "refs" "[I", .methodLink RX2 40 yX4_refAt, .instanceMethod yX4_refAt, .selects RX4 yX4_refAt yX4_refAt] ++ (wsX20 ++ (wsX40 ++ ([]))))
set_option maxRecDepth 20000 in
theorem g_X2_leafFor_X2_page : GoodIn v_X2_leafFor (wsV RX2 28 RX2 yX2_page v_X2_page) := goodIn_r _ [4, 5, 6, 7, 1, 2, 3, 25, 26, 27, 28, 29, 30] (by decide +kernel) (by decide +kernel)
set_option maxRecDepth 20000 in
theorem g_X2_leafFor_X4_childFor : GoodIn v_X2_leafFor (wsV RX2 36 RX4 yX4_childFor v_X4_childFor) := goodIn_r _ [17, 18, 19, 16, 9, 10, 11, 12, 13, 14, 15, 16, 31, 32, 33, 34] (by decide +kernel) (by decide +kernel)
set_option maxRecDepth 20000 in
theorem g_X2_leafFor_X4_refAt : GoodIn v_X2_leafFor (wsV RX2 40 RX4 yX4_refAt v_X4_refAt) := goodIn_r _ [22, 23, 24, 16, 20, 10, 21, 31, 32, 33, 34] (by decide +kernel) (by decide +kernel)
set_option maxHeartbeats 4000000 in
set_option maxRecDepth 100000 in
/-- leafFor: one of the forest -/
theorem c_X2_leafFor (l : Launch) (dC : Nat → ClassId) (dI : Nat → Nat → Nat) (sz : Nat) (hf : Nat) (qp : Nat) (qe : Nat) (ql : Nat) (b : Nat) (lo : Nat) (le : Nat) (dp : Int32) (cO : ClassId) (fp : Nat → Option Nat) (G : pgG) (Pg : List Nat) (cI : ClassId) (S : pgS) (p0 : Int32) (p1 : Int32) (zb : b ≤ 64) (hI : pgI G Pg S) (hpg : ∀ i, i < b → ∃ a, a ∈ Pg ∧ (G a).2.2.2 = 0 ∧ fp i = some a) (hm_qe : qe ∈ Pg) (ht_qe : (G qe).2.2.2 = 0) : Met l yX2_leafFor v_X2_leafFor ({ frames := 2, cells := 0, slots := 0, locals := 43 } : Room) (va_Pc [.ref hf, .int p0, .int p1] (fun U => U.heap.size = sz ∧ va_P (dC, dI) vwCl ([(hf, .inr (2, [.int dp, .ref qp, .ref qe, .ref ql, .int (nI lo), .int (nI le)])), (qp, .inl (cO, b, .inr (.inr (.inr (.inr fp)))))] ++ pool G cI Pg S) U.heap ∧ va_K (dC, dI) vwCl [(cO, .object RX4), (cI, .int)] U ∧ va_D (fun _ => True) ([(hf, .inr (2, [.int dp, .ref qp, .ref qe, .ref ql, .int (nI lo), .int (nI le)])), (qp, .inl (cO, b, .inr (.inr (.inr (.inr fp)))))] ++ pool G cI Pg S))) (va_Qr (fun (a : Nat) => a ∈ Pg ∧ (G a).2.2.2 = 0) (fun (a : Nat) (ra : Nat) (t : State) => ra = a ∧ va_P (dC, dI) vwCl ([(hf, .inr (2, [.int dp, .ref qp, .ref qe, .ref ql, .int (nI lo), .int (nI le)])), (qp, .inl (cO, b, .inr (.inr (.inr (.inr fp)))))] ++ pool G cI Pg S) t.heap ∧ va_K (dC, dI) vwCl [(cO, .object RX4), (cI, .int)] t ∧ va_D (va_A ([(hf, .inr (2, [.int dp, .ref qp, .ref qe, .ref ql, .int (nI lo), .int (nI le)])), (qp, .inl (cO, b, .inr (.inr (.inr (.inr fp)))))] ++ pool G cI Pg S) sz) ([(hf, .inr (2, [.int dp, .ref qp, .ref qe, .ref ql, .int (nI lo), .int (nI le)])), (qp, .inl (cO, b, .inr (.inr (.inr (.inr fp)))))] ++ pool G cI Pg S)) (va_A ([(hf, .inr (2, [.int dp, .ref qp, .ref qe, .ref ql, .int (nI lo), .int (nI le)])), (qp, .inl (cO, b, .inr (.inr (.inr (.inr fp)))))] ++ pool G cI Pg S) sz)) 0 0 (va_A ([(hf, .inr (2, [.int dp, .ref qp, .ref qe, .ref ql, .int (nI lo), .int (nI le)])), (qp, .inl (cO, b, .inr (.inr (.inr (.inr fp)))))] ++ pool G cI Pg S) sz) := by
  refine Met.ofW (cc := cX2_leafFor) (maxL := 5) (ret := (some (.object "TwinRoots$Page"))) (by decide) rfl ?_
  intro p e s m args below meth c s₁ B hml hv
  obtain ⟨rfl, hsz, hP, hK, hD0⟩ := hv
  have hx := B.exec
  have hb := B.bytes
  have hr := B.returns
  have hts := atoms_spec (ws := v_X2_leafFor) B.pre
  have hown : s.vm.findClass RX2 = some m.cls := findClass_of_methodNamed B.named
  have hlocks := B.notSynchronized
  subst hsz
  have hD := hD0.self (sz := s.heap.size)
  generalize hAe : va_A ([(hf, .inr (2, [.int dp, .ref qp, .ref qe, .ref ql, .int (nI lo), .int (nI le)])), (qp, .inl (cO, b, .inr (.inr (.inr (.inr fp)))))] ++ pool G cI Pg S) s.heap.size = A at hD ⊢
  have hA : ∀ q : Nat, s.heap.size ≤ q → A q := fun q h => by rw [← hAe]; exact Or.inr h
  have hS : va_S A s.heap s.heap [] := va_S.rf
  have hP : va_P (dC, dI) vwCl ([(hf, .inr (2, [.int dp, .ref qp, .ref qe, .ref ql, .int (nI lo), .int (nI le)])), (qp, .inl (cO, b, .inr (.inr (.inr (.inr fp)))))] ++ pool G cI Pg S) s.heap := hP
  have hl := lv_entry ([.ref hf, .int p0, .int p1]) (n := 5) (Nat.le_of_ble_eq_true rfl)
  rw [lg_entry_eq]
  generalize (lg_sl ([.ref hf, .int p0, .int p1]) ++ List.replicate (5 - (lg_sl ([.ref hf, .int p0, .int p1])).length) Slot.unset).toArray = ls at hl ⊢
  have hl : lv_has ls 5 [(0, .ref hf), (1, .int p0), (2, .int p1)] := hl
  have k_1 := (fun _ h => List.mem_cons_of_mem _ (List.mem_append_right _ (List.mem_append_right _ (List.mem_append_left _ h))) : ∀ w ∈ wsX40, w ∈ v_X2_leafFor)
  have k_2 := hts (.fieldLink RX2 32 "TwinRoots$Page" "leaf" "Z") (List.mem_of_getElem? (i := 8) rfl)
  have k_3 := (fun _ h => List.mem_cons_of_mem _ (List.mem_append_right _ (List.mem_append_left _ h)) : ∀ w ∈ wsX20, w ∈ v_X2_leafFor)
  have k_4 := hts (.fieldLink RX2 20 "TwinRoots$Forest" "empty" "LTwinRoots$Page;") (List.mem_of_getElem? (i := 2) rfl)
  refine lv_aload_n hx hb dX2_leafFor_0 rfl (lv_at hl 0 rfl) ?_
  refine lv_iload_n hx hb dX2_leafFor_1 rfl (lv_at hl 1 rfl) ?_
  have hPc := hP.part (cx := [(hf, .inr (2, [.int dp, .ref qp, .ref qe, .ref ql, .int (nI lo), .int (nI le)])), (qp, .inl (cO, b, .inr (.inr (.inr (.inr fp)))))]) [0, 1] rfl
  have hDc := hD.part (cx := [(hf, .inr (2, [.int dp, .ref qp, .ref qe, .ref ql, .int (nI lo), .int (nI le)])), (qp, .inl (cO, b, .inr (.inr (.inr (.inr fp)))))]) [0, 1] (by decide) rfl
  have hFc := va_freeP (cx := [(hf, .inr (2, [.int dp, .ref qp, .ref qe, .ref ql, .int (nI lo), .int (nI le)])), (qp, .inl (cO, b, .inr (.inr (.inr (.inr fp)))))]) hD hS hA [0, 1] rfl
  have hKc := hK.sub (tys' := [(cO, .object RX4), (cI, .int)]) [0, 1] rfl
  refine va_callr (va_runV (As := [.int p0]) (rest := []) ⟨hx, hb, hml, hown, hts⟩ (c_X2_page l dC dI s.heap.size hf qp qe ql b lo le dp cO fp G Pg cI S p0 (by first | assumption | omega | decide) (by first | assumption | omega | decide) (by first | assumption | omega | decide) (by first | assumption | omega | decide) (by first | assumption | omega | decide)) (cwV 1 hts g_X2_leafFor_X2_page rfl rfl rfl (by decide +kernel) ⟨Nat.le_of_ble_eq_true rfl, Nat.le_of_ble_eq_true rfl⟩) ⟨fun a U g mk q => by obtain ⟨q0, q1, qP, qK, qD⟩ := q; exact ⟨q0, q1, qP, va_K.moved (u := U) (U := U.calling g mk a) (Vm.Alike.refl U.vm) qK, qD⟩, va_recv hKc hPc (ci := 2) (q0 := 0) rfl rfl, fun U hU hW => ⟨rfl, by rw [hU], by rw [hU]; exact hPc, va_K.moved hW.alike hKc, hDc.weaken (fun _ _ _ _ => trivial)⟩⟩ rfl rfl hl.1 rfl (lv_room (Nat.le_of_ble_eq_true rfl)) dX2_leafFor_2 ⟨(show 0 + 0 ≤ 0 by omega), (show 0 + 0 ≤ 0 by omega)⟩) hS (fun q _ h => hFc q h) hFc (fun u r_1 t H1 locs ht hvm hw hB hz1 hk1 hS => ?_)
  obtain ⟨a_2, rfl⟩ : ∃ z, z = u := ⟨_, rfl⟩
  obtain ⟨hra, hP1, hK1, hD1⟩ := hB
  have hra := hra.symm
  subst hra
  rw [ht] at hP1
  have hK1 := va_K.moved hvm.symm hK1
  try dsimp only at hw
  obtain ⟨hP, hD⟩ := va_joinP (wr := []) (rx := [(hf, .inr (2, [.int dp, .ref qp, .ref qe, .ref ql, .int (nI lo), .int (nI le)])), (qp, .inl (cO, b, .inr (.inr (.inr (.inr fp)))))]) (pl1 := pool G cI Pg S) hP hD [0, 1] [] rfl rfl (by decide) (by decide) hk1 hFc hP1 hD1
  have hK := (hK.sub (tys' := [(cO, .object RX4), (cI, .int)]) [0, 1] rfl).app hK1
  have hK : va_K (dC, dI) vwCl [(cO, .object RX4), (cI, .int)] s := hK.sub [0, 1] rfl
  generalize H1 = H at hP hS ⊢
  have hP : va_P (dC, dI) vwCl ([(hf, .inr (2, [.int dp, .ref qp, .ref qe, .ref ql, .int (nI lo), .int (nI le)])), (qp, .inl (cO, b, .inr (.inr (.inr (.inr fp)))))] ++ pool G cI Pg S) H := hP
  have hD : va_D A ([(hf, .inr (2, [.int dp, .ref qp, .ref qe, .ref ql, .int (nI lo), .int (nI le)])), (qp, .inl (cO, b, .inr (.inr (.inr (.inr fp)))))] ++ pool G cI Pg S) := hD
  have hK : va_K (dC, dI) vwCl [(cO, .object RX4), (cI, .int)] s := hK
  have hm_a_2 := hw.1
  have ht_a_2 := hw.2
  refine lv_astore_n (lv' := [(3, .ref a_2), (0, .ref hf), (1, .int p0), (2, .int p1)]) hx hb dX2_leafFor_5 rfl hl (by decide) rfl (fun ls hl => ?_)
  refine lv_iconst (v := 1) hx hb dX2_leafFor_6 (by decide) ?_
  refine lv_istore (lv' := [(4, .int 1), (3, .ref a_2), (0, .ref hf), (1, .int p0), (2, .int p1)]) hx hb dX2_leafFor_7 hl (by decide) rfl (fun ls hl => ?_)
  have loop_9 : ∀ (Q : State → Prop), (∀ (i : Nat) (pz : Nat) (H : Heap) (locs : List Loc) (ls : Array Slot), i ≤ 12 → (pz ∈ Pg) → ((G pz).2.2.2 = 0) → va_P (dC, dI) vwCl ([(hf, .inr (2, [.int dp, .ref qp, .ref qe, .ref ql, .int (nI lo), .int (nI le)])), (qp, .inl (cO, b, .inr (.inr (.inr (.inr fp)))))] ++ pool G cI Pg S) H → va_D A ([(hf, .inr (2, [.int dp, .ref qp, .ref qe, .ref ql, .int (nI lo), .int (nI le)])), (qp, .inl (cO, b, .inr (.inr (.inr (.inr fp)))))] ++ pool G cI Pg S) → va_S A s.heap H locs → lv_has ls 5 [(0, .ref hf), (1, .int p0), (2, .int p1), (3, .ref pz), (4, .int (nI i))] → W p l e (headSpec v_X2_leafFor ({ frames := 2, cells := 0, slots := 0, locals := 43 } : Room)).room s m ([.ref hf, .int p0, .int p1] : List Value).toArray below meth c H locs 0 0 Q (F0 m 43 ls [])) → ∀ (nf i : Nat) (pz : Nat) (H : Heap) (locs : List Loc) (ls : Array Slot), i ≤ 12 → 12 + 1 ≤ i + nf → (pz ∈ Pg) → ((G pz).2.2.2 = 0) → va_P (dC, dI) vwCl ([(hf, .inr (2, [.int dp, .ref qp, .ref qe, .ref ql, .int (nI lo), .int (nI le)])), (qp, .inl (cO, b, .inr (.inr (.inr (.inr fp)))))] ++ pool G cI Pg S) H → va_D A ([(hf, .inr (2, [.int dp, .ref qp, .ref qe, .ref ql, .int (nI lo), .int (nI le)])), (qp, .inl (cO, b, .inr (.inr (.inr (.inr fp)))))] ++ pool G cI Pg S) → va_S A s.heap H locs → lv_has ls 5 [(0, .ref hf), (1, .int p0), (2, .int p1), (3, .ref pz), (4, .int (nI i))] → W p l e (headSpec v_X2_leafFor ({ frames := 2, cells := 0, slots := 0, locals := 43 } : Room)).room s m ([.ref hf, .int p0, .int p1] : List Value).toArray below meth c H locs 0 0 Q (F0 m 9 ls []) := by
    intro Q kx nf
    induction nf with
    | zero =>
      intro i pz H locs ls h1 h2
      exact absurd h2 (by omega)
    | succ nf ih =>
      intro i pz H locs ls hi hn hm_pz ht_pz hP hD hS hl
      refine lv_iload hx hb dX2_leafFor_9 (lv_at hl 4 rfl) ?_
      refine lv_bipush (v := 12) hx hb dX2_leafFor_11 (by decide) ?_
      refine lv_icmp_ge (tgt := 43) hx hb dX2_leafFor_13 (by decide) (fun c_3 => ?_) (fun c_3 => ?_)
      · exact kx i pz _ _ _ (by omega) hm_pz ht_pz hP hD hS (lv_sub hl [0, 1, 2, 3, 4] rfl)
      · have hlt : i < 12 := Nat.lt_of_not_le (fun h => c_3 (nI_le h (by omega)))
        refine lv_aload_n hx hb dX2_leafFor_16 rfl (lv_at hl 3 rfl) ?_
        obtain ⟨k9, hk9⟩ := pool_at (G := G) (cI := cI) (S := S) [(hf, .inr (2, [.int dp, .ref qp, .ref qe, .ref ql, .int (nI lo), .int (nI le)])), (qp, .inl (cO, b, .inr (.inr (.inr (.inr fp)))))] hm_pz
        refine va_get (D := (dC, dI)) (ci := 4) (v := .int (S pz).1) (C := RX4) (T := TX4) (N := 4) hx hb hts k_1 hown hK hP k9 hk9 rfl 0 (by decide) k_2 (fun _ h9 => h9) rfl dX2_leafFor_17 ?_
        refine lv_if_ne (tgt := 43) hx hb dX2_leafFor_20 (by decide) (fun c_4 => ?_) (fun c_4 => ?_)
        · exact kx i pz _ _ _ (by omega) hm_pz ht_pz hP hD hS (lv_sub hl [0, 1, 2, 3, 4] rfl)
        · refine lv_aload_n hx hb dX2_leafFor_23 rfl (lv_at hl 0 rfl) ?_
          refine lv_aload_n hx hb dX2_leafFor_24 rfl (lv_at hl 3 rfl) ?_
          refine lv_aload_n hx hb dX2_leafFor_25 rfl (lv_at hl 3 rfl) ?_
          refine lv_iload_n hx hb dX2_leafFor_26 rfl (lv_at hl 2 rfl) ?_
          have hz1_pz := (hI pz hm_pz).1
          have hz2_pz := (hI pz hm_pz).2.1
          have hz3_pz := (hI pz hm_pz).2.2
          have hT9 := in1 hm_pz
          have hPc : va_P (dC, dI) vwCl [(pz, .inr (4, [.int (S pz).1, .int (nI (S pz).2.1), .ref (G pz).1, .ref (G pz).2.1])), ((G pz).1, .inl (cI, (G pz).2.2.1, .inl (S pz).2.2.1)), ((G pz).2.1, .inl (cI, (G pz).2.2.1, .inl (S pz).2.2.2))] H := pool_cut (T := [pz]) (cx := []) hP hT9 [] rfl
          have hDc : va_D A [(pz, .inr (4, [.int (S pz).1, .int (nI (S pz).2.1), .ref (G pz).1, .ref (G pz).2.1])), ((G pz).1, .inl (cI, (G pz).2.2.1, .inl (S pz).2.2.1)), ((G pz).2.1, .inl (cI, (G pz).2.2.1, .inl (S pz).2.2.2))] := pool_cutD (T := [pz]) (cx := []) hD hT9 (nd1) [] (by decide) rfl
          have hFc : ∀ q, va_A [(pz, .inr (4, [.int (S pz).1, .int (nI (S pz).2.1), .ref (G pz).1, .ref (G pz).2.1])), ((G pz).1, .inl (cI, (G pz).2.2.1, .inl (S pz).2.2.1)), ((G pz).2.1, .inl (cI, (G pz).2.2.1, .inl (S pz).2.2.2))] (H).size q → A q := pool_free (T := [pz]) (cx := []) hD hS hA hT9 [] rfl
          have hKc := hK.sub (tys' := [(cI, .int), (cI, .int)]) [1, 1] rfl
          refine va_calli (va_runV (As := [.int p1]) (rest := [.ref pz, .ref hf]) ⟨hx, hb, hml, hown, hts⟩ (c_X4_childFor l dC dI H.size pz (G pz).1 (G pz).2.1 (G pz).2.2.1 (S pz).2.1 (S pz).1 cI cI (S pz).2.2.1 (S pz).2.2.2 p1 (by first | assumption | omega | decide) (by first | assumption | omega | decide)) (cwV 1 hts g_X2_leafFor_X4_childFor rfl rfl rfl (by decide +kernel) ⟨Nat.le_of_ble_eq_true rfl, Nat.le_of_ble_eq_true rfl⟩) ⟨fun a U g mk q => by obtain ⟨q0, q1, qP, qK, qD⟩ := q; exact ⟨q0, q1, qP, va_K.moved (u := U) (U := U.calling g mk a) (Vm.Alike.refl U.vm) qK, qD⟩, va_recv hKc hPc (ci := 4) (q0 := 0) rfl rfl, fun U hU hW => ⟨rfl, by rw [hU], by rw [hU]; exact hPc, va_K.moved hW.alike hKc, hDc.weaken (fun _ _ _ _ => trivial)⟩⟩ rfl rfl hl.1 rfl (lv_room (Nat.le_of_ble_eq_true rfl)) dX2_leafFor_27 ⟨(show 0 + 0 ≤ 0 by omega), (show 0 + 0 ≤ 0 by omega)⟩) hS (fun q _ h => hFc q h) hFc (fun r_5 u t H1 locs ht hvm hw hB hz1 hk1 hS => ?_)
          obtain ⟨j_6, rfl⟩ : ∃ z, z = u := ⟨_, rfl⟩
          obtain ⟨hP1, hK1, hD1⟩ := hB
          rw [ht] at hP1
          have hK1 := va_K.moved hvm.symm hK1
          try dsimp only at hw
          obtain ⟨hP, hD⟩ := pool_join (S := S) (S1 := S) (T := [pz]) (cx := []) (wr := [(hf, .inr (2, [.int dp, .ref qp, .ref qe, .ref ql, .int (nI lo), .int (nI le)])), (qp, .inl (cO, b, .inr (.inr (.inr (.inr fp)))))]) (rx := []) hP hD hT9 [] [0, 1] rfl rfl (by decide) (by decide) hk1 hFc hP1 hD1
          rw [pgJ_same] at hP hD
          have hK := (hK.sub (tys' := [(cO, .object RX4), (cI, .int)]) [0, 1] rfl).app hK1
          have hK : va_K (dC, dI) vwCl [(cO, .object RX4), (cI, .int)] s := hK.sub [0, 1] rfl
          generalize H1 = H at hP hS ⊢
          have hP : va_P (dC, dI) vwCl ([(hf, .inr (2, [.int dp, .ref qp, .ref qe, .ref ql, .int (nI lo), .int (nI le)])), (qp, .inl (cO, b, .inr (.inr (.inr (.inr fp)))))] ++ pool G cI Pg S) H := hP
          have hD : va_D A ([(hf, .inr (2, [.int dp, .ref qp, .ref qe, .ref ql, .int (nI lo), .int (nI le)])), (qp, .inl (cO, b, .inr (.inr (.inr (.inr fp)))))] ++ pool G cI Pg S) := hD
          have hK : va_K (dC, dI) vwCl [(cO, .object RX4), (cI, .int)] s := hK
          have hw_r_5 := hw
          obtain rfl : r_5 = nI j_6 := hw.1
          have hz1_pz := (hI pz hm_pz).1
          have hz2_pz := (hI pz hm_pz).2.1
          have hz3_pz := (hI pz hm_pz).2.2
          have hT9 := in1 hm_pz
          have hPc : va_P (dC, dI) vwCl [(pz, .inr (4, [.int (S pz).1, .int (nI (S pz).2.1), .ref (G pz).1, .ref (G pz).2.1])), ((G pz).1, .inl (cI, (G pz).2.2.1, .inl (S pz).2.2.1)), ((G pz).2.1, .inl (cI, (G pz).2.2.1, .inl (S pz).2.2.2))] H := pool_cut (T := [pz]) (cx := []) hP hT9 [] rfl
          have hDc : va_D A [(pz, .inr (4, [.int (S pz).1, .int (nI (S pz).2.1), .ref (G pz).1, .ref (G pz).2.1])), ((G pz).1, .inl (cI, (G pz).2.2.1, .inl (S pz).2.2.1)), ((G pz).2.1, .inl (cI, (G pz).2.2.1, .inl (S pz).2.2.2))] := pool_cutD (T := [pz]) (cx := []) hD hT9 (nd1) [] (by decide) rfl
          have hFc : ∀ q, va_A [(pz, .inr (4, [.int (S pz).1, .int (nI (S pz).2.1), .ref (G pz).1, .ref (G pz).2.1])), ((G pz).1, .inl (cI, (G pz).2.2.1, .inl (S pz).2.2.1)), ((G pz).2.1, .inl (cI, (G pz).2.2.1, .inl (S pz).2.2.2))] (H).size q → A q := pool_free (T := [pz]) (cx := []) hD hS hA hT9 [] rfl
          have hKc := hK.sub (tys' := [(cI, .int), (cI, .int)]) [1, 1] rfl
          refine va_calli (va_runV (As := [.int (nI j_6)]) (rest := [.ref hf]) ⟨hx, hb, hml, hown, hts⟩ (c_X4_refAt l dC dI H.size pz (G pz).1 (G pz).2.1 (G pz).2.2.1 (S pz).2.1 (S pz).1 cI cI (S pz).2.2.1 (S pz).2.2.2 (nI j_6) (by first | assumption | omega | decide) (by first | assumption | omega | decide)) (cwV 1 hts g_X2_leafFor_X4_refAt rfl rfl rfl (by decide +kernel) ⟨Nat.le_of_ble_eq_true rfl, Nat.le_of_ble_eq_true rfl⟩) ⟨fun a U g mk q => by obtain ⟨q0, q1, qP, qK, qD⟩ := q; exact ⟨q0, q1, qP, va_K.moved (u := U) (U := U.calling g mk a) (Vm.Alike.refl U.vm) qK, qD⟩, va_recv hKc hPc (ci := 4) (q0 := 0) rfl rfl, fun U hU hW => ⟨rfl, by rw [hU], by rw [hU]; exact hPc, va_K.moved hW.alike hKc, hDc.weaken (fun _ _ _ _ => trivial)⟩⟩ rfl rfl hl.1 rfl (lv_room (Nat.le_of_ble_eq_true rfl)) dX2_leafFor_30 ⟨(show 0 + 0 ≤ 0 by omega), (show 0 + 0 ≤ 0 by omega)⟩) hS (fun q _ h => hFc q h) hFc (fun r_7 u t H1 locs ht hvm hw hB hz1 hk1 hS => ?_)
          obtain ⟨hP1, hK1, hD1⟩ := hB
          rw [ht] at hP1
          have hK1 := va_K.moved hvm.symm hK1
          try dsimp only at hw
          obtain ⟨hP, hD⟩ := pool_join (S := S) (S1 := S) (T := [pz]) (cx := []) (wr := [(hf, .inr (2, [.int dp, .ref qp, .ref qe, .ref ql, .int (nI lo), .int (nI le)])), (qp, .inl (cO, b, .inr (.inr (.inr (.inr fp)))))]) (rx := []) hP hD hT9 [] [0, 1] rfl rfl (by decide) (by decide) hk1 hFc hP1 hD1
          rw [pgJ_same] at hP hD
          have hK := (hK.sub (tys' := [(cO, .object RX4), (cI, .int)]) [0, 1] rfl).app hK1
          have hK : va_K (dC, dI) vwCl [(cO, .object RX4), (cI, .int)] s := hK.sub [0, 1] rfl
          generalize H1 = H at hP hS ⊢
          have hP : va_P (dC, dI) vwCl ([(hf, .inr (2, [.int dp, .ref qp, .ref qe, .ref ql, .int (nI lo), .int (nI le)])), (qp, .inl (cO, b, .inr (.inr (.inr (.inr fp)))))] ++ pool G cI Pg S) H := hP
          have hD : va_D A ([(hf, .inr (2, [.int dp, .ref qp, .ref qe, .ref ql, .int (nI lo), .int (nI le)])), (qp, .inl (cO, b, .inr (.inr (.inr (.inr fp)))))] ++ pool G cI Pg S) := hD
          have hK : va_K (dC, dI) vwCl [(cO, .object RX4), (cI, .int)] s := hK
          have hw_r_7 := hw
          have hPc := hP.part (cx := [(hf, .inr (2, [.int dp, .ref qp, .ref qe, .ref ql, .int (nI lo), .int (nI le)])), (qp, .inl (cO, b, .inr (.inr (.inr (.inr fp)))))]) [0, 1] rfl
          have hDc := hD.part (cx := [(hf, .inr (2, [.int dp, .ref qp, .ref qe, .ref ql, .int (nI lo), .int (nI le)])), (qp, .inl (cO, b, .inr (.inr (.inr (.inr fp)))))]) [0, 1] (by decide) rfl
          have hFc := va_freeP (cx := [(hf, .inr (2, [.int dp, .ref qp, .ref qe, .ref ql, .int (nI lo), .int (nI le)])), (qp, .inl (cO, b, .inr (.inr (.inr (.inr fp)))))]) hD hS hA [0, 1] rfl
          have hKc := hK.sub (tys' := [(cO, .object RX4), (cI, .int)]) [0, 1] rfl
          refine va_callr (va_runV (As := [.int r_7]) (rest := []) ⟨hx, hb, hml, hown, hts⟩ (c_X2_page l dC dI H.size hf qp qe ql b lo le dp cO fp G Pg cI S r_7 (by first | assumption | omega | decide) (by first | assumption | omega | decide) (by first | assumption | omega | decide) (by first | assumption | omega | decide) (by first | assumption | omega | decide)) (cwV 1 hts g_X2_leafFor_X2_page rfl rfl rfl (by decide +kernel) ⟨Nat.le_of_ble_eq_true rfl, Nat.le_of_ble_eq_true rfl⟩) ⟨fun a U g mk q => by obtain ⟨q0, q1, qP, qK, qD⟩ := q; exact ⟨q0, q1, qP, va_K.moved (u := U) (U := U.calling g mk a) (Vm.Alike.refl U.vm) qK, qD⟩, va_recv hKc hPc (ci := 2) (q0 := 0) rfl rfl, fun U hU hW => ⟨rfl, by rw [hU], by rw [hU]; exact hPc, va_K.moved hW.alike hKc, hDc.weaken (fun _ _ _ _ => trivial)⟩⟩ rfl rfl hl.1 rfl (lv_room (Nat.le_of_ble_eq_true rfl)) dX2_leafFor_33 ⟨(show 0 + 0 ≤ 0 by omega), (show 0 + 0 ≤ 0 by omega)⟩) hS (fun q _ h => hFc q h) hFc (fun u r_8 t H1 locs ht hvm hw hB hz1 hk1 hS => ?_)
          obtain ⟨a_9, rfl⟩ : ∃ z, z = u := ⟨_, rfl⟩
          obtain ⟨hra, hP1, hK1, hD1⟩ := hB
          have hra := hra.symm
          subst hra
          rw [ht] at hP1
          have hK1 := va_K.moved hvm.symm hK1
          try dsimp only at hw
          obtain ⟨hP, hD⟩ := va_joinP (wr := []) (rx := [(hf, .inr (2, [.int dp, .ref qp, .ref qe, .ref ql, .int (nI lo), .int (nI le)])), (qp, .inl (cO, b, .inr (.inr (.inr (.inr fp)))))]) (pl1 := pool G cI Pg S) hP hD [0, 1] [] rfl rfl (by decide) (by decide) hk1 hFc hP1 hD1
          have hK := (hK.sub (tys' := [(cO, .object RX4), (cI, .int)]) [0, 1] rfl).app hK1
          have hK : va_K (dC, dI) vwCl [(cO, .object RX4), (cI, .int)] s := hK.sub [0, 1] rfl
          generalize H1 = H at hP hS ⊢
          have hP : va_P (dC, dI) vwCl ([(hf, .inr (2, [.int dp, .ref qp, .ref qe, .ref ql, .int (nI lo), .int (nI le)])), (qp, .inl (cO, b, .inr (.inr (.inr (.inr fp)))))] ++ pool G cI Pg S) H := hP
          have hD : va_D A ([(hf, .inr (2, [.int dp, .ref qp, .ref qe, .ref ql, .int (nI lo), .int (nI le)])), (qp, .inl (cO, b, .inr (.inr (.inr (.inr fp)))))] ++ pool G cI Pg S) := hD
          have hK : va_K (dC, dI) vwCl [(cO, .object RX4), (cI, .int)] s := hK
          have hm_a_9 := hw.1
          have ht_a_9 := hw.2
          refine lv_astore_n (lv' := [(3, .ref a_9), (0, .ref hf), (1, .int p0), (2, .int p1), (4, .int (nI i))]) hx hb dX2_leafFor_36 rfl hl (by decide) rfl (fun ls hl => ?_)
          refine lv_iinc (v := (nI (i + 1))) (lv' := [(4, .int (nI (i + 1))), (3, .ref a_9), (0, .ref hf), (1, .int p0), (2, .int p1)]) hx hb dX2_leafFor_37 hl (k := 4) rfl (nI_1 i) (by decide) rfl (fun ls hl => ?_)
          refine lv_goto (tgt := 9) hx hb dX2_leafFor_40 (by decide) ?_
          exact ih (i + 1) a_9 _ _ _ (by omega) (by omega) hm_a_9 ht_a_9 hP hD hS (lv_sub hl [2, 3, 4, 1, 0] rfl)
  refine loop_9 _ (fun i pz H locs ls hi hm_pz ht_pz hP hD hS hl => ?_) (12 + 1) 1 a_2 _ _ _ (by omega) (by omega) hm_a_2 ht_a_2 hP hD hS (lv_sub hl [2, 3, 4, 1, 0] rfl)
  refine lv_aload_n hx hb dX2_leafFor_43 rfl (lv_at hl 3 rfl) ?_
  obtain ⟨k9, hk9⟩ := pool_at (G := G) (cI := cI) (S := S) [(hf, .inr (2, [.int dp, .ref qp, .ref qe, .ref ql, .int (nI lo), .int (nI le)])), (qp, .inl (cO, b, .inr (.inr (.inr (.inr fp)))))] hm_pz
  refine va_get (D := (dC, dI)) (ci := 4) (v := .int (S pz).1) (C := RX4) (T := TX4) (N := 4) hx hb hts k_1 hown hK hP k9 hk9 rfl 0 (by decide) k_2 (fun _ h9 => h9) rfl dX2_leafFor_44 ?_
  refine lv_if_eq (tgt := 54) hx hb dX2_leafFor_47 (by decide) (fun c_10 => ?_) (fun c_10 => ?_)
  · refine lv_aload_n hx hb dX2_leafFor_54 rfl (lv_at hl 0 rfl) ?_
    refine va_get (D := (dC, dI)) (ci := 2) (v := .ref qe) (C := RX2) (T := TX2) (N := 6) hx hb hts k_3 hown hK hP 0 rfl rfl 2 (by decide) k_4 (fun _ h9 => h9) rfl dX2_leafFor_55 ?_
    have hP9 := hP.part (cx := [(hf, .inr (2, [.int dp, .ref qp, .ref qe, .ref ql, .int (nI lo), .int (nI le)])), (qp, .inl (cO, b, .inr (.inr (.inr (.inr fp)))))]) [0, 1] rfl
    have hD9 := hD.part (cx := [(hf, .inr (2, [.int dp, .ref qp, .ref qe, .ref ql, .int (nI lo), .int (nI le)])), (qp, .inl (cO, b, .inr (.inr (.inr (.inr fp)))))]) [0, 1] (by decide) rfl
    have hK9 := hK.sub (tys' := [(cO, .object RX4), (cI, .int)]) [0, 1] rfl
    exact W.aret (v := .ref qe) hx hb hr (Or.inl ⟨_, rfl⟩) (Or.inr ⟨_, rfl⟩) (fun t ht hW => ⟨⟨(qe), qe, rfl, ⟨hm_qe, ht_qe⟩, rfl, by rw [ht]; exact hP9, va_K.moved hW.alike hK9, hD9⟩, hS.F ht⟩) hS.2.2 dX2_leafFor_58
  · refine lv_aload_n hx hb dX2_leafFor_50 rfl (lv_at hl 3 rfl) ?_
    refine lv_goto (tgt := 58) hx hb dX2_leafFor_51 (by decide) ?_
    have hP9 := hP.part (cx := [(hf, .inr (2, [.int dp, .ref qp, .ref qe, .ref ql, .int (nI lo), .int (nI le)])), (qp, .inl (cO, b, .inr (.inr (.inr (.inr fp)))))]) [0, 1] rfl
    have hD9 := hD.part (cx := [(hf, .inr (2, [.int dp, .ref qp, .ref qe, .ref ql, .int (nI lo), .int (nI le)])), (qp, .inl (cO, b, .inr (.inr (.inr (.inr fp)))))]) [0, 1] (by decide) rfl
    have hK9 := hK.sub (tys' := [(cO, .object RX4), (cI, .int)]) [0, 1] rfl
    exact W.aret (v := .ref pz) hx hb hr (Or.inl ⟨_, rfl⟩) (Or.inr ⟨_, rfl⟩) (fun t ht hW => ⟨⟨(pz), pz, rfl, ⟨hm_pz, ht_pz⟩, rfl, by rw [ht]; exact hP9, va_K.moved hW.alike hK9, hD9⟩, hS.F ht⟩) hS.2.2 dX2_leafFor_58
def v_X2_inLine : List Cond := .code yX2_inLine cX2_inLine 2 (some (.object "TwinRoots$Page")) :: ([.fieldLink RX2 20 "TwinRoots$Forest" "empty" "LTwinRoots$Page;", .fieldLink RX2 50 "TwinRoots$Forest" "lineEnd" "I", .fieldLink RX2 24 "TwinRoots$Forest" "line" "[I", .code yX2_page cX2_page 2 (some (.object "TwinRoots$Page")), .fieldLink RX2 11 "TwinRoots$Forest" "pages" "[LTwinRoots$Page;", .methodLink RX2 28 yX2_page, .instanceMethod yX2_page, .selects RX2 yX2_page yX2_page, .initialized RX2] ++ (wsX20 ++ ([])))
set_option maxRecDepth 20000 in
theorem g_X2_inLine_X2_page : GoodIn v_X2_inLine (wsV RX2 28 RX2 yX2_page v_X2_page) := goodIn_r _ [6, 7, 8, 9, 4, 1, 5, 10, 11, 12, 13, 14, 15] (by decide +kernel) (by decide +kernel)
set_option maxHeartbeats 4000000 in
set_option maxRecDepth 100000 in
/-- inLine: one of the forest -/
theorem c_X2_inLine (l : Launch) (dC : Nat → ClassId) (dI : Nat → Nat → Nat) (sz : Nat) (hf : Nat) (qp : Nat) (qe : Nat) (ql : Nat) (b : Nat) (lo : Nat) (le : Nat) (dp : Int32) (cO : ClassId) (fp : Nat → Option Nat) (G : pgG) (Pg : List Nat) (cI : ClassId) (S : pgS) (p0 : Int32) (fl : Nat → Int32) (zb : b ≤ 64) (hI : pgI G Pg S) (hpg : ∀ i, i < b → ∃ a, a ∈ Pg ∧ (G a).2.2.2 = 0 ∧ fp i = some a) (hm_qe : qe ∈ Pg) (ht_qe : (G qe).2.2.2 = 0) (zle : le ≤ b) (zlo : lo ≤ le) : Met l yX2_inLine v_X2_inLine ({ frames := 1, cells := 0, slots := 0, locals := 21 } : Room) (va_Pc [.ref hf, .int p0] (fun U => U.heap.size = sz ∧ va_P (dC, dI) vwCl ([(hf, .inr (2, [.int dp, .ref qp, .ref qe, .ref ql, .int (nI lo), .int (nI le)])), (qp, .inl (cO, b, .inr (.inr (.inr (.inr fp))))), (ql, .inl (cI, b, .inl fl))] ++ pool G cI Pg S) U.heap ∧ va_K (dC, dI) vwCl [(cO, .object RX4), (cI, .int)] U ∧ va_D (fun _ => True) ([(hf, .inr (2, [.int dp, .ref qp, .ref qe, .ref ql, .int (nI lo), .int (nI le)])), (qp, .inl (cO, b, .inr (.inr (.inr (.inr fp))))), (ql, .inl (cI, b, .inl fl))] ++ pool G cI Pg S))) (va_Qr (fun (a : Nat) => a ∈ Pg ∧ (G a).2.2.2 = 0) (fun (a : Nat) (ra : Nat) (t : State) => ra = a ∧ va_P (dC, dI) vwCl ([(hf, .inr (2, [.int dp, .ref qp, .ref qe, .ref ql, .int (nI lo), .int (nI le)])), (qp, .inl (cO, b, .inr (.inr (.inr (.inr fp))))), (ql, .inl (cI, b, .inl fl))] ++ pool G cI Pg S) t.heap ∧ va_K (dC, dI) vwCl [(cO, .object RX4), (cI, .int)] t ∧ va_D (va_A ([(hf, .inr (2, [.int dp, .ref qp, .ref qe, .ref ql, .int (nI lo), .int (nI le)])), (qp, .inl (cO, b, .inr (.inr (.inr (.inr fp))))), (ql, .inl (cI, b, .inl fl))] ++ pool G cI Pg S) sz) ([(hf, .inr (2, [.int dp, .ref qp, .ref qe, .ref ql, .int (nI lo), .int (nI le)])), (qp, .inl (cO, b, .inr (.inr (.inr (.inr fp))))), (ql, .inl (cI, b, .inl fl))] ++ pool G cI Pg S)) (va_A ([(hf, .inr (2, [.int dp, .ref qp, .ref qe, .ref ql, .int (nI lo), .int (nI le)])), (qp, .inl (cO, b, .inr (.inr (.inr (.inr fp))))), (ql, .inl (cI, b, .inl fl))] ++ pool G cI Pg S) sz)) 0 0 (va_A ([(hf, .inr (2, [.int dp, .ref qp, .ref qe, .ref ql, .int (nI lo), .int (nI le)])), (qp, .inl (cO, b, .inr (.inr (.inr (.inr fp))))), (ql, .inl (cI, b, .inl fl))] ++ pool G cI Pg S) sz) := by
  refine Met.ofW (cc := cX2_inLine) (maxL := 2) (ret := (some (.object "TwinRoots$Page"))) (by decide) rfl ?_
  intro p e s m args below meth c s₁ B hml hv
  obtain ⟨rfl, hsz, hP, hK, hD0⟩ := hv
  have hx := B.exec
  have hb := B.bytes
  have hr := B.returns
  have hts := atoms_spec (ws := v_X2_inLine) B.pre
  have hown : s.vm.findClass RX2 = some m.cls := findClass_of_methodNamed B.named
  have hlocks := B.notSynchronized
  subst hsz
  have hD := hD0.self (sz := s.heap.size)
  generalize hAe : va_A ([(hf, .inr (2, [.int dp, .ref qp, .ref qe, .ref ql, .int (nI lo), .int (nI le)])), (qp, .inl (cO, b, .inr (.inr (.inr (.inr fp))))), (ql, .inl (cI, b, .inl fl))] ++ pool G cI Pg S) s.heap.size = A at hD ⊢
  have hA : ∀ q : Nat, s.heap.size ≤ q → A q := fun q h => by rw [← hAe]; exact Or.inr h
  have hS : va_S A s.heap s.heap [] := va_S.rf
  have hP : va_P (dC, dI) vwCl ([(hf, .inr (2, [.int dp, .ref qp, .ref qe, .ref ql, .int (nI lo), .int (nI le)])), (qp, .inl (cO, b, .inr (.inr (.inr (.inr fp))))), (ql, .inl (cI, b, .inl fl))] ++ pool G cI Pg S) s.heap := hP
  have hl := lv_entry ([.ref hf, .int p0]) (n := 2) (Nat.le_of_ble_eq_true rfl)
  rw [lg_entry_eq]
  generalize (lg_sl ([.ref hf, .int p0]) ++ List.replicate (2 - (lg_sl ([.ref hf, .int p0])).length) Slot.unset).toArray = ls at hl ⊢
  have hl : lv_has ls 2 [(0, .ref hf), (1, .int p0)] := hl
  have k_1 := (fun _ h => List.mem_cons_of_mem _ (List.mem_append_right _ (List.mem_append_left _ h)) : ∀ w ∈ wsX20, w ∈ v_X2_inLine)
  have k_2 := hts (.fieldLink RX2 20 "TwinRoots$Forest" "empty" "LTwinRoots$Page;") (List.mem_of_getElem? (i := 1) rfl)
  have k_3 := hts (.fieldLink RX2 50 "TwinRoots$Forest" "lineEnd" "I") (List.mem_of_getElem? (i := 2) rfl)
  have k_4 := hts (.fieldLink RX2 24 "TwinRoots$Forest" "line" "[I") (List.mem_of_getElem? (i := 3) rfl)
  refine lv_iload_n hx hb dX2_inLine_0 rfl (lv_at hl 1 rfl) ?_
  refine lv_if_lt (tgt := 34) hx hb dX2_inLine_1 (by decide) (fun c_1 => ?_) (fun c_1 => ?_)
  · refine lv_aload_n hx hb dX2_inLine_34 rfl (lv_at hl 0 rfl) ?_
    refine va_get (D := (dC, dI)) (ci := 2) (v := .ref qe) (C := RX2) (T := TX2) (N := 6) hx hb hts k_1 hown hK hP 0 rfl rfl 2 (by decide) k_2 (fun _ h9 => h9) rfl dX2_inLine_35 ?_
    have hP9 := hP.part (cx := [(hf, .inr (2, [.int dp, .ref qp, .ref qe, .ref ql, .int (nI lo), .int (nI le)])), (qp, .inl (cO, b, .inr (.inr (.inr (.inr fp))))), (ql, .inl (cI, b, .inl fl))]) [0, 1, 2] rfl
    have hD9 := hD.part (cx := [(hf, .inr (2, [.int dp, .ref qp, .ref qe, .ref ql, .int (nI lo), .int (nI le)])), (qp, .inl (cO, b, .inr (.inr (.inr (.inr fp))))), (ql, .inl (cI, b, .inl fl))]) [0, 1, 2] (by decide) rfl
    have hK9 := hK.sub (tys' := [(cO, .object RX4), (cI, .int)]) [0, 1] rfl
    exact W.aret (v := .ref qe) hx hb hr (Or.inl ⟨_, rfl⟩) (Or.inr ⟨_, rfl⟩) (fun t ht hW => ⟨⟨(qe), qe, rfl, ⟨hm_qe, ht_qe⟩, rfl, by rw [ht]; exact hP9, va_K.moved hW.alike hK9, hD9⟩, hS.F ht⟩) hS.2.2 dX2_inLine_38
  · refine lv_iload_n hx hb dX2_inLine_4 rfl (lv_at hl 1 rfl) ?_
    refine lv_aload_n hx hb dX2_inLine_5 rfl (lv_at hl 0 rfl) ?_
    refine va_get (D := (dC, dI)) (ci := 2) (v := .int (nI le)) (C := RX2) (T := TX2) (N := 6) hx hb hts k_1 hown hK hP 0 rfl rfl 5 (by decide) k_3 (fun _ h9 => h9) rfl dX2_inLine_6 ?_
    refine lv_icmp_ge (tgt := 34) hx hb dX2_inLine_9 (by decide) (fun c_2 => ?_) (fun c_2 => ?_)
    · refine lv_aload_n hx hb dX2_inLine_34 rfl (lv_at hl 0 rfl) ?_
      refine va_get (D := (dC, dI)) (ci := 2) (v := .ref qe) (C := RX2) (T := TX2) (N := 6) hx hb hts k_1 hown hK hP 0 rfl rfl 2 (by decide) k_2 (fun _ h9 => h9) rfl dX2_inLine_35 ?_
      have hP9 := hP.part (cx := [(hf, .inr (2, [.int dp, .ref qp, .ref qe, .ref ql, .int (nI lo), .int (nI le)])), (qp, .inl (cO, b, .inr (.inr (.inr (.inr fp))))), (ql, .inl (cI, b, .inl fl))]) [0, 1, 2] rfl
      have hD9 := hD.part (cx := [(hf, .inr (2, [.int dp, .ref qp, .ref qe, .ref ql, .int (nI lo), .int (nI le)])), (qp, .inl (cO, b, .inr (.inr (.inr (.inr fp))))), (ql, .inl (cI, b, .inl fl))]) [0, 1, 2] (by decide) rfl
      have hK9 := hK.sub (tys' := [(cO, .object RX4), (cI, .int)]) [0, 1] rfl
      exact W.aret (v := .ref qe) hx hb hr (Or.inl ⟨_, rfl⟩) (Or.inr ⟨_, rfl⟩) (fun t ht hW => ⟨⟨(qe), qe, rfl, ⟨hm_qe, ht_qe⟩, rfl, by rw [ht]; exact hP9, va_K.moved hW.alike hK9, hD9⟩, hS.F ht⟩) hS.2.2 dX2_inLine_38
    · refine lv_iload_n hx hb dX2_inLine_12 rfl (lv_at hl 1 rfl) ?_
      refine lv_aload_n hx hb dX2_inLine_13 rfl (lv_at hl 0 rfl) ?_
      refine va_get (D := (dC, dI)) (ci := 2) (v := .ref ql) (C := RX2) (T := TX2) (N := 6) hx hb hts k_1 hown hK hP 0 rfl rfl 3 (by decide) k_4 (fun _ h9 => h9) rfl dX2_inLine_14 ?_
      refine va_alen (v := nI b) hx hb hK hP 2 1 rfl rfl rfl dX2_inLine_17 ?_
      refine lv_icmp_ge (tgt := 34) hx hb dX2_inLine_18 (by decide) (fun c_3 => ?_) (fun c_3 => ?_)
      · refine lv_aload_n hx hb dX2_inLine_34 rfl (lv_at hl 0 rfl) ?_
        refine va_get (D := (dC, dI)) (ci := 2) (v := .ref qe) (C := RX2) (T := TX2) (N := 6) hx hb hts k_1 hown hK hP 0 rfl rfl 2 (by decide) k_2 (fun _ h9 => h9) rfl dX2_inLine_35 ?_
        have hP9 := hP.part (cx := [(hf, .inr (2, [.int dp, .ref qp, .ref qe, .ref ql, .int (nI lo), .int (nI le)])), (qp, .inl (cO, b, .inr (.inr (.inr (.inr fp))))), (ql, .inl (cI, b, .inl fl))]) [0, 1, 2] rfl
        have hD9 := hD.part (cx := [(hf, .inr (2, [.int dp, .ref qp, .ref qe, .ref ql, .int (nI lo), .int (nI le)])), (qp, .inl (cO, b, .inr (.inr (.inr (.inr fp))))), (ql, .inl (cI, b, .inl fl))]) [0, 1, 2] (by decide) rfl
        have hK9 := hK.sub (tys' := [(cO, .object RX4), (cI, .int)]) [0, 1] rfl
        exact W.aret (v := .ref qe) hx hb hr (Or.inl ⟨_, rfl⟩) (Or.inr ⟨_, rfl⟩) (fun t ht hW => ⟨⟨(qe), qe, rfl, ⟨hm_qe, ht_qe⟩, rfl, by rw [ht]; exact hP9, va_K.moved hW.alike hK9, hD9⟩, hS.F ht⟩) hS.2.2 dX2_inLine_38
      · refine lv_aload_n hx hb dX2_inLine_21 rfl (lv_at hl 0 rfl) ?_
        refine lv_aload_n hx hb dX2_inLine_22 rfl (lv_at hl 0 rfl) ?_
        refine va_get (D := (dC, dI)) (ci := 2) (v := .ref ql) (C := RX2) (T := TX2) (N := 6) hx hb hts k_1 hown hK hP 0 rfl rfl 3 (by decide) k_4 (fun _ h9 => h9) rfl dX2_inLine_23 ?_
        refine lv_iload_n hx hb dX2_inLine_26 rfl (lv_at hl 1 rfl) ?_
        refine va_iald hx hb hK hP 2 1 rfl rfl (in_guard c_1 c_3 (by omega)) dX2_inLine_27 ?_
        refine lv_topi (fun z_4 _ => ?_)
        have hPc := hP.part (cx := [(hf, .inr (2, [.int dp, .ref qp, .ref qe, .ref ql, .int (nI lo), .int (nI le)])), (qp, .inl (cO, b, .inr (.inr (.inr (.inr fp)))))]) [0, 1] rfl
        have hDc := hD.part (cx := [(hf, .inr (2, [.int dp, .ref qp, .ref qe, .ref ql, .int (nI lo), .int (nI le)])), (qp, .inl (cO, b, .inr (.inr (.inr (.inr fp)))))]) [0, 1] (by decide) rfl
        have hFc := va_freeP (cx := [(hf, .inr (2, [.int dp, .ref qp, .ref qe, .ref ql, .int (nI lo), .int (nI le)])), (qp, .inl (cO, b, .inr (.inr (.inr (.inr fp)))))]) hD hS hA [0, 1] rfl
        have hKc := hK.sub (tys' := [(cO, .object RX4), (cI, .int)]) [0, 1] rfl
        refine va_callr (va_runV (As := [.int z_4]) (rest := []) ⟨hx, hb, hml, hown, hts⟩ (c_X2_page l dC dI s.heap.size hf qp qe ql b lo le dp cO fp G Pg cI S z_4 (by first | assumption | omega | decide) (by first | assumption | omega | decide) (by first | assumption | omega | decide) (by first | assumption | omega | decide) (by first | assumption | omega | decide)) (cwV 1 hts g_X2_inLine_X2_page rfl rfl rfl (by decide +kernel) ⟨Nat.le_of_ble_eq_true rfl, Nat.le_of_ble_eq_true rfl⟩) ⟨fun a U g mk q => by obtain ⟨q0, q1, qP, qK, qD⟩ := q; exact ⟨q0, q1, qP, va_K.moved (u := U) (U := U.calling g mk a) (Vm.Alike.refl U.vm) qK, qD⟩, va_recv hKc hPc (ci := 2) (q0 := 0) rfl rfl, fun U hU hW => ⟨rfl, by rw [hU], by rw [hU]; exact hPc, va_K.moved hW.alike hKc, hDc.weaken (fun _ _ _ _ => trivial)⟩⟩ rfl rfl hl.1 rfl (lv_room (Nat.le_of_ble_eq_true rfl)) dX2_inLine_28 ⟨(show 0 + 0 ≤ 0 by omega), (show 0 + 0 ≤ 0 by omega)⟩) hS (fun q _ h => hFc q h) hFc (fun u r_5 t H1 locs ht hvm hw hB hz1 hk1 hS => ?_)
        obtain ⟨a_6, rfl⟩ : ∃ z, z = u := ⟨_, rfl⟩
        obtain ⟨hra, hP1, hK1, hD1⟩ := hB
        have hra := hra.symm
        subst hra
        rw [ht] at hP1
        have hK1 := va_K.moved hvm.symm hK1
        try dsimp only at hw
        obtain ⟨hP, hD⟩ := va_joinP (wr := [(ql, .inl (cI, b, .inl fl))]) (rx := [(hf, .inr (2, [.int dp, .ref qp, .ref qe, .ref ql, .int (nI lo), .int (nI le)])), (qp, .inl (cO, b, .inr (.inr (.inr (.inr fp)))))]) (pl1 := pool G cI Pg S) hP hD [0, 1] [2] rfl rfl (by decide) (by decide) hk1 hFc hP1 hD1
        have hK := (hK.sub (tys' := [(cO, .object RX4), (cI, .int)]) [0, 1] rfl).app hK1
        have hK : va_K (dC, dI) vwCl [(cO, .object RX4), (cI, .int)] s := hK.sub [0, 1] rfl
        generalize H1 = H at hP hS ⊢
        have hP : va_P (dC, dI) vwCl ([(ql, .inl (cI, b, .inl fl)), (hf, .inr (2, [.int dp, .ref qp, .ref qe, .ref ql, .int (nI lo), .int (nI le)])), (qp, .inl (cO, b, .inr (.inr (.inr (.inr fp)))))] ++ pool G cI Pg S) H := hP
        have hD : va_D A ([(ql, .inl (cI, b, .inl fl)), (hf, .inr (2, [.int dp, .ref qp, .ref qe, .ref ql, .int (nI lo), .int (nI le)])), (qp, .inl (cO, b, .inr (.inr (.inr (.inr fp)))))] ++ pool G cI Pg S) := hD
        have hK : va_K (dC, dI) vwCl [(cO, .object RX4), (cI, .int)] s := hK
        have hm_a_6 := hw.1
        have ht_a_6 := hw.2
        refine lv_goto (tgt := 38) hx hb dX2_inLine_31 (by decide) ?_
        have hP9 := hP.part (cx := [(hf, .inr (2, [.int dp, .ref qp, .ref qe, .ref ql, .int (nI lo), .int (nI le)])), (qp, .inl (cO, b, .inr (.inr (.inr (.inr fp))))), (ql, .inl (cI, b, .inl fl))]) [1, 2, 0] rfl
        have hD9 := hD.part (cx := [(hf, .inr (2, [.int dp, .ref qp, .ref qe, .ref ql, .int (nI lo), .int (nI le)])), (qp, .inl (cO, b, .inr (.inr (.inr (.inr fp))))), (ql, .inl (cI, b, .inl fl))]) [1, 2, 0] (by decide) rfl
        have hK9 := hK.sub (tys' := [(cO, .object RX4), (cI, .int)]) [0, 1] rfl
        exact W.aret (v := .ref a_6) hx hb hr (Or.inl ⟨_, rfl⟩) (Or.inr ⟨_, rfl⟩) (fun t ht hW => ⟨⟨(a_6), a_6, rfl, ⟨hm_a_6, ht_a_6⟩, rfl, by rw [ht]; exact hP9, va_K.moved hW.alike hK9, hD9⟩, hS.F ht⟩) hS.2.2 dX2_inLine_38
def v_X2_lineUp : List Cond := .code yX2_lineUp cX2_lineUp 2 none :: ([.fieldLink RX2 50 "TwinRoots$Forest" "lineEnd" "I", .fieldLink RX2 24 "TwinRoots$Forest" "line" "[I"] ++ (wsX20 ++ ([])))
set_option maxHeartbeats 4000000 in
set_option maxRecDepth 100000 in
/-- lineUp -/
theorem c_X2_lineUp (l : Launch) (dC : Nat → ClassId) (dI : Nat → Nat → Nat) (sz : Nat) (hf : Nat) (qp : Nat) (qe : Nat) (ql : Nat) (b : Nat) (lo : Nat) (le : Nat) (dp : Int32) (p0 : Int32) (cI : ClassId) (fl : Nat → Int32) (zb : b ≤ 64) (zle : le ≤ b) : Met l yX2_lineUp v_X2_lineUp ({ frames := 0, cells := 0, slots := 0, locals := 0 } : Room) (va_Pc [.ref hf, .int p0] (fun U => U.heap.size = sz ∧ va_P (dC, dI) vwCl [(hf, .inr (2, [.int dp, .ref qp, .ref qe, .ref ql, .int (nI lo), .int (nI le)])), (ql, .inl (cI, b, .inl fl))] U.heap ∧ va_K (dC, dI) vwCl [(cI, .int)] U ∧ va_D (fun _ => True) [(hf, .inr (2, [.int dp, .ref qp, .ref qe, .ref ql, .int (nI lo), .int (nI le)])), (ql, .inl (cI, b, .inl fl))])) (va_Qv (fun (u : Nat × (Nat → Int32)) => match u with | (le2, fl2) => le2 ≤ b ∧ le ≤ le2) (fun (u : Nat × (Nat → Int32)) (t : State) => match u with | (le2, fl2) => va_P (dC, dI) vwCl [(hf, .inr (2, [.int dp, .ref qp, .ref qe, .ref ql, .int (nI lo), .int (nI le2)])), (ql, .inl (cI, b, .inl fl2))] t.heap ∧ va_K (dC, dI) vwCl [(cI, .int)] t ∧ va_D (va_A [(hf, .inr (2, [.int dp, .ref qp, .ref qe, .ref ql, .int (nI lo), .int (nI le)])), (ql, .inl (cI, b, .inl fl))] sz) [(hf, .inr (2, [.int dp, .ref qp, .ref qe, .ref ql, .int (nI lo), .int (nI le2)])), (ql, .inl (cI, b, .inl fl2))]) (va_A [(hf, .inr (2, [.int dp, .ref qp, .ref qe, .ref ql, .int (nI lo), .int (nI le)])), (ql, .inl (cI, b, .inl fl))] sz)) 0 0 (va_A [(hf, .inr (2, [.int dp, .ref qp, .ref qe, .ref ql, .int (nI lo), .int (nI le)])), (ql, .inl (cI, b, .inl fl))] sz) := by
  refine Met.ofW (cc := cX2_lineUp) (maxL := 2) (ret := none) (by decide) rfl ?_
  intro p e s m args below meth c s₁ B hml hv
  obtain ⟨rfl, hsz, hP, hK, hD0⟩ := hv
  have hx := B.exec
  have hb := B.bytes
  have hr := B.returns
  have hts := atoms_spec (ws := v_X2_lineUp) B.pre
  have hown : s.vm.findClass RX2 = some m.cls := findClass_of_methodNamed B.named
  have hlocks := B.notSynchronized
  subst hsz
  have hD := hD0.self (sz := s.heap.size)
  generalize hAe : va_A [(hf, .inr (2, [.int dp, .ref qp, .ref qe, .ref ql, .int (nI lo), .int (nI le)])), (ql, .inl (cI, b, .inl fl))] s.heap.size = A at hD ⊢
  have hA : ∀ q : Nat, s.heap.size ≤ q → A q := fun q h => by rw [← hAe]; exact Or.inr h
  have hS : va_S A s.heap s.heap [] := va_S.rf
  have hP : va_P (dC, dI) vwCl [(hf, .inr (2, [.int dp, .ref qp, .ref qe, .ref ql, .int (nI lo), .int (nI le)])), (ql, .inl (cI, b, .inl fl))] s.heap := hP
  have hl := lv_entry ([.ref hf, .int p0]) (n := 2) (Nat.le_of_ble_eq_true rfl)
  rw [lg_entry_eq]
  generalize (lg_sl ([.ref hf, .int p0]) ++ List.replicate (2 - (lg_sl ([.ref hf, .int p0])).length) Slot.unset).toArray = ls at hl ⊢
  have hl : lv_has ls 2 [(0, .ref hf), (1, .int p0)] := hl
  have k_1 := (fun _ h => List.mem_cons_of_mem _ (List.mem_append_right _ (List.mem_append_left _ h)) : ∀ w ∈ wsX20, w ∈ v_X2_lineUp)
  have k_2 := hts (.fieldLink RX2 50 "TwinRoots$Forest" "lineEnd" "I") (List.mem_of_getElem? (i := 1) rfl)
  have k_3 := hts (.fieldLink RX2 24 "TwinRoots$Forest" "line" "[I") (List.mem_of_getElem? (i := 2) rfl)
  refine lv_aload_n hx hb dX2_lineUp_0 rfl (lv_at hl 0 rfl) ?_
  refine va_get (D := (dC, dI)) (ci := 2) (v := .int (nI le)) (C := RX2) (T := TX2) (N := 6) hx hb hts k_1 hown hK hP 0 rfl rfl 5 (by decide) k_2 (fun _ h9 => h9) rfl dX2_lineUp_1 ?_
  refine lv_aload_n hx hb dX2_lineUp_4 rfl (lv_at hl 0 rfl) ?_
  refine va_get (D := (dC, dI)) (ci := 2) (v := .ref ql) (C := RX2) (T := TX2) (N := 6) hx hb hts k_1 hown hK hP 0 rfl rfl 3 (by decide) k_3 (fun _ h9 => h9) rfl dX2_lineUp_5 ?_
  refine va_alen (v := nI b) hx hb hK hP 1 0 rfl rfl rfl dX2_lineUp_8 ?_
  refine lv_icmp_ge (tgt := 32) hx hb dX2_lineUp_9 (by decide) (fun c_1 => ?_) (fun c_1 => ?_)
  · have hP9 := hP.sub (ws' := [(hf, .inr (2, [.int dp, .ref qp, .ref qe, .ref ql, .int (nI lo), .int (nI le)])), (ql, .inl (cI, b, .inl fl))]) [0, 1] rfl
    have hD9 := hD.sub (ws' := [(hf, .inr (2, [.int dp, .ref qp, .ref qe, .ref ql, .int (nI lo), .int (nI le)])), (ql, .inl (cI, b, .inl fl))]) [0, 1] (by decide) rfl
    have hK9 := hK.sub (tys' := [(cI, .int)]) [0] rfl
    exact W.vret hx hb hr (fun t ht hW => ⟨⟨(le, fl), rfl, ⟨by omega, by omega⟩, by rw [ht]; exact hP9, va_K.moved hW.alike hK9, hD9⟩, hS.F ht⟩) hS.2.2 dX2_lineUp_32
  · have hlt : le < b := Nat.lt_of_not_le (fun h => c_1 (nI_le h (by omega)))
    refine lv_aload_n hx hb dX2_lineUp_12 rfl (lv_at hl 0 rfl) ?_
    refine va_get (D := (dC, dI)) (ci := 2) (v := .ref ql) (C := RX2) (T := TX2) (N := 6) hx hb hts k_1 hown hK hP 0 rfl rfl 3 (by decide) k_3 (fun _ h9 => h9) rfl dX2_lineUp_13 ?_
    refine lv_aload_n hx hb dX2_lineUp_16 rfl (lv_at hl 0 rfl) ?_
    refine va_get (D := (dC, dI)) (ci := 2) (v := .int (nI le)) (C := RX2) (T := TX2) (N := 6) hx hb hts k_1 hown hK hP 0 rfl rfl 5 (by decide) k_2 (fun _ h9 => h9) rfl dX2_lineUp_17 ?_
    refine lv_iload_n hx hb dX2_lineUp_20 rfl (lv_at hl 1 rfl) ?_
    refine va_iast hx hb hK hP hD hS 1 0 rfl rfl (show vp_in (nI le) b from vp_in_nI (by omega) (by omega)) dX2_lineUp_21 (fun H locs hP hD hS => ?_)
    have hP : va_P (dC, dI) vwCl [(hf, .inr (2, [.int dp, .ref qp, .ref qe, .ref ql, .int (nI lo), .int (nI le)])), (ql, .inl (cI, b, .inl (upd fl ((nI le).toNatClampNeg) p0)))] H := hP
    have hD : va_D A [(hf, .inr (2, [.int dp, .ref qp, .ref qe, .ref ql, .int (nI lo), .int (nI le)])), (ql, .inl (cI, b, .inl (upd fl ((nI le).toNatClampNeg) p0)))] := hD
    obtain ⟨f_2, ef_2⟩ : ∃ g9, g9 = upd fl ((nI le).toNatClampNeg) p0 := ⟨_, rfl⟩
    rw [← ef_2] at hP hD
    refine lv_aload_n hx hb dX2_lineUp_22 rfl (lv_at hl 0 rfl) ?_
    refine lv_dup hx hb dX2_lineUp_23 rfl ?_
    refine va_get (D := (dC, dI)) (ci := 2) (v := .int (nI le)) (C := RX2) (T := TX2) (N := 6) hx hb hts k_1 hown hK hP 0 rfl rfl 5 (by decide) k_2 (fun _ h9 => h9) rfl dX2_lineUp_24 ?_
    refine lv_iconst (v := 1) hx hb dX2_lineUp_27 (by decide) ?_
    refine lv_iadd hx hb dX2_lineUp_28 ?_
    refine lv_topi (fun z_3 ez_3 => ?_)
    obtain rfl : z_3 = nI (le + 1) := ez_3.trans (nI_1 le)
    refine va_put (D := (dC, dI)) (ci := 2) (v := .int (nI (le + 1))) (ty := .int) (C := RX2) (T := TX2) (N := 6) hx hb hts k_1 tyX2 tyX2_ok nmX2 hown hK hP hD hS 0 rfl rfl 5 (by decide) k_2 (fun _ h9 => h9) rfl (by decide +kernel) rfl rfl (Nat.le_of_ble_eq_true rfl) dX2_lineUp_29 (fun H locs hP hD hS => ?_)
    have hP : va_P (dC, dI) vwCl [(hf, .inr (2, [.int dp, .ref qp, .ref qe, .ref ql, .int (nI lo), .int (nI (le + 1))])), (ql, .inl (cI, b, .inl f_2))] H := hP
    have hD : va_D A [(hf, .inr (2, [.int dp, .ref qp, .ref qe, .ref ql, .int (nI lo), .int (nI (le + 1))])), (ql, .inl (cI, b, .inl f_2))] := hD
    have hP9 := hP.sub (ws' := [(hf, .inr (2, [.int dp, .ref qp, .ref qe, .ref ql, .int (nI lo), .int (nI (le + 1))])), (ql, .inl (cI, b, .inl f_2))]) [0, 1] rfl
    have hD9 := hD.sub (ws' := [(hf, .inr (2, [.int dp, .ref qp, .ref qe, .ref ql, .int (nI lo), .int (nI (le + 1))])), (ql, .inl (cI, b, .inl f_2))]) [0, 1] (by decide) rfl
    have hK9 := hK.sub (tys' := [(cI, .int)]) [0] rfl
    exact W.vret hx hb hr (fun t ht hW => ⟨⟨(le + 1, f_2), rfl, ⟨by omega, by omega⟩, by rw [ht]; exact hP9, va_K.moved hW.alike hK9, hD9⟩, hS.F ht⟩) hS.2.2 dX2_lineUp_32
def v_X2_lineUpChildren : List Cond := .code yX2_lineUpChildren cX2_lineUpChildren 3 none :: ([.fieldLink RX2 63 "TwinRoots$Page" "many" "I", .code yX4_refAt cX4_refAt 2 (some .int), .fieldLink RX4 22 "TwinRoots$Page" "many" "I", .fieldLink RX4 19 "TwinRoots$Page" "refs" "[I", .methodLink RX2 40 yX4_refAt, .instanceMethod yX4_refAt, .selects RX4 yX4_refAt yX4_refAt, .initialized RX4, .code yX2_lineUp cX2_lineUp 2 none, .fieldLink RX2 50 "TwinRoots$Forest" "lineEnd" "I", .fieldLink RX2 24 "TwinRoots$Forest" "line" "[I", .methodLink RX2 53 yX2_lineUp, .instanceMethod yX2_lineUp, .selects RX2 yX2_lineUp yX2_lineUp, .initialized RX2] ++ (wsX40 ++ (wsX20 ++ ([]))))
set_option maxRecDepth 20000 in
theorem g_X2_lineUpChildren_X4_refAt : GoodIn v_X2_lineUpChildren (wsV RX2 40 RX4 yX4_refAt v_X4_refAt) := goodIn_r _ [5, 6, 7, 8, 2, 3, 4, 16, 17, 18, 19] (by decide +kernel) (by decide +kernel)
set_option maxRecDepth 20000 in
theorem g_X2_lineUpChildren_X2_lineUp : GoodIn v_X2_lineUpChildren (wsV RX2 53 RX2 yX2_lineUp v_X2_lineUp) := goodIn_r _ [12, 13, 14, 15, 9, 10, 11, 20, 21, 22, 23, 24, 25] (by decide +kernel) (by decide +kernel)
set_option maxHeartbeats 4000000 in
set_option maxRecDepth 100000 in
/-- lineUpChildren -/
theorem c_X2_lineUpChildren (l : Launch) (dC : Nat → ClassId) (dI : Nat → Nat → Nat) (sz : Nat) (hf : Nat) (qp : Nat) (qe : Nat) (ql : Nat) (b : Nat) (lo : Nat) (le : Nat) (a0 : Nat) (dp : Int32) (G : pgG) (Pg : List Nat) (cI : ClassId) (S : pgS) (fl : Nat → Int32) (zb : b ≤ 64) (hI : pgI G Pg S) (zle : le ≤ b) (hm_a0 : a0 ∈ Pg) : Met l yX2_lineUpChildren v_X2_lineUpChildren ({ frames := 1, cells := 0, slots := 0, locals := 21 } : Room) (va_Pc [.ref hf, .ref a0] (fun U => U.heap.size = sz ∧ va_P (dC, dI) vwCl ([(hf, .inr (2, [.int dp, .ref qp, .ref qe, .ref ql, .int (nI lo), .int (nI le)])), (ql, .inl (cI, b, .inl fl))] ++ pool G cI Pg S) U.heap ∧ va_K (dC, dI) vwCl [(cI, .int)] U ∧ va_D (fun _ => True) ([(hf, .inr (2, [.int dp, .ref qp, .ref qe, .ref ql, .int (nI lo), .int (nI le)])), (ql, .inl (cI, b, .inl fl))] ++ pool G cI Pg S))) (va_Qv (fun (u : Nat × (Nat → Int32)) => match u with | (le2, fl2) => le2 ≤ b ∧ le ≤ le2) (fun (u : Nat × (Nat → Int32)) (t : State) => match u with | (le2, fl2) => va_P (dC, dI) vwCl ([(hf, .inr (2, [.int dp, .ref qp, .ref qe, .ref ql, .int (nI lo), .int (nI le2)])), (ql, .inl (cI, b, .inl fl2))] ++ pool G cI Pg S) t.heap ∧ va_K (dC, dI) vwCl [(cI, .int)] t ∧ va_D (va_A ([(hf, .inr (2, [.int dp, .ref qp, .ref qe, .ref ql, .int (nI lo), .int (nI le)])), (ql, .inl (cI, b, .inl fl))] ++ pool G cI Pg S) sz) ([(hf, .inr (2, [.int dp, .ref qp, .ref qe, .ref ql, .int (nI lo), .int (nI le2)])), (ql, .inl (cI, b, .inl fl2))] ++ pool G cI Pg S)) (va_A ([(hf, .inr (2, [.int dp, .ref qp, .ref qe, .ref ql, .int (nI lo), .int (nI le)])), (ql, .inl (cI, b, .inl fl))] ++ pool G cI Pg S) sz)) 0 0 (va_A ([(hf, .inr (2, [.int dp, .ref qp, .ref qe, .ref ql, .int (nI lo), .int (nI le)])), (ql, .inl (cI, b, .inl fl))] ++ pool G cI Pg S) sz) := by
  refine Met.ofW (cc := cX2_lineUpChildren) (maxL := 3) (ret := none) (by decide) rfl ?_
  intro p e s m args below meth c s₁ B hml hv
  obtain ⟨rfl, hsz, hP, hK, hD0⟩ := hv
  have hx := B.exec
  have hb := B.bytes
  have hr := B.returns
  have hts := atoms_spec (ws := v_X2_lineUpChildren) B.pre
  have hown : s.vm.findClass RX2 = some m.cls := findClass_of_methodNamed B.named
  have hlocks := B.notSynchronized
  subst hsz
  have hD := hD0.self (sz := s.heap.size)
  generalize hAe : va_A ([(hf, .inr (2, [.int dp, .ref qp, .ref qe, .ref ql, .int (nI lo), .int (nI le)])), (ql, .inl (cI, b, .inl fl))] ++ pool G cI Pg S) s.heap.size = A at hD ⊢
  have hA : ∀ q : Nat, s.heap.size ≤ q → A q := fun q h => by rw [← hAe]; exact Or.inr h
  have hS : va_S A s.heap s.heap [] := va_S.rf
  have hP : va_P (dC, dI) vwCl ([(hf, .inr (2, [.int dp, .ref qp, .ref qe, .ref ql, .int (nI lo), .int (nI le)])), (ql, .inl (cI, b, .inl fl))] ++ pool G cI Pg S) s.heap := hP
  have hl := lv_entry ([.ref hf, .ref a0]) (n := 3) (Nat.le_of_ble_eq_true rfl)
  rw [lg_entry_eq]
  generalize (lg_sl ([.ref hf, .ref a0]) ++ List.replicate (3 - (lg_sl ([.ref hf, .ref a0])).length) Slot.unset).toArray = ls at hl ⊢
  have hl : lv_has ls 3 [(0, .ref hf), (1, .ref a0)] := hl
  have k_1 := (fun _ h => List.mem_cons_of_mem _ (List.mem_append_right _ (List.mem_append_left _ h)) : ∀ w ∈ wsX40, w ∈ v_X2_lineUpChildren)
  have k_2 := hts (.fieldLink RX2 63 "TwinRoots$Page" "many" "I") (List.mem_of_getElem? (i := 1) rfl)
  have hz2 := (hI a0 hm_a0).2.1
  have hz3 := (hI a0 hm_a0).2.2
  refine lv_iconst (v := 0) hx hb dX2_lineUpChildren_0 (by decide) ?_
  refine lv_istore_n (lv' := [(2, .int 0), (0, .ref hf), (1, .ref a0)]) hx hb dX2_lineUpChildren_1 rfl hl (by decide) rfl (fun ls hl => ?_)
  have loop_2 : ∀ (Q : State → Prop), (∀ (i : Nat) (lv9 : Nat) (fv : Nat → Int32) (H : Heap) (locs : List Loc) (ls : Array Slot), i ≤ (S a0).2.1 → (lv9 ≤ b) → (le ≤ lv9) → va_P (dC, dI) vwCl ([(hf, .inr (2, [.int dp, .ref qp, .ref qe, .ref ql, .int (nI lo), .int (nI lv9)])), (ql, .inl (cI, b, .inl fv))] ++ pool G cI Pg S) H → va_D A ([(hf, .inr (2, [.int dp, .ref qp, .ref qe, .ref ql, .int (nI lo), .int (nI lv9)])), (ql, .inl (cI, b, .inl fv))] ++ pool G cI Pg S) → va_S A s.heap H locs → lv_has ls 3 [(0, .ref hf), (1, .ref a0), (2, .int (nI i))] → W p l e (headSpec v_X2_lineUpChildren ({ frames := 1, cells := 0, slots := 0, locals := 21 } : Room)).room s m ([.ref hf, .ref a0] : List Value).toArray below meth c H locs 0 0 Q (F0 m 25 ls [])) → ∀ (nf i : Nat) (lv9 : Nat) (fv : Nat → Int32) (H : Heap) (locs : List Loc) (ls : Array Slot), i ≤ (S a0).2.1 → (S a0).2.1 + 1 ≤ i + nf → (lv9 ≤ b) → (le ≤ lv9) → va_P (dC, dI) vwCl ([(hf, .inr (2, [.int dp, .ref qp, .ref qe, .ref ql, .int (nI lo), .int (nI lv9)])), (ql, .inl (cI, b, .inl fv))] ++ pool G cI Pg S) H → va_D A ([(hf, .inr (2, [.int dp, .ref qp, .ref qe, .ref ql, .int (nI lo), .int (nI lv9)])), (ql, .inl (cI, b, .inl fv))] ++ pool G cI Pg S) → va_S A s.heap H locs → lv_has ls 3 [(0, .ref hf), (1, .ref a0), (2, .int (nI i))] → W p l e (headSpec v_X2_lineUpChildren ({ frames := 1, cells := 0, slots := 0, locals := 21 } : Room)).room s m ([.ref hf, .ref a0] : List Value).toArray below meth c H locs 0 0 Q (F0 m 2 ls []) := by
    intro Q kx nf
    induction nf with
    | zero =>
      intro i lv9 fv H locs ls h1 h2
      exact absurd h2 (by omega)
    | succ nf ih =>
      intro i lv9 fv H locs ls hi hn h_a h_b hP hD hS hl
      refine lv_iload_n hx hb dX2_lineUpChildren_2 rfl (lv_at hl 2 rfl) ?_
      refine lv_aload_n hx hb dX2_lineUpChildren_3 rfl (lv_at hl 1 rfl) ?_
      obtain ⟨k9, hk9⟩ := pool_at (G := G) (cI := cI) (S := S) [(hf, .inr (2, [.int dp, .ref qp, .ref qe, .ref ql, .int (nI lo), .int (nI lv9)])), (ql, .inl (cI, b, .inl fv))] hm_a0
      refine va_get (D := (dC, dI)) (ci := 4) (v := .int (nI (S a0).2.1)) (C := RX4) (T := TX4) (N := 4) hx hb hts k_1 hown hK hP k9 hk9 rfl 1 (by decide) k_2 (fun _ h9 => h9) rfl dX2_lineUpChildren_4 ?_
      refine lv_icmp_ge (tgt := 25) hx hb dX2_lineUpChildren_7 (by decide) (fun c_1 => ?_) (fun c_1 => ?_)
      · exact kx i lv9 fv _ _ _ (by omega) h_a h_b hP hD hS (lv_sub hl [0, 1, 2] rfl)
      · have hlt : i < (S a0).2.1 := Nat.lt_of_not_le (fun h => c_1 (nI_le h (by omega)))
        refine lv_aload_n hx hb dX2_lineUpChildren_10 rfl (lv_at hl 0 rfl) ?_
        refine lv_aload_n hx hb dX2_lineUpChildren_11 rfl (lv_at hl 1 rfl) ?_
        refine lv_iload_n hx hb dX2_lineUpChildren_12 rfl (lv_at hl 2 rfl) ?_
        have hz1_a0 := (hI a0 hm_a0).1
        have hz2_a0 := (hI a0 hm_a0).2.1
        have hz3_a0 := (hI a0 hm_a0).2.2
        have hT9 := in1 hm_a0
        have hPc : va_P (dC, dI) vwCl [(a0, .inr (4, [.int (S a0).1, .int (nI (S a0).2.1), .ref (G a0).1, .ref (G a0).2.1])), ((G a0).1, .inl (cI, (G a0).2.2.1, .inl (S a0).2.2.1)), ((G a0).2.1, .inl (cI, (G a0).2.2.1, .inl (S a0).2.2.2))] H := pool_cut (T := [a0]) (cx := []) hP hT9 [] rfl
        have hDc : va_D A [(a0, .inr (4, [.int (S a0).1, .int (nI (S a0).2.1), .ref (G a0).1, .ref (G a0).2.1])), ((G a0).1, .inl (cI, (G a0).2.2.1, .inl (S a0).2.2.1)), ((G a0).2.1, .inl (cI, (G a0).2.2.1, .inl (S a0).2.2.2))] := pool_cutD (T := [a0]) (cx := []) hD hT9 (nd1) [] (by decide) rfl
        have hFc : ∀ q, va_A [(a0, .inr (4, [.int (S a0).1, .int (nI (S a0).2.1), .ref (G a0).1, .ref (G a0).2.1])), ((G a0).1, .inl (cI, (G a0).2.2.1, .inl (S a0).2.2.1)), ((G a0).2.1, .inl (cI, (G a0).2.2.1, .inl (S a0).2.2.2))] (H).size q → A q := pool_free (T := [a0]) (cx := []) hD hS hA hT9 [] rfl
        have hKc := hK.sub (tys' := [(cI, .int), (cI, .int)]) [0, 0] rfl
        refine va_calli (va_runV (As := [.int (nI i)]) (rest := [.ref hf]) ⟨hx, hb, hml, hown, hts⟩ (c_X4_refAt l dC dI H.size a0 (G a0).1 (G a0).2.1 (G a0).2.2.1 (S a0).2.1 (S a0).1 cI cI (S a0).2.2.1 (S a0).2.2.2 (nI i) (by first | assumption | omega | decide) (by first | assumption | omega | decide)) (cwV 1 hts g_X2_lineUpChildren_X4_refAt rfl rfl rfl (by decide +kernel) ⟨Nat.le_of_ble_eq_true rfl, Nat.le_of_ble_eq_true rfl⟩) ⟨fun a U g mk q => by obtain ⟨q0, q1, qP, qK, qD⟩ := q; exact ⟨q0, q1, qP, va_K.moved (u := U) (U := U.calling g mk a) (Vm.Alike.refl U.vm) qK, qD⟩, va_recv hKc hPc (ci := 4) (q0 := 0) rfl rfl, fun U hU hW => ⟨rfl, by rw [hU], by rw [hU]; exact hPc, va_K.moved hW.alike hKc, hDc.weaken (fun _ _ _ _ => trivial)⟩⟩ rfl rfl hl.1 rfl (lv_room (Nat.le_of_ble_eq_true rfl)) dX2_lineUpChildren_13 ⟨(show 0 + 0 ≤ 0 by omega), (show 0 + 0 ≤ 0 by omega)⟩) hS (fun q _ h => hFc q h) hFc (fun r_2 u t H1 locs ht hvm hw hB hz1 hk1 hS => ?_)
        obtain ⟨hP1, hK1, hD1⟩ := hB
        rw [ht] at hP1
        have hK1 := va_K.moved hvm.symm hK1
        try dsimp only at hw
        obtain ⟨hP, hD⟩ := pool_join (S := S) (S1 := S) (T := [a0]) (cx := []) (wr := [(hf, .inr (2, [.int dp, .ref qp, .ref qe, .ref ql, .int (nI lo), .int (nI lv9)])), (ql, .inl (cI, b, .inl fv))]) (rx := []) hP hD hT9 [] [0, 1] rfl rfl (by decide) (by decide) hk1 hFc hP1 hD1
        rw [pgJ_same] at hP hD
        have hK := (hK.sub (tys' := [(cI, .int)]) [0] rfl).app hK1
        have hK : va_K (dC, dI) vwCl [(cI, .int)] s := hK.sub [0] rfl
        generalize H1 = H at hP hS ⊢
        have hP : va_P (dC, dI) vwCl ([(hf, .inr (2, [.int dp, .ref qp, .ref qe, .ref ql, .int (nI lo), .int (nI lv9)])), (ql, .inl (cI, b, .inl fv))] ++ pool G cI Pg S) H := hP
        have hD : va_D A ([(hf, .inr (2, [.int dp, .ref qp, .ref qe, .ref ql, .int (nI lo), .int (nI lv9)])), (ql, .inl (cI, b, .inl fv))] ++ pool G cI Pg S) := hD
        have hK : va_K (dC, dI) vwCl [(cI, .int)] s := hK
        have hw_r_2 := hw
        have hPc := hP.sub (ws' := [(hf, .inr (2, [.int dp, .ref qp, .ref qe, .ref ql, .int (nI lo), .int (nI lv9)])), (ql, .inl (cI, b, .inl fv))]) [0, 1] rfl
        have hDc := hD.sub (ws' := [(hf, .inr (2, [.int dp, .ref qp, .ref qe, .ref ql, .int (nI lo), .int (nI lv9)])), (ql, .inl (cI, b, .inl fv))]) [0, 1] (by decide) rfl
        have hKc := hK.sub (tys' := [(cI, .int)]) [0] rfl
        have hFc := va_free (wc := [(hf, .inr (2, [.int dp, .ref qp, .ref qe, .ref ql, .int (nI lo), .int (nI lv9)])), (ql, .inl (cI, b, .inl fv))]) hD hS hA [0, 1] rfl
        refine va_callv (va_runV (As := [.int r_2]) (rest := []) ⟨hx, hb, hml, hown, hts⟩ (c_X2_lineUp l dC dI H.size hf qp qe ql b lo lv9 dp r_2 cI fv (by first | assumption | omega | decide) (by first | assumption | omega | decide)) (cwV 1 hts g_X2_lineUpChildren_X2_lineUp rfl rfl rfl (by decide +kernel) ⟨Nat.le_of_ble_eq_true rfl, Nat.le_of_ble_eq_true rfl⟩) ⟨fun a U g mk q => by obtain ⟨q0, q1, qP, qK, qD⟩ := q; exact ⟨q0, q1, qP, va_K.moved (u := U) (U := U.calling g mk a) (Vm.Alike.refl U.vm) qK, qD⟩, va_recv hKc hPc (ci := 2) (q0 := 0) rfl rfl, fun U hU hW => ⟨rfl, by rw [hU], by rw [hU]; exact hPc, va_K.moved hW.alike hKc, hDc.weaken (fun _ _ _ _ => trivial)⟩⟩ rfl rfl hl.1 rfl (lv_room (Nat.le_of_ble_eq_true rfl)) dX2_lineUpChildren_16 ⟨(show 0 + 0 ≤ 0 by omega), (show 0 + 0 ≤ 0 by omega)⟩) hS (fun q _ h => hFc q h) hFc (fun u t H1 locs ht hvm hw hB hz1 hk1 hS => ?_)
        obtain ⟨le2_4, fl2_5⟩ := u
        obtain ⟨hP1, hK1, hD1⟩ := hB
        rw [ht] at hP1
        have hK1 := va_K.moved hvm.symm hK1
        try dsimp only at hw
        obtain ⟨hP, hD⟩ := va_joinQ (wr := []) (w1 := [(hf, .inr (2, [.int dp, .ref qp, .ref qe, .ref ql, .int (nI lo), .int (nI le2_4)])), (ql, .inl (cI, b, .inl fl2_5))]) hP hD [0, 1] [] rfl rfl (by decide) (by decide) hk1 hFc hP1 hD1
        have hK := (hK.sub (tys' := [(cI, .int)]) [0] rfl).app hK1
        have hK : va_K (dC, dI) vwCl [(cI, .int)] s := hK.sub [0] rfl
        generalize H1 = H at hP hS ⊢
        have hP : va_P (dC, dI) vwCl ([(hf, .inr (2, [.int dp, .ref qp, .ref qe, .ref ql, .int (nI lo), .int (nI le2_4)])), (ql, .inl (cI, b, .inl fl2_5))] ++ pool G cI Pg S) H := hP
        have hD : va_D A ([(hf, .inr (2, [.int dp, .ref qp, .ref qe, .ref ql, .int (nI lo), .int (nI le2_4)])), (ql, .inl (cI, b, .inl fl2_5))] ++ pool G cI Pg S) := hD
        have hK : va_K (dC, dI) vwCl [(cI, .int)] s := hK
        have hw_r_3 := hw
        refine lv_iinc (v := (nI (i + 1))) (lv' := [(2, .int (nI (i + 1))), (0, .ref hf), (1, .ref a0)]) hx hb dX2_lineUpChildren_19 hl (k := 2) rfl (nI_1 i) (by decide) rfl (fun ls hl => ?_)
        refine lv_goto (tgt := 2) hx hb dX2_lineUpChildren_22 (by decide) ?_
        exact ih (i + 1) le2_4 fl2_5 _ _ _ (by omega) (by omega) (by omega) (by omega) hP hD hS (lv_sub hl [1, 2, 0] rfl)
  refine loop_2 _ (fun i lv9 fv H locs ls hi h_a h_b hP hD hS hl => ?_) ((S a0).2.1 + 1) 0 le fl _ _ _ (by omega) (by omega) (by omega) (by omega) hP hD hS (lv_sub hl [1, 2, 0] rfl)
  have hP9 := hP.part (cx := [(hf, .inr (2, [.int dp, .ref qp, .ref qe, .ref ql, .int (nI lo), .int (nI lv9)])), (ql, .inl (cI, b, .inl fv))]) [0, 1] rfl
  have hD9 := hD.part (cx := [(hf, .inr (2, [.int dp, .ref qp, .ref qe, .ref ql, .int (nI lo), .int (nI lv9)])), (ql, .inl (cI, b, .inl fv))]) [0, 1] (by decide) rfl
  have hK9 := hK.sub (tys' := [(cI, .int)]) [0] rfl
  exact W.vret hx hb hr (fun t ht hW => ⟨⟨(lv9, fv), rfl, ⟨by omega, by omega⟩, by rw [ht]; exact hP9, va_K.moved hW.alike hK9, hD9⟩, hS.F ht⟩) hS.2.2 dX2_lineUpChildren_25
def v_X2_leaves : List Cond := .code yX2_leaves cX2_leaves 1 (some .int) :: ([.fieldLink RX2 50 "TwinRoots$Forest" "lineEnd" "I", .fieldLink RX2 47 "TwinRoots$Forest" "lowestLevel" "I"] ++ (wsX20 ++ ([])))
set_option maxHeartbeats 4000000 in
set_option maxRecDepth 100000 in
/-- leaves -/
theorem c_X2_leaves (l : Launch) (dC : Nat → ClassId) (dI : Nat → Nat → Nat) (sz : Nat) (hf : Nat) (qp : Nat) (qe : Nat) (ql : Nat) (lo : Nat) (le : Nat) (dp : Int32) (zlo : lo ≤ le) (zle : le ≤ 64) : Met l yX2_leaves v_X2_leaves ({ frames := 0, cells := 0, slots := 0, locals := 0 } : Room) (va_Pc [.ref hf] (fun U => U.heap.size = sz ∧ va_P (dC, dI) vwCl [(hf, .inr (2, [.int dp, .ref qp, .ref qe, .ref ql, .int (nI lo), .int (nI le)]))] U.heap ∧ va_K (dC, dI) vwCl [] U ∧ va_D (fun _ => True) [(hf, .inr (2, [.int dp, .ref qp, .ref qe, .ref ql, .int (nI lo), .int (nI le)]))])) (va_Qi (fun (r : Int32) (_ : Unit) => r = nI (le - lo)) (fun (_ : Unit) (t : State) => va_P (dC, dI) vwCl [(hf, .inr (2, [.int dp, .ref qp, .ref qe, .ref ql, .int (nI lo), .int (nI le)]))] t.heap ∧ va_K (dC, dI) vwCl [] t ∧ va_D (va_A [(hf, .inr (2, [.int dp, .ref qp, .ref qe, .ref ql, .int (nI lo), .int (nI le)]))] sz) [(hf, .inr (2, [.int dp, .ref qp, .ref qe, .ref ql, .int (nI lo), .int (nI le)]))]) (va_A [(hf, .inr (2, [.int dp, .ref qp, .ref qe, .ref ql, .int (nI lo), .int (nI le)]))] sz)) 0 0 (va_A [(hf, .inr (2, [.int dp, .ref qp, .ref qe, .ref ql, .int (nI lo), .int (nI le)]))] sz) := by
  refine Met.ofW (cc := cX2_leaves) (maxL := 1) (ret := (some .int)) (by decide) rfl ?_
  intro p e s m args below meth c s₁ B hml hv
  obtain ⟨rfl, hsz, hP, hK, hD0⟩ := hv
  have hx := B.exec
  have hb := B.bytes
  have hr := B.returns
  have hts := atoms_spec (ws := v_X2_leaves) B.pre
  have hown : s.vm.findClass RX2 = some m.cls := findClass_of_methodNamed B.named
  have hlocks := B.notSynchronized
  subst hsz
  have hD := hD0.self (sz := s.heap.size)
  generalize hAe : va_A [(hf, .inr (2, [.int dp, .ref qp, .ref qe, .ref ql, .int (nI lo), .int (nI le)]))] s.heap.size = A at hD ⊢
  have hA : ∀ q : Nat, s.heap.size ≤ q → A q := fun q h => by rw [← hAe]; exact Or.inr h
  have hS : va_S A s.heap s.heap [] := va_S.rf
  have hP : va_P (dC, dI) vwCl [(hf, .inr (2, [.int dp, .ref qp, .ref qe, .ref ql, .int (nI lo), .int (nI le)]))] s.heap := hP
  have hl := lv_entry ([.ref hf]) (n := 1) (Nat.le_of_ble_eq_true rfl)
  rw [lg_entry_eq]
  generalize (lg_sl ([.ref hf]) ++ List.replicate (1 - (lg_sl ([.ref hf])).length) Slot.unset).toArray = ls at hl ⊢
  have hl : lv_has ls 1 [(0, .ref hf)] := hl
  have k_1 := (fun _ h => List.mem_cons_of_mem _ (List.mem_append_right _ (List.mem_append_left _ h)) : ∀ w ∈ wsX20, w ∈ v_X2_leaves)
  have k_2 := hts (.fieldLink RX2 50 "TwinRoots$Forest" "lineEnd" "I") (List.mem_of_getElem? (i := 1) rfl)
  have k_3 := hts (.fieldLink RX2 47 "TwinRoots$Forest" "lowestLevel" "I") (List.mem_of_getElem? (i := 2) rfl)
  refine lv_aload_n hx hb dX2_leaves_0 rfl (lv_at hl 0 rfl) ?_
  refine va_get (D := (dC, dI)) (ci := 2) (v := .int (nI le)) (C := RX2) (T := TX2) (N := 6) hx hb hts k_1 hown hK hP 0 rfl rfl 5 (by decide) k_2 (fun _ h9 => h9) rfl dX2_leaves_1 ?_
  refine lv_aload_n hx hb dX2_leaves_4 rfl (lv_at hl 0 rfl) ?_
  refine va_get (D := (dC, dI)) (ci := 2) (v := .int (nI lo)) (C := RX2) (T := TX2) (N := 6) hx hb hts k_1 hown hK hP 0 rfl rfl 4 (by decide) k_3 (fun _ h9 => h9) rfl dX2_leaves_5 ?_
  refine lv_isub hx hb dX2_leaves_8 ?_
  refine lv_topi (fun z_1 ez_1 => ?_)
  obtain rfl : z_1 = nI (le - lo) := ez_1.trans (pk_sub (a := le) (b := lo) (by omega))
  have hP9 := hP.sub (ws' := [(hf, .inr (2, [.int dp, .ref qp, .ref qe, .ref ql, .int (nI lo), .int (nI le)]))]) [0] rfl
  have hD9 := hD.sub (ws' := [(hf, .inr (2, [.int dp, .ref qp, .ref qe, .ref ql, .int (nI lo), .int (nI le)]))]) [0] (by decide) rfl
  have hK9 := hK.sub (tys' := []) [] rfl
  exact W.iret (v := (nI (le - lo))) hx hb hr (fun t ht hW => ⟨⟨(nI (le - lo)), (), rfl, rfl, by rw [ht]; exact hP9, va_K.moved hW.alike hK9, hD9⟩, hS.F ht⟩) hS.2.2 dX2_leaves_9
def v_X2_leaf : List Cond := .code yX2_leaf cX2_leaf 2 (some (.object "TwinRoots$Page")) :: ([.fieldLink RX2 47 "TwinRoots$Forest" "lowestLevel" "I", .code yX2_inLine cX2_inLine 2 (some (.object "TwinRoots$Page")), .fieldLink RX2 20 "TwinRoots$Forest" "empty" "LTwinRoots$Page;", .fieldLink RX2 50 "TwinRoots$Forest" "lineEnd" "I", .fieldLink RX2 24 "TwinRoots$Forest" "line" "[I", .code yX2_page cX2_page 2 (some (.object "TwinRoots$Page")), .fieldLink RX2 11 "TwinRoots$Forest" "pages" "[LTwinRoots$Page;", .methodLink RX2 28 yX2_page, .instanceMethod yX2_page, .selects RX2 yX2_page yX2_page, .initialized RX2, .methodLink RX2 56 yX2_inLine, .instanceMethod yX2_inLine, .selects RX2 yX2_inLine yX2_inLine] ++ (wsX20 ++ ([])))
set_option maxRecDepth 20000 in
theorem g_X2_leaf_X2_inLine : GoodIn v_X2_leaf (wsV RX2 56 RX2 yX2_inLine v_X2_inLine) := goodIn_r _ [12, 13, 14, 11, 2, 3, 4, 5, 6, 7, 8, 9, 10, 11, 15, 16, 17, 18, 19, 20] (by decide +kernel) (by decide +kernel)
set_option maxHeartbeats 4000000 in
set_option maxRecDepth 100000 in
/-- leaf: one of the forest -/
theorem c_X2_leaf (l : Launch) (dC : Nat → ClassId) (dI : Nat → Nat → Nat) (sz : Nat) (hf : Nat) (qp : Nat) (qe : Nat) (ql : Nat) (b : Nat) (lo : Nat) (le : Nat) (dp : Int32) (cO : ClassId) (fp : Nat → Option Nat) (G : pgG) (Pg : List Nat) (cI : ClassId) (S : pgS) (p0 : Int32) (fl : Nat → Int32) (zb : b ≤ 64) (hI : pgI G Pg S) (hpg : ∀ i, i < b → ∃ a, a ∈ Pg ∧ (G a).2.2.2 = 0 ∧ fp i = some a) (hm_qe : qe ∈ Pg) (ht_qe : (G qe).2.2.2 = 0) (zle : le ≤ b) (zlo : lo ≤ le) : Met l yX2_leaf v_X2_leaf ({ frames := 2, cells := 0, slots := 0, locals := 42 } : Room) (va_Pc [.ref hf, .int p0] (fun U => U.heap.size = sz ∧ va_P (dC, dI) vwCl ([(hf, .inr (2, [.int dp, .ref qp, .ref qe, .ref ql, .int (nI lo), .int (nI le)])), (qp, .inl (cO, b, .inr (.inr (.inr (.inr fp))))), (ql, .inl (cI, b, .inl fl))] ++ pool G cI Pg S) U.heap ∧ va_K (dC, dI) vwCl [(cO, .object RX4), (cI, .int)] U ∧ va_D (fun _ => True) ([(hf, .inr (2, [.int dp, .ref qp, .ref qe, .ref ql, .int (nI lo), .int (nI le)])), (qp, .inl (cO, b, .inr (.inr (.inr (.inr fp))))), (ql, .inl (cI, b, .inl fl))] ++ pool G cI Pg S))) (va_Qr (fun (a : Nat) => a ∈ Pg ∧ (G a).2.2.2 = 0) (fun (a : Nat) (ra : Nat) (t : State) => ra = a ∧ va_P (dC, dI) vwCl ([(hf, .inr (2, [.int dp, .ref qp, .ref qe, .ref ql, .int (nI lo), .int (nI le)])), (qp, .inl (cO, b, .inr (.inr (.inr (.inr fp))))), (ql, .inl (cI, b, .inl fl))] ++ pool G cI Pg S) t.heap ∧ va_K (dC, dI) vwCl [(cO, .object RX4), (cI, .int)] t ∧ va_D (va_A ([(hf, .inr (2, [.int dp, .ref qp, .ref qe, .ref ql, .int (nI lo), .int (nI le)])), (qp, .inl (cO, b, .inr (.inr (.inr (.inr fp))))), (ql, .inl (cI, b, .inl fl))] ++ pool G cI Pg S) sz) ([(hf, .inr (2, [.int dp, .ref qp, .ref qe, .ref ql, .int (nI lo), .int (nI le)])), (qp, .inl (cO, b, .inr (.inr (.inr (.inr fp))))), (ql, .inl (cI, b, .inl fl))] ++ pool G cI Pg S)) (va_A ([(hf, .inr (2, [.int dp, .ref qp, .ref qe, .ref ql, .int (nI lo), .int (nI le)])), (qp, .inl (cO, b, .inr (.inr (.inr (.inr fp))))), (ql, .inl (cI, b, .inl fl))] ++ pool G cI Pg S) sz)) 0 0 (va_A ([(hf, .inr (2, [.int dp, .ref qp, .ref qe, .ref ql, .int (nI lo), .int (nI le)])), (qp, .inl (cO, b, .inr (.inr (.inr (.inr fp))))), (ql, .inl (cI, b, .inl fl))] ++ pool G cI Pg S) sz) := by
  refine Met.ofW (cc := cX2_leaf) (maxL := 2) (ret := (some (.object "TwinRoots$Page"))) (by decide) rfl ?_
  intro p e s m args below meth c s₁ B hml hv
  obtain ⟨rfl, hsz, hP, hK, hD0⟩ := hv
  have hx := B.exec
  have hb := B.bytes
  have hr := B.returns
  have hts := atoms_spec (ws := v_X2_leaf) B.pre
  have hown : s.vm.findClass RX2 = some m.cls := findClass_of_methodNamed B.named
  have hlocks := B.notSynchronized
  subst hsz
  have hD := hD0.self (sz := s.heap.size)
  generalize hAe : va_A ([(hf, .inr (2, [.int dp, .ref qp, .ref qe, .ref ql, .int (nI lo), .int (nI le)])), (qp, .inl (cO, b, .inr (.inr (.inr (.inr fp))))), (ql, .inl (cI, b, .inl fl))] ++ pool G cI Pg S) s.heap.size = A at hD ⊢
  have hA : ∀ q : Nat, s.heap.size ≤ q → A q := fun q h => by rw [← hAe]; exact Or.inr h
  have hS : va_S A s.heap s.heap [] := va_S.rf
  have hP : va_P (dC, dI) vwCl ([(hf, .inr (2, [.int dp, .ref qp, .ref qe, .ref ql, .int (nI lo), .int (nI le)])), (qp, .inl (cO, b, .inr (.inr (.inr (.inr fp))))), (ql, .inl (cI, b, .inl fl))] ++ pool G cI Pg S) s.heap := hP
  have hl := lv_entry ([.ref hf, .int p0]) (n := 2) (Nat.le_of_ble_eq_true rfl)
  rw [lg_entry_eq]
  generalize (lg_sl ([.ref hf, .int p0]) ++ List.replicate (2 - (lg_sl ([.ref hf, .int p0])).length) Slot.unset).toArray = ls at hl ⊢
  have hl : lv_has ls 2 [(0, .ref hf), (1, .int p0)] := hl
  have k_1 := (fun _ h => List.mem_cons_of_mem _ (List.mem_append_right _ (List.mem_append_left _ h)) : ∀ w ∈ wsX20, w ∈ v_X2_leaf)
  have k_2 := hts (.fieldLink RX2 47 "TwinRoots$Forest" "lowestLevel" "I") (List.mem_of_getElem? (i := 1) rfl)
  refine lv_aload_n hx hb dX2_leaf_0 rfl (lv_at hl 0 rfl) ?_
  refine lv_aload_n hx hb dX2_leaf_1 rfl (lv_at hl 0 rfl) ?_
  refine va_get (D := (dC, dI)) (ci := 2) (v := .int (nI lo)) (C := RX2) (T := TX2) (N := 6) hx hb hts k_1 hown hK hP 0 rfl rfl 4 (by decide) k_2 (fun _ h9 => h9) rfl dX2_leaf_2 ?_
  refine lv_iload_n hx hb dX2_leaf_5 rfl (lv_at hl 1 rfl) ?_
  refine lv_iadd hx hb dX2_leaf_6 ?_
  refine lv_topi (fun z_1 _ => ?_)
  have hPc := hP.part (cx := [(hf, .inr (2, [.int dp, .ref qp, .ref qe, .ref ql, .int (nI lo), .int (nI le)])), (qp, .inl (cO, b, .inr (.inr (.inr (.inr fp))))), (ql, .inl (cI, b, .inl fl))]) [0, 1, 2] rfl
  have hDc := hD.part (cx := [(hf, .inr (2, [.int dp, .ref qp, .ref qe, .ref ql, .int (nI lo), .int (nI le)])), (qp, .inl (cO, b, .inr (.inr (.inr (.inr fp))))), (ql, .inl (cI, b, .inl fl))]) [0, 1, 2] (by decide) rfl
  have hFc := va_freeP (cx := [(hf, .inr (2, [.int dp, .ref qp, .ref qe, .ref ql, .int (nI lo), .int (nI le)])), (qp, .inl (cO, b, .inr (.inr (.inr (.inr fp))))), (ql, .inl (cI, b, .inl fl))]) hD hS hA [0, 1, 2] rfl
  have hKc := hK.sub (tys' := [(cO, .object RX4), (cI, .int)]) [0, 1] rfl
  refine va_callr (va_runV (As := [.int z_1]) (rest := []) ⟨hx, hb, hml, hown, hts⟩ (c_X2_inLine l dC dI s.heap.size hf qp qe ql b lo le dp cO fp G Pg cI S z_1 fl (by first | assumption | omega | decide) (by first | assumption | omega | decide) (by first | assumption | omega | decide) (by first | assumption | omega | decide) (by first | assumption | omega | decide) (by first | assumption | omega | decide) (by first | assumption | omega | decide)) (cwV 1 hts g_X2_leaf_X2_inLine rfl rfl rfl (by decide +kernel) ⟨Nat.le_of_ble_eq_true rfl, Nat.le_of_ble_eq_true rfl⟩) ⟨fun a U g mk q => by obtain ⟨q0, q1, qP, qK, qD⟩ := q; exact ⟨q0, q1, qP, va_K.moved (u := U) (U := U.calling g mk a) (Vm.Alike.refl U.vm) qK, qD⟩, va_recv hKc hPc (ci := 2) (q0 := 0) rfl rfl, fun U hU hW => ⟨rfl, by rw [hU], by rw [hU]; exact hPc, va_K.moved hW.alike hKc, hDc.weaken (fun _ _ _ _ => trivial)⟩⟩ rfl rfl hl.1 rfl (lv_room (Nat.le_of_ble_eq_true rfl)) dX2_leaf_7 ⟨(show 0 + 0 ≤ 0 by omega), (show 0 + 0 ≤ 0 by omega)⟩) hS (fun q _ h => hFc q h) hFc (fun u r_2 t H1 locs ht hvm hw hB hz1 hk1 hS => ?_)
  obtain ⟨a_3, rfl⟩ : ∃ z, z = u := ⟨_, rfl⟩
  obtain ⟨hra, hP1, hK1, hD1⟩ := hB
  have hra := hra.symm
  subst hra
  rw [ht] at hP1
  have hK1 := va_K.moved hvm.symm hK1
  try dsimp only at hw
  obtain ⟨hP, hD⟩ := va_joinP (wr := []) (rx := [(hf, .inr (2, [.int dp, .ref qp, .ref qe, .ref ql, .int (nI lo), .int (nI le)])), (qp, .inl (cO, b, .inr (.inr (.inr (.inr fp))))), (ql, .inl (cI, b, .inl fl))]) (pl1 := pool G cI Pg S) hP hD [0, 1, 2] [] rfl rfl (by decide) (by decide) hk1 hFc hP1 hD1
  have hK := (hK.sub (tys' := [(cO, .object RX4), (cI, .int)]) [0, 1] rfl).app hK1
  have hK : va_K (dC, dI) vwCl [(cO, .object RX4), (cI, .int)] s := hK.sub [0, 1] rfl
  generalize H1 = H at hP hS ⊢
  have hP : va_P (dC, dI) vwCl ([(hf, .inr (2, [.int dp, .ref qp, .ref qe, .ref ql, .int (nI lo), .int (nI le)])), (qp, .inl (cO, b, .inr (.inr (.inr (.inr fp))))), (ql, .inl (cI, b, .inl fl))] ++ pool G cI Pg S) H := hP
  have hD : va_D A ([(hf, .inr (2, [.int dp, .ref qp, .ref qe, .ref ql, .int (nI lo), .int (nI le)])), (qp, .inl (cO, b, .inr (.inr (.inr (.inr fp))))), (ql, .inl (cI, b, .inl fl))] ++ pool G cI Pg S) := hD
  have hK : va_K (dC, dI) vwCl [(cO, .object RX4), (cI, .int)] s := hK
  have hm_a_3 := hw.1
  have ht_a_3 := hw.2
  have hP9 := hP.part (cx := [(hf, .inr (2, [.int dp, .ref qp, .ref qe, .ref ql, .int (nI lo), .int (nI le)])), (qp, .inl (cO, b, .inr (.inr (.inr (.inr fp))))), (ql, .inl (cI, b, .inl fl))]) [0, 1, 2] rfl
  have hD9 := hD.part (cx := [(hf, .inr (2, [.int dp, .ref qp, .ref qe, .ref ql, .int (nI lo), .int (nI le)])), (qp, .inl (cO, b, .inr (.inr (.inr (.inr fp))))), (ql, .inl (cI, b, .inl fl))]) [0, 1, 2] (by decide) rfl
  have hK9 := hK.sub (tys' := [(cO, .object RX4), (cI, .int)]) [0, 1] rfl
  exact W.aret (v := .ref a_3) hx hb hr (Or.inl ⟨_, rfl⟩) (Or.inr ⟨_, rfl⟩) (fun t ht hW => ⟨⟨(a_3), a_3, rfl, ⟨hm_a_3, ht_a_3⟩, rfl, by rw [ht]; exact hP9, va_K.moved hW.alike hK9, hD9⟩, hS.F ht⟩) hS.2.2 dX2_leaf_10
def v_X2_walk : List Cond := .code yX2_walk cX2_walk 4 none :: ([.fieldLink RX2 43 "TwinRoots$Forest" "depth" "I", .fieldLink RX2 47 "TwinRoots$Forest" "lowestLevel" "I", .fieldLink RX2 50 "TwinRoots$Forest" "lineEnd" "I", .code yX2_lineUp cX2_lineUp 2 none, .fieldLink RX2 24 "TwinRoots$Forest" "line" "[I", .methodLink RX2 53 yX2_lineUp, .instanceMethod yX2_lineUp, .selects RX2 yX2_lineUp yX2_lineUp, .initialized RX2, .code yX2_inLine cX2_inLine 2 (some (.object "TwinRoots$Page")), .fieldLink RX2 20 "TwinRoots$Forest" "empty" "LTwinRoots$Page;", .code yX2_page cX2_page 2 (some (.object "TwinRoots$Page")), .fieldLink RX2 11 "TwinRoots$Forest" "pages" "[LTwinRoots$Page;", .methodLink RX2 28 yX2_page, .instanceMethod yX2_page, .selects RX2 yX2_page yX2_page, .methodLink RX2 56 yX2_inLine, .instanceMethod yX2_inLine, .selects RX2 yX2_inLine yX2_inLine, .fieldLink RX2 32 "TwinRoots$Page" "leaf" "Z", .code yX2_lineUpChildren cX2_lineUpChildren 3 none, .fieldLink RX2 63 "TwinRoots$Page" "many" "I", .code yX4_refAt cX4_refAt 2 (some .int), .fieldLink RX4 22 "TwinRoots$Page" "many" "I", .fieldLink RX4 19 "TwinRoots$Page" "refs" "[I", .methodLink RX2 40 yX4_refAt, .instanceMethod yX4_refAt, .selects RX4 yX4_refAt yX4_refAt, .initialized RX4, .methodLink RX2 59 yX2_lineUpChildren, .instanceMethod yX2_lineUpChildren, .selects RX2 yX2_lineUpChildren yX2_lineUpChildren] ++ (wsX20 ++ (wsX40 ++ ([]))))
set_option maxRecDepth 20000 in
theorem g_X2_walk_X2_lineUp : GoodIn v_X2_walk (wsV RX2 53 RX2 yX2_lineUp v_X2_lineUp) := goodIn_r _ [6, 7, 8, 9, 4, 3, 5, 33, 34, 35, 36, 37, 38] (by decide +kernel) (by decide +kernel)
set_option maxRecDepth 20000 in
theorem g_X2_walk_X2_inLine : GoodIn v_X2_walk (wsV RX2 56 RX2 yX2_inLine v_X2_inLine) := goodIn_r _ [17, 18, 19, 9, 10, 11, 3, 5, 12, 13, 14, 15, 16, 9, 33, 34, 35, 36, 37, 38] (by decide +kernel) (by decide +kernel)
set_option maxRecDepth 20000 in
theorem g_X2_walk_X2_lineUpChildren : GoodIn v_X2_walk (wsV RX2 59 RX2 yX2_lineUpChildren v_X2_lineUpChildren) := goodIn_r _ [30, 31, 32, 9, 21, 22, 23, 24, 25, 26, 27, 28, 29, 4, 3, 5, 6, 7, 8, 9, 39, 40, 41, 42, 33, 34, 35, 36, 37, 38] (by decide +kernel) (by decide +kernel)
set_option maxHeartbeats 4000000 in
set_option maxRecDepth 100000 in
/-- walk -/
theorem c_X2_walk (l : Launch) (dC : Nat → ClassId) (dI : Nat → Nat → Nat) (sz : Nat) (hf : Nat) (qp : Nat) (qe : Nat) (ql : Nat) (b : Nat) (dp : Int32) (x1 : Int32) (x2 : Int32) (p0 : Int32) (cO : ClassId) (fp : Nat → Option Nat) (G : pgG) (Pg : List Nat) (cI : ClassId) (S : pgS) (fl : Nat → Int32) (zb : b ≤ 64) (hI : pgI G Pg S) (hpg : ∀ i, i < b → ∃ a, a ∈ Pg ∧ (G a).2.2.2 = 0 ∧ fp i = some a) (hm_qe : qe ∈ Pg) (ht_qe : (G qe).2.2.2 = 0) : Met l yX2_walk v_X2_walk ({ frames := 2, cells := 0, slots := 0, locals := 43 } : Room) (va_Pc [.ref hf, .int p0] (fun U => U.heap.size = sz ∧ va_P (dC, dI) vwCl ([(hf, .inr (2, [.int dp, .ref qp, .ref qe, .ref ql, .int x1, .int x2])), (qp, .inl (cO, b, .inr (.inr (.inr (.inr fp))))), (ql, .inl (cI, b, .inl fl))] ++ pool G cI Pg S) U.heap ∧ va_K (dC, dI) vwCl [(cO, .object RX4), (cI, .int)] U ∧ va_D (fun _ => True) ([(hf, .inr (2, [.int dp, .ref qp, .ref qe, .ref ql, .int x1, .int x2])), (qp, .inl (cO, b, .inr (.inr (.inr (.inr fp))))), (ql, .inl (cI, b, .inl fl))] ++ pool G cI Pg S))) (va_Qv (fun (u : Int32 × Nat × Nat × (Nat → Int32)) => match u with | (dp2, lo2, le2, fl2) => lo2 ≤ le2 ∧ le2 ≤ b) (fun (u : Int32 × Nat × Nat × (Nat → Int32)) (t : State) => match u with | (dp2, lo2, le2, fl2) => va_P (dC, dI) vwCl ([(hf, .inr (2, [.int dp2, .ref qp, .ref qe, .ref ql, .int (nI lo2), .int (nI le2)])), (qp, .inl (cO, b, .inr (.inr (.inr (.inr fp))))), (ql, .inl (cI, b, .inl fl2))] ++ pool G cI Pg S) t.heap ∧ va_K (dC, dI) vwCl [(cO, .object RX4), (cI, .int)] t ∧ va_D (va_A ([(hf, .inr (2, [.int dp, .ref qp, .ref qe, .ref ql, .int x1, .int x2])), (qp, .inl (cO, b, .inr (.inr (.inr (.inr fp))))), (ql, .inl (cI, b, .inl fl))] ++ pool G cI Pg S) sz) ([(hf, .inr (2, [.int dp2, .ref qp, .ref qe, .ref ql, .int (nI lo2), .int (nI le2)])), (qp, .inl (cO, b, .inr (.inr (.inr (.inr fp))))), (ql, .inl (cI, b, .inl fl2))] ++ pool G cI Pg S)) (va_A ([(hf, .inr (2, [.int dp, .ref qp, .ref qe, .ref ql, .int x1, .int x2])), (qp, .inl (cO, b, .inr (.inr (.inr (.inr fp))))), (ql, .inl (cI, b, .inl fl))] ++ pool G cI Pg S) sz)) 0 0 (va_A ([(hf, .inr (2, [.int dp, .ref qp, .ref qe, .ref ql, .int x1, .int x2])), (qp, .inl (cO, b, .inr (.inr (.inr (.inr fp))))), (ql, .inl (cI, b, .inl fl))] ++ pool G cI Pg S) sz) := by
  refine Met.ofW (cc := cX2_walk) (maxL := 4) (ret := none) (by decide) rfl ?_
  intro p e s m args below meth c s₁ B hml hv
  obtain ⟨rfl, hsz, hP, hK, hD0⟩ := hv
  have hx := B.exec
  have hb := B.bytes
  have hr := B.returns
  have hts := atoms_spec (ws := v_X2_walk) B.pre
  have hown : s.vm.findClass RX2 = some m.cls := findClass_of_methodNamed B.named
  have hlocks := B.notSynchronized
  subst hsz
  have hD := hD0.self (sz := s.heap.size)
  generalize hAe : va_A ([(hf, .inr (2, [.int dp, .ref qp, .ref qe, .ref ql, .int x1, .int x2])), (qp, .inl (cO, b, .inr (.inr (.inr (.inr fp))))), (ql, .inl (cI, b, .inl fl))] ++ pool G cI Pg S) s.heap.size = A at hD ⊢
  have hA : ∀ q : Nat, s.heap.size ≤ q → A q := fun q h => by rw [← hAe]; exact Or.inr h
  have hS : va_S A s.heap s.heap [] := va_S.rf
  have hP : va_P (dC, dI) vwCl ([(hf, .inr (2, [.int dp, .ref qp, .ref qe, .ref ql, .int x1, .int x2])), (qp, .inl (cO, b, .inr (.inr (.inr (.inr fp))))), (ql, .inl (cI, b, .inl fl))] ++ pool G cI Pg S) s.heap := hP
  have hl := lv_entry ([.ref hf, .int p0]) (n := 4) (Nat.le_of_ble_eq_true rfl)
  rw [lg_entry_eq]
  generalize (lg_sl ([.ref hf, .int p0]) ++ List.replicate (4 - (lg_sl ([.ref hf, .int p0])).length) Slot.unset).toArray = ls at hl ⊢
  have hl : lv_has ls 4 [(0, .ref hf), (1, .int p0)] := hl
  have k_1 := (fun _ h => List.mem_cons_of_mem _ (List.mem_append_right _ (List.mem_append_left _ h)) : ∀ w ∈ wsX20, w ∈ v_X2_walk)
  have k_2 := hts (.fieldLink RX2 43 "TwinRoots$Forest" "depth" "I") (List.mem_of_getElem? (i := 1) rfl)
  have k_3 := hts (.fieldLink RX2 47 "TwinRoots$Forest" "lowestLevel" "I") (List.mem_of_getElem? (i := 2) rfl)
  have k_4 := hts (.fieldLink RX2 50 "TwinRoots$Forest" "lineEnd" "I") (List.mem_of_getElem? (i := 3) rfl)
  have k_5 := (fun _ h => List.mem_cons_of_mem _ (List.mem_append_right _ (List.mem_append_right _ (List.mem_append_left _ h))) : ∀ w ∈ wsX40, w ∈ v_X2_walk)
  have k_6 := hts (.fieldLink RX2 32 "TwinRoots$Page" "leaf" "Z") (List.mem_of_getElem? (i := 20) rfl)
  refine lv_aload_n hx hb dX2_walk_0 rfl (lv_at hl 0 rfl) ?_
  refine lv_iconst (v := 0) hx hb dX2_walk_1 (by decide) ?_
  refine va_put (D := (dC, dI)) (ci := 2) (v := .int 0) (ty := .int) (C := RX2) (T := TX2) (N := 6) hx hb hts k_1 tyX2 tyX2_ok nmX2 hown hK hP hD hS 0 rfl rfl 0 (by decide) k_2 (fun _ h9 => h9) rfl (by decide +kernel) rfl rfl (Nat.le_of_ble_eq_true rfl) dX2_walk_2 (fun H locs hP hD hS => ?_)
  have hP : va_P (dC, dI) vwCl ([(hf, .inr (2, [.int 0, .ref qp, .ref qe, .ref ql, .int x1, .int x2])), (qp, .inl (cO, b, .inr (.inr (.inr (.inr fp))))), (ql, .inl (cI, b, .inl fl))] ++ pool G cI Pg S) H := hP
  have hD : va_D A ([(hf, .inr (2, [.int 0, .ref qp, .ref qe, .ref ql, .int x1, .int x2])), (qp, .inl (cO, b, .inr (.inr (.inr (.inr fp))))), (ql, .inl (cI, b, .inl fl))] ++ pool G cI Pg S) := hD
  refine lv_aload_n hx hb dX2_walk_5 rfl (lv_at hl 0 rfl) ?_
  refine lv_iconst (v := 0) hx hb dX2_walk_6 (by decide) ?_
  refine va_put (D := (dC, dI)) (ci := 2) (v := .int 0) (ty := .int) (C := RX2) (T := TX2) (N := 6) hx hb hts k_1 tyX2 tyX2_ok nmX2 hown hK hP hD hS 0 rfl rfl 4 (by decide) k_3 (fun _ h9 => h9) rfl (by decide +kernel) rfl rfl (Nat.le_of_ble_eq_true rfl) dX2_walk_7 (fun H locs hP hD hS => ?_)
  have hP : va_P (dC, dI) vwCl ([(hf, .inr (2, [.int 0, .ref qp, .ref qe, .ref ql, .int 0, .int x2])), (qp, .inl (cO, b, .inr (.inr (.inr (.inr fp))))), (ql, .inl (cI, b, .inl fl))] ++ pool G cI Pg S) H := hP
  have hD : va_D A ([(hf, .inr (2, [.int 0, .ref qp, .ref qe, .ref ql, .int 0, .int x2])), (qp, .inl (cO, b, .inr (.inr (.inr (.inr fp))))), (ql, .inl (cI, b, .inl fl))] ++ pool G cI Pg S) := hD
  refine lv_aload_n hx hb dX2_walk_10 rfl (lv_at hl 0 rfl) ?_
  refine lv_iconst (v := 0) hx hb dX2_walk_11 (by decide) ?_
  refine va_put (D := (dC, dI)) (ci := 2) (v := .int 0) (ty := .int) (C := RX2) (T := TX2) (N := 6) hx hb hts k_1 tyX2 tyX2_ok nmX2 hown hK hP hD hS 0 rfl rfl 5 (by decide) k_4 (fun _ h9 => h9) rfl (by decide +kernel) rfl rfl (Nat.le_of_ble_eq_true rfl) dX2_walk_12 (fun H locs hP hD hS => ?_)
  have hP : va_P (dC, dI) vwCl ([(hf, .inr (2, [.int 0, .ref qp, .ref qe, .ref ql, .int 0, .int 0])), (qp, .inl (cO, b, .inr (.inr (.inr (.inr fp))))), (ql, .inl (cI, b, .inl fl))] ++ pool G cI Pg S) H := hP
  have hD : va_D A ([(hf, .inr (2, [.int 0, .ref qp, .ref qe, .ref ql, .int 0, .int 0])), (qp, .inl (cO, b, .inr (.inr (.inr (.inr fp))))), (ql, .inl (cI, b, .inl fl))] ++ pool G cI Pg S) := hD
  refine lv_iload_n hx hb dX2_walk_15 rfl (lv_at hl 1 rfl) ?_
  refine lv_if_ne (tgt := 20) hx hb dX2_walk_16 (by decide) (fun c_1 => ?_) (fun c_1 => ?_)
  · refine lv_aload_n hx hb dX2_walk_20 rfl (lv_at hl 0 rfl) ?_
    refine lv_iload_n hx hb dX2_walk_21 rfl (lv_at hl 1 rfl) ?_
    have hPc := hP.sub (ws' := [(hf, .inr (2, [.int 0, .ref qp, .ref qe, .ref ql, .int 0, .int 0])), (ql, .inl (cI, b, .inl fl))]) [0, 2] rfl
    have hDc := hD.sub (ws' := [(hf, .inr (2, [.int 0, .ref qp, .ref qe, .ref ql, .int 0, .int 0])), (ql, .inl (cI, b, .inl fl))]) [0, 2] (by decide) rfl
    have hKc := hK.sub (tys' := [(cI, .int)]) [1] rfl
    have hFc := va_free (wc := [(hf, .inr (2, [.int 0, .ref qp, .ref qe, .ref ql, .int 0, .int 0])), (ql, .inl (cI, b, .inl fl))]) hD hS hA [0, 2] rfl
    refine va_callv (va_runV (As := [.int p0]) (rest := []) ⟨hx, hb, hml, hown, hts⟩ (c_X2_lineUp l dC dI H.size hf qp qe ql b 0 0 0 p0 cI fl (by first | assumption | omega | decide) (by first | assumption | omega | decide)) (cwV 1 hts g_X2_walk_X2_lineUp rfl rfl rfl (by decide +kernel) ⟨Nat.le_of_ble_eq_true rfl, Nat.le_of_ble_eq_true rfl⟩) ⟨fun a U g mk q => by obtain ⟨q0, q1, qP, qK, qD⟩ := q; exact ⟨q0, q1, qP, va_K.moved (u := U) (U := U.calling g mk a) (Vm.Alike.refl U.vm) qK, qD⟩, va_recv hKc hPc (ci := 2) (q0 := 0) rfl rfl, fun U hU hW => ⟨rfl, by rw [hU], by rw [hU]; exact hPc, va_K.moved hW.alike hKc, hDc.weaken (fun _ _ _ _ => trivial)⟩⟩ rfl rfl hl.1 rfl (lv_room (Nat.le_of_ble_eq_true rfl)) dX2_walk_22 ⟨(show 0 + 0 ≤ 0 by omega), (show 0 + 0 ≤ 0 by omega)⟩) hS (fun q _ h => hFc q h) hFc (fun u t H1 locs ht hvm hw hB hz1 hk1 hS => ?_)
    obtain ⟨le2_3, fl2_4⟩ := u
    obtain ⟨hP1, hK1, hD1⟩ := hB
    rw [ht] at hP1
    have hK1 := va_K.moved hvm.symm hK1
    try dsimp only at hw
    obtain ⟨hP, hD⟩ := va_joinQ (wr := [(qp, .inl (cO, b, .inr (.inr (.inr (.inr fp)))))]) (w1 := [(hf, .inr (2, [.int 0, .ref qp, .ref qe, .ref ql, .int (nI 0), .int (nI le2_3)])), (ql, .inl (cI, b, .inl fl2_4))]) hP hD [0, 2] [1] rfl rfl (by decide) (by decide) hk1 hFc hP1 hD1
    have hK := (hK.sub (tys' := [(cO, .object RX4), (cI, .int)]) [0, 1] rfl).app hK1
    have hK : va_K (dC, dI) vwCl [(cO, .object RX4), (cI, .int)] s := hK.sub [0, 1] rfl
    generalize H1 = H at hP hS ⊢
    have hP : va_P (dC, dI) vwCl ([(qp, .inl (cO, b, .inr (.inr (.inr (.inr fp))))), (hf, .inr (2, [.int 0, .ref qp, .ref qe, .ref ql, .int (nI 0), .int (nI le2_3)])), (ql, .inl (cI, b, .inl fl2_4))] ++ pool G cI Pg S) H := hP
    have hD : va_D A ([(qp, .inl (cO, b, .inr (.inr (.inr (.inr fp))))), (hf, .inr (2, [.int 0, .ref qp, .ref qe, .ref ql, .int (nI 0), .int (nI le2_3)])), (ql, .inl (cI, b, .inl fl2_4))] ++ pool G cI Pg S) := hD
    have hK : va_K (dC, dI) vwCl [(cO, .object RX4), (cI, .int)] s := hK
    have hw_r_2 := hw
    refine lv_aload_n hx hb dX2_walk_25 rfl (lv_at hl 0 rfl) ?_
    refine lv_iconst (v := 1) hx hb dX2_walk_26 (by decide) ?_
    refine va_put (D := (dC, dI)) (ci := 2) (v := .int 1) (ty := .int) (C := RX2) (T := TX2) (N := 6) hx hb hts k_1 tyX2 tyX2_ok nmX2 hown hK hP hD hS 1 rfl rfl 0 (by decide) k_2 (fun _ h9 => h9) rfl (by decide +kernel) rfl rfl (Nat.le_of_ble_eq_true rfl) dX2_walk_27 (fun H locs hP hD hS => ?_)
    have hP : va_P (dC, dI) vwCl ([(qp, .inl (cO, b, .inr (.inr (.inr (.inr fp))))), (hf, .inr (2, [.int 1, .ref qp, .ref qe, .ref ql, .int (nI 0), .int (nI le2_3)])), (ql, .inl (cI, b, .inl fl2_4))] ++ pool G cI Pg S) H := hP
    have hD : va_D A ([(qp, .inl (cO, b, .inr (.inr (.inr (.inr fp))))), (hf, .inr (2, [.int 1, .ref qp, .ref qe, .ref ql, .int (nI 0), .int (nI le2_3)])), (ql, .inl (cI, b, .inl fl2_4))] ++ pool G cI Pg S) := hD
    have loop_30 : ∀ (Q : State → Prop), (∀ (i : Nat) (lov : Nat) (lev : Nat) (fv : Nat → Int32) (H : Heap) (locs : List Loc) (ls : Array Slot), i ≤ 12 → (lov ≤ lev) → (lev ≤ b) → va_P (dC, dI) vwCl ([(hf, .inr (2, [.int (nI i), .ref qp, .ref qe, .ref ql, .int (nI lov), .int (nI lev)])), (qp, .inl (cO, b, .inr (.inr (.inr (.inr fp))))), (ql, .inl (cI, b, .inl fv))] ++ pool G cI Pg S) H → va_D A ([(hf, .inr (2, [.int (nI i), .ref qp, .ref qe, .ref ql, .int (nI lov), .int (nI lev)])), (qp, .inl (cO, b, .inr (.inr (.inr (.inr fp))))), (ql, .inl (cI, b, .inl fv))] ++ pool G cI Pg S) → va_S A s.heap H locs → lv_has ls 4 [(0, .ref hf), (1, .int p0)] → W p l e (headSpec v_X2_walk ({ frames := 2, cells := 0, slots := 0, locals := 43 } : Room)).room s m ([.ref hf, .int p0] : List Value).toArray below meth c H locs 0 0 Q (F0 m 101 ls [])) → ∀ (nf i : Nat) (lov : Nat) (lev : Nat) (fv : Nat → Int32) (H : Heap) (locs : List Loc) (ls : Array Slot), i ≤ 12 → 12 + 1 ≤ i + nf → (lov ≤ lev) → (lev ≤ b) → va_P (dC, dI) vwCl ([(hf, .inr (2, [.int (nI i), .ref qp, .ref qe, .ref ql, .int (nI lov), .int (nI lev)])), (qp, .inl (cO, b, .inr (.inr (.inr (.inr fp))))), (ql, .inl (cI, b, .inl fv))] ++ pool G cI Pg S) H → va_D A ([(hf, .inr (2, [.int (nI i), .ref qp, .ref qe, .ref ql, .int (nI lov), .int (nI lev)])), (qp, .inl (cO, b, .inr (.inr (.inr (.inr fp))))), (ql, .inl (cI, b, .inl fv))] ++ pool G cI Pg S) → va_S A s.heap H locs → lv_has ls 4 [(0, .ref hf), (1, .int p0)] → W p l e (headSpec v_X2_walk ({ frames := 2, cells := 0, slots := 0, locals := 43 } : Room)).room s m ([.ref hf, .int p0] : List Value).toArray below meth c H locs 0 0 Q (F0 m 30 ls []) := by
      intro Q kx nf
      induction nf with
      | zero =>
        intro i lov lev fv H locs ls h1 h2
        exact absurd h2 (by omega)
      | succ nf ih =>
        intro i lov lev fv H locs ls hi hn h_a h_b hP hD hS hl
        refine lv_aload_n hx hb dX2_walk_30 rfl (lv_at hl 0 rfl) ?_
        refine va_get (D := (dC, dI)) (ci := 2) (v := .int (nI i)) (C := RX2) (T := TX2) (N := 6) hx hb hts k_1 hown hK hP 0 rfl rfl 0 (by decide) k_2 (fun _ h9 => h9) rfl dX2_walk_31 ?_
        refine lv_bipush (v := 12) hx hb dX2_walk_34 (by decide) ?_
        refine lv_icmp_ge (tgt := 101) hx hb dX2_walk_36 (by decide) (fun c_5 => ?_) (fun c_5 => ?_)
        · exact kx i lov lev fv _ _ _ (by omega) h_a h_b hP hD hS (lv_sub hl [0, 1] rfl)
        · have hlt : i < 12 := Nat.lt_of_not_le (fun h => c_5 (nI_le h (by omega)))
          refine lv_aload_n hx hb dX2_walk_39 rfl (lv_at hl 0 rfl) ?_
          refine lv_aload_n hx hb dX2_walk_40 rfl (lv_at hl 0 rfl) ?_
          refine va_get (D := (dC, dI)) (ci := 2) (v := .int (nI lov)) (C := RX2) (T := TX2) (N := 6) hx hb hts k_1 hown hK hP 0 rfl rfl 4 (by decide) k_3 (fun _ h9 => h9) rfl dX2_walk_41 ?_
          have hPc := hP.part (cx := [(hf, .inr (2, [.int (nI i), .ref qp, .ref qe, .ref ql, .int (nI lov), .int (nI lev)])), (qp, .inl (cO, b, .inr (.inr (.inr (.inr fp))))), (ql, .inl (cI, b, .inl fv))]) [0, 1, 2] rfl
          have hDc := hD.part (cx := [(hf, .inr (2, [.int (nI i), .ref qp, .ref qe, .ref ql, .int (nI lov), .int (nI lev)])), (qp, .inl (cO, b, .inr (.inr (.inr (.inr fp))))), (ql, .inl (cI, b, .inl fv))]) [0, 1, 2] (by decide) rfl
          have hFc := va_freeP (cx := [(hf, .inr (2, [.int (nI i), .ref qp, .ref qe, .ref ql, .int (nI lov), .int (nI lev)])), (qp, .inl (cO, b, .inr (.inr (.inr (.inr fp))))), (ql, .inl (cI, b, .inl fv))]) hD hS hA [0, 1, 2] rfl
          have hKc := hK.sub (tys' := [(cO, .object RX4), (cI, .int)]) [0, 1] rfl
          refine va_callr (va_runV (As := [.int (nI lov)]) (rest := []) ⟨hx, hb, hml, hown, hts⟩ (c_X2_inLine l dC dI H.size hf qp qe ql b lov lev (nI i) cO fp G Pg cI S (nI lov) fv (by first | assumption | omega | decide) (by first | assumption | omega | decide) (by first | assumption | omega | decide) (by first | assumption | omega | decide) (by first | assumption | omega | decide) (by first | assumption | omega | decide) (by first | assumption | omega | decide)) (cwV 1 hts g_X2_walk_X2_inLine rfl rfl rfl (by decide +kernel) ⟨Nat.le_of_ble_eq_true rfl, Nat.le_of_ble_eq_true rfl⟩) ⟨fun a U g mk q => by obtain ⟨q0, q1, qP, qK, qD⟩ := q; exact ⟨q0, q1, qP, va_K.moved (u := U) (U := U.calling g mk a) (Vm.Alike.refl U.vm) qK, qD⟩, va_recv hKc hPc (ci := 2) (q0 := 0) rfl rfl, fun U hU hW => ⟨rfl, by rw [hU], by rw [hU]; exact hPc, va_K.moved hW.alike hKc, hDc.weaken (fun _ _ _ _ => trivial)⟩⟩ rfl rfl hl.1 rfl (lv_room (Nat.le_of_ble_eq_true rfl)) dX2_walk_44 ⟨(show 0 + 0 ≤ 0 by omega), (show 0 + 0 ≤ 0 by omega)⟩) hS (fun q _ h => hFc q h) hFc (fun u r_6 t H1 locs ht hvm hw hB hz1 hk1 hS => ?_)
          obtain ⟨a_7, rfl⟩ : ∃ z, z = u := ⟨_, rfl⟩
          obtain ⟨hra, hP1, hK1, hD1⟩ := hB
          have hra := hra.symm
          subst hra
          rw [ht] at hP1
          have hK1 := va_K.moved hvm.symm hK1
          try dsimp only at hw
          obtain ⟨hP, hD⟩ := va_joinP (wr := []) (rx := [(hf, .inr (2, [.int (nI i), .ref qp, .ref qe, .ref ql, .int (nI lov), .int (nI lev)])), (qp, .inl (cO, b, .inr (.inr (.inr (.inr fp))))), (ql, .inl (cI, b, .inl fv))]) (pl1 := pool G cI Pg S) hP hD [0, 1, 2] [] rfl rfl (by decide) (by decide) hk1 hFc hP1 hD1
          have hK := (hK.sub (tys' := [(cO, .object RX4), (cI, .int)]) [0, 1] rfl).app hK1
          have hK : va_K (dC, dI) vwCl [(cO, .object RX4), (cI, .int)] s := hK.sub [0, 1] rfl
          generalize H1 = H at hP hS ⊢
          have hP : va_P (dC, dI) vwCl ([(hf, .inr (2, [.int (nI i), .ref qp, .ref qe, .ref ql, .int (nI lov), .int (nI lev)])), (qp, .inl (cO, b, .inr (.inr (.inr (.inr fp))))), (ql, .inl (cI, b, .inl fv))] ++ pool G cI Pg S) H := hP
          have hD : va_D A ([(hf, .inr (2, [.int (nI i), .ref qp, .ref qe, .ref ql, .int (nI lov), .int (nI lev)])), (qp, .inl (cO, b, .inr (.inr (.inr (.inr fp))))), (ql, .inl (cI, b, .inl fv))] ++ pool G cI Pg S) := hD
          have hK : va_K (dC, dI) vwCl [(cO, .object RX4), (cI, .int)] s := hK
          have hm_a_7 := hw.1
          have ht_a_7 := hw.2
          obtain ⟨k9, hk9⟩ := pool_at (G := G) (cI := cI) (S := S) [(hf, .inr (2, [.int (nI i), .ref qp, .ref qe, .ref ql, .int (nI lov), .int (nI lev)])), (qp, .inl (cO, b, .inr (.inr (.inr (.inr fp))))), (ql, .inl (cI, b, .inl fv))] hm_a_7
          refine va_get (D := (dC, dI)) (ci := 4) (v := .int (S a_7).1) (C := RX4) (T := TX4) (N := 4) hx hb hts k_5 hown hK hP k9 hk9 rfl 0 (by decide) k_6 (fun _ h9 => h9) rfl dX2_walk_47 ?_
          refine lv_if_ne (tgt := 101) hx hb dX2_walk_50 (by decide) (fun c_8 => ?_) (fun c_8 => ?_)
          · exact kx i lov lev fv _ _ _ (by omega) h_a h_b hP hD hS (lv_sub hl [0, 1] rfl)
          · refine lv_aload_n hx hb dX2_walk_53 rfl (lv_at hl 0 rfl) ?_
            refine va_get (D := (dC, dI)) (ci := 2) (v := .int (nI lev)) (C := RX2) (T := TX2) (N := 6) hx hb hts k_1 hown hK hP 0 rfl rfl 5 (by decide) k_4 (fun _ h9 => h9) rfl dX2_walk_54 ?_
            refine lv_istore_n (lv' := [(2, .int (nI lev)), (0, .ref hf), (1, .int p0)]) hx hb dX2_walk_57 rfl hl (by decide) rfl (fun ls hl => ?_)
            refine lv_aload_n hx hb dX2_walk_58 rfl (lv_at hl 1 rfl) ?_
            refine va_get (D := (dC, dI)) (ci := 2) (v := .int (nI lov)) (C := RX2) (T := TX2) (N := 6) hx hb hts k_1 hown hK hP 0 rfl rfl 4 (by decide) k_3 (fun _ h9 => h9) rfl dX2_walk_59 ?_
            refine lv_istore_n (lv' := [(3, .int (nI lov)), (2, .int (nI lev)), (0, .ref hf), (1, .int p0)]) hx hb dX2_walk_62 rfl hl (by decide) rfl (fun ls hl => ?_)
            have loop_63 : ∀ (Q : State → Prop), (∀ (j : Nat) (le9 : Nat) (fw : Nat → Int32) (H : Heap) (locs : List Loc) (ls : Array Slot), j ≤ lev → (lev ≤ le9) → (le9 ≤ b) → va_P (dC, dI) vwCl ([(hf, .inr (2, [.int (nI i), .ref qp, .ref qe, .ref ql, .int (nI lov), .int (nI le9)])), (qp, .inl (cO, b, .inr (.inr (.inr (.inr fp))))), (ql, .inl (cI, b, .inl fw))] ++ pool G cI Pg S) H → va_D A ([(hf, .inr (2, [.int (nI i), .ref qp, .ref qe, .ref ql, .int (nI lov), .int (nI le9)])), (qp, .inl (cO, b, .inr (.inr (.inr (.inr fp))))), (ql, .inl (cI, b, .inl fw))] ++ pool G cI Pg S) → va_S A s.heap H locs → lv_has ls 4 [(0, .ref hf), (1, .int p0), (2, .int (nI lev)), (3, .int (nI j))] → W p l e (headSpec v_X2_walk ({ frames := 2, cells := 0, slots := 0, locals := 43 } : Room)).room s m ([.ref hf, .int p0] : List Value).toArray below meth c H locs 0 0 Q (F0 m 83 ls [])) → ∀ (nf j : Nat) (le9 : Nat) (fw : Nat → Int32) (H : Heap) (locs : List Loc) (ls : Array Slot), j ≤ lev → lev + 1 ≤ j + nf → (lev ≤ le9) → (le9 ≤ b) → va_P (dC, dI) vwCl ([(hf, .inr (2, [.int (nI i), .ref qp, .ref qe, .ref ql, .int (nI lov), .int (nI le9)])), (qp, .inl (cO, b, .inr (.inr (.inr (.inr fp))))), (ql, .inl (cI, b, .inl fw))] ++ pool G cI Pg S) H → va_D A ([(hf, .inr (2, [.int (nI i), .ref qp, .ref qe, .ref ql, .int (nI lov), .int (nI le9)])), (qp, .inl (cO, b, .inr (.inr (.inr (.inr fp))))), (ql, .inl (cI, b, .inl fw))] ++ pool G cI Pg S) → va_S A s.heap H locs → lv_has ls 4 [(0, .ref hf), (1, .int p0), (2, .int (nI lev)), (3, .int (nI j))] → W p l e (headSpec v_X2_walk ({ frames := 2, cells := 0, slots := 0, locals := 43 } : Room)).room s m ([.ref hf, .int p0] : List Value).toArray below meth c H locs 0 0 Q (F0 m 63 ls []) := by
              intro Q kx nf
              induction nf with
              | zero =>
                intro j le9 fw H locs ls h1 h2
                exact absurd h2 (by omega)
              | succ nf ih =>
                intro j le9 fw H locs ls hi hn h_c h_d hP hD hS hl
                refine lv_iload_n hx hb dX2_walk_63 rfl (lv_at hl 3 rfl) ?_
                refine lv_iload_n hx hb dX2_walk_64 rfl (lv_at hl 2 rfl) ?_
                refine lv_icmp_ge (tgt := 83) hx hb dX2_walk_65 (by decide) (fun c_9 => ?_) (fun c_9 => ?_)
                · exact kx j le9 fw _ _ _ (by omega) h_c h_d hP hD hS (lv_sub hl [0, 1, 2, 3] rfl)
                · have hlt : j < lev := Nat.lt_of_not_le (fun h => c_9 (nI_le h (by omega)))
                  refine lv_aload_n hx hb dX2_walk_68 rfl (lv_at hl 0 rfl) ?_
                  refine lv_aload_n hx hb dX2_walk_69 rfl (lv_at hl 0 rfl) ?_
                  refine lv_iload_n hx hb dX2_walk_70 rfl (lv_at hl 3 rfl) ?_
                  have hPc := hP.part (cx := [(hf, .inr (2, [.int (nI i), .ref qp, .ref qe, .ref ql, .int (nI lov), .int (nI le9)])), (qp, .inl (cO, b, .inr (.inr (.inr (.inr fp))))), (ql, .inl (cI, b, .inl fw))]) [0, 1, 2] rfl
                  have hDc := hD.part (cx := [(hf, .inr (2, [.int (nI i), .ref qp, .ref qe, .ref ql, .int (nI lov), .int (nI le9)])), (qp, .inl (cO, b, .inr (.inr (.inr (.inr fp))))), (ql, .inl (cI, b, .inl fw))]) [0, 1, 2] (by decide) rfl
                  have hFc := va_freeP (cx := [(hf, .inr (2, [.int (nI i), .ref qp, .ref qe, .ref ql, .int (nI lov), .int (nI le9)])), (qp, .inl (cO, b, .inr (.inr (.inr (.inr fp))))), (ql, .inl (cI, b, .inl fw))]) hD hS hA [0, 1, 2] rfl
                  have hKc := hK.sub (tys' := [(cO, .object RX4), (cI, .int)]) [0, 1] rfl
                  refine va_callr (va_runV (As := [.int (nI j)]) (rest := [.ref hf]) ⟨hx, hb, hml, hown, hts⟩ (c_X2_inLine l dC dI H.size hf qp qe ql b lov le9 (nI i) cO fp G Pg cI S (nI j) fw (by first | assumption | omega | decide) (by first | assumption | omega | decide) (by first | assumption | omega | decide) (by first | assumption | omega | decide) (by first | assumption | omega | decide) (by first | assumption | omega | decide) (by first | assumption | omega | decide)) (cwV 1 hts g_X2_walk_X2_inLine rfl rfl rfl (by decide +kernel) ⟨Nat.le_of_ble_eq_true rfl, Nat.le_of_ble_eq_true rfl⟩) ⟨fun a U g mk q => by obtain ⟨q0, q1, qP, qK, qD⟩ := q; exact ⟨q0, q1, qP, va_K.moved (u := U) (U := U.calling g mk a) (Vm.Alike.refl U.vm) qK, qD⟩, va_recv hKc hPc (ci := 2) (q0 := 0) rfl rfl, fun U hU hW => ⟨rfl, by rw [hU], by rw [hU]; exact hPc, va_K.moved hW.alike hKc, hDc.weaken (fun _ _ _ _ => trivial)⟩⟩ rfl rfl hl.1 rfl (lv_room (Nat.le_of_ble_eq_true rfl)) dX2_walk_71 ⟨(show 0 + 0 ≤ 0 by omega), (show 0 + 0 ≤ 0 by omega)⟩) hS (fun q _ h => hFc q h) hFc (fun u r_10 t H1 locs ht hvm hw hB hz1 hk1 hS => ?_)
                  obtain ⟨a_11, rfl⟩ : ∃ z, z = u := ⟨_, rfl⟩
                  obtain ⟨hra, hP1, hK1, hD1⟩ := hB
                  have hra := hra.symm
                  subst hra
                  rw [ht] at hP1
                  have hK1 := va_K.moved hvm.symm hK1
                  try dsimp only at hw
                  obtain ⟨hP, hD⟩ := va_joinP (wr := []) (rx := [(hf, .inr (2, [.int (nI i), .ref qp, .ref qe, .ref ql, .int (nI lov), .int (nI le9)])), (qp, .inl (cO, b, .inr (.inr (.inr (.inr fp))))), (ql, .inl (cI, b, .inl fw))]) (pl1 := pool G cI Pg S) hP hD [0, 1, 2] [] rfl rfl (by decide) (by decide) hk1 hFc hP1 hD1
                  have hK := (hK.sub (tys' := [(cO, .object RX4), (cI, .int)]) [0, 1] rfl).app hK1
                  have hK : va_K (dC, dI) vwCl [(cO, .object RX4), (cI, .int)] s := hK.sub [0, 1] rfl
                  generalize H1 = H at hP hS ⊢
                  have hP : va_P (dC, dI) vwCl ([(hf, .inr (2, [.int (nI i), .ref qp, .ref qe, .ref ql, .int (nI lov), .int (nI le9)])), (qp, .inl (cO, b, .inr (.inr (.inr (.inr fp))))), (ql, .inl (cI, b, .inl fw))] ++ pool G cI Pg S) H := hP
                  have hD : va_D A ([(hf, .inr (2, [.int (nI i), .ref qp, .ref qe, .ref ql, .int (nI lov), .int (nI le9)])), (qp, .inl (cO, b, .inr (.inr (.inr (.inr fp))))), (ql, .inl (cI, b, .inl fw))] ++ pool G cI Pg S) := hD
                  have hK : va_K (dC, dI) vwCl [(cO, .object RX4), (cI, .int)] s := hK
                  have hm_a_11 := hw.1
                  have ht_a_11 := hw.2
                  have hPc := hP.part (cx := [(hf, .inr (2, [.int (nI i), .ref qp, .ref qe, .ref ql, .int (nI lov), .int (nI le9)])), (ql, .inl (cI, b, .inl fw))]) [0, 2] rfl
                  have hDc := hD.part (cx := [(hf, .inr (2, [.int (nI i), .ref qp, .ref qe, .ref ql, .int (nI lov), .int (nI le9)])), (ql, .inl (cI, b, .inl fw))]) [0, 2] (by decide) rfl
                  have hFc := va_freeP (cx := [(hf, .inr (2, [.int (nI i), .ref qp, .ref qe, .ref ql, .int (nI lov), .int (nI le9)])), (ql, .inl (cI, b, .inl fw))]) hD hS hA [0, 2] rfl
                  have hKc := hK.sub (tys' := [(cI, .int)]) [1] rfl
                  refine va_callv (va_runV (As := [.ref a_11]) (rest := []) ⟨hx, hb, hml, hown, hts⟩ (c_X2_lineUpChildren l dC dI H.size hf qp qe ql b lov le9 a_11 (nI i) G Pg cI S fw (by first | assumption | omega | decide) (by first | assumption | omega | decide) (by first | assumption | omega | decide) (by first | assumption | omega | decide)) (cwV 1 hts g_X2_walk_X2_lineUpChildren rfl rfl rfl (by decide +kernel) ⟨Nat.le_of_ble_eq_true rfl, Nat.le_of_ble_eq_true rfl⟩) ⟨fun a U g mk q => by obtain ⟨q0, q1, qP, qK, qD⟩ := q; exact ⟨q0, q1, qP, va_K.moved (u := U) (U := U.calling g mk a) (Vm.Alike.refl U.vm) qK, qD⟩, va_recv hKc hPc (ci := 2) (q0 := 0) rfl rfl, fun U hU hW => ⟨rfl, by rw [hU], by rw [hU]; exact hPc, va_K.moved hW.alike hKc, hDc.weaken (fun _ _ _ _ => trivial)⟩⟩ rfl rfl hl.1 rfl (lv_room (Nat.le_of_ble_eq_true rfl)) dX2_walk_74 ⟨(show 0 + 0 ≤ 0 by omega), (show 0 + 0 ≤ 0 by omega)⟩) hS (fun q _ h => hFc q h) hFc (fun u t H1 locs ht hvm hw hB hz1 hk1 hS => ?_)
                  obtain ⟨le2_13, fl2_14⟩ := u
                  obtain ⟨hP1, hK1, hD1⟩ := hB
                  rw [ht] at hP1
                  have hK1 := va_K.moved hvm.symm hK1
                  try dsimp only at hw
                  obtain ⟨hP, hD⟩ := va_joinP (wr := [(qp, .inl (cO, b, .inr (.inr (.inr (.inr fp)))))]) (rx := [(hf, .inr (2, [.int (nI i), .ref qp, .ref qe, .ref ql, .int (nI lov), .int (nI le2_13)])), (ql, .inl (cI, b, .inl fl2_14))]) (pl1 := pool G cI Pg S) hP hD [0, 2] [1] rfl rfl (by decide) (by decide) hk1 hFc hP1 hD1
                  have hK := (hK.sub (tys' := [(cO, .object RX4), (cI, .int)]) [0, 1] rfl).app hK1
                  have hK : va_K (dC, dI) vwCl [(cO, .object RX4), (cI, .int)] s := hK.sub [0, 1] rfl
                  generalize H1 = H at hP hS ⊢
                  have hP : va_P (dC, dI) vwCl ([(qp, .inl (cO, b, .inr (.inr (.inr (.inr fp))))), (hf, .inr (2, [.int (nI i), .ref qp, .ref qe, .ref ql, .int (nI lov), .int (nI le2_13)])), (ql, .inl (cI, b, .inl fl2_14))] ++ pool G cI Pg S) H := hP
                  have hD : va_D A ([(qp, .inl (cO, b, .inr (.inr (.inr (.inr fp))))), (hf, .inr (2, [.int (nI i), .ref qp, .ref qe, .ref ql, .int (nI lov), .int (nI le2_13)])), (ql, .inl (cI, b, .inl fl2_14))] ++ pool G cI Pg S) := hD
                  have hK : va_K (dC, dI) vwCl [(cO, .object RX4), (cI, .int)] s := hK
                  have hw_r_12 := hw
                  refine lv_iinc (v := (nI (j + 1))) (lv' := [(3, .int (nI (j + 1))), (0, .ref hf), (1, .int p0), (2, .int (nI lev))]) hx hb dX2_walk_77 hl (k := 3) rfl (nI_1 j) (by decide) rfl (fun ls hl => ?_)
                  refine lv_goto (tgt := 63) hx hb dX2_walk_80 (by decide) ?_
                  exact ih (j + 1) le2_13 fl2_14 _ _ _ (by omega) (by omega) (by omega) (by omega) (hP.part (cx := [(hf, .inr (2, [.int (nI i), .ref qp, .ref qe, .ref ql, .int (nI lov), .int (nI le2_13)])), (qp, .inl (cO, b, .inr (.inr (.inr (.inr fp))))), (ql, .inl (cI, b, .inl fl2_14))]) [1, 0, 2] rfl) (hD.part (cx := [(hf, .inr (2, [.int (nI i), .ref qp, .ref qe, .ref ql, .int (nI lov), .int (nI le2_13)])), (qp, .inl (cO, b, .inr (.inr (.inr (.inr fp))))), (ql, .inl (cI, b, .inl fl2_14))]) [1, 0, 2] (by decide) rfl) hS (lv_sub hl [1, 2, 3, 0] rfl)
            refine loop_63 _ (fun j le9 fw H locs ls hi h_c h_d hP hD hS hl => ?_) (lev + 1) lov lev fv _ _ _ (by omega) (by omega) (by omega) (by omega) hP hD hS (lv_sub hl [2, 3, 1, 0] rfl)
            refine lv_aload_n hx hb dX2_walk_83 rfl (lv_at hl 0 rfl) ?_
            refine lv_iload_n hx hb dX2_walk_84 rfl (lv_at hl 2 rfl) ?_
            refine va_put (D := (dC, dI)) (ci := 2) (v := .int (nI lev)) (ty := .int) (C := RX2) (T := TX2) (N := 6) hx hb hts k_1 tyX2 tyX2_ok nmX2 hown hK hP hD hS 0 rfl rfl 4 (by decide) k_3 (fun _ h9 => h9) rfl (by decide +kernel) rfl rfl (Nat.le_of_ble_eq_true rfl) dX2_walk_85 (fun H locs hP hD hS => ?_)
            have hP : va_P (dC, dI) vwCl ([(hf, .inr (2, [.int (nI i), .ref qp, .ref qe, .ref ql, .int (nI lev), .int (nI le9)])), (qp, .inl (cO, b, .inr (.inr (.inr (.inr fp))))), (ql, .inl (cI, b, .inl fw))] ++ pool G cI Pg S) H := hP
            have hD : va_D A ([(hf, .inr (2, [.int (nI i), .ref qp, .ref qe, .ref ql, .int (nI lev), .int (nI le9)])), (qp, .inl (cO, b, .inr (.inr (.inr (.inr fp))))), (ql, .inl (cI, b, .inl fw))] ++ pool G cI Pg S) := hD
            refine lv_aload_n hx hb dX2_walk_88 rfl (lv_at hl 0 rfl) ?_
            refine lv_dup hx hb dX2_walk_89 rfl ?_
            refine va_get (D := (dC, dI)) (ci := 2) (v := .int (nI i)) (C := RX2) (T := TX2) (N := 6) hx hb hts k_1 hown hK hP 0 rfl rfl 0 (by decide) k_2 (fun _ h9 => h9) rfl dX2_walk_90 ?_
            refine lv_iconst (v := 1) hx hb dX2_walk_93 (by decide) ?_
            refine lv_iadd hx hb dX2_walk_94 ?_
            refine lv_topi (fun z_15 ez_15 => ?_)
            obtain rfl : z_15 = nI (i + 1) := ez_15.trans (nI_1 i)
            refine va_put (D := (dC, dI)) (ci := 2) (v := .int (nI (i + 1))) (ty := .int) (C := RX2) (T := TX2) (N := 6) hx hb hts k_1 tyX2 tyX2_ok nmX2 hown hK hP hD hS 0 rfl rfl 0 (by decide) k_2 (fun _ h9 => h9) rfl (by decide +kernel) rfl rfl (Nat.le_of_ble_eq_true rfl) dX2_walk_95 (fun H locs hP hD hS => ?_)
            have hP : va_P (dC, dI) vwCl ([(hf, .inr (2, [.int (nI (i + 1)), .ref qp, .ref qe, .ref ql, .int (nI lev), .int (nI le9)])), (qp, .inl (cO, b, .inr (.inr (.inr (.inr fp))))), (ql, .inl (cI, b, .inl fw))] ++ pool G cI Pg S) H := hP
            have hD : va_D A ([(hf, .inr (2, [.int (nI (i + 1)), .ref qp, .ref qe, .ref ql, .int (nI lev), .int (nI le9)])), (qp, .inl (cO, b, .inr (.inr (.inr (.inr fp))))), (ql, .inl (cI, b, .inl fw))] ++ pool G cI Pg S) := hD
            refine lv_goto (tgt := 30) hx hb dX2_walk_98 (by decide) ?_
            exact ih (i + 1) lev le9 fw _ _ _ (by omega) (by omega) (by omega) (by omega) hP hD hS (lv_sub hl [0, 1] rfl)
    refine loop_30 _ (fun i lov lev fv H locs ls hi h_a h_b hP hD hS hl => ?_) (12 + 1) 1 0 le2_3 fl2_4 _ _ _ (by omega) (by omega) (by omega) (by omega) (hP.part (cx := [(hf, .inr (2, [.int 1, .ref qp, .ref qe, .ref ql, .int (nI 0), .int (nI le2_3)])), (qp, .inl (cO, b, .inr (.inr (.inr (.inr fp))))), (ql, .inl (cI, b, .inl fl2_4))]) [1, 0, 2] rfl) (hD.part (cx := [(hf, .inr (2, [.int 1, .ref qp, .ref qe, .ref ql, .int (nI 0), .int (nI le2_3)])), (qp, .inl (cO, b, .inr (.inr (.inr (.inr fp))))), (ql, .inl (cI, b, .inl fl2_4))]) [1, 0, 2] (by decide) rfl) hS (lv_sub hl [0, 1] rfl)
    have hP9 := hP.part (cx := [(hf, .inr (2, [.int (nI i), .ref qp, .ref qe, .ref ql, .int (nI lov), .int (nI lev)])), (qp, .inl (cO, b, .inr (.inr (.inr (.inr fp))))), (ql, .inl (cI, b, .inl fv))]) [0, 1, 2] rfl
    have hD9 := hD.part (cx := [(hf, .inr (2, [.int (nI i), .ref qp, .ref qe, .ref ql, .int (nI lov), .int (nI lev)])), (qp, .inl (cO, b, .inr (.inr (.inr (.inr fp))))), (ql, .inl (cI, b, .inl fv))]) [0, 1, 2] (by decide) rfl
    have hK9 := hK.sub (tys' := [(cO, .object RX4), (cI, .int)]) [0, 1] rfl
    exact W.vret hx hb hr (fun t ht hW => ⟨⟨(nI i, lov, lev, fv), rfl, ⟨by omega, by omega⟩, by rw [ht]; exact hP9, va_K.moved hW.alike hK9, hD9⟩, hS.F ht⟩) hS.2.2 dX2_walk_101
  · have hP9 := hP.part (cx := [(hf, .inr (2, [.int 0, .ref qp, .ref qe, .ref ql, .int 0, .int 0])), (qp, .inl (cO, b, .inr (.inr (.inr (.inr fp))))), (ql, .inl (cI, b, .inl fl))]) [0, 1, 2] rfl
    have hD9 := hD.part (cx := [(hf, .inr (2, [.int 0, .ref qp, .ref qe, .ref ql, .int 0, .int 0])), (qp, .inl (cO, b, .inr (.inr (.inr (.inr fp))))), (ql, .inl (cI, b, .inl fl))]) [0, 1, 2] (by decide) rfl
    have hK9 := hK.sub (tys' := [(cO, .object RX4), (cI, .int)]) [0, 1] rfl
    exact W.vret hx hb hr (fun t ht hW => ⟨⟨(0, 0, 0, fl), rfl, ⟨by omega, by omega⟩, by rw [ht]; exact hP9, va_K.moved hW.alike hK9, hD9⟩, hS.F ht⟩) hS.2.2 dX2_walk_19

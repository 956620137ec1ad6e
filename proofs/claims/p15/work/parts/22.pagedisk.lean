theorem dX4_layOut_0 : decode cX4_layOut 0 = .ok (.aload_n 1, 1) := by decide +kernel
theorem dX4_layOut_1 : decode cX4_layOut 1 = .ok (.invokevirtual 55, 3) := by decide +kernel
theorem dX4_layOut_4 : decode cX4_layOut 4 = .ok (.iconst 0, 1) := by decide +kernel
theorem dX4_layOut_5 : decode cX4_layOut 5 = .ok (.istore_n 2, 1) := by decide +kernel
theorem dX4_layOut_6 : decode cX4_layOut 6 = .ok (.iload_n 2, 1) := by decide +kernel
theorem dX4_layOut_7 : decode cX4_layOut 7 = .ok (.aload_n 0, 1) := by decide +kernel
theorem dX4_layOut_8 : decode cX4_layOut 8 = .ok (.getfield 22, 3) := by decide +kernel
theorem dX4_layOut_11 : decode cX4_layOut 11 = .ok (.if_icmp .ge 45, 3) := by decide +kernel
theorem dX4_layOut_14 : decode cX4_layOut 14 = .ok (.aload_n 1, 1) := by decide +kernel
theorem dX4_layOut_15 : decode cX4_layOut 15 = .ok (.aload_n 0, 1) := by decide +kernel
theorem dX4_layOut_16 : decode cX4_layOut 16 = .ok (.invokevirtual 60, 3) := by decide +kernel
theorem dX4_layOut_19 : decode cX4_layOut 19 = .ok (.iconst 2, 1) := by decide +kernel
theorem dX4_layOut_20 : decode cX4_layOut 20 = .ok (.iload_n 2, 1) := by decide +kernel
theorem dX4_layOut_21 : decode cX4_layOut 21 = .ok (.imul, 1) := by decide +kernel
theorem dX4_layOut_22 : decode cX4_layOut 22 = .ok (.iadd, 1) := by decide +kernel
theorem dX4_layOut_23 : decode cX4_layOut 23 = .ok (.aload_n 0, 1) := by decide +kernel
theorem dX4_layOut_24 : decode cX4_layOut 24 = .ok (.iload_n 2, 1) := by decide +kernel
theorem dX4_layOut_25 : decode cX4_layOut 25 = .ok (.invokevirtual 34, 3) := by decide +kernel
theorem dX4_layOut_28 : decode cX4_layOut 28 = .ok (.invokevirtual 64, 3) := by decide +kernel
theorem dX4_layOut_31 : decode cX4_layOut 31 = .ok (.aload_n 1, 1) := by decide +kernel
theorem dX4_layOut_32 : decode cX4_layOut 32 = .ok (.aload_n 0, 1) := by decide +kernel
theorem dX4_layOut_33 : decode cX4_layOut 33 = .ok (.invokevirtual 60, 3) := by decide +kernel
theorem dX4_layOut_36 : decode cX4_layOut 36 = .ok (.iconst 2, 1) := by decide +kernel
theorem dX4_layOut_37 : decode cX4_layOut 37 = .ok (.iload_n 2, 1) := by decide +kernel
theorem dX4_layOut_38 : decode cX4_layOut 38 = .ok (.imul, 1) := by decide +kernel
theorem dX4_layOut_39 : decode cX4_layOut 39 = .ok (.iadd, 1) := by decide +kernel
theorem dX4_layOut_40 : decode cX4_layOut 40 = .ok (.iconst 1, 1) := by decide +kernel
theorem dX4_layOut_41 : decode cX4_layOut 41 = .ok (.iadd, 1) := by decide +kernel
theorem dX4_layOut_42 : decode cX4_layOut 42 = .ok (.aload_n 0, 1) := by decide +kernel
theorem dX4_layOut_43 : decode cX4_layOut 43 = .ok (.iload_n 2, 1) := by decide +kernel
theorem dX4_layOut_44 : decode cX4_layOut 44 = .ok (.invokevirtual 38, 3) := by decide +kernel
theorem dX4_layOut_47 : decode cX4_layOut 47 = .ok (.invokevirtual 64, 3) := by decide +kernel
theorem dX4_layOut_50 : decode cX4_layOut 50 = .ok (.iinc 2 1, 3) := by decide +kernel
theorem dX4_layOut_53 : decode cX4_layOut 53 = .ok (.goto (-47), 3) := by decide +kernel
theorem dX4_layOut_56 : decode cX4_layOut 56 = .ok (.aload_n 1, 1) := by decide +kernel
theorem dX4_layOut_57 : decode cX4_layOut 57 = .ok (.iconst 0, 1) := by decide +kernel
theorem dX4_layOut_58 : decode cX4_layOut 58 = .ok (.aload_n 0, 1) := by decide +kernel
theorem dX4_layOut_59 : decode cX4_layOut 59 = .ok (.getfield 9, 3) := by decide +kernel
theorem dX4_layOut_62 : decode cX4_layOut 62 = .ok (.ifCond .eq 7, 3) := by decide +kernel
theorem dX4_layOut_65 : decode cX4_layOut 65 = .ok (.iconst 1, 1) := by decide +kernel
theorem dX4_layOut_66 : decode cX4_layOut 66 = .ok (.goto 4, 3) := by decide +kernel
theorem dX4_layOut_69 : decode cX4_layOut 69 = .ok (.iconst 2, 1) := by decide +kernel
theorem dX4_layOut_70 : decode cX4_layOut 70 = .ok (.invokevirtual 64, 3) := by decide +kernel
theorem dX4_layOut_73 : decode cX4_layOut 73 = .ok (.aload_n 1, 1) := by decide +kernel
theorem dX4_layOut_74 : decode cX4_layOut 74 = .ok (.iconst 1, 1) := by decide +kernel
theorem dX4_layOut_75 : decode cX4_layOut 75 = .ok (.aload_n 0, 1) := by decide +kernel
theorem dX4_layOut_76 : decode cX4_layOut 76 = .ok (.getfield 22, 3) := by decide +kernel
theorem dX4_layOut_79 : decode cX4_layOut 79 = .ok (.invokevirtual 64, 3) := by decide +kernel
theorem dX4_layOut_82 : decode cX4_layOut 82 = .ok (.return_, 1) := by decide +kernel
theorem dX4_readFrom_0 : decode cX4_readFrom 0 = .ok (.aload_n 1, 1) := by decide +kernel
theorem dX4_readFrom_1 : decode cX4_readFrom 1 = .ok (.iload_n 2, 1) := by decide +kernel
theorem dX4_readFrom_2 : decode cX4_readFrom 2 = .ok (.iconst 0, 1) := by decide +kernel
theorem dX4_readFrom_3 : decode cX4_readFrom 3 = .ok (.invokevirtual 67, 3) := by decide +kernel
theorem dX4_readFrom_6 : decode cX4_readFrom 6 = .ok (.istore 4, 2) := by decide +kernel
theorem dX4_readFrom_8 : decode cX4_readFrom 8 = .ok (.aload_n 1, 1) := by decide +kernel
theorem dX4_readFrom_9 : decode cX4_readFrom 9 = .ok (.iload_n 2, 1) := by decide +kernel
theorem dX4_readFrom_10 : decode cX4_readFrom 10 = .ok (.iconst 1, 1) := by decide +kernel
theorem dX4_readFrom_11 : decode cX4_readFrom 11 = .ok (.invokevirtual 67, 3) := by decide +kernel
theorem dX4_readFrom_14 : decode cX4_readFrom 14 = .ok (.istore 5, 2) := by decide +kernel
theorem dX4_readFrom_16 : decode cX4_readFrom 16 = .ok (.aload_n 0, 1) := by decide +kernel
theorem dX4_readFrom_17 : decode cX4_readFrom 17 = .ok (.iload 4, 2) := by decide +kernel
theorem dX4_readFrom_19 : decode cX4_readFrom 19 = .ok (.iconst 1, 1) := by decide +kernel
theorem dX4_readFrom_20 : decode cX4_readFrom 20 = .ok (.if_icmp .ne 7, 3) := by decide +kernel
theorem dX4_readFrom_23 : decode cX4_readFrom 23 = .ok (.iconst 1, 1) := by decide +kernel
theorem dX4_readFrom_24 : decode cX4_readFrom 24 = .ok (.goto 4, 3) := by decide +kernel
theorem dX4_readFrom_27 : decode cX4_readFrom 27 = .ok (.iconst 0, 1) := by decide +kernel
theorem dX4_readFrom_28 : decode cX4_readFrom 28 = .ok (.invokevirtual 26, 3) := by decide +kernel
theorem dX4_readFrom_31 : decode cX4_readFrom 31 = .ok (.aload_n 0, 1) := by decide +kernel
theorem dX4_readFrom_32 : decode cX4_readFrom 32 = .ok (.getfield 9, 3) := by decide +kernel
theorem dX4_readFrom_35 : decode cX4_readFrom 35 = .ok (.ifCond .eq 7, 3) := by decide +kernel
theorem dX4_readFrom_38 : decode cX4_readFrom 38 = .ok (.iconst 1, 1) := by decide +kernel
theorem dX4_readFrom_39 : decode cX4_readFrom 39 = .ok (.goto 4, 3) := by decide +kernel
theorem dX4_readFrom_42 : decode cX4_readFrom 42 = .ok (.iconst 2, 1) := by decide +kernel
theorem dX4_readFrom_43 : decode cX4_readFrom 43 = .ok (.istore 6, 2) := by decide +kernel
theorem dX4_readFrom_45 : decode cX4_readFrom 45 = .ok (.iload 4, 2) := by decide +kernel
theorem dX4_readFrom_47 : decode cX4_readFrom 47 = .ok (.iconst 1, 1) := by decide +kernel
theorem dX4_readFrom_48 : decode cX4_readFrom 48 = .ok (.if_icmp .eq 9, 3) := by decide +kernel
theorem dX4_readFrom_51 : decode cX4_readFrom 51 = .ok (.iload 4, 2) := by decide +kernel
theorem dX4_readFrom_53 : decode cX4_readFrom 53 = .ok (.iconst 2, 1) := by decide +kernel
theorem dX4_readFrom_54 : decode cX4_readFrom 54 = .ok (.if_icmp .ne 31, 3) := by decide +kernel
theorem dX4_readFrom_57 : decode cX4_readFrom 57 = .ok (.iload 5, 2) := by decide +kernel
theorem dX4_readFrom_59 : decode cX4_readFrom 59 = .ok (.iload 6, 2) := by decide +kernel
theorem dX4_readFrom_61 : decode cX4_readFrom 61 = .ok (.if_icmp .lt 24, 3) := by decide +kernel
theorem dX4_readFrom_64 : decode cX4_readFrom 64 = .ok (.iload 5, 2) := by decide +kernel
theorem dX4_readFrom_66 : decode cX4_readFrom 66 = .ok (.aload_n 3, 1) := by decide +kernel
theorem dX4_readFrom_67 : decode cX4_readFrom 67 = .ok (.aload_n 0, 1) := by decide +kernel
theorem dX4_readFrom_68 : decode cX4_readFrom 68 = .ok (.getfield 9, 3) := by decide +kernel
theorem dX4_readFrom_71 : decode cX4_readFrom 71 = .ok (.invokevirtual 71, 3) := by decide +kernel
theorem dX4_readFrom_74 : decode cX4_readFrom 74 = .ok (.if_icmp .gt 11, 3) := by decide +kernel
theorem dX4_readFrom_77 : decode cX4_readFrom 77 = .ok (.aload_n 1, 1) := by decide +kernel
theorem dX4_readFrom_78 : decode cX4_readFrom 78 = .ok (.iload_n 2, 1) := by decide +kernel
theorem dX4_readFrom_79 : decode cX4_readFrom 79 = .ok (.invokevirtual 77, 3) := by decide +kernel
theorem dX4_readFrom_82 : decode cX4_readFrom 82 = .ok (.ifCond .ne 5, 3) := by decide +kernel
theorem dX4_readFrom_85 : decode cX4_readFrom 85 = .ok (.iconst 0, 1) := by decide +kernel
theorem dX4_readFrom_86 : decode cX4_readFrom 86 = .ok (.ireturn, 1) := by decide +kernel
theorem dX4_readFrom_87 : decode cX4_readFrom 87 = .ok (.iconst 0, 1) := by decide +kernel
theorem dX4_readFrom_88 : decode cX4_readFrom 88 = .ok (.istore 7, 2) := by decide +kernel
theorem dX4_readFrom_90 : decode cX4_readFrom 90 = .ok (.iload 7, 2) := by decide +kernel
theorem dX4_readFrom_92 : decode cX4_readFrom 92 = .ok (.iload 5, 2) := by decide +kernel
theorem dX4_readFrom_94 : decode cX4_readFrom 94 = .ok (.if_icmp .ge 42, 3) := by decide +kernel
theorem dX4_readFrom_97 : decode cX4_readFrom 97 = .ok (.aload_n 0, 1) := by decide +kernel
theorem dX4_readFrom_98 : decode cX4_readFrom 98 = .ok (.invokevirtual 60, 3) := by decide +kernel
theorem dX4_readFrom_101 : decode cX4_readFrom 101 = .ok (.iconst 2, 1) := by decide +kernel
theorem dX4_readFrom_102 : decode cX4_readFrom 102 = .ok (.iload 7, 2) := by decide +kernel
theorem dX4_readFrom_104 : decode cX4_readFrom 104 = .ok (.imul, 1) := by decide +kernel
theorem dX4_readFrom_105 : decode cX4_readFrom 105 = .ok (.iadd, 1) := by decide +kernel
theorem dX4_readFrom_106 : decode cX4_readFrom 106 = .ok (.istore 8, 2) := by decide +kernel
theorem dX4_readFrom_108 : decode cX4_readFrom 108 = .ok (.aload_n 0, 1) := by decide +kernel
theorem dX4_readFrom_109 : decode cX4_readFrom 109 = .ok (.iload 7, 2) := by decide +kernel
theorem dX4_readFrom_111 : decode cX4_readFrom 111 = .ok (.aload_n 1, 1) := by decide +kernel
theorem dX4_readFrom_112 : decode cX4_readFrom 112 = .ok (.iload_n 2, 1) := by decide +kernel
theorem dX4_readFrom_113 : decode cX4_readFrom 113 = .ok (.iload 8, 2) := by decide +kernel
theorem dX4_readFrom_115 : decode cX4_readFrom 115 = .ok (.invokevirtual 67, 3) := by decide +kernel
theorem dX4_readFrom_118 : decode cX4_readFrom 118 = .ok (.aload_n 1, 1) := by decide +kernel
theorem dX4_readFrom_119 : decode cX4_readFrom 119 = .ok (.iload_n 2, 1) := by decide +kernel
theorem dX4_readFrom_120 : decode cX4_readFrom 120 = .ok (.iload 8, 2) := by decide +kernel
theorem dX4_readFrom_122 : decode cX4_readFrom 122 = .ok (.iconst 1, 1) := by decide +kernel
theorem dX4_readFrom_123 : decode cX4_readFrom 123 = .ok (.iadd, 1) := by decide +kernel
theorem dX4_readFrom_124 : decode cX4_readFrom 124 = .ok (.invokevirtual 67, 3) := by decide +kernel
theorem dX4_readFrom_127 : decode cX4_readFrom 127 = .ok (.invokevirtual 80, 3) := by decide +kernel
theorem dX4_readFrom_130 : decode cX4_readFrom 130 = .ok (.iinc 7 1, 3) := by decide +kernel
theorem dX4_readFrom_133 : decode cX4_readFrom 133 = .ok (.goto (-43), 3) := by decide +kernel
theorem dX4_readFrom_136 : decode cX4_readFrom 136 = .ok (.iconst 1, 1) := by decide +kernel
theorem dX4_readFrom_137 : decode cX4_readFrom 137 = .ok (.ireturn, 1) := by decide +kernel
def v_X4_layOut : List Cond := .code yX4_layOut cX4_layOut 3 none :: ([.code yX0_startImage cX0_startImage 2 none, .fieldLink RX0 20 "TwinRoots$Disk" "image" "[I", .methodLink RX4 55 yX0_startImage, .instanceMethod yX0_startImage, .selects RX0 yX0_startImage yX0_startImage, .initialized RX0, .fieldLink RX4 22 "TwinRoots$Page" "many" "I", .code yX4_firstKeyWord cX4_firstKeyWord 1 (some .int), .fieldLink RX4 9 "TwinRoots$Page" "leaf" "Z", .methodLink RX4 60 yX4_firstKeyWord, .instanceMethod yX4_firstKeyWord, .selects RX4 yX4_firstKeyWord yX4_firstKeyWord, .initialized RX4, .code yX4_keyAt cX4_keyAt 2 (some .int), .fieldLink RX4 15 "TwinRoots$Page" "keys" "[I", .methodLink RX4 34 yX4_keyAt, .instanceMethod yX4_keyAt, .selects RX4 yX4_keyAt yX4_keyAt, .code yX0_lay cX0_lay 3 none, .methodLink RX4 64 yX0_lay, .instanceMethod yX0_lay, .selects RX0 yX0_lay yX0_lay, .code yX4_refAt cX4_refAt 2 (some .int), .fieldLink RX4 19 "TwinRoots$Page" "refs" "[I", .methodLink RX4 38 yX4_refAt, .instanceMethod yX4_refAt, .selects RX4 yX4_refAt yX4_refAt] ++ (wsX00 ++ (wsX40 ++ ([]))))
set_option maxRecDepth 20000 in
theorem g_X4_layOut_X0_startImage : GoodIn v_X4_layOut (wsV RX4 55 RX0 yX0_startImage v_X0_startImage) := goodIn_r _ [3, 4, 5, 6, 1, 2, 28, 29, 30, 31, 32, 33, 34] (by decide +kernel) (by decide +kernel)
set_option maxRecDepth 20000 in
theorem g_X4_layOut_X4_firstKeyWord : GoodIn v_X4_layOut (wsV RX4 60 RX4 yX4_firstKeyWord v_X4_firstKeyWord) := goodIn_r _ [10, 11, 12, 13, 8, 9, 35, 36, 37, 38] (by decide +kernel) (by decide +kernel)
set_option maxRecDepth 20000 in
theorem g_X4_layOut_X4_keyAt : GoodIn v_X4_layOut (wsV RX4 34 RX4 yX4_keyAt v_X4_keyAt) := goodIn_r _ [16, 17, 18, 13, 14, 7, 15, 35, 36, 37, 38] (by decide +kernel) (by decide +kernel)
set_option maxRecDepth 20000 in
theorem g_X4_layOut_X0_lay : GoodIn v_X4_layOut (wsV RX4 64 RX0 yX0_lay v_X0_lay) := goodIn_r _ [20, 21, 22, 6, 19, 2, 28, 29, 30, 31, 32, 33, 34] (by decide +kernel) (by decide +kernel)
set_option maxRecDepth 20000 in
theorem g_X4_layOut_X4_refAt : GoodIn v_X4_layOut (wsV RX4 38 RX4 yX4_refAt v_X4_refAt) := goodIn_r _ [25, 26, 27, 13, 23, 7, 24, 35, 36, 37, 38] (by decide +kernel) (by decide +kernel)
set_option maxHeartbeats 4000000 in
set_option maxRecDepth 100000 in
/-- layOut of a page -/
theorem c_X4_layOut (l : Launch) (dC : Nat → ClassId) (dI : Nat → Nat → Nat) (sz : Nat) (h0 : Nat) (qk : Nat) (qr : Nat) (n : Nat) (mn : Nat) (lf : Int32) (cK : ClassId) (cR : ClassId) (f : Nat → Int32) (g : Nat → Int32) (hd : Nat) (w : Nat) (b : Nat) (qc : Nat) (qi : Nat) (wr : Int32) (wa : Int32) (wc : Int32) (cI : ClassId) (gi : Nat → Int32) (zn : n ≤ 40) (zm : mn ≤ n) (zw : w ≤ 40) : Met l yX4_layOut v_X4_layOut ({ frames := 1, cells := 0, slots := 0, locals := 22 } : Room) (va_Pc [.ref h0, .ref hd] (fun U => U.heap.size = sz ∧ va_P (dC, dI) vwCl [(hd, .inr (0, [.int (nI w), .int (nI b), .int wr, .ref qc, .ref qi, .int wa, .int wc])), (qi, .inl (cI, w, .inl gi)), (h0, .inr (4, [.int lf, .int (nI mn), .ref qk, .ref qr])), (qk, .inl (cK, n, .inl f)), (qr, .inl (cR, n, .inl g))] U.heap ∧ va_K (dC, dI) vwCl [(cI, .int), (cK, .int), (cR, .int)] U ∧ va_D (fun _ => True) [(hd, .inr (0, [.int (nI w), .int (nI b), .int wr, .ref qc, .ref qi, .int wa, .int wc])), (qi, .inl (cI, w, .inl gi)), (h0, .inr (4, [.int lf, .int (nI mn), .ref qk, .ref qr])), (qk, .inl (cK, n, .inl f)), (qr, .inl (cR, n, .inl g))])) (va_Qv (fun (gi2 : Nat → Int32) => True) (fun (gi2 : Nat → Int32) (t : State) => va_P (dC, dI) vwCl [(hd, .inr (0, [.int (nI w), .int (nI b), .int wr, .ref qc, .ref qi, .int wa, .int wc])), (qi, .inl (cI, w, .inl gi2)), (h0, .inr (4, [.int lf, .int (nI mn), .ref qk, .ref qr])), (qk, .inl (cK, n, .inl f)), (qr, .inl (cR, n, .inl g))] t.heap ∧ va_K (dC, dI) vwCl [(cI, .int), (cK, .int), (cR, .int)] t ∧ va_D (va_A [(hd, .inr (0, [.int (nI w), .int (nI b), .int wr, .ref qc, .ref qi, .int wa, .int wc])), (qi, .inl (cI, w, .inl gi)), (h0, .inr (4, [.int lf, .int (nI mn), .ref qk, .ref qr])), (qk, .inl (cK, n, .inl f)), (qr, .inl (cR, n, .inl g))] sz) [(hd, .inr (0, [.int (nI w), .int (nI b), .int wr, .ref qc, .ref qi, .int wa, .int wc])), (qi, .inl (cI, w, .inl gi2)), (h0, .inr (4, [.int lf, .int (nI mn), .ref qk, .ref qr])), (qk, .inl (cK, n, .inl f)), (qr, .inl (cR, n, .inl g))]) (va_A [(hd, .inr (0, [.int (nI w), .int (nI b), .int wr, .ref qc, .ref qi, .int wa, .int wc])), (qi, .inl (cI, w, .inl gi)), (h0, .inr (4, [.int lf, .int (nI mn), .ref qk, .ref qr])), (qk, .inl (cK, n, .inl f)), (qr, .inl (cR, n, .inl g))] sz)) 0 0 (va_A [(hd, .inr (0, [.int (nI w), .int (nI b), .int wr, .ref qc, .ref qi, .int wa, .int wc])), (qi, .inl (cI, w, .inl gi)), (h0, .inr (4, [.int lf, .int (nI mn), .ref qk, .ref qr])), (qk, .inl (cK, n, .inl f)), (qr, .inl (cR, n, .inl g))] sz) := by
  refine Met.ofW (cc := cX4_layOut) (maxL := 3) (ret := none) (by decide) rfl ?_
  intro p e s m args below meth c s₁ B hml hv
  obtain ⟨rfl, hsz, hP, hK, hD0⟩ := hv
  have hx := B.exec
  have hb := B.bytes
  have hr := B.returns
  have hts := atoms_spec (ws := v_X4_layOut) B.pre
  have hown : s.vm.findClass RX4 = some m.cls := findClass_of_methodNamed B.named
  have hlocks := B.notSynchronized
  subst hsz
  have hD := hD0.self (sz := s.heap.size)
  generalize hAe : va_A [(hd, .inr (0, [.int (nI w), .int (nI b), .int wr, .ref qc, .ref qi, .int wa, .int wc])), (qi, .inl (cI, w, .inl gi)), (h0, .inr (4, [.int lf, .int (nI mn), .ref qk, .ref qr])), (qk, .inl (cK, n, .inl f)), (qr, .inl (cR, n, .inl g))] s.heap.size = A at hD ⊢
  have hA : ∀ q : Nat, s.heap.size ≤ q → A q := fun q h => by rw [← hAe]; exact Or.inr h
  have hS : va_S A s.heap s.heap [] := va_S.rf
  have hP : va_P (dC, dI) vwCl [(hd, .inr (0, [.int (nI w), .int (nI b), .int wr, .ref qc, .ref qi, .int wa, .int wc])), (qi, .inl (cI, w, .inl gi)), (h0, .inr (4, [.int lf, .int (nI mn), .ref qk, .ref qr])), (qk, .inl (cK, n, .inl f)), (qr, .inl (cR, n, .inl g))] s.heap := hP
  have hl := lv_entry ([.ref h0, .ref hd]) (n := 3) (Nat.le_of_ble_eq_true rfl)
  rw [lg_entry_eq]
  generalize (lg_sl ([.ref h0, .ref hd]) ++ List.replicate (3 - (lg_sl ([.ref h0, .ref hd])).length) Slot.unset).toArray = ls at hl ⊢
  have hl : lv_has ls 3 [(0, .ref h0), (1, .ref hd)] := hl
  have k_1 := (fun _ h => List.mem_cons_of_mem _ (List.mem_append_right _ (List.mem_append_right _ (List.mem_append_left _ h))) : ∀ w ∈ wsX40, w ∈ v_X4_layOut)
  have k_2 := hts (.fieldLink RX4 22 "TwinRoots$Page" "many" "I") (List.mem_of_getElem? (i := 7) rfl)
  have k_3 := hts (.fieldLink RX4 9 "TwinRoots$Page" "leaf" "Z") (List.mem_of_getElem? (i := 9) rfl)
  refine lv_aload_n hx hb dX4_layOut_0 rfl (lv_at hl 1 rfl) ?_
  have hPc := hP.sub (ws' := [(hd, .inr (0, [.int (nI w), .int (nI b), .int wr, .ref qc, .ref qi, .int wa, .int wc])), (qi, .inl (cI, w, .inl gi))]) [0, 1] rfl
  have hDc := hD.sub (ws' := [(hd, .inr (0, [.int (nI w), .int (nI b), .int wr, .ref qc, .ref qi, .int wa, .int wc])), (qi, .inl (cI, w, .inl gi))]) [0, 1] (by decide) rfl
  have hKc := hK.sub (tys' := [(cI, .int)]) [0] rfl
  have hFc := va_free (wc := [(hd, .inr (0, [.int (nI w), .int (nI b), .int wr, .ref qc, .ref qi, .int wa, .int wc])), (qi, .inl (cI, w, .inl gi))]) hD hS hA [0, 1] rfl
  refine va_callv (va_runV (As := []) (rest := []) ⟨hx, hb, hml, hown, hts⟩ (c_X0_startImage l dC dI s.heap.size hd w b qc qi wr wa wc cI gi (by first | assumption | omega | decide)) (cwV 0 hts g_X4_layOut_X0_startImage rfl rfl rfl (by decide +kernel) ⟨Nat.le_of_ble_eq_true rfl, Nat.le_of_ble_eq_true rfl⟩) ⟨fun a U g mk q => by obtain ⟨q0, q1, qP, qK, qD⟩ := q; exact ⟨q0, q1, qP, va_K.moved (u := U) (U := U.calling g mk a) (Vm.Alike.refl U.vm) qK, qD⟩, va_recv hKc hPc (ci := 0) (q0 := 0) rfl rfl, fun U hU hW => ⟨rfl, by rw [hU], by rw [hU]; exact hPc, va_K.moved hW.alike hKc, hDc.weaken (fun _ _ _ _ => trivial)⟩⟩ rfl rfl hl.1 rfl (lv_room (Nat.le_of_ble_eq_true rfl)) dX4_layOut_1 ⟨(show 0 + 0 ≤ 0 by omega), (show 0 + 0 ≤ 0 by omega)⟩) hS (fun q _ h => hFc q h) hFc (fun u t H1 locs ht hvm hw hB hz1 hk1 hS => ?_)
  obtain ⟨f2_2, rfl⟩ : ∃ z, z = u := ⟨_, rfl⟩
  obtain ⟨hP1, hK1, hD1⟩ := hB
  rw [ht] at hP1
  have hK1 := va_K.moved hvm.symm hK1
  try dsimp only at hw
  obtain ⟨hP, hD⟩ := va_join (wr := [(h0, .inr (4, [.int lf, .int (nI mn), .ref qk, .ref qr])), (qk, .inl (cK, n, .inl f)), (qr, .inl (cR, n, .inl g))]) (w1 := [(hd, .inr (0, [.int (nI w), .int (nI b), .int wr, .ref qc, .ref qi, .int wa, .int wc])), (qi, .inl (cI, w, .inl f2_2))]) hP hD [0, 1] [2, 3, 4] rfl rfl (by decide) (by decide) hk1 hFc hP1 hD1
  have hK := (hK.sub (tys' := [(cK, .int), (cR, .int)]) [1, 2] rfl).app hK1
  generalize H1 = H at hP hS ⊢
  have hP : va_P (dC, dI) vwCl [(h0, .inr (4, [.int lf, .int (nI mn), .ref qk, .ref qr])), (qk, .inl (cK, n, .inl f)), (qr, .inl (cR, n, .inl g)), (hd, .inr (0, [.int (nI w), .int (nI b), .int wr, .ref qc, .ref qi, .int wa, .int wc])), (qi, .inl (cI, w, .inl f2_2))] H := hP
  have hD : va_D A [(h0, .inr (4, [.int lf, .int (nI mn), .ref qk, .ref qr])), (qk, .inl (cK, n, .inl f)), (qr, .inl (cR, n, .inl g)), (hd, .inr (0, [.int (nI w), .int (nI b), .int wr, .ref qc, .ref qi, .int wa, .int wc])), (qi, .inl (cI, w, .inl f2_2))] := hD
  have hK : va_K (dC, dI) vwCl [(cK, .int), (cR, .int), (cI, .int)] s := hK
  refine lv_iconst (v := 0) hx hb dX4_layOut_4 (by decide) ?_
  refine lv_istore_n (lv' := [(2, .int 0), (0, .ref h0), (1, .ref hd)]) hx hb dX4_layOut_5 rfl hl (by decide) rfl (fun ls hl => ?_)
  have loop_6 : ∀ (Q : State → Prop), (∀ (i : Nat) (gv : Nat → Int32) (H : Heap) (locs : List Loc) (ls : Array Slot), i ≤ mn → va_P (dC, dI) vwCl [(hd, .inr (0, [.int (nI w), .int (nI b), .int wr, .ref qc, .ref qi, .int wa, .int wc])), (qi, .inl (cI, w, .inl gv)), (h0, .inr (4, [.int lf, .int (nI mn), .ref qk, .ref qr])), (qk, .inl (cK, n, .inl f)), (qr, .inl (cR, n, .inl g))] H → va_D A [(hd, .inr (0, [.int (nI w), .int (nI b), .int wr, .ref qc, .ref qi, .int wa, .int wc])), (qi, .inl (cI, w, .inl gv)), (h0, .inr (4, [.int lf, .int (nI mn), .ref qk, .ref qr])), (qk, .inl (cK, n, .inl f)), (qr, .inl (cR, n, .inl g))] → va_S A s.heap H locs → lv_has ls 3 [(0, .ref h0), (1, .ref hd), (2, .int (nI i))] → W p l e (headSpec v_X4_layOut ({ frames := 1, cells := 0, slots := 0, locals := 22 } : Room)).room s m ([.ref h0, .ref hd] : List Value).toArray below meth c H locs 0 0 Q (F0 m 56 ls [])) → ∀ (nf i : Nat) (gv : Nat → Int32) (H : Heap) (locs : List Loc) (ls : Array Slot), i ≤ mn → mn + 1 ≤ i + nf → va_P (dC, dI) vwCl [(hd, .inr (0, [.int (nI w), .int (nI b), .int wr, .ref qc, .ref qi, .int wa, .int wc])), (qi, .inl (cI, w, .inl gv)), (h0, .inr (4, [.int lf, .int (nI mn), .ref qk, .ref qr])), (qk, .inl (cK, n, .inl f)), (qr, .inl (cR, n, .inl g))] H → va_D A [(hd, .inr (0, [.int (nI w), .int (nI b), .int wr, .ref qc, .ref qi, .int wa, .int wc])), (qi, .inl (cI, w, .inl gv)), (h0, .inr (4, [.int lf, .int (nI mn), .ref qk, .ref qr])), (qk, .inl (cK, n, .inl f)), (qr, .inl (cR, n, .inl g))] → va_S A s.heap H locs → lv_has ls 3 [(0, .ref h0), (1, .ref hd), (2, .int (nI i))] → W p l e (headSpec v_X4_layOut ({ frames := 1, cells := 0, slots := 0, locals := 22 } : Room)).room s m ([.ref h0, .ref hd] : List Value).toArray below meth c H locs 0 0 Q (F0 m 6 ls []) := by
    intro Q kx nf
    induction nf with
    | zero =>
      intro i gv H locs ls h1 h2
      exact absurd h2 (by omega)
    | succ nf ih =>
      intro i gv H locs ls hi hn hP hD hS hl
      refine lv_iload_n hx hb dX4_layOut_6 rfl (lv_at hl 2 rfl) ?_
      refine lv_aload_n hx hb dX4_layOut_7 rfl (lv_at hl 0 rfl) ?_
      refine va_get (D := (dC, dI)) (ci := 4) (v := .int (nI mn)) (C := RX4) (T := TX4) (N := 4) hx hb hts k_1 hown hK hP 2 rfl rfl 1 (by decide) k_2 (fun _ h9 => h9) rfl dX4_layOut_8 ?_
      refine lv_icmp_ge (tgt := 56) hx hb dX4_layOut_11 (by decide) (fun c_3 => ?_) (fun c_3 => ?_)
      · exact kx i gv _ _ _ (by omega) hP hD hS (lv_sub hl [0, 1, 2] rfl)
      · have hlt : i < mn := Nat.lt_of_not_le (fun h => c_3 (nI_le h (by omega)))
        refine lv_aload_n hx hb dX4_layOut_14 rfl (lv_at hl 1 rfl) ?_
        refine lv_aload_n hx hb dX4_layOut_15 rfl (lv_at hl 0 rfl) ?_
        have hPc := hP.sub (ws' := [(h0, .inr (4, [.int lf, .int (nI mn), .ref qk, .ref qr]))]) [2] rfl
        have hDc := hD.sub (ws' := [(h0, .inr (4, [.int lf, .int (nI mn), .ref qk, .ref qr]))]) [2] (by decide) rfl
        have hKc := hK.sub (tys' := []) [] rfl
        have hFc := va_free (wc := [(h0, .inr (4, [.int lf, .int (nI mn), .ref qk, .ref qr]))]) hD hS hA [2] rfl
        refine va_calli (va_runV (As := []) (rest := [.ref hd]) ⟨hx, hb, hml, hown, hts⟩ (c_X4_firstKeyWord l dC dI H.size h0 qk qr mn lf) (cwV 0 hts g_X4_layOut_X4_firstKeyWord rfl rfl rfl (by decide +kernel) ⟨Nat.le_of_ble_eq_true rfl, Nat.le_of_ble_eq_true rfl⟩) ⟨fun a U g mk q => by obtain ⟨q0, q1, qP, qK, qD⟩ := q; exact ⟨q0, q1, qP, va_K.moved (u := U) (U := U.calling g mk a) (Vm.Alike.refl U.vm) qK, qD⟩, va_recv hKc hPc (ci := 4) (q0 := 0) rfl rfl, fun U hU hW => ⟨rfl, by rw [hU], by rw [hU]; exact hPc, va_K.moved hW.alike hKc, hDc.weaken (fun _ _ _ _ => trivial)⟩⟩ rfl rfl hl.1 rfl (lv_room (Nat.le_of_ble_eq_true rfl)) dX4_layOut_16 ⟨(show 0 + 0 ≤ 0 by omega), (show 0 + 0 ≤ 0 by omega)⟩) hS (fun q _ h => hFc q h) hFc (fun r_4 u t H1 locs ht hvm hw hB hz1 hk1 hS => ?_)
        obtain ⟨hP1, hK1, hD1⟩ := hB
        rw [ht] at hP1
        have hK1 := va_K.moved hvm.symm hK1
        try dsimp only at hw
        obtain ⟨hP, hD⟩ := va_join (wr := [(hd, .inr (0, [.int (nI w), .int (nI b), .int wr, .ref qc, .ref qi, .int wa, .int wc])), (qi, .inl (cI, w, .inl gv)), (qk, .inl (cK, n, .inl f)), (qr, .inl (cR, n, .inl g))]) (w1 := [(h0, .inr (4, [.int lf, .int (nI mn), .ref qk, .ref qr]))]) hP hD [2] [0, 1, 3, 4] rfl rfl (by decide) (by decide) hk1 hFc hP1 hD1
        have hK := (hK.sub (tys' := [(cK, .int), (cR, .int), (cI, .int)]) [0, 1, 2] rfl).app hK1
        generalize H1 = H at hP hS ⊢
        have hP : va_P (dC, dI) vwCl [(hd, .inr (0, [.int (nI w), .int (nI b), .int wr, .ref qc, .ref qi, .int wa, .int wc])), (qi, .inl (cI, w, .inl gv)), (qk, .inl (cK, n, .inl f)), (qr, .inl (cR, n, .inl g)), (h0, .inr (4, [.int lf, .int (nI mn), .ref qk, .ref qr]))] H := hP
        have hD : va_D A [(hd, .inr (0, [.int (nI w), .int (nI b), .int wr, .ref qc, .ref qi, .int wa, .int wc])), (qi, .inl (cI, w, .inl gv)), (qk, .inl (cK, n, .inl f)), (qr, .inl (cR, n, .inl g)), (h0, .inr (4, [.int lf, .int (nI mn), .ref qk, .ref qr]))] := hD
        have hK : va_K (dC, dI) vwCl [(cK, .int), (cR, .int), (cI, .int)] s := hK
        have hw_r_4 := hw
        refine lv_iconst (v := 2) hx hb dX4_layOut_19 (by decide) ?_
        refine lv_iload_n hx hb dX4_layOut_20 rfl (lv_at hl 2 rfl) ?_
        refine lv_imul hx hb dX4_layOut_21 ?_
        refine lv_topi (fun z_5 _ => ?_)
        refine lv_iadd hx hb dX4_layOut_22 ?_
        refine lv_topi (fun z_6 _ => ?_)
        refine lv_aload_n hx hb dX4_layOut_23 rfl (lv_at hl 0 rfl) ?_
        refine lv_iload_n hx hb dX4_layOut_24 rfl (lv_at hl 2 rfl) ?_
        have hPc := hP.sub (ws' := [(h0, .inr (4, [.int lf, .int (nI mn), .ref qk, .ref qr])), (qk, .inl (cK, n, .inl f)), (qr, .inl (cR, n, .inl g))]) [4, 2, 3] rfl
        have hDc := hD.sub (ws' := [(h0, .inr (4, [.int lf, .int (nI mn), .ref qk, .ref qr])), (qk, .inl (cK, n, .inl f)), (qr, .inl (cR, n, .inl g))]) [4, 2, 3] (by decide) rfl
        have hKc := hK.sub (tys' := [(cK, .int), (cR, .int)]) [0, 1] rfl
        have hFc := va_free (wc := [(h0, .inr (4, [.int lf, .int (nI mn), .ref qk, .ref qr])), (qk, .inl (cK, n, .inl f)), (qr, .inl (cR, n, .inl g))]) hD hS hA [4, 2, 3] rfl
        refine va_calli (va_runV (As := [.int (nI i)]) (rest := [.int z_6, .ref hd]) ⟨hx, hb, hml, hown, hts⟩ (c_X4_keyAt l dC dI H.size h0 qk qr n mn lf cK cR f g (nI i) (by first | assumption | omega | decide) (by first | assumption | omega | decide)) (cwV 1 hts g_X4_layOut_X4_keyAt rfl rfl rfl (by decide +kernel) ⟨Nat.le_of_ble_eq_true rfl, Nat.le_of_ble_eq_true rfl⟩) ⟨fun a U g mk q => by obtain ⟨q0, q1, qP, qK, qD⟩ := q; exact ⟨q0, q1, qP, va_K.moved (u := U) (U := U.calling g mk a) (Vm.Alike.refl U.vm) qK, qD⟩, va_recv hKc hPc (ci := 4) (q0 := 0) rfl rfl, fun U hU hW => ⟨rfl, by rw [hU], by rw [hU]; exact hPc, va_K.moved hW.alike hKc, hDc.weaken (fun _ _ _ _ => trivial)⟩⟩ rfl rfl hl.1 rfl (lv_room (Nat.le_of_ble_eq_true rfl)) dX4_layOut_25 ⟨(show 0 + 0 ≤ 0 by omega), (show 0 + 0 ≤ 0 by omega)⟩) hS (fun q _ h => hFc q h) hFc (fun r_7 u t H1 locs ht hvm hw hB hz1 hk1 hS => ?_)
        obtain ⟨hP1, hK1, hD1⟩ := hB
        rw [ht] at hP1
        have hK1 := va_K.moved hvm.symm hK1
        try dsimp only at hw
        obtain ⟨hP, hD⟩ := va_join (wr := [(hd, .inr (0, [.int (nI w), .int (nI b), .int wr, .ref qc, .ref qi, .int wa, .int wc])), (qi, .inl (cI, w, .inl gv))]) (w1 := [(h0, .inr (4, [.int lf, .int (nI mn), .ref qk, .ref qr])), (qk, .inl (cK, n, .inl f)), (qr, .inl (cR, n, .inl g))]) hP hD [4, 2, 3] [0, 1] rfl rfl (by decide) (by decide) hk1 hFc hP1 hD1
        have hK := (hK.sub (tys' := [(cI, .int)]) [2] rfl).app hK1
        generalize H1 = H at hP hS ⊢
        have hP : va_P (dC, dI) vwCl [(hd, .inr (0, [.int (nI w), .int (nI b), .int wr, .ref qc, .ref qi, .int wa, .int wc])), (qi, .inl (cI, w, .inl gv)), (h0, .inr (4, [.int lf, .int (nI mn), .ref qk, .ref qr])), (qk, .inl (cK, n, .inl f)), (qr, .inl (cR, n, .inl g))] H := hP
        have hD : va_D A [(hd, .inr (0, [.int (nI w), .int (nI b), .int wr, .ref qc, .ref qi, .int wa, .int wc])), (qi, .inl (cI, w, .inl gv)), (h0, .inr (4, [.int lf, .int (nI mn), .ref qk, .ref qr])), (qk, .inl (cK, n, .inl f)), (qr, .inl (cR, n, .inl g))] := hD
        have hK : va_K (dC, dI) vwCl [(cI, .int), (cK, .int), (cR, .int)] s := hK
        have hw_r_7 := hw
        have hPc := hP.sub (ws' := [(hd, .inr (0, [.int (nI w), .int (nI b), .int wr, .ref qc, .ref qi, .int wa, .int wc])), (qi, .inl (cI, w, .inl gv))]) [0, 1] rfl
        have hDc := hD.sub (ws' := [(hd, .inr (0, [.int (nI w), .int (nI b), .int wr, .ref qc, .ref qi, .int wa, .int wc])), (qi, .inl (cI, w, .inl gv))]) [0, 1] (by decide) rfl
        have hKc := hK.sub (tys' := [(cI, .int)]) [0] rfl
        have hFc := va_free (wc := [(hd, .inr (0, [.int (nI w), .int (nI b), .int wr, .ref qc, .ref qi, .int wa, .int wc])), (qi, .inl (cI, w, .inl gv))]) hD hS hA [0, 1] rfl
        refine va_callv (va_runV (As := [.int z_6, .int r_7]) (rest := []) ⟨hx, hb, hml, hown, hts⟩ (c_X0_lay l dC dI H.size hd w b qc qi wr wa wc z_6 r_7 cI gv (by first | assumption | omega | decide)) (cwV 2 hts g_X4_layOut_X0_lay rfl rfl rfl (by decide +kernel) ⟨Nat.le_of_ble_eq_true rfl, Nat.le_of_ble_eq_true rfl⟩) ⟨fun a U g mk q => by obtain ⟨q0, q1, qP, qK, qD⟩ := q; exact ⟨q0, q1, qP, va_K.moved (u := U) (U := U.calling g mk a) (Vm.Alike.refl U.vm) qK, qD⟩, va_recv hKc hPc (ci := 0) (q0 := 0) rfl rfl, fun U hU hW => ⟨rfl, by rw [hU], by rw [hU]; exact hPc, va_K.moved hW.alike hKc, hDc.weaken (fun _ _ _ _ => trivial)⟩⟩ rfl rfl hl.1 rfl (lv_room (Nat.le_of_ble_eq_true rfl)) dX4_layOut_28 ⟨(show 0 + 0 ≤ 0 by omega), (show 0 + 0 ≤ 0 by omega)⟩) hS (fun q _ h => hFc q h) hFc (fun u t H1 locs ht hvm hw hB hz1 hk1 hS => ?_)
        obtain ⟨f2_9, rfl⟩ : ∃ z, z = u := ⟨_, rfl⟩
        obtain ⟨hP1, hK1, hD1⟩ := hB
        rw [ht] at hP1
        have hK1 := va_K.moved hvm.symm hK1
        try dsimp only at hw
        obtain ⟨hP, hD⟩ := va_join (wr := [(h0, .inr (4, [.int lf, .int (nI mn), .ref qk, .ref qr])), (qk, .inl (cK, n, .inl f)), (qr, .inl (cR, n, .inl g))]) (w1 := [(hd, .inr (0, [.int (nI w), .int (nI b), .int wr, .ref qc, .ref qi, .int wa, .int wc])), (qi, .inl (cI, w, .inl f2_9))]) hP hD [0, 1] [2, 3, 4] rfl rfl (by decide) (by decide) hk1 hFc hP1 hD1
        have hK := (hK.sub (tys' := [(cK, .int), (cR, .int)]) [1, 2] rfl).app hK1
        generalize H1 = H at hP hS ⊢
        have hP : va_P (dC, dI) vwCl [(h0, .inr (4, [.int lf, .int (nI mn), .ref qk, .ref qr])), (qk, .inl (cK, n, .inl f)), (qr, .inl (cR, n, .inl g)), (hd, .inr (0, [.int (nI w), .int (nI b), .int wr, .ref qc, .ref qi, .int wa, .int wc])), (qi, .inl (cI, w, .inl f2_9))] H := hP
        have hD : va_D A [(h0, .inr (4, [.int lf, .int (nI mn), .ref qk, .ref qr])), (qk, .inl (cK, n, .inl f)), (qr, .inl (cR, n, .inl g)), (hd, .inr (0, [.int (nI w), .int (nI b), .int wr, .ref qc, .ref qi, .int wa, .int wc])), (qi, .inl (cI, w, .inl f2_9))] := hD
        have hK : va_K (dC, dI) vwCl [(cK, .int), (cR, .int), (cI, .int)] s := hK
        refine lv_aload_n hx hb dX4_layOut_31 rfl (lv_at hl 1 rfl) ?_
        refine lv_aload_n hx hb dX4_layOut_32 rfl (lv_at hl 0 rfl) ?_
        have hPc := hP.sub (ws' := [(h0, .inr (4, [.int lf, .int (nI mn), .ref qk, .ref qr]))]) [0] rfl
        have hDc := hD.sub (ws' := [(h0, .inr (4, [.int lf, .int (nI mn), .ref qk, .ref qr]))]) [0] (by decide) rfl
        have hKc := hK.sub (tys' := []) [] rfl
        have hFc := va_free (wc := [(h0, .inr (4, [.int lf, .int (nI mn), .ref qk, .ref qr]))]) hD hS hA [0] rfl
        refine va_calli (va_runV (As := []) (rest := [.ref hd]) ⟨hx, hb, hml, hown, hts⟩ (c_X4_firstKeyWord l dC dI H.size h0 qk qr mn lf) (cwV 0 hts g_X4_layOut_X4_firstKeyWord rfl rfl rfl (by decide +kernel) ⟨Nat.le_of_ble_eq_true rfl, Nat.le_of_ble_eq_true rfl⟩) ⟨fun a U g mk q => by obtain ⟨q0, q1, qP, qK, qD⟩ := q; exact ⟨q0, q1, qP, va_K.moved (u := U) (U := U.calling g mk a) (Vm.Alike.refl U.vm) qK, qD⟩, va_recv hKc hPc (ci := 4) (q0 := 0) rfl rfl, fun U hU hW => ⟨rfl, by rw [hU], by rw [hU]; exact hPc, va_K.moved hW.alike hKc, hDc.weaken (fun _ _ _ _ => trivial)⟩⟩ rfl rfl hl.1 rfl (lv_room (Nat.le_of_ble_eq_true rfl)) dX4_layOut_33 ⟨(show 0 + 0 ≤ 0 by omega), (show 0 + 0 ≤ 0 by omega)⟩) hS (fun q _ h => hFc q h) hFc (fun r_10 u t H1 locs ht hvm hw hB hz1 hk1 hS => ?_)
        obtain ⟨hP1, hK1, hD1⟩ := hB
        rw [ht] at hP1
        have hK1 := va_K.moved hvm.symm hK1
        try dsimp only at hw
        obtain ⟨hP, hD⟩ := va_join (wr := [(qk, .inl (cK, n, .inl f)), (qr, .inl (cR, n, .inl g)), (hd, .inr (0, [.int (nI w), .int (nI b), .int wr, .ref qc, .ref qi, .int wa, .int wc])), (qi, .inl (cI, w, .inl f2_9))]) (w1 := [(h0, .inr (4, [.int lf, .int (nI mn), .ref qk, .ref qr]))]) hP hD [0] [1, 2, 3, 4] rfl rfl (by decide) (by decide) hk1 hFc hP1 hD1
        have hK := (hK.sub (tys' := [(cK, .int), (cR, .int), (cI, .int)]) [0, 1, 2] rfl).app hK1
        generalize H1 = H at hP hS ⊢
        have hP : va_P (dC, dI) vwCl [(qk, .inl (cK, n, .inl f)), (qr, .inl (cR, n, .inl g)), (hd, .inr (0, [.int (nI w), .int (nI b), .int wr, .ref qc, .ref qi, .int wa, .int wc])), (qi, .inl (cI, w, .inl f2_9)), (h0, .inr (4, [.int lf, .int (nI mn), .ref qk, .ref qr]))] H := hP
        have hD : va_D A [(qk, .inl (cK, n, .inl f)), (qr, .inl (cR, n, .inl g)), (hd, .inr (0, [.int (nI w), .int (nI b), .int wr, .ref qc, .ref qi, .int wa, .int wc])), (qi, .inl (cI, w, .inl f2_9)), (h0, .inr (4, [.int lf, .int (nI mn), .ref qk, .ref qr]))] := hD
        have hK : va_K (dC, dI) vwCl [(cK, .int), (cR, .int), (cI, .int)] s := hK
        have hw_r_10 := hw
        refine lv_iconst (v := 2) hx hb dX4_layOut_36 (by decide) ?_
        refine lv_iload_n hx hb dX4_layOut_37 rfl (lv_at hl 2 rfl) ?_
        refine lv_imul hx hb dX4_layOut_38 ?_
        refine lv_topi (fun z_11 _ => ?_)
        refine lv_iadd hx hb dX4_layOut_39 ?_
        refine lv_topi (fun z_12 _ => ?_)
        refine lv_iconst (v := 1) hx hb dX4_layOut_40 (by decide) ?_
        refine lv_iadd hx hb dX4_layOut_41 ?_
        refine lv_topi (fun z_13 _ => ?_)
        refine lv_aload_n hx hb dX4_layOut_42 rfl (lv_at hl 0 rfl) ?_
        refine lv_iload_n hx hb dX4_layOut_43 rfl (lv_at hl 2 rfl) ?_
        have hPc := hP.sub (ws' := [(h0, .inr (4, [.int lf, .int (nI mn), .ref qk, .ref qr])), (qk, .inl (cK, n, .inl f)), (qr, .inl (cR, n, .inl g))]) [4, 0, 1] rfl
        have hDc := hD.sub (ws' := [(h0, .inr (4, [.int lf, .int (nI mn), .ref qk, .ref qr])), (qk, .inl (cK, n, .inl f)), (qr, .inl (cR, n, .inl g))]) [4, 0, 1] (by decide) rfl
        have hKc := hK.sub (tys' := [(cK, .int), (cR, .int)]) [0, 1] rfl
        have hFc := va_free (wc := [(h0, .inr (4, [.int lf, .int (nI mn), .ref qk, .ref qr])), (qk, .inl (cK, n, .inl f)), (qr, .inl (cR, n, .inl g))]) hD hS hA [4, 0, 1] rfl
        refine va_calli (va_runV (As := [.int (nI i)]) (rest := [.int z_13, .ref hd]) ⟨hx, hb, hml, hown, hts⟩ (c_X4_refAt l dC dI H.size h0 qk qr n mn lf cK cR f g (nI i) (by first | assumption | omega | decide) (by first | assumption | omega | decide)) (cwV 1 hts g_X4_layOut_X4_refAt rfl rfl rfl (by decide +kernel) ⟨Nat.le_of_ble_eq_true rfl, Nat.le_of_ble_eq_true rfl⟩) ⟨fun a U g mk q => by obtain ⟨q0, q1, qP, qK, qD⟩ := q; exact ⟨q0, q1, qP, va_K.moved (u := U) (U := U.calling g mk a) (Vm.Alike.refl U.vm) qK, qD⟩, va_recv hKc hPc (ci := 4) (q0 := 0) rfl rfl, fun U hU hW => ⟨rfl, by rw [hU], by rw [hU]; exact hPc, va_K.moved hW.alike hKc, hDc.weaken (fun _ _ _ _ => trivial)⟩⟩ rfl rfl hl.1 rfl (lv_room (Nat.le_of_ble_eq_true rfl)) dX4_layOut_44 ⟨(show 0 + 0 ≤ 0 by omega), (show 0 + 0 ≤ 0 by omega)⟩) hS (fun q _ h => hFc q h) hFc (fun r_14 u t H1 locs ht hvm hw hB hz1 hk1 hS => ?_)
        obtain ⟨hP1, hK1, hD1⟩ := hB
        rw [ht] at hP1
        have hK1 := va_K.moved hvm.symm hK1
        try dsimp only at hw
        obtain ⟨hP, hD⟩ := va_join (wr := [(hd, .inr (0, [.int (nI w), .int (nI b), .int wr, .ref qc, .ref qi, .int wa, .int wc])), (qi, .inl (cI, w, .inl f2_9))]) (w1 := [(h0, .inr (4, [.int lf, .int (nI mn), .ref qk, .ref qr])), (qk, .inl (cK, n, .inl f)), (qr, .inl (cR, n, .inl g))]) hP hD [4, 0, 1] [2, 3] rfl rfl (by decide) (by decide) hk1 hFc hP1 hD1
        have hK := (hK.sub (tys' := [(cI, .int)]) [2] rfl).app hK1
        generalize H1 = H at hP hS ⊢
        have hP : va_P (dC, dI) vwCl [(hd, .inr (0, [.int (nI w), .int (nI b), .int wr, .ref qc, .ref qi, .int wa, .int wc])), (qi, .inl (cI, w, .inl f2_9)), (h0, .inr (4, [.int lf, .int (nI mn), .ref qk, .ref qr])), (qk, .inl (cK, n, .inl f)), (qr, .inl (cR, n, .inl g))] H := hP
        have hD : va_D A [(hd, .inr (0, [.int (nI w), .int (nI b), .int wr, .ref qc, .ref qi, .int wa, .int wc])), (qi, .inl (cI, w, .inl f2_9)), (h0, .inr (4, [.int lf, .int (nI mn), .ref qk, .ref qr])), (qk, .inl (cK, n, .inl f)), (qr, .inl (cR, n, .inl g))] := hD
        have hK : va_K (dC, dI) vwCl [(cI, .int), (cK, .int), (cR, .int)] s := hK
        have hw_r_14 := hw
        have hPc := hP.sub (ws' := [(hd, .inr (0, [.int (nI w), .int (nI b), .int wr, .ref qc, .ref qi, .int wa, .int wc])), (qi, .inl (cI, w, .inl f2_9))]) [0, 1] rfl
        have hDc := hD.sub (ws' := [(hd, .inr (0, [.int (nI w), .int (nI b), .int wr, .ref qc, .ref qi, .int wa, .int wc])), (qi, .inl (cI, w, .inl f2_9))]) [0, 1] (by decide) rfl
        have hKc := hK.sub (tys' := [(cI, .int)]) [0] rfl
        have hFc := va_free (wc := [(hd, .inr (0, [.int (nI w), .int (nI b), .int wr, .ref qc, .ref qi, .int wa, .int wc])), (qi, .inl (cI, w, .inl f2_9))]) hD hS hA [0, 1] rfl
        refine va_callv (va_runV (As := [.int z_13, .int r_14]) (rest := []) ⟨hx, hb, hml, hown, hts⟩ (c_X0_lay l dC dI H.size hd w b qc qi wr wa wc z_13 r_14 cI f2_9 (by first | assumption | omega | decide)) (cwV 2 hts g_X4_layOut_X0_lay rfl rfl rfl (by decide +kernel) ⟨Nat.le_of_ble_eq_true rfl, Nat.le_of_ble_eq_true rfl⟩) ⟨fun a U g mk q => by obtain ⟨q0, q1, qP, qK, qD⟩ := q; exact ⟨q0, q1, qP, va_K.moved (u := U) (U := U.calling g mk a) (Vm.Alike.refl U.vm) qK, qD⟩, va_recv hKc hPc (ci := 0) (q0 := 0) rfl rfl, fun U hU hW => ⟨rfl, by rw [hU], by rw [hU]; exact hPc, va_K.moved hW.alike hKc, hDc.weaken (fun _ _ _ _ => trivial)⟩⟩ rfl rfl hl.1 rfl (lv_room (Nat.le_of_ble_eq_true rfl)) dX4_layOut_47 ⟨(show 0 + 0 ≤ 0 by omega), (show 0 + 0 ≤ 0 by omega)⟩) hS (fun q _ h => hFc q h) hFc (fun u t H1 locs ht hvm hw hB hz1 hk1 hS => ?_)
        obtain ⟨f2_16, rfl⟩ : ∃ z, z = u := ⟨_, rfl⟩
        obtain ⟨hP1, hK1, hD1⟩ := hB
        rw [ht] at hP1
        have hK1 := va_K.moved hvm.symm hK1
        try dsimp only at hw
        obtain ⟨hP, hD⟩ := va_join (wr := [(h0, .inr (4, [.int lf, .int (nI mn), .ref qk, .ref qr])), (qk, .inl (cK, n, .inl f)), (qr, .inl (cR, n, .inl g))]) (w1 := [(hd, .inr (0, [.int (nI w), .int (nI b), .int wr, .ref qc, .ref qi, .int wa, .int wc])), (qi, .inl (cI, w, .inl f2_16))]) hP hD [0, 1] [2, 3, 4] rfl rfl (by decide) (by decide) hk1 hFc hP1 hD1
        have hK := (hK.sub (tys' := [(cK, .int), (cR, .int)]) [1, 2] rfl).app hK1
        generalize H1 = H at hP hS ⊢
        have hP : va_P (dC, dI) vwCl [(h0, .inr (4, [.int lf, .int (nI mn), .ref qk, .ref qr])), (qk, .inl (cK, n, .inl f)), (qr, .inl (cR, n, .inl g)), (hd, .inr (0, [.int (nI w), .int (nI b), .int wr, .ref qc, .ref qi, .int wa, .int wc])), (qi, .inl (cI, w, .inl f2_16))] H := hP
        have hD : va_D A [(h0, .inr (4, [.int lf, .int (nI mn), .ref qk, .ref qr])), (qk, .inl (cK, n, .inl f)), (qr, .inl (cR, n, .inl g)), (hd, .inr (0, [.int (nI w), .int (nI b), .int wr, .ref qc, .ref qi, .int wa, .int wc])), (qi, .inl (cI, w, .inl f2_16))] := hD
        have hK : va_K (dC, dI) vwCl [(cK, .int), (cR, .int), (cI, .int)] s := hK
        refine lv_iinc (v := (nI (i + 1))) (lv' := [(2, .int (nI (i + 1))), (0, .ref h0), (1, .ref hd)]) hx hb dX4_layOut_50 hl (k := 2) rfl (nI_1 i) (by decide) rfl (fun ls hl => ?_)
        refine lv_goto (tgt := 6) hx hb dX4_layOut_53 (by decide) ?_
        exact ih (i + 1) f2_16 _ _ _ (by omega) (by omega) (hP.sub [3, 4, 0, 1, 2] rfl) (hD.sub [3, 4, 0, 1, 2] (by decide) rfl) hS (lv_sub hl [1, 2, 0] rfl)
  refine loop_6 _ (fun i gv H locs ls hi hP hD hS hl => ?_) (mn + 1) 0 f2_2 _ _ _ (by omega) (by omega) (hP.sub [3, 4, 0, 1, 2] rfl) (hD.sub [3, 4, 0, 1, 2] (by decide) rfl) hS (lv_sub hl [1, 2, 0] rfl)
  refine lv_aload_n hx hb dX4_layOut_56 rfl (lv_at hl 1 rfl) ?_
  refine lv_iconst (v := 0) hx hb dX4_layOut_57 (by decide) ?_
  refine lv_aload_n hx hb dX4_layOut_58 rfl (lv_at hl 0 rfl) ?_
  refine va_get (D := (dC, dI)) (ci := 4) (v := .int lf) (C := RX4) (T := TX4) (N := 4) hx hb hts k_1 hown hK hP 2 rfl rfl 0 (by decide) k_3 (fun _ h9 => h9) rfl dX4_layOut_59 ?_
  refine lv_if_eq (tgt := 69) hx hb dX4_layOut_62 (by decide) (fun c_17 => ?_) (fun c_17 => ?_)
  · refine lv_iconst (v := 2) hx hb dX4_layOut_69 (by decide) ?_
    have hPc := hP.sub (ws' := [(hd, .inr (0, [.int (nI w), .int (nI b), .int wr, .ref qc, .ref qi, .int wa, .int wc])), (qi, .inl (cI, w, .inl gv))]) [0, 1] rfl
    have hDc := hD.sub (ws' := [(hd, .inr (0, [.int (nI w), .int (nI b), .int wr, .ref qc, .ref qi, .int wa, .int wc])), (qi, .inl (cI, w, .inl gv))]) [0, 1] (by decide) rfl
    have hKc := hK.sub (tys' := [(cI, .int)]) [2] rfl
    have hFc := va_free (wc := [(hd, .inr (0, [.int (nI w), .int (nI b), .int wr, .ref qc, .ref qi, .int wa, .int wc])), (qi, .inl (cI, w, .inl gv))]) hD hS hA [0, 1] rfl
    refine va_callv (va_runV (As := [.int 0, .int 2]) (rest := []) ⟨hx, hb, hml, hown, hts⟩ (c_X0_lay l dC dI H.size hd w b qc qi wr wa wc 0 2 cI gv (by first | assumption | omega | decide)) (cwV 2 hts g_X4_layOut_X0_lay rfl rfl rfl (by decide +kernel) ⟨Nat.le_of_ble_eq_true rfl, Nat.le_of_ble_eq_true rfl⟩) ⟨fun a U g mk q => by obtain ⟨q0, q1, qP, qK, qD⟩ := q; exact ⟨q0, q1, qP, va_K.moved (u := U) (U := U.calling g mk a) (Vm.Alike.refl U.vm) qK, qD⟩, va_recv hKc hPc (ci := 0) (q0 := 0) rfl rfl, fun U hU hW => ⟨rfl, by rw [hU], by rw [hU]; exact hPc, va_K.moved hW.alike hKc, hDc.weaken (fun _ _ _ _ => trivial)⟩⟩ rfl rfl hl.1 rfl (lv_room (Nat.le_of_ble_eq_true rfl)) dX4_layOut_70 ⟨(show 0 + 0 ≤ 0 by omega), (show 0 + 0 ≤ 0 by omega)⟩) hS (fun q _ h => hFc q h) hFc (fun u t H1 locs ht hvm hw hB hz1 hk1 hS => ?_)
    obtain ⟨f2_19, rfl⟩ : ∃ z, z = u := ⟨_, rfl⟩
    obtain ⟨hP1, hK1, hD1⟩ := hB
    rw [ht] at hP1
    have hK1 := va_K.moved hvm.symm hK1
    try dsimp only at hw
    obtain ⟨hP, hD⟩ := va_join (wr := [(h0, .inr (4, [.int lf, .int (nI mn), .ref qk, .ref qr])), (qk, .inl (cK, n, .inl f)), (qr, .inl (cR, n, .inl g))]) (w1 := [(hd, .inr (0, [.int (nI w), .int (nI b), .int wr, .ref qc, .ref qi, .int wa, .int wc])), (qi, .inl (cI, w, .inl f2_19))]) hP hD [0, 1] [2, 3, 4] rfl rfl (by decide) (by decide) hk1 hFc hP1 hD1
    have hK := (hK.sub (tys' := [(cK, .int), (cR, .int)]) [0, 1] rfl).app hK1
    generalize H1 = H at hP hS ⊢
    have hP : va_P (dC, dI) vwCl [(h0, .inr (4, [.int lf, .int (nI mn), .ref qk, .ref qr])), (qk, .inl (cK, n, .inl f)), (qr, .inl (cR, n, .inl g)), (hd, .inr (0, [.int (nI w), .int (nI b), .int wr, .ref qc, .ref qi, .int wa, .int wc])), (qi, .inl (cI, w, .inl f2_19))] H := hP
    have hD : va_D A [(h0, .inr (4, [.int lf, .int (nI mn), .ref qk, .ref qr])), (qk, .inl (cK, n, .inl f)), (qr, .inl (cR, n, .inl g)), (hd, .inr (0, [.int (nI w), .int (nI b), .int wr, .ref qc, .ref qi, .int wa, .int wc])), (qi, .inl (cI, w, .inl f2_19))] := hD
    have hK : va_K (dC, dI) vwCl [(cK, .int), (cR, .int), (cI, .int)] s := hK
    refine lv_aload_n hx hb dX4_layOut_73 rfl (lv_at hl 1 rfl) ?_
    refine lv_iconst (v := 1) hx hb dX4_layOut_74 (by decide) ?_
    refine lv_aload_n hx hb dX4_layOut_75 rfl (lv_at hl 0 rfl) ?_
    refine va_get (D := (dC, dI)) (ci := 4) (v := .int (nI mn)) (C := RX4) (T := TX4) (N := 4) hx hb hts k_1 hown hK hP 0 rfl rfl 1 (by decide) k_2 (fun _ h9 => h9) rfl dX4_layOut_76 ?_
    have hPc := hP.sub (ws' := [(hd, .inr (0, [.int (nI w), .int (nI b), .int wr, .ref qc, .ref qi, .int wa, .int wc])), (qi, .inl (cI, w, .inl f2_19))]) [3, 4] rfl
    have hDc := hD.sub (ws' := [(hd, .inr (0, [.int (nI w), .int (nI b), .int wr, .ref qc, .ref qi, .int wa, .int wc])), (qi, .inl (cI, w, .inl f2_19))]) [3, 4] (by decide) rfl
    have hKc := hK.sub (tys' := [(cI, .int)]) [2] rfl
    have hFc := va_free (wc := [(hd, .inr (0, [.int (nI w), .int (nI b), .int wr, .ref qc, .ref qi, .int wa, .int wc])), (qi, .inl (cI, w, .inl f2_19))]) hD hS hA [3, 4] rfl
    refine va_callv (va_runV (As := [.int 1, .int (nI mn)]) (rest := []) ⟨hx, hb, hml, hown, hts⟩ (c_X0_lay l dC dI H.size hd w b qc qi wr wa wc 1 (nI mn) cI f2_19 (by first | assumption | omega | decide)) (cwV 2 hts g_X4_layOut_X0_lay rfl rfl rfl (by decide +kernel) ⟨Nat.le_of_ble_eq_true rfl, Nat.le_of_ble_eq_true rfl⟩) ⟨fun a U g mk q => by obtain ⟨q0, q1, qP, qK, qD⟩ := q; exact ⟨q0, q1, qP, va_K.moved (u := U) (U := U.calling g mk a) (Vm.Alike.refl U.vm) qK, qD⟩, va_recv hKc hPc (ci := 0) (q0 := 0) rfl rfl, fun U hU hW => ⟨rfl, by rw [hU], by rw [hU]; exact hPc, va_K.moved hW.alike hKc, hDc.weaken (fun _ _ _ _ => trivial)⟩⟩ rfl rfl hl.1 rfl (lv_room (Nat.le_of_ble_eq_true rfl)) dX4_layOut_79 ⟨(show 0 + 0 ≤ 0 by omega), (show 0 + 0 ≤ 0 by omega)⟩) hS (fun q _ h => hFc q h) hFc (fun u t H1 locs ht hvm hw hB hz1 hk1 hS => ?_)
    obtain ⟨f2_21, rfl⟩ : ∃ z, z = u := ⟨_, rfl⟩
    obtain ⟨hP1, hK1, hD1⟩ := hB
    rw [ht] at hP1
    have hK1 := va_K.moved hvm.symm hK1
    try dsimp only at hw
    obtain ⟨hP, hD⟩ := va_join (wr := [(h0, .inr (4, [.int lf, .int (nI mn), .ref qk, .ref qr])), (qk, .inl (cK, n, .inl f)), (qr, .inl (cR, n, .inl g))]) (w1 := [(hd, .inr (0, [.int (nI w), .int (nI b), .int wr, .ref qc, .ref qi, .int wa, .int wc])), (qi, .inl (cI, w, .inl f2_21))]) hP hD [3, 4] [0, 1, 2] rfl rfl (by decide) (by decide) hk1 hFc hP1 hD1
    have hK := (hK.sub (tys' := [(cK, .int), (cR, .int)]) [0, 1] rfl).app hK1
    generalize H1 = H at hP hS ⊢
    have hP : va_P (dC, dI) vwCl [(h0, .inr (4, [.int lf, .int (nI mn), .ref qk, .ref qr])), (qk, .inl (cK, n, .inl f)), (qr, .inl (cR, n, .inl g)), (hd, .inr (0, [.int (nI w), .int (nI b), .int wr, .ref qc, .ref qi, .int wa, .int wc])), (qi, .inl (cI, w, .inl f2_21))] H := hP
    have hD : va_D A [(h0, .inr (4, [.int lf, .int (nI mn), .ref qk, .ref qr])), (qk, .inl (cK, n, .inl f)), (qr, .inl (cR, n, .inl g)), (hd, .inr (0, [.int (nI w), .int (nI b), .int wr, .ref qc, .ref qi, .int wa, .int wc])), (qi, .inl (cI, w, .inl f2_21))] := hD
    have hK : va_K (dC, dI) vwCl [(cK, .int), (cR, .int), (cI, .int)] s := hK
    have hP9 := hP.sub (ws' := [(hd, .inr (0, [.int (nI w), .int (nI b), .int wr, .ref qc, .ref qi, .int wa, .int wc])), (qi, .inl (cI, w, .inl f2_21)), (h0, .inr (4, [.int lf, .int (nI mn), .ref qk, .ref qr])), (qk, .inl (cK, n, .inl f)), (qr, .inl (cR, n, .inl g))]) [3, 4, 0, 1, 2] rfl
    have hD9 := hD.sub (ws' := [(hd, .inr (0, [.int (nI w), .int (nI b), .int wr, .ref qc, .ref qi, .int wa, .int wc])), (qi, .inl (cI, w, .inl f2_21)), (h0, .inr (4, [.int lf, .int (nI mn), .ref qk, .ref qr])), (qk, .inl (cK, n, .inl f)), (qr, .inl (cR, n, .inl g))]) [3, 4, 0, 1, 2] (by decide) rfl
    have hK9 := hK.sub (tys' := [(cI, .int), (cK, .int), (cR, .int)]) [2, 0, 1] rfl
    exact W.vret hx hb hr (fun t ht hW => ⟨⟨(f2_21), rfl, trivial, by rw [ht]; exact hP9, va_K.moved hW.alike hK9, hD9⟩, hS.F ht⟩) hS.2.2 dX4_layOut_82
  · refine lv_iconst (v := 1) hx hb dX4_layOut_65 (by decide) ?_
    refine lv_goto (tgt := 70) hx hb dX4_layOut_66 (by decide) ?_
    have hPc := hP.sub (ws' := [(hd, .inr (0, [.int (nI w), .int (nI b), .int wr, .ref qc, .ref qi, .int wa, .int wc])), (qi, .inl (cI, w, .inl gv))]) [0, 1] rfl
    have hDc := hD.sub (ws' := [(hd, .inr (0, [.int (nI w), .int (nI b), .int wr, .ref qc, .ref qi, .int wa, .int wc])), (qi, .inl (cI, w, .inl gv))]) [0, 1] (by decide) rfl
    have hKc := hK.sub (tys' := [(cI, .int)]) [2] rfl
    have hFc := va_free (wc := [(hd, .inr (0, [.int (nI w), .int (nI b), .int wr, .ref qc, .ref qi, .int wa, .int wc])), (qi, .inl (cI, w, .inl gv))]) hD hS hA [0, 1] rfl
    refine va_callv (va_runV (As := [.int 0, .int 1]) (rest := []) ⟨hx, hb, hml, hown, hts⟩ (c_X0_lay l dC dI H.size hd w b qc qi wr wa wc 0 1 cI gv (by first | assumption | omega | decide)) (cwV 2 hts g_X4_layOut_X0_lay rfl rfl rfl (by decide +kernel) ⟨Nat.le_of_ble_eq_true rfl, Nat.le_of_ble_eq_true rfl⟩) ⟨fun a U g mk q => by obtain ⟨q0, q1, qP, qK, qD⟩ := q; exact ⟨q0, q1, qP, va_K.moved (u := U) (U := U.calling g mk a) (Vm.Alike.refl U.vm) qK, qD⟩, va_recv hKc hPc (ci := 0) (q0 := 0) rfl rfl, fun U hU hW => ⟨rfl, by rw [hU], by rw [hU]; exact hPc, va_K.moved hW.alike hKc, hDc.weaken (fun _ _ _ _ => trivial)⟩⟩ rfl rfl hl.1 rfl (lv_room (Nat.le_of_ble_eq_true rfl)) dX4_layOut_70 ⟨(show 0 + 0 ≤ 0 by omega), (show 0 + 0 ≤ 0 by omega)⟩) hS (fun q _ h => hFc q h) hFc (fun u t H1 locs ht hvm hw hB hz1 hk1 hS => ?_)
    obtain ⟨f2_23, rfl⟩ : ∃ z, z = u := ⟨_, rfl⟩
    obtain ⟨hP1, hK1, hD1⟩ := hB
    rw [ht] at hP1
    have hK1 := va_K.moved hvm.symm hK1
    try dsimp only at hw
    obtain ⟨hP, hD⟩ := va_join (wr := [(h0, .inr (4, [.int lf, .int (nI mn), .ref qk, .ref qr])), (qk, .inl (cK, n, .inl f)), (qr, .inl (cR, n, .inl g))]) (w1 := [(hd, .inr (0, [.int (nI w), .int (nI b), .int wr, .ref qc, .ref qi, .int wa, .int wc])), (qi, .inl (cI, w, .inl f2_23))]) hP hD [0, 1] [2, 3, 4] rfl rfl (by decide) (by decide) hk1 hFc hP1 hD1
    have hK := (hK.sub (tys' := [(cK, .int), (cR, .int)]) [0, 1] rfl).app hK1
    generalize H1 = H at hP hS ⊢
    have hP : va_P (dC, dI) vwCl [(h0, .inr (4, [.int lf, .int (nI mn), .ref qk, .ref qr])), (qk, .inl (cK, n, .inl f)), (qr, .inl (cR, n, .inl g)), (hd, .inr (0, [.int (nI w), .int (nI b), .int wr, .ref qc, .ref qi, .int wa, .int wc])), (qi, .inl (cI, w, .inl f2_23))] H := hP
    have hD : va_D A [(h0, .inr (4, [.int lf, .int (nI mn), .ref qk, .ref qr])), (qk, .inl (cK, n, .inl f)), (qr, .inl (cR, n, .inl g)), (hd, .inr (0, [.int (nI w), .int (nI b), .int wr, .ref qc, .ref qi, .int wa, .int wc])), (qi, .inl (cI, w, .inl f2_23))] := hD
    have hK : va_K (dC, dI) vwCl [(cK, .int), (cR, .int), (cI, .int)] s := hK
    refine lv_aload_n hx hb dX4_layOut_73 rfl (lv_at hl 1 rfl) ?_
    refine lv_iconst (v := 1) hx hb dX4_layOut_74 (by decide) ?_
    refine lv_aload_n hx hb dX4_layOut_75 rfl (lv_at hl 0 rfl) ?_
    refine va_get (D := (dC, dI)) (ci := 4) (v := .int (nI mn)) (C := RX4) (T := TX4) (N := 4) hx hb hts k_1 hown hK hP 0 rfl rfl 1 (by decide) k_2 (fun _ h9 => h9) rfl dX4_layOut_76 ?_
    have hPc := hP.sub (ws' := [(hd, .inr (0, [.int (nI w), .int (nI b), .int wr, .ref qc, .ref qi, .int wa, .int wc])), (qi, .inl (cI, w, .inl f2_23))]) [3, 4] rfl
    have hDc := hD.sub (ws' := [(hd, .inr (0, [.int (nI w), .int (nI b), .int wr, .ref qc, .ref qi, .int wa, .int wc])), (qi, .inl (cI, w, .inl f2_23))]) [3, 4] (by decide) rfl
    have hKc := hK.sub (tys' := [(cI, .int)]) [2] rfl
    have hFc := va_free (wc := [(hd, .inr (0, [.int (nI w), .int (nI b), .int wr, .ref qc, .ref qi, .int wa, .int wc])), (qi, .inl (cI, w, .inl f2_23))]) hD hS hA [3, 4] rfl
    refine va_callv (va_runV (As := [.int 1, .int (nI mn)]) (rest := []) ⟨hx, hb, hml, hown, hts⟩ (c_X0_lay l dC dI H.size hd w b qc qi wr wa wc 1 (nI mn) cI f2_23 (by first | assumption | omega | decide)) (cwV 2 hts g_X4_layOut_X0_lay rfl rfl rfl (by decide +kernel) ⟨Nat.le_of_ble_eq_true rfl, Nat.le_of_ble_eq_true rfl⟩) ⟨fun a U g mk q => by obtain ⟨q0, q1, qP, qK, qD⟩ := q; exact ⟨q0, q1, qP, va_K.moved (u := U) (U := U.calling g mk a) (Vm.Alike.refl U.vm) qK, qD⟩, va_recv hKc hPc (ci := 0) (q0 := 0) rfl rfl, fun U hU hW => ⟨rfl, by rw [hU], by rw [hU]; exact hPc, va_K.moved hW.alike hKc, hDc.weaken (fun _ _ _ _ => trivial)⟩⟩ rfl rfl hl.1 rfl (lv_room (Nat.le_of_ble_eq_true rfl)) dX4_layOut_79 ⟨(show 0 + 0 ≤ 0 by omega), (show 0 + 0 ≤ 0 by omega)⟩) hS (fun q _ h => hFc q h) hFc (fun u t H1 locs ht hvm hw hB hz1 hk1 hS => ?_)
    obtain ⟨f2_25, rfl⟩ : ∃ z, z = u := ⟨_, rfl⟩
    obtain ⟨hP1, hK1, hD1⟩ := hB
    rw [ht] at hP1
    have hK1 := va_K.moved hvm.symm hK1
    try dsimp only at hw
    obtain ⟨hP, hD⟩ := va_join (wr := [(h0, .inr (4, [.int lf, .int (nI mn), .ref qk, .ref qr])), (qk, .inl (cK, n, .inl f)), (qr, .inl (cR, n, .inl g))]) (w1 := [(hd, .inr (0, [.int (nI w), .int (nI b), .int wr, .ref qc, .ref qi, .int wa, .int wc])), (qi, .inl (cI, w, .inl f2_25))]) hP hD [3, 4] [0, 1, 2] rfl rfl (by decide) (by decide) hk1 hFc hP1 hD1
    have hK := (hK.sub (tys' := [(cK, .int), (cR, .int)]) [0, 1] rfl).app hK1
    generalize H1 = H at hP hS ⊢
    have hP : va_P (dC, dI) vwCl [(h0, .inr (4, [.int lf, .int (nI mn), .ref qk, .ref qr])), (qk, .inl (cK, n, .inl f)), (qr, .inl (cR, n, .inl g)), (hd, .inr (0, [.int (nI w), .int (nI b), .int wr, .ref qc, .ref qi, .int wa, .int wc])), (qi, .inl (cI, w, .inl f2_25))] H := hP
    have hD : va_D A [(h0, .inr (4, [.int lf, .int (nI mn), .ref qk, .ref qr])), (qk, .inl (cK, n, .inl f)), (qr, .inl (cR, n, .inl g)), (hd, .inr (0, [.int (nI w), .int (nI b), .int wr, .ref qc, .ref qi, .int wa, .int wc])), (qi, .inl (cI, w, .inl f2_25))] := hD
    have hK : va_K (dC, dI) vwCl [(cK, .int), (cR, .int), (cI, .int)] s := hK
    have hP9 := hP.sub (ws' := [(hd, .inr (0, [.int (nI w), .int (nI b), .int wr, .ref qc, .ref qi, .int wa, .int wc])), (qi, .inl (cI, w, .inl f2_25)), (h0, .inr (4, [.int lf, .int (nI mn), .ref qk, .ref qr])), (qk, .inl (cK, n, .inl f)), (qr, .inl (cR, n, .inl g))]) [3, 4, 0, 1, 2] rfl
    have hD9 := hD.sub (ws' := [(hd, .inr (0, [.int (nI w), .int (nI b), .int wr, .ref qc, .ref qi, .int wa, .int wc])), (qi, .inl (cI, w, .inl f2_25)), (h0, .inr (4, [.int lf, .int (nI mn), .ref qk, .ref qr])), (qk, .inl (cK, n, .inl f)), (qr, .inl (cR, n, .inl g))]) [3, 4, 0, 1, 2] (by decide) rfl
    have hK9 := hK.sub (tys' := [(cI, .int), (cK, .int), (cR, .int)]) [2, 0, 1] rfl
    exact W.vret hx hb hr (fun t ht hW => ⟨⟨(f2_25), rfl, trivial, by rw [ht]; exact hP9, va_K.moved hW.alike hK9, hD9⟩, hS.F ht⟩) hS.2.2 dX4_layOut_82
def v_X4_readFrom : List Cond := .code yX4_readFrom cX4_readFrom 9 (some .boolean) :: ([.code yX0_read cX0_read 4 (some .int), .code yX0_cellOf cX0_cellOf 4 (some .int), .fieldLink RX0 13 "TwinRoots$Disk" "blocks" "I", .fieldLink RX0 7 "TwinRoots$Disk" "words" "I", .methodLink RX0 38 yX0_cellOf, .instanceMethod yX0_cellOf, .selects RX0 yX0_cellOf yX0_cellOf, .initialized RX0, .fieldLink RX0 16 "TwinRoots$Disk" "cells" "[I", .methodLink RX4 67 yX0_read, .instanceMethod yX0_read, .selects RX0 yX0_read yX0_read, .code yX4_clear cX4_clear 2 none, .fieldLink RX4 9 "TwinRoots$Page" "leaf" "Z", .fieldLink RX4 22 "TwinRoots$Page" "many" "I", .methodLink RX4 26 yX4_clear, .instanceMethod yX4_clear, .selects RX4 yX4_clear yX4_clear, .initialized RX4, .code yX3_most cX3_most 2 (some .int), .fieldLink RX3 13 "TwinRoots$Limits" "mostChildren" "I", .fieldLink RX3 7 "TwinRoots$Limits" "mostKeys" "I", .methodLink RX4 71 yX3_most, .instanceMethod yX3_most, .selects RX3 yX3_most yX3_most, .initialized RX3, .code yX0_isSealed cX0_isSealed 4 (some .boolean), .code yX0_sealOf cX0_sealOf 5 (some .int), .code Lib.Math.max.name Lib.Math.max.code 2 (some .int), .methodLink RX0 26 Lib.Math.max.name, .static Lib.Math.max.name, .initialized "java/lang/Math", .methodLink RX0 41 yX0_sealOf, .static yX0_sealOf, .methodLink RX4 77 yX0_isSealed, .instanceMethod yX0_isSealed, .selects RX0 yX0_isSealed yX0_isSealed, .code yX4_firstKeyWord cX4_firstKeyWord 1 (some .int), .methodLink RX4 60 yX4_firstKeyWord, .instanceMethod yX4_firstKeyWord, .selects RX4 yX4_firstKeyWord yX4_firstKeyWord, .code yX4_insert cX4_insert 5 none, .fieldLink RX4 15 "TwinRoots$Page" "keys" "[I", .fieldLink RX4 19 "TwinRoots$Page" "refs" "[I", .code yX4_keyAt cX4_keyAt 2 (some .int), .methodLink RX4 34 yX4_keyAt, .instanceMethod yX4_keyAt, .selects RX4 yX4_keyAt yX4_keyAt, .code yX4_setKey cX4_setKey 3 none, .methodLink RX4 41 yX4_setKey, .instanceMethod yX4_setKey, .selects RX4 yX4_setKey yX4_setKey, .code yX4_refAt cX4_refAt 2 (some .int), .methodLink RX4 38 yX4_refAt, .instanceMethod yX4_refAt, .selects RX4 yX4_refAt yX4_refAt, .code yX4_setRef cX4_setRef 3 none, .methodLink RX4 45 yX4_setRef, .instanceMethod yX4_setRef, .selects RX4 yX4_setRef yX4_setRef, .methodLink RX4 80 yX4_insert, .instanceMethod yX4_insert, .selects RX4 yX4_insert yX4_insert] ++ (wsX00 ++ (wsX40 ++ (wsX30 ++ ([])))))
set_option maxRecDepth 20000 in
theorem g_X4_readFrom_X0_read_any : GoodIn v_X4_readFrom (wsV RX4 67 RX0 yX0_read v_X0_read_any) := goodIn_r _ [10, 11, 12, 8, 1, 2, 3, 4, 5, 6, 7, 8, 9, 64, 65, 66, 67, 68, 69, 70] (by decide +kernel) (by decide +kernel)
set_option maxRecDepth 20000 in
theorem g_X4_readFrom_X4_clear : GoodIn v_X4_readFrom (wsV RX4 26 RX4 yX4_clear v_X4_clear) := goodIn_r _ [16, 17, 18, 19, 13, 14, 15, 71, 72, 73, 74] (by decide +kernel) (by decide +kernel)
set_option maxRecDepth 20000 in
theorem g_X4_readFrom_X3_most : GoodIn v_X4_readFrom (wsV RX4 71 RX3 yX3_most v_X3_most) := goodIn_r _ [23, 24, 25, 26, 20, 21, 22, 75, 76] (by decide +kernel) (by decide +kernel)
set_option maxRecDepth 20000 in
theorem g_X4_readFrom_X0_isSealed : GoodIn v_X4_readFrom (wsV RX4 77 RX0 yX0_isSealed v_X0_isSealed) := goodIn_r _ [35, 36, 37, 8, 27, 2, 3, 4, 5, 6, 7, 8, 9, 28, 29, 30, 31, 32, 33, 34, 64, 65, 66, 67, 68, 69, 70] (by decide +kernel) (by decide +kernel)
set_option maxRecDepth 20000 in
theorem g_X4_readFrom_X4_firstKeyWord : GoodIn v_X4_readFrom (wsV RX4 60 RX4 yX4_firstKeyWord v_X4_firstKeyWord) := goodIn_r _ [39, 40, 41, 19, 38, 14, 71, 72, 73, 74] (by decide +kernel) (by decide +kernel)
set_option maxRecDepth 20000 in
theorem g_X4_readFrom_X4_insert : GoodIn v_X4_readFrom (wsV RX4 80 RX4 yX4_insert v_X4_insert) := goodIn_r _ [61, 62, 63, 19, 42, 15, 43, 44, 45, 46, 47, 48, 19, 49, 50, 51, 52, 53, 54, 55, 56, 57, 58, 59, 60, 71, 72, 73, 74] (by decide +kernel) (by decide +kernel)
set_option maxHeartbeats 4000000 in
set_option maxRecDepth 100000 in
/-- readFrom: some page -/
theorem c_X4_readFrom (l : Launch) (dC : Nat → ClassId) (dI : Nat → Nat → Nat) (sz : Nat) (h0 : Nat) (qk : Nat) (qr : Nat) (n : Nat) (mn : Nat) (lf : Int32) (cK : ClassId) (cR : ClassId) (f : Nat → Int32) (g : Nat → Int32) (hd : Nat) (w : Nat) (b : Nat) (qc : Nat) (qi : Nat) (wr : Int32) (wa : Int32) (wc : Int32) (hm : Nat) (p1 : Int32) (mk : Int32) (mc : Int32) (cC : ClassId) (fc : Nat → Int32) (zn : n ≤ 40) (zm : mn ≤ n) (zw0 : 12 ≤ w) (zw : w ≤ 40) (zb0 : 4 ≤ b) (zb : b ≤ 64) (zwb : w * b ≤ 2560) : Met l yX4_readFrom v_X4_readFrom ({ frames := 3, cells := 0, slots := 0, locals := 60 } : Room) (va_Pc [.ref h0, .ref hd, .int p1, .ref hm] (fun U => U.heap.size = sz ∧ va_P (dC, dI) vwCl [(hd, .inr (0, [.int (nI w), .int (nI b), .int wr, .ref qc, .ref qi, .int wa, .int wc])), (qc, .inl (cC, w * b, .inl fc)), (hm, .inr (3, [.int mk, .int mc])), (h0, .inr (4, [.int lf, .int (nI mn), .ref qk, .ref qr])), (qk, .inl (cK, n, .inl f)), (qr, .inl (cR, n, .inl g))] U.heap ∧ va_K (dC, dI) vwCl [(cC, .int), (cK, .int), (cR, .int)] U ∧ va_D (fun _ => True) [(hd, .inr (0, [.int (nI w), .int (nI b), .int wr, .ref qc, .ref qi, .int wa, .int wc])), (qc, .inl (cC, w * b, .inl fc)), (hm, .inr (3, [.int mk, .int mc])), (h0, .inr (4, [.int lf, .int (nI mn), .ref qk, .ref qr])), (qk, .inl (cK, n, .inl f)), (qr, .inl (cR, n, .inl g))])) (va_Qi (fun (r : Int32) (u : Int32 × Nat × (Nat → Int32) × (Nat → Int32)) => match u with | (lf2, m2, f2, g2) => (r = 0 ∨ r = 1) ∧ (lf2 = 0 ∨ lf2 = 1) ∧ m2 ≤ n) (fun (u : Int32 × Nat × (Nat → Int32) × (Nat → Int32)) (t : State) => match u with | (lf2, m2, f2, g2) => va_P (dC, dI) vwCl [(hd, .inr (0, [.int (nI w), .int (nI b), .int wr, .ref qc, .ref qi, .int wa, .int wc])), (qc, .inl (cC, w * b, .inl fc)), (hm, .inr (3, [.int mk, .int mc])), (h0, .inr (4, [.int lf2, .int (nI m2), .ref qk, .ref qr])), (qk, .inl (cK, n, .inl f2)), (qr, .inl (cR, n, .inl g2))] t.heap ∧ va_K (dC, dI) vwCl [(cC, .int), (cK, .int), (cR, .int)] t ∧ va_D (va_A [(hd, .inr (0, [.int (nI w), .int (nI b), .int wr, .ref qc, .ref qi, .int wa, .int wc])), (qc, .inl (cC, w * b, .inl fc)), (hm, .inr (3, [.int mk, .int mc])), (h0, .inr (4, [.int lf, .int (nI mn), .ref qk, .ref qr])), (qk, .inl (cK, n, .inl f)), (qr, .inl (cR, n, .inl g))] sz) [(hd, .inr (0, [.int (nI w), .int (nI b), .int wr, .ref qc, .ref qi, .int wa, .int wc])), (qc, .inl (cC, w * b, .inl fc)), (hm, .inr (3, [.int mk, .int mc])), (h0, .inr (4, [.int lf2, .int (nI m2), .ref qk, .ref qr])), (qk, .inl (cK, n, .inl f2)), (qr, .inl (cR, n, .inl g2))]) (va_A [(hd, .inr (0, [.int (nI w), .int (nI b), .int wr, .ref qc, .ref qi, .int wa, .int wc])), (qc, .inl (cC, w * b, .inl fc)), (hm, .inr (3, [.int mk, .int mc])), (h0, .inr (4, [.int lf, .int (nI mn), .ref qk, .ref qr])), (qk, .inl (cK, n, .inl f)), (qr, .inl (cR, n, .inl g))] sz)) 0 0 (va_A [(hd, .inr (0, [.int (nI w), .int (nI b), .int wr, .ref qc, .ref qi, .int wa, .int wc])), (qc, .inl (cC, w * b, .inl fc)), (hm, .inr (3, [.int mk, .int mc])), (h0, .inr (4, [.int lf, .int (nI mn), .ref qk, .ref qr])), (qk, .inl (cK, n, .inl f)), (qr, .inl (cR, n, .inl g))] sz) := by
  refine Met.ofW (cc := cX4_readFrom) (maxL := 9) (ret := (some .boolean)) (by decide) rfl ?_
  intro p e s m args below meth c s₁ B hml hv
  obtain ⟨rfl, hsz, hP, hK, hD0⟩ := hv
  have hx := B.exec
  have hb := B.bytes
  have hr := B.returns
  have hts := atoms_spec (ws := v_X4_readFrom) B.pre
  have hown : s.vm.findClass RX4 = some m.cls := findClass_of_methodNamed B.named
  have hlocks := B.notSynchronized
  subst hsz
  have hD := hD0.self (sz := s.heap.size)
  generalize hAe : va_A [(hd, .inr (0, [.int (nI w), .int (nI b), .int wr, .ref qc, .ref qi, .int wa, .int wc])), (qc, .inl (cC, w * b, .inl fc)), (hm, .inr (3, [.int mk, .int mc])), (h0, .inr (4, [.int lf, .int (nI mn), .ref qk, .ref qr])), (qk, .inl (cK, n, .inl f)), (qr, .inl (cR, n, .inl g))] s.heap.size = A at hD ⊢
  have hA : ∀ q : Nat, s.heap.size ≤ q → A q := fun q h => by rw [← hAe]; exact Or.inr h
  have hS : va_S A s.heap s.heap [] := va_S.rf
  have hP : va_P (dC, dI) vwCl [(hd, .inr (0, [.int (nI w), .int (nI b), .int wr, .ref qc, .ref qi, .int wa, .int wc])), (qc, .inl (cC, w * b, .inl fc)), (hm, .inr (3, [.int mk, .int mc])), (h0, .inr (4, [.int lf, .int (nI mn), .ref qk, .ref qr])), (qk, .inl (cK, n, .inl f)), (qr, .inl (cR, n, .inl g))] s.heap := hP
  have hl := lv_entry ([.ref h0, .ref hd, .int p1, .ref hm]) (n := 9) (Nat.le_of_ble_eq_true rfl)
  rw [lg_entry_eq]
  generalize (lg_sl ([.ref h0, .ref hd, .int p1, .ref hm]) ++ List.replicate (9 - (lg_sl ([.ref h0, .ref hd, .int p1, .ref hm])).length) Slot.unset).toArray = ls at hl ⊢
  have hl : lv_has ls 9 [(0, .ref h0), (1, .ref hd), (2, .int p1), (3, .ref hm)] := hl
  have k_1 := (fun _ h => List.mem_cons_of_mem _ (List.mem_append_right _ (List.mem_append_right _ (List.mem_append_left _ h))) : ∀ w ∈ wsX40, w ∈ v_X4_readFrom)
  have k_2 := hts (.fieldLink RX4 9 "TwinRoots$Page" "leaf" "Z") (List.mem_of_getElem? (i := 14) rfl)
  refine lv_aload_n hx hb dX4_readFrom_0 rfl (lv_at hl 1 rfl) ?_
  refine lv_iload_n hx hb dX4_readFrom_1 rfl (lv_at hl 2 rfl) ?_
  refine lv_iconst (v := 0) hx hb dX4_readFrom_2 (by decide) ?_
  have hPc := hP.sub (ws' := [(hd, .inr (0, [.int (nI w), .int (nI b), .int wr, .ref qc, .ref qi, .int wa, .int wc])), (qc, .inl (cC, w * b, .inl fc))]) [0, 1] rfl
  have hDc := hD.sub (ws' := [(hd, .inr (0, [.int (nI w), .int (nI b), .int wr, .ref qc, .ref qi, .int wa, .int wc])), (qc, .inl (cC, w * b, .inl fc))]) [0, 1] (by decide) rfl
  have hKc := hK.sub (tys' := [(cC, .int)]) [0] rfl
  have hFc := va_free (wc := [(hd, .inr (0, [.int (nI w), .int (nI b), .int wr, .ref qc, .ref qi, .int wa, .int wc])), (qc, .inl (cC, w * b, .inl fc))]) hD hS hA [0, 1] rfl
  refine va_calli (va_runV (As := [.int p1, .int 0]) (rest := []) ⟨hx, hb, hml, hown, hts⟩ (c_X0_read_any l dC dI s.heap.size hd w b qc qi wr wa wc p1 0 cC fc (by first | assumption | omega | decide) (by first | assumption | omega | decide) (by first | assumption | omega | decide) (by first | assumption | omega | decide) (by first | assumption | omega | decide)) (cwV 2 hts g_X4_readFrom_X0_read_any rfl rfl rfl (by decide +kernel) ⟨Nat.le_of_ble_eq_true rfl, Nat.le_of_ble_eq_true rfl⟩) ⟨fun a U g mk q => by obtain ⟨q0, q1, qP, qK, qD⟩ := q; exact ⟨q0, q1, qP, va_K.moved (u := U) (U := U.calling g mk a) (Vm.Alike.refl U.vm) qK, qD⟩, va_recv hKc hPc (ci := 0) (q0 := 0) rfl rfl, fun U hU hW => ⟨rfl, by rw [hU], by rw [hU]; exact hPc, va_K.moved hW.alike hKc, hDc.weaken (fun _ _ _ _ => trivial)⟩⟩ rfl rfl hl.1 rfl (lv_room (Nat.le_of_ble_eq_true rfl)) dX4_readFrom_3 ⟨(show 0 + 0 ≤ 0 by omega), (show 0 + 0 ≤ 0 by omega)⟩) hS (fun q _ h => hFc q h) hFc (fun r_1 u t H1 locs ht hvm hw hB hz1 hk1 hS => ?_)
  obtain ⟨hP1, hK1, hD1⟩ := hB
  rw [ht] at hP1
  have hK1 := va_K.moved hvm.symm hK1
  try dsimp only at hw
  obtain ⟨hP, hD⟩ := va_join (wr := [(hm, .inr (3, [.int mk, .int mc])), (h0, .inr (4, [.int lf, .int (nI mn), .ref qk, .ref qr])), (qk, .inl (cK, n, .inl f)), (qr, .inl (cR, n, .inl g))]) (w1 := [(hd, .inr (0, [.int (nI w), .int (nI b), .int wr, .ref qc, .ref qi, .int wa, .int wc])), (qc, .inl (cC, w * b, .inl fc))]) hP hD [0, 1] [2, 3, 4, 5] rfl rfl (by decide) (by decide) hk1 hFc hP1 hD1
  have hK := (hK.sub (tys' := [(cK, .int), (cR, .int)]) [1, 2] rfl).app hK1
  generalize H1 = H at hP hS ⊢
  have hP : va_P (dC, dI) vwCl [(hm, .inr (3, [.int mk, .int mc])), (h0, .inr (4, [.int lf, .int (nI mn), .ref qk, .ref qr])), (qk, .inl (cK, n, .inl f)), (qr, .inl (cR, n, .inl g)), (hd, .inr (0, [.int (nI w), .int (nI b), .int wr, .ref qc, .ref qi, .int wa, .int wc])), (qc, .inl (cC, w * b, .inl fc))] H := hP
  have hD : va_D A [(hm, .inr (3, [.int mk, .int mc])), (h0, .inr (4, [.int lf, .int (nI mn), .ref qk, .ref qr])), (qk, .inl (cK, n, .inl f)), (qr, .inl (cR, n, .inl g)), (hd, .inr (0, [.int (nI w), .int (nI b), .int wr, .ref qc, .ref qi, .int wa, .int wc])), (qc, .inl (cC, w * b, .inl fc))] := hD
  have hK : va_K (dC, dI) vwCl [(cK, .int), (cR, .int), (cC, .int)] s := hK
  have hw_r_1 := hw
  refine lv_istore (lv' := [(4, .int r_1), (0, .ref h0), (1, .ref hd), (2, .int p1), (3, .ref hm)]) hx hb dX4_readFrom_6 hl (by decide) rfl (fun ls hl => ?_)
  refine lv_aload_n hx hb dX4_readFrom_8 rfl (lv_at hl 2 rfl) ?_
  refine lv_iload_n hx hb dX4_readFrom_9 rfl (lv_at hl 3 rfl) ?_
  refine lv_iconst (v := 1) hx hb dX4_readFrom_10 (by decide) ?_
  have hPc := hP.sub (ws' := [(hd, .inr (0, [.int (nI w), .int (nI b), .int wr, .ref qc, .ref qi, .int wa, .int wc])), (qc, .inl (cC, w * b, .inl fc))]) [4, 5] rfl
  have hDc := hD.sub (ws' := [(hd, .inr (0, [.int (nI w), .int (nI b), .int wr, .ref qc, .ref qi, .int wa, .int wc])), (qc, .inl (cC, w * b, .inl fc))]) [4, 5] (by decide) rfl
  have hKc := hK.sub (tys' := [(cC, .int)]) [2] rfl
  have hFc := va_free (wc := [(hd, .inr (0, [.int (nI w), .int (nI b), .int wr, .ref qc, .ref qi, .int wa, .int wc])), (qc, .inl (cC, w * b, .inl fc))]) hD hS hA [4, 5] rfl
  refine va_calli (va_runV (As := [.int p1, .int 1]) (rest := []) ⟨hx, hb, hml, hown, hts⟩ (c_X0_read_any l dC dI H.size hd w b qc qi wr wa wc p1 1 cC fc (by first | assumption | omega | decide) (by first | assumption | omega | decide) (by first | assumption | omega | decide) (by first | assumption | omega | decide) (by first | assumption | omega | decide)) (cwV 2 hts g_X4_readFrom_X0_read_any rfl rfl rfl (by decide +kernel) ⟨Nat.le_of_ble_eq_true rfl, Nat.le_of_ble_eq_true rfl⟩) ⟨fun a U g mk q => by obtain ⟨q0, q1, qP, qK, qD⟩ := q; exact ⟨q0, q1, qP, va_K.moved (u := U) (U := U.calling g mk a) (Vm.Alike.refl U.vm) qK, qD⟩, va_recv hKc hPc (ci := 0) (q0 := 0) rfl rfl, fun U hU hW => ⟨rfl, by rw [hU], by rw [hU]; exact hPc, va_K.moved hW.alike hKc, hDc.weaken (fun _ _ _ _ => trivial)⟩⟩ rfl rfl hl.1 rfl (lv_room (Nat.le_of_ble_eq_true rfl)) dX4_readFrom_11 ⟨(show 0 + 0 ≤ 0 by omega), (show 0 + 0 ≤ 0 by omega)⟩) hS (fun q _ h => hFc q h) hFc (fun r_2 u t H1 locs ht hvm hw hB hz1 hk1 hS => ?_)
  obtain ⟨hP1, hK1, hD1⟩ := hB
  rw [ht] at hP1
  have hK1 := va_K.moved hvm.symm hK1
  try dsimp only at hw
  obtain ⟨hP, hD⟩ := va_join (wr := [(hm, .inr (3, [.int mk, .int mc])), (h0, .inr (4, [.int lf, .int (nI mn), .ref qk, .ref qr])), (qk, .inl (cK, n, .inl f)), (qr, .inl (cR, n, .inl g))]) (w1 := [(hd, .inr (0, [.int (nI w), .int (nI b), .int wr, .ref qc, .ref qi, .int wa, .int wc])), (qc, .inl (cC, w * b, .inl fc))]) hP hD [4, 5] [0, 1, 2, 3] rfl rfl (by decide) (by decide) hk1 hFc hP1 hD1
  have hK := (hK.sub (tys' := [(cK, .int), (cR, .int)]) [0, 1] rfl).app hK1
  generalize H1 = H at hP hS ⊢
  have hP : va_P (dC, dI) vwCl [(hm, .inr (3, [.int mk, .int mc])), (h0, .inr (4, [.int lf, .int (nI mn), .ref qk, .ref qr])), (qk, .inl (cK, n, .inl f)), (qr, .inl (cR, n, .inl g)), (hd, .inr (0, [.int (nI w), .int (nI b), .int wr, .ref qc, .ref qi, .int wa, .int wc])), (qc, .inl (cC, w * b, .inl fc))] H := hP
  have hD : va_D A [(hm, .inr (3, [.int mk, .int mc])), (h0, .inr (4, [.int lf, .int (nI mn), .ref qk, .ref qr])), (qk, .inl (cK, n, .inl f)), (qr, .inl (cR, n, .inl g)), (hd, .inr (0, [.int (nI w), .int (nI b), .int wr, .ref qc, .ref qi, .int wa, .int wc])), (qc, .inl (cC, w * b, .inl fc))] := hD
  have hK : va_K (dC, dI) vwCl [(cK, .int), (cR, .int), (cC, .int)] s := hK
  have hw_r_2 := hw
  refine lv_istore (lv' := [(5, .int r_2), (4, .int r_1), (0, .ref h0), (1, .ref hd), (2, .int p1), (3, .ref hm)]) hx hb dX4_readFrom_14 hl (by decide) rfl (fun ls hl => ?_)
  refine lv_aload_n hx hb dX4_readFrom_16 rfl (lv_at hl 2 rfl) ?_
  refine lv_iload hx hb dX4_readFrom_17 (lv_at hl 1 rfl) ?_
  refine lv_iconst (v := 1) hx hb dX4_readFrom_19 (by decide) ?_
  refine lv_icmp_ne (tgt := 27) hx hb dX4_readFrom_20 (by decide) (fun c_3 => ?_) (fun c_3 => ?_)
  · refine lv_iconst (v := 0) hx hb dX4_readFrom_27 (by decide) ?_
    have hPc := hP.sub (ws' := [(h0, .inr (4, [.int lf, .int (nI mn), .ref qk, .ref qr]))]) [1] rfl
    have hDc := hD.sub (ws' := [(h0, .inr (4, [.int lf, .int (nI mn), .ref qk, .ref qr]))]) [1] (by decide) rfl
    have hKc := hK.sub (tys' := []) [] rfl
    have hFc := va_free (wc := [(h0, .inr (4, [.int lf, .int (nI mn), .ref qk, .ref qr]))]) hD hS hA [1] rfl
    refine va_callv (va_runV (As := [.int 0]) (rest := []) ⟨hx, hb, hml, hown, hts⟩ (c_X4_clear l dC dI H.size h0 qk qr mn lf 0 (by first | assumption | omega | decide)) (cwV 1 hts g_X4_readFrom_X4_clear rfl rfl rfl (by decide +kernel) ⟨Nat.le_of_ble_eq_true rfl, Nat.le_of_ble_eq_true rfl⟩) ⟨fun a U g mk q => by obtain ⟨q0, q1, qP, qK, qD⟩ := q; exact ⟨q0, q1, qP, va_K.moved (u := U) (U := U.calling g mk a) (Vm.Alike.refl U.vm) qK, qD⟩, va_recv hKc hPc (ci := 4) (q0 := 0) rfl rfl, fun U hU hW => ⟨rfl, by rw [hU], by rw [hU]; exact hPc, va_K.moved hW.alike hKc, hDc.weaken (fun _ _ _ _ => trivial)⟩⟩ rfl rfl hl.1 rfl (lv_room (Nat.le_of_ble_eq_true rfl)) dX4_readFrom_28 ⟨(show 0 + 0 ≤ 0 by omega), (show 0 + 0 ≤ 0 by omega)⟩) hS (fun q _ h => hFc q h) hFc (fun u t H1 locs ht hvm hw hB hz1 hk1 hS => ?_)
    obtain ⟨hP1, hK1, hD1⟩ := hB
    rw [ht] at hP1
    have hK1 := va_K.moved hvm.symm hK1
    try dsimp only at hw
    obtain ⟨hP, hD⟩ := va_join (wr := [(hm, .inr (3, [.int mk, .int mc])), (qk, .inl (cK, n, .inl f)), (qr, .inl (cR, n, .inl g)), (hd, .inr (0, [.int (nI w), .int (nI b), .int wr, .ref qc, .ref qi, .int wa, .int wc])), (qc, .inl (cC, w * b, .inl fc))]) (w1 := [(h0, .inr (4, [.int 0, .int 0, .ref qk, .ref qr]))]) hP hD [1] [0, 2, 3, 4, 5] rfl rfl (by decide) (by decide) hk1 hFc hP1 hD1
    have hK := (hK.sub (tys' := [(cK, .int), (cR, .int), (cC, .int)]) [0, 1, 2] rfl).app hK1
    generalize H1 = H at hP hS ⊢
    have hP : va_P (dC, dI) vwCl [(hm, .inr (3, [.int mk, .int mc])), (qk, .inl (cK, n, .inl f)), (qr, .inl (cR, n, .inl g)), (hd, .inr (0, [.int (nI w), .int (nI b), .int wr, .ref qc, .ref qi, .int wa, .int wc])), (qc, .inl (cC, w * b, .inl fc)), (h0, .inr (4, [.int 0, .int 0, .ref qk, .ref qr]))] H := hP
    have hD : va_D A [(hm, .inr (3, [.int mk, .int mc])), (qk, .inl (cK, n, .inl f)), (qr, .inl (cR, n, .inl g)), (hd, .inr (0, [.int (nI w), .int (nI b), .int wr, .ref qc, .ref qi, .int wa, .int wc])), (qc, .inl (cC, w * b, .inl fc)), (h0, .inr (4, [.int 0, .int 0, .ref qk, .ref qr]))] := hD
    have hK : va_K (dC, dI) vwCl [(cK, .int), (cR, .int), (cC, .int)] s := hK
    refine lv_aload_n hx hb dX4_readFrom_31 rfl (lv_at hl 2 rfl) ?_
    refine va_get (D := (dC, dI)) (ci := 4) (v := .int 0) (C := RX4) (T := TX4) (N := 4) hx hb hts k_1 hown hK hP 5 rfl rfl 0 (by decide) k_2 (fun _ h9 => h9) rfl dX4_readFrom_32 ?_
    refine lv_if_eq (tgt := 42) hx hb dX4_readFrom_35 (by decide) (fun c_5 => ?_) (fun c_5 => ?_)
    rotate_left
    · exact absurd (by decide) c_5
    refine lv_iconst (v := 2) hx hb dX4_readFrom_42 (by decide) ?_
    refine lv_istore (lv' := [(6, .int 2), (5, .int r_2), (4, .int r_1), (0, .ref h0), (1, .ref hd), (2, .int p1), (3, .ref hm)]) hx hb dX4_readFrom_43 hl (by decide) rfl (fun ls hl => ?_)
    refine lv_iload hx hb dX4_readFrom_45 (lv_at hl 2 rfl) ?_
    refine lv_iconst (v := 1) hx hb dX4_readFrom_47 (by decide) ?_
    refine lv_icmp_eq (tgt := 57) hx hb dX4_readFrom_48 (by decide) (fun c_6 => ?_) (fun c_6 => ?_)
    · exact absurd c_6 (c_3)
    refine lv_iload hx hb dX4_readFrom_51 (lv_at hl 2 rfl) ?_
    refine lv_iconst (v := 2) hx hb dX4_readFrom_53 (by decide) ?_
    refine lv_icmp_ne (tgt := 85) hx hb dX4_readFrom_54 (by decide) (fun c_7 => ?_) (fun c_7 => ?_)
    · refine lv_iconst (v := 0) hx hb dX4_readFrom_85 (by decide) ?_
      have hP9 := hP.sub (ws' := [(hd, .inr (0, [.int (nI w), .int (nI b), .int wr, .ref qc, .ref qi, .int wa, .int wc])), (qc, .inl (cC, w * b, .inl fc)), (hm, .inr (3, [.int mk, .int mc])), (h0, .inr (4, [.int 0, .int 0, .ref qk, .ref qr])), (qk, .inl (cK, n, .inl f)), (qr, .inl (cR, n, .inl g))]) [3, 4, 0, 5, 1, 2] rfl
      have hD9 := hD.sub (ws' := [(hd, .inr (0, [.int (nI w), .int (nI b), .int wr, .ref qc, .ref qi, .int wa, .int wc])), (qc, .inl (cC, w * b, .inl fc)), (hm, .inr (3, [.int mk, .int mc])), (h0, .inr (4, [.int 0, .int 0, .ref qk, .ref qr])), (qk, .inl (cK, n, .inl f)), (qr, .inl (cR, n, .inl g))]) [3, 4, 0, 5, 1, 2] (by decide) rfl
      have hK9 := hK.sub (tys' := [(cC, .int), (cK, .int), (cR, .int)]) [2, 0, 1] rfl
      exact W.zret (v := 0) hx hb hr rfl (fun t ht hW => ⟨⟨0, (0, 0, f, g), rfl, ⟨Or.inl rfl, by first | assumption | exact Or.inl rfl | exact Or.inr rfl, by omega⟩, by rw [ht]; exact hP9, va_K.moved hW.alike hK9, hD9⟩, hS.F ht⟩) hS.2.2 dX4_readFrom_86
    · refine lv_iload hx hb dX4_readFrom_57 (lv_at hl 1 rfl) ?_
      refine lv_iload hx hb dX4_readFrom_59 (lv_at hl 0 rfl) ?_
      refine lv_icmp_lt (tgt := 85) hx hb dX4_readFrom_61 (by decide) (fun c_8 => ?_) (fun c_8 => ?_)
      · refine lv_iconst (v := 0) hx hb dX4_readFrom_85 (by decide) ?_
        have hP9 := hP.sub (ws' := [(hd, .inr (0, [.int (nI w), .int (nI b), .int wr, .ref qc, .ref qi, .int wa, .int wc])), (qc, .inl (cC, w * b, .inl fc)), (hm, .inr (3, [.int mk, .int mc])), (h0, .inr (4, [.int 0, .int 0, .ref qk, .ref qr])), (qk, .inl (cK, n, .inl f)), (qr, .inl (cR, n, .inl g))]) [3, 4, 0, 5, 1, 2] rfl
        have hD9 := hD.sub (ws' := [(hd, .inr (0, [.int (nI w), .int (nI b), .int wr, .ref qc, .ref qi, .int wa, .int wc])), (qc, .inl (cC, w * b, .inl fc)), (hm, .inr (3, [.int mk, .int mc])), (h0, .inr (4, [.int 0, .int 0, .ref qk, .ref qr])), (qk, .inl (cK, n, .inl f)), (qr, .inl (cR, n, .inl g))]) [3, 4, 0, 5, 1, 2] (by decide) rfl
        have hK9 := hK.sub (tys' := [(cC, .int), (cK, .int), (cR, .int)]) [2, 0, 1] rfl
        exact W.zret (v := 0) hx hb hr rfl (fun t ht hW => ⟨⟨0, (0, 0, f, g), rfl, ⟨Or.inl rfl, by first | assumption | exact Or.inl rfl | exact Or.inr rfl, by omega⟩, by rw [ht]; exact hP9, va_K.moved hW.alike hK9, hD9⟩, hS.F ht⟩) hS.2.2 dX4_readFrom_86
      · obtain ⟨tn, htn, etn⟩ := nI_of (x := r_2) (fun h9 => c_8 (Int32.lt_trans h9 (by decide)))
        subst etn
        refine lv_iload hx hb dX4_readFrom_64 (lv_at hl 1 rfl) ?_
        refine lv_aload_n hx hb dX4_readFrom_66 rfl (lv_at hl 6 rfl) ?_
        refine lv_aload_n hx hb dX4_readFrom_67 rfl (lv_at hl 3 rfl) ?_
        refine va_get (D := (dC, dI)) (ci := 4) (v := .int 0) (C := RX4) (T := TX4) (N := 4) hx hb hts k_1 hown hK hP 5 rfl rfl 0 (by decide) k_2 (fun _ h9 => h9) rfl dX4_readFrom_68 ?_
        have hPc := hP.sub (ws' := [(hm, .inr (3, [.int mk, .int mc]))]) [0] rfl
        have hDc := hD.sub (ws' := [(hm, .inr (3, [.int mk, .int mc]))]) [0] (by decide) rfl
        have hKc := hK.sub (tys' := []) [] rfl
        have hFc := va_free (wc := [(hm, .inr (3, [.int mk, .int mc]))]) hD hS hA [0] rfl
        refine va_calli (va_runV (As := [.int 0]) (rest := [.int (nI tn)]) ⟨hx, hb, hml, hown, hts⟩ (c_X3_most l dC dI H.size hm mk mc 0) (cwV 1 hts g_X4_readFrom_X3_most rfl rfl rfl (by decide +kernel) ⟨Nat.le_of_ble_eq_true rfl, Nat.le_of_ble_eq_true rfl⟩) ⟨fun a U g mk q => by obtain ⟨q0, q1, qP, qK, qD⟩ := q; exact ⟨q0, q1, qP, va_K.moved (u := U) (U := U.calling g mk a) (Vm.Alike.refl U.vm) qK, qD⟩, va_recv hKc hPc (ci := 3) (q0 := 0) rfl rfl, fun U hU hW => ⟨rfl, by rw [hU], by rw [hU]; exact hPc, va_K.moved hW.alike hKc, hDc.weaken (fun _ _ _ _ => trivial)⟩⟩ rfl rfl hl.1 rfl (lv_room (Nat.le_of_ble_eq_true rfl)) dX4_readFrom_71 ⟨(show 0 + 0 ≤ 0 by omega), (show 0 + 0 ≤ 0 by omega)⟩) hS (fun q _ h => hFc q h) hFc (fun r_9 u t H1 locs ht hvm hw hB hz1 hk1 hS => ?_)
        obtain ⟨hP1, hK1, hD1⟩ := hB
        rw [ht] at hP1
        have hK1 := va_K.moved hvm.symm hK1
        try dsimp only at hw
        obtain ⟨hP, hD⟩ := va_join (wr := [(qk, .inl (cK, n, .inl f)), (qr, .inl (cR, n, .inl g)), (hd, .inr (0, [.int (nI w), .int (nI b), .int wr, .ref qc, .ref qi, .int wa, .int wc])), (qc, .inl (cC, w * b, .inl fc)), (h0, .inr (4, [.int 0, .int 0, .ref qk, .ref qr]))]) (w1 := [(hm, .inr (3, [.int mk, .int mc]))]) hP hD [0] [1, 2, 3, 4, 5] rfl rfl (by decide) (by decide) hk1 hFc hP1 hD1
        have hK := (hK.sub (tys' := [(cK, .int), (cR, .int), (cC, .int)]) [0, 1, 2] rfl).app hK1
        generalize H1 = H at hP hS ⊢
        have hP : va_P (dC, dI) vwCl [(qk, .inl (cK, n, .inl f)), (qr, .inl (cR, n, .inl g)), (hd, .inr (0, [.int (nI w), .int (nI b), .int wr, .ref qc, .ref qi, .int wa, .int wc])), (qc, .inl (cC, w * b, .inl fc)), (h0, .inr (4, [.int 0, .int 0, .ref qk, .ref qr])), (hm, .inr (3, [.int mk, .int mc]))] H := hP
        have hD : va_D A [(qk, .inl (cK, n, .inl f)), (qr, .inl (cR, n, .inl g)), (hd, .inr (0, [.int (nI w), .int (nI b), .int wr, .ref qc, .ref qi, .int wa, .int wc])), (qc, .inl (cC, w * b, .inl fc)), (h0, .inr (4, [.int 0, .int 0, .ref qk, .ref qr])), (hm, .inr (3, [.int mk, .int mc]))] := hD
        have hK : va_K (dC, dI) vwCl [(cK, .int), (cR, .int), (cC, .int)] s := hK
        have hw_r_9 := hw
        refine lv_icmp_gt (tgt := 85) hx hb dX4_readFrom_74 (by decide) (fun c_10 => ?_) (fun c_10 => ?_)
        · refine lv_iconst (v := 0) hx hb dX4_readFrom_85 (by decide) ?_
          have hP9 := hP.sub (ws' := [(hd, .inr (0, [.int (nI w), .int (nI b), .int wr, .ref qc, .ref qi, .int wa, .int wc])), (qc, .inl (cC, w * b, .inl fc)), (hm, .inr (3, [.int mk, .int mc])), (h0, .inr (4, [.int 0, .int 0, .ref qk, .ref qr])), (qk, .inl (cK, n, .inl f)), (qr, .inl (cR, n, .inl g))]) [2, 3, 5, 4, 0, 1] rfl
          have hD9 := hD.sub (ws' := [(hd, .inr (0, [.int (nI w), .int (nI b), .int wr, .ref qc, .ref qi, .int wa, .int wc])), (qc, .inl (cC, w * b, .inl fc)), (hm, .inr (3, [.int mk, .int mc])), (h0, .inr (4, [.int 0, .int 0, .ref qk, .ref qr])), (qk, .inl (cK, n, .inl f)), (qr, .inl (cR, n, .inl g))]) [2, 3, 5, 4, 0, 1] (by decide) rfl
          have hK9 := hK.sub (tys' := [(cC, .int), (cK, .int), (cR, .int)]) [2, 0, 1] rfl
          exact W.zret (v := 0) hx hb hr rfl (fun t ht hW => ⟨⟨0, (0, 0, f, g), rfl, ⟨Or.inl rfl, by first | assumption | exact Or.inl rfl | exact Or.inr rfl, by omega⟩, by rw [ht]; exact hP9, va_K.moved hW.alike hK9, hD9⟩, hS.F ht⟩) hS.2.2 dX4_readFrom_86
        · refine lv_aload_n hx hb dX4_readFrom_77 rfl (lv_at hl 4 rfl) ?_
          refine lv_iload_n hx hb dX4_readFrom_78 rfl (lv_at hl 5 rfl) ?_
          have hPc := hP.sub (ws' := [(hd, .inr (0, [.int (nI w), .int (nI b), .int wr, .ref qc, .ref qi, .int wa, .int wc])), (qc, .inl (cC, w * b, .inl fc))]) [2, 3] rfl
          have hDc := hD.sub (ws' := [(hd, .inr (0, [.int (nI w), .int (nI b), .int wr, .ref qc, .ref qi, .int wa, .int wc])), (qc, .inl (cC, w * b, .inl fc))]) [2, 3] (by decide) rfl
          have hKc := hK.sub (tys' := [(cC, .int)]) [2] rfl
          have hFc := va_free (wc := [(hd, .inr (0, [.int (nI w), .int (nI b), .int wr, .ref qc, .ref qi, .int wa, .int wc])), (qc, .inl (cC, w * b, .inl fc))]) hD hS hA [2, 3] rfl
          refine va_calli (va_runV (As := [.int p1]) (rest := []) ⟨hx, hb, hml, hown, hts⟩ (c_X0_isSealed l dC dI H.size hd w b qc qi wr wa wc p1 cC fc (by first | assumption | omega | decide) (by first | assumption | omega | decide) (by first | assumption | omega | decide) (by first | assumption | omega | decide) (by first | assumption | omega | decide)) (cwV 1 hts g_X4_readFrom_X0_isSealed rfl rfl rfl (by decide +kernel) ⟨Nat.le_of_ble_eq_true rfl, Nat.le_of_ble_eq_true rfl⟩) ⟨fun a U g mk q => by obtain ⟨q0, q1, qP, qK, qD⟩ := q; exact ⟨q0, q1, qP, va_K.moved (u := U) (U := U.calling g mk a) (Vm.Alike.refl U.vm) qK, qD⟩, va_recv hKc hPc (ci := 0) (q0 := 0) rfl rfl, fun U hU hW => ⟨rfl, by rw [hU], by rw [hU]; exact hPc, va_K.moved hW.alike hKc, hDc.weaken (fun _ _ _ _ => trivial)⟩⟩ rfl rfl hl.1 rfl (lv_room (Nat.le_of_ble_eq_true rfl)) dX4_readFrom_79 ⟨(show 0 + 0 ≤ 0 by omega), (show 0 + 0 ≤ 0 by omega)⟩) hS (fun q _ h => hFc q h) hFc (fun r_11 u t H1 locs ht hvm hw hB hz1 hk1 hS => ?_)
          obtain ⟨hP1, hK1, hD1⟩ := hB
          rw [ht] at hP1
          have hK1 := va_K.moved hvm.symm hK1
          try dsimp only at hw
          obtain ⟨hP, hD⟩ := va_join (wr := [(qk, .inl (cK, n, .inl f)), (qr, .inl (cR, n, .inl g)), (h0, .inr (4, [.int 0, .int 0, .ref qk, .ref qr])), (hm, .inr (3, [.int mk, .int mc]))]) (w1 := [(hd, .inr (0, [.int (nI w), .int (nI b), .int wr, .ref qc, .ref qi, .int wa, .int wc])), (qc, .inl (cC, w * b, .inl fc))]) hP hD [2, 3] [0, 1, 4, 5] rfl rfl (by decide) (by decide) hk1 hFc hP1 hD1
          have hK := (hK.sub (tys' := [(cK, .int), (cR, .int)]) [0, 1] rfl).app hK1
          generalize H1 = H at hP hS ⊢
          have hP : va_P (dC, dI) vwCl [(qk, .inl (cK, n, .inl f)), (qr, .inl (cR, n, .inl g)), (h0, .inr (4, [.int 0, .int 0, .ref qk, .ref qr])), (hm, .inr (3, [.int mk, .int mc])), (hd, .inr (0, [.int (nI w), .int (nI b), .int wr, .ref qc, .ref qi, .int wa, .int wc])), (qc, .inl (cC, w * b, .inl fc))] H := hP
          have hD : va_D A [(qk, .inl (cK, n, .inl f)), (qr, .inl (cR, n, .inl g)), (h0, .inr (4, [.int 0, .int 0, .ref qk, .ref qr])), (hm, .inr (3, [.int mk, .int mc])), (hd, .inr (0, [.int (nI w), .int (nI b), .int wr, .ref qc, .ref qi, .int wa, .int wc])), (qc, .inl (cC, w * b, .inl fc))] := hD
          have hK : va_K (dC, dI) vwCl [(cK, .int), (cR, .int), (cC, .int)] s := hK
          have hw_r_11 := hw
          refine lv_if_ne (tgt := 87) hx hb dX4_readFrom_82 (by decide) (fun c_12 => ?_) (fun c_12 => ?_)
          · refine lv_iconst (v := 0) hx hb dX4_readFrom_87 (by decide) ?_
            refine lv_istore (lv' := [(7, .int 0), (6, .int 2), (5, .int (nI tn)), (4, .int r_1), (0, .ref h0), (1, .ref hd), (2, .int p1), (3, .ref hm)]) hx hb dX4_readFrom_88 hl (by decide) rfl (fun ls hl => ?_)
            have loop_90 : ∀ (Q : State → Prop), (∀ (i : Nat) (lfv : Int32) (mv : Nat) (fv : Nat → Int32) (gv : Nat → Int32) (H : Heap) (locs : List Loc) (ls : Array Slot), i ≤ tn → (lfv = 0 ∨ lfv = 1) → (mv ≤ n) → va_P (dC, dI) vwCl [(hd, .inr (0, [.int (nI w), .int (nI b), .int wr, .ref qc, .ref qi, .int wa, .int wc])), (qc, .inl (cC, w * b, .inl fc)), (hm, .inr (3, [.int mk, .int mc])), (h0, .inr (4, [.int lfv, .int (nI mv), .ref qk, .ref qr])), (qk, .inl (cK, n, .inl fv)), (qr, .inl (cR, n, .inl gv))] H → va_D A [(hd, .inr (0, [.int (nI w), .int (nI b), .int wr, .ref qc, .ref qi, .int wa, .int wc])), (qc, .inl (cC, w * b, .inl fc)), (hm, .inr (3, [.int mk, .int mc])), (h0, .inr (4, [.int lfv, .int (nI mv), .ref qk, .ref qr])), (qk, .inl (cK, n, .inl fv)), (qr, .inl (cR, n, .inl gv))] → va_S A s.heap H locs → lv_has ls 9 [(0, .ref h0), (1, .ref hd), (2, .int p1), (3, .ref hm), (4, .int r_1), (5, .int (nI tn)), (6, .int 2), (7, .int (nI i))] → W p l e (headSpec v_X4_readFrom ({ frames := 3, cells := 0, slots := 0, locals := 60 } : Room)).room s m ([.ref h0, .ref hd, .int p1, .ref hm] : List Value).toArray below meth c H locs 0 0 Q (F0 m 136 ls [])) → ∀ (nf i : Nat) (lfv : Int32) (mv : Nat) (fv : Nat → Int32) (gv : Nat → Int32) (H : Heap) (locs : List Loc) (ls : Array Slot), i ≤ tn → tn + 1 ≤ i + nf → (lfv = 0 ∨ lfv = 1) → (mv ≤ n) → va_P (dC, dI) vwCl [(hd, .inr (0, [.int (nI w), .int (nI b), .int wr, .ref qc, .ref qi, .int wa, .int wc])), (qc, .inl (cC, w * b, .inl fc)), (hm, .inr (3, [.int mk, .int mc])), (h0, .inr (4, [.int lfv, .int (nI mv), .ref qk, .ref qr])), (qk, .inl (cK, n, .inl fv)), (qr, .inl (cR, n, .inl gv))] H → va_D A [(hd, .inr (0, [.int (nI w), .int (nI b), .int wr, .ref qc, .ref qi, .int wa, .int wc])), (qc, .inl (cC, w * b, .inl fc)), (hm, .inr (3, [.int mk, .int mc])), (h0, .inr (4, [.int lfv, .int (nI mv), .ref qk, .ref qr])), (qk, .inl (cK, n, .inl fv)), (qr, .inl (cR, n, .inl gv))] → va_S A s.heap H locs → lv_has ls 9 [(0, .ref h0), (1, .ref hd), (2, .int p1), (3, .ref hm), (4, .int r_1), (5, .int (nI tn)), (6, .int 2), (7, .int (nI i))] → W p l e (headSpec v_X4_readFrom ({ frames := 3, cells := 0, slots := 0, locals := 60 } : Room)).room s m ([.ref h0, .ref hd, .int p1, .ref hm] : List Value).toArray below meth c H locs 0 0 Q (F0 m 90 ls []) := by
              intro Q kx nf
              induction nf with
              | zero =>
                intro i lfv mv fv gv H locs ls h1 h2
                exact absurd h2 (by omega)
              | succ nf ih =>
                intro i lfv mv fv gv H locs ls hi hn hlf hmv hP hD hS hl
                refine lv_iload hx hb dX4_readFrom_90 (lv_at hl 7 rfl) ?_
                refine lv_iload hx hb dX4_readFrom_92 (lv_at hl 5 rfl) ?_
                refine lv_icmp_ge (tgt := 136) hx hb dX4_readFrom_94 (by decide) (fun c_13 => ?_) (fun c_13 => ?_)
                · exact kx i lfv mv fv gv _ _ _ (by omega) hlf hmv hP hD hS (lv_sub hl [0, 1, 2, 3, 4, 5, 6, 7] rfl)
                · have hlt : i < tn := Nat.lt_of_not_le (fun h => c_13 (nI_le h (by omega)))
                  refine lv_aload_n hx hb dX4_readFrom_97 rfl (lv_at hl 0 rfl) ?_
                  have hPc := hP.sub (ws' := [(h0, .inr (4, [.int lfv, .int (nI mv), .ref qk, .ref qr]))]) [3] rfl
                  have hDc := hD.sub (ws' := [(h0, .inr (4, [.int lfv, .int (nI mv), .ref qk, .ref qr]))]) [3] (by decide) rfl
                  have hKc := hK.sub (tys' := []) [] rfl
                  have hFc := va_free (wc := [(h0, .inr (4, [.int lfv, .int (nI mv), .ref qk, .ref qr]))]) hD hS hA [3] rfl
                  refine va_calli (va_runV (As := []) (rest := []) ⟨hx, hb, hml, hown, hts⟩ (c_X4_firstKeyWord l dC dI H.size h0 qk qr mv lfv) (cwV 0 hts g_X4_readFrom_X4_firstKeyWord rfl rfl rfl (by decide +kernel) ⟨Nat.le_of_ble_eq_true rfl, Nat.le_of_ble_eq_true rfl⟩) ⟨fun a U g mk q => by obtain ⟨q0, q1, qP, qK, qD⟩ := q; exact ⟨q0, q1, qP, va_K.moved (u := U) (U := U.calling g mk a) (Vm.Alike.refl U.vm) qK, qD⟩, va_recv hKc hPc (ci := 4) (q0 := 0) rfl rfl, fun U hU hW => ⟨rfl, by rw [hU], by rw [hU]; exact hPc, va_K.moved hW.alike hKc, hDc.weaken (fun _ _ _ _ => trivial)⟩⟩ rfl rfl hl.1 rfl (lv_room (Nat.le_of_ble_eq_true rfl)) dX4_readFrom_98 ⟨(show 0 + 0 ≤ 0 by omega), (show 0 + 0 ≤ 0 by omega)⟩) hS (fun q _ h => hFc q h) hFc (fun r_14 u t H1 locs ht hvm hw hB hz1 hk1 hS => ?_)
                  obtain ⟨hP1, hK1, hD1⟩ := hB
                  rw [ht] at hP1
                  have hK1 := va_K.moved hvm.symm hK1
                  try dsimp only at hw
                  obtain ⟨hP, hD⟩ := va_join (wr := [(hd, .inr (0, [.int (nI w), .int (nI b), .int wr, .ref qc, .ref qi, .int wa, .int wc])), (qc, .inl (cC, w * b, .inl fc)), (hm, .inr (3, [.int mk, .int mc])), (qk, .inl (cK, n, .inl fv)), (qr, .inl (cR, n, .inl gv))]) (w1 := [(h0, .inr (4, [.int lfv, .int (nI mv), .ref qk, .ref qr]))]) hP hD [3] [0, 1, 2, 4, 5] rfl rfl (by decide) (by decide) hk1 hFc hP1 hD1
                  have hK := (hK.sub (tys' := [(cK, .int), (cR, .int), (cC, .int)]) [0, 1, 2] rfl).app hK1
                  generalize H1 = H at hP hS ⊢
                  have hP : va_P (dC, dI) vwCl [(hd, .inr (0, [.int (nI w), .int (nI b), .int wr, .ref qc, .ref qi, .int wa, .int wc])), (qc, .inl (cC, w * b, .inl fc)), (hm, .inr (3, [.int mk, .int mc])), (qk, .inl (cK, n, .inl fv)), (qr, .inl (cR, n, .inl gv)), (h0, .inr (4, [.int lfv, .int (nI mv), .ref qk, .ref qr]))] H := hP
                  have hD : va_D A [(hd, .inr (0, [.int (nI w), .int (nI b), .int wr, .ref qc, .ref qi, .int wa, .int wc])), (qc, .inl (cC, w * b, .inl fc)), (hm, .inr (3, [.int mk, .int mc])), (qk, .inl (cK, n, .inl fv)), (qr, .inl (cR, n, .inl gv)), (h0, .inr (4, [.int lfv, .int (nI mv), .ref qk, .ref qr]))] := hD
                  have hK : va_K (dC, dI) vwCl [(cK, .int), (cR, .int), (cC, .int)] s := hK
                  have hw_r_14 := hw
                  refine lv_iconst (v := 2) hx hb dX4_readFrom_101 (by decide) ?_
                  refine lv_iload hx hb dX4_readFrom_102 (lv_at hl 7 rfl) ?_
                  refine lv_imul hx hb dX4_readFrom_104 ?_
                  refine lv_topi (fun z_15 _ => ?_)
                  refine lv_iadd hx hb dX4_readFrom_105 ?_
                  refine lv_topi (fun z_16 _ => ?_)
                  refine lv_istore (lv' := [(8, .int z_16), (0, .ref h0), (1, .ref hd), (2, .int p1), (3, .ref hm), (4, .int r_1), (5, .int (nI tn)), (6, .int 2), (7, .int (nI i))]) hx hb dX4_readFrom_106 hl (by decide) rfl (fun ls hl => ?_)
                  refine lv_aload_n hx hb dX4_readFrom_108 rfl (lv_at hl 1 rfl) ?_
                  refine lv_iload hx hb dX4_readFrom_109 (lv_at hl 8 rfl) ?_
                  refine lv_aload_n hx hb dX4_readFrom_111 rfl (lv_at hl 2 rfl) ?_
                  refine lv_iload_n hx hb dX4_readFrom_112 rfl (lv_at hl 3 rfl) ?_
                  refine lv_iload hx hb dX4_readFrom_113 (lv_at hl 0 rfl) ?_
                  have hPc := hP.sub (ws' := [(hd, .inr (0, [.int (nI w), .int (nI b), .int wr, .ref qc, .ref qi, .int wa, .int wc])), (qc, .inl (cC, w * b, .inl fc))]) [0, 1] rfl
                  have hDc := hD.sub (ws' := [(hd, .inr (0, [.int (nI w), .int (nI b), .int wr, .ref qc, .ref qi, .int wa, .int wc])), (qc, .inl (cC, w * b, .inl fc))]) [0, 1] (by decide) rfl
                  have hKc := hK.sub (tys' := [(cC, .int)]) [2] rfl
                  have hFc := va_free (wc := [(hd, .inr (0, [.int (nI w), .int (nI b), .int wr, .ref qc, .ref qi, .int wa, .int wc])), (qc, .inl (cC, w * b, .inl fc))]) hD hS hA [0, 1] rfl
                  refine va_calli (va_runV (As := [.int p1, .int z_16]) (rest := [.int (nI i), .ref h0]) ⟨hx, hb, hml, hown, hts⟩ (c_X0_read_any l dC dI H.size hd w b qc qi wr wa wc p1 z_16 cC fc (by first | assumption | omega | decide) (by first | assumption | omega | decide) (by first | assumption | omega | decide) (by first | assumption | omega | decide) (by first | assumption | omega | decide)) (cwV 2 hts g_X4_readFrom_X0_read_any rfl rfl rfl (by decide +kernel) ⟨Nat.le_of_ble_eq_true rfl, Nat.le_of_ble_eq_true rfl⟩) ⟨fun a U g mk q => by obtain ⟨q0, q1, qP, qK, qD⟩ := q; exact ⟨q0, q1, qP, va_K.moved (u := U) (U := U.calling g mk a) (Vm.Alike.refl U.vm) qK, qD⟩, va_recv hKc hPc (ci := 0) (q0 := 0) rfl rfl, fun U hU hW => ⟨rfl, by rw [hU], by rw [hU]; exact hPc, va_K.moved hW.alike hKc, hDc.weaken (fun _ _ _ _ => trivial)⟩⟩ rfl rfl hl.1 rfl (lv_room (Nat.le_of_ble_eq_true rfl)) dX4_readFrom_115 ⟨(show 0 + 0 ≤ 0 by omega), (show 0 + 0 ≤ 0 by omega)⟩) hS (fun q _ h => hFc q h) hFc (fun r_17 u t H1 locs ht hvm hw hB hz1 hk1 hS => ?_)
                  obtain ⟨hP1, hK1, hD1⟩ := hB
                  rw [ht] at hP1
                  have hK1 := va_K.moved hvm.symm hK1
                  try dsimp only at hw
                  obtain ⟨hP, hD⟩ := va_join (wr := [(hm, .inr (3, [.int mk, .int mc])), (qk, .inl (cK, n, .inl fv)), (qr, .inl (cR, n, .inl gv)), (h0, .inr (4, [.int lfv, .int (nI mv), .ref qk, .ref qr]))]) (w1 := [(hd, .inr (0, [.int (nI w), .int (nI b), .int wr, .ref qc, .ref qi, .int wa, .int wc])), (qc, .inl (cC, w * b, .inl fc))]) hP hD [0, 1] [2, 3, 4, 5] rfl rfl (by decide) (by decide) hk1 hFc hP1 hD1
                  have hK := (hK.sub (tys' := [(cK, .int), (cR, .int)]) [0, 1] rfl).app hK1
                  generalize H1 = H at hP hS ⊢
                  have hP : va_P (dC, dI) vwCl [(hm, .inr (3, [.int mk, .int mc])), (qk, .inl (cK, n, .inl fv)), (qr, .inl (cR, n, .inl gv)), (h0, .inr (4, [.int lfv, .int (nI mv), .ref qk, .ref qr])), (hd, .inr (0, [.int (nI w), .int (nI b), .int wr, .ref qc, .ref qi, .int wa, .int wc])), (qc, .inl (cC, w * b, .inl fc))] H := hP
                  have hD : va_D A [(hm, .inr (3, [.int mk, .int mc])), (qk, .inl (cK, n, .inl fv)), (qr, .inl (cR, n, .inl gv)), (h0, .inr (4, [.int lfv, .int (nI mv), .ref qk, .ref qr])), (hd, .inr (0, [.int (nI w), .int (nI b), .int wr, .ref qc, .ref qi, .int wa, .int wc])), (qc, .inl (cC, w * b, .inl fc))] := hD
                  have hK : va_K (dC, dI) vwCl [(cK, .int), (cR, .int), (cC, .int)] s := hK
                  have hw_r_17 := hw
                  refine lv_aload_n hx hb dX4_readFrom_118 rfl (lv_at hl 2 rfl) ?_
                  refine lv_iload_n hx hb dX4_readFrom_119 rfl (lv_at hl 3 rfl) ?_
                  refine lv_iload hx hb dX4_readFrom_120 (lv_at hl 0 rfl) ?_
                  refine lv_iconst (v := 1) hx hb dX4_readFrom_122 (by decide) ?_
                  refine lv_iadd hx hb dX4_readFrom_123 ?_
                  refine lv_topi (fun z_18 _ => ?_)
                  have hPc := hP.sub (ws' := [(hd, .inr (0, [.int (nI w), .int (nI b), .int wr, .ref qc, .ref qi, .int wa, .int wc])), (qc, .inl (cC, w * b, .inl fc))]) [4, 5] rfl
                  have hDc := hD.sub (ws' := [(hd, .inr (0, [.int (nI w), .int (nI b), .int wr, .ref qc, .ref qi, .int wa, .int wc])), (qc, .inl (cC, w * b, .inl fc))]) [4, 5] (by decide) rfl
                  have hKc := hK.sub (tys' := [(cC, .int)]) [2] rfl
                  have hFc := va_free (wc := [(hd, .inr (0, [.int (nI w), .int (nI b), .int wr, .ref qc, .ref qi, .int wa, .int wc])), (qc, .inl (cC, w * b, .inl fc))]) hD hS hA [4, 5] rfl
                  refine va_calli (va_runV (As := [.int p1, .int z_18]) (rest := [.int r_17, .int (nI i), .ref h0]) ⟨hx, hb, hml, hown, hts⟩ (c_X0_read_any l dC dI H.size hd w b qc qi wr wa wc p1 z_18 cC fc (by first | assumption | omega | decide) (by first | assumption | omega | decide) (by first | assumption | omega | decide) (by first | assumption | omega | decide) (by first | assumption | omega | decide)) (cwV 2 hts g_X4_readFrom_X0_read_any rfl rfl rfl (by decide +kernel) ⟨Nat.le_of_ble_eq_true rfl, Nat.le_of_ble_eq_true rfl⟩) ⟨fun a U g mk q => by obtain ⟨q0, q1, qP, qK, qD⟩ := q; exact ⟨q0, q1, qP, va_K.moved (u := U) (U := U.calling g mk a) (Vm.Alike.refl U.vm) qK, qD⟩, va_recv hKc hPc (ci := 0) (q0 := 0) rfl rfl, fun U hU hW => ⟨rfl, by rw [hU], by rw [hU]; exact hPc, va_K.moved hW.alike hKc, hDc.weaken (fun _ _ _ _ => trivial)⟩⟩ rfl rfl hl.1 rfl (lv_room (Nat.le_of_ble_eq_true rfl)) dX4_readFrom_124 ⟨(show 0 + 0 ≤ 0 by omega), (show 0 + 0 ≤ 0 by omega)⟩) hS (fun q _ h => hFc q h) hFc (fun r_19 u t H1 locs ht hvm hw hB hz1 hk1 hS => ?_)
                  obtain ⟨hP1, hK1, hD1⟩ := hB
                  rw [ht] at hP1
                  have hK1 := va_K.moved hvm.symm hK1
                  try dsimp only at hw
                  obtain ⟨hP, hD⟩ := va_join (wr := [(hm, .inr (3, [.int mk, .int mc])), (qk, .inl (cK, n, .inl fv)), (qr, .inl (cR, n, .inl gv)), (h0, .inr (4, [.int lfv, .int (nI mv), .ref qk, .ref qr]))]) (w1 := [(hd, .inr (0, [.int (nI w), .int (nI b), .int wr, .ref qc, .ref qi, .int wa, .int wc])), (qc, .inl (cC, w * b, .inl fc))]) hP hD [4, 5] [0, 1, 2, 3] rfl rfl (by decide) (by decide) hk1 hFc hP1 hD1
                  have hK := (hK.sub (tys' := [(cK, .int), (cR, .int)]) [0, 1] rfl).app hK1
                  generalize H1 = H at hP hS ⊢
                  have hP : va_P (dC, dI) vwCl [(hm, .inr (3, [.int mk, .int mc])), (qk, .inl (cK, n, .inl fv)), (qr, .inl (cR, n, .inl gv)), (h0, .inr (4, [.int lfv, .int (nI mv), .ref qk, .ref qr])), (hd, .inr (0, [.int (nI w), .int (nI b), .int wr, .ref qc, .ref qi, .int wa, .int wc])), (qc, .inl (cC, w * b, .inl fc))] H := hP
                  have hD : va_D A [(hm, .inr (3, [.int mk, .int mc])), (qk, .inl (cK, n, .inl fv)), (qr, .inl (cR, n, .inl gv)), (h0, .inr (4, [.int lfv, .int (nI mv), .ref qk, .ref qr])), (hd, .inr (0, [.int (nI w), .int (nI b), .int wr, .ref qc, .ref qi, .int wa, .int wc])), (qc, .inl (cC, w * b, .inl fc))] := hD
                  have hK : va_K (dC, dI) vwCl [(cK, .int), (cR, .int), (cC, .int)] s := hK
                  have hw_r_19 := hw
                  have hPc := hP.sub (ws' := [(h0, .inr (4, [.int lfv, .int (nI mv), .ref qk, .ref qr])), (qk, .inl (cK, n, .inl fv)), (qr, .inl (cR, n, .inl gv))]) [3, 1, 2] rfl
                  have hDc := hD.sub (ws' := [(h0, .inr (4, [.int lfv, .int (nI mv), .ref qk, .ref qr])), (qk, .inl (cK, n, .inl fv)), (qr, .inl (cR, n, .inl gv))]) [3, 1, 2] (by decide) rfl
                  have hKc := hK.sub (tys' := [(cK, .int), (cR, .int)]) [0, 1] rfl
                  have hFc := va_free (wc := [(h0, .inr (4, [.int lfv, .int (nI mv), .ref qk, .ref qr])), (qk, .inl (cK, n, .inl fv)), (qr, .inl (cR, n, .inl gv))]) hD hS hA [3, 1, 2] rfl
                  refine va_callv (va_runV (As := [.int (nI i), .int r_17, .int r_19]) (rest := []) ⟨hx, hb, hml, hown, hts⟩ (c_X4_insert l dC dI H.size h0 qk qr n mv lfv cK cR fv gv i r_17 r_19 (by first | assumption | omega | decide) (by first | assumption | omega | decide) (by first | assumption | omega | decide)) (cwV 3 hts g_X4_readFrom_X4_insert rfl rfl rfl (by decide +kernel) ⟨Nat.le_of_ble_eq_true rfl, Nat.le_of_ble_eq_true rfl⟩) ⟨fun a U g mk q => by obtain ⟨q0, q1, qP, qK, qD⟩ := q; exact ⟨q0, q1, qP, va_K.moved (u := U) (U := U.calling g mk a) (Vm.Alike.refl U.vm) qK, qD⟩, va_recv hKc hPc (ci := 4) (q0 := 0) rfl rfl, fun U hU hW => ⟨rfl, by rw [hU], by rw [hU]; exact hPc, va_K.moved hW.alike hKc, hDc.weaken (fun _ _ _ _ => trivial)⟩⟩ rfl rfl hl.1 rfl (lv_room (Nat.le_of_ble_eq_true rfl)) dX4_readFrom_127 ⟨(show 0 + 0 ≤ 0 by omega), (show 0 + 0 ≤ 0 by omega)⟩) hS (fun q _ h => hFc q h) hFc (fun u t H1 locs ht hvm hw hB hz1 hk1 hS => ?_)
                  obtain ⟨m2_21, f2_22, g2_23⟩ := u
                  obtain ⟨hP1, hK1, hD1⟩ := hB
                  rw [ht] at hP1
                  have hK1 := va_K.moved hvm.symm hK1
                  try dsimp only at hw
                  obtain ⟨hP, hD⟩ := va_join (wr := [(hm, .inr (3, [.int mk, .int mc])), (hd, .inr (0, [.int (nI w), .int (nI b), .int wr, .ref qc, .ref qi, .int wa, .int wc])), (qc, .inl (cC, w * b, .inl fc))]) (w1 := [(h0, .inr (4, [.int lfv, .int (nI m2_21), .ref qk, .ref qr])), (qk, .inl (cK, n, .inl f2_22)), (qr, .inl (cR, n, .inl g2_23))]) hP hD [3, 1, 2] [0, 4, 5] rfl rfl (by decide) (by decide) hk1 hFc hP1 hD1
                  have hK := (hK.sub (tys' := [(cC, .int)]) [2] rfl).app hK1
                  generalize H1 = H at hP hS ⊢
                  have hP : va_P (dC, dI) vwCl [(hm, .inr (3, [.int mk, .int mc])), (hd, .inr (0, [.int (nI w), .int (nI b), .int wr, .ref qc, .ref qi, .int wa, .int wc])), (qc, .inl (cC, w * b, .inl fc)), (h0, .inr (4, [.int lfv, .int (nI m2_21), .ref qk, .ref qr])), (qk, .inl (cK, n, .inl f2_22)), (qr, .inl (cR, n, .inl g2_23))] H := hP
                  have hD : va_D A [(hm, .inr (3, [.int mk, .int mc])), (hd, .inr (0, [.int (nI w), .int (nI b), .int wr, .ref qc, .ref qi, .int wa, .int wc])), (qc, .inl (cC, w * b, .inl fc)), (h0, .inr (4, [.int lfv, .int (nI m2_21), .ref qk, .ref qr])), (qk, .inl (cK, n, .inl f2_22)), (qr, .inl (cR, n, .inl g2_23))] := hD
                  have hK : va_K (dC, dI) vwCl [(cC, .int), (cK, .int), (cR, .int)] s := hK
                  have hw_r_20 := hw
                  refine lv_iinc (v := (nI (i + 1))) (lv' := [(7, .int (nI (i + 1))), (8, .int z_16), (0, .ref h0), (1, .ref hd), (2, .int p1), (3, .ref hm), (4, .int r_1), (5, .int (nI tn)), (6, .int 2)]) hx hb dX4_readFrom_130 hl (k := 8) rfl (nI_1 i) (by decide) rfl (fun ls hl => ?_)
                  refine lv_goto (tgt := 90) hx hb dX4_readFrom_133 (by decide) ?_
                  exact ih (i + 1) lfv m2_21 f2_22 g2_23 _ _ _ (by omega) (by omega) hlf (by omega) (hP.sub [1, 2, 0, 3, 4, 5] rfl) (hD.sub [1, 2, 0, 3, 4, 5] (by decide) rfl) hS (lv_sub hl [2, 3, 4, 5, 6, 7, 8, 0] rfl)
            refine loop_90 _ (fun i lfv mv fv gv H locs ls hi hlf hmv hP hD hS hl => ?_) (tn + 1) 0 0 0 f g _ _ _ (by omega) (by omega) (by decide) (by omega) (hP.sub [4, 5, 3, 2, 0, 1] rfl) (hD.sub [4, 5, 3, 2, 0, 1] (by decide) rfl) hS (lv_sub hl [4, 5, 6, 7, 3, 2, 1, 0] rfl)
            refine lv_iconst (v := 1) hx hb dX4_readFrom_136 (by decide) ?_
            have hP9 := hP.sub (ws' := [(hd, .inr (0, [.int (nI w), .int (nI b), .int wr, .ref qc, .ref qi, .int wa, .int wc])), (qc, .inl (cC, w * b, .inl fc)), (hm, .inr (3, [.int mk, .int mc])), (h0, .inr (4, [.int lfv, .int (nI mv), .ref qk, .ref qr])), (qk, .inl (cK, n, .inl fv)), (qr, .inl (cR, n, .inl gv))]) [0, 1, 2, 3, 4, 5] rfl
            have hD9 := hD.sub (ws' := [(hd, .inr (0, [.int (nI w), .int (nI b), .int wr, .ref qc, .ref qi, .int wa, .int wc])), (qc, .inl (cC, w * b, .inl fc)), (hm, .inr (3, [.int mk, .int mc])), (h0, .inr (4, [.int lfv, .int (nI mv), .ref qk, .ref qr])), (qk, .inl (cK, n, .inl fv)), (qr, .inl (cR, n, .inl gv))]) [0, 1, 2, 3, 4, 5] (by decide) rfl
            have hK9 := hK.sub (tys' := [(cC, .int), (cK, .int), (cR, .int)]) [2, 0, 1] rfl
            exact W.zret (v := 1) hx hb hr rfl (fun t ht hW => ⟨⟨1, (lfv, mv, fv, gv), rfl, ⟨Or.inr rfl, by first | assumption | exact Or.inl rfl | exact Or.inr rfl, by omega⟩, by rw [ht]; exact hP9, va_K.moved hW.alike hK9, hD9⟩, hS.F ht⟩) hS.2.2 dX4_readFrom_137
          · refine lv_iconst (v := 0) hx hb dX4_readFrom_85 (by decide) ?_
            have hP9 := hP.sub (ws' := [(hd, .inr (0, [.int (nI w), .int (nI b), .int wr, .ref qc, .ref qi, .int wa, .int wc])), (qc, .inl (cC, w * b, .inl fc)), (hm, .inr (3, [.int mk, .int mc])), (h0, .inr (4, [.int 0, .int 0, .ref qk, .ref qr])), (qk, .inl (cK, n, .inl f)), (qr, .inl (cR, n, .inl g))]) [4, 5, 3, 2, 0, 1] rfl
            have hD9 := hD.sub (ws' := [(hd, .inr (0, [.int (nI w), .int (nI b), .int wr, .ref qc, .ref qi, .int wa, .int wc])), (qc, .inl (cC, w * b, .inl fc)), (hm, .inr (3, [.int mk, .int mc])), (h0, .inr (4, [.int 0, .int 0, .ref qk, .ref qr])), (qk, .inl (cK, n, .inl f)), (qr, .inl (cR, n, .inl g))]) [4, 5, 3, 2, 0, 1] (by decide) rfl
            have hK9 := hK.sub (tys' := [(cC, .int), (cK, .int), (cR, .int)]) [2, 0, 1] rfl
            exact W.zret (v := 0) hx hb hr rfl (fun t ht hW => ⟨⟨0, (0, 0, f, g), rfl, ⟨Or.inl rfl, by first | assumption | exact Or.inl rfl | exact Or.inr rfl, by omega⟩, by rw [ht]; exact hP9, va_K.moved hW.alike hK9, hD9⟩, hS.F ht⟩) hS.2.2 dX4_readFrom_86
  · refine lv_iconst (v := 1) hx hb dX4_readFrom_23 (by decide) ?_
    refine lv_goto (tgt := 28) hx hb dX4_readFrom_24 (by decide) ?_
    have hPc := hP.sub (ws' := [(h0, .inr (4, [.int lf, .int (nI mn), .ref qk, .ref qr]))]) [1] rfl
    have hDc := hD.sub (ws' := [(h0, .inr (4, [.int lf, .int (nI mn), .ref qk, .ref qr]))]) [1] (by decide) rfl
    have hKc := hK.sub (tys' := []) [] rfl
    have hFc := va_free (wc := [(h0, .inr (4, [.int lf, .int (nI mn), .ref qk, .ref qr]))]) hD hS hA [1] rfl
    refine va_callv (va_runV (As := [.int 1]) (rest := []) ⟨hx, hb, hml, hown, hts⟩ (c_X4_clear l dC dI H.size h0 qk qr mn lf 1 (by first | assumption | omega | decide)) (cwV 1 hts g_X4_readFrom_X4_clear rfl rfl rfl (by decide +kernel) ⟨Nat.le_of_ble_eq_true rfl, Nat.le_of_ble_eq_true rfl⟩) ⟨fun a U g mk q => by obtain ⟨q0, q1, qP, qK, qD⟩ := q; exact ⟨q0, q1, qP, va_K.moved (u := U) (U := U.calling g mk a) (Vm.Alike.refl U.vm) qK, qD⟩, va_recv hKc hPc (ci := 4) (q0 := 0) rfl rfl, fun U hU hW => ⟨rfl, by rw [hU], by rw [hU]; exact hPc, va_K.moved hW.alike hKc, hDc.weaken (fun _ _ _ _ => trivial)⟩⟩ rfl rfl hl.1 rfl (lv_room (Nat.le_of_ble_eq_true rfl)) dX4_readFrom_28 ⟨(show 0 + 0 ≤ 0 by omega), (show 0 + 0 ≤ 0 by omega)⟩) hS (fun q _ h => hFc q h) hFc (fun u t H1 locs ht hvm hw hB hz1 hk1 hS => ?_)
    obtain ⟨hP1, hK1, hD1⟩ := hB
    rw [ht] at hP1
    have hK1 := va_K.moved hvm.symm hK1
    try dsimp only at hw
    obtain ⟨hP, hD⟩ := va_join (wr := [(hm, .inr (3, [.int mk, .int mc])), (qk, .inl (cK, n, .inl f)), (qr, .inl (cR, n, .inl g)), (hd, .inr (0, [.int (nI w), .int (nI b), .int wr, .ref qc, .ref qi, .int wa, .int wc])), (qc, .inl (cC, w * b, .inl fc))]) (w1 := [(h0, .inr (4, [.int 1, .int 0, .ref qk, .ref qr]))]) hP hD [1] [0, 2, 3, 4, 5] rfl rfl (by decide) (by decide) hk1 hFc hP1 hD1
    have hK := (hK.sub (tys' := [(cK, .int), (cR, .int), (cC, .int)]) [0, 1, 2] rfl).app hK1
    generalize H1 = H at hP hS ⊢
    have hP : va_P (dC, dI) vwCl [(hm, .inr (3, [.int mk, .int mc])), (qk, .inl (cK, n, .inl f)), (qr, .inl (cR, n, .inl g)), (hd, .inr (0, [.int (nI w), .int (nI b), .int wr, .ref qc, .ref qi, .int wa, .int wc])), (qc, .inl (cC, w * b, .inl fc)), (h0, .inr (4, [.int 1, .int 0, .ref qk, .ref qr]))] H := hP
    have hD : va_D A [(hm, .inr (3, [.int mk, .int mc])), (qk, .inl (cK, n, .inl f)), (qr, .inl (cR, n, .inl g)), (hd, .inr (0, [.int (nI w), .int (nI b), .int wr, .ref qc, .ref qi, .int wa, .int wc])), (qc, .inl (cC, w * b, .inl fc)), (h0, .inr (4, [.int 1, .int 0, .ref qk, .ref qr]))] := hD
    have hK : va_K (dC, dI) vwCl [(cK, .int), (cR, .int), (cC, .int)] s := hK
    refine lv_aload_n hx hb dX4_readFrom_31 rfl (lv_at hl 2 rfl) ?_
    refine va_get (D := (dC, dI)) (ci := 4) (v := .int 1) (C := RX4) (T := TX4) (N := 4) hx hb hts k_1 hown hK hP 5 rfl rfl 0 (by decide) k_2 (fun _ h9 => h9) rfl dX4_readFrom_32 ?_
    refine lv_if_eq (tgt := 42) hx hb dX4_readFrom_35 (by decide) (fun c_25 => ?_) (fun c_25 => ?_)
    · exact absurd c_25 (by decide)
    refine lv_iconst (v := 1) hx hb dX4_readFrom_38 (by decide) ?_
    refine lv_goto (tgt := 43) hx hb dX4_readFrom_39 (by decide) ?_
    refine lv_istore (lv' := [(6, .int 1), (5, .int r_2), (4, .int r_1), (0, .ref h0), (1, .ref hd), (2, .int p1), (3, .ref hm)]) hx hb dX4_readFrom_43 hl (by decide) rfl (fun ls hl => ?_)
    refine lv_iload hx hb dX4_readFrom_45 (lv_at hl 2 rfl) ?_
    refine lv_iconst (v := 1) hx hb dX4_readFrom_47 (by decide) ?_
    refine lv_icmp_eq (tgt := 57) hx hb dX4_readFrom_48 (by decide) (fun c_26 => ?_) (fun c_26 => ?_)
    rotate_left
    · exact absurd (c_3) c_26
    refine lv_iload hx hb dX4_readFrom_57 (lv_at hl 1 rfl) ?_
    refine lv_iload hx hb dX4_readFrom_59 (lv_at hl 0 rfl) ?_
    refine lv_icmp_lt (tgt := 85) hx hb dX4_readFrom_61 (by decide) (fun c_27 => ?_) (fun c_27 => ?_)
    · refine lv_iconst (v := 0) hx hb dX4_readFrom_85 (by decide) ?_
      have hP9 := hP.sub (ws' := [(hd, .inr (0, [.int (nI w), .int (nI b), .int wr, .ref qc, .ref qi, .int wa, .int wc])), (qc, .inl (cC, w * b, .inl fc)), (hm, .inr (3, [.int mk, .int mc])), (h0, .inr (4, [.int 1, .int 0, .ref qk, .ref qr])), (qk, .inl (cK, n, .inl f)), (qr, .inl (cR, n, .inl g))]) [3, 4, 0, 5, 1, 2] rfl
      have hD9 := hD.sub (ws' := [(hd, .inr (0, [.int (nI w), .int (nI b), .int wr, .ref qc, .ref qi, .int wa, .int wc])), (qc, .inl (cC, w * b, .inl fc)), (hm, .inr (3, [.int mk, .int mc])), (h0, .inr (4, [.int 1, .int 0, .ref qk, .ref qr])), (qk, .inl (cK, n, .inl f)), (qr, .inl (cR, n, .inl g))]) [3, 4, 0, 5, 1, 2] (by decide) rfl
      have hK9 := hK.sub (tys' := [(cC, .int), (cK, .int), (cR, .int)]) [2, 0, 1] rfl
      exact W.zret (v := 0) hx hb hr rfl (fun t ht hW => ⟨⟨0, (1, 0, f, g), rfl, ⟨Or.inl rfl, by first | assumption | exact Or.inl rfl | exact Or.inr rfl, by omega⟩, by rw [ht]; exact hP9, va_K.moved hW.alike hK9, hD9⟩, hS.F ht⟩) hS.2.2 dX4_readFrom_86
    · obtain ⟨tn, htn, etn⟩ := nI_of (x := r_2) (fun h9 => c_27 (Int32.lt_trans h9 (by decide)))
      subst etn
      refine lv_iload hx hb dX4_readFrom_64 (lv_at hl 1 rfl) ?_
      refine lv_aload_n hx hb dX4_readFrom_66 rfl (lv_at hl 6 rfl) ?_
      refine lv_aload_n hx hb dX4_readFrom_67 rfl (lv_at hl 3 rfl) ?_
      refine va_get (D := (dC, dI)) (ci := 4) (v := .int 1) (C := RX4) (T := TX4) (N := 4) hx hb hts k_1 hown hK hP 5 rfl rfl 0 (by decide) k_2 (fun _ h9 => h9) rfl dX4_readFrom_68 ?_
      have hPc := hP.sub (ws' := [(hm, .inr (3, [.int mk, .int mc]))]) [0] rfl
      have hDc := hD.sub (ws' := [(hm, .inr (3, [.int mk, .int mc]))]) [0] (by decide) rfl
      have hKc := hK.sub (tys' := []) [] rfl
      have hFc := va_free (wc := [(hm, .inr (3, [.int mk, .int mc]))]) hD hS hA [0] rfl
      refine va_calli (va_runV (As := [.int 1]) (rest := [.int (nI tn)]) ⟨hx, hb, hml, hown, hts⟩ (c_X3_most l dC dI H.size hm mk mc 1) (cwV 1 hts g_X4_readFrom_X3_most rfl rfl rfl (by decide +kernel) ⟨Nat.le_of_ble_eq_true rfl, Nat.le_of_ble_eq_true rfl⟩) ⟨fun a U g mk q => by obtain ⟨q0, q1, qP, qK, qD⟩ := q; exact ⟨q0, q1, qP, va_K.moved (u := U) (U := U.calling g mk a) (Vm.Alike.refl U.vm) qK, qD⟩, va_recv hKc hPc (ci := 3) (q0 := 0) rfl rfl, fun U hU hW => ⟨rfl, by rw [hU], by rw [hU]; exact hPc, va_K.moved hW.alike hKc, hDc.weaken (fun _ _ _ _ => trivial)⟩⟩ rfl rfl hl.1 rfl (lv_room (Nat.le_of_ble_eq_true rfl)) dX4_readFrom_71 ⟨(show 0 + 0 ≤ 0 by omega), (show 0 + 0 ≤ 0 by omega)⟩) hS (fun q _ h => hFc q h) hFc (fun r_28 u t H1 locs ht hvm hw hB hz1 hk1 hS => ?_)
      obtain ⟨hP1, hK1, hD1⟩ := hB
      rw [ht] at hP1
      have hK1 := va_K.moved hvm.symm hK1
      try dsimp only at hw
      obtain ⟨hP, hD⟩ := va_join (wr := [(qk, .inl (cK, n, .inl f)), (qr, .inl (cR, n, .inl g)), (hd, .inr (0, [.int (nI w), .int (nI b), .int wr, .ref qc, .ref qi, .int wa, .int wc])), (qc, .inl (cC, w * b, .inl fc)), (h0, .inr (4, [.int 1, .int 0, .ref qk, .ref qr]))]) (w1 := [(hm, .inr (3, [.int mk, .int mc]))]) hP hD [0] [1, 2, 3, 4, 5] rfl rfl (by decide) (by decide) hk1 hFc hP1 hD1
      have hK := (hK.sub (tys' := [(cK, .int), (cR, .int), (cC, .int)]) [0, 1, 2] rfl).app hK1
      generalize H1 = H at hP hS ⊢
      have hP : va_P (dC, dI) vwCl [(qk, .inl (cK, n, .inl f)), (qr, .inl (cR, n, .inl g)), (hd, .inr (0, [.int (nI w), .int (nI b), .int wr, .ref qc, .ref qi, .int wa, .int wc])), (qc, .inl (cC, w * b, .inl fc)), (h0, .inr (4, [.int 1, .int 0, .ref qk, .ref qr])), (hm, .inr (3, [.int mk, .int mc]))] H := hP
      have hD : va_D A [(qk, .inl (cK, n, .inl f)), (qr, .inl (cR, n, .inl g)), (hd, .inr (0, [.int (nI w), .int (nI b), .int wr, .ref qc, .ref qi, .int wa, .int wc])), (qc, .inl (cC, w * b, .inl fc)), (h0, .inr (4, [.int 1, .int 0, .ref qk, .ref qr])), (hm, .inr (3, [.int mk, .int mc]))] := hD
      have hK : va_K (dC, dI) vwCl [(cK, .int), (cR, .int), (cC, .int)] s := hK
      have hw_r_28 := hw
      refine lv_icmp_gt (tgt := 85) hx hb dX4_readFrom_74 (by decide) (fun c_29 => ?_) (fun c_29 => ?_)
      · refine lv_iconst (v := 0) hx hb dX4_readFrom_85 (by decide) ?_
        have hP9 := hP.sub (ws' := [(hd, .inr (0, [.int (nI w), .int (nI b), .int wr, .ref qc, .ref qi, .int wa, .int wc])), (qc, .inl (cC, w * b, .inl fc)), (hm, .inr (3, [.int mk, .int mc])), (h0, .inr (4, [.int 1, .int 0, .ref qk, .ref qr])), (qk, .inl (cK, n, .inl f)), (qr, .inl (cR, n, .inl g))]) [2, 3, 5, 4, 0, 1] rfl
        have hD9 := hD.sub (ws' := [(hd, .inr (0, [.int (nI w), .int (nI b), .int wr, .ref qc, .ref qi, .int wa, .int wc])), (qc, .inl (cC, w * b, .inl fc)), (hm, .inr (3, [.int mk, .int mc])), (h0, .inr (4, [.int 1, .int 0, .ref qk, .ref qr])), (qk, .inl (cK, n, .inl f)), (qr, .inl (cR, n, .inl g))]) [2, 3, 5, 4, 0, 1] (by decide) rfl
        have hK9 := hK.sub (tys' := [(cC, .int), (cK, .int), (cR, .int)]) [2, 0, 1] rfl
        exact W.zret (v := 0) hx hb hr rfl (fun t ht hW => ⟨⟨0, (1, 0, f, g), rfl, ⟨Or.inl rfl, by first | assumption | exact Or.inl rfl | exact Or.inr rfl, by omega⟩, by rw [ht]; exact hP9, va_K.moved hW.alike hK9, hD9⟩, hS.F ht⟩) hS.2.2 dX4_readFrom_86
      · refine lv_aload_n hx hb dX4_readFrom_77 rfl (lv_at hl 4 rfl) ?_
        refine lv_iload_n hx hb dX4_readFrom_78 rfl (lv_at hl 5 rfl) ?_
        have hPc := hP.sub (ws' := [(hd, .inr (0, [.int (nI w), .int (nI b), .int wr, .ref qc, .ref qi, .int wa, .int wc])), (qc, .inl (cC, w * b, .inl fc))]) [2, 3] rfl
        have hDc := hD.sub (ws' := [(hd, .inr (0, [.int (nI w), .int (nI b), .int wr, .ref qc, .ref qi, .int wa, .int wc])), (qc, .inl (cC, w * b, .inl fc))]) [2, 3] (by decide) rfl
        have hKc := hK.sub (tys' := [(cC, .int)]) [2] rfl
        have hFc := va_free (wc := [(hd, .inr (0, [.int (nI w), .int (nI b), .int wr, .ref qc, .ref qi, .int wa, .int wc])), (qc, .inl (cC, w * b, .inl fc))]) hD hS hA [2, 3] rfl
        refine va_calli (va_runV (As := [.int p1]) (rest := []) ⟨hx, hb, hml, hown, hts⟩ (c_X0_isSealed l dC dI H.size hd w b qc qi wr wa wc p1 cC fc (by first | assumption | omega | decide) (by first | assumption | omega | decide) (by first | assumption | omega | decide) (by first | assumption | omega | decide) (by first | assumption | omega | decide)) (cwV 1 hts g_X4_readFrom_X0_isSealed rfl rfl rfl (by decide +kernel) ⟨Nat.le_of_ble_eq_true rfl, Nat.le_of_ble_eq_true rfl⟩) ⟨fun a U g mk q => by obtain ⟨q0, q1, qP, qK, qD⟩ := q; exact ⟨q0, q1, qP, va_K.moved (u := U) (U := U.calling g mk a) (Vm.Alike.refl U.vm) qK, qD⟩, va_recv hKc hPc (ci := 0) (q0 := 0) rfl rfl, fun U hU hW => ⟨rfl, by rw [hU], by rw [hU]; exact hPc, va_K.moved hW.alike hKc, hDc.weaken (fun _ _ _ _ => trivial)⟩⟩ rfl rfl hl.1 rfl (lv_room (Nat.le_of_ble_eq_true rfl)) dX4_readFrom_79 ⟨(show 0 + 0 ≤ 0 by omega), (show 0 + 0 ≤ 0 by omega)⟩) hS (fun q _ h => hFc q h) hFc (fun r_30 u t H1 locs ht hvm hw hB hz1 hk1 hS => ?_)
        obtain ⟨hP1, hK1, hD1⟩ := hB
        rw [ht] at hP1
        have hK1 := va_K.moved hvm.symm hK1
        try dsimp only at hw
        obtain ⟨hP, hD⟩ := va_join (wr := [(qk, .inl (cK, n, .inl f)), (qr, .inl (cR, n, .inl g)), (h0, .inr (4, [.int 1, .int 0, .ref qk, .ref qr])), (hm, .inr (3, [.int mk, .int mc]))]) (w1 := [(hd, .inr (0, [.int (nI w), .int (nI b), .int wr, .ref qc, .ref qi, .int wa, .int wc])), (qc, .inl (cC, w * b, .inl fc))]) hP hD [2, 3] [0, 1, 4, 5] rfl rfl (by decide) (by decide) hk1 hFc hP1 hD1
        have hK := (hK.sub (tys' := [(cK, .int), (cR, .int)]) [0, 1] rfl).app hK1
        generalize H1 = H at hP hS ⊢
        have hP : va_P (dC, dI) vwCl [(qk, .inl (cK, n, .inl f)), (qr, .inl (cR, n, .inl g)), (h0, .inr (4, [.int 1, .int 0, .ref qk, .ref qr])), (hm, .inr (3, [.int mk, .int mc])), (hd, .inr (0, [.int (nI w), .int (nI b), .int wr, .ref qc, .ref qi, .int wa, .int wc])), (qc, .inl (cC, w * b, .inl fc))] H := hP
        have hD : va_D A [(qk, .inl (cK, n, .inl f)), (qr, .inl (cR, n, .inl g)), (h0, .inr (4, [.int 1, .int 0, .ref qk, .ref qr])), (hm, .inr (3, [.int mk, .int mc])), (hd, .inr (0, [.int (nI w), .int (nI b), .int wr, .ref qc, .ref qi, .int wa, .int wc])), (qc, .inl (cC, w * b, .inl fc))] := hD
        have hK : va_K (dC, dI) vwCl [(cK, .int), (cR, .int), (cC, .int)] s := hK
        have hw_r_30 := hw
        refine lv_if_ne (tgt := 87) hx hb dX4_readFrom_82 (by decide) (fun c_31 => ?_) (fun c_31 => ?_)
        · refine lv_iconst (v := 0) hx hb dX4_readFrom_87 (by decide) ?_
          refine lv_istore (lv' := [(7, .int 0), (6, .int 1), (5, .int (nI tn)), (4, .int r_1), (0, .ref h0), (1, .ref hd), (2, .int p1), (3, .ref hm)]) hx hb dX4_readFrom_88 hl (by decide) rfl (fun ls hl => ?_)
          have loop_90 : ∀ (Q : State → Prop), (∀ (i : Nat) (lfv : Int32) (mv : Nat) (fv : Nat → Int32) (gv : Nat → Int32) (H : Heap) (locs : List Loc) (ls : Array Slot), i ≤ tn → (lfv = 0 ∨ lfv = 1) → (mv ≤ n) → va_P (dC, dI) vwCl [(hd, .inr (0, [.int (nI w), .int (nI b), .int wr, .ref qc, .ref qi, .int wa, .int wc])), (qc, .inl (cC, w * b, .inl fc)), (hm, .inr (3, [.int mk, .int mc])), (h0, .inr (4, [.int lfv, .int (nI mv), .ref qk, .ref qr])), (qk, .inl (cK, n, .inl fv)), (qr, .inl (cR, n, .inl gv))] H → va_D A [(hd, .inr (0, [.int (nI w), .int (nI b), .int wr, .ref qc, .ref qi, .int wa, .int wc])), (qc, .inl (cC, w * b, .inl fc)), (hm, .inr (3, [.int mk, .int mc])), (h0, .inr (4, [.int lfv, .int (nI mv), .ref qk, .ref qr])), (qk, .inl (cK, n, .inl fv)), (qr, .inl (cR, n, .inl gv))] → va_S A s.heap H locs → lv_has ls 9 [(0, .ref h0), (1, .ref hd), (2, .int p1), (3, .ref hm), (4, .int r_1), (5, .int (nI tn)), (6, .int 1), (7, .int (nI i))] → W p l e (headSpec v_X4_readFrom ({ frames := 3, cells := 0, slots := 0, locals := 60 } : Room)).room s m ([.ref h0, .ref hd, .int p1, .ref hm] : List Value).toArray below meth c H locs 0 0 Q (F0 m 136 ls [])) → ∀ (nf i : Nat) (lfv : Int32) (mv : Nat) (fv : Nat → Int32) (gv : Nat → Int32) (H : Heap) (locs : List Loc) (ls : Array Slot), i ≤ tn → tn + 1 ≤ i + nf → (lfv = 0 ∨ lfv = 1) → (mv ≤ n) → va_P (dC, dI) vwCl [(hd, .inr (0, [.int (nI w), .int (nI b), .int wr, .ref qc, .ref qi, .int wa, .int wc])), (qc, .inl (cC, w * b, .inl fc)), (hm, .inr (3, [.int mk, .int mc])), (h0, .inr (4, [.int lfv, .int (nI mv), .ref qk, .ref qr])), (qk, .inl (cK, n, .inl fv)), (qr, .inl (cR, n, .inl gv))] H → va_D A [(hd, .inr (0, [.int (nI w), .int (nI b), .int wr, .ref qc, .ref qi, .int wa, .int wc])), (qc, .inl (cC, w * b, .inl fc)), (hm, .inr (3, [.int mk, .int mc])), (h0, .inr (4, [.int lfv, .int (nI mv), .ref qk, .ref qr])), (qk, .inl (cK, n, .inl fv)), (qr, .inl (cR, n, .inl gv))] → va_S A s.heap H locs → lv_has ls 9 [(0, .ref h0), (1, .ref hd), (2, .int p1), (3, .ref hm), (4, .int r_1), (5, .int (nI tn)), (6, .int 1), (7, .int (nI i))] → W p l e (headSpec v_X4_readFrom ({ frames := 3, cells := 0, slots := 0, locals := 60 } : Room)).room s m ([.ref h0, .ref hd, .int p1, .ref hm] : List Value).toArray below meth c H locs 0 0 Q (F0 m 90 ls []) := by
            intro Q kx nf
            induction nf with
            | zero =>
              intro i lfv mv fv gv H locs ls h1 h2
              exact absurd h2 (by omega)
            | succ nf ih =>
              intro i lfv mv fv gv H locs ls hi hn hlf hmv hP hD hS hl
              refine lv_iload hx hb dX4_readFrom_90 (lv_at hl 7 rfl) ?_
              refine lv_iload hx hb dX4_readFrom_92 (lv_at hl 5 rfl) ?_
              refine lv_icmp_ge (tgt := 136) hx hb dX4_readFrom_94 (by decide) (fun c_32 => ?_) (fun c_32 => ?_)
              · exact kx i lfv mv fv gv _ _ _ (by omega) hlf hmv hP hD hS (lv_sub hl [0, 1, 2, 3, 4, 5, 6, 7] rfl)
              · have hlt : i < tn := Nat.lt_of_not_le (fun h => c_32 (nI_le h (by omega)))
                refine lv_aload_n hx hb dX4_readFrom_97 rfl (lv_at hl 0 rfl) ?_
                have hPc := hP.sub (ws' := [(h0, .inr (4, [.int lfv, .int (nI mv), .ref qk, .ref qr]))]) [3] rfl
                have hDc := hD.sub (ws' := [(h0, .inr (4, [.int lfv, .int (nI mv), .ref qk, .ref qr]))]) [3] (by decide) rfl
                have hKc := hK.sub (tys' := []) [] rfl
                have hFc := va_free (wc := [(h0, .inr (4, [.int lfv, .int (nI mv), .ref qk, .ref qr]))]) hD hS hA [3] rfl
                refine va_calli (va_runV (As := []) (rest := []) ⟨hx, hb, hml, hown, hts⟩ (c_X4_firstKeyWord l dC dI H.size h0 qk qr mv lfv) (cwV 0 hts g_X4_readFrom_X4_firstKeyWord rfl rfl rfl (by decide +kernel) ⟨Nat.le_of_ble_eq_true rfl, Nat.le_of_ble_eq_true rfl⟩) ⟨fun a U g mk q => by obtain ⟨q0, q1, qP, qK, qD⟩ := q; exact ⟨q0, q1, qP, va_K.moved (u := U) (U := U.calling g mk a) (Vm.Alike.refl U.vm) qK, qD⟩, va_recv hKc hPc (ci := 4) (q0 := 0) rfl rfl, fun U hU hW => ⟨rfl, by rw [hU], by rw [hU]; exact hPc, va_K.moved hW.alike hKc, hDc.weaken (fun _ _ _ _ => trivial)⟩⟩ rfl rfl hl.1 rfl (lv_room (Nat.le_of_ble_eq_true rfl)) dX4_readFrom_98 ⟨(show 0 + 0 ≤ 0 by omega), (show 0 + 0 ≤ 0 by omega)⟩) hS (fun q _ h => hFc q h) hFc (fun r_33 u t H1 locs ht hvm hw hB hz1 hk1 hS => ?_)
                obtain ⟨hP1, hK1, hD1⟩ := hB
                rw [ht] at hP1
                have hK1 := va_K.moved hvm.symm hK1
                try dsimp only at hw
                obtain ⟨hP, hD⟩ := va_join (wr := [(hd, .inr (0, [.int (nI w), .int (nI b), .int wr, .ref qc, .ref qi, .int wa, .int wc])), (qc, .inl (cC, w * b, .inl fc)), (hm, .inr (3, [.int mk, .int mc])), (qk, .inl (cK, n, .inl fv)), (qr, .inl (cR, n, .inl gv))]) (w1 := [(h0, .inr (4, [.int lfv, .int (nI mv), .ref qk, .ref qr]))]) hP hD [3] [0, 1, 2, 4, 5] rfl rfl (by decide) (by decide) hk1 hFc hP1 hD1
                have hK := (hK.sub (tys' := [(cK, .int), (cR, .int), (cC, .int)]) [0, 1, 2] rfl).app hK1
                generalize H1 = H at hP hS ⊢
                have hP : va_P (dC, dI) vwCl [(hd, .inr (0, [.int (nI w), .int (nI b), .int wr, .ref qc, .ref qi, .int wa, .int wc])), (qc, .inl (cC, w * b, .inl fc)), (hm, .inr (3, [.int mk, .int mc])), (qk, .inl (cK, n, .inl fv)), (qr, .inl (cR, n, .inl gv)), (h0, .inr (4, [.int lfv, .int (nI mv), .ref qk, .ref qr]))] H := hP
                have hD : va_D A [(hd, .inr (0, [.int (nI w), .int (nI b), .int wr, .ref qc, .ref qi, .int wa, .int wc])), (qc, .inl (cC, w * b, .inl fc)), (hm, .inr (3, [.int mk, .int mc])), (qk, .inl (cK, n, .inl fv)), (qr, .inl (cR, n, .inl gv)), (h0, .inr (4, [.int lfv, .int (nI mv), .ref qk, .ref qr]))] := hD
                have hK : va_K (dC, dI) vwCl [(cK, .int), (cR, .int), (cC, .int)] s := hK
                have hw_r_33 := hw
                refine lv_iconst (v := 2) hx hb dX4_readFrom_101 (by decide) ?_
                refine lv_iload hx hb dX4_readFrom_102 (lv_at hl 7 rfl) ?_
                refine lv_imul hx hb dX4_readFrom_104 ?_
                refine lv_topi (fun z_34 _ => ?_)
                refine lv_iadd hx hb dX4_readFrom_105 ?_
                refine lv_topi (fun z_35 _ => ?_)
                refine lv_istore (lv' := [(8, .int z_35), (0, .ref h0), (1, .ref hd), (2, .int p1), (3, .ref hm), (4, .int r_1), (5, .int (nI tn)), (6, .int 1), (7, .int (nI i))]) hx hb dX4_readFrom_106 hl (by decide) rfl (fun ls hl => ?_)
                refine lv_aload_n hx hb dX4_readFrom_108 rfl (lv_at hl 1 rfl) ?_
                refine lv_iload hx hb dX4_readFrom_109 (lv_at hl 8 rfl) ?_
                refine lv_aload_n hx hb dX4_readFrom_111 rfl (lv_at hl 2 rfl) ?_
                refine lv_iload_n hx hb dX4_readFrom_112 rfl (lv_at hl 3 rfl) ?_
                refine lv_iload hx hb dX4_readFrom_113 (lv_at hl 0 rfl) ?_
                have hPc := hP.sub (ws' := [(hd, .inr (0, [.int (nI w), .int (nI b), .int wr, .ref qc, .ref qi, .int wa, .int wc])), (qc, .inl (cC, w * b, .inl fc))]) [0, 1] rfl
                have hDc := hD.sub (ws' := [(hd, .inr (0, [.int (nI w), .int (nI b), .int wr, .ref qc, .ref qi, .int wa, .int wc])), (qc, .inl (cC, w * b, .inl fc))]) [0, 1] (by decide) rfl
                have hKc := hK.sub (tys' := [(cC, .int)]) [2] rfl
                have hFc := va_free (wc := [(hd, .inr (0, [.int (nI w), .int (nI b), .int wr, .ref qc, .ref qi, .int wa, .int wc])), (qc, .inl (cC, w * b, .inl fc))]) hD hS hA [0, 1] rfl
                refine va_calli (va_runV (As := [.int p1, .int z_35]) (rest := [.int (nI i), .ref h0]) ⟨hx, hb, hml, hown, hts⟩ (c_X0_read_any l dC dI H.size hd w b qc qi wr wa wc p1 z_35 cC fc (by first | assumption | omega | decide) (by first | assumption | omega | decide) (by first | assumption | omega | decide) (by first | assumption | omega | decide) (by first | assumption | omega | decide)) (cwV 2 hts g_X4_readFrom_X0_read_any rfl rfl rfl (by decide +kernel) ⟨Nat.le_of_ble_eq_true rfl, Nat.le_of_ble_eq_true rfl⟩) ⟨fun a U g mk q => by obtain ⟨q0, q1, qP, qK, qD⟩ := q; exact ⟨q0, q1, qP, va_K.moved (u := U) (U := U.calling g mk a) (Vm.Alike.refl U.vm) qK, qD⟩, va_recv hKc hPc (ci := 0) (q0 := 0) rfl rfl, fun U hU hW => ⟨rfl, by rw [hU], by rw [hU]; exact hPc, va_K.moved hW.alike hKc, hDc.weaken (fun _ _ _ _ => trivial)⟩⟩ rfl rfl hl.1 rfl (lv_room (Nat.le_of_ble_eq_true rfl)) dX4_readFrom_115 ⟨(show 0 + 0 ≤ 0 by omega), (show 0 + 0 ≤ 0 by omega)⟩) hS (fun q _ h => hFc q h) hFc (fun r_36 u t H1 locs ht hvm hw hB hz1 hk1 hS => ?_)
                obtain ⟨hP1, hK1, hD1⟩ := hB
                rw [ht] at hP1
                have hK1 := va_K.moved hvm.symm hK1
                try dsimp only at hw
                obtain ⟨hP, hD⟩ := va_join (wr := [(hm, .inr (3, [.int mk, .int mc])), (qk, .inl (cK, n, .inl fv)), (qr, .inl (cR, n, .inl gv)), (h0, .inr (4, [.int lfv, .int (nI mv), .ref qk, .ref qr]))]) (w1 := [(hd, .inr (0, [.int (nI w), .int (nI b), .int wr, .ref qc, .ref qi, .int wa, .int wc])), (qc, .inl (cC, w * b, .inl fc))]) hP hD [0, 1] [2, 3, 4, 5] rfl rfl (by decide) (by decide) hk1 hFc hP1 hD1
                have hK := (hK.sub (tys' := [(cK, .int), (cR, .int)]) [0, 1] rfl).app hK1
                generalize H1 = H at hP hS ⊢
                have hP : va_P (dC, dI) vwCl [(hm, .inr (3, [.int mk, .int mc])), (qk, .inl (cK, n, .inl fv)), (qr, .inl (cR, n, .inl gv)), (h0, .inr (4, [.int lfv, .int (nI mv), .ref qk, .ref qr])), (hd, .inr (0, [.int (nI w), .int (nI b), .int wr, .ref qc, .ref qi, .int wa, .int wc])), (qc, .inl (cC, w * b, .inl fc))] H := hP
                have hD : va_D A [(hm, .inr (3, [.int mk, .int mc])), (qk, .inl (cK, n, .inl fv)), (qr, .inl (cR, n, .inl gv)), (h0, .inr (4, [.int lfv, .int (nI mv), .ref qk, .ref qr])), (hd, .inr (0, [.int (nI w), .int (nI b), .int wr, .ref qc, .ref qi, .int wa, .int wc])), (qc, .inl (cC, w * b, .inl fc))] := hD
                have hK : va_K (dC, dI) vwCl [(cK, .int), (cR, .int), (cC, .int)] s := hK
                have hw_r_36 := hw
                refine lv_aload_n hx hb dX4_readFrom_118 rfl (lv_at hl 2 rfl) ?_
                refine lv_iload_n hx hb dX4_readFrom_119 rfl (lv_at hl 3 rfl) ?_
                refine lv_iload hx hb dX4_readFrom_120 (lv_at hl 0 rfl) ?_
                refine lv_iconst (v := 1) hx hb dX4_readFrom_122 (by decide) ?_
                refine lv_iadd hx hb dX4_readFrom_123 ?_
                refine lv_topi (fun z_37 _ => ?_)
                have hPc := hP.sub (ws' := [(hd, .inr (0, [.int (nI w), .int (nI b), .int wr, .ref qc, .ref qi, .int wa, .int wc])), (qc, .inl (cC, w * b, .inl fc))]) [4, 5] rfl
                have hDc := hD.sub (ws' := [(hd, .inr (0, [.int (nI w), .int (nI b), .int wr, .ref qc, .ref qi, .int wa, .int wc])), (qc, .inl (cC, w * b, .inl fc))]) [4, 5] (by decide) rfl
                have hKc := hK.sub (tys' := [(cC, .int)]) [2] rfl
                have hFc := va_free (wc := [(hd, .inr (0, [.int (nI w), .int (nI b), .int wr, .ref qc, .ref qi, .int wa, .int wc])), (qc, .inl (cC, w * b, .inl fc))]) hD hS hA [4, 5] rfl
                refine va_calli (va_runV (As := [.int p1, .int z_37]) (rest := [.int r_36, .int (nI i), .ref h0]) ⟨hx, hb, hml, hown, hts⟩ (c_X0_read_any l dC dI H.size hd w b qc qi wr wa wc p1 z_37 cC fc (by first | assumption | omega | decide) (by first | assumption | omega | decide) (by first | assumption | omega | decide) (by first | assumption | omega | decide) (by first | assumption | omega | decide)) (cwV 2 hts g_X4_readFrom_X0_read_any rfl rfl rfl (by decide +kernel) ⟨Nat.le_of_ble_eq_true rfl, Nat.le_of_ble_eq_true rfl⟩) ⟨fun a U g mk q => by obtain ⟨q0, q1, qP, qK, qD⟩ := q; exact ⟨q0, q1, qP, va_K.moved (u := U) (U := U.calling g mk a) (Vm.Alike.refl U.vm) qK, qD⟩, va_recv hKc hPc (ci := 0) (q0 := 0) rfl rfl, fun U hU hW => ⟨rfl, by rw [hU], by rw [hU]; exact hPc, va_K.moved hW.alike hKc, hDc.weaken (fun _ _ _ _ => trivial)⟩⟩ rfl rfl hl.1 rfl (lv_room (Nat.le_of_ble_eq_true rfl)) dX4_readFrom_124 ⟨(show 0 + 0 ≤ 0 by omega), (show 0 + 0 ≤ 0 by omega)⟩) hS (fun q _ h => hFc q h) hFc (fun r_38 u t H1 locs ht hvm hw hB hz1 hk1 hS => ?_)
                obtain ⟨hP1, hK1, hD1⟩ := hB
                rw [ht] at hP1
                have hK1 := va_K.moved hvm.symm hK1
                try dsimp only at hw
                obtain ⟨hP, hD⟩ := va_join (wr := [(hm, .inr (3, [.int mk, .int mc])), (qk, .inl (cK, n, .inl fv)), (qr, .inl (cR, n, .inl gv)), (h0, .inr (4, [.int lfv, .int (nI mv), .ref qk, .ref qr]))]) (w1 := [(hd, .inr (0, [.int (nI w), .int (nI b), .int wr, .ref qc, .ref qi, .int wa, .int wc])), (qc, .inl (cC, w * b, .inl fc))]) hP hD [4, 5] [0, 1, 2, 3] rfl rfl (by decide) (by decide) hk1 hFc hP1 hD1
                have hK := (hK.sub (tys' := [(cK, .int), (cR, .int)]) [0, 1] rfl).app hK1
                generalize H1 = H at hP hS ⊢
                have hP : va_P (dC, dI) vwCl [(hm, .inr (3, [.int mk, .int mc])), (qk, .inl (cK, n, .inl fv)), (qr, .inl (cR, n, .inl gv)), (h0, .inr (4, [.int lfv, .int (nI mv), .ref qk, .ref qr])), (hd, .inr (0, [.int (nI w), .int (nI b), .int wr, .ref qc, .ref qi, .int wa, .int wc])), (qc, .inl (cC, w * b, .inl fc))] H := hP
                have hD : va_D A [(hm, .inr (3, [.int mk, .int mc])), (qk, .inl (cK, n, .inl fv)), (qr, .inl (cR, n, .inl gv)), (h0, .inr (4, [.int lfv, .int (nI mv), .ref qk, .ref qr])), (hd, .inr (0, [.int (nI w), .int (nI b), .int wr, .ref qc, .ref qi, .int wa, .int wc])), (qc, .inl (cC, w * b, .inl fc))] := hD
                have hK : va_K (dC, dI) vwCl [(cK, .int), (cR, .int), (cC, .int)] s := hK
                have hw_r_38 := hw
                have hPc := hP.sub (ws' := [(h0, .inr (4, [.int lfv, .int (nI mv), .ref qk, .ref qr])), (qk, .inl (cK, n, .inl fv)), (qr, .inl (cR, n, .inl gv))]) [3, 1, 2] rfl
                have hDc := hD.sub (ws' := [(h0, .inr (4, [.int lfv, .int (nI mv), .ref qk, .ref qr])), (qk, .inl (cK, n, .inl fv)), (qr, .inl (cR, n, .inl gv))]) [3, 1, 2] (by decide) rfl
                have hKc := hK.sub (tys' := [(cK, .int), (cR, .int)]) [0, 1] rfl
                have hFc := va_free (wc := [(h0, .inr (4, [.int lfv, .int (nI mv), .ref qk, .ref qr])), (qk, .inl (cK, n, .inl fv)), (qr, .inl (cR, n, .inl gv))]) hD hS hA [3, 1, 2] rfl
                refine va_callv (va_runV (As := [.int (nI i), .int r_36, .int r_38]) (rest := []) ⟨hx, hb, hml, hown, hts⟩ (c_X4_insert l dC dI H.size h0 qk qr n mv lfv cK cR fv gv i r_36 r_38 (by first | assumption | omega | decide) (by first | assumption | omega | decide) (by first | assumption | omega | decide)) (cwV 3 hts g_X4_readFrom_X4_insert rfl rfl rfl (by decide +kernel) ⟨Nat.le_of_ble_eq_true rfl, Nat.le_of_ble_eq_true rfl⟩) ⟨fun a U g mk q => by obtain ⟨q0, q1, qP, qK, qD⟩ := q; exact ⟨q0, q1, qP, va_K.moved (u := U) (U := U.calling g mk a) (Vm.Alike.refl U.vm) qK, qD⟩, va_recv hKc hPc (ci := 4) (q0 := 0) rfl rfl, fun U hU hW => ⟨rfl, by rw [hU], by rw [hU]; exact hPc, va_K.moved hW.alike hKc, hDc.weaken (fun _ _ _ _ => trivial)⟩⟩ rfl rfl hl.1 rfl (lv_room (Nat.le_of_ble_eq_true rfl)) dX4_readFrom_127 ⟨(show 0 + 0 ≤ 0 by omega), (show 0 + 0 ≤ 0 by omega)⟩) hS (fun q _ h => hFc q h) hFc (fun u t H1 locs ht hvm hw hB hz1 hk1 hS => ?_)
                obtain ⟨m2_40, f2_41, g2_42⟩ := u
                obtain ⟨hP1, hK1, hD1⟩ := hB
                rw [ht] at hP1
                have hK1 := va_K.moved hvm.symm hK1
                try dsimp only at hw
                obtain ⟨hP, hD⟩ := va_join (wr := [(hm, .inr (3, [.int mk, .int mc])), (hd, .inr (0, [.int (nI w), .int (nI b), .int wr, .ref qc, .ref qi, .int wa, .int wc])), (qc, .inl (cC, w * b, .inl fc))]) (w1 := [(h0, .inr (4, [.int lfv, .int (nI m2_40), .ref qk, .ref qr])), (qk, .inl (cK, n, .inl f2_41)), (qr, .inl (cR, n, .inl g2_42))]) hP hD [3, 1, 2] [0, 4, 5] rfl rfl (by decide) (by decide) hk1 hFc hP1 hD1
                have hK := (hK.sub (tys' := [(cC, .int)]) [2] rfl).app hK1
                generalize H1 = H at hP hS ⊢
                have hP : va_P (dC, dI) vwCl [(hm, .inr (3, [.int mk, .int mc])), (hd, .inr (0, [.int (nI w), .int (nI b), .int wr, .ref qc, .ref qi, .int wa, .int wc])), (qc, .inl (cC, w * b, .inl fc)), (h0, .inr (4, [.int lfv, .int (nI m2_40), .ref qk, .ref qr])), (qk, .inl (cK, n, .inl f2_41)), (qr, .inl (cR, n, .inl g2_42))] H := hP
                have hD : va_D A [(hm, .inr (3, [.int mk, .int mc])), (hd, .inr (0, [.int (nI w), .int (nI b), .int wr, .ref qc, .ref qi, .int wa, .int wc])), (qc, .inl (cC, w * b, .inl fc)), (h0, .inr (4, [.int lfv, .int (nI m2_40), .ref qk, .ref qr])), (qk, .inl (cK, n, .inl f2_41)), (qr, .inl (cR, n, .inl g2_42))] := hD
                have hK : va_K (dC, dI) vwCl [(cC, .int), (cK, .int), (cR, .int)] s := hK
                have hw_r_39 := hw
                refine lv_iinc (v := (nI (i + 1))) (lv' := [(7, .int (nI (i + 1))), (8, .int z_35), (0, .ref h0), (1, .ref hd), (2, .int p1), (3, .ref hm), (4, .int r_1), (5, .int (nI tn)), (6, .int 1)]) hx hb dX4_readFrom_130 hl (k := 8) rfl (nI_1 i) (by decide) rfl (fun ls hl => ?_)
                refine lv_goto (tgt := 90) hx hb dX4_readFrom_133 (by decide) ?_
                exact ih (i + 1) lfv m2_40 f2_41 g2_42 _ _ _ (by omega) (by omega) hlf (by omega) (hP.sub [1, 2, 0, 3, 4, 5] rfl) (hD.sub [1, 2, 0, 3, 4, 5] (by decide) rfl) hS (lv_sub hl [2, 3, 4, 5, 6, 7, 8, 0] rfl)
          refine loop_90 _ (fun i lfv mv fv gv H locs ls hi hlf hmv hP hD hS hl => ?_) (tn + 1) 0 1 0 f g _ _ _ (by omega) (by omega) (by decide) (by omega) (hP.sub [4, 5, 3, 2, 0, 1] rfl) (hD.sub [4, 5, 3, 2, 0, 1] (by decide) rfl) hS (lv_sub hl [4, 5, 6, 7, 3, 2, 1, 0] rfl)
          refine lv_iconst (v := 1) hx hb dX4_readFrom_136 (by decide) ?_
          have hP9 := hP.sub (ws' := [(hd, .inr (0, [.int (nI w), .int (nI b), .int wr, .ref qc, .ref qi, .int wa, .int wc])), (qc, .inl (cC, w * b, .inl fc)), (hm, .inr (3, [.int mk, .int mc])), (h0, .inr (4, [.int lfv, .int (nI mv), .ref qk, .ref qr])), (qk, .inl (cK, n, .inl fv)), (qr, .inl (cR, n, .inl gv))]) [0, 1, 2, 3, 4, 5] rfl
          have hD9 := hD.sub (ws' := [(hd, .inr (0, [.int (nI w), .int (nI b), .int wr, .ref qc, .ref qi, .int wa, .int wc])), (qc, .inl (cC, w * b, .inl fc)), (hm, .inr (3, [.int mk, .int mc])), (h0, .inr (4, [.int lfv, .int (nI mv), .ref qk, .ref qr])), (qk, .inl (cK, n, .inl fv)), (qr, .inl (cR, n, .inl gv))]) [0, 1, 2, 3, 4, 5] (by decide) rfl
          have hK9 := hK.sub (tys' := [(cC, .int), (cK, .int), (cR, .int)]) [2, 0, 1] rfl
          exact W.zret (v := 1) hx hb hr rfl (fun t ht hW => ⟨⟨1, (lfv, mv, fv, gv), rfl, ⟨Or.inr rfl, by first | assumption | exact Or.inl rfl | exact Or.inr rfl, by omega⟩, by rw [ht]; exact hP9, va_K.moved hW.alike hK9, hD9⟩, hS.F ht⟩) hS.2.2 dX4_readFrom_137
        · refine lv_iconst (v := 0) hx hb dX4_readFrom_85 (by decide) ?_
          have hP9 := hP.sub (ws' := [(hd, .inr (0, [.int (nI w), .int (nI b), .int wr, .ref qc, .ref qi, .int wa, .int wc])), (qc, .inl (cC, w * b, .inl fc)), (hm, .inr (3, [.int mk, .int mc])), (h0, .inr (4, [.int 1, .int 0, .ref qk, .ref qr])), (qk, .inl (cK, n, .inl f)), (qr, .inl (cR, n, .inl g))]) [4, 5, 3, 2, 0, 1] rfl
          have hD9 := hD.sub (ws' := [(hd, .inr (0, [.int (nI w), .int (nI b), .int wr, .ref qc, .ref qi, .int wa, .int wc])), (qc, .inl (cC, w * b, .inl fc)), (hm, .inr (3, [.int mk, .int mc])), (h0, .inr (4, [.int 1, .int 0, .ref qk, .ref qr])), (qk, .inl (cK, n, .inl f)), (qr, .inl (cR, n, .inl g))]) [4, 5, 3, 2, 0, 1] (by decide) rfl
          have hK9 := hK.sub (tys' := [(cC, .int), (cK, .int), (cR, .int)]) [2, 0, 1] rfl
          exact W.zret (v := 0) hx hb hr rfl (fun t ht hW => ⟨⟨0, (1, 0, f, g), rfl, ⟨Or.inl rfl, by first | assumption | exact Or.inl rfl | exact Or.inr rfl, by omega⟩, by rw [ht]; exact hP9, va_K.moved hW.alike hK9, hD9⟩, hS.F ht⟩) hS.2.2 dX4_readFrom_86

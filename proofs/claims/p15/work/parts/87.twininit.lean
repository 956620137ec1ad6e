theorem dX8_init_0 : decode cX8_init 0 = .ok (.aload_n 0, 1) := by decide +kernel
theorem dX8_init_1 : decode cX8_init 1 = .ok (.invokespecial 1, 3) := by decide +kernel
theorem dX8_init_4 : decode cX8_init 4 = .ok (.bipush 12, 2) := by decide +kernel
theorem dX8_init_6 : decode cX8_init 6 = .ok (.bipush 40, 2) := by decide +kernel
theorem dX8_init_8 : decode cX8_init 8 = .ok (.iload_n 1, 1) := by decide +kernel
theorem dX8_init_9 : decode cX8_init 9 = .ok (.invokestatic 9, 3) := by decide +kernel
theorem dX8_init_12 : decode cX8_init 12 = .ok (.invokestatic 15, 3) := by decide +kernel
theorem dX8_init_15 : decode cX8_init 15 = .ok (.istore_n 3, 1) := by decide +kernel
theorem dX8_init_16 : decode cX8_init 16 = .ok (.iconst 4, 1) := by decide +kernel
theorem dX8_init_17 : decode cX8_init 17 = .ok (.bipush 64, 2) := by decide +kernel
theorem dX8_init_19 : decode cX8_init 19 = .ok (.iload_n 2, 1) := by decide +kernel
theorem dX8_init_20 : decode cX8_init 20 = .ok (.invokestatic 9, 3) := by decide +kernel
theorem dX8_init_23 : decode cX8_init 23 = .ok (.invokestatic 15, 3) := by decide +kernel
theorem dX8_init_26 : decode cX8_init 26 = .ok (.istore 4, 2) := by decide +kernel
theorem dX8_init_28 : decode cX8_init 28 = .ok (.new 18, 3) := by decide +kernel
theorem dX8_init_31 : decode cX8_init 31 = .ok (.dup, 1) := by decide +kernel
theorem dX8_init_32 : decode cX8_init 32 = .ok (.iload_n 3, 1) := by decide +kernel
theorem dX8_init_33 : decode cX8_init 33 = .ok (.invokespecial 20, 3) := by decide +kernel
theorem dX8_init_36 : decode cX8_init 36 = .ok (.astore 5, 2) := by decide +kernel
theorem dX8_init_38 : decode cX8_init 38 = .ok (.aload_n 0, 1) := by decide +kernel
theorem dX8_init_39 : decode cX8_init 39 = .ok (.new 23, 3) := by decide +kernel
theorem dX8_init_42 : decode cX8_init 42 = .ok (.dup, 1) := by decide +kernel
theorem dX8_init_43 : decode cX8_init 43 = .ok (.iload_n 3, 1) := by decide +kernel
theorem dX8_init_44 : decode cX8_init 44 = .ok (.iload 4, 2) := by decide +kernel
theorem dX8_init_46 : decode cX8_init 46 = .ok (.invokespecial 25, 3) := by decide +kernel
theorem dX8_init_49 : decode cX8_init 49 = .ok (.putfield 28, 3) := by decide +kernel
theorem dX8_init_52 : decode cX8_init 52 = .ok (.aload_n 0, 1) := by decide +kernel
theorem dX8_init_53 : decode cX8_init 53 = .ok (.new 32, 3) := by decide +kernel
theorem dX8_init_56 : decode cX8_init 56 = .ok (.dup, 1) := by decide +kernel
theorem dX8_init_57 : decode cX8_init 57 = .ok (.iload_n 3, 1) := by decide +kernel
theorem dX8_init_58 : decode cX8_init 58 = .ok (.iload 4, 2) := by decide +kernel
theorem dX8_init_60 : decode cX8_init 60 = .ok (.invokespecial 34, 3) := by decide +kernel
theorem dX8_init_63 : decode cX8_init 63 = .ok (.putfield 35, 3) := by decide +kernel
theorem dX8_init_66 : decode cX8_init 66 = .ok (.aload_n 0, 1) := by decide +kernel
theorem dX8_init_67 : decode cX8_init 67 = .ok (.new 39, 3) := by decide +kernel
theorem dX8_init_70 : decode cX8_init 70 = .ok (.dup, 1) := by decide +kernel
theorem dX8_init_71 : decode cX8_init 71 = .ok (.aload_n 0, 1) := by decide +kernel
theorem dX8_init_72 : decode cX8_init 72 = .ok (.getfield 28, 3) := by decide +kernel
theorem dX8_init_75 : decode cX8_init 75 = .ok (.aload_n 0, 1) := by decide +kernel
theorem dX8_init_76 : decode cX8_init 76 = .ok (.getfield 35, 3) := by decide +kernel
theorem dX8_init_79 : decode cX8_init 79 = .ok (.aload 5, 2) := by decide +kernel
theorem dX8_init_81 : decode cX8_init 81 = .ok (.invokespecial 41, 3) := by decide +kernel
theorem dX8_init_84 : decode cX8_init 84 = .ok (.putfield 44, 3) := by decide +kernel
theorem dX8_init_87 : decode cX8_init 87 = .ok (.aload_n 0, 1) := by decide +kernel
theorem dX8_init_88 : decode cX8_init 88 = .ok (.new 48, 3) := by decide +kernel
theorem dX8_init_91 : decode cX8_init 91 = .ok (.dup, 1) := by decide +kernel
theorem dX8_init_92 : decode cX8_init 92 = .ok (.iload_n 3, 1) := by decide +kernel
theorem dX8_init_93 : decode cX8_init 93 = .ok (.invokespecial 50, 3) := by decide +kernel
theorem dX8_init_96 : decode cX8_init 96 = .ok (.putfield 51, 3) := by decide +kernel
theorem dX8_init_99 : decode cX8_init 99 = .ok (.aload_n 0, 1) := by decide +kernel
theorem dX8_init_100 : decode cX8_init 100 = .ok (.new 55, 3) := by decide +kernel
theorem dX8_init_103 : decode cX8_init 103 = .ok (.dup, 1) := by decide +kernel
theorem dX8_init_104 : decode cX8_init 104 = .ok (.iload_n 3, 1) := by decide +kernel
theorem dX8_init_105 : decode cX8_init 105 = .ok (.aload 5, 2) := by decide +kernel
theorem dX8_init_107 : decode cX8_init 107 = .ok (.aload_n 0, 1) := by decide +kernel
theorem dX8_init_108 : decode cX8_init 108 = .ok (.getfield 35, 3) := by decide +kernel
theorem dX8_init_111 : decode cX8_init 111 = .ok (.aload_n 0, 1) := by decide +kernel
theorem dX8_init_112 : decode cX8_init 112 = .ok (.getfield 51, 3) := by decide +kernel
theorem dX8_init_115 : decode cX8_init 115 = .ok (.invokespecial 57, 3) := by decide +kernel
theorem dX8_init_118 : decode cX8_init 118 = .ok (.putfield 60, 3) := by decide +kernel
theorem dX8_init_121 : decode cX8_init 121 = .ok (.aload_n 0, 1) := by decide +kernel
theorem dX8_init_122 : decode cX8_init 122 = .ok (.new 64, 3) := by decide +kernel
theorem dX8_init_125 : decode cX8_init 125 = .ok (.dup, 1) := by decide +kernel
theorem dX8_init_126 : decode cX8_init 126 = .ok (.invokespecial 66, 3) := by decide +kernel
theorem dX8_init_129 : decode cX8_init 129 = .ok (.putfield 67, 3) := by decide +kernel
theorem dX8_init_132 : decode cX8_init 132 = .ok (.aload_n 0, 1) := by decide +kernel
theorem dX8_init_133 : decode cX8_init 133 = .ok (.new 64, 3) := by decide +kernel
theorem dX8_init_136 : decode cX8_init 136 = .ok (.dup, 1) := by decide +kernel
theorem dX8_init_137 : decode cX8_init 137 = .ok (.invokespecial 66, 3) := by decide +kernel
theorem dX8_init_140 : decode cX8_init 140 = .ok (.putfield 71, 3) := by decide +kernel
theorem dX8_init_143 : decode cX8_init 143 = .ok (.aload_n 0, 1) := by decide +kernel
theorem dX8_init_144 : decode cX8_init 144 = .ok (.new 64, 3) := by decide +kernel
theorem dX8_init_147 : decode cX8_init 147 = .ok (.dup, 1) := by decide +kernel
theorem dX8_init_148 : decode cX8_init 148 = .ok (.invokespecial 66, 3) := by decide +kernel
theorem dX8_init_151 : decode cX8_init 151 = .ok (.putfield 74, 3) := by decide +kernel
theorem dX8_init_154 : decode cX8_init 154 = .ok (.aload_n 0, 1) := by decide +kernel
theorem dX8_init_155 : decode cX8_init 155 = .ok (.iconst 1, 1) := by decide +kernel
theorem dX8_init_156 : decode cX8_init 156 = .ok (.putfield 77, 3) := by decide +kernel
theorem dX8_init_159 : decode cX8_init 159 = .ok (.return_, 1) := by decide +kernel
def v_X8_init : List Cond := .code yX8_init cX8_init 6 none :: ([.code objectInit ⟨#[0xb1]⟩ 1 none, .methodLink RX8 1 objectInit, .instanceMethod objectInit, .code Lib.Math.min.name Lib.Math.min.code 2 (some .int), .methodLink RX8 9 Lib.Math.min.name, .static Lib.Math.min.name, .initialized "java/lang/Math", .code Lib.Math.max.name Lib.Math.max.code 2 (some .int), .methodLink RX8 15 Lib.Math.max.name, .static Lib.Math.max.name, .classLink RX8 18 RX3, .instantiable RX3 2, .initialized RX3, .code yX3_init cX3_init 2 none, .methodLink RX3 1 objectInit, .fieldLink RX3 7 "TwinRoots$Limits" "mostKeys" "I", .fieldLink RX3 13 "TwinRoots$Limits" "mostChildren" "I", .methodLink RX8 20 yX3_init, .instanceMethod yX3_init, .classLink RX8 23 RX0, .instantiable RX0 7, .initialized RX0, .code yX0_init cX0_init 3 none, .methodLink RX0 1 objectInit, .fieldLink RX0 7 "TwinRoots$Disk" "words" "I", .fieldLink RX0 13 "TwinRoots$Disk" "blocks" "I", .arrayClass .int, .fieldLink RX0 16 "TwinRoots$Disk" "cells" "[I", .fieldLink RX0 20 "TwinRoots$Disk" "image" "[I", .fieldLink RX0 23 "TwinRoots$Disk" "writesAhead" "I", .methodLink RX8 25 yX0_init, .instanceMethod yX0_init, .fieldLink RX8 28 "TwinRoots" "disk" "LTwinRoots$Disk;", .classLink RX8 32 RX2, .instantiable RX2 6, .initialized RX2, .code yX2_init cX2_init 4 none, .methodLink RX2 3 objectInit, .classLink RX2 9 RX4, .fieldLink RX2 11 "TwinRoots$Forest" "pages" "[LTwinRoots$Page;", .instantiable RX4 4, .initialized RX4, .code yX4_init cX4_init 2 none, .methodLink RX4 3 objectInit, .fieldLink RX4 9 "TwinRoots$Page" "leaf" "Z", .fieldLink RX4 15 "TwinRoots$Page" "keys" "[I", .fieldLink RX4 19 "TwinRoots$Page" "refs" "[I", .methodLink RX2 17 yX4_init, .instanceMethod yX4_init, .fieldLink RX2 20 "TwinRoots$Forest" "empty" "LTwinRoots$Page;", .fieldLink RX2 24 "TwinRoots$Forest" "line" "[I", .methodLink RX8 34 yX2_init, .instanceMethod yX2_init, .fieldLink RX8 35 "TwinRoots" "forest" "LTwinRoots$Forest;", .classLink RX8 39 RX6, .instantiable RX6 10, .initialized RX6, .code yX6_init cX6_init 4 none, .methodLink RX6 3 objectInit, .fieldLink RX6 9 "TwinRoots$Survey" "disk" "LTwinRoots$Disk;", .fieldLink RX6 15 "TwinRoots$Survey" "forest" "LTwinRoots$Forest;", .fieldLink RX6 19 "TwinRoots$Survey" "limits" "LTwinRoots$Limits;", .fieldLink RX6 23 "TwinRoots$Disk" "blocks" "I", .fieldLink RX6 29 "TwinRoots$Survey" "line" "[I", .arrayClass .long, .fieldLink RX6 33 "TwinRoots$Survey" "lowest" "[J", .fieldLink RX6 37 "TwinRoots$Survey" "ceiling" "[J", .methodLink RX8 41 yX6_init, .instanceMethod yX6_init, .fieldLink RX8 44 "TwinRoots" "survey" "LTwinRoots$Survey;", .classLink RX8 48 RX5, .instantiable RX5 8, .initialized RX5, .code yX5_init cX5_init 3 none, .methodLink RX5 3 objectInit, .classLink RX5 9 RX4, .fieldLink RX5 11 "TwinRoots$Plan" "drafts" "[LTwinRoots$Page;", .fieldLink RX5 20 "TwinRoots$Plan" "targets" "[I", .methodLink RX5 17 yX4_init, .fieldLink RX5 24 "TwinRoots$Plan" "blank" "LTwinRoots$Page;", .methodLink RX8 50 yX5_init, .instanceMethod yX5_init, .fieldLink RX8 51 "TwinRoots" "plan" "LTwinRoots$Plan;", .classLink RX8 55 RX1, .instantiable RX1 9, .initialized RX1, .code yX1_init cX1_init 5 none, .methodLink RX1 3 objectInit, .fieldLink RX1 9 "TwinRoots$Editor" "limits" "LTwinRoots$Limits;", .fieldLink RX1 15 "TwinRoots$Editor" "forest" "LTwinRoots$Forest;", .fieldLink RX1 19 "TwinRoots$Editor" "plan" "LTwinRoots$Plan;", .fieldLink RX1 23 "TwinRoots$Editor" "pathBlocks" "[I", .fieldLink RX1 27 "TwinRoots$Editor" "pathPlaces" "[I", .classLink RX1 30 RX4, .methodLink RX1 32 yX4_init, .fieldLink RX1 35 "TwinRoots$Editor" "node" "LTwinRoots$Page;", .fieldLink RX1 39 "TwinRoots$Editor" "mate" "LTwinRoots$Page;", .fieldLink RX1 42 "TwinRoots$Editor" "above" "LTwinRoots$Page;", .methodLink RX8 57 yX1_init, .instanceMethod yX1_init, .fieldLink RX8 60 "TwinRoots" "editor" "LTwinRoots$Editor;", .classLink RX8 64 RX7, .instantiable RX7 4, .initialized RX7, .code yX7_init cX7_init 1 none, .methodLink RX7 3 objectInit, .instanceMethod yX7_init, .fieldLink RX8 67 "TwinRoots" "rootZero" "LTwinRoots$Told;", .fieldLink RX8 71 "TwinRoots" "rootOne" "LTwinRoots$Told;", .fieldLink RX8 74 "TwinRoots" "working" "LTwinRoots$Told;", .fieldLink RX8 77 "TwinRoots" "down" "Z"] ++ (wsX30 ++ (wsX00 ++ (wsX80 ++ (wsX20 ++ (wsX40 ++ (wsX60 ++ (wsX50 ++ (wsX10 ++ (wsX70 ++ ([])))))))))))
set_option maxRecDepth 20000 in
theorem g_X8_init_X3_init : GoodIn v_X8_init v_X3_init := goodIn_r _ [14, 1, 15, 3, 16, 17, 112, 113] (by decide +kernel) (by decide +kernel)
set_option maxRecDepth 20000 in
theorem g_X8_init_X0_init : GoodIn v_X8_init v_X0_init := goodIn_r _ [23, 1, 24, 3, 25, 26, 27, 28, 29, 30, 114, 115, 116, 117, 118, 119, 120] (by decide +kernel) (by decide +kernel)
set_option maxRecDepth 20000 in
theorem g_X8_init_X2_init : GoodIn v_X8_init v_X2_init := goodIn_r _ [37, 1, 38, 3, 39, 40, 41, 42, 43, 44, 45, 27, 46, 47, 48, 49, 50, 51, 132, 133, 134, 135, 136, 137, 138, 139, 140, 141] (by decide +kernel) (by decide +kernel)
set_option maxRecDepth 20000 in
theorem g_X8_init_X6_init : GoodIn v_X8_init v_X6_init := goodIn_r _ [58, 1, 59, 3, 60, 61, 62, 63, 27, 64, 65, 66, 67, 142, 143, 144, 145, 146, 147, 148, 149, 150, 151, 114, 115, 116, 117, 118, 119, 120] (by decide +kernel) (by decide +kernel)
set_option maxRecDepth 20000 in
theorem g_X8_init_X5_init : GoodIn v_X8_init v_X5_init := goodIn_r _ [74, 1, 75, 3, 76, 77, 27, 78, 41, 42, 43, 44, 45, 46, 47, 79, 49, 80, 152, 153, 154, 155, 156, 157, 158, 159, 138, 139, 140, 141] (by decide +kernel) (by decide +kernel)
set_option maxRecDepth 20000 in
theorem g_X8_init_X1_init : GoodIn v_X8_init v_X1_init := goodIn_r _ [87, 1, 88, 3, 89, 90, 91, 27, 92, 93, 94, 41, 42, 43, 44, 45, 46, 47, 95, 49, 96, 97, 98, 160, 161, 162, 163, 164, 165, 166, 167, 168, 138, 139, 140, 141] (by decide +kernel) (by decide +kernel)
set_option maxRecDepth 20000 in
theorem g_X8_init_X7_init : GoodIn v_X8_init v_X7_init := goodIn_r _ [105, 1, 106, 3] (by decide +kernel) (by decide +kernel)
set_option maxHeartbeats 4000000 in
set_option maxRecDepth 100000 in
/-- TwinRoots(words, blocks): all of a fresh object -/
theorem c_X8_init (l : Launch) (dC : Nat → ClassId) (dI : Nat → Nat → Nat) (sz : Nat) (ax : Nat) (p0 : Int32) (p1 : Int32) : Met l yX8_init v_X8_init ({ frames := 3, cells := 302, slots := 10944, locals := 57 } : Room) (va_Pc [.ref ax, .int p0, .int p1] (fun U => U.heap.size = sz ∧ va_P (dC, dI) vwCl [(ax, .inr (8, [.null, .null, .null, .null, .null, .null, .null, .null, .int 0, .long 0, .int 0]))] U.heap ∧ va_K (dC, dI) vwCl [] U ∧ va_D (fun _ => True) [(ax, .inr (8, [.null, .null, .null, .null, .null, .null, .null, .null, .int 0, .long 0, .int 0]))] ∧ va_AO RX4 U ∧ va_Nw (.methodLinkNest RX8 66 yX7_init "TwinRoots") U)) (va_Qv (fun (u : Nat × Nat × Nat × Nat × Nat × Nat × Nat × Nat × Nat × Nat × Nat × Nat × Nat × Nat × Nat × Nat × Nat × Nat × Nat × Nat × Nat × Nat × Nat × Nat × Nat × Int32 × Int32 × ClassId × ClassId × ClassId × (Nat → Option Nat) × (Nat → Option Nat) × pgG × List Nat × pgS) => match u with | (hd, hf, hs, hp, he, hm, q0, q1, qk, qc, qi, qp, qe, ql, l1, l2, l3, pd, pt, pb, eb, ep, nd, mt, ab, mka, mca, cI, cO, cJ, fp, fd, G, Pg, S) => (pgI G Pg S) ∧ (∀ i, i < (nB p1) → ∃ a, a ∈ Pg ∧ (G a).2.2.2 = 0 ∧ fp i = some a) ∧ (qe ∈ Pg) ∧ ((G qe).2.2.2 = 0) ∧ (∀ i, i < 25 → ∃ a, a ∈ Pg ∧ (G a).2.2.2 = 1 ∧ fd i = some a) ∧ (pb ∈ Pg) ∧ ((G pb).2.2.2 = 1) ∧ (nd ∈ Pg) ∧ ((G nd).2.2.2 = 2) ∧ (mt ∈ Pg) ∧ ((G mt).2.2.2 = 3) ∧ (ab ∈ Pg) ∧ ((G ab).2.2.2 = 4)) (fun (u : Nat × Nat × Nat × Nat × Nat × Nat × Nat × Nat × Nat × Nat × Nat × Nat × Nat × Nat × Nat × Nat × Nat × Nat × Nat × Nat × Nat × Nat × Nat × Nat × Nat × Int32 × Int32 × ClassId × ClassId × ClassId × (Nat → Option Nat) × (Nat → Option Nat) × pgG × List Nat × pgS) (t : State) => match u with | (hd, hf, hs, hp, he, hm, q0, q1, qk, qc, qi, qp, qe, ql, l1, l2, l3, pd, pt, pb, eb, ep, nd, mt, ab, mka, mca, cI, cO, cJ, fp, fd, G, Pg, S) => va_P (dC, dI) vwCl ([(ax, .inr (8, [.ref hd, .ref hf, .ref hs, .ref hp, .ref he, .ref q0, .ref q1, .ref qk, .int 0, .long 0, .int 1])), (hd, .inr (0, [.int (nI (nW p0)), .int (nI (nB p1)), .int 0, .ref qc, .ref qi, .int (-1), .int 0])), MA9 qc cI ((nW p0) * (nB p1)) (fun _ => 0), MA9 qi cI (nW p0) (fun _ => 0), (hm, .inr (3, [.int mka, .int mca])), (hf, .inr (2, [.int 0, .ref qp, .ref qe, .ref ql, .int 0, .int 0])), (qp, .inl (cO, nB p1, .inr (.inr (.inr (.inr fp))))), MA9 ql cI (nB p1) (fun _ => 0), (hs, .inr (6, [.ref hd, .ref hf, .ref hm, .ref l1, .ref l2, .ref l3, .int 0, .long 0, .int 0, .long 0])), MA9 l1 cI (nB p1) (fun _ => 0), (l2, .inl (cJ, nB p1, .inr (.inl (fun _ => 0)))), (l3, .inl (cJ, nB p1, .inr (.inl (fun _ => 0)))), (hp, .inr (5, [.int 0, .long 0, .long 0, .int 0, .ref pd, .ref pt, .ref pb, .long 0])), (pd, .inl (cO, 25, .inr (.inr (.inr (.inr fd))))), MA9 pt cI 25 (fun _ => 0), (he, .inr (1, [.ref hm, .ref hf, .ref hp, .ref eb, .ref ep, .int 0, .ref nd, .ref mt, .ref ab])), MA9 eb cI 12 (fun _ => 0), MA9 ep cI 12 (fun _ => 0), (q0, .inr (7, [.int 0, .int 0, .int 0, .long 0])), (q1, .inr (7, [.int 0, .int 0, .int 0, .long 0])), (qk, .inr (7, [.int 0, .int 0, .int 0, .long 0]))] ++ pool G cI Pg S) t.heap ∧ va_K (dC, dI) vwCl [(cI, .int), (cO, .object RX4), (cJ, .long)] t ∧ va_D (va_A [(ax, .inr (8, [.null, .null, .null, .null, .null, .null, .null, .null, .int 0, .long 0, .int 0]))] sz) ([(ax, .inr (8, [.ref hd, .ref hf, .ref hs, .ref hp, .ref he, .ref q0, .ref q1, .ref qk, .int 0, .long 0, .int 1])), (hd, .inr (0, [.int (nI (nW p0)), .int (nI (nB p1)), .int 0, .ref qc, .ref qi, .int (-1), .int 0])), MA9 qc cI ((nW p0) * (nB p1)) (fun _ => 0), MA9 qi cI (nW p0) (fun _ => 0), (hm, .inr (3, [.int mka, .int mca])), (hf, .inr (2, [.int 0, .ref qp, .ref qe, .ref ql, .int 0, .int 0])), (qp, .inl (cO, nB p1, .inr (.inr (.inr (.inr fp))))), MA9 ql cI (nB p1) (fun _ => 0), (hs, .inr (6, [.ref hd, .ref hf, .ref hm, .ref l1, .ref l2, .ref l3, .int 0, .long 0, .int 0, .long 0])), MA9 l1 cI (nB p1) (fun _ => 0), (l2, .inl (cJ, nB p1, .inr (.inl (fun _ => 0)))), (l3, .inl (cJ, nB p1, .inr (.inl (fun _ => 0)))), (hp, .inr (5, [.int 0, .long 0, .long 0, .int 0, .ref pd, .ref pt, .ref pb, .long 0])), (pd, .inl (cO, 25, .inr (.inr (.inr (.inr fd))))), MA9 pt cI 25 (fun _ => 0), (he, .inr (1, [.ref hm, .ref hf, .ref hp, .ref eb, .ref ep, .int 0, .ref nd, .ref mt, .ref ab])), MA9 eb cI 12 (fun _ => 0), MA9 ep cI 12 (fun _ => 0), (q0, .inr (7, [.int 0, .int 0, .int 0, .long 0])), (q1, .inr (7, [.int 0, .int 0, .int 0, .long 0])), (qk, .inr (7, [.int 0, .int 0, .int 0, .long 0]))] ++ pool G cI Pg S)) (va_A [(ax, .inr (8, [.null, .null, .null, .null, .null, .null, .null, .null, .int 0, .long 0, .int 0]))] sz)) 302 10944 (va_A [(ax, .inr (8, [.null, .null, .null, .null, .null, .null, .null, .null, .int 0, .long 0, .int 0]))] sz) := by
  refine Met.ofW (cc := cX8_init) (maxL := 6) (ret := none) (by decide) rfl ?_
  intro p e s m args below meth c s₁ B hml hv
  obtain ⟨rfl, hsz, hP, hK, hD0, hAO, hNw⟩ := hv
  have hx := B.exec
  have hb := B.bytes
  have hr := B.returns
  have hts := atoms_spec (ws := v_X8_init) B.pre
  have hown : s.vm.findClass RX8 = some m.cls := findClass_of_methodNamed B.named
  have hlocks := B.notSynchronized
  have hin : meth.name = "<init>" := (name_of_methodNamed B.named B.method).1
  subst hsz
  have hD := hD0.self (sz := s.heap.size)
  generalize hAe : va_A [(ax, .inr (8, [.null, .null, .null, .null, .null, .null, .null, .null, .int 0, .long 0, .int 0]))] s.heap.size = A at hD ⊢
  have hA : ∀ q : Nat, s.heap.size ≤ q → A q := fun q h => by rw [← hAe]; exact Or.inr h
  have hS : va_S A s.heap s.heap [] := va_S.rf
  have hP : va_P (dC, dI) vwCl [(ax, .inr (8, [.null, .null, .null, .null, .null, .null, .null, .null, .int 0, .long 0, .int 0]))] s.heap := hP
  have hl := lv_entry ([.ref ax, .int p0, .int p1]) (n := 6) (Nat.le_of_ble_eq_true rfl)
  rw [lg_entry_eq]
  generalize (lg_sl ([.ref ax, .int p0, .int p1]) ++ List.replicate (6 - (lg_sl ([.ref ax, .int p0, .int p1])).length) Slot.unset).toArray = ls at hl ⊢
  have hl : lv_has ls 6 [(0, .ref ax), (1, .int p0), (2, .int p1)] := hl
  have k_1 := hts (.code objectInit ⟨#[0xb1]⟩ 1 none) (List.mem_of_getElem? (i := 1) rfl)
  have k_2 := hts (.methodLink RX8 1 objectInit) (List.mem_of_getElem? (i := 2) rfl)
  have k_3 := hts (.instanceMethod objectInit) (List.mem_of_getElem? (i := 3) rfl)
  have k_4 := hts (.code Lib.Math.min.name Lib.Math.min.code 2 (some .int)) (List.mem_of_getElem? (i := 4) rfl)
  have k_5 := hts (.methodLink RX8 9 Lib.Math.min.name) (List.mem_of_getElem? (i := 5) rfl)
  have k_6 := hts (.static Lib.Math.min.name) (List.mem_of_getElem? (i := 6) rfl)
  have k_7 := hts (.initialized "java/lang/Math") (List.mem_of_getElem? (i := 7) rfl)
  have k_8 := hts (.code Lib.Math.max.name Lib.Math.max.code 2 (some .int)) (List.mem_of_getElem? (i := 8) rfl)
  have k_9 := hts (.methodLink RX8 15 Lib.Math.max.name) (List.mem_of_getElem? (i := 9) rfl)
  have k_10 := hts (.static Lib.Math.max.name) (List.mem_of_getElem? (i := 10) rfl)
  have k_11 := (fun _ h => List.mem_cons_of_mem _ (List.mem_append_right _ (List.mem_append_left _ h)) : ∀ w ∈ wsX30, w ∈ v_X8_init)
  have k_12 := hts (.classLink RX8 18 RX3) (List.mem_of_getElem? (i := 11) rfl)
  have k_13 := hts (.instantiable RX3 2) (List.mem_of_getElem? (i := 12) rfl)
  have k_14 := hts (.initialized RX3) (List.mem_of_getElem? (i := 13) rfl)
  have k_15 := hts (.methodLink RX8 20 yX3_init) (List.mem_of_getElem? (i := 18) rfl)
  have k_16 := hts (.instanceMethod yX3_init) (List.mem_of_getElem? (i := 19) rfl)
  have k_17 := (fun _ h => List.mem_cons_of_mem _ (List.mem_append_right _ (List.mem_append_right _ (List.mem_append_left _ h))) : ∀ w ∈ wsX00, w ∈ v_X8_init)
  have k_18 := hts (.classLink RX8 23 RX0) (List.mem_of_getElem? (i := 20) rfl)
  have k_19 := hts (.instantiable RX0 7) (List.mem_of_getElem? (i := 21) rfl)
  have k_20 := hts (.initialized RX0) (List.mem_of_getElem? (i := 22) rfl)
  have k_21 := hts (.methodLink RX8 25 yX0_init) (List.mem_of_getElem? (i := 31) rfl)
  have k_22 := hts (.instanceMethod yX0_init) (List.mem_of_getElem? (i := 32) rfl)
  have k_23 := (fun _ h => List.mem_cons_of_mem _ (List.mem_append_right _ (List.mem_append_right _ (List.mem_append_right _ (List.mem_append_left _ h)))) : ∀ w ∈ wsX80, w ∈ v_X8_init)
  have k_24 := hts (.fieldLink RX8 28 "TwinRoots" "disk" "LTwinRoots$Disk;") (List.mem_of_getElem? (i := 33) rfl)
  have k_25 := (fun _ h => List.mem_cons_of_mem _ (List.mem_append_right _ (List.mem_append_right _ (List.mem_append_right _ (List.mem_append_right _ (List.mem_append_left _ h))))) : ∀ w ∈ wsX20, w ∈ v_X8_init)
  have k_26 := hts (.classLink RX8 32 RX2) (List.mem_of_getElem? (i := 34) rfl)
  have k_27 := hts (.instantiable RX2 6) (List.mem_of_getElem? (i := 35) rfl)
  have k_28 := hts (.initialized RX2) (List.mem_of_getElem? (i := 36) rfl)
  have k_29 := hts (.methodLink RX8 34 yX2_init) (List.mem_of_getElem? (i := 52) rfl)
  have k_30 := hts (.instanceMethod yX2_init) (List.mem_of_getElem? (i := 53) rfl)
  have k_31 := hts (.fieldLink RX8 35 "TwinRoots" "forest" "LTwinRoots$Forest;") (List.mem_of_getElem? (i := 54) rfl)
  have k_32 := (fun _ h => List.mem_cons_of_mem _ (List.mem_append_right _ (List.mem_append_right _ (List.mem_append_right _ (List.mem_append_right _ (List.mem_append_right _ (List.mem_append_right _ (List.mem_append_left _ h))))))) : ∀ w ∈ wsX60, w ∈ v_X8_init)
  have k_33 := hts (.classLink RX8 39 RX6) (List.mem_of_getElem? (i := 55) rfl)
  have k_34 := hts (.instantiable RX6 10) (List.mem_of_getElem? (i := 56) rfl)
  have k_35 := hts (.initialized RX6) (List.mem_of_getElem? (i := 57) rfl)
  have k_36 := hts (.methodLink RX8 41 yX6_init) (List.mem_of_getElem? (i := 68) rfl)
  have k_37 := hts (.instanceMethod yX6_init) (List.mem_of_getElem? (i := 69) rfl)
  have k_38 := hts (.fieldLink RX8 44 "TwinRoots" "survey" "LTwinRoots$Survey;") (List.mem_of_getElem? (i := 70) rfl)
  have k_39 := (fun _ h => List.mem_cons_of_mem _ (List.mem_append_right _ (List.mem_append_right _ (List.mem_append_right _ (List.mem_append_right _ (List.mem_append_right _ (List.mem_append_right _ (List.mem_append_right _ (List.mem_append_left _ h)))))))) : ∀ w ∈ wsX50, w ∈ v_X8_init)
  have k_40 := hts (.classLink RX8 48 RX5) (List.mem_of_getElem? (i := 71) rfl)
  have k_41 := hts (.instantiable RX5 8) (List.mem_of_getElem? (i := 72) rfl)
  have k_42 := hts (.initialized RX5) (List.mem_of_getElem? (i := 73) rfl)
  have k_43 := hts (.methodLink RX8 50 yX5_init) (List.mem_of_getElem? (i := 81) rfl)
  have k_44 := hts (.instanceMethod yX5_init) (List.mem_of_getElem? (i := 82) rfl)
  have k_45 := hts (.fieldLink RX8 51 "TwinRoots" "plan" "LTwinRoots$Plan;") (List.mem_of_getElem? (i := 83) rfl)
  have k_46 := (fun _ h => List.mem_cons_of_mem _ (List.mem_append_right _ (List.mem_append_right _ (List.mem_append_right _ (List.mem_append_right _ (List.mem_append_right _ (List.mem_append_right _ (List.mem_append_right _ (List.mem_append_right _ (List.mem_append_left _ h))))))))) : ∀ w ∈ wsX10, w ∈ v_X8_init)
  have k_47 := hts (.classLink RX8 55 RX1) (List.mem_of_getElem? (i := 84) rfl)
  have k_48 := hts (.instantiable RX1 9) (List.mem_of_getElem? (i := 85) rfl)
  have k_49 := hts (.initialized RX1) (List.mem_of_getElem? (i := 86) rfl)
  have k_50 := hts (.methodLink RX8 57 yX1_init) (List.mem_of_getElem? (i := 99) rfl)
  have k_51 := hts (.instanceMethod yX1_init) (List.mem_of_getElem? (i := 100) rfl)
  have k_52 := hts (.fieldLink RX8 60 "TwinRoots" "editor" "LTwinRoots$Editor;") (List.mem_of_getElem? (i := 101) rfl)
  have k_53 := (fun _ h => List.mem_cons_of_mem _ (List.mem_append_right _ (List.mem_append_right _ (List.mem_append_right _ (List.mem_append_right _ (List.mem_append_right _ (List.mem_append_right _ (List.mem_append_right _ (List.mem_append_right _ (List.mem_append_right _ (List.mem_append_left _ h)))))))))) : ∀ w ∈ wsX70, w ∈ v_X8_init)
  have k_54 := hts (.classLink RX8 64 RX7) (List.mem_of_getElem? (i := 102) rfl)
  have k_55 := hts (.instantiable RX7 4) (List.mem_of_getElem? (i := 103) rfl)
  have k_56 := hts (.initialized RX7) (List.mem_of_getElem? (i := 104) rfl)
  have k_57 := hts (.instanceMethod yX7_init) (List.mem_of_getElem? (i := 107) rfl)
  have k_58 := hts (.fieldLink RX8 67 "TwinRoots" "rootZero" "LTwinRoots$Told;") (List.mem_of_getElem? (i := 108) rfl)
  have k_59 := hts (.fieldLink RX8 71 "TwinRoots" "rootOne" "LTwinRoots$Told;") (List.mem_of_getElem? (i := 109) rfl)
  have k_60 := hts (.fieldLink RX8 74 "TwinRoots" "working" "LTwinRoots$Told;") (List.mem_of_getElem? (i := 110) rfl)
  have k_61 := hts (.fieldLink RX8 77 "TwinRoots" "down" "Z") (List.mem_of_getElem? (i := 111) rfl)
  have zw0 := (clW_nI p0).2.1
  have zw := (clW_nI p0).2.2
  have zb0 := (clB_nI p1).2.1
  have zb := (clB_nI p1).2.2
  have zwb := nWB p0 p1
  refine lv_aload_n hx hb dX8_init_0 rfl (lv_at hl 0 rfl) ?_
  refine W.objInit hx hb hown k_2 k_3 k_1 rfl (by rw [hml]; exact hl.1) rfl dX8_init_1 (Nat.le_of_ble_eq_true rfl) (Nat.le_of_ble_eq_true rfl) ?_
  refine W.eq (g2 := F0 m 4 ls []) rfl ?_
  refine lv_bipush (v := 12) hx hb dX8_init_4 (by decide) ?_
  refine lv_bipush (v := 40) hx hb dX8_init_6 (by decide) ?_
  refine lv_iload_n hx hb dX8_init_8 rfl (lv_at hl 1 rfl) ?_
  refine va_mmin hx hb (by rw [hml]; exact hl.1.symm) hown k_5 k_6 k_7 k_4 (Nat.le_of_ble_eq_true rfl) (Nat.le_of_ble_eq_true rfl) (show 0 ≤ 302 by omega) (show 0 ≤ 10944 by omega) dX8_init_9 ?_
  refine va_mmax hx hb (by rw [hml]; exact hl.1.symm) hown k_9 k_10 k_7 k_8 (Nat.le_of_ble_eq_true rfl) (Nat.le_of_ble_eq_true rfl) (show 0 ≤ 302 by omega) (show 0 ≤ 10944 by omega) dX8_init_12 ?_
  refine lv_topi (fun z_1 ez_1 => ?_)
  obtain rfl : z_1 = nI (nW p0) := ez_1.trans ((clW_nI p0).1)
  refine lv_istore_n (lv' := [(3, .int (nI (nW p0))), (0, .ref ax), (1, .int p0), (2, .int p1)]) hx hb dX8_init_15 rfl hl (by decide) rfl (fun ls hl9 => ?_)
  replace hl := hl9
  clear hl9
  refine lv_iconst (v := 4) hx hb dX8_init_16 (by decide) ?_
  refine lv_bipush (v := 64) hx hb dX8_init_17 (by decide) ?_
  refine lv_iload_n hx hb dX8_init_19 rfl (lv_at hl 3 rfl) ?_
  refine va_mmin hx hb (by rw [hml]; exact hl.1.symm) hown k_5 k_6 k_7 k_4 (Nat.le_of_ble_eq_true rfl) (Nat.le_of_ble_eq_true rfl) (show 0 ≤ 302 by omega) (show 0 ≤ 10944 by omega) dX8_init_20 ?_
  refine va_mmax hx hb (by rw [hml]; exact hl.1.symm) hown k_9 k_10 k_7 k_8 (Nat.le_of_ble_eq_true rfl) (Nat.le_of_ble_eq_true rfl) (show 0 ≤ 302 by omega) (show 0 ≤ 10944 by omega) dX8_init_23 ?_
  refine lv_topi (fun z_2 ez_2 => ?_)
  obtain rfl : z_2 = nI (nB p1) := ez_2.trans ((clB_nI p1).1)
  refine lv_istore (lv' := [(4, .int (nI (nB p1))), (3, .int (nI (nW p0))), (0, .ref ax), (1, .int p0), (2, .int p1)]) hx hb dX8_init_26 hl (by decide) rfl (fun ls hl9 => ?_)
  replace hl := hl9
  clear hl9
  refine va_new (ci := 3) (fs := [.int 0, .int 0]) (C := RX3) (T := TX3) (N := 2) hx hb hts k_11 tyX3 tyX3_ok hown k_12 k_13 k_14 hK hP hD hS hA rfl (fun j hj => by rcases (show j = 0 ∨ j = 1 by omega) with rfl | rfl <;> rfl) (show 0 + 1 ≤ 302 by omega) (show 0 + 2 ≤ 10944 by omega) dX8_init_28 (fun hm H hP hD hS => ?_)
  replace hP : va_P (dC, dI) vwCl [(ax, .inr (8, [.null, .null, .null, .null, .null, .null, .null, .null, .int 0, .long 0, .int 0])), (hm, .inr (3, [.int 0, .int 0]))] H := hP
  replace hD : va_D A [(ax, .inr (8, [.null, .null, .null, .null, .null, .null, .null, .null, .int 0, .long 0, .int 0])), (hm, .inr (3, [.int 0, .int 0]))] := hD
  refine W.widen (k := 1) (n := 2) (by omega) (by omega) ?_
  refine lv_dup hx hb dX8_init_31 rfl ?_
  refine lv_iload_n hx hb dX8_init_32 rfl (lv_at hl 1 rfl) ?_
  have hPc := hP.sub (ws' := [(hm, .inr (3, [.int 0, .int 0]))]) [1] rfl
  have hDc := hD.sub (ws' := [(hm, .inr (3, [.int 0, .int 0]))]) [1] (by decide) rfl
  have hKc := hK.sub (tys' := []) [] rfl
  have hFc := va_free (wc := [(hm, .inr (3, [.int 0, .int 0]))]) hD hS hA [1] rfl
  refine va_callv (va_runI (As := [.int (nI (nW p0))]) (rest := [.ref hm]) ⟨hx, hb, hml, hown, hts⟩ (c_X3_init l dC dI H.size hm (nI (nW p0))) (cwI 1 hts g_X8_init_X3_init rfl rfl rfl k_14 k_15 k_16 rfl (by decide +kernel) ⟨Nat.le_of_ble_eq_true rfl, Nat.le_of_ble_eq_true rfl⟩) ⟨fun a U g mk q => by obtain ⟨q0, q1, qP, qK, qD⟩ := q; exact ⟨q0, q1, qP, va_K.moved (u := U) (U := U.calling g mk a) (Vm.Alike.refl U.vm) qK, qD⟩, fun U hU hW => ⟨rfl, by rw [hU], by rw [hU]; exact hPc, va_K.moved hW.alike hKc, hDc.weaken (fun _ _ _ _ => trivial)⟩⟩ rfl rfl hl.1 rfl (lv_room (Nat.le_of_ble_eq_true rfl)) dX8_init_33 ⟨(show 1 + 0 ≤ 302 by omega), (show 2 + 0 ≤ 10944 by omega)⟩) hS (fun q _ h => hFc q h) hFc (fun u t H1 locs ht hvm hw hB hz1 hk1 hS9 => ?_)
  replace hS := hS9
  clear hS9
  obtain ⟨mka, mca⟩ := u
  obtain ⟨hP1, hK1, hD1⟩ := hB
  rw [ht] at hP1
  replace hK1 := va_K.moved hvm.symm hK1
  try dsimp only at hw
  obtain ⟨hP9, hD9⟩ := va_join (wr := [(ax, .inr (8, [.null, .null, .null, .null, .null, .null, .null, .null, .int 0, .long 0, .int 0]))]) (w1 := [(hm, .inr (3, [.int mka, .int mca]))]) hP hD [1] [0] rfl rfl (by decide) (by decide) hk1 hFc hP1 hD1
  replace hP := hP9
  replace hD := hD9
  clear hP9 hD9
  replace hK := (hK.sub (tys' := []) [] rfl).app hK1
  clear hP1 hD1 hK1 hPc hDc hKc hFc hk1 hz1 hvm ht
  generalize H1 = H at hP hS ⊢
  replace hP : va_P (dC, dI) vwCl [(ax, .inr (8, [.null, .null, .null, .null, .null, .null, .null, .null, .int 0, .long 0, .int 0])), (hm, .inr (3, [.int mka, .int mca]))] H := hP
  replace hD : va_D A [(ax, .inr (8, [.null, .null, .null, .null, .null, .null, .null, .null, .int 0, .long 0, .int 0])), (hm, .inr (3, [.int mka, .int mca]))] := hD
  replace hK : va_K (dC, dI) vwCl [] s := hK
  refine lv_astore (lv' := [(5, .ref hm), (4, .int (nI (nB p1))), (3, .int (nI (nW p0))), (0, .ref ax), (1, .int p0), (2, .int p1)]) hx hb dX8_init_36 hl (by decide) rfl (fun ls hl9 => ?_)
  replace hl := hl9
  clear hl9
  refine lv_aload_n hx hb dX8_init_38 rfl (lv_at hl 3 rfl) ?_
  refine va_new (ci := 0) (fs := [.int 0, .int 0, .int 0, .null, .null, .int 0, .int 0]) (C := RX0) (T := TX0) (N := 7) hx hb hts k_17 tyX0 tyX0_ok hown k_18 k_19 k_20 hK hP hD hS hA rfl (fun j hj => by rcases (show j = 0 ∨ j = 1 ∨ j = 2 ∨ j = 3 ∨ j = 4 ∨ j = 5 ∨ j = 6 by omega) with rfl | rfl | rfl | rfl | rfl | rfl | rfl <;> rfl) (show 1 + 1 ≤ 302 by omega) (show 2 + 7 ≤ 10944 by omega) dX8_init_39 (fun hd H hP hD hS => ?_)
  replace hP : va_P (dC, dI) vwCl [(ax, .inr (8, [.null, .null, .null, .null, .null, .null, .null, .null, .int 0, .long 0, .int 0])), (hm, .inr (3, [.int mka, .int mca])), (hd, .inr (0, [.int 0, .int 0, .int 0, .null, .null, .int 0, .int 0]))] H := hP
  replace hD : va_D A [(ax, .inr (8, [.null, .null, .null, .null, .null, .null, .null, .null, .int 0, .long 0, .int 0])), (hm, .inr (3, [.int mka, .int mca])), (hd, .inr (0, [.int 0, .int 0, .int 0, .null, .null, .int 0, .int 0]))] := hD
  refine W.widen (k := 2) (n := 9) (by omega) (by omega) ?_
  refine lv_dup hx hb dX8_init_42 rfl ?_
  refine lv_iload_n hx hb dX8_init_43 rfl (lv_at hl 2 rfl) ?_
  refine lv_iload hx hb dX8_init_44 (lv_at hl 1 rfl) ?_
  have hPc := hP.sub (ws' := [(hd, .inr (0, [.int 0, .int 0, .int 0, .null, .null, .int 0, .int 0]))]) [2] rfl
  have hDc := hD.sub (ws' := [(hd, .inr (0, [.int 0, .int 0, .int 0, .null, .null, .int 0, .int 0]))]) [2] (by decide) rfl
  have hKc := hK.sub (tys' := []) [] rfl
  have hFc := va_free (wc := [(hd, .inr (0, [.int 0, .int 0, .int 0, .null, .null, .int 0, .int 0]))]) hD hS hA [2] rfl
  refine va_callv (va_runI (As := [.int (nI (nW p0)), .int (nI (nB p1))]) (rest := [.ref hd, .ref ax]) ⟨hx, hb, hml, hown, hts⟩ (c_X0_init l dC dI H.size hd (nW p0) (nB p1) (by first | assumption | omega | decide) (by first | assumption | omega | decide) (by first | assumption | omega | decide) (by first | assumption | omega | decide) (by first | assumption | omega | decide)) (cwI 2 hts g_X8_init_X0_init rfl rfl rfl k_20 k_21 k_22 rfl (by decide +kernel) ⟨Nat.le_of_ble_eq_true rfl, Nat.le_of_ble_eq_true rfl⟩) ⟨fun a U g mk q => by obtain ⟨q0, q1, qP, qK, qD⟩ := q; exact ⟨q0, q1, qP, va_K.moved (u := U) (U := U.calling g mk a) (Vm.Alike.refl U.vm) qK, qD⟩, fun U hU hW => ⟨rfl, by rw [hU], by rw [hU]; exact hPc, va_K.moved hW.alike hKc, hDc.weaken (fun _ _ _ _ => trivial)⟩⟩ rfl rfl hl.1 rfl (lv_room (Nat.le_of_ble_eq_true rfl)) dX8_init_46 ⟨(show 2 + 2 ≤ 302 by omega), (show 9 + 2600 ≤ 10944 by omega)⟩) hS (fun q _ h => hFc q h) hFc (fun u t H1 locs ht hvm hw hB hz1 hk1 hS9 => ?_)
  replace hS := hS9
  clear hS9
  obtain ⟨qc, qi, cI, cI9⟩ := u
  obtain ⟨hP1, hK1, hD1⟩ := hB
  rw [ht] at hP1
  replace hK1 := va_K.moved hvm.symm hK1
  try dsimp only at hw
  obtain ⟨hP9, hD9⟩ := va_join (wr := [(ax, .inr (8, [.null, .null, .null, .null, .null, .null, .null, .null, .int 0, .long 0, .int 0])), (hm, .inr (3, [.int mka, .int mca]))]) (w1 := [(hd, .inr (0, [.int (nI (nW p0)), .int (nI (nB p1)), .int 0, .ref qc, .ref qi, .int (-1), .int 0])), MA9 qc cI ((nW p0) * (nB p1)) (fun _ => 0), MA9 qi cI9 (nW p0) (fun _ => 0)]) hP hD [2] [0, 1] rfl rfl (by decide) (by decide) hk1 hFc hP1 hD1
  replace hP := hP9
  replace hD := hD9
  clear hP9 hD9
  replace hK := (hK.sub (tys' := []) [] rfl).app hK1
  clear hP1 hD1 hK1 hPc hDc hKc hFc hk1 hz1 hvm ht
  generalize H1 = H at hP hS ⊢
  replace hP : va_P (dC, dI) vwCl [(ax, .inr (8, [.null, .null, .null, .null, .null, .null, .null, .null, .int 0, .long 0, .int 0])), (hm, .inr (3, [.int mka, .int mca])), (hd, .inr (0, [.int (nI (nW p0)), .int (nI (nB p1)), .int 0, .ref qc, .ref qi, .int (-1), .int 0])), MA9 qc cI ((nW p0) * (nB p1)) (fun _ => 0), MA9 qi cI9 (nW p0) (fun _ => 0)] H := hP
  replace hD : va_D A [(ax, .inr (8, [.null, .null, .null, .null, .null, .null, .null, .null, .int 0, .long 0, .int 0])), (hm, .inr (3, [.int mka, .int mca])), (hd, .inr (0, [.int (nI (nW p0)), .int (nI (nB p1)), .int 0, .ref qc, .ref qi, .int (-1), .int 0])), MA9 qc cI ((nW p0) * (nB p1)) (fun _ => 0), MA9 qi cI9 (nW p0) (fun _ => 0)] := hD
  replace hK : va_K (dC, dI) vwCl [(cI, .int), (cI9, .int)] s := hK
  have e9 : cI = cI9 := cA_int hK (i := 0) (j := 1) rfl rfl
  subst e9
  replace hK : va_K (dC, dI) vwCl [(cI, .int)] s := hK.sub [0] rfl
  refine W.widen (k := 4) (n := 2609) (by omega) (by omega) ?_
  refine va_putF (D := (dC, dI)) (ci := 8) (v := .ref hd) (ty := (.object "TwinRoots$Disk")) (C := RX8) (T := TX8) (N := 11) hx hb hts k_23 tyX8 tyX8_ok nmX8 hown hK hP hD hS 0 rfl rfl 0 (by decide) k_24 (fun _ h9 => h9) rfl hin rfl (by decide +kernel) rfl rfl (Nat.le_of_ble_eq_true rfl) dX8_init_49 (fun H locs hP9 hD9 hS9 => ?_)
  replace hP := hP9
  replace hD := hD9
  replace hS := hS9
  clear hP9 hD9 hS9
  replace hP : va_P (dC, dI) vwCl [(ax, .inr (8, [.ref hd, .null, .null, .null, .null, .null, .null, .null, .int 0, .long 0, .int 0])), (hm, .inr (3, [.int mka, .int mca])), (hd, .inr (0, [.int (nI (nW p0)), .int (nI (nB p1)), .int 0, .ref qc, .ref qi, .int (-1), .int 0])), MA9 qc cI ((nW p0) * (nB p1)) (fun _ => 0), MA9 qi cI (nW p0) (fun _ => 0)] H := hP
  replace hD : va_D A [(ax, .inr (8, [.ref hd, .null, .null, .null, .null, .null, .null, .null, .int 0, .long 0, .int 0])), (hm, .inr (3, [.int mka, .int mca])), (hd, .inr (0, [.int (nI (nW p0)), .int (nI (nB p1)), .int 0, .ref qc, .ref qi, .int (-1), .int 0])), MA9 qc cI ((nW p0) * (nB p1)) (fun _ => 0), MA9 qi cI (nW p0) (fun _ => 0)] := hD
  refine lv_aload_n hx hb dX8_init_52 rfl (lv_at hl 3 rfl) ?_
  obtain ⟨G0, S0, -⟩ : ∃ (_ : pgG) (_ : pgS), True := ⟨fun _ => (0, 0, 0, 0), fun _ => (0, 0, fun _ => 0, fun _ => 0), trivial⟩
  have hI : pgI G0 [] S0 := fun a h => absurd h List.not_mem_nil
  replace hP : va_P (dC, dI) vwCl ([(ax, .inr (8, [.ref hd, .null, .null, .null, .null, .null, .null, .null, .int 0, .long 0, .int 0])), (hm, .inr (3, [.int mka, .int mca])), (hd, .inr (0, [.int (nI (nW p0)), .int (nI (nB p1)), .int 0, .ref qc, .ref qi, .int (-1), .int 0])), MA9 qc cI ((nW p0) * (nB p1)) (fun _ => 0), MA9 qi cI (nW p0) (fun _ => 0)] ++ pool G0 cI ([]) S0) H := hP
  replace hD : va_D A ([(ax, .inr (8, [.ref hd, .null, .null, .null, .null, .null, .null, .null, .int 0, .long 0, .int 0])), (hm, .inr (3, [.int mka, .int mca])), (hd, .inr (0, [.int (nI (nW p0)), .int (nI (nB p1)), .int 0, .ref qc, .ref qi, .int (-1), .int 0])), MA9 qc cI ((nW p0) * (nB p1)) (fun _ => 0), MA9 qi cI (nW p0) (fun _ => 0)] ++ pool G0 cI ([]) S0) := hD
  refine va_new (ci := 2) (fs := [.int 0, .null, .null, .null, .int 0, .int 0]) (C := RX2) (T := TX2) (N := 6) hx hb hts k_25 tyX2 tyX2_ok hown k_26 k_27 k_28 hK hP hD hS hA rfl (fun j hj => by rcases (show j = 0 ∨ j = 1 ∨ j = 2 ∨ j = 3 ∨ j = 4 ∨ j = 5 by omega) with rfl | rfl | rfl | rfl | rfl | rfl <;> rfl) (show 4 + 1 ≤ 302 by omega) (show 2609 + 6 ≤ 10944 by omega) dX8_init_53 (fun hf H hP hD hS => ?_)
  replace hP := hP.swap
  replace hD := hD.swap
  replace hP : va_P (dC, dI) vwCl ([(ax, .inr (8, [.ref hd, .null, .null, .null, .null, .null, .null, .null, .int 0, .long 0, .int 0])), (hm, .inr (3, [.int mka, .int mca])), (hd, .inr (0, [.int (nI (nW p0)), .int (nI (nB p1)), .int 0, .ref qc, .ref qi, .int (-1), .int 0])), MA9 qc cI ((nW p0) * (nB p1)) (fun _ => 0), MA9 qi cI (nW p0) (fun _ => 0), (hf, .inr (2, [.int 0, .null, .null, .null, .int 0, .int 0]))] ++ pool G0 cI ([]) S0) H := hP
  replace hD : va_D A ([(ax, .inr (8, [.ref hd, .null, .null, .null, .null, .null, .null, .null, .int 0, .long 0, .int 0])), (hm, .inr (3, [.int mka, .int mca])), (hd, .inr (0, [.int (nI (nW p0)), .int (nI (nB p1)), .int 0, .ref qc, .ref qi, .int (-1), .int 0])), MA9 qc cI ((nW p0) * (nB p1)) (fun _ => 0), MA9 qi cI (nW p0) (fun _ => 0), (hf, .inr (2, [.int 0, .null, .null, .null, .int 0, .int 0]))] ++ pool G0 cI ([]) S0) := hD
  refine W.widen (k := 5) (n := 2615) (by omega) (by omega) ?_
  refine lv_dup hx hb dX8_init_56 rfl ?_
  refine lv_iload_n hx hb dX8_init_57 rfl (lv_at hl 2 rfl) ?_
  refine lv_iload hx hb dX8_init_58 (lv_at hl 1 rfl) ?_
  have hPc := hP.part (cx := [(hf, .inr (2, [.int 0, .null, .null, .null, .int 0, .int 0]))]) [5] rfl
  have hDc := hD.part (cx := [(hf, .inr (2, [.int 0, .null, .null, .null, .int 0, .int 0]))]) [5] (by decide) rfl
  have hFc := va_freeP (cx := [(hf, .inr (2, [.int 0, .null, .null, .null, .int 0, .int 0]))]) hD hS hA [5] rfl
  have hKc := hK.sub (tys' := [(cI, .int)]) [0] rfl
  refine va_callv (va_runI (As := [.int (nI (nW p0)), .int (nI (nB p1))]) (rest := [.ref hf, .ref ax]) ⟨hx, hb, hml, hown, hts⟩ (c_X2_init l dC dI H.size hf (nW p0) (nB p1) G0 ([]) cI S0 (by first | assumption | omega | decide) (by first | assumption | omega | decide) (by first | assumption | omega | decide) (by first | assumption | omega | decide) (by first | assumption | omega | decide) (by first | assumption | omega | decide)) (cwI 2 hts g_X8_init_X2_init rfl rfl rfl k_28 k_29 k_30 rfl (by decide +kernel) ⟨Nat.le_of_ble_eq_true rfl, Nat.le_of_ble_eq_true rfl⟩) ⟨fun a U g mk q => by obtain ⟨q0, q1, qP, qK, qD, qX0⟩ := q; exact ⟨q0, q1, qP, va_K.moved (u := U) (U := U.calling g mk a) (Vm.Alike.refl U.vm) qK, qD, va_AO.moved (u := U) (U := U.calling g mk a) (Vm.Alike.refl U.vm) qX0⟩, fun U hU hW => ⟨rfl, by rw [hU], by rw [hU]; exact hPc, va_K.moved hW.alike hKc, hDc.weaken (fun _ _ _ _ => trivial), va_AO.moved hW.alike hAO⟩⟩ rfl rfl hl.1 rfl (lv_room (Nat.le_of_ble_eq_true rfl)) dX8_init_60 ⟨(show 5 + 197 ≤ 302 by omega), (show 2615 + 5588 ≤ 10944 by omega)⟩) hS (fun q _ h => hFc q h) hFc (fun u t H1 locs ht hvm hw hB hz1 hk1 hS9 => ?_)
  replace hS := hS9
  clear hS9
  obtain ⟨qp, qe, ql, cO, fp, G1, P1, S1⟩ := u
  obtain ⟨hP1, hK1, hD1⟩ := hB
  rw [ht] at hP1
  replace hK1 := va_K.moved hvm.symm hK1
  try dsimp only at hw
  obtain ⟨hP9, hD9⟩ := va_joinP (wr := [(ax, .inr (8, [.ref hd, .null, .null, .null, .null, .null, .null, .null, .int 0, .long 0, .int 0])), (hm, .inr (3, [.int mka, .int mca])), (hd, .inr (0, [.int (nI (nW p0)), .int (nI (nB p1)), .int 0, .ref qc, .ref qi, .int (-1), .int 0])), MA9 qc cI ((nW p0) * (nB p1)) (fun _ => 0), MA9 qi cI (nW p0) (fun _ => 0)]) (rx := [(hf, .inr (2, [.int 0, .ref qp, .ref qe, .ref ql, .int 0, .int 0])), (qp, .inl (cO, nB p1, .inr (.inr (.inr (.inr fp))))), MA9 ql cI (nB p1) (fun _ => 0)]) (pl1 := pool G1 cI P1 S1) hP hD [5] [0, 1, 2, 3, 4] rfl rfl (by decide) (by decide) hk1 hFc hP1 hD1
  replace hP := hP9
  replace hD := hD9
  clear hP9 hD9
  replace hK := (hK.sub (tys' := [(cI, .int)]) [0] rfl).app hK1
  clear hP1 hD1 hK1 hPc hDc hKc hFc hk1 hz1 hvm ht
  generalize H1 = H at hP hS ⊢
  replace hP : va_P (dC, dI) vwCl ([(ax, .inr (8, [.ref hd, .null, .null, .null, .null, .null, .null, .null, .int 0, .long 0, .int 0])), (hm, .inr (3, [.int mka, .int mca])), (hd, .inr (0, [.int (nI (nW p0)), .int (nI (nB p1)), .int 0, .ref qc, .ref qi, .int (-1), .int 0])), MA9 qc cI ((nW p0) * (nB p1)) (fun _ => 0), MA9 qi cI (nW p0) (fun _ => 0), (hf, .inr (2, [.int 0, .ref qp, .ref qe, .ref ql, .int 0, .int 0])), (qp, .inl (cO, nB p1, .inr (.inr (.inr (.inr fp))))), MA9 ql cI (nB p1) (fun _ => 0)] ++ pool G1 cI P1 S1) H := hP
  replace hD : va_D A ([(ax, .inr (8, [.ref hd, .null, .null, .null, .null, .null, .null, .null, .int 0, .long 0, .int 0])), (hm, .inr (3, [.int mka, .int mca])), (hd, .inr (0, [.int (nI (nW p0)), .int (nI (nB p1)), .int 0, .ref qc, .ref qi, .int (-1), .int 0])), MA9 qc cI ((nW p0) * (nB p1)) (fun _ => 0), MA9 qi cI (nW p0) (fun _ => 0), (hf, .inr (2, [.int 0, .ref qp, .ref qe, .ref ql, .int 0, .int 0])), (qp, .inl (cO, nB p1, .inr (.inr (.inr (.inr fp))))), MA9 ql cI (nB p1) (fun _ => 0)] ++ pool G1 cI P1 S1) := hD
  replace hK : va_K (dC, dI) vwCl [(cI, .int), (cI, .int), (cO, .object RX4)] s := hK
  replace hK : va_K (dC, dI) vwCl [(cI, .int), (cO, .object RX4)] s := hK.sub [0, 2] rfl
  have hI := hw.1
  refine W.widen (k := 202) (n := 8203) (by omega) (by omega) ?_
  have hw_r_5 := hw
  obtain ⟨-, -, hpg, hm_qe, ht_qe⟩ := hw
  refine va_putF (D := (dC, dI)) (ci := 8) (v := .ref hf) (ty := (.object "TwinRoots$Forest")) (C := RX8) (T := TX8) (N := 11) hx hb hts k_23 tyX8 tyX8_ok nmX8 hown hK hP hD hS 0 rfl rfl 1 (by decide) k_31 (fun _ h9 => h9) rfl hin rfl (by decide +kernel) rfl rfl (Nat.le_of_ble_eq_true rfl) dX8_init_63 (fun H locs hP9 hD9 hS9 => ?_)
  replace hP := hP9
  replace hD := hD9
  replace hS := hS9
  clear hP9 hD9 hS9
  replace hP : va_P (dC, dI) vwCl ([(ax, .inr (8, [.ref hd, .ref hf, .null, .null, .null, .null, .null, .null, .int 0, .long 0, .int 0])), (hm, .inr (3, [.int mka, .int mca])), (hd, .inr (0, [.int (nI (nW p0)), .int (nI (nB p1)), .int 0, .ref qc, .ref qi, .int (-1), .int 0])), MA9 qc cI ((nW p0) * (nB p1)) (fun _ => 0), MA9 qi cI (nW p0) (fun _ => 0), (hf, .inr (2, [.int 0, .ref qp, .ref qe, .ref ql, .int 0, .int 0])), (qp, .inl (cO, nB p1, .inr (.inr (.inr (.inr fp))))), MA9 ql cI (nB p1) (fun _ => 0)] ++ pool G1 cI P1 S1) H := hP
  replace hD : va_D A ([(ax, .inr (8, [.ref hd, .ref hf, .null, .null, .null, .null, .null, .null, .int 0, .long 0, .int 0])), (hm, .inr (3, [.int mka, .int mca])), (hd, .inr (0, [.int (nI (nW p0)), .int (nI (nB p1)), .int 0, .ref qc, .ref qi, .int (-1), .int 0])), MA9 qc cI ((nW p0) * (nB p1)) (fun _ => 0), MA9 qi cI (nW p0) (fun _ => 0), (hf, .inr (2, [.int 0, .ref qp, .ref qe, .ref ql, .int 0, .int 0])), (qp, .inl (cO, nB p1, .inr (.inr (.inr (.inr fp))))), MA9 ql cI (nB p1) (fun _ => 0)] ++ pool G1 cI P1 S1) := hD
  refine lv_aload_n hx hb dX8_init_66 rfl (lv_at hl 3 rfl) ?_
  refine va_new (ci := 6) (fs := [.null, .null, .null, .null, .null, .null, .int 0, .long 0, .int 0, .long 0]) (C := RX6) (T := TX6) (N := 10) hx hb hts k_32 tyX6 tyX6_ok hown k_33 k_34 k_35 hK hP hD hS hA rfl (fun j hj => by rcases (show j = 0 ∨ j = 1 ∨ j = 2 ∨ j = 3 ∨ j = 4 ∨ j = 5 ∨ j = 6 ∨ j = 7 ∨ j = 8 ∨ j = 9 by omega) with rfl | rfl | rfl | rfl | rfl | rfl | rfl | rfl | rfl | rfl <;> rfl) (show 202 + 1 ≤ 302 by omega) (show 8203 + 10 ≤ 10944 by omega) dX8_init_67 (fun hs H hP hD hS => ?_)
  replace hP := hP.swap
  replace hD := hD.swap
  replace hP : va_P (dC, dI) vwCl ([(ax, .inr (8, [.ref hd, .ref hf, .null, .null, .null, .null, .null, .null, .int 0, .long 0, .int 0])), (hm, .inr (3, [.int mka, .int mca])), (hd, .inr (0, [.int (nI (nW p0)), .int (nI (nB p1)), .int 0, .ref qc, .ref qi, .int (-1), .int 0])), MA9 qc cI ((nW p0) * (nB p1)) (fun _ => 0), MA9 qi cI (nW p0) (fun _ => 0), (hf, .inr (2, [.int 0, .ref qp, .ref qe, .ref ql, .int 0, .int 0])), (qp, .inl (cO, nB p1, .inr (.inr (.inr (.inr fp))))), MA9 ql cI (nB p1) (fun _ => 0), (hs, .inr (6, [.null, .null, .null, .null, .null, .null, .int 0, .long 0, .int 0, .long 0]))] ++ pool G1 cI P1 S1) H := hP
  replace hD : va_D A ([(ax, .inr (8, [.ref hd, .ref hf, .null, .null, .null, .null, .null, .null, .int 0, .long 0, .int 0])), (hm, .inr (3, [.int mka, .int mca])), (hd, .inr (0, [.int (nI (nW p0)), .int (nI (nB p1)), .int 0, .ref qc, .ref qi, .int (-1), .int 0])), MA9 qc cI ((nW p0) * (nB p1)) (fun _ => 0), MA9 qi cI (nW p0) (fun _ => 0), (hf, .inr (2, [.int 0, .ref qp, .ref qe, .ref ql, .int 0, .int 0])), (qp, .inl (cO, nB p1, .inr (.inr (.inr (.inr fp))))), MA9 ql cI (nB p1) (fun _ => 0), (hs, .inr (6, [.null, .null, .null, .null, .null, .null, .int 0, .long 0, .int 0, .long 0]))] ++ pool G1 cI P1 S1) := hD
  refine W.widen (k := 203) (n := 8213) (by omega) (by omega) ?_
  refine lv_dup hx hb dX8_init_70 rfl ?_
  refine lv_aload_n hx hb dX8_init_71 rfl (lv_at hl 3 rfl) ?_
  refine va_get (D := (dC, dI)) (ci := 8) (v := .ref hd) (C := RX8) (T := TX8) (N := 11) hx hb hts k_23 hown hK hP 0 rfl rfl 0 (by decide) k_24 (fun _ h9 => h9) rfl dX8_init_72 ?_
  refine lv_aload_n hx hb dX8_init_75 rfl (lv_at hl 3 rfl) ?_
  refine va_get (D := (dC, dI)) (ci := 8) (v := .ref hf) (C := RX8) (T := TX8) (N := 11) hx hb hts k_23 hown hK hP 0 rfl rfl 1 (by decide) k_31 (fun _ h9 => h9) rfl dX8_init_76 ?_
  refine lv_aload hx hb dX8_init_79 (lv_at hl 0 rfl) ?_
  have hPc := hP.sub (ws' := [(hs, .inr (6, [.null, .null, .null, .null, .null, .null, .int 0, .long 0, .int 0, .long 0])), (hd, .inr (0, [.int (nI (nW p0)), .int (nI (nB p1)), .int 0, .ref qc, .ref qi, .int (-1), .int 0]))]) [8, 2] rfl
  have hDc := hD.sub (ws' := [(hs, .inr (6, [.null, .null, .null, .null, .null, .null, .int 0, .long 0, .int 0, .long 0])), (hd, .inr (0, [.int (nI (nW p0)), .int (nI (nB p1)), .int 0, .ref qc, .ref qi, .int (-1), .int 0]))]) [8, 2] (by decide) rfl
  have hKc := hK.sub (tys' := [(cI, .int)]) [0] rfl
  have hFc := va_free (wc := [(hs, .inr (6, [.null, .null, .null, .null, .null, .null, .int 0, .long 0, .int 0, .long 0])), (hd, .inr (0, [.int (nI (nW p0)), .int (nI (nB p1)), .int 0, .ref qc, .ref qi, .int (-1), .int 0]))]) hD hS hA [8, 2] rfl
  refine va_callv (va_runI (As := [.ref hd, .ref hf, .ref hm]) (rest := [.ref hs, .ref ax]) ⟨hx, hb, hml, hown, hts⟩ (c_X6_init l dC dI H.size hs hd hf hm (nW p0) (nB p1) qc qi 0 (-1) 0 cI (by first | assumption | omega | decide) (by first | assumption | omega | decide) (by first | assumption | omega | decide) (by first | assumption | omega | decide) (by first | assumption | omega | decide)) (cwI 3 hts g_X8_init_X6_init rfl rfl rfl k_35 k_36 k_37 rfl (by decide +kernel) ⟨Nat.le_of_ble_eq_true rfl, Nat.le_of_ble_eq_true rfl⟩) ⟨fun a U g mk q => by obtain ⟨q0, q1, qP, qK, qD⟩ := q; exact ⟨q0, q1, qP, va_K.moved (u := U) (U := U.calling g mk a) (Vm.Alike.refl U.vm) qK, qD⟩, fun U hU hW => ⟨rfl, by rw [hU], by rw [hU]; exact hPc, va_K.moved hW.alike hKc, hDc.weaken (fun _ _ _ _ => trivial)⟩⟩ rfl rfl hl.1 rfl (lv_room (Nat.le_of_ble_eq_true rfl)) dX8_init_81 ⟨(show 203 + 3 ≤ 302 by omega), (show 8213 + 192 ≤ 10944 by omega)⟩) hS (fun q _ h => hFc q h) hFc (fun u t H1 locs ht hvm hw hB hz1 hk1 hS9 => ?_)
  replace hS := hS9
  clear hS9
  obtain ⟨l1, l2, l3, cJ⟩ := u
  obtain ⟨hP1, hK1, hD1⟩ := hB
  rw [ht] at hP1
  replace hK1 := va_K.moved hvm.symm hK1
  try dsimp only at hw
  obtain ⟨hP9, hD9⟩ := va_joinQ (wr := [(ax, .inr (8, [.ref hd, .ref hf, .null, .null, .null, .null, .null, .null, .int 0, .long 0, .int 0])), (hm, .inr (3, [.int mka, .int mca])), MA9 qc cI ((nW p0) * (nB p1)) (fun _ => 0), MA9 qi cI (nW p0) (fun _ => 0), (hf, .inr (2, [.int 0, .ref qp, .ref qe, .ref ql, .int 0, .int 0])), (qp, .inl (cO, nB p1, .inr (.inr (.inr (.inr fp))))), MA9 ql cI (nB p1) (fun _ => 0)]) (w1 := [(hs, .inr (6, [.ref hd, .ref hf, .ref hm, .ref l1, .ref l2, .ref l3, .int 0, .long 0, .int 0, .long 0])), (hd, .inr (0, [.int (nI (nW p0)), .int (nI (nB p1)), .int 0, .ref qc, .ref qi, .int (-1), .int 0])), MA9 l1 cI (nB p1) (fun _ => 0), (l2, .inl (cJ, nB p1, .inr (.inl (fun _ => 0)))), (l3, .inl (cJ, nB p1, .inr (.inl (fun _ => 0))))]) hP hD [8, 2] [0, 1, 3, 4, 5, 6, 7] rfl rfl (by decide) (by decide) hk1 hFc hP1 hD1
  replace hP := hP9
  replace hD := hD9
  clear hP9 hD9
  replace hK := (hK.sub (tys' := [(cI, .int), (cO, .object RX4)]) [0, 1] rfl).app hK1
  clear hP1 hD1 hK1 hPc hDc hKc hFc hk1 hz1 hvm ht
  generalize H1 = H at hP hS ⊢
  replace hP : va_P (dC, dI) vwCl ([(ax, .inr (8, [.ref hd, .ref hf, .null, .null, .null, .null, .null, .null, .int 0, .long 0, .int 0])), (hm, .inr (3, [.int mka, .int mca])), MA9 qc cI ((nW p0) * (nB p1)) (fun _ => 0), MA9 qi cI (nW p0) (fun _ => 0), (hf, .inr (2, [.int 0, .ref qp, .ref qe, .ref ql, .int 0, .int 0])), (qp, .inl (cO, nB p1, .inr (.inr (.inr (.inr fp))))), MA9 ql cI (nB p1) (fun _ => 0), (hs, .inr (6, [.ref hd, .ref hf, .ref hm, .ref l1, .ref l2, .ref l3, .int 0, .long 0, .int 0, .long 0])), (hd, .inr (0, [.int (nI (nW p0)), .int (nI (nB p1)), .int 0, .ref qc, .ref qi, .int (-1), .int 0])), MA9 l1 cI (nB p1) (fun _ => 0), (l2, .inl (cJ, nB p1, .inr (.inl (fun _ => 0)))), (l3, .inl (cJ, nB p1, .inr (.inl (fun _ => 0))))] ++ pool G1 cI P1 S1) H := hP
  replace hD : va_D A ([(ax, .inr (8, [.ref hd, .ref hf, .null, .null, .null, .null, .null, .null, .int 0, .long 0, .int 0])), (hm, .inr (3, [.int mka, .int mca])), MA9 qc cI ((nW p0) * (nB p1)) (fun _ => 0), MA9 qi cI (nW p0) (fun _ => 0), (hf, .inr (2, [.int 0, .ref qp, .ref qe, .ref ql, .int 0, .int 0])), (qp, .inl (cO, nB p1, .inr (.inr (.inr (.inr fp))))), MA9 ql cI (nB p1) (fun _ => 0), (hs, .inr (6, [.ref hd, .ref hf, .ref hm, .ref l1, .ref l2, .ref l3, .int 0, .long 0, .int 0, .long 0])), (hd, .inr (0, [.int (nI (nW p0)), .int (nI (nB p1)), .int 0, .ref qc, .ref qi, .int (-1), .int 0])), MA9 l1 cI (nB p1) (fun _ => 0), (l2, .inl (cJ, nB p1, .inr (.inl (fun _ => 0)))), (l3, .inl (cJ, nB p1, .inr (.inl (fun _ => 0))))] ++ pool G1 cI P1 S1) := hD
  replace hK : va_K (dC, dI) vwCl [(cI, .int), (cO, .object RX4), (cI, .int), (cJ, .long)] s := hK
  replace hK : va_K (dC, dI) vwCl [(cI, .int), (cO, .object RX4), (cJ, .long)] s := hK.sub [0, 1, 3] rfl
  refine W.widen (k := 206) (n := 8405) (by omega) (by omega) ?_
  refine va_putF (D := (dC, dI)) (ci := 8) (v := .ref hs) (ty := (.object "TwinRoots$Survey")) (C := RX8) (T := TX8) (N := 11) hx hb hts k_23 tyX8 tyX8_ok nmX8 hown hK hP hD hS 0 rfl rfl 2 (by decide) k_38 (fun _ h9 => h9) rfl hin rfl (by decide +kernel) rfl rfl (Nat.le_of_ble_eq_true rfl) dX8_init_84 (fun H locs hP9 hD9 hS9 => ?_)
  replace hP := hP9
  replace hD := hD9
  replace hS := hS9
  clear hP9 hD9 hS9
  replace hP : va_P (dC, dI) vwCl ([(ax, .inr (8, [.ref hd, .ref hf, .ref hs, .null, .null, .null, .null, .null, .int 0, .long 0, .int 0])), (hm, .inr (3, [.int mka, .int mca])), MA9 qc cI ((nW p0) * (nB p1)) (fun _ => 0), MA9 qi cI (nW p0) (fun _ => 0), (hf, .inr (2, [.int 0, .ref qp, .ref qe, .ref ql, .int 0, .int 0])), (qp, .inl (cO, nB p1, .inr (.inr (.inr (.inr fp))))), MA9 ql cI (nB p1) (fun _ => 0), (hs, .inr (6, [.ref hd, .ref hf, .ref hm, .ref l1, .ref l2, .ref l3, .int 0, .long 0, .int 0, .long 0])), (hd, .inr (0, [.int (nI (nW p0)), .int (nI (nB p1)), .int 0, .ref qc, .ref qi, .int (-1), .int 0])), MA9 l1 cI (nB p1) (fun _ => 0), (l2, .inl (cJ, nB p1, .inr (.inl (fun _ => 0)))), (l3, .inl (cJ, nB p1, .inr (.inl (fun _ => 0))))] ++ pool G1 cI P1 S1) H := hP
  replace hD : va_D A ([(ax, .inr (8, [.ref hd, .ref hf, .ref hs, .null, .null, .null, .null, .null, .int 0, .long 0, .int 0])), (hm, .inr (3, [.int mka, .int mca])), MA9 qc cI ((nW p0) * (nB p1)) (fun _ => 0), MA9 qi cI (nW p0) (fun _ => 0), (hf, .inr (2, [.int 0, .ref qp, .ref qe, .ref ql, .int 0, .int 0])), (qp, .inl (cO, nB p1, .inr (.inr (.inr (.inr fp))))), MA9 ql cI (nB p1) (fun _ => 0), (hs, .inr (6, [.ref hd, .ref hf, .ref hm, .ref l1, .ref l2, .ref l3, .int 0, .long 0, .int 0, .long 0])), (hd, .inr (0, [.int (nI (nW p0)), .int (nI (nB p1)), .int 0, .ref qc, .ref qi, .int (-1), .int 0])), MA9 l1 cI (nB p1) (fun _ => 0), (l2, .inl (cJ, nB p1, .inr (.inl (fun _ => 0)))), (l3, .inl (cJ, nB p1, .inr (.inl (fun _ => 0))))] ++ pool G1 cI P1 S1) := hD
  refine lv_aload_n hx hb dX8_init_87 rfl (lv_at hl 3 rfl) ?_
  refine va_new (ci := 5) (fs := [.int 0, .long 0, .long 0, .int 0, .null, .null, .null, .long 0]) (C := RX5) (T := TX5) (N := 8) hx hb hts k_39 tyX5 tyX5_ok hown k_40 k_41 k_42 hK hP hD hS hA rfl (fun j hj => by rcases (show j = 0 ∨ j = 1 ∨ j = 2 ∨ j = 3 ∨ j = 4 ∨ j = 5 ∨ j = 6 ∨ j = 7 by omega) with rfl | rfl | rfl | rfl | rfl | rfl | rfl | rfl <;> rfl) (show 206 + 1 ≤ 302 by omega) (show 8405 + 8 ≤ 10944 by omega) dX8_init_88 (fun hp H hP hD hS => ?_)
  replace hP := hP.swap
  replace hD := hD.swap
  replace hP : va_P (dC, dI) vwCl ([(ax, .inr (8, [.ref hd, .ref hf, .ref hs, .null, .null, .null, .null, .null, .int 0, .long 0, .int 0])), (hm, .inr (3, [.int mka, .int mca])), MA9 qc cI ((nW p0) * (nB p1)) (fun _ => 0), MA9 qi cI (nW p0) (fun _ => 0), (hf, .inr (2, [.int 0, .ref qp, .ref qe, .ref ql, .int 0, .int 0])), (qp, .inl (cO, nB p1, .inr (.inr (.inr (.inr fp))))), MA9 ql cI (nB p1) (fun _ => 0), (hs, .inr (6, [.ref hd, .ref hf, .ref hm, .ref l1, .ref l2, .ref l3, .int 0, .long 0, .int 0, .long 0])), (hd, .inr (0, [.int (nI (nW p0)), .int (nI (nB p1)), .int 0, .ref qc, .ref qi, .int (-1), .int 0])), MA9 l1 cI (nB p1) (fun _ => 0), (l2, .inl (cJ, nB p1, .inr (.inl (fun _ => 0)))), (l3, .inl (cJ, nB p1, .inr (.inl (fun _ => 0)))), (hp, .inr (5, [.int 0, .long 0, .long 0, .int 0, .null, .null, .null, .long 0]))] ++ pool G1 cI P1 S1) H := hP
  replace hD : va_D A ([(ax, .inr (8, [.ref hd, .ref hf, .ref hs, .null, .null, .null, .null, .null, .int 0, .long 0, .int 0])), (hm, .inr (3, [.int mka, .int mca])), MA9 qc cI ((nW p0) * (nB p1)) (fun _ => 0), MA9 qi cI (nW p0) (fun _ => 0), (hf, .inr (2, [.int 0, .ref qp, .ref qe, .ref ql, .int 0, .int 0])), (qp, .inl (cO, nB p1, .inr (.inr (.inr (.inr fp))))), MA9 ql cI (nB p1) (fun _ => 0), (hs, .inr (6, [.ref hd, .ref hf, .ref hm, .ref l1, .ref l2, .ref l3, .int 0, .long 0, .int 0, .long 0])), (hd, .inr (0, [.int (nI (nW p0)), .int (nI (nB p1)), .int 0, .ref qc, .ref qi, .int (-1), .int 0])), MA9 l1 cI (nB p1) (fun _ => 0), (l2, .inl (cJ, nB p1, .inr (.inl (fun _ => 0)))), (l3, .inl (cJ, nB p1, .inr (.inl (fun _ => 0)))), (hp, .inr (5, [.int 0, .long 0, .long 0, .int 0, .null, .null, .null, .long 0]))] ++ pool G1 cI P1 S1) := hD
  refine W.widen (k := 207) (n := 8413) (by omega) (by omega) ?_
  refine lv_dup hx hb dX8_init_91 rfl ?_
  refine lv_iload_n hx hb dX8_init_92 rfl (lv_at hl 2 rfl) ?_
  have hPc := hP.part (cx := [(hp, .inr (5, [.int 0, .long 0, .long 0, .int 0, .null, .null, .null, .long 0]))]) [12] rfl
  have hDc := hD.part (cx := [(hp, .inr (5, [.int 0, .long 0, .long 0, .int 0, .null, .null, .null, .long 0]))]) [12] (by decide) rfl
  have hFc := va_freeP (cx := [(hp, .inr (5, [.int 0, .long 0, .long 0, .int 0, .null, .null, .null, .long 0]))]) hD hS hA [12] rfl
  have hKc := hK.sub (tys' := [(cI, .int)]) [0] rfl
  refine va_callv (va_runI (As := [.int (nI (nW p0))]) (rest := [.ref hp, .ref ax]) ⟨hx, hb, hml, hown, hts⟩ (c_X5_init l dC dI H.size hp (nW p0) G1 P1 cI S1 (by first | assumption | omega | decide) (by first | assumption | omega | decide)) (cwI 1 hts g_X8_init_X5_init rfl rfl rfl k_42 k_43 k_44 rfl (by decide +kernel) ⟨Nat.le_of_ble_eq_true rfl, Nat.le_of_ble_eq_true rfl⟩) ⟨fun a U g mk q => by obtain ⟨q0, q1, qP, qK, qD, qX0⟩ := q; exact ⟨q0, q1, qP, va_K.moved (u := U) (U := U.calling g mk a) (Vm.Alike.refl U.vm) qK, qD, va_AO.moved (u := U) (U := U.calling g mk a) (Vm.Alike.refl U.vm) qX0⟩, fun U hU hW => ⟨rfl, by rw [hU], by rw [hU]; exact hPc, va_K.moved hW.alike hKc, hDc.weaken (fun _ _ _ _ => trivial), va_AO.moved hW.alike hAO⟩⟩ rfl rfl hl.1 rfl (lv_room (Nat.le_of_ble_eq_true rfl)) dX8_init_93 ⟨(show 207 + 80 ≤ 302 by omega), (show 8413 + 2234 ≤ 10944 by omega)⟩) hS (fun q _ h => hFc q h) hFc (fun u t H1 locs ht hvm hw hB hz1 hk1 hS9 => ?_)
  replace hS := hS9
  clear hS9
  obtain ⟨pd, pt, pb, cO9, fd, G2, P2, S2⟩ := u
  obtain ⟨hP1, hK1, hD1⟩ := hB
  rw [ht] at hP1
  replace hK1 := va_K.moved hvm.symm hK1
  try dsimp only at hw
  obtain ⟨hP9, hD9⟩ := va_joinP (wr := [(ax, .inr (8, [.ref hd, .ref hf, .ref hs, .null, .null, .null, .null, .null, .int 0, .long 0, .int 0])), (hm, .inr (3, [.int mka, .int mca])), MA9 qc cI ((nW p0) * (nB p1)) (fun _ => 0), MA9 qi cI (nW p0) (fun _ => 0), (hf, .inr (2, [.int 0, .ref qp, .ref qe, .ref ql, .int 0, .int 0])), (qp, .inl (cO, nB p1, .inr (.inr (.inr (.inr fp))))), MA9 ql cI (nB p1) (fun _ => 0), (hs, .inr (6, [.ref hd, .ref hf, .ref hm, .ref l1, .ref l2, .ref l3, .int 0, .long 0, .int 0, .long 0])), (hd, .inr (0, [.int (nI (nW p0)), .int (nI (nB p1)), .int 0, .ref qc, .ref qi, .int (-1), .int 0])), MA9 l1 cI (nB p1) (fun _ => 0), (l2, .inl (cJ, nB p1, .inr (.inl (fun _ => 0)))), (l3, .inl (cJ, nB p1, .inr (.inl (fun _ => 0))))]) (rx := [(hp, .inr (5, [.int 0, .long 0, .long 0, .int 0, .ref pd, .ref pt, .ref pb, .long 0])), (pd, .inl (cO9, 25, .inr (.inr (.inr (.inr fd))))), MA9 pt cI 25 (fun _ => 0)]) (pl1 := pool G2 cI P2 S2) hP hD [12] [0, 1, 2, 3, 4, 5, 6, 7, 8, 9, 10, 11] rfl rfl (by decide) (by decide) hk1 hFc hP1 hD1
  replace hP := hP9
  replace hD := hD9
  clear hP9 hD9
  replace hK := (hK.sub (tys' := [(cI, .int), (cO, .object RX4), (cJ, .long)]) [0, 1, 2] rfl).app hK1
  clear hP1 hD1 hK1 hPc hDc hKc hFc hk1 hz1 hvm ht
  generalize H1 = H at hP hS ⊢
  replace hP : va_P (dC, dI) vwCl ([(ax, .inr (8, [.ref hd, .ref hf, .ref hs, .null, .null, .null, .null, .null, .int 0, .long 0, .int 0])), (hm, .inr (3, [.int mka, .int mca])), MA9 qc cI ((nW p0) * (nB p1)) (fun _ => 0), MA9 qi cI (nW p0) (fun _ => 0), (hf, .inr (2, [.int 0, .ref qp, .ref qe, .ref ql, .int 0, .int 0])), (qp, .inl (cO, nB p1, .inr (.inr (.inr (.inr fp))))), MA9 ql cI (nB p1) (fun _ => 0), (hs, .inr (6, [.ref hd, .ref hf, .ref hm, .ref l1, .ref l2, .ref l3, .int 0, .long 0, .int 0, .long 0])), (hd, .inr (0, [.int (nI (nW p0)), .int (nI (nB p1)), .int 0, .ref qc, .ref qi, .int (-1), .int 0])), MA9 l1 cI (nB p1) (fun _ => 0), (l2, .inl (cJ, nB p1, .inr (.inl (fun _ => 0)))), (l3, .inl (cJ, nB p1, .inr (.inl (fun _ => 0)))), (hp, .inr (5, [.int 0, .long 0, .long 0, .int 0, .ref pd, .ref pt, .ref pb, .long 0])), (pd, .inl (cO9, 25, .inr (.inr (.inr (.inr fd))))), MA9 pt cI 25 (fun _ => 0)] ++ pool G2 cI P2 S2) H := hP
  replace hD : va_D A ([(ax, .inr (8, [.ref hd, .ref hf, .ref hs, .null, .null, .null, .null, .null, .int 0, .long 0, .int 0])), (hm, .inr (3, [.int mka, .int mca])), MA9 qc cI ((nW p0) * (nB p1)) (fun _ => 0), MA9 qi cI (nW p0) (fun _ => 0), (hf, .inr (2, [.int 0, .ref qp, .ref qe, .ref ql, .int 0, .int 0])), (qp, .inl (cO, nB p1, .inr (.inr (.inr (.inr fp))))), MA9 ql cI (nB p1) (fun _ => 0), (hs, .inr (6, [.ref hd, .ref hf, .ref hm, .ref l1, .ref l2, .ref l3, .int 0, .long 0, .int 0, .long 0])), (hd, .inr (0, [.int (nI (nW p0)), .int (nI (nB p1)), .int 0, .ref qc, .ref qi, .int (-1), .int 0])), MA9 l1 cI (nB p1) (fun _ => 0), (l2, .inl (cJ, nB p1, .inr (.inl (fun _ => 0)))), (l3, .inl (cJ, nB p1, .inr (.inl (fun _ => 0)))), (hp, .inr (5, [.int 0, .long 0, .long 0, .int 0, .ref pd, .ref pt, .ref pb, .long 0])), (pd, .inl (cO9, 25, .inr (.inr (.inr (.inr fd))))), MA9 pt cI 25 (fun _ => 0)] ++ pool G2 cI P2 S2) := hD
  replace hK : va_K (dC, dI) vwCl [(cI, .int), (cO, .object RX4), (cJ, .long), (cI, .int), (cO9, .object RX4)] s := hK
  replace hK : va_K (dC, dI) vwCl [(cI, .int), (cO, .object RX4), (cJ, .long), (cO9, .object RX4)] s := hK.sub [0, 1, 2, 4] rfl
  have e9 : cO = cO9 := cA_obj hK (i := 1) (j := 3) rfl rfl
  subst e9
  replace hK : va_K (dC, dI) vwCl [(cI, .int), (cO, .object RX4), (cJ, .long)] s := hK.sub [0, 1, 2] rfl
  have hI := hw.1
  refine W.widen (k := 287) (n := 10647) (by omega) (by omega) ?_
  have hw_r_7 := hw
  obtain ⟨-, hX2, hdr, hm_pb, ht_pb⟩ := hw
  have hpg := pgA_x hpg hX2
  have ht_qe : (G2 qe).2.2.2 = 0 := by rw [(hX2 qe hm_qe).2]; exact ht_qe
  have hm_qe := (hX2 qe hm_qe).1
  refine va_putF (D := (dC, dI)) (ci := 8) (v := .ref hp) (ty := (.object "TwinRoots$Plan")) (C := RX8) (T := TX8) (N := 11) hx hb hts k_23 tyX8 tyX8_ok nmX8 hown hK hP hD hS 0 rfl rfl 3 (by decide) k_45 (fun _ h9 => h9) rfl hin rfl (by decide +kernel) rfl rfl (Nat.le_of_ble_eq_true rfl) dX8_init_96 (fun H locs hP9 hD9 hS9 => ?_)
  replace hP := hP9
  replace hD := hD9
  replace hS := hS9
  clear hP9 hD9 hS9
  replace hP : va_P (dC, dI) vwCl ([(ax, .inr (8, [.ref hd, .ref hf, .ref hs, .ref hp, .null, .null, .null, .null, .int 0, .long 0, .int 0])), (hm, .inr (3, [.int mka, .int mca])), MA9 qc cI ((nW p0) * (nB p1)) (fun _ => 0), MA9 qi cI (nW p0) (fun _ => 0), (hf, .inr (2, [.int 0, .ref qp, .ref qe, .ref ql, .int 0, .int 0])), (qp, .inl (cO, nB p1, .inr (.inr (.inr (.inr fp))))), MA9 ql cI (nB p1) (fun _ => 0), (hs, .inr (6, [.ref hd, .ref hf, .ref hm, .ref l1, .ref l2, .ref l3, .int 0, .long 0, .int 0, .long 0])), (hd, .inr (0, [.int (nI (nW p0)), .int (nI (nB p1)), .int 0, .ref qc, .ref qi, .int (-1), .int 0])), MA9 l1 cI (nB p1) (fun _ => 0), (l2, .inl (cJ, nB p1, .inr (.inl (fun _ => 0)))), (l3, .inl (cJ, nB p1, .inr (.inl (fun _ => 0)))), (hp, .inr (5, [.int 0, .long 0, .long 0, .int 0, .ref pd, .ref pt, .ref pb, .long 0])), (pd, .inl (cO, 25, .inr (.inr (.inr (.inr fd))))), MA9 pt cI 25 (fun _ => 0)] ++ pool G2 cI P2 S2) H := hP
  replace hD : va_D A ([(ax, .inr (8, [.ref hd, .ref hf, .ref hs, .ref hp, .null, .null, .null, .null, .int 0, .long 0, .int 0])), (hm, .inr (3, [.int mka, .int mca])), MA9 qc cI ((nW p0) * (nB p1)) (fun _ => 0), MA9 qi cI (nW p0) (fun _ => 0), (hf, .inr (2, [.int 0, .ref qp, .ref qe, .ref ql, .int 0, .int 0])), (qp, .inl (cO, nB p1, .inr (.inr (.inr (.inr fp))))), MA9 ql cI (nB p1) (fun _ => 0), (hs, .inr (6, [.ref hd, .ref hf, .ref hm, .ref l1, .ref l2, .ref l3, .int 0, .long 0, .int 0, .long 0])), (hd, .inr (0, [.int (nI (nW p0)), .int (nI (nB p1)), .int 0, .ref qc, .ref qi, .int (-1), .int 0])), MA9 l1 cI (nB p1) (fun _ => 0), (l2, .inl (cJ, nB p1, .inr (.inl (fun _ => 0)))), (l3, .inl (cJ, nB p1, .inr (.inl (fun _ => 0)))), (hp, .inr (5, [.int 0, .long 0, .long 0, .int 0, .ref pd, .ref pt, .ref pb, .long 0])), (pd, .inl (cO, 25, .inr (.inr (.inr (.inr fd))))), MA9 pt cI 25 (fun _ => 0)] ++ pool G2 cI P2 S2) := hD
  refine lv_aload_n hx hb dX8_init_99 rfl (lv_at hl 3 rfl) ?_
  refine va_new (ci := 1) (fs := [.null, .null, .null, .null, .null, .int 0, .null, .null, .null]) (C := RX1) (T := TX1) (N := 9) hx hb hts k_46 tyX1 tyX1_ok hown k_47 k_48 k_49 hK hP hD hS hA rfl (fun j hj => by rcases (show j = 0 ∨ j = 1 ∨ j = 2 ∨ j = 3 ∨ j = 4 ∨ j = 5 ∨ j = 6 ∨ j = 7 ∨ j = 8 by omega) with rfl | rfl | rfl | rfl | rfl | rfl | rfl | rfl | rfl <;> rfl) (show 287 + 1 ≤ 302 by omega) (show 10647 + 9 ≤ 10944 by omega) dX8_init_100 (fun he H hP hD hS => ?_)
  replace hP := hP.swap
  replace hD := hD.swap
  replace hP : va_P (dC, dI) vwCl ([(ax, .inr (8, [.ref hd, .ref hf, .ref hs, .ref hp, .null, .null, .null, .null, .int 0, .long 0, .int 0])), (hm, .inr (3, [.int mka, .int mca])), MA9 qc cI ((nW p0) * (nB p1)) (fun _ => 0), MA9 qi cI (nW p0) (fun _ => 0), (hf, .inr (2, [.int 0, .ref qp, .ref qe, .ref ql, .int 0, .int 0])), (qp, .inl (cO, nB p1, .inr (.inr (.inr (.inr fp))))), MA9 ql cI (nB p1) (fun _ => 0), (hs, .inr (6, [.ref hd, .ref hf, .ref hm, .ref l1, .ref l2, .ref l3, .int 0, .long 0, .int 0, .long 0])), (hd, .inr (0, [.int (nI (nW p0)), .int (nI (nB p1)), .int 0, .ref qc, .ref qi, .int (-1), .int 0])), MA9 l1 cI (nB p1) (fun _ => 0), (l2, .inl (cJ, nB p1, .inr (.inl (fun _ => 0)))), (l3, .inl (cJ, nB p1, .inr (.inl (fun _ => 0)))), (hp, .inr (5, [.int 0, .long 0, .long 0, .int 0, .ref pd, .ref pt, .ref pb, .long 0])), (pd, .inl (cO, 25, .inr (.inr (.inr (.inr fd))))), MA9 pt cI 25 (fun _ => 0), (he, .inr (1, [.null, .null, .null, .null, .null, .int 0, .null, .null, .null]))] ++ pool G2 cI P2 S2) H := hP
  replace hD : va_D A ([(ax, .inr (8, [.ref hd, .ref hf, .ref hs, .ref hp, .null, .null, .null, .null, .int 0, .long 0, .int 0])), (hm, .inr (3, [.int mka, .int mca])), MA9 qc cI ((nW p0) * (nB p1)) (fun _ => 0), MA9 qi cI (nW p0) (fun _ => 0), (hf, .inr (2, [.int 0, .ref qp, .ref qe, .ref ql, .int 0, .int 0])), (qp, .inl (cO, nB p1, .inr (.inr (.inr (.inr fp))))), MA9 ql cI (nB p1) (fun _ => 0), (hs, .inr (6, [.ref hd, .ref hf, .ref hm, .ref l1, .ref l2, .ref l3, .int 0, .long 0, .int 0, .long 0])), (hd, .inr (0, [.int (nI (nW p0)), .int (nI (nB p1)), .int 0, .ref qc, .ref qi, .int (-1), .int 0])), MA9 l1 cI (nB p1) (fun _ => 0), (l2, .inl (cJ, nB p1, .inr (.inl (fun _ => 0)))), (l3, .inl (cJ, nB p1, .inr (.inl (fun _ => 0)))), (hp, .inr (5, [.int 0, .long 0, .long 0, .int 0, .ref pd, .ref pt, .ref pb, .long 0])), (pd, .inl (cO, 25, .inr (.inr (.inr (.inr fd))))), MA9 pt cI 25 (fun _ => 0), (he, .inr (1, [.null, .null, .null, .null, .null, .int 0, .null, .null, .null]))] ++ pool G2 cI P2 S2) := hD
  refine W.widen (k := 288) (n := 10656) (by omega) (by omega) ?_
  refine lv_dup hx hb dX8_init_103 rfl ?_
  refine lv_iload_n hx hb dX8_init_104 rfl (lv_at hl 2 rfl) ?_
  refine lv_aload hx hb dX8_init_105 (lv_at hl 0 rfl) ?_
  refine lv_aload_n hx hb dX8_init_107 rfl (lv_at hl 3 rfl) ?_
  refine va_get (D := (dC, dI)) (ci := 8) (v := .ref hf) (C := RX8) (T := TX8) (N := 11) hx hb hts k_23 hown hK hP 0 rfl rfl 1 (by decide) k_31 (fun _ h9 => h9) rfl dX8_init_108 ?_
  refine lv_aload_n hx hb dX8_init_111 rfl (lv_at hl 3 rfl) ?_
  refine va_get (D := (dC, dI)) (ci := 8) (v := .ref hp) (C := RX8) (T := TX8) (N := 11) hx hb hts k_23 hown hK hP 0 rfl rfl 3 (by decide) k_45 (fun _ h9 => h9) rfl dX8_init_112 ?_
  have hPc := hP.part (cx := [(he, .inr (1, [.null, .null, .null, .null, .null, .int 0, .null, .null, .null]))]) [15] rfl
  have hDc := hD.part (cx := [(he, .inr (1, [.null, .null, .null, .null, .null, .int 0, .null, .null, .null]))]) [15] (by decide) rfl
  have hFc := va_freeP (cx := [(he, .inr (1, [.null, .null, .null, .null, .null, .int 0, .null, .null, .null]))]) hD hS hA [15] rfl
  have hKc := hK.sub (tys' := [(cI, .int)]) [0] rfl
  refine va_callv (va_runI (As := [.int (nI (nW p0)), .ref hm, .ref hf, .ref hp]) (rest := [.ref he, .ref ax]) ⟨hx, hb, hml, hown, hts⟩ (c_X1_init l dC dI H.size he (nW p0) hm hf hp G2 P2 cI S2 (by first | assumption | omega | decide) (by first | assumption | omega | decide)) (cwI 4 hts g_X8_init_X1_init rfl rfl rfl k_49 k_50 k_51 rfl (by decide +kernel) ⟨Nat.le_of_ble_eq_true rfl, Nat.le_of_ble_eq_true rfl⟩) ⟨fun a U g mk q => by obtain ⟨q0, q1, qP, qK, qD⟩ := q; exact ⟨q0, q1, qP, va_K.moved (u := U) (U := U.calling g mk a) (Vm.Alike.refl U.vm) qK, qD⟩, fun U hU hW => ⟨rfl, by rw [hU], by rw [hU]; exact hPc, va_K.moved hW.alike hKc, hDc.weaken (fun _ _ _ _ => trivial)⟩⟩ rfl rfl hl.1 rfl (lv_room (Nat.le_of_ble_eq_true rfl)) dX8_init_115 ⟨(show 288 + 11 ≤ 302 by omega), (show 10656 + 276 ≤ 10944 by omega)⟩) hS (fun q _ h => hFc q h) hFc (fun u t H1 locs ht hvm hw hB hz1 hk1 hS9 => ?_)
  replace hS := hS9
  clear hS9
  obtain ⟨eb, ep, nd, mt, ab, G3, P3, S3⟩ := u
  obtain ⟨hP1, hK1, hD1⟩ := hB
  rw [ht] at hP1
  replace hK1 := va_K.moved hvm.symm hK1
  try dsimp only at hw
  obtain ⟨hP9, hD9⟩ := va_joinP (wr := [(ax, .inr (8, [.ref hd, .ref hf, .ref hs, .ref hp, .null, .null, .null, .null, .int 0, .long 0, .int 0])), (hm, .inr (3, [.int mka, .int mca])), MA9 qc cI ((nW p0) * (nB p1)) (fun _ => 0), MA9 qi cI (nW p0) (fun _ => 0), (hf, .inr (2, [.int 0, .ref qp, .ref qe, .ref ql, .int 0, .int 0])), (qp, .inl (cO, nB p1, .inr (.inr (.inr (.inr fp))))), MA9 ql cI (nB p1) (fun _ => 0), (hs, .inr (6, [.ref hd, .ref hf, .ref hm, .ref l1, .ref l2, .ref l3, .int 0, .long 0, .int 0, .long 0])), (hd, .inr (0, [.int (nI (nW p0)), .int (nI (nB p1)), .int 0, .ref qc, .ref qi, .int (-1), .int 0])), MA9 l1 cI (nB p1) (fun _ => 0), (l2, .inl (cJ, nB p1, .inr (.inl (fun _ => 0)))), (l3, .inl (cJ, nB p1, .inr (.inl (fun _ => 0)))), (hp, .inr (5, [.int 0, .long 0, .long 0, .int 0, .ref pd, .ref pt, .ref pb, .long 0])), (pd, .inl (cO, 25, .inr (.inr (.inr (.inr fd))))), MA9 pt cI 25 (fun _ => 0)]) (rx := [(he, .inr (1, [.ref hm, .ref hf, .ref hp, .ref eb, .ref ep, .int 0, .ref nd, .ref mt, .ref ab])), MA9 eb cI 12 (fun _ => 0), MA9 ep cI 12 (fun _ => 0)]) (pl1 := pool G3 cI P3 S3) hP hD [15] [0, 1, 2, 3, 4, 5, 6, 7, 8, 9, 10, 11, 12, 13, 14] rfl rfl (by decide) (by decide) hk1 hFc hP1 hD1
  replace hP := hP9
  replace hD := hD9
  clear hP9 hD9
  replace hK := (hK.sub (tys' := [(cI, .int), (cO, .object RX4), (cJ, .long)]) [0, 1, 2] rfl).app hK1
  clear hP1 hD1 hK1 hPc hDc hKc hFc hk1 hz1 hvm ht
  generalize H1 = H at hP hS ⊢
  replace hP : va_P (dC, dI) vwCl ([(ax, .inr (8, [.ref hd, .ref hf, .ref hs, .ref hp, .null, .null, .null, .null, .int 0, .long 0, .int 0])), (hm, .inr (3, [.int mka, .int mca])), MA9 qc cI ((nW p0) * (nB p1)) (fun _ => 0), MA9 qi cI (nW p0) (fun _ => 0), (hf, .inr (2, [.int 0, .ref qp, .ref qe, .ref ql, .int 0, .int 0])), (qp, .inl (cO, nB p1, .inr (.inr (.inr (.inr fp))))), MA9 ql cI (nB p1) (fun _ => 0), (hs, .inr (6, [.ref hd, .ref hf, .ref hm, .ref l1, .ref l2, .ref l3, .int 0, .long 0, .int 0, .long 0])), (hd, .inr (0, [.int (nI (nW p0)), .int (nI (nB p1)), .int 0, .ref qc, .ref qi, .int (-1), .int 0])), MA9 l1 cI (nB p1) (fun _ => 0), (l2, .inl (cJ, nB p1, .inr (.inl (fun _ => 0)))), (l3, .inl (cJ, nB p1, .inr (.inl (fun _ => 0)))), (hp, .inr (5, [.int 0, .long 0, .long 0, .int 0, .ref pd, .ref pt, .ref pb, .long 0])), (pd, .inl (cO, 25, .inr (.inr (.inr (.inr fd))))), MA9 pt cI 25 (fun _ => 0), (he, .inr (1, [.ref hm, .ref hf, .ref hp, .ref eb, .ref ep, .int 0, .ref nd, .ref mt, .ref ab])), MA9 eb cI 12 (fun _ => 0), MA9 ep cI 12 (fun _ => 0)] ++ pool G3 cI P3 S3) H := hP
  replace hD : va_D A ([(ax, .inr (8, [.ref hd, .ref hf, .ref hs, .ref hp, .null, .null, .null, .null, .int 0, .long 0, .int 0])), (hm, .inr (3, [.int mka, .int mca])), MA9 qc cI ((nW p0) * (nB p1)) (fun _ => 0), MA9 qi cI (nW p0) (fun _ => 0), (hf, .inr (2, [.int 0, .ref qp, .ref qe, .ref ql, .int 0, .int 0])), (qp, .inl (cO, nB p1, .inr (.inr (.inr (.inr fp))))), MA9 ql cI (nB p1) (fun _ => 0), (hs, .inr (6, [.ref hd, .ref hf, .ref hm, .ref l1, .ref l2, .ref l3, .int 0, .long 0, .int 0, .long 0])), (hd, .inr (0, [.int (nI (nW p0)), .int (nI (nB p1)), .int 0, .ref qc, .ref qi, .int (-1), .int 0])), MA9 l1 cI (nB p1) (fun _ => 0), (l2, .inl (cJ, nB p1, .inr (.inl (fun _ => 0)))), (l3, .inl (cJ, nB p1, .inr (.inl (fun _ => 0)))), (hp, .inr (5, [.int 0, .long 0, .long 0, .int 0, .ref pd, .ref pt, .ref pb, .long 0])), (pd, .inl (cO, 25, .inr (.inr (.inr (.inr fd))))), MA9 pt cI 25 (fun _ => 0), (he, .inr (1, [.ref hm, .ref hf, .ref hp, .ref eb, .ref ep, .int 0, .ref nd, .ref mt, .ref ab])), MA9 eb cI 12 (fun _ => 0), MA9 ep cI 12 (fun _ => 0)] ++ pool G3 cI P3 S3) := hD
  replace hK : va_K (dC, dI) vwCl [(cI, .int), (cO, .object RX4), (cJ, .long), (cI, .int)] s := hK
  replace hK : va_K (dC, dI) vwCl [(cI, .int), (cO, .object RX4), (cJ, .long)] s := hK.sub [0, 1, 2] rfl
  have hI := hw.1
  refine W.widen (k := 299) (n := 10932) (by omega) (by omega) ?_
  have hw_r_8 := hw
  obtain ⟨-, hX3, hm_nd, ht_nd, hm_mt, ht_mt, hm_ab, ht_ab⟩ := hw
  have hpg := pgA_x hpg hX3
  have hdr := pgA_x hdr hX3
  have ht_qe : (G3 qe).2.2.2 = 0 := by rw [(hX3 qe hm_qe).2]; exact ht_qe
  have hm_qe := (hX3 qe hm_qe).1
  have ht_pb : (G3 pb).2.2.2 = 1 := by rw [(hX3 pb hm_pb).2]; exact ht_pb
  have hm_pb := (hX3 pb hm_pb).1
  refine va_putF (D := (dC, dI)) (ci := 8) (v := .ref he) (ty := (.object "TwinRoots$Editor")) (C := RX8) (T := TX8) (N := 11) hx hb hts k_23 tyX8 tyX8_ok nmX8 hown hK hP hD hS 0 rfl rfl 4 (by decide) k_52 (fun _ h9 => h9) rfl hin rfl (by decide +kernel) rfl rfl (Nat.le_of_ble_eq_true rfl) dX8_init_118 (fun H locs hP9 hD9 hS9 => ?_)
  replace hP := hP9
  replace hD := hD9
  replace hS := hS9
  clear hP9 hD9 hS9
  replace hP : va_P (dC, dI) vwCl ([(ax, .inr (8, [.ref hd, .ref hf, .ref hs, .ref hp, .ref he, .null, .null, .null, .int 0, .long 0, .int 0])), (hm, .inr (3, [.int mka, .int mca])), MA9 qc cI ((nW p0) * (nB p1)) (fun _ => 0), MA9 qi cI (nW p0) (fun _ => 0), (hf, .inr (2, [.int 0, .ref qp, .ref qe, .ref ql, .int 0, .int 0])), (qp, .inl (cO, nB p1, .inr (.inr (.inr (.inr fp))))), MA9 ql cI (nB p1) (fun _ => 0), (hs, .inr (6, [.ref hd, .ref hf, .ref hm, .ref l1, .ref l2, .ref l3, .int 0, .long 0, .int 0, .long 0])), (hd, .inr (0, [.int (nI (nW p0)), .int (nI (nB p1)), .int 0, .ref qc, .ref qi, .int (-1), .int 0])), MA9 l1 cI (nB p1) (fun _ => 0), (l2, .inl (cJ, nB p1, .inr (.inl (fun _ => 0)))), (l3, .inl (cJ, nB p1, .inr (.inl (fun _ => 0)))), (hp, .inr (5, [.int 0, .long 0, .long 0, .int 0, .ref pd, .ref pt, .ref pb, .long 0])), (pd, .inl (cO, 25, .inr (.inr (.inr (.inr fd))))), MA9 pt cI 25 (fun _ => 0), (he, .inr (1, [.ref hm, .ref hf, .ref hp, .ref eb, .ref ep, .int 0, .ref nd, .ref mt, .ref ab])), MA9 eb cI 12 (fun _ => 0), MA9 ep cI 12 (fun _ => 0)] ++ pool G3 cI P3 S3) H := hP
  replace hD : va_D A ([(ax, .inr (8, [.ref hd, .ref hf, .ref hs, .ref hp, .ref he, .null, .null, .null, .int 0, .long 0, .int 0])), (hm, .inr (3, [.int mka, .int mca])), MA9 qc cI ((nW p0) * (nB p1)) (fun _ => 0), MA9 qi cI (nW p0) (fun _ => 0), (hf, .inr (2, [.int 0, .ref qp, .ref qe, .ref ql, .int 0, .int 0])), (qp, .inl (cO, nB p1, .inr (.inr (.inr (.inr fp))))), MA9 ql cI (nB p1) (fun _ => 0), (hs, .inr (6, [.ref hd, .ref hf, .ref hm, .ref l1, .ref l2, .ref l3, .int 0, .long 0, .int 0, .long 0])), (hd, .inr (0, [.int (nI (nW p0)), .int (nI (nB p1)), .int 0, .ref qc, .ref qi, .int (-1), .int 0])), MA9 l1 cI (nB p1) (fun _ => 0), (l2, .inl (cJ, nB p1, .inr (.inl (fun _ => 0)))), (l3, .inl (cJ, nB p1, .inr (.inl (fun _ => 0)))), (hp, .inr (5, [.int 0, .long 0, .long 0, .int 0, .ref pd, .ref pt, .ref pb, .long 0])), (pd, .inl (cO, 25, .inr (.inr (.inr (.inr fd))))), MA9 pt cI 25 (fun _ => 0), (he, .inr (1, [.ref hm, .ref hf, .ref hp, .ref eb, .ref ep, .int 0, .ref nd, .ref mt, .ref ab])), MA9 eb cI 12 (fun _ => 0), MA9 ep cI 12 (fun _ => 0)] ++ pool G3 cI P3 S3) := hD
  refine lv_aload_n hx hb dX8_init_121 rfl (lv_at hl 3 rfl) ?_
  refine va_new (ci := 7) (fs := [.int 0, .int 0, .int 0, .long 0]) (C := RX7) (T := TX7) (N := 4) hx hb hts k_53 tyX7 tyX7_ok hown k_54 k_55 k_56 hK hP hD hS hA rfl (fun j hj => by rcases (show j = 0 ∨ j = 1 ∨ j = 2 ∨ j = 3 by omega) with rfl | rfl | rfl | rfl <;> rfl) (show 299 + 1 ≤ 302 by omega) (show 10932 + 4 ≤ 10944 by omega) dX8_init_122 (fun q0 H hP hD hS => ?_)
  replace hP := hP.swap
  replace hD := hD.swap
  replace hP : va_P (dC, dI) vwCl ([(ax, .inr (8, [.ref hd, .ref hf, .ref hs, .ref hp, .ref he, .null, .null, .null, .int 0, .long 0, .int 0])), (hm, .inr (3, [.int mka, .int mca])), MA9 qc cI ((nW p0) * (nB p1)) (fun _ => 0), MA9 qi cI (nW p0) (fun _ => 0), (hf, .inr (2, [.int 0, .ref qp, .ref qe, .ref ql, .int 0, .int 0])), (qp, .inl (cO, nB p1, .inr (.inr (.inr (.inr fp))))), MA9 ql cI (nB p1) (fun _ => 0), (hs, .inr (6, [.ref hd, .ref hf, .ref hm, .ref l1, .ref l2, .ref l3, .int 0, .long 0, .int 0, .long 0])), (hd, .inr (0, [.int (nI (nW p0)), .int (nI (nB p1)), .int 0, .ref qc, .ref qi, .int (-1), .int 0])), MA9 l1 cI (nB p1) (fun _ => 0), (l2, .inl (cJ, nB p1, .inr (.inl (fun _ => 0)))), (l3, .inl (cJ, nB p1, .inr (.inl (fun _ => 0)))), (hp, .inr (5, [.int 0, .long 0, .long 0, .int 0, .ref pd, .ref pt, .ref pb, .long 0])), (pd, .inl (cO, 25, .inr (.inr (.inr (.inr fd))))), MA9 pt cI 25 (fun _ => 0), (he, .inr (1, [.ref hm, .ref hf, .ref hp, .ref eb, .ref ep, .int 0, .ref nd, .ref mt, .ref ab])), MA9 eb cI 12 (fun _ => 0), MA9 ep cI 12 (fun _ => 0), (q0, .inr (7, [.int 0, .int 0, .int 0, .long 0]))] ++ pool G3 cI P3 S3) H := hP
  replace hD : va_D A ([(ax, .inr (8, [.ref hd, .ref hf, .ref hs, .ref hp, .ref he, .null, .null, .null, .int 0, .long 0, .int 0])), (hm, .inr (3, [.int mka, .int mca])), MA9 qc cI ((nW p0) * (nB p1)) (fun _ => 0), MA9 qi cI (nW p0) (fun _ => 0), (hf, .inr (2, [.int 0, .ref qp, .ref qe, .ref ql, .int 0, .int 0])), (qp, .inl (cO, nB p1, .inr (.inr (.inr (.inr fp))))), MA9 ql cI (nB p1) (fun _ => 0), (hs, .inr (6, [.ref hd, .ref hf, .ref hm, .ref l1, .ref l2, .ref l3, .int 0, .long 0, .int 0, .long 0])), (hd, .inr (0, [.int (nI (nW p0)), .int (nI (nB p1)), .int 0, .ref qc, .ref qi, .int (-1), .int 0])), MA9 l1 cI (nB p1) (fun _ => 0), (l2, .inl (cJ, nB p1, .inr (.inl (fun _ => 0)))), (l3, .inl (cJ, nB p1, .inr (.inl (fun _ => 0)))), (hp, .inr (5, [.int 0, .long 0, .long 0, .int 0, .ref pd, .ref pt, .ref pb, .long 0])), (pd, .inl (cO, 25, .inr (.inr (.inr (.inr fd))))), MA9 pt cI 25 (fun _ => 0), (he, .inr (1, [.ref hm, .ref hf, .ref hp, .ref eb, .ref ep, .int 0, .ref nd, .ref mt, .ref ab])), MA9 eb cI 12 (fun _ => 0), MA9 ep cI 12 (fun _ => 0), (q0, .inr (7, [.int 0, .int 0, .int 0, .long 0]))] ++ pool G3 cI P3 S3) := hD
  refine W.widen (k := 300) (n := 10936) (by omega) (by omega) ?_
  refine lv_dup hx hb dX8_init_125 rfl ?_
  have hPc := hP.sub (ws' := [(q0, .inr (7, [.int 0, .int 0, .int 0, .long 0]))]) [18] rfl
  have hDc := hD.sub (ws' := [(q0, .inr (7, [.int 0, .int 0, .int 0, .long 0]))]) [18] (by decide) rfl
  have hKc := hK.sub (tys' := []) [] rfl
  have hFc := va_free (wc := [(q0, .inr (7, [.int 0, .int 0, .int 0, .long 0]))]) hD hS hA [18] rfl
  refine va_callv (va_runIN (As := []) (rest := [.ref q0, .ref ax]) ⟨hx, hb, hml, hown, hts⟩ (c_X7_init l dC dI H.size q0 0 0 0 0) ⟨va_cnB 0 hts g_X8_init_X7_init rfl rfl rfl hNw k_56 (by decide +kernel) ⟨Nat.le_of_ble_eq_true rfl, Nat.le_of_ble_eq_true rfl⟩, rfl, k_57⟩ ⟨fun a U g mk q => by obtain ⟨q0, q1, qP, qK, qD⟩ := q; exact ⟨q0, q1, qP, va_K.moved (u := U) (U := U.calling g mk a) (Vm.Alike.refl U.vm) qK, qD⟩, fun U hU hW => ⟨rfl, by rw [hU], by rw [hU]; exact hPc, va_K.moved hW.alike hKc, hDc.weaken (fun _ _ _ _ => trivial)⟩⟩ rfl rfl hl.1 rfl (lv_room (Nat.le_of_ble_eq_true rfl)) dX8_init_126 ⟨(show 300 + 0 ≤ 302 by omega), (show 10936 + 0 ≤ 10944 by omega)⟩) hS (fun q _ h => hFc q h) hFc (fun u t H1 locs ht hvm hw hB hz1 hk1 hS9 => ?_)
  replace hS := hS9
  clear hS9
  obtain ⟨hP1, hK1, hD1⟩ := hB
  rw [ht] at hP1
  replace hK1 := va_K.moved hvm.symm hK1
  try dsimp only at hw
  obtain ⟨hP9, hD9⟩ := va_joinQ (wr := [(ax, .inr (8, [.ref hd, .ref hf, .ref hs, .ref hp, .ref he, .null, .null, .null, .int 0, .long 0, .int 0])), (hm, .inr (3, [.int mka, .int mca])), MA9 qc cI ((nW p0) * (nB p1)) (fun _ => 0), MA9 qi cI (nW p0) (fun _ => 0), (hf, .inr (2, [.int 0, .ref qp, .ref qe, .ref ql, .int 0, .int 0])), (qp, .inl (cO, nB p1, .inr (.inr (.inr (.inr fp))))), MA9 ql cI (nB p1) (fun _ => 0), (hs, .inr (6, [.ref hd, .ref hf, .ref hm, .ref l1, .ref l2, .ref l3, .int 0, .long 0, .int 0, .long 0])), (hd, .inr (0, [.int (nI (nW p0)), .int (nI (nB p1)), .int 0, .ref qc, .ref qi, .int (-1), .int 0])), MA9 l1 cI (nB p1) (fun _ => 0), (l2, .inl (cJ, nB p1, .inr (.inl (fun _ => 0)))), (l3, .inl (cJ, nB p1, .inr (.inl (fun _ => 0)))), (hp, .inr (5, [.int 0, .long 0, .long 0, .int 0, .ref pd, .ref pt, .ref pb, .long 0])), (pd, .inl (cO, 25, .inr (.inr (.inr (.inr fd))))), MA9 pt cI 25 (fun _ => 0), (he, .inr (1, [.ref hm, .ref hf, .ref hp, .ref eb, .ref ep, .int 0, .ref nd, .ref mt, .ref ab])), MA9 eb cI 12 (fun _ => 0), MA9 ep cI 12 (fun _ => 0)]) (w1 := [(q0, .inr (7, [.int 0, .int 0, .int 0, .long 0]))]) hP hD [18] [0, 1, 2, 3, 4, 5, 6, 7, 8, 9, 10, 11, 12, 13, 14, 15, 16, 17] rfl rfl (by decide) (by decide) hk1 hFc hP1 hD1
  replace hP := hP9
  replace hD := hD9
  clear hP9 hD9
  replace hK := (hK.sub (tys' := [(cI, .int), (cO, .object RX4), (cJ, .long)]) [0, 1, 2] rfl).app hK1
  clear hP1 hD1 hK1 hPc hDc hKc hFc hk1 hz1 hvm ht
  generalize H1 = H at hP hS ⊢
  replace hP : va_P (dC, dI) vwCl ([(ax, .inr (8, [.ref hd, .ref hf, .ref hs, .ref hp, .ref he, .null, .null, .null, .int 0, .long 0, .int 0])), (hm, .inr (3, [.int mka, .int mca])), MA9 qc cI ((nW p0) * (nB p1)) (fun _ => 0), MA9 qi cI (nW p0) (fun _ => 0), (hf, .inr (2, [.int 0, .ref qp, .ref qe, .ref ql, .int 0, .int 0])), (qp, .inl (cO, nB p1, .inr (.inr (.inr (.inr fp))))), MA9 ql cI (nB p1) (fun _ => 0), (hs, .inr (6, [.ref hd, .ref hf, .ref hm, .ref l1, .ref l2, .ref l3, .int 0, .long 0, .int 0, .long 0])), (hd, .inr (0, [.int (nI (nW p0)), .int (nI (nB p1)), .int 0, .ref qc, .ref qi, .int (-1), .int 0])), MA9 l1 cI (nB p1) (fun _ => 0), (l2, .inl (cJ, nB p1, .inr (.inl (fun _ => 0)))), (l3, .inl (cJ, nB p1, .inr (.inl (fun _ => 0)))), (hp, .inr (5, [.int 0, .long 0, .long 0, .int 0, .ref pd, .ref pt, .ref pb, .long 0])), (pd, .inl (cO, 25, .inr (.inr (.inr (.inr fd))))), MA9 pt cI 25 (fun _ => 0), (he, .inr (1, [.ref hm, .ref hf, .ref hp, .ref eb, .ref ep, .int 0, .ref nd, .ref mt, .ref ab])), MA9 eb cI 12 (fun _ => 0), MA9 ep cI 12 (fun _ => 0), (q0, .inr (7, [.int 0, .int 0, .int 0, .long 0]))] ++ pool G3 cI P3 S3) H := hP
  replace hD : va_D A ([(ax, .inr (8, [.ref hd, .ref hf, .ref hs, .ref hp, .ref he, .null, .null, .null, .int 0, .long 0, .int 0])), (hm, .inr (3, [.int mka, .int mca])), MA9 qc cI ((nW p0) * (nB p1)) (fun _ => 0), MA9 qi cI (nW p0) (fun _ => 0), (hf, .inr (2, [.int 0, .ref qp, .ref qe, .ref ql, .int 0, .int 0])), (qp, .inl (cO, nB p1, .inr (.inr (.inr (.inr fp))))), MA9 ql cI (nB p1) (fun _ => 0), (hs, .inr (6, [.ref hd, .ref hf, .ref hm, .ref l1, .ref l2, .ref l3, .int 0, .long 0, .int 0, .long 0])), (hd, .inr (0, [.int (nI (nW p0)), .int (nI (nB p1)), .int 0, .ref qc, .ref qi, .int (-1), .int 0])), MA9 l1 cI (nB p1) (fun _ => 0), (l2, .inl (cJ, nB p1, .inr (.inl (fun _ => 0)))), (l3, .inl (cJ, nB p1, .inr (.inl (fun _ => 0)))), (hp, .inr (5, [.int 0, .long 0, .long 0, .int 0, .ref pd, .ref pt, .ref pb, .long 0])), (pd, .inl (cO, 25, .inr (.inr (.inr (.inr fd))))), MA9 pt cI 25 (fun _ => 0), (he, .inr (1, [.ref hm, .ref hf, .ref hp, .ref eb, .ref ep, .int 0, .ref nd, .ref mt, .ref ab])), MA9 eb cI 12 (fun _ => 0), MA9 ep cI 12 (fun _ => 0), (q0, .inr (7, [.int 0, .int 0, .int 0, .long 0]))] ++ pool G3 cI P3 S3) := hD
  replace hK : va_K (dC, dI) vwCl [(cI, .int), (cO, .object RX4), (cJ, .long)] s := hK
  refine va_putF (D := (dC, dI)) (ci := 8) (v := .ref q0) (ty := (.object "TwinRoots$Told")) (C := RX8) (T := TX8) (N := 11) hx hb hts k_23 tyX8 tyX8_ok nmX8 hown hK hP hD hS 0 rfl rfl 5 (by decide) k_58 (fun _ h9 => h9) rfl hin rfl (by decide +kernel) rfl rfl (Nat.le_of_ble_eq_true rfl) dX8_init_129 (fun H locs hP9 hD9 hS9 => ?_)
  replace hP := hP9
  replace hD := hD9
  replace hS := hS9
  clear hP9 hD9 hS9
  replace hP : va_P (dC, dI) vwCl ([(ax, .inr (8, [.ref hd, .ref hf, .ref hs, .ref hp, .ref he, .ref q0, .null, .null, .int 0, .long 0, .int 0])), (hm, .inr (3, [.int mka, .int mca])), MA9 qc cI ((nW p0) * (nB p1)) (fun _ => 0), MA9 qi cI (nW p0) (fun _ => 0), (hf, .inr (2, [.int 0, .ref qp, .ref qe, .ref ql, .int 0, .int 0])), (qp, .inl (cO, nB p1, .inr (.inr (.inr (.inr fp))))), MA9 ql cI (nB p1) (fun _ => 0), (hs, .inr (6, [.ref hd, .ref hf, .ref hm, .ref l1, .ref l2, .ref l3, .int 0, .long 0, .int 0, .long 0])), (hd, .inr (0, [.int (nI (nW p0)), .int (nI (nB p1)), .int 0, .ref qc, .ref qi, .int (-1), .int 0])), MA9 l1 cI (nB p1) (fun _ => 0), (l2, .inl (cJ, nB p1, .inr (.inl (fun _ => 0)))), (l3, .inl (cJ, nB p1, .inr (.inl (fun _ => 0)))), (hp, .inr (5, [.int 0, .long 0, .long 0, .int 0, .ref pd, .ref pt, .ref pb, .long 0])), (pd, .inl (cO, 25, .inr (.inr (.inr (.inr fd))))), MA9 pt cI 25 (fun _ => 0), (he, .inr (1, [.ref hm, .ref hf, .ref hp, .ref eb, .ref ep, .int 0, .ref nd, .ref mt, .ref ab])), MA9 eb cI 12 (fun _ => 0), MA9 ep cI 12 (fun _ => 0), (q0, .inr (7, [.int 0, .int 0, .int 0, .long 0]))] ++ pool G3 cI P3 S3) H := hP
  replace hD : va_D A ([(ax, .inr (8, [.ref hd, .ref hf, .ref hs, .ref hp, .ref he, .ref q0, .null, .null, .int 0, .long 0, .int 0])), (hm, .inr (3, [.int mka, .int mca])), MA9 qc cI ((nW p0) * (nB p1)) (fun _ => 0), MA9 qi cI (nW p0) (fun _ => 0), (hf, .inr (2, [.int 0, .ref qp, .ref qe, .ref ql, .int 0, .int 0])), (qp, .inl (cO, nB p1, .inr (.inr (.inr (.inr fp))))), MA9 ql cI (nB p1) (fun _ => 0), (hs, .inr (6, [.ref hd, .ref hf, .ref hm, .ref l1, .ref l2, .ref l3, .int 0, .long 0, .int 0, .long 0])), (hd, .inr (0, [.int (nI (nW p0)), .int (nI (nB p1)), .int 0, .ref qc, .ref qi, .int (-1), .int 0])), MA9 l1 cI (nB p1) (fun _ => 0), (l2, .inl (cJ, nB p1, .inr (.inl (fun _ => 0)))), (l3, .inl (cJ, nB p1, .inr (.inl (fun _ => 0)))), (hp, .inr (5, [.int 0, .long 0, .long 0, .int 0, .ref pd, .ref pt, .ref pb, .long 0])), (pd, .inl (cO, 25, .inr (.inr (.inr (.inr fd))))), MA9 pt cI 25 (fun _ => 0), (he, .inr (1, [.ref hm, .ref hf, .ref hp, .ref eb, .ref ep, .int 0, .ref nd, .ref mt, .ref ab])), MA9 eb cI 12 (fun _ => 0), MA9 ep cI 12 (fun _ => 0), (q0, .inr (7, [.int 0, .int 0, .int 0, .long 0]))] ++ pool G3 cI P3 S3) := hD
  refine lv_aload_n hx hb dX8_init_132 rfl (lv_at hl 3 rfl) ?_
  refine va_new (ci := 7) (fs := [.int 0, .int 0, .int 0, .long 0]) (C := RX7) (T := TX7) (N := 4) hx hb hts k_53 tyX7 tyX7_ok hown k_54 k_55 k_56 hK hP hD hS hA rfl (fun j hj => by rcases (show j = 0 ∨ j = 1 ∨ j = 2 ∨ j = 3 by omega) with rfl | rfl | rfl | rfl <;> rfl) (show 300 + 1 ≤ 302 by omega) (show 10936 + 4 ≤ 10944 by omega) dX8_init_133 (fun q1 H hP hD hS => ?_)
  replace hP := hP.swap
  replace hD := hD.swap
  replace hP : va_P (dC, dI) vwCl ([(ax, .inr (8, [.ref hd, .ref hf, .ref hs, .ref hp, .ref he, .ref q0, .null, .null, .int 0, .long 0, .int 0])), (hm, .inr (3, [.int mka, .int mca])), MA9 qc cI ((nW p0) * (nB p1)) (fun _ => 0), MA9 qi cI (nW p0) (fun _ => 0), (hf, .inr (2, [.int 0, .ref qp, .ref qe, .ref ql, .int 0, .int 0])), (qp, .inl (cO, nB p1, .inr (.inr (.inr (.inr fp))))), MA9 ql cI (nB p1) (fun _ => 0), (hs, .inr (6, [.ref hd, .ref hf, .ref hm, .ref l1, .ref l2, .ref l3, .int 0, .long 0, .int 0, .long 0])), (hd, .inr (0, [.int (nI (nW p0)), .int (nI (nB p1)), .int 0, .ref qc, .ref qi, .int (-1), .int 0])), MA9 l1 cI (nB p1) (fun _ => 0), (l2, .inl (cJ, nB p1, .inr (.inl (fun _ => 0)))), (l3, .inl (cJ, nB p1, .inr (.inl (fun _ => 0)))), (hp, .inr (5, [.int 0, .long 0, .long 0, .int 0, .ref pd, .ref pt, .ref pb, .long 0])), (pd, .inl (cO, 25, .inr (.inr (.inr (.inr fd))))), MA9 pt cI 25 (fun _ => 0), (he, .inr (1, [.ref hm, .ref hf, .ref hp, .ref eb, .ref ep, .int 0, .ref nd, .ref mt, .ref ab])), MA9 eb cI 12 (fun _ => 0), MA9 ep cI 12 (fun _ => 0), (q0, .inr (7, [.int 0, .int 0, .int 0, .long 0])), (q1, .inr (7, [.int 0, .int 0, .int 0, .long 0]))] ++ pool G3 cI P3 S3) H := hP
  replace hD : va_D A ([(ax, .inr (8, [.ref hd, .ref hf, .ref hs, .ref hp, .ref he, .ref q0, .null, .null, .int 0, .long 0, .int 0])), (hm, .inr (3, [.int mka, .int mca])), MA9 qc cI ((nW p0) * (nB p1)) (fun _ => 0), MA9 qi cI (nW p0) (fun _ => 0), (hf, .inr (2, [.int 0, .ref qp, .ref qe, .ref ql, .int 0, .int 0])), (qp, .inl (cO, nB p1, .inr (.inr (.inr (.inr fp))))), MA9 ql cI (nB p1) (fun _ => 0), (hs, .inr (6, [.ref hd, .ref hf, .ref hm, .ref l1, .ref l2, .ref l3, .int 0, .long 0, .int 0, .long 0])), (hd, .inr (0, [.int (nI (nW p0)), .int (nI (nB p1)), .int 0, .ref qc, .ref qi, .int (-1), .int 0])), MA9 l1 cI (nB p1) (fun _ => 0), (l2, .inl (cJ, nB p1, .inr (.inl (fun _ => 0)))), (l3, .inl (cJ, nB p1, .inr (.inl (fun _ => 0)))), (hp, .inr (5, [.int 0, .long 0, .long 0, .int 0, .ref pd, .ref pt, .ref pb, .long 0])), (pd, .inl (cO, 25, .inr (.inr (.inr (.inr fd))))), MA9 pt cI 25 (fun _ => 0), (he, .inr (1, [.ref hm, .ref hf, .ref hp, .ref eb, .ref ep, .int 0, .ref nd, .ref mt, .ref ab])), MA9 eb cI 12 (fun _ => 0), MA9 ep cI 12 (fun _ => 0), (q0, .inr (7, [.int 0, .int 0, .int 0, .long 0])), (q1, .inr (7, [.int 0, .int 0, .int 0, .long 0]))] ++ pool G3 cI P3 S3) := hD
  refine W.widen (k := 301) (n := 10940) (by omega) (by omega) ?_
  refine lv_dup hx hb dX8_init_136 rfl ?_
  have hPc := hP.sub (ws' := [(q1, .inr (7, [.int 0, .int 0, .int 0, .long 0]))]) [19] rfl
  have hDc := hD.sub (ws' := [(q1, .inr (7, [.int 0, .int 0, .int 0, .long 0]))]) [19] (by decide) rfl
  have hKc := hK.sub (tys' := []) [] rfl
  have hFc := va_free (wc := [(q1, .inr (7, [.int 0, .int 0, .int 0, .long 0]))]) hD hS hA [19] rfl
  refine va_callv (va_runIN (As := []) (rest := [.ref q1, .ref ax]) ⟨hx, hb, hml, hown, hts⟩ (c_X7_init l dC dI H.size q1 0 0 0 0) ⟨va_cnB 0 hts g_X8_init_X7_init rfl rfl rfl hNw k_56 (by decide +kernel) ⟨Nat.le_of_ble_eq_true rfl, Nat.le_of_ble_eq_true rfl⟩, rfl, k_57⟩ ⟨fun a U g mk q => by obtain ⟨q0, q1, qP, qK, qD⟩ := q; exact ⟨q0, q1, qP, va_K.moved (u := U) (U := U.calling g mk a) (Vm.Alike.refl U.vm) qK, qD⟩, fun U hU hW => ⟨rfl, by rw [hU], by rw [hU]; exact hPc, va_K.moved hW.alike hKc, hDc.weaken (fun _ _ _ _ => trivial)⟩⟩ rfl rfl hl.1 rfl (lv_room (Nat.le_of_ble_eq_true rfl)) dX8_init_137 ⟨(show 301 + 0 ≤ 302 by omega), (show 10940 + 0 ≤ 10944 by omega)⟩) hS (fun q _ h => hFc q h) hFc (fun u t H1 locs ht hvm hw hB hz1 hk1 hS9 => ?_)
  replace hS := hS9
  clear hS9
  obtain ⟨hP1, hK1, hD1⟩ := hB
  rw [ht] at hP1
  replace hK1 := va_K.moved hvm.symm hK1
  try dsimp only at hw
  obtain ⟨hP9, hD9⟩ := va_joinQ (wr := [(ax, .inr (8, [.ref hd, .ref hf, .ref hs, .ref hp, .ref he, .ref q0, .null, .null, .int 0, .long 0, .int 0])), (hm, .inr (3, [.int mka, .int mca])), MA9 qc cI ((nW p0) * (nB p1)) (fun _ => 0), MA9 qi cI (nW p0) (fun _ => 0), (hf, .inr (2, [.int 0, .ref qp, .ref qe, .ref ql, .int 0, .int 0])), (qp, .inl (cO, nB p1, .inr (.inr (.inr (.inr fp))))), MA9 ql cI (nB p1) (fun _ => 0), (hs, .inr (6, [.ref hd, .ref hf, .ref hm, .ref l1, .ref l2, .ref l3, .int 0, .long 0, .int 0, .long 0])), (hd, .inr (0, [.int (nI (nW p0)), .int (nI (nB p1)), .int 0, .ref qc, .ref qi, .int (-1), .int 0])), MA9 l1 cI (nB p1) (fun _ => 0), (l2, .inl (cJ, nB p1, .inr (.inl (fun _ => 0)))), (l3, .inl (cJ, nB p1, .inr (.inl (fun _ => 0)))), (hp, .inr (5, [.int 0, .long 0, .long 0, .int 0, .ref pd, .ref pt, .ref pb, .long 0])), (pd, .inl (cO, 25, .inr (.inr (.inr (.inr fd))))), MA9 pt cI 25 (fun _ => 0), (he, .inr (1, [.ref hm, .ref hf, .ref hp, .ref eb, .ref ep, .int 0, .ref nd, .ref mt, .ref ab])), MA9 eb cI 12 (fun _ => 0), MA9 ep cI 12 (fun _ => 0), (q0, .inr (7, [.int 0, .int 0, .int 0, .long 0]))]) (w1 := [(q1, .inr (7, [.int 0, .int 0, .int 0, .long 0]))]) hP hD [19] [0, 1, 2, 3, 4, 5, 6, 7, 8, 9, 10, 11, 12, 13, 14, 15, 16, 17, 18] rfl rfl (by decide) (by decide) hk1 hFc hP1 hD1
  replace hP := hP9
  replace hD := hD9
  clear hP9 hD9
  replace hK := (hK.sub (tys' := [(cI, .int), (cO, .object RX4), (cJ, .long)]) [0, 1, 2] rfl).app hK1
  clear hP1 hD1 hK1 hPc hDc hKc hFc hk1 hz1 hvm ht
  generalize H1 = H at hP hS ⊢
  replace hP : va_P (dC, dI) vwCl ([(ax, .inr (8, [.ref hd, .ref hf, .ref hs, .ref hp, .ref he, .ref q0, .null, .null, .int 0, .long 0, .int 0])), (hm, .inr (3, [.int mka, .int mca])), MA9 qc cI ((nW p0) * (nB p1)) (fun _ => 0), MA9 qi cI (nW p0) (fun _ => 0), (hf, .inr (2, [.int 0, .ref qp, .ref qe, .ref ql, .int 0, .int 0])), (qp, .inl (cO, nB p1, .inr (.inr (.inr (.inr fp))))), MA9 ql cI (nB p1) (fun _ => 0), (hs, .inr (6, [.ref hd, .ref hf, .ref hm, .ref l1, .ref l2, .ref l3, .int 0, .long 0, .int 0, .long 0])), (hd, .inr (0, [.int (nI (nW p0)), .int (nI (nB p1)), .int 0, .ref qc, .ref qi, .int (-1), .int 0])), MA9 l1 cI (nB p1) (fun _ => 0), (l2, .inl (cJ, nB p1, .inr (.inl (fun _ => 0)))), (l3, .inl (cJ, nB p1, .inr (.inl (fun _ => 0)))), (hp, .inr (5, [.int 0, .long 0, .long 0, .int 0, .ref pd, .ref pt, .ref pb, .long 0])), (pd, .inl (cO, 25, .inr (.inr (.inr (.inr fd))))), MA9 pt cI 25 (fun _ => 0), (he, .inr (1, [.ref hm, .ref hf, .ref hp, .ref eb, .ref ep, .int 0, .ref nd, .ref mt, .ref ab])), MA9 eb cI 12 (fun _ => 0), MA9 ep cI 12 (fun _ => 0), (q0, .inr (7, [.int 0, .int 0, .int 0, .long 0])), (q1, .inr (7, [.int 0, .int 0, .int 0, .long 0]))] ++ pool G3 cI P3 S3) H := hP
  replace hD : va_D A ([(ax, .inr (8, [.ref hd, .ref hf, .ref hs, .ref hp, .ref he, .ref q0, .null, .null, .int 0, .long 0, .int 0])), (hm, .inr (3, [.int mka, .int mca])), MA9 qc cI ((nW p0) * (nB p1)) (fun _ => 0), MA9 qi cI (nW p0) (fun _ => 0), (hf, .inr (2, [.int 0, .ref qp, .ref qe, .ref ql, .int 0, .int 0])), (qp, .inl (cO, nB p1, .inr (.inr (.inr (.inr fp))))), MA9 ql cI (nB p1) (fun _ => 0), (hs, .inr (6, [.ref hd, .ref hf, .ref hm, .ref l1, .ref l2, .ref l3, .int 0, .long 0, .int 0, .long 0])), (hd, .inr (0, [.int (nI (nW p0)), .int (nI (nB p1)), .int 0, .ref qc, .ref qi, .int (-1), .int 0])), MA9 l1 cI (nB p1) (fun _ => 0), (l2, .inl (cJ, nB p1, .inr (.inl (fun _ => 0)))), (l3, .inl (cJ, nB p1, .inr (.inl (fun _ => 0)))), (hp, .inr (5, [.int 0, .long 0, .long 0, .int 0, .ref pd, .ref pt, .ref pb, .long 0])), (pd, .inl (cO, 25, .inr (.inr (.inr (.inr fd))))), MA9 pt cI 25 (fun _ => 0), (he, .inr (1, [.ref hm, .ref hf, .ref hp, .ref eb, .ref ep, .int 0, .ref nd, .ref mt, .ref ab])), MA9 eb cI 12 (fun _ => 0), MA9 ep cI 12 (fun _ => 0), (q0, .inr (7, [.int 0, .int 0, .int 0, .long 0])), (q1, .inr (7, [.int 0, .int 0, .int 0, .long 0]))] ++ pool G3 cI P3 S3) := hD
  replace hK : va_K (dC, dI) vwCl [(cI, .int), (cO, .object RX4), (cJ, .long)] s := hK
  refine va_putF (D := (dC, dI)) (ci := 8) (v := .ref q1) (ty := (.object "TwinRoots$Told")) (C := RX8) (T := TX8) (N := 11) hx hb hts k_23 tyX8 tyX8_ok nmX8 hown hK hP hD hS 0 rfl rfl 6 (by decide) k_59 (fun _ h9 => h9) rfl hin rfl (by decide +kernel) rfl rfl (Nat.le_of_ble_eq_true rfl) dX8_init_140 (fun H locs hP9 hD9 hS9 => ?_)
  replace hP := hP9
  replace hD := hD9
  replace hS := hS9
  clear hP9 hD9 hS9
  replace hP : va_P (dC, dI) vwCl ([(ax, .inr (8, [.ref hd, .ref hf, .ref hs, .ref hp, .ref he, .ref q0, .ref q1, .null, .int 0, .long 0, .int 0])), (hm, .inr (3, [.int mka, .int mca])), MA9 qc cI ((nW p0) * (nB p1)) (fun _ => 0), MA9 qi cI (nW p0) (fun _ => 0), (hf, .inr (2, [.int 0, .ref qp, .ref qe, .ref ql, .int 0, .int 0])), (qp, .inl (cO, nB p1, .inr (.inr (.inr (.inr fp))))), MA9 ql cI (nB p1) (fun _ => 0), (hs, .inr (6, [.ref hd, .ref hf, .ref hm, .ref l1, .ref l2, .ref l3, .int 0, .long 0, .int 0, .long 0])), (hd, .inr (0, [.int (nI (nW p0)), .int (nI (nB p1)), .int 0, .ref qc, .ref qi, .int (-1), .int 0])), MA9 l1 cI (nB p1) (fun _ => 0), (l2, .inl (cJ, nB p1, .inr (.inl (fun _ => 0)))), (l3, .inl (cJ, nB p1, .inr (.inl (fun _ => 0)))), (hp, .inr (5, [.int 0, .long 0, .long 0, .int 0, .ref pd, .ref pt, .ref pb, .long 0])), (pd, .inl (cO, 25, .inr (.inr (.inr (.inr fd))))), MA9 pt cI 25 (fun _ => 0), (he, .inr (1, [.ref hm, .ref hf, .ref hp, .ref eb, .ref ep, .int 0, .ref nd, .ref mt, .ref ab])), MA9 eb cI 12 (fun _ => 0), MA9 ep cI 12 (fun _ => 0), (q0, .inr (7, [.int 0, .int 0, .int 0, .long 0])), (q1, .inr (7, [.int 0, .int 0, .int 0, .long 0]))] ++ pool G3 cI P3 S3) H := hP
  replace hD : va_D A ([(ax, .inr (8, [.ref hd, .ref hf, .ref hs, .ref hp, .ref he, .ref q0, .ref q1, .null, .int 0, .long 0, .int 0])), (hm, .inr (3, [.int mka, .int mca])), MA9 qc cI ((nW p0) * (nB p1)) (fun _ => 0), MA9 qi cI (nW p0) (fun _ => 0), (hf, .inr (2, [.int 0, .ref qp, .ref qe, .ref ql, .int 0, .int 0])), (qp, .inl (cO, nB p1, .inr (.inr (.inr (.inr fp))))), MA9 ql cI (nB p1) (fun _ => 0), (hs, .inr (6, [.ref hd, .ref hf, .ref hm, .ref l1, .ref l2, .ref l3, .int 0, .long 0, .int 0, .long 0])), (hd, .inr (0, [.int (nI (nW p0)), .int (nI (nB p1)), .int 0, .ref qc, .ref qi, .int (-1), .int 0])), MA9 l1 cI (nB p1) (fun _ => 0), (l2, .inl (cJ, nB p1, .inr (.inl (fun _ => 0)))), (l3, .inl (cJ, nB p1, .inr (.inl (fun _ => 0)))), (hp, .inr (5, [.int 0, .long 0, .long 0, .int 0, .ref pd, .ref pt, .ref pb, .long 0])), (pd, .inl (cO, 25, .inr (.inr (.inr (.inr fd))))), MA9 pt cI 25 (fun _ => 0), (he, .inr (1, [.ref hm, .ref hf, .ref hp, .ref eb, .ref ep, .int 0, .ref nd, .ref mt, .ref ab])), MA9 eb cI 12 (fun _ => 0), MA9 ep cI 12 (fun _ => 0), (q0, .inr (7, [.int 0, .int 0, .int 0, .long 0])), (q1, .inr (7, [.int 0, .int 0, .int 0, .long 0]))] ++ pool G3 cI P3 S3) := hD
  refine lv_aload_n hx hb dX8_init_143 rfl (lv_at hl 3 rfl) ?_
  refine va_new (ci := 7) (fs := [.int 0, .int 0, .int 0, .long 0]) (C := RX7) (T := TX7) (N := 4) hx hb hts k_53 tyX7 tyX7_ok hown k_54 k_55 k_56 hK hP hD hS hA rfl (fun j hj => by rcases (show j = 0 ∨ j = 1 ∨ j = 2 ∨ j = 3 by omega) with rfl | rfl | rfl | rfl <;> rfl) (show 301 + 1 ≤ 302 by omega) (show 10940 + 4 ≤ 10944 by omega) dX8_init_144 (fun qk H hP hD hS => ?_)
  replace hP := hP.swap
  replace hD := hD.swap
  replace hP : va_P (dC, dI) vwCl ([(ax, .inr (8, [.ref hd, .ref hf, .ref hs, .ref hp, .ref he, .ref q0, .ref q1, .null, .int 0, .long 0, .int 0])), (hm, .inr (3, [.int mka, .int mca])), MA9 qc cI ((nW p0) * (nB p1)) (fun _ => 0), MA9 qi cI (nW p0) (fun _ => 0), (hf, .inr (2, [.int 0, .ref qp, .ref qe, .ref ql, .int 0, .int 0])), (qp, .inl (cO, nB p1, .inr (.inr (.inr (.inr fp))))), MA9 ql cI (nB p1) (fun _ => 0), (hs, .inr (6, [.ref hd, .ref hf, .ref hm, .ref l1, .ref l2, .ref l3, .int 0, .long 0, .int 0, .long 0])), (hd, .inr (0, [.int (nI (nW p0)), .int (nI (nB p1)), .int 0, .ref qc, .ref qi, .int (-1), .int 0])), MA9 l1 cI (nB p1) (fun _ => 0), (l2, .inl (cJ, nB p1, .inr (.inl (fun _ => 0)))), (l3, .inl (cJ, nB p1, .inr (.inl (fun _ => 0)))), (hp, .inr (5, [.int 0, .long 0, .long 0, .int 0, .ref pd, .ref pt, .ref pb, .long 0])), (pd, .inl (cO, 25, .inr (.inr (.inr (.inr fd))))), MA9 pt cI 25 (fun _ => 0), (he, .inr (1, [.ref hm, .ref hf, .ref hp, .ref eb, .ref ep, .int 0, .ref nd, .ref mt, .ref ab])), MA9 eb cI 12 (fun _ => 0), MA9 ep cI 12 (fun _ => 0), (q0, .inr (7, [.int 0, .int 0, .int 0, .long 0])), (q1, .inr (7, [.int 0, .int 0, .int 0, .long 0])), (qk, .inr (7, [.int 0, .int 0, .int 0, .long 0]))] ++ pool G3 cI P3 S3) H := hP
  replace hD : va_D A ([(ax, .inr (8, [.ref hd, .ref hf, .ref hs, .ref hp, .ref he, .ref q0, .ref q1, .null, .int 0, .long 0, .int 0])), (hm, .inr (3, [.int mka, .int mca])), MA9 qc cI ((nW p0) * (nB p1)) (fun _ => 0), MA9 qi cI (nW p0) (fun _ => 0), (hf, .inr (2, [.int 0, .ref qp, .ref qe, .ref ql, .int 0, .int 0])), (qp, .inl (cO, nB p1, .inr (.inr (.inr (.inr fp))))), MA9 ql cI (nB p1) (fun _ => 0), (hs, .inr (6, [.ref hd, .ref hf, .ref hm, .ref l1, .ref l2, .ref l3, .int 0, .long 0, .int 0, .long 0])), (hd, .inr (0, [.int (nI (nW p0)), .int (nI (nB p1)), .int 0, .ref qc, .ref qi, .int (-1), .int 0])), MA9 l1 cI (nB p1) (fun _ => 0), (l2, .inl (cJ, nB p1, .inr (.inl (fun _ => 0)))), (l3, .inl (cJ, nB p1, .inr (.inl (fun _ => 0)))), (hp, .inr (5, [.int 0, .long 0, .long 0, .int 0, .ref pd, .ref pt, .ref pb, .long 0])), (pd, .inl (cO, 25, .inr (.inr (.inr (.inr fd))))), MA9 pt cI 25 (fun _ => 0), (he, .inr (1, [.ref hm, .ref hf, .ref hp, .ref eb, .ref ep, .int 0, .ref nd, .ref mt, .ref ab])), MA9 eb cI 12 (fun _ => 0), MA9 ep cI 12 (fun _ => 0), (q0, .inr (7, [.int 0, .int 0, .int 0, .long 0])), (q1, .inr (7, [.int 0, .int 0, .int 0, .long 0])), (qk, .inr (7, [.int 0, .int 0, .int 0, .long 0]))] ++ pool G3 cI P3 S3) := hD
  refine W.widen (k := 302) (n := 10944) (by omega) (by omega) ?_
  refine lv_dup hx hb dX8_init_147 rfl ?_
  have hPc := hP.sub (ws' := [(qk, .inr (7, [.int 0, .int 0, .int 0, .long 0]))]) [20] rfl
  have hDc := hD.sub (ws' := [(qk, .inr (7, [.int 0, .int 0, .int 0, .long 0]))]) [20] (by decide) rfl
  have hKc := hK.sub (tys' := []) [] rfl
  have hFc := va_free (wc := [(qk, .inr (7, [.int 0, .int 0, .int 0, .long 0]))]) hD hS hA [20] rfl
  refine va_callv (va_runIN (As := []) (rest := [.ref qk, .ref ax]) ⟨hx, hb, hml, hown, hts⟩ (c_X7_init l dC dI H.size qk 0 0 0 0) ⟨va_cnB 0 hts g_X8_init_X7_init rfl rfl rfl hNw k_56 (by decide +kernel) ⟨Nat.le_of_ble_eq_true rfl, Nat.le_of_ble_eq_true rfl⟩, rfl, k_57⟩ ⟨fun a U g mk q => by obtain ⟨q0, q1, qP, qK, qD⟩ := q; exact ⟨q0, q1, qP, va_K.moved (u := U) (U := U.calling g mk a) (Vm.Alike.refl U.vm) qK, qD⟩, fun U hU hW => ⟨rfl, by rw [hU], by rw [hU]; exact hPc, va_K.moved hW.alike hKc, hDc.weaken (fun _ _ _ _ => trivial)⟩⟩ rfl rfl hl.1 rfl (lv_room (Nat.le_of_ble_eq_true rfl)) dX8_init_148 ⟨(show 302 + 0 ≤ 302 by omega), (show 10944 + 0 ≤ 10944 by omega)⟩) hS (fun q _ h => hFc q h) hFc (fun u t H1 locs ht hvm hw hB hz1 hk1 hS9 => ?_)
  replace hS := hS9
  clear hS9
  obtain ⟨hP1, hK1, hD1⟩ := hB
  rw [ht] at hP1
  replace hK1 := va_K.moved hvm.symm hK1
  try dsimp only at hw
  obtain ⟨hP9, hD9⟩ := va_joinQ (wr := [(ax, .inr (8, [.ref hd, .ref hf, .ref hs, .ref hp, .ref he, .ref q0, .ref q1, .null, .int 0, .long 0, .int 0])), (hm, .inr (3, [.int mka, .int mca])), MA9 qc cI ((nW p0) * (nB p1)) (fun _ => 0), MA9 qi cI (nW p0) (fun _ => 0), (hf, .inr (2, [.int 0, .ref qp, .ref qe, .ref ql, .int 0, .int 0])), (qp, .inl (cO, nB p1, .inr (.inr (.inr (.inr fp))))), MA9 ql cI (nB p1) (fun _ => 0), (hs, .inr (6, [.ref hd, .ref hf, .ref hm, .ref l1, .ref l2, .ref l3, .int 0, .long 0, .int 0, .long 0])), (hd, .inr (0, [.int (nI (nW p0)), .int (nI (nB p1)), .int 0, .ref qc, .ref qi, .int (-1), .int 0])), MA9 l1 cI (nB p1) (fun _ => 0), (l2, .inl (cJ, nB p1, .inr (.inl (fun _ => 0)))), (l3, .inl (cJ, nB p1, .inr (.inl (fun _ => 0)))), (hp, .inr (5, [.int 0, .long 0, .long 0, .int 0, .ref pd, .ref pt, .ref pb, .long 0])), (pd, .inl (cO, 25, .inr (.inr (.inr (.inr fd))))), MA9 pt cI 25 (fun _ => 0), (he, .inr (1, [.ref hm, .ref hf, .ref hp, .ref eb, .ref ep, .int 0, .ref nd, .ref mt, .ref ab])), MA9 eb cI 12 (fun _ => 0), MA9 ep cI 12 (fun _ => 0), (q0, .inr (7, [.int 0, .int 0, .int 0, .long 0])), (q1, .inr (7, [.int 0, .int 0, .int 0, .long 0]))]) (w1 := [(qk, .inr (7, [.int 0, .int 0, .int 0, .long 0]))]) hP hD [20] [0, 1, 2, 3, 4, 5, 6, 7, 8, 9, 10, 11, 12, 13, 14, 15, 16, 17, 18, 19] rfl rfl (by decide) (by decide) hk1 hFc hP1 hD1
  replace hP := hP9
  replace hD := hD9
  clear hP9 hD9
  replace hK := (hK.sub (tys' := [(cI, .int), (cO, .object RX4), (cJ, .long)]) [0, 1, 2] rfl).app hK1
  clear hP1 hD1 hK1 hPc hDc hKc hFc hk1 hz1 hvm ht
  generalize H1 = H at hP hS ⊢
  replace hP : va_P (dC, dI) vwCl ([(ax, .inr (8, [.ref hd, .ref hf, .ref hs, .ref hp, .ref he, .ref q0, .ref q1, .null, .int 0, .long 0, .int 0])), (hm, .inr (3, [.int mka, .int mca])), MA9 qc cI ((nW p0) * (nB p1)) (fun _ => 0), MA9 qi cI (nW p0) (fun _ => 0), (hf, .inr (2, [.int 0, .ref qp, .ref qe, .ref ql, .int 0, .int 0])), (qp, .inl (cO, nB p1, .inr (.inr (.inr (.inr fp))))), MA9 ql cI (nB p1) (fun _ => 0), (hs, .inr (6, [.ref hd, .ref hf, .ref hm, .ref l1, .ref l2, .ref l3, .int 0, .long 0, .int 0, .long 0])), (hd, .inr (0, [.int (nI (nW p0)), .int (nI (nB p1)), .int 0, .ref qc, .ref qi, .int (-1), .int 0])), MA9 l1 cI (nB p1) (fun _ => 0), (l2, .inl (cJ, nB p1, .inr (.inl (fun _ => 0)))), (l3, .inl (cJ, nB p1, .inr (.inl (fun _ => 0)))), (hp, .inr (5, [.int 0, .long 0, .long 0, .int 0, .ref pd, .ref pt, .ref pb, .long 0])), (pd, .inl (cO, 25, .inr (.inr (.inr (.inr fd))))), MA9 pt cI 25 (fun _ => 0), (he, .inr (1, [.ref hm, .ref hf, .ref hp, .ref eb, .ref ep, .int 0, .ref nd, .ref mt, .ref ab])), MA9 eb cI 12 (fun _ => 0), MA9 ep cI 12 (fun _ => 0), (q0, .inr (7, [.int 0, .int 0, .int 0, .long 0])), (q1, .inr (7, [.int 0, .int 0, .int 0, .long 0])), (qk, .inr (7, [.int 0, .int 0, .int 0, .long 0]))] ++ pool G3 cI P3 S3) H := hP
  replace hD : va_D A ([(ax, .inr (8, [.ref hd, .ref hf, .ref hs, .ref hp, .ref he, .ref q0, .ref q1, .null, .int 0, .long 0, .int 0])), (hm, .inr (3, [.int mka, .int mca])), MA9 qc cI ((nW p0) * (nB p1)) (fun _ => 0), MA9 qi cI (nW p0) (fun _ => 0), (hf, .inr (2, [.int 0, .ref qp, .ref qe, .ref ql, .int 0, .int 0])), (qp, .inl (cO, nB p1, .inr (.inr (.inr (.inr fp))))), MA9 ql cI (nB p1) (fun _ => 0), (hs, .inr (6, [.ref hd, .ref hf, .ref hm, .ref l1, .ref l2, .ref l3, .int 0, .long 0, .int 0, .long 0])), (hd, .inr (0, [.int (nI (nW p0)), .int (nI (nB p1)), .int 0, .ref qc, .ref qi, .int (-1), .int 0])), MA9 l1 cI (nB p1) (fun _ => 0), (l2, .inl (cJ, nB p1, .inr (.inl (fun _ => 0)))), (l3, .inl (cJ, nB p1, .inr (.inl (fun _ => 0)))), (hp, .inr (5, [.int 0, .long 0, .long 0, .int 0, .ref pd, .ref pt, .ref pb, .long 0])), (pd, .inl (cO, 25, .inr (.inr (.inr (.inr fd))))), MA9 pt cI 25 (fun _ => 0), (he, .inr (1, [.ref hm, .ref hf, .ref hp, .ref eb, .ref ep, .int 0, .ref nd, .ref mt, .ref ab])), MA9 eb cI 12 (fun _ => 0), MA9 ep cI 12 (fun _ => 0), (q0, .inr (7, [.int 0, .int 0, .int 0, .long 0])), (q1, .inr (7, [.int 0, .int 0, .int 0, .long 0])), (qk, .inr (7, [.int 0, .int 0, .int 0, .long 0]))] ++ pool G3 cI P3 S3) := hD
  replace hK : va_K (dC, dI) vwCl [(cI, .int), (cO, .object RX4), (cJ, .long)] s := hK
  refine va_putF (D := (dC, dI)) (ci := 8) (v := .ref qk) (ty := (.object "TwinRoots$Told")) (C := RX8) (T := TX8) (N := 11) hx hb hts k_23 tyX8 tyX8_ok nmX8 hown hK hP hD hS 0 rfl rfl 7 (by decide) k_60 (fun _ h9 => h9) rfl hin rfl (by decide +kernel) rfl rfl (Nat.le_of_ble_eq_true rfl) dX8_init_151 (fun H locs hP9 hD9 hS9 => ?_)
  replace hP := hP9
  replace hD := hD9
  replace hS := hS9
  clear hP9 hD9 hS9
  replace hP : va_P (dC, dI) vwCl ([(ax, .inr (8, [.ref hd, .ref hf, .ref hs, .ref hp, .ref he, .ref q0, .ref q1, .ref qk, .int 0, .long 0, .int 0])), (hm, .inr (3, [.int mka, .int mca])), MA9 qc cI ((nW p0) * (nB p1)) (fun _ => 0), MA9 qi cI (nW p0) (fun _ => 0), (hf, .inr (2, [.int 0, .ref qp, .ref qe, .ref ql, .int 0, .int 0])), (qp, .inl (cO, nB p1, .inr (.inr (.inr (.inr fp))))), MA9 ql cI (nB p1) (fun _ => 0), (hs, .inr (6, [.ref hd, .ref hf, .ref hm, .ref l1, .ref l2, .ref l3, .int 0, .long 0, .int 0, .long 0])), (hd, .inr (0, [.int (nI (nW p0)), .int (nI (nB p1)), .int 0, .ref qc, .ref qi, .int (-1), .int 0])), MA9 l1 cI (nB p1) (fun _ => 0), (l2, .inl (cJ, nB p1, .inr (.inl (fun _ => 0)))), (l3, .inl (cJ, nB p1, .inr (.inl (fun _ => 0)))), (hp, .inr (5, [.int 0, .long 0, .long 0, .int 0, .ref pd, .ref pt, .ref pb, .long 0])), (pd, .inl (cO, 25, .inr (.inr (.inr (.inr fd))))), MA9 pt cI 25 (fun _ => 0), (he, .inr (1, [.ref hm, .ref hf, .ref hp, .ref eb, .ref ep, .int 0, .ref nd, .ref mt, .ref ab])), MA9 eb cI 12 (fun _ => 0), MA9 ep cI 12 (fun _ => 0), (q0, .inr (7, [.int 0, .int 0, .int 0, .long 0])), (q1, .inr (7, [.int 0, .int 0, .int 0, .long 0])), (qk, .inr (7, [.int 0, .int 0, .int 0, .long 0]))] ++ pool G3 cI P3 S3) H := hP
  replace hD : va_D A ([(ax, .inr (8, [.ref hd, .ref hf, .ref hs, .ref hp, .ref he, .ref q0, .ref q1, .ref qk, .int 0, .long 0, .int 0])), (hm, .inr (3, [.int mka, .int mca])), MA9 qc cI ((nW p0) * (nB p1)) (fun _ => 0), MA9 qi cI (nW p0) (fun _ => 0), (hf, .inr (2, [.int 0, .ref qp, .ref qe, .ref ql, .int 0, .int 0])), (qp, .inl (cO, nB p1, .inr (.inr (.inr (.inr fp))))), MA9 ql cI (nB p1) (fun _ => 0), (hs, .inr (6, [.ref hd, .ref hf, .ref hm, .ref l1, .ref l2, .ref l3, .int 0, .long 0, .int 0, .long 0])), (hd, .inr (0, [.int (nI (nW p0)), .int (nI (nB p1)), .int 0, .ref qc, .ref qi, .int (-1), .int 0])), MA9 l1 cI (nB p1) (fun _ => 0), (l2, .inl (cJ, nB p1, .inr (.inl (fun _ => 0)))), (l3, .inl (cJ, nB p1, .inr (.inl (fun _ => 0)))), (hp, .inr (5, [.int 0, .long 0, .long 0, .int 0, .ref pd, .ref pt, .ref pb, .long 0])), (pd, .inl (cO, 25, .inr (.inr (.inr (.inr fd))))), MA9 pt cI 25 (fun _ => 0), (he, .inr (1, [.ref hm, .ref hf, .ref hp, .ref eb, .ref ep, .int 0, .ref nd, .ref mt, .ref ab])), MA9 eb cI 12 (fun _ => 0), MA9 ep cI 12 (fun _ => 0), (q0, .inr (7, [.int 0, .int 0, .int 0, .long 0])), (q1, .inr (7, [.int 0, .int 0, .int 0, .long 0])), (qk, .inr (7, [.int 0, .int 0, .int 0, .long 0]))] ++ pool G3 cI P3 S3) := hD
  refine lv_aload_n hx hb dX8_init_154 rfl (lv_at hl 3 rfl) ?_
  refine lv_iconst (v := 1) hx hb dX8_init_155 (by decide) ?_
  refine va_put (D := (dC, dI)) (ci := 8) (v := .int 1) (ty := .boolean) (C := RX8) (T := TX8) (N := 11) hx hb hts k_23 tyX8 tyX8_ok nmX8 hown hK hP hD hS 0 rfl rfl 10 (by decide) k_61 (fun _ h9 => h9) rfl (by decide +kernel) rfl rfl (Nat.le_of_ble_eq_true rfl) dX8_init_156 (fun H locs hP9 hD9 hS9 => ?_)
  replace hP := hP9
  replace hD := hD9
  replace hS := hS9
  clear hP9 hD9 hS9
  replace hP : va_P (dC, dI) vwCl ([(ax, .inr (8, [.ref hd, .ref hf, .ref hs, .ref hp, .ref he, .ref q0, .ref q1, .ref qk, .int 0, .long 0, .int 1])), (hm, .inr (3, [.int mka, .int mca])), MA9 qc cI ((nW p0) * (nB p1)) (fun _ => 0), MA9 qi cI (nW p0) (fun _ => 0), (hf, .inr (2, [.int 0, .ref qp, .ref qe, .ref ql, .int 0, .int 0])), (qp, .inl (cO, nB p1, .inr (.inr (.inr (.inr fp))))), MA9 ql cI (nB p1) (fun _ => 0), (hs, .inr (6, [.ref hd, .ref hf, .ref hm, .ref l1, .ref l2, .ref l3, .int 0, .long 0, .int 0, .long 0])), (hd, .inr (0, [.int (nI (nW p0)), .int (nI (nB p1)), .int 0, .ref qc, .ref qi, .int (-1), .int 0])), MA9 l1 cI (nB p1) (fun _ => 0), (l2, .inl (cJ, nB p1, .inr (.inl (fun _ => 0)))), (l3, .inl (cJ, nB p1, .inr (.inl (fun _ => 0)))), (hp, .inr (5, [.int 0, .long 0, .long 0, .int 0, .ref pd, .ref pt, .ref pb, .long 0])), (pd, .inl (cO, 25, .inr (.inr (.inr (.inr fd))))), MA9 pt cI 25 (fun _ => 0), (he, .inr (1, [.ref hm, .ref hf, .ref hp, .ref eb, .ref ep, .int 0, .ref nd, .ref mt, .ref ab])), MA9 eb cI 12 (fun _ => 0), MA9 ep cI 12 (fun _ => 0), (q0, .inr (7, [.int 0, .int 0, .int 0, .long 0])), (q1, .inr (7, [.int 0, .int 0, .int 0, .long 0])), (qk, .inr (7, [.int 0, .int 0, .int 0, .long 0]))] ++ pool G3 cI P3 S3) H := hP
  replace hD : va_D A ([(ax, .inr (8, [.ref hd, .ref hf, .ref hs, .ref hp, .ref he, .ref q0, .ref q1, .ref qk, .int 0, .long 0, .int 1])), (hm, .inr (3, [.int mka, .int mca])), MA9 qc cI ((nW p0) * (nB p1)) (fun _ => 0), MA9 qi cI (nW p0) (fun _ => 0), (hf, .inr (2, [.int 0, .ref qp, .ref qe, .ref ql, .int 0, .int 0])), (qp, .inl (cO, nB p1, .inr (.inr (.inr (.inr fp))))), MA9 ql cI (nB p1) (fun _ => 0), (hs, .inr (6, [.ref hd, .ref hf, .ref hm, .ref l1, .ref l2, .ref l3, .int 0, .long 0, .int 0, .long 0])), (hd, .inr (0, [.int (nI (nW p0)), .int (nI (nB p1)), .int 0, .ref qc, .ref qi, .int (-1), .int 0])), MA9 l1 cI (nB p1) (fun _ => 0), (l2, .inl (cJ, nB p1, .inr (.inl (fun _ => 0)))), (l3, .inl (cJ, nB p1, .inr (.inl (fun _ => 0)))), (hp, .inr (5, [.int 0, .long 0, .long 0, .int 0, .ref pd, .ref pt, .ref pb, .long 0])), (pd, .inl (cO, 25, .inr (.inr (.inr (.inr fd))))), MA9 pt cI 25 (fun _ => 0), (he, .inr (1, [.ref hm, .ref hf, .ref hp, .ref eb, .ref ep, .int 0, .ref nd, .ref mt, .ref ab])), MA9 eb cI 12 (fun _ => 0), MA9 ep cI 12 (fun _ => 0), (q0, .inr (7, [.int 0, .int 0, .int 0, .long 0])), (q1, .inr (7, [.int 0, .int 0, .int 0, .long 0])), (qk, .inr (7, [.int 0, .int 0, .int 0, .long 0]))] ++ pool G3 cI P3 S3) := hD
  have hP9 := hP.part (cx := [(ax, .inr (8, [.ref hd, .ref hf, .ref hs, .ref hp, .ref he, .ref q0, .ref q1, .ref qk, .int 0, .long 0, .int 1])), (hd, .inr (0, [.int (nI (nW p0)), .int (nI (nB p1)), .int 0, .ref qc, .ref qi, .int (-1), .int 0])), MA9 qc cI ((nW p0) * (nB p1)) (fun _ => 0), MA9 qi cI (nW p0) (fun _ => 0), (hm, .inr (3, [.int mka, .int mca])), (hf, .inr (2, [.int 0, .ref qp, .ref qe, .ref ql, .int 0, .int 0])), (qp, .inl (cO, nB p1, .inr (.inr (.inr (.inr fp))))), MA9 ql cI (nB p1) (fun _ => 0), (hs, .inr (6, [.ref hd, .ref hf, .ref hm, .ref l1, .ref l2, .ref l3, .int 0, .long 0, .int 0, .long 0])), MA9 l1 cI (nB p1) (fun _ => 0), (l2, .inl (cJ, nB p1, .inr (.inl (fun _ => 0)))), (l3, .inl (cJ, nB p1, .inr (.inl (fun _ => 0)))), (hp, .inr (5, [.int 0, .long 0, .long 0, .int 0, .ref pd, .ref pt, .ref pb, .long 0])), (pd, .inl (cO, 25, .inr (.inr (.inr (.inr fd))))), MA9 pt cI 25 (fun _ => 0), (he, .inr (1, [.ref hm, .ref hf, .ref hp, .ref eb, .ref ep, .int 0, .ref nd, .ref mt, .ref ab])), MA9 eb cI 12 (fun _ => 0), MA9 ep cI 12 (fun _ => 0), (q0, .inr (7, [.int 0, .int 0, .int 0, .long 0])), (q1, .inr (7, [.int 0, .int 0, .int 0, .long 0])), (qk, .inr (7, [.int 0, .int 0, .int 0, .long 0]))]) [0, 8, 2, 3, 1, 4, 5, 6, 7, 9, 10, 11, 12, 13, 14, 15, 16, 17, 18, 19, 20] rfl
  have hD9 := hD.part (cx := [(ax, .inr (8, [.ref hd, .ref hf, .ref hs, .ref hp, .ref he, .ref q0, .ref q1, .ref qk, .int 0, .long 0, .int 1])), (hd, .inr (0, [.int (nI (nW p0)), .int (nI (nB p1)), .int 0, .ref qc, .ref qi, .int (-1), .int 0])), MA9 qc cI ((nW p0) * (nB p1)) (fun _ => 0), MA9 qi cI (nW p0) (fun _ => 0), (hm, .inr (3, [.int mka, .int mca])), (hf, .inr (2, [.int 0, .ref qp, .ref qe, .ref ql, .int 0, .int 0])), (qp, .inl (cO, nB p1, .inr (.inr (.inr (.inr fp))))), MA9 ql cI (nB p1) (fun _ => 0), (hs, .inr (6, [.ref hd, .ref hf, .ref hm, .ref l1, .ref l2, .ref l3, .int 0, .long 0, .int 0, .long 0])), MA9 l1 cI (nB p1) (fun _ => 0), (l2, .inl (cJ, nB p1, .inr (.inl (fun _ => 0)))), (l3, .inl (cJ, nB p1, .inr (.inl (fun _ => 0)))), (hp, .inr (5, [.int 0, .long 0, .long 0, .int 0, .ref pd, .ref pt, .ref pb, .long 0])), (pd, .inl (cO, 25, .inr (.inr (.inr (.inr fd))))), MA9 pt cI 25 (fun _ => 0), (he, .inr (1, [.ref hm, .ref hf, .ref hp, .ref eb, .ref ep, .int 0, .ref nd, .ref mt, .ref ab])), MA9 eb cI 12 (fun _ => 0), MA9 ep cI 12 (fun _ => 0), (q0, .inr (7, [.int 0, .int 0, .int 0, .long 0])), (q1, .inr (7, [.int 0, .int 0, .int 0, .long 0])), (qk, .inr (7, [.int 0, .int 0, .int 0, .long 0]))]) [0, 8, 2, 3, 1, 4, 5, 6, 7, 9, 10, 11, 12, 13, 14, 15, 16, 17, 18, 19, 20] (by decide) rfl
  have hK9 := hK.sub (tys' := [(cI, .int), (cO, .object RX4), (cJ, .long)]) [0, 1, 2] rfl
  exact W.vret hx hb hr (fun t ht hW => ⟨⟨(hd, hf, hs, hp, he, hm, q0, q1, qk, qc, qi, qp, qe, ql, l1, l2, l3, pd, pt, pb, eb, ep, nd, mt, ab, mka, mca, cI, cO, cJ, fp, fd, G3, P3, S3), rfl, ⟨hI, hpg, hm_qe, ht_qe, hdr, hm_pb, ht_pb, hm_nd, ht_nd, hm_mt, ht_mt, hm_ab, ht_ab⟩, by rw [ht]; exact hP9, va_K.moved hW.alike hK9, hD9⟩, hS.F ht⟩) hS.2.2 dX8_init_159

theorem dX9_reads_0 : decode cX9_reads 0 = .ok (.aload_n 0, 1) := by decide +kernel
theorem dX9_reads_1 : decode cX9_reads 1 = .ok (.aload_n 0, 1) := by decide +kernel
theorem dX9_reads_2 : decode cX9_reads 2 = .ok (.getfield 118, 3) := by decide +kernel
theorem dX9_reads_5 : decode cX9_reads 5 = .ok (.aload_n 0, 1) := by decide +kernel
theorem dX9_reads_6 : decode cX9_reads 6 = .ok (.getfield 100, 3) := by decide +kernel
theorem dX9_reads_9 : decode cX9_reads 9 = .ok (.iload_n 1, 1) := by decide +kernel
theorem dX9_reads_10 : decode cX9_reads 10 = .ok (.imul, 1) := by decide +kernel
theorem dX9_reads_11 : decode cX9_reads 11 = .ok (.iaload, 1) := by decide +kernel
theorem dX9_reads_12 : decode cX9_reads 12 = .ok (.invokevirtual 179, 3) := by decide +kernel
theorem dX9_reads_15 : decode cX9_reads 15 = .ok (.istore_n 2, 1) := by decide +kernel
theorem dX9_reads_16 : decode cX9_reads 16 = .ok (.aload_n 0, 1) := by decide +kernel
theorem dX9_reads_17 : decode cX9_reads 17 = .ok (.getfield 20, 3) := by decide +kernel
theorem dX9_reads_20 : decode cX9_reads 20 = .ok (.iload_n 2, 1) := by decide +kernel
theorem dX9_reads_21 : decode cX9_reads 21 = .ok (.iload_n 1, 1) := by decide +kernel
theorem dX9_reads_22 : decode cX9_reads 22 = .ok (.iastore, 1) := by decide +kernel
theorem dX9_reads_23 : decode cX9_reads 23 = .ok (.aload_n 0, 1) := by decide +kernel
theorem dX9_reads_24 : decode cX9_reads 24 = .ok (.getfield 17, 3) := by decide +kernel
theorem dX9_reads_27 : decode cX9_reads 27 = .ok (.iload_n 2, 1) := by decide +kernel
theorem dX9_reads_28 : decode cX9_reads 28 = .ok (.aload_n 0, 1) := by decide +kernel
theorem dX9_reads_29 : decode cX9_reads 29 = .ok (.getfield 118, 3) := by decide +kernel
theorem dX9_reads_32 : decode cX9_reads 32 = .ok (.aload_n 0, 1) := by decide +kernel
theorem dX9_reads_33 : decode cX9_reads 33 = .ok (.getfield 100, 3) := by decide +kernel
theorem dX9_reads_36 : decode cX9_reads 36 = .ok (.iload_n 1, 1) := by decide +kernel
theorem dX9_reads_37 : decode cX9_reads 37 = .ok (.imul, 1) := by decide +kernel
theorem dX9_reads_38 : decode cX9_reads 38 = .ok (.iconst 1, 1) := by decide +kernel
theorem dX9_reads_39 : decode cX9_reads 39 = .ok (.iadd, 1) := by decide +kernel
theorem dX9_reads_40 : decode cX9_reads 40 = .ok (.iaload, 1) := by decide +kernel
theorem dX9_reads_41 : decode cX9_reads 41 = .ok (.iastore, 1) := by decide +kernel
theorem dX9_reads_42 : decode cX9_reads 42 = .ok (.iconst 0, 1) := by decide +kernel
theorem dX9_reads_43 : decode cX9_reads 43 = .ok (.istore_n 3, 1) := by decide +kernel
theorem dX9_reads_44 : decode cX9_reads 44 = .ok (.iload_n 3, 1) := by decide +kernel
theorem dX9_reads_45 : decode cX9_reads 45 = .ok (.aload_n 0, 1) := by decide +kernel
theorem dX9_reads_46 : decode cX9_reads 46 = .ok (.getfield 17, 3) := by decide +kernel
theorem dX9_reads_49 : decode cX9_reads 49 = .ok (.iload_n 2, 1) := by decide +kernel
theorem dX9_reads_50 : decode cX9_reads 50 = .ok (.iaload, 1) := by decide +kernel
theorem dX9_reads_51 : decode cX9_reads 51 = .ok (.if_icmp .ge 142, 3) := by decide +kernel
theorem dX9_reads_54 : decode cX9_reads 54 = .ok (.aload_n 0, 1) := by decide +kernel
theorem dX9_reads_55 : decode cX9_reads 55 = .ok (.getfield 13, 3) := by decide +kernel
theorem dX9_reads_58 : decode cX9_reads 58 = .ok (.iload_n 2, 1) := by decide +kernel
theorem dX9_reads_59 : decode cX9_reads 59 = .ok (.iaload, 1) := by decide +kernel
theorem dX9_reads_60 : decode cX9_reads 60 = .ok (.iconst 1, 1) := by decide +kernel
theorem dX9_reads_61 : decode cX9_reads 61 = .ok (.if_icmp .ne 62, 3) := by decide +kernel
theorem dX9_reads_64 : decode cX9_reads 64 = .ok (.aload_n 0, 1) := by decide +kernel
theorem dX9_reads_65 : decode cX9_reads 65 = .ok (.getfield 23, 3) := by decide +kernel
theorem dX9_reads_68 : decode cX9_reads 68 = .ok (.bipush 24, 2) := by decide +kernel
theorem dX9_reads_70 : decode cX9_reads 70 = .ok (.iload_n 2, 1) := by decide +kernel
theorem dX9_reads_71 : decode cX9_reads 71 = .ok (.imul, 1) := by decide +kernel
theorem dX9_reads_72 : decode cX9_reads 72 = .ok (.iload_n 3, 1) := by decide +kernel
theorem dX9_reads_73 : decode cX9_reads 73 = .ok (.iadd, 1) := by decide +kernel
theorem dX9_reads_74 : decode cX9_reads 74 = .ok (.aload_n 0, 1) := by decide +kernel
theorem dX9_reads_75 : decode cX9_reads 75 = .ok (.getfield 118, 3) := by decide +kernel
theorem dX9_reads_78 : decode cX9_reads 78 = .ok (.aload_n 0, 1) := by decide +kernel
theorem dX9_reads_79 : decode cX9_reads 79 = .ok (.getfield 100, 3) := by decide +kernel
theorem dX9_reads_82 : decode cX9_reads 82 = .ok (.iload_n 1, 1) := by decide +kernel
theorem dX9_reads_83 : decode cX9_reads 83 = .ok (.imul, 1) := by decide +kernel
theorem dX9_reads_84 : decode cX9_reads 84 = .ok (.iconst 2, 1) := by decide +kernel
theorem dX9_reads_85 : decode cX9_reads 85 = .ok (.iadd, 1) := by decide +kernel
theorem dX9_reads_86 : decode cX9_reads 86 = .ok (.iconst 2, 1) := by decide +kernel
theorem dX9_reads_87 : decode cX9_reads 87 = .ok (.iload_n 3, 1) := by decide +kernel
theorem dX9_reads_88 : decode cX9_reads 88 = .ok (.imul, 1) := by decide +kernel
theorem dX9_reads_89 : decode cX9_reads 89 = .ok (.iadd, 1) := by decide +kernel
theorem dX9_reads_90 : decode cX9_reads 90 = .ok (.iaload, 1) := by decide +kernel
theorem dX9_reads_91 : decode cX9_reads 91 = .ok (.iastore, 1) := by decide +kernel
theorem dX9_reads_92 : decode cX9_reads 92 = .ok (.aload_n 0, 1) := by decide +kernel
theorem dX9_reads_93 : decode cX9_reads 93 = .ok (.getfield 26, 3) := by decide +kernel
theorem dX9_reads_96 : decode cX9_reads 96 = .ok (.bipush 24, 2) := by decide +kernel
theorem dX9_reads_98 : decode cX9_reads 98 = .ok (.iload_n 2, 1) := by decide +kernel
theorem dX9_reads_99 : decode cX9_reads 99 = .ok (.imul, 1) := by decide +kernel
theorem dX9_reads_100 : decode cX9_reads 100 = .ok (.iload_n 3, 1) := by decide +kernel
theorem dX9_reads_101 : decode cX9_reads 101 = .ok (.iadd, 1) := by decide +kernel
theorem dX9_reads_102 : decode cX9_reads 102 = .ok (.aload_n 0, 1) := by decide +kernel
theorem dX9_reads_103 : decode cX9_reads 103 = .ok (.getfield 118, 3) := by decide +kernel
theorem dX9_reads_106 : decode cX9_reads 106 = .ok (.aload_n 0, 1) := by decide +kernel
theorem dX9_reads_107 : decode cX9_reads 107 = .ok (.getfield 100, 3) := by decide +kernel
theorem dX9_reads_110 : decode cX9_reads 110 = .ok (.iload_n 1, 1) := by decide +kernel
theorem dX9_reads_111 : decode cX9_reads 111 = .ok (.imul, 1) := by decide +kernel
theorem dX9_reads_112 : decode cX9_reads 112 = .ok (.iconst 3, 1) := by decide +kernel
theorem dX9_reads_113 : decode cX9_reads 113 = .ok (.iadd, 1) := by decide +kernel
theorem dX9_reads_114 : decode cX9_reads 114 = .ok (.iconst 2, 1) := by decide +kernel
theorem dX9_reads_115 : decode cX9_reads 115 = .ok (.iload_n 3, 1) := by decide +kernel
theorem dX9_reads_116 : decode cX9_reads 116 = .ok (.imul, 1) := by decide +kernel
theorem dX9_reads_117 : decode cX9_reads 117 = .ok (.iadd, 1) := by decide +kernel
theorem dX9_reads_118 : decode cX9_reads 118 = .ok (.iaload, 1) := by decide +kernel
theorem dX9_reads_119 : decode cX9_reads 119 = .ok (.iastore, 1) := by decide +kernel
theorem dX9_reads_120 : decode cX9_reads 120 = .ok (.goto 67, 3) := by decide +kernel
theorem dX9_reads_123 : decode cX9_reads 123 = .ok (.iload_n 3, 1) := by decide +kernel
theorem dX9_reads_124 : decode cX9_reads 124 = .ok (.ifCond .le 31, 3) := by decide +kernel
theorem dX9_reads_127 : decode cX9_reads 127 = .ok (.aload_n 0, 1) := by decide +kernel
theorem dX9_reads_128 : decode cX9_reads 128 = .ok (.getfield 23, 3) := by decide +kernel
theorem dX9_reads_131 : decode cX9_reads 131 = .ok (.bipush 24, 2) := by decide +kernel
theorem dX9_reads_133 : decode cX9_reads 133 = .ok (.iload_n 2, 1) := by decide +kernel
theorem dX9_reads_134 : decode cX9_reads 134 = .ok (.imul, 1) := by decide +kernel
theorem dX9_reads_135 : decode cX9_reads 135 = .ok (.iload_n 3, 1) := by decide +kernel
theorem dX9_reads_136 : decode cX9_reads 136 = .ok (.iadd, 1) := by decide +kernel
theorem dX9_reads_137 : decode cX9_reads 137 = .ok (.aload_n 0, 1) := by decide +kernel
theorem dX9_reads_138 : decode cX9_reads 138 = .ok (.getfield 118, 3) := by decide +kernel
theorem dX9_reads_141 : decode cX9_reads 141 = .ok (.aload_n 0, 1) := by decide +kernel
theorem dX9_reads_142 : decode cX9_reads 142 = .ok (.getfield 100, 3) := by decide +kernel
theorem dX9_reads_145 : decode cX9_reads 145 = .ok (.iload_n 1, 1) := by decide +kernel
theorem dX9_reads_146 : decode cX9_reads 146 = .ok (.imul, 1) := by decide +kernel
theorem dX9_reads_147 : decode cX9_reads 147 = .ok (.iconst 1, 1) := by decide +kernel
theorem dX9_reads_148 : decode cX9_reads 148 = .ok (.iadd, 1) := by decide +kernel
theorem dX9_reads_149 : decode cX9_reads 149 = .ok (.iconst 2, 1) := by decide +kernel
theorem dX9_reads_150 : decode cX9_reads 150 = .ok (.iload_n 3, 1) := by decide +kernel
theorem dX9_reads_151 : decode cX9_reads 151 = .ok (.imul, 1) := by decide +kernel
theorem dX9_reads_152 : decode cX9_reads 152 = .ok (.iadd, 1) := by decide +kernel
theorem dX9_reads_153 : decode cX9_reads 153 = .ok (.iaload, 1) := by decide +kernel
theorem dX9_reads_154 : decode cX9_reads 154 = .ok (.iastore, 1) := by decide +kernel
theorem dX9_reads_155 : decode cX9_reads 155 = .ok (.aload_n 0, 1) := by decide +kernel
theorem dX9_reads_156 : decode cX9_reads 156 = .ok (.getfield 26, 3) := by decide +kernel
theorem dX9_reads_159 : decode cX9_reads 159 = .ok (.bipush 24, 2) := by decide +kernel
theorem dX9_reads_161 : decode cX9_reads 161 = .ok (.iload_n 2, 1) := by decide +kernel
theorem dX9_reads_162 : decode cX9_reads 162 = .ok (.imul, 1) := by decide +kernel
theorem dX9_reads_163 : decode cX9_reads 163 = .ok (.iload_n 3, 1) := by decide +kernel
theorem dX9_reads_164 : decode cX9_reads 164 = .ok (.iadd, 1) := by decide +kernel
theorem dX9_reads_165 : decode cX9_reads 165 = .ok (.aload_n 0, 1) := by decide +kernel
theorem dX9_reads_166 : decode cX9_reads 166 = .ok (.aload_n 0, 1) := by decide +kernel
theorem dX9_reads_167 : decode cX9_reads 167 = .ok (.getfield 118, 3) := by decide +kernel
theorem dX9_reads_170 : decode cX9_reads 170 = .ok (.aload_n 0, 1) := by decide +kernel
theorem dX9_reads_171 : decode cX9_reads 171 = .ok (.getfield 100, 3) := by decide +kernel
theorem dX9_reads_174 : decode cX9_reads 174 = .ok (.iload_n 1, 1) := by decide +kernel
theorem dX9_reads_175 : decode cX9_reads 175 = .ok (.imul, 1) := by decide +kernel
theorem dX9_reads_176 : decode cX9_reads 176 = .ok (.iconst 2, 1) := by decide +kernel
theorem dX9_reads_177 : decode cX9_reads 177 = .ok (.iadd, 1) := by decide +kernel
theorem dX9_reads_178 : decode cX9_reads 178 = .ok (.iconst 2, 1) := by decide +kernel
theorem dX9_reads_179 : decode cX9_reads 179 = .ok (.iload_n 3, 1) := by decide +kernel
theorem dX9_reads_180 : decode cX9_reads 180 = .ok (.imul, 1) := by decide +kernel
theorem dX9_reads_181 : decode cX9_reads 181 = .ok (.iadd, 1) := by decide +kernel
theorem dX9_reads_182 : decode cX9_reads 182 = .ok (.iaload, 1) := by decide +kernel
theorem dX9_reads_183 : decode cX9_reads 183 = .ok (.invokevirtual 262, 3) := by decide +kernel
theorem dX9_reads_186 : decode cX9_reads 186 = .ok (.iastore, 1) := by decide +kernel
theorem dX9_reads_187 : decode cX9_reads 187 = .ok (.iinc 3 1, 3) := by decide +kernel
theorem dX9_reads_190 : decode cX9_reads 190 = .ok (.goto (-146), 3) := by decide +kernel
theorem dX9_reads_193 : decode cX9_reads 193 = .ok (.iload_n 2, 1) := by decide +kernel
theorem dX9_reads_194 : decode cX9_reads 194 = .ok (.ireturn, 1) := by decide +kernel
def v_X9_reads : List Cond := .code yX9_reads cX9_reads 4 (some .int) :: ([.fieldLink RX9 118 "TwinRootsModel" "disk" "[I", .fieldLink RX9 100 "TwinRootsModel" "words" "I", .code yX9_newNode cX9_newNode 3 (some .int), .fieldLink RX9 13 "TwinRootsModel" "kind" "[I", .fieldLink RX9 17 "TwinRootsModel" "many" "[I", .fieldLink RX9 20 "TwinRootsModel" "block" "[I", .fieldLink RX9 29 "TwinRootsModel" "isFresh" "[Z", .methodLink RX9 179 yX9_newNode, .instanceMethod yX9_newNode, .selects RX9 yX9_newNode yX9_newNode, .initialized RX9, .fieldLink RX9 23 "TwinRootsModel" "keys" "[I", .fieldLink RX9 26 "TwinRootsModel" "vals" "[I", .methodLink RX9 262 yX9_reads, .instanceMethod yX9_reads, .selects RX9 yX9_reads yX9_reads] ++ (wsX90 ++ ([])))
set_option maxRecDepth 20000 in
theorem g_X9_reads_X9_newNode : GoodIn v_X9_reads (wsV RX9 179 RX9 yX9_newNode v_X9_newNode) := goodIn_r _ [8, 9, 10, 11, 3, 4, 5, 6, 7, 17, 18, 19, 20, 21, 22, 23, 24, 25, 26, 27, 28, 29, 30, 31, 32, 33, 34, 35, 36, 37, 38, 39, 40, 41, 42, 43, 44, 45, 46, 47, 48, 49, 50, 51, 52, 53, 54, 55, 56, 57, 58, 59, 60, 61, 62, 63, 64, 65, 66] (by decide +kernel) (by decide +kernel)
set_option maxRecDepth 20000 in
theorem g_X9_reads_X9_reads : GoodIn v_X9_reads (wsV RX9 262 RX9 yX9_reads v_X9_reads) := goodIn_r _ [14, 15, 16, 11, 0, 1, 2, 3, 4, 5, 6, 7, 8, 9, 10, 11, 12, 13, 14, 15, 16, 17, 18, 19, 20, 21, 22, 23, 24, 25, 26, 27, 28, 29, 30, 31, 32, 33, 34, 35, 36, 37, 38, 39, 40, 41, 42, 43, 44, 45, 46, 47, 48, 49, 50, 51, 52, 53, 54, 55, 56, 57, 58, 59, 60, 61, 62, 63, 64, 65, 66] (by decide +kernel) (by decide +kernel)
set_option maxHeartbeats 4000000 in
set_option maxRecDepth 100000 in
/-- X9_reads -/
theorem c_X9_reads (l : Launch) (dC : Nat → ClassId) (dI : Nat → Nat → Nat) : ∀ (fu : Nat) (sz : Nat) (h0 : Nat) (w : Nat) (b : Nat) (lm : Nat) (cm : Nat) (li : Nat) (ci : Nat) (a_disk : Nat) (a_kind : Nat) (a_many : Nat) (a_block : Nat) (a_keys : Nat) (a_vals : Nat) (a_isFresh : Nat) (a_kindWas : Nat) (a_manyWas : Nat) (a_blockWas : Nat) (a_keysWas : Nat) (a_valsWas : Nat) (a_freshWas : Nat) (a_reached : Nat) (a_oldKeys : Nat) (a_oldVals : Nat) (a_allKeys : Nat) (a_allVals : Nat) (a_row : Nat) (a_written : Nat) (a_path : Nat) (a_place : Nat) (a_freeRow : Nat) (a_bothKeys : Nat) (a_bothVals : Nat) (v_isDown : Int32) (v_isArmed : Int32) (v_armedWrites : Int32) (v_armedWords : Int32) (v_writes : Int32) (v_root : Int32) (v_rootWas : Int32) (v_latest : Int32) (v_epoch : Int32) (v_oldMany : Int32) (v_allMany : Int32) (v_writtenMany : Int32) (v_depth : Int32) (v_isOther : Int32) (v_moved : Int32) (v_leafDepth : Int32) (v_found : Int32) (v_lastKey : Int32) (v_hasLast : Int32) (cI : ClassId) (cZ : ClassId) (d : Nat → Int32) (k : Nat → Int32) (mm : Nat → Int32) (ks : Nat → Int32) (vl : Nat → Int32) (bl : Nat → Int32) (fr : Nat → Int32) (q0 : Nat) (h7 : Nat) (U : Nat → Prop) (kn : Nat → Nat) (nn : Nat → Nat) (L : Nat → Nat) (pa : Nat → Nat) (ch : Nat → Nat → Nat) (zw0 : 12 ≤ w) (zw : w ≤ 40) (zb0 : 4 ≤ b) (zb : b ≤ 64) (zwb : w * b ≤ 2560) (zlw : 2 * lm + 3 ≤ w) (zcw : 2 * cm + 2 ≤ w) (zlm : lm ≤ 18) (zcm : cm ≤ 19) (hDt : DT d w b lm cm h7 q0) (hNd : (DB d w h7 q0).Nodup) (hRS : RdS U k mm vl bl b kn nn L pa ch) (hO : RdO k bl (DB d w h7 q0)) (hfr : ∀ j, j < 140 → fr j = 0 ∨ fr j = 1) (hfu : h7 + 1 ≤ fu), Met l yX9_reads v_X9_reads ({ frames := fu + 2, cells := 0, slots := 0, locals := 200 * fu + 200 } : Room) (va_Pc [.ref h0, .int (nI q0)] (fun U => U.heap.size = sz ∧ va_P (dC, dI) vwCl [MO9 h0 (nI w) (nI b) (nI lm) (nI cm) (nI li) (nI ci) a_disk v_isDown v_isArmed v_armedWrites v_armedWords v_writes a_kind a_many a_block a_keys a_vals a_isFresh a_kindWas a_manyWas a_blockWas a_keysWas a_valsWas a_freshWas v_root v_rootWas v_latest v_epoch a_reached a_oldKeys a_oldVals a_allKeys a_allVals v_oldMany v_allMany a_row a_written v_writtenMany a_path a_place v_depth a_freeRow v_isOther v_moved a_bothKeys a_bothVals v_leafDepth v_found v_lastKey v_hasLast, MA9 a_disk cI (w * b) d, MA9 a_kind cI 140 k, MA9 a_many cI 140 mm, MA9 a_keys cI 3360 ks, MA9 a_vals cI 3360 vl, MA9 a_block cI 140 bl, MA9 a_isFresh cZ 140 fr] U.heap ∧ va_K (dC, dI) vwCl [(cI, .int), (cZ, .boolean)] U ∧ va_D (fun _ => True) [MO9 h0 (nI w) (nI b) (nI lm) (nI cm) (nI li) (nI ci) a_disk v_isDown v_isArmed v_armedWrites v_armedWords v_writes a_kind a_many a_block a_keys a_vals a_isFresh a_kindWas a_manyWas a_blockWas a_keysWas a_valsWas a_freshWas v_root v_rootWas v_latest v_epoch a_reached a_oldKeys a_oldVals a_allKeys a_allVals v_oldMany v_allMany a_row a_written v_writtenMany a_path a_place v_depth a_freeRow v_isOther v_moved a_bothKeys a_bothVals v_leafDepth v_found v_lastKey v_hasLast, MA9 a_disk cI (w * b) d, MA9 a_kind cI 140 k, MA9 a_many cI 140 mm, MA9 a_keys cI 3360 ks, MA9 a_vals cI 3360 vl, MA9 a_block cI 140 bl, MA9 a_isFresh cZ 140 fr])) (va_Qi (fun (r : Int32) (u : (Nat → Int32) × (Nat → Int32) × (Nat → Int32) × (Nat → Int32) × (Nat → Int32) × (Nat → Int32) × Nat) => match u with | (k2, mm2, ks2, vl2, bl2, fr2, z2) => r = nI z2 ∧ RdP U k mm vl bl k2 mm2 vl2 bl2 b (DB d w h7 q0) h7 z2 kn nn L pa ch ∧ (∀ j, j < 140 → fr2 j = 0 ∨ fr2 j = 1)) (fun (u : (Nat → Int32) × (Nat → Int32) × (Nat → Int32) × (Nat → Int32) × (Nat → Int32) × (Nat → Int32) × Nat) (t : State) => match u with | (k2, mm2, ks2, vl2, bl2, fr2, z2) => va_P (dC, dI) vwCl [MO9 h0 (nI w) (nI b) (nI lm) (nI cm) (nI li) (nI ci) a_disk v_isDown v_isArmed v_armedWrites v_armedWords v_writes a_kind a_many a_block a_keys a_vals a_isFresh a_kindWas a_manyWas a_blockWas a_keysWas a_valsWas a_freshWas v_root v_rootWas v_latest v_epoch a_reached a_oldKeys a_oldVals a_allKeys a_allVals v_oldMany v_allMany a_row a_written v_writtenMany a_path a_place v_depth a_freeRow v_isOther v_moved a_bothKeys a_bothVals v_leafDepth v_found v_lastKey v_hasLast, MA9 a_disk cI (w * b) d, MA9 a_kind cI 140 k2, MA9 a_many cI 140 mm2, MA9 a_keys cI 3360 ks2, MA9 a_vals cI 3360 vl2, MA9 a_block cI 140 bl2, MA9 a_isFresh cZ 140 fr2] t.heap ∧ va_K (dC, dI) vwCl [(cI, .int), (cZ, .boolean)] t ∧ va_D (va_A [MO9 h0 (nI w) (nI b) (nI lm) (nI cm) (nI li) (nI ci) a_disk v_isDown v_isArmed v_armedWrites v_armedWords v_writes a_kind a_many a_block a_keys a_vals a_isFresh a_kindWas a_manyWas a_blockWas a_keysWas a_valsWas a_freshWas v_root v_rootWas v_latest v_epoch a_reached a_oldKeys a_oldVals a_allKeys a_allVals v_oldMany v_allMany a_row a_written v_writtenMany a_path a_place v_depth a_freeRow v_isOther v_moved a_bothKeys a_bothVals v_leafDepth v_found v_lastKey v_hasLast, MA9 a_disk cI (w * b) d, MA9 a_kind cI 140 k, MA9 a_many cI 140 mm, MA9 a_keys cI 3360 ks, MA9 a_vals cI 3360 vl, MA9 a_block cI 140 bl, MA9 a_isFresh cZ 140 fr] sz) [MO9 h0 (nI w) (nI b) (nI lm) (nI cm) (nI li) (nI ci) a_disk v_isDown v_isArmed v_armedWrites v_armedWords v_writes a_kind a_many a_block a_keys a_vals a_isFresh a_kindWas a_manyWas a_blockWas a_keysWas a_valsWas a_freshWas v_root v_rootWas v_latest v_epoch a_reached a_oldKeys a_oldVals a_allKeys a_allVals v_oldMany v_allMany a_row a_written v_writtenMany a_path a_place v_depth a_freeRow v_isOther v_moved a_bothKeys a_bothVals v_leafDepth v_found v_lastKey v_hasLast, MA9 a_disk cI (w * b) d, MA9 a_kind cI 140 k2, MA9 a_many cI 140 mm2, MA9 a_keys cI 3360 ks2, MA9 a_vals cI 3360 vl2, MA9 a_block cI 140 bl2, MA9 a_isFresh cZ 140 fr2]) (va_A [MO9 h0 (nI w) (nI b) (nI lm) (nI cm) (nI li) (nI ci) a_disk v_isDown v_isArmed v_armedWrites v_armedWords v_writes a_kind a_many a_block a_keys a_vals a_isFresh a_kindWas a_manyWas a_blockWas a_keysWas a_valsWas a_freshWas v_root v_rootWas v_latest v_epoch a_reached a_oldKeys a_oldVals a_allKeys a_allVals v_oldMany v_allMany a_row a_written v_writtenMany a_path a_place v_depth a_freeRow v_isOther v_moved a_bothKeys a_bothVals v_leafDepth v_found v_lastKey v_hasLast, MA9 a_disk cI (w * b) d, MA9 a_kind cI 140 k, MA9 a_many cI 140 mm, MA9 a_keys cI 3360 ks, MA9 a_vals cI 3360 vl, MA9 a_block cI 140 bl, MA9 a_isFresh cZ 140 fr] sz)) 0 0 (va_A [MO9 h0 (nI w) (nI b) (nI lm) (nI cm) (nI li) (nI ci) a_disk v_isDown v_isArmed v_armedWrites v_armedWords v_writes a_kind a_many a_block a_keys a_vals a_isFresh a_kindWas a_manyWas a_blockWas a_keysWas a_valsWas a_freshWas v_root v_rootWas v_latest v_epoch a_reached a_oldKeys a_oldVals a_allKeys a_allVals v_oldMany v_allMany a_row a_written v_writtenMany a_path a_place v_depth a_freeRow v_isOther v_moved a_bothKeys a_bothVals v_leafDepth v_found v_lastKey v_hasLast, MA9 a_disk cI (w * b) d, MA9 a_kind cI 140 k, MA9 a_many cI 140 mm, MA9 a_keys cI 3360 ks, MA9 a_vals cI 3360 vl, MA9 a_block cI 140 bl, MA9 a_isFresh cZ 140 fr] sz) := by
  intro fu
  induction fu with
  | zero => intro sz h0 w b lm cm li ci a_disk a_kind a_many a_block a_keys a_vals a_isFresh a_kindWas a_manyWas a_blockWas a_keysWas a_valsWas a_freshWas a_reached a_oldKeys a_oldVals a_allKeys a_allVals a_row a_written a_path a_place a_freeRow a_bothKeys a_bothVals v_isDown v_isArmed v_armedWrites v_armedWords v_writes v_root v_rootWas v_latest v_epoch v_oldMany v_allMany v_writtenMany v_depth v_isOther v_moved v_leafDepth v_found v_lastKey v_hasLast cI cZ d k mm ks vl bl fr q0 h7 U kn nn L pa ch zw0 zw zb0 zb zwb zlw zcw zlm zcm hDt hNd hRS hO hfr hfu; exact absurd hfu (by omega)
  | succ fu ihr =>
    intro sz h0 w b lm cm li ci a_disk a_kind a_many a_block a_keys a_vals a_isFresh a_kindWas a_manyWas a_blockWas a_keysWas a_valsWas a_freshWas a_reached a_oldKeys a_oldVals a_allKeys a_allVals a_row a_written a_path a_place a_freeRow a_bothKeys a_bothVals v_isDown v_isArmed v_armedWrites v_armedWords v_writes v_root v_rootWas v_latest v_epoch v_oldMany v_allMany v_writtenMany v_depth v_isOther v_moved v_leafDepth v_found v_lastKey v_hasLast cI cZ d k mm ks vl bl fr q0 h7 U kn nn L pa ch zw0 zw zb0 zb zwb zlw zcw zlm zcm hDt hNd hRS hO hfr hfu
    refine Met.ofW (cc := cX9_reads) (maxL := 4) (ret := (some .int)) (by decide) rfl ?_
    intro p e s m args below meth c s₁ B hml hv
    obtain ⟨rfl, hsz, hP, hK, hD0⟩ := hv
    have hx := B.exec
    have hb := B.bytes
    have hr := B.returns
    have hts := atoms_spec (ws := v_X9_reads) B.pre
    have hown : s.vm.findClass RX9 = some m.cls := findClass_of_methodNamed B.named
    have hlocks := B.notSynchronized
    subst hsz
    have hD := hD0.self (sz := s.heap.size)
    generalize hAe : va_A [MO9 h0 (nI w) (nI b) (nI lm) (nI cm) (nI li) (nI ci) a_disk v_isDown v_isArmed v_armedWrites v_armedWords v_writes a_kind a_many a_block a_keys a_vals a_isFresh a_kindWas a_manyWas a_blockWas a_keysWas a_valsWas a_freshWas v_root v_rootWas v_latest v_epoch a_reached a_oldKeys a_oldVals a_allKeys a_allVals v_oldMany v_allMany a_row a_written v_writtenMany a_path a_place v_depth a_freeRow v_isOther v_moved a_bothKeys a_bothVals v_leafDepth v_found v_lastKey v_hasLast, MA9 a_disk cI (w * b) d, MA9 a_kind cI 140 k, MA9 a_many cI 140 mm, MA9 a_keys cI 3360 ks, MA9 a_vals cI 3360 vl, MA9 a_block cI 140 bl, MA9 a_isFresh cZ 140 fr] s.heap.size = A at hD ⊢
    have hA : ∀ q : Nat, s.heap.size ≤ q → A q := fun q h => by rw [← hAe]; exact Or.inr h
    have hS : va_S A s.heap s.heap [] := va_S.rf
    have hP : va_P (dC, dI) vwCl [MO9 h0 (nI w) (nI b) (nI lm) (nI cm) (nI li) (nI ci) a_disk v_isDown v_isArmed v_armedWrites v_armedWords v_writes a_kind a_many a_block a_keys a_vals a_isFresh a_kindWas a_manyWas a_blockWas a_keysWas a_valsWas a_freshWas v_root v_rootWas v_latest v_epoch a_reached a_oldKeys a_oldVals a_allKeys a_allVals v_oldMany v_allMany a_row a_written v_writtenMany a_path a_place v_depth a_freeRow v_isOther v_moved a_bothKeys a_bothVals v_leafDepth v_found v_lastKey v_hasLast, MA9 a_disk cI (w * b) d, MA9 a_kind cI 140 k, MA9 a_many cI 140 mm, MA9 a_keys cI 3360 ks, MA9 a_vals cI 3360 vl, MA9 a_block cI 140 bl, MA9 a_isFresh cZ 140 fr] s.heap := hP
    have hl := lv_entry ([.ref h0, .int (nI q0)]) (n := 4) (Nat.le_of_ble_eq_true rfl)
    rw [lg_entry_eq]
    generalize (lg_sl ([.ref h0, .int (nI q0)]) ++ List.replicate (4 - (lg_sl ([.ref h0, .int (nI q0)])).length) Slot.unset).toArray = ls at hl ⊢
    have hl : lv_has ls 4 [(0, .ref h0), (1, .int (nI q0))] := hl
    have k_1 := (fun _ h => List.mem_cons_of_mem _ (List.mem_append_right _ (List.mem_append_left _ h)) : ∀ w ∈ wsX90, w ∈ v_X9_reads)
    have k_2 := hts (.fieldLink RX9 118 "TwinRootsModel" "disk" "[I") (List.mem_of_getElem? (i := 1) rfl)
    have k_3 := hts (.fieldLink RX9 100 "TwinRootsModel" "words" "I") (List.mem_of_getElem? (i := 2) rfl)
    have k_4 := hts (.fieldLink RX9 20 "TwinRootsModel" "block" "[I") (List.mem_of_getElem? (i := 6) rfl)
    have k_5 := hts (.fieldLink RX9 17 "TwinRootsModel" "many" "[I") (List.mem_of_getElem? (i := 5) rfl)
    have k_6 := hts (.fieldLink RX9 13 "TwinRootsModel" "kind" "[I") (List.mem_of_getElem? (i := 4) rfl)
    have k_7 := hts (.fieldLink RX9 23 "TwinRootsModel" "keys" "[I") (List.mem_of_getElem? (i := 12) rfl)
    have k_8 := hts (.fieldLink RX9 26 "TwinRootsModel" "vals" "[I") (List.mem_of_getElem? (i := 13) rfl)
    have hqr := dt_rng hDt
    have hwq : w * q0 + w ≤ w * b := by have h9 := idx_g (w := w) (b := b) (q0 := q0) (i := w - 1) (by omega) (by omega); omega
    obtain ⟨x9, hx9, hk9⟩ := rdS_free hRS (by omega)
    rcases nat_c h7 with rfl | ⟨h8, rfl⟩
    · replace hP : va_P (dC, dI) vwCl [MO9 h0 (nI w) (nI b) (nI lm) (nI cm) (nI li) (nI ci) a_disk v_isDown v_isArmed v_armedWrites v_armedWords v_writes a_kind a_many a_block a_keys a_vals a_isFresh a_kindWas a_manyWas a_blockWas a_keysWas a_valsWas a_freshWas v_root v_rootWas v_latest v_epoch a_reached a_oldKeys a_oldVals a_allKeys a_allVals v_oldMany v_allMany a_row a_written v_writtenMany a_path a_place v_depth a_freeRow v_isOther v_moved a_bothKeys a_bothVals v_leafDepth v_found v_lastKey v_hasLast, MA9 a_disk cI (w * b) d, MA9 a_kind cI 140 k, MA9 a_many cI 140 mm, MA9 a_keys cI 3360 ks, MA9 a_vals cI 3360 vl, MA9 a_block cI 140 bl, MA9 a_isFresh cZ 140 fr] s.heap := hP
      replace hD : va_D A [MO9 h0 (nI w) (nI b) (nI lm) (nI cm) (nI li) (nI ci) a_disk v_isDown v_isArmed v_armedWrites v_armedWords v_writes a_kind a_many a_block a_keys a_vals a_isFresh a_kindWas a_manyWas a_blockWas a_keysWas a_valsWas a_freshWas v_root v_rootWas v_latest v_epoch a_reached a_oldKeys a_oldVals a_allKeys a_allVals v_oldMany v_allMany a_row a_written v_writtenMany a_path a_place v_depth a_freeRow v_isOther v_moved a_bothKeys a_bothVals v_leafDepth v_found v_lastKey v_hasLast, MA9 a_disk cI (w * b) d, MA9 a_kind cI 140 k, MA9 a_many cI 140 mm, MA9 a_keys cI 3360 ks, MA9 a_vals cI 3360 vl, MA9 a_block cI 140 bl, MA9 a_isFresh cZ 140 fr] := hD
      refine lv_aload_n hx hb dX9_reads_0 rfl (lv_at hl 0 rfl) ?_
      have hdn := hDt.2.2.2.2.2
      refine lv_aload_n hx hb dX9_reads_1 rfl (lv_at hl 0 rfl) ?_
      refine va_get (D := (dC, dI)) (ci := 9) (v := .ref a_disk) (C := RX9) (T := TX9) (N := 50) hx hb hts k_1 hown hK hP 0 rfl rfl 6 (by decide) k_2 (fun _ h9 => h9) rfl dX9_reads_2 ?_
      refine lv_aload_n hx hb dX9_reads_5 rfl (lv_at hl 0 rfl) ?_
      refine va_get (D := (dC, dI)) (ci := 9) (v := .int (nI w)) (C := RX9) (T := TX9) (N := 50) hx hb hts k_1 hown hK hP 0 rfl rfl 0 (by decide) k_3 (fun _ h9 => h9) rfl dX9_reads_6 ?_
      refine lv_iload_n hx hb dX9_reads_9 rfl (lv_at hl 1 rfl) ?_
      refine lv_imul hx hb dX9_reads_10 ?_
      refine lv_topi (fun z_1 ez_1 => ?_)
      obtain rfl : z_1 = nI (w * q0) := ez_1.trans (pk_mul w q0)
      refine va_iald hx hb hK hP 1 0 rfl rfl (show vp_in (nI (w * q0)) (w * b) from vp_in_nI (by omega) (by omega)) dX9_reads_11 ?_
      refine lv_topi (fun z_2 ez_2 => ?_)
      obtain rfl : z_2 = 1 := ez_2.trans ((congrArg d (nI_clamp (by omega))).trans (hDt.2.2.1))
      have hPc := hP.sub (ws' := [MO9 h0 (nI w) (nI b) (nI lm) (nI cm) (nI li) (nI ci) a_disk v_isDown v_isArmed v_armedWrites v_armedWords v_writes a_kind a_many a_block a_keys a_vals a_isFresh a_kindWas a_manyWas a_blockWas a_keysWas a_valsWas a_freshWas v_root v_rootWas v_latest v_epoch a_reached a_oldKeys a_oldVals a_allKeys a_allVals v_oldMany v_allMany a_row a_written v_writtenMany a_path a_place v_depth a_freeRow v_isOther v_moved a_bothKeys a_bothVals v_leafDepth v_found v_lastKey v_hasLast, MA9 a_kind cI 140 k, MA9 a_many cI 140 mm, MA9 a_block cI 140 bl, MA9 a_isFresh cZ 140 fr]) [0, 2, 3, 6, 7] rfl
      have hDc := hD.sub (ws' := [MO9 h0 (nI w) (nI b) (nI lm) (nI cm) (nI li) (nI ci) a_disk v_isDown v_isArmed v_armedWrites v_armedWords v_writes a_kind a_many a_block a_keys a_vals a_isFresh a_kindWas a_manyWas a_blockWas a_keysWas a_valsWas a_freshWas v_root v_rootWas v_latest v_epoch a_reached a_oldKeys a_oldVals a_allKeys a_allVals v_oldMany v_allMany a_row a_written v_writtenMany a_path a_place v_depth a_freeRow v_isOther v_moved a_bothKeys a_bothVals v_leafDepth v_found v_lastKey v_hasLast, MA9 a_kind cI 140 k, MA9 a_many cI 140 mm, MA9 a_block cI 140 bl, MA9 a_isFresh cZ 140 fr]) [0, 2, 3, 6, 7] (by decide) rfl
      have hKc := hK.sub (tys' := [(cI, .int), (cZ, .boolean)]) [0, 1] rfl
      have hFc := va_free (wc := [MO9 h0 (nI w) (nI b) (nI lm) (nI cm) (nI li) (nI ci) a_disk v_isDown v_isArmed v_armedWrites v_armedWords v_writes a_kind a_many a_block a_keys a_vals a_isFresh a_kindWas a_manyWas a_blockWas a_keysWas a_valsWas a_freshWas v_root v_rootWas v_latest v_epoch a_reached a_oldKeys a_oldVals a_allKeys a_allVals v_oldMany v_allMany a_row a_written v_writtenMany a_path a_place v_depth a_freeRow v_isOther v_moved a_bothKeys a_bothVals v_leafDepth v_found v_lastKey v_hasLast, MA9 a_kind cI 140 k, MA9 a_many cI 140 mm, MA9 a_block cI 140 bl, MA9 a_isFresh cZ 140 fr]) hD hS hA [0, 2, 3, 6, 7] rfl
      refine va_calli (va_runV (As := [.int 1]) (rest := []) ⟨hx, hb, hml, hown, hts⟩ (c_X9_newNode l dC dI s.heap.size h0 w b lm cm li ci a_disk a_kind a_many a_block a_keys a_vals a_isFresh a_kindWas a_manyWas a_blockWas a_keysWas a_valsWas a_freshWas a_reached a_oldKeys a_oldVals a_allKeys a_allVals a_row a_written a_path a_place a_freeRow a_bothKeys a_bothVals v_isDown v_isArmed v_armedWrites v_armedWords v_writes v_root v_rootWas v_latest v_epoch v_oldMany v_allMany v_writtenMany v_depth v_isOther v_moved v_leafDepth v_found v_lastKey v_hasLast cI cZ k mm bl fr 1 x9 (by first | assumption | omega | decide) (by first | assumption | omega | decide)) (cwV 1 hts g_X9_reads_X9_newNode rfl rfl rfl (by decide +kernel) ⟨(by show 0 + 1 ≤ fu + 1 + 2; omega), (by show 8 + (3 + 11) + (0) ≤ 200 * (fu + 1) + 200; omega)⟩) ⟨fun a U g mk q => by obtain ⟨q0, q1, qP, qK, qD⟩ := q; exact ⟨q0, q1, qP, va_K.moved (u := U) (U := U.calling g mk a) (Vm.Alike.refl U.vm) qK, qD⟩, va_recv hKc hPc (ci := 9) (q0 := 0) rfl rfl, fun U hU hW => ⟨rfl, by rw [hU], by rw [hU]; exact hPc, va_K.moved hW.alike hKc, hDc.weaken (fun _ _ _ _ => trivial)⟩⟩ rfl rfl hl.1 rfl (lv_room (Nat.le_of_ble_eq_true rfl)) dX9_reads_12 ⟨(show 0 + 0 ≤ 0 by omega), (show 0 + 0 ≤ 0 by omega)⟩) hS (fun q _ h => hFc q h) hFc (fun r_3 u t H1 locs ht hvm hw hB hz1 hk1 hS9 => ?_)
      replace hS := hS9
      clear hS9
      obtain ⟨kz, mz, bz, fz, zz⟩ := u
      obtain ⟨hP1, hK1, hD1⟩ := hB
      rw [ht] at hP1
      replace hK1 := va_K.moved hvm.symm hK1
      try dsimp only at hw
      obtain ⟨hP9, hD9⟩ := va_join (wr := [MA9 a_disk cI (w * b) d, MA9 a_keys cI 3360 ks, MA9 a_vals cI 3360 vl]) (w1 := [MO9 h0 (nI w) (nI b) (nI lm) (nI cm) (nI li) (nI ci) a_disk v_isDown v_isArmed v_armedWrites v_armedWords v_writes a_kind a_many a_block a_keys a_vals a_isFresh a_kindWas a_manyWas a_blockWas a_keysWas a_valsWas a_freshWas v_root v_rootWas v_latest v_epoch a_reached a_oldKeys a_oldVals a_allKeys a_allVals v_oldMany v_allMany a_row a_written v_writtenMany a_path a_place v_depth a_freeRow v_isOther v_moved a_bothKeys a_bothVals v_leafDepth v_found v_lastKey v_hasLast, MA9 a_kind cI 140 kz, MA9 a_many cI 140 mz, MA9 a_block cI 140 bz, MA9 a_isFresh cZ 140 fz]) hP hD [0, 2, 3, 6, 7] [1, 4, 5] rfl rfl (by decide) (by decide) hk1 hFc hP1 hD1
      replace hP := hP9
      replace hD := hD9
      clear hP9 hD9
      replace hK := (hK.sub (tys' := []) [] rfl).app hK1
      clear hP1 hD1 hK1 hPc hDc hKc hFc hk1 hz1 hvm ht
      generalize H1 = H at hP hS ⊢
      replace hP : va_P (dC, dI) vwCl [MA9 a_disk cI (w * b) d, MA9 a_keys cI 3360 ks, MA9 a_vals cI 3360 vl, MO9 h0 (nI w) (nI b) (nI lm) (nI cm) (nI li) (nI ci) a_disk v_isDown v_isArmed v_armedWrites v_armedWords v_writes a_kind a_many a_block a_keys a_vals a_isFresh a_kindWas a_manyWas a_blockWas a_keysWas a_valsWas a_freshWas v_root v_rootWas v_latest v_epoch a_reached a_oldKeys a_oldVals a_allKeys a_allVals v_oldMany v_allMany a_row a_written v_writtenMany a_path a_place v_depth a_freeRow v_isOther v_moved a_bothKeys a_bothVals v_leafDepth v_found v_lastKey v_hasLast, MA9 a_kind cI 140 kz, MA9 a_many cI 140 mz, MA9 a_block cI 140 bz, MA9 a_isFresh cZ 140 fz] H := hP
      replace hD : va_D A [MA9 a_disk cI (w * b) d, MA9 a_keys cI 3360 ks, MA9 a_vals cI 3360 vl, MO9 h0 (nI w) (nI b) (nI lm) (nI cm) (nI li) (nI ci) a_disk v_isDown v_isArmed v_armedWrites v_armedWords v_writes a_kind a_many a_block a_keys a_vals a_isFresh a_kindWas a_manyWas a_blockWas a_keysWas a_valsWas a_freshWas v_root v_rootWas v_latest v_epoch a_reached a_oldKeys a_oldVals a_allKeys a_allVals v_oldMany v_allMany a_row a_written v_writtenMany a_path a_place v_depth a_freeRow v_isOther v_moved a_bothKeys a_bothVals v_leafDepth v_found v_lastKey v_hasLast, MA9 a_kind cI 140 kz, MA9 a_many cI 140 mz, MA9 a_block cI 140 bz, MA9 a_isFresh cZ 140 fz] := hD
      replace hK : va_K (dC, dI) vwCl [(cI, .int), (cZ, .boolean)] s := hK
      have hw_r_3 := hw
      obtain rfl : r_3 = nI zz := hw.1
      have hN9 := hw.2
      have hzz := hN9.1
      have hfb : ∀ j, j < 140 → fz j = 0 ∨ fz j = 1 := by rw [hN9.2.2.2.2.2]; exact bo_upd hfr (Or.inl rfl)
      refine lv_istore_n (lv' := [(2, .int (nI zz)), (0, .ref h0), (1, .int (nI q0))]) hx hb dX9_reads_15 rfl hl (by decide) rfl (fun ls hl9 => ?_)
      replace hl := hl9
      clear hl9
      refine lv_aload_n hx hb dX9_reads_16 rfl (lv_at hl 1 rfl) ?_
      refine va_get (D := (dC, dI)) (ci := 9) (v := .ref a_block) (C := RX9) (T := TX9) (N := 50) hx hb hts k_1 hown hK hP 3 rfl rfl 14 (by decide) k_4 (fun _ h9 => h9) rfl dX9_reads_17 ?_
      refine lv_iload_n hx hb dX9_reads_20 rfl (lv_at hl 0 rfl) ?_
      refine lv_iload_n hx hb dX9_reads_21 rfl (lv_at hl 2 rfl) ?_
      refine va_iast hx hb hK hP hD hS 6 0 rfl rfl (show vp_in (nI zz) 140 from vp_in_nI (by omega) (by omega)) dX9_reads_22 (fun H locs hP9 hD9 hS9 => ?_)
      replace hP := hP9
      replace hD := hD9
      replace hS := hS9
      clear hP9 hD9 hS9
      replace hP : va_P (dC, dI) vwCl [MA9 a_disk cI (w * b) d, MA9 a_keys cI 3360 ks, MA9 a_vals cI 3360 vl, MO9 h0 (nI w) (nI b) (nI lm) (nI cm) (nI li) (nI ci) a_disk v_isDown v_isArmed v_armedWrites v_armedWords v_writes a_kind a_many a_block a_keys a_vals a_isFresh a_kindWas a_manyWas a_blockWas a_keysWas a_valsWas a_freshWas v_root v_rootWas v_latest v_epoch a_reached a_oldKeys a_oldVals a_allKeys a_allVals v_oldMany v_allMany a_row a_written v_writtenMany a_path a_place v_depth a_freeRow v_isOther v_moved a_bothKeys a_bothVals v_leafDepth v_found v_lastKey v_hasLast, MA9 a_kind cI 140 kz, MA9 a_many cI 140 mz, MA9 a_block cI 140 (upd bz ((nI zz).toNatClampNeg) (nI q0)), MA9 a_isFresh cZ 140 fz] H := hP
      replace hD : va_D A [MA9 a_disk cI (w * b) d, MA9 a_keys cI 3360 ks, MA9 a_vals cI 3360 vl, MO9 h0 (nI w) (nI b) (nI lm) (nI cm) (nI li) (nI ci) a_disk v_isDown v_isArmed v_armedWrites v_armedWords v_writes a_kind a_many a_block a_keys a_vals a_isFresh a_kindWas a_manyWas a_blockWas a_keysWas a_valsWas a_freshWas v_root v_rootWas v_latest v_epoch a_reached a_oldKeys a_oldVals a_allKeys a_allVals v_oldMany v_allMany a_row a_written v_writtenMany a_path a_place v_depth a_freeRow v_isOther v_moved a_bothKeys a_bothVals v_leafDepth v_found v_lastKey v_hasLast, MA9 a_kind cI 140 kz, MA9 a_many cI 140 mz, MA9 a_block cI 140 (upd bz ((nI zz).toNatClampNeg) (nI q0)), MA9 a_isFresh cZ 140 fz] := hD
      rw [show (nI zz).toNatClampNeg = zz from nI_clamp (by omega)] at hP hD
      obtain ⟨b1, eb1⟩ : ∃ g9, g9 = upd bz zz (nI q0) := ⟨_, rfl⟩
      rw [← eb1] at hP hD
      refine lv_aload_n hx hb dX9_reads_23 rfl (lv_at hl 1 rfl) ?_
      refine va_get (D := (dC, dI)) (ci := 9) (v := .ref a_many) (C := RX9) (T := TX9) (N := 50) hx hb hts k_1 hown hK hP 3 rfl rfl 13 (by decide) k_5 (fun _ h9 => h9) rfl dX9_reads_24 ?_
      refine lv_iload_n hx hb dX9_reads_27 rfl (lv_at hl 0 rfl) ?_
      refine lv_aload_n hx hb dX9_reads_28 rfl (lv_at hl 1 rfl) ?_
      refine va_get (D := (dC, dI)) (ci := 9) (v := .ref a_disk) (C := RX9) (T := TX9) (N := 50) hx hb hts k_1 hown hK hP 3 rfl rfl 6 (by decide) k_2 (fun _ h9 => h9) rfl dX9_reads_29 ?_
      refine lv_aload_n hx hb dX9_reads_32 rfl (lv_at hl 1 rfl) ?_
      refine va_get (D := (dC, dI)) (ci := 9) (v := .int (nI w)) (C := RX9) (T := TX9) (N := 50) hx hb hts k_1 hown hK hP 3 rfl rfl 0 (by decide) k_3 (fun _ h9 => h9) rfl dX9_reads_33 ?_
      refine lv_iload_n hx hb dX9_reads_36 rfl (lv_at hl 2 rfl) ?_
      refine lv_imul hx hb dX9_reads_37 ?_
      refine lv_topi (fun z_4 ez_4 => ?_)
      obtain rfl : z_4 = nI (w * q0) := ez_4.trans (pk_mul w q0)
      refine lv_iconst (v := 1) hx hb dX9_reads_38 (by decide) ?_
      refine lv_iadd hx hb dX9_reads_39 ?_
      refine lv_topi (fun z_5 ez_5 => ?_)
      obtain rfl : z_5 = nI (w * q0 + 1) := ez_5.trans (nI_add (w * q0) 1)
      refine va_iald hx hb hK hP 0 0 rfl rfl (show vp_in (nI (w * q0 + 1)) (w * b) from vp_in_nI (by omega) (by omega)) dX9_reads_40 ?_
      refine lv_topi (fun z_6 ez_6 => ?_)
      obtain rfl : z_6 = nI (dn d w q0) := ez_6.trans ((congrArg d (nI_clamp (by omega))).trans (hDt.2.2.2.1))
      refine va_iast hx hb hK hP hD hS 5 0 rfl rfl (show vp_in (nI zz) 140 from vp_in_nI (by omega) (by omega)) dX9_reads_41 (fun H locs hP9 hD9 hS9 => ?_)
      replace hP := hP9
      replace hD := hD9
      replace hS := hS9
      clear hP9 hD9 hS9
      replace hP : va_P (dC, dI) vwCl [MA9 a_disk cI (w * b) d, MA9 a_keys cI 3360 ks, MA9 a_vals cI 3360 vl, MO9 h0 (nI w) (nI b) (nI lm) (nI cm) (nI li) (nI ci) a_disk v_isDown v_isArmed v_armedWrites v_armedWords v_writes a_kind a_many a_block a_keys a_vals a_isFresh a_kindWas a_manyWas a_blockWas a_keysWas a_valsWas a_freshWas v_root v_rootWas v_latest v_epoch a_reached a_oldKeys a_oldVals a_allKeys a_allVals v_oldMany v_allMany a_row a_written v_writtenMany a_path a_place v_depth a_freeRow v_isOther v_moved a_bothKeys a_bothVals v_leafDepth v_found v_lastKey v_hasLast, MA9 a_kind cI 140 kz, MA9 a_many cI 140 (upd mz ((nI zz).toNatClampNeg) (nI (dn d w q0))), MA9 a_block cI 140 b1, MA9 a_isFresh cZ 140 fz] H := hP
      replace hD : va_D A [MA9 a_disk cI (w * b) d, MA9 a_keys cI 3360 ks, MA9 a_vals cI 3360 vl, MO9 h0 (nI w) (nI b) (nI lm) (nI cm) (nI li) (nI ci) a_disk v_isDown v_isArmed v_armedWrites v_armedWords v_writes a_kind a_many a_block a_keys a_vals a_isFresh a_kindWas a_manyWas a_blockWas a_keysWas a_valsWas a_freshWas v_root v_rootWas v_latest v_epoch a_reached a_oldKeys a_oldVals a_allKeys a_allVals v_oldMany v_allMany a_row a_written v_writtenMany a_path a_place v_depth a_freeRow v_isOther v_moved a_bothKeys a_bothVals v_leafDepth v_found v_lastKey v_hasLast, MA9 a_kind cI 140 kz, MA9 a_many cI 140 (upd mz ((nI zz).toNatClampNeg) (nI (dn d w q0))), MA9 a_block cI 140 b1, MA9 a_isFresh cZ 140 fz] := hD
      rw [show (nI zz).toNatClampNeg = zz from nI_clamp (by omega)] at hP hD
      obtain ⟨m1, em1⟩ : ∃ g9, g9 = upd mz zz (nI (dn d w q0)) := ⟨_, rfl⟩
      rw [← em1] at hP hD
      refine lv_iconst (v := 0) hx hb dX9_reads_42 (by decide) ?_
      refine lv_istore_n (lv' := [(3, .int 0), (2, .int (nI zz)), (0, .ref h0), (1, .int (nI q0))]) hx hb dX9_reads_43 rfl hl (by decide) rfl (fun ls hl9 => ?_)
      replace hl := hl9
      clear hl9
      refine jn_cut (P := fun Q => ∀ (nf i : Nat) (kv : Nat → Int32) (mv : Nat → Int32) (ksv : Nat → Int32) (vv : Nat → Int32) (bv : Nat → Int32) (fv : Nat → Int32) (H : Heap) (locs : List Loc) (ls : Array Slot), i ≤ dn d w q0 → dn d w q0 + 1 ≤ i + nf → (RdL U k mm vl bl kv mv vv bv b d w q0 0 zz (dn d w q0) 0 1 kn nn L pa ch) → (∀ j, j < 140 → fv j = 0 ∨ fv j = 1) → va_P (dC, dI) vwCl [MA9 a_disk cI (w * b) d, MA9 a_keys cI 3360 ksv, MA9 a_vals cI 3360 vv, MO9 h0 (nI w) (nI b) (nI lm) (nI cm) (nI li) (nI ci) a_disk v_isDown v_isArmed v_armedWrites v_armedWords v_writes a_kind a_many a_block a_keys a_vals a_isFresh a_kindWas a_manyWas a_blockWas a_keysWas a_valsWas a_freshWas v_root v_rootWas v_latest v_epoch a_reached a_oldKeys a_oldVals a_allKeys a_allVals v_oldMany v_allMany a_row a_written v_writtenMany a_path a_place v_depth a_freeRow v_isOther v_moved a_bothKeys a_bothVals v_leafDepth v_found v_lastKey v_hasLast, MA9 a_kind cI 140 kv, MA9 a_many cI 140 mv, MA9 a_block cI 140 bv, MA9 a_isFresh cZ 140 fv] H → va_D A [MA9 a_disk cI (w * b) d, MA9 a_keys cI 3360 ksv, MA9 a_vals cI 3360 vv, MO9 h0 (nI w) (nI b) (nI lm) (nI cm) (nI li) (nI ci) a_disk v_isDown v_isArmed v_armedWrites v_armedWords v_writes a_kind a_many a_block a_keys a_vals a_isFresh a_kindWas a_manyWas a_blockWas a_keysWas a_valsWas a_freshWas v_root v_rootWas v_latest v_epoch a_reached a_oldKeys a_oldVals a_allKeys a_allVals v_oldMany v_allMany a_row a_written v_writtenMany a_path a_place v_depth a_freeRow v_isOther v_moved a_bothKeys a_bothVals v_leafDepth v_found v_lastKey v_hasLast, MA9 a_kind cI 140 kv, MA9 a_many cI 140 mv, MA9 a_block cI 140 bv, MA9 a_isFresh cZ 140 fv] → va_S A s.heap H locs → lv_has ls 4 [(0, .ref h0), (1, .int (nI q0)), (2, .int (nI zz)), (3, .int (nI i))] → W p l e (headSpec v_X9_reads ({ frames := fu + 1 + 2, cells := 0, slots := 0, locals := 200 * (fu + 1) + 200 } : Room)).room s m ([.ref h0, .int (nI q0)] : List Value).toArray below meth c H locs 0 0 Q (F0 m 44 ls [])) ?_ (fun loop_44 => ?_)
      · intro nf
        induction nf with
        | zero =>
          intro i kv mv ksv vv bv fv H locs ls h1 h2
          exact absurd h2 (by omega)
        | succ nf ih_44 =>
          intro i kv mv ksv vv bv fv H locs ls hi hn hrl hfb hP hD hS hl
          refine lv_iload_n hx hb dX9_reads_44 rfl (lv_at hl 3 rfl) ?_
          refine lv_aload_n hx hb dX9_reads_45 rfl (lv_at hl 0 rfl) ?_
          refine va_get (D := (dC, dI)) (ci := 9) (v := .ref a_many) (C := RX9) (T := TX9) (N := 50) hx hb hts k_1 hown hK hP 3 rfl rfl 13 (by decide) k_5 (fun _ h9 => h9) rfl dX9_reads_46 ?_
          refine lv_iload_n hx hb dX9_reads_49 rfl (lv_at hl 2 rfl) ?_
          refine va_iald hx hb hK hP 5 0 rfl rfl (show vp_in (nI zz) 140 from vp_in_nI (by omega) (by omega)) dX9_reads_50 ?_
          refine lv_topi (fun z_7 ez_7 => ?_)
          obtain rfl : z_7 = nI (dn d w q0) := ez_7.trans ((congrArg mv (nI_clamp (by omega))).trans (hrl.2.1.2.1))
          refine lv_icmp_ge (tgt := 193) hx hb dX9_reads_51 (by decide) (fun c_8 => ?_) (fun c_8 => ?_)
          · have n_c_8 : (dn d w q0) ≤ i := (nI_leI (a := dn d w q0) (b := i) (by omega) (by omega)).mp c_8
            refine lv_iload_n hx hb dX9_reads_193 rfl (lv_at hl 2 rfl) ?_
            have hP9 := hP.sub (ws' := [MO9 h0 (nI w) (nI b) (nI lm) (nI cm) (nI li) (nI ci) a_disk v_isDown v_isArmed v_armedWrites v_armedWords v_writes a_kind a_many a_block a_keys a_vals a_isFresh a_kindWas a_manyWas a_blockWas a_keysWas a_valsWas a_freshWas v_root v_rootWas v_latest v_epoch a_reached a_oldKeys a_oldVals a_allKeys a_allVals v_oldMany v_allMany a_row a_written v_writtenMany a_path a_place v_depth a_freeRow v_isOther v_moved a_bothKeys a_bothVals v_leafDepth v_found v_lastKey v_hasLast, MA9 a_disk cI (w * b) d, MA9 a_kind cI 140 kv, MA9 a_many cI 140 mv, MA9 a_keys cI 3360 ksv, MA9 a_vals cI 3360 vv, MA9 a_block cI 140 bv, MA9 a_isFresh cZ 140 fv]) [3, 0, 4, 5, 1, 2, 6, 7] rfl
            have hD9 := hD.sub (ws' := [MO9 h0 (nI w) (nI b) (nI lm) (nI cm) (nI li) (nI ci) a_disk v_isDown v_isArmed v_armedWrites v_armedWords v_writes a_kind a_many a_block a_keys a_vals a_isFresh a_kindWas a_manyWas a_blockWas a_keysWas a_valsWas a_freshWas v_root v_rootWas v_latest v_epoch a_reached a_oldKeys a_oldVals a_allKeys a_allVals v_oldMany v_allMany a_row a_written v_writtenMany a_path a_place v_depth a_freeRow v_isOther v_moved a_bothKeys a_bothVals v_leafDepth v_found v_lastKey v_hasLast, MA9 a_disk cI (w * b) d, MA9 a_kind cI 140 kv, MA9 a_many cI 140 mv, MA9 a_keys cI 3360 ksv, MA9 a_vals cI 3360 vv, MA9 a_block cI 140 bv, MA9 a_isFresh cZ 140 fv]) [3, 0, 4, 5, 1, 2, 6, 7] (by decide) rfl
            have hK9 := hK.sub (tys' := [(cI, .int), (cZ, .boolean)]) [0, 1] rfl
            exact W.iret (v := (nI zz)) hx hb hr (fun t ht hW => ⟨⟨(nI zz), (kv, mv, ksv, vv, bv, fv, zz), rfl, ⟨rfl, rdL_endL hrl (by omega), hfb⟩, by rw [ht]; exact hP9, va_K.moved hW.alike hK9, hD9⟩, hS.F ht⟩) hS.2.2 dX9_reads_194
          · have n_c_8 : ¬ (dn d w q0) ≤ i := fun h9 => c_8 ((nI_leI (a := dn d w q0) (b := i) (by omega) (by omega)).mpr h9)
            refine lv_aload_n hx hb dX9_reads_54 rfl (lv_at hl 0 rfl) ?_
            refine va_get (D := (dC, dI)) (ci := 9) (v := .ref a_kind) (C := RX9) (T := TX9) (N := 50) hx hb hts k_1 hown hK hP 3 rfl rfl 12 (by decide) k_6 (fun _ h9 => h9) rfl dX9_reads_55 ?_
            refine lv_iload_n hx hb dX9_reads_58 rfl (lv_at hl 2 rfl) ?_
            refine va_iald hx hb hK hP 4 0 rfl rfl (show vp_in (nI zz) 140 from vp_in_nI (by omega) (by omega)) dX9_reads_59 ?_
            refine lv_topi (fun z_9 ez_9 => ?_)
            obtain rfl : z_9 = 1 := ez_9.trans ((congrArg kv (nI_clamp (by omega))).trans (hrl.2.1.2.2))
            refine lv_iconst (v := 1) hx hb dX9_reads_60 (by decide) ?_
            refine lv_icmp_ne (tgt := 123) hx hb dX9_reads_61 (by decide) (fun c_10 => ?_) (fun c_10 => ?_)
            · exact absurd (by decide) c_10
            refine lv_aload_n hx hb dX9_reads_64 rfl (lv_at hl 0 rfl) ?_
            refine va_get (D := (dC, dI)) (ci := 9) (v := .ref a_keys) (C := RX9) (T := TX9) (N := 50) hx hb hts k_1 hown hK hP 3 rfl rfl 15 (by decide) k_7 (fun _ h9 => h9) rfl dX9_reads_65 ?_
            refine lv_bipush (v := 24) hx hb dX9_reads_68 (by decide) ?_
            refine lv_iload_n hx hb dX9_reads_70 rfl (lv_at hl 2 rfl) ?_
            refine lv_imul hx hb dX9_reads_71 ?_
            refine lv_topi (fun z_11 ez_11 => ?_)
            obtain rfl : z_11 = nI (24 * zz) := ez_11.trans (pk_mul 24 zz)
            refine lv_iload_n hx hb dX9_reads_72 rfl (lv_at hl 3 rfl) ?_
            refine lv_iadd hx hb dX9_reads_73 ?_
            refine lv_topi (fun z_12 ez_12 => ?_)
            obtain rfl : z_12 = nI (24 * zz + i) := ez_12.trans (nI_add (24 * zz) i)
            refine lv_aload_n hx hb dX9_reads_74 rfl (lv_at hl 0 rfl) ?_
            refine va_get (D := (dC, dI)) (ci := 9) (v := .ref a_disk) (C := RX9) (T := TX9) (N := 50) hx hb hts k_1 hown hK hP 3 rfl rfl 6 (by decide) k_2 (fun _ h9 => h9) rfl dX9_reads_75 ?_
            refine lv_aload_n hx hb dX9_reads_78 rfl (lv_at hl 0 rfl) ?_
            refine va_get (D := (dC, dI)) (ci := 9) (v := .int (nI w)) (C := RX9) (T := TX9) (N := 50) hx hb hts k_1 hown hK hP 3 rfl rfl 0 (by decide) k_3 (fun _ h9 => h9) rfl dX9_reads_79 ?_
            refine lv_iload_n hx hb dX9_reads_82 rfl (lv_at hl 1 rfl) ?_
            refine lv_imul hx hb dX9_reads_83 ?_
            refine lv_topi (fun z_13 ez_13 => ?_)
            obtain rfl : z_13 = nI (w * q0) := ez_13.trans (pk_mul w q0)
            refine lv_iconst (v := 2) hx hb dX9_reads_84 (by decide) ?_
            refine lv_iadd hx hb dX9_reads_85 ?_
            refine lv_topi (fun z_14 ez_14 => ?_)
            obtain rfl : z_14 = nI (w * q0 + 2) := ez_14.trans (nI_add (w * q0) 2)
            refine lv_iconst (v := 2) hx hb dX9_reads_86 (by decide) ?_
            refine lv_iload_n hx hb dX9_reads_87 rfl (lv_at hl 3 rfl) ?_
            refine lv_imul hx hb dX9_reads_88 ?_
            refine lv_topi (fun z_15 ez_15 => ?_)
            obtain rfl : z_15 = nI (2 * i) := ez_15.trans (pk_mul 2 i)
            refine lv_iadd hx hb dX9_reads_89 ?_
            refine lv_topi (fun z_16 ez_16 => ?_)
            obtain rfl : z_16 = nI (w * q0 + 2 + (2 * i)) := ez_16.trans (nI_add (w * q0 + 2) (2 * i))
            refine va_iald hx hb hK hP 0 0 rfl rfl (show vp_in (nI (w * q0 + 2 + (2 * i))) (w * b) from vp_in_nI (by omega) (by omega)) dX9_reads_90 ?_
            refine lv_topi (fun z_17 ez_17 => ?_)
            obtain rfl : z_17 = d (w * q0 + 2 + (2 * i)) := ez_17.trans (congrArg d (nI_clamp (by omega)))
            refine va_iast hx hb hK hP hD hS 1 0 rfl rfl (show vp_in (nI (24 * zz + i)) 3360 from vp_in_nI (by omega) (by omega)) dX9_reads_91 (fun H locs hP9 hD9 hS9 => ?_)
            replace hP := hP9
            replace hD := hD9
            replace hS := hS9
            clear hP9 hD9 hS9
            replace hP : va_P (dC, dI) vwCl [MA9 a_disk cI (w * b) d, MA9 a_keys cI 3360 (upd ksv ((nI (24 * zz + i)).toNatClampNeg) (d (w * q0 + 2 + (2 * i)))), MA9 a_vals cI 3360 vv, MO9 h0 (nI w) (nI b) (nI lm) (nI cm) (nI li) (nI ci) a_disk v_isDown v_isArmed v_armedWrites v_armedWords v_writes a_kind a_many a_block a_keys a_vals a_isFresh a_kindWas a_manyWas a_blockWas a_keysWas a_valsWas a_freshWas v_root v_rootWas v_latest v_epoch a_reached a_oldKeys a_oldVals a_allKeys a_allVals v_oldMany v_allMany a_row a_written v_writtenMany a_path a_place v_depth a_freeRow v_isOther v_moved a_bothKeys a_bothVals v_leafDepth v_found v_lastKey v_hasLast, MA9 a_kind cI 140 kv, MA9 a_many cI 140 mv, MA9 a_block cI 140 bv, MA9 a_isFresh cZ 140 fv] H := hP
            replace hD : va_D A [MA9 a_disk cI (w * b) d, MA9 a_keys cI 3360 (upd ksv ((nI (24 * zz + i)).toNatClampNeg) (d (w * q0 + 2 + (2 * i)))), MA9 a_vals cI 3360 vv, MO9 h0 (nI w) (nI b) (nI lm) (nI cm) (nI li) (nI ci) a_disk v_isDown v_isArmed v_armedWrites v_armedWords v_writes a_kind a_many a_block a_keys a_vals a_isFresh a_kindWas a_manyWas a_blockWas a_keysWas a_valsWas a_freshWas v_root v_rootWas v_latest v_epoch a_reached a_oldKeys a_oldVals a_allKeys a_allVals v_oldMany v_allMany a_row a_written v_writtenMany a_path a_place v_depth a_freeRow v_isOther v_moved a_bothKeys a_bothVals v_leafDepth v_found v_lastKey v_hasLast, MA9 a_kind cI 140 kv, MA9 a_many cI 140 mv, MA9 a_block cI 140 bv, MA9 a_isFresh cZ 140 fv] := hD
            rw [show (nI (24 * zz + i)).toNatClampNeg = 24 * zz + i from nI_clamp (by omega)] at hP hD
            obtain ⟨f_18, ef_18⟩ : ∃ g9, g9 = upd ksv (24 * zz + i) (d (w * q0 + 2 + (2 * i))) := ⟨_, rfl⟩
            rw [← ef_18] at hP hD
            refine lv_aload_n hx hb dX9_reads_92 rfl (lv_at hl 0 rfl) ?_
            refine va_get (D := (dC, dI)) (ci := 9) (v := .ref a_vals) (C := RX9) (T := TX9) (N := 50) hx hb hts k_1 hown hK hP 3 rfl rfl 16 (by decide) k_8 (fun _ h9 => h9) rfl dX9_reads_93 ?_
            refine lv_bipush (v := 24) hx hb dX9_reads_96 (by decide) ?_
            refine lv_iload_n hx hb dX9_reads_98 rfl (lv_at hl 2 rfl) ?_
            refine lv_imul hx hb dX9_reads_99 ?_
            refine lv_topi (fun z_19 ez_19 => ?_)
            obtain rfl : z_19 = nI (24 * zz) := ez_19.trans (pk_mul 24 zz)
            refine lv_iload_n hx hb dX9_reads_100 rfl (lv_at hl 3 rfl) ?_
            refine lv_iadd hx hb dX9_reads_101 ?_
            refine lv_topi (fun z_20 ez_20 => ?_)
            obtain rfl : z_20 = nI (24 * zz + i) := ez_20.trans (nI_add (24 * zz) i)
            refine lv_aload_n hx hb dX9_reads_102 rfl (lv_at hl 0 rfl) ?_
            refine va_get (D := (dC, dI)) (ci := 9) (v := .ref a_disk) (C := RX9) (T := TX9) (N := 50) hx hb hts k_1 hown hK hP 3 rfl rfl 6 (by decide) k_2 (fun _ h9 => h9) rfl dX9_reads_103 ?_
            refine lv_aload_n hx hb dX9_reads_106 rfl (lv_at hl 0 rfl) ?_
            refine va_get (D := (dC, dI)) (ci := 9) (v := .int (nI w)) (C := RX9) (T := TX9) (N := 50) hx hb hts k_1 hown hK hP 3 rfl rfl 0 (by decide) k_3 (fun _ h9 => h9) rfl dX9_reads_107 ?_
            refine lv_iload_n hx hb dX9_reads_110 rfl (lv_at hl 1 rfl) ?_
            refine lv_imul hx hb dX9_reads_111 ?_
            refine lv_topi (fun z_21 ez_21 => ?_)
            obtain rfl : z_21 = nI (w * q0) := ez_21.trans (pk_mul w q0)
            refine lv_iconst (v := 3) hx hb dX9_reads_112 (by decide) ?_
            refine lv_iadd hx hb dX9_reads_113 ?_
            refine lv_topi (fun z_22 ez_22 => ?_)
            obtain rfl : z_22 = nI (w * q0 + 3) := ez_22.trans (nI_add (w * q0) 3)
            refine lv_iconst (v := 2) hx hb dX9_reads_114 (by decide) ?_
            refine lv_iload_n hx hb dX9_reads_115 rfl (lv_at hl 3 rfl) ?_
            refine lv_imul hx hb dX9_reads_116 ?_
            refine lv_topi (fun z_23 ez_23 => ?_)
            obtain rfl : z_23 = nI (2 * i) := ez_23.trans (pk_mul 2 i)
            refine lv_iadd hx hb dX9_reads_117 ?_
            refine lv_topi (fun z_24 ez_24 => ?_)
            obtain rfl : z_24 = nI (w * q0 + 3 + (2 * i)) := ez_24.trans (nI_add (w * q0 + 3) (2 * i))
            refine va_iald hx hb hK hP 0 0 rfl rfl (show vp_in (nI (w * q0 + 3 + (2 * i))) (w * b) from vp_in_nI (by omega) (by omega)) dX9_reads_118 ?_
            refine lv_topi (fun z_25 ez_25 => ?_)
            obtain rfl : z_25 = d (w * q0 + 3 + (2 * i)) := ez_25.trans (congrArg d (nI_clamp (by omega)))
            refine va_iast hx hb hK hP hD hS 2 0 rfl rfl (show vp_in (nI (24 * zz + i)) 3360 from vp_in_nI (by omega) (by omega)) dX9_reads_119 (fun H locs hP9 hD9 hS9 => ?_)
            replace hP := hP9
            replace hD := hD9
            replace hS := hS9
            clear hP9 hD9 hS9
            replace hP : va_P (dC, dI) vwCl [MA9 a_disk cI (w * b) d, MA9 a_keys cI 3360 f_18, MA9 a_vals cI 3360 (upd vv ((nI (24 * zz + i)).toNatClampNeg) (d (w * q0 + 3 + (2 * i)))), MO9 h0 (nI w) (nI b) (nI lm) (nI cm) (nI li) (nI ci) a_disk v_isDown v_isArmed v_armedWrites v_armedWords v_writes a_kind a_many a_block a_keys a_vals a_isFresh a_kindWas a_manyWas a_blockWas a_keysWas a_valsWas a_freshWas v_root v_rootWas v_latest v_epoch a_reached a_oldKeys a_oldVals a_allKeys a_allVals v_oldMany v_allMany a_row a_written v_writtenMany a_path a_place v_depth a_freeRow v_isOther v_moved a_bothKeys a_bothVals v_leafDepth v_found v_lastKey v_hasLast, MA9 a_kind cI 140 kv, MA9 a_many cI 140 mv, MA9 a_block cI 140 bv, MA9 a_isFresh cZ 140 fv] H := hP
            replace hD : va_D A [MA9 a_disk cI (w * b) d, MA9 a_keys cI 3360 f_18, MA9 a_vals cI 3360 (upd vv ((nI (24 * zz + i)).toNatClampNeg) (d (w * q0 + 3 + (2 * i)))), MO9 h0 (nI w) (nI b) (nI lm) (nI cm) (nI li) (nI ci) a_disk v_isDown v_isArmed v_armedWrites v_armedWords v_writes a_kind a_many a_block a_keys a_vals a_isFresh a_kindWas a_manyWas a_blockWas a_keysWas a_valsWas a_freshWas v_root v_rootWas v_latest v_epoch a_reached a_oldKeys a_oldVals a_allKeys a_allVals v_oldMany v_allMany a_row a_written v_writtenMany a_path a_place v_depth a_freeRow v_isOther v_moved a_bothKeys a_bothVals v_leafDepth v_found v_lastKey v_hasLast, MA9 a_kind cI 140 kv, MA9 a_many cI 140 mv, MA9 a_block cI 140 bv, MA9 a_isFresh cZ 140 fv] := hD
            rw [show (nI (24 * zz + i)).toNatClampNeg = 24 * zz + i from nI_clamp (by omega)] at hP hD
            obtain ⟨f_26, ef_26⟩ : ∃ g9, g9 = upd vv (24 * zz + i) (d (w * q0 + 3 + (2 * i))) := ⟨_, rfl⟩
            rw [← ef_26] at hP hD
            refine lv_goto (tgt := 187) hx hb dX9_reads_120 (by decide) ?_
            refine lv_iinc (v := (nI (i + 1))) (lv' := [(3, .int (nI (i + 1))), (0, .ref h0), (1, .int (nI q0)), (2, .int (nI zz))]) hx hb dX9_reads_187 hl (k := 3) rfl (nI_1 i) (by decide) rfl (fun ls hl9 => ?_)
            replace hl := hl9
            clear hl9
            refine lv_goto (tgt := 44) hx hb dX9_reads_190 (by decide) ?_
            exact ih_44 (i + 1) kv mv f_18 f_26 bv fv _ _ _ (by omega) (by omega) (rdL_leaf hrl (by omega) ef_26) hfb hP hD hS (lv_sub hl [1, 2, 3, 0] rfl)
      exact loop_44 ((dn d w q0) + 1) 0 kz m1 ks vl b1 fz _ _ _ (by omega) (by omega) (rdL_start hRS hN9 (by decide) eb1 em1 hqr hO) hfb hP hD hS (lv_sub hl [2, 3, 1, 0] rfl)
    · replace hP : va_P (dC, dI) vwCl [MO9 h0 (nI w) (nI b) (nI lm) (nI cm) (nI li) (nI ci) a_disk v_isDown v_isArmed v_armedWrites v_armedWords v_writes a_kind a_many a_block a_keys a_vals a_isFresh a_kindWas a_manyWas a_blockWas a_keysWas a_valsWas a_freshWas v_root v_rootWas v_latest v_epoch a_reached a_oldKeys a_oldVals a_allKeys a_allVals v_oldMany v_allMany a_row a_written v_writtenMany a_path a_place v_depth a_freeRow v_isOther v_moved a_bothKeys a_bothVals v_leafDepth v_found v_lastKey v_hasLast, MA9 a_disk cI (w * b) d, MA9 a_kind cI 140 k, MA9 a_many cI 140 mm, MA9 a_keys cI 3360 ks, MA9 a_vals cI 3360 vl, MA9 a_block cI 140 bl, MA9 a_isFresh cZ 140 fr] s.heap := hP
      replace hD : va_D A [MO9 h0 (nI w) (nI b) (nI lm) (nI cm) (nI li) (nI ci) a_disk v_isDown v_isArmed v_armedWrites v_armedWords v_writes a_kind a_many a_block a_keys a_vals a_isFresh a_kindWas a_manyWas a_blockWas a_keysWas a_valsWas a_freshWas v_root v_rootWas v_latest v_epoch a_reached a_oldKeys a_oldVals a_allKeys a_allVals v_oldMany v_allMany a_row a_written v_writtenMany a_path a_place v_depth a_freeRow v_isOther v_moved a_bothKeys a_bothVals v_leafDepth v_found v_lastKey v_hasLast, MA9 a_disk cI (w * b) d, MA9 a_kind cI 140 k, MA9 a_many cI 140 mm, MA9 a_keys cI 3360 ks, MA9 a_vals cI 3360 vl, MA9 a_block cI 140 bl, MA9 a_isFresh cZ 140 fr] := hD
      refine lv_aload_n hx hb dX9_reads_0 rfl (lv_at hl 0 rfl) ?_
      have hdn := hDt.2.2.2.2.2.1
      have hdn2 := hDt.2.2.2.2.1
      refine lv_aload_n hx hb dX9_reads_1 rfl (lv_at hl 0 rfl) ?_
      refine va_get (D := (dC, dI)) (ci := 9) (v := .ref a_disk) (C := RX9) (T := TX9) (N := 50) hx hb hts k_1 hown hK hP 0 rfl rfl 6 (by decide) k_2 (fun _ h9 => h9) rfl dX9_reads_2 ?_
      refine lv_aload_n hx hb dX9_reads_5 rfl (lv_at hl 0 rfl) ?_
      refine va_get (D := (dC, dI)) (ci := 9) (v := .int (nI w)) (C := RX9) (T := TX9) (N := 50) hx hb hts k_1 hown hK hP 0 rfl rfl 0 (by decide) k_3 (fun _ h9 => h9) rfl dX9_reads_6 ?_
      refine lv_iload_n hx hb dX9_reads_9 rfl (lv_at hl 1 rfl) ?_
      refine lv_imul hx hb dX9_reads_10 ?_
      refine lv_topi (fun z_27 ez_27 => ?_)
      obtain rfl : z_27 = nI (w * q0) := ez_27.trans (pk_mul w q0)
      refine va_iald hx hb hK hP 1 0 rfl rfl (show vp_in (nI (w * q0)) (w * b) from vp_in_nI (by omega) (by omega)) dX9_reads_11 ?_
      refine lv_topi (fun z_28 ez_28 => ?_)
      obtain rfl : z_28 = 2 := ez_28.trans ((congrArg d (nI_clamp (by omega))).trans (hDt.2.2.1))
      have hPc := hP.sub (ws' := [MO9 h0 (nI w) (nI b) (nI lm) (nI cm) (nI li) (nI ci) a_disk v_isDown v_isArmed v_armedWrites v_armedWords v_writes a_kind a_many a_block a_keys a_vals a_isFresh a_kindWas a_manyWas a_blockWas a_keysWas a_valsWas a_freshWas v_root v_rootWas v_latest v_epoch a_reached a_oldKeys a_oldVals a_allKeys a_allVals v_oldMany v_allMany a_row a_written v_writtenMany a_path a_place v_depth a_freeRow v_isOther v_moved a_bothKeys a_bothVals v_leafDepth v_found v_lastKey v_hasLast, MA9 a_kind cI 140 k, MA9 a_many cI 140 mm, MA9 a_block cI 140 bl, MA9 a_isFresh cZ 140 fr]) [0, 2, 3, 6, 7] rfl
      have hDc := hD.sub (ws' := [MO9 h0 (nI w) (nI b) (nI lm) (nI cm) (nI li) (nI ci) a_disk v_isDown v_isArmed v_armedWrites v_armedWords v_writes a_kind a_many a_block a_keys a_vals a_isFresh a_kindWas a_manyWas a_blockWas a_keysWas a_valsWas a_freshWas v_root v_rootWas v_latest v_epoch a_reached a_oldKeys a_oldVals a_allKeys a_allVals v_oldMany v_allMany a_row a_written v_writtenMany a_path a_place v_depth a_freeRow v_isOther v_moved a_bothKeys a_bothVals v_leafDepth v_found v_lastKey v_hasLast, MA9 a_kind cI 140 k, MA9 a_many cI 140 mm, MA9 a_block cI 140 bl, MA9 a_isFresh cZ 140 fr]) [0, 2, 3, 6, 7] (by decide) rfl
      have hKc := hK.sub (tys' := [(cI, .int), (cZ, .boolean)]) [0, 1] rfl
      have hFc := va_free (wc := [MO9 h0 (nI w) (nI b) (nI lm) (nI cm) (nI li) (nI ci) a_disk v_isDown v_isArmed v_armedWrites v_armedWords v_writes a_kind a_many a_block a_keys a_vals a_isFresh a_kindWas a_manyWas a_blockWas a_keysWas a_valsWas a_freshWas v_root v_rootWas v_latest v_epoch a_reached a_oldKeys a_oldVals a_allKeys a_allVals v_oldMany v_allMany a_row a_written v_writtenMany a_path a_place v_depth a_freeRow v_isOther v_moved a_bothKeys a_bothVals v_leafDepth v_found v_lastKey v_hasLast, MA9 a_kind cI 140 k, MA9 a_many cI 140 mm, MA9 a_block cI 140 bl, MA9 a_isFresh cZ 140 fr]) hD hS hA [0, 2, 3, 6, 7] rfl
      refine va_calli (va_runV (As := [.int 2]) (rest := []) ⟨hx, hb, hml, hown, hts⟩ (c_X9_newNode l dC dI s.heap.size h0 w b lm cm li ci a_disk a_kind a_many a_block a_keys a_vals a_isFresh a_kindWas a_manyWas a_blockWas a_keysWas a_valsWas a_freshWas a_reached a_oldKeys a_oldVals a_allKeys a_allVals a_row a_written a_path a_place a_freeRow a_bothKeys a_bothVals v_isDown v_isArmed v_armedWrites v_armedWords v_writes v_root v_rootWas v_latest v_epoch v_oldMany v_allMany v_writtenMany v_depth v_isOther v_moved v_leafDepth v_found v_lastKey v_hasLast cI cZ k mm bl fr 2 x9 (by first | assumption | omega | decide) (by first | assumption | omega | decide)) (cwV 1 hts g_X9_reads_X9_newNode rfl rfl rfl (by decide +kernel) ⟨(by show 0 + 1 ≤ fu + 1 + 2; omega), (by show 8 + (3 + 11) + (0) ≤ 200 * (fu + 1) + 200; omega)⟩) ⟨fun a U g mk q => by obtain ⟨q0, q1, qP, qK, qD⟩ := q; exact ⟨q0, q1, qP, va_K.moved (u := U) (U := U.calling g mk a) (Vm.Alike.refl U.vm) qK, qD⟩, va_recv hKc hPc (ci := 9) (q0 := 0) rfl rfl, fun U hU hW => ⟨rfl, by rw [hU], by rw [hU]; exact hPc, va_K.moved hW.alike hKc, hDc.weaken (fun _ _ _ _ => trivial)⟩⟩ rfl rfl hl.1 rfl (lv_room (Nat.le_of_ble_eq_true rfl)) dX9_reads_12 ⟨(show 0 + 0 ≤ 0 by omega), (show 0 + 0 ≤ 0 by omega)⟩) hS (fun q _ h => hFc q h) hFc (fun r_29 u t H1 locs ht hvm hw hB hz1 hk1 hS9 => ?_)
      replace hS := hS9
      clear hS9
      obtain ⟨kz, mz, bz, fz, zz⟩ := u
      obtain ⟨hP1, hK1, hD1⟩ := hB
      rw [ht] at hP1
      replace hK1 := va_K.moved hvm.symm hK1
      try dsimp only at hw
      obtain ⟨hP9, hD9⟩ := va_join (wr := [MA9 a_disk cI (w * b) d, MA9 a_keys cI 3360 ks, MA9 a_vals cI 3360 vl]) (w1 := [MO9 h0 (nI w) (nI b) (nI lm) (nI cm) (nI li) (nI ci) a_disk v_isDown v_isArmed v_armedWrites v_armedWords v_writes a_kind a_many a_block a_keys a_vals a_isFresh a_kindWas a_manyWas a_blockWas a_keysWas a_valsWas a_freshWas v_root v_rootWas v_latest v_epoch a_reached a_oldKeys a_oldVals a_allKeys a_allVals v_oldMany v_allMany a_row a_written v_writtenMany a_path a_place v_depth a_freeRow v_isOther v_moved a_bothKeys a_bothVals v_leafDepth v_found v_lastKey v_hasLast, MA9 a_kind cI 140 kz, MA9 a_many cI 140 mz, MA9 a_block cI 140 bz, MA9 a_isFresh cZ 140 fz]) hP hD [0, 2, 3, 6, 7] [1, 4, 5] rfl rfl (by decide) (by decide) hk1 hFc hP1 hD1
      replace hP := hP9
      replace hD := hD9
      clear hP9 hD9
      replace hK := (hK.sub (tys' := []) [] rfl).app hK1
      clear hP1 hD1 hK1 hPc hDc hKc hFc hk1 hz1 hvm ht
      generalize H1 = H at hP hS ⊢
      replace hP : va_P (dC, dI) vwCl [MA9 a_disk cI (w * b) d, MA9 a_keys cI 3360 ks, MA9 a_vals cI 3360 vl, MO9 h0 (nI w) (nI b) (nI lm) (nI cm) (nI li) (nI ci) a_disk v_isDown v_isArmed v_armedWrites v_armedWords v_writes a_kind a_many a_block a_keys a_vals a_isFresh a_kindWas a_manyWas a_blockWas a_keysWas a_valsWas a_freshWas v_root v_rootWas v_latest v_epoch a_reached a_oldKeys a_oldVals a_allKeys a_allVals v_oldMany v_allMany a_row a_written v_writtenMany a_path a_place v_depth a_freeRow v_isOther v_moved a_bothKeys a_bothVals v_leafDepth v_found v_lastKey v_hasLast, MA9 a_kind cI 140 kz, MA9 a_many cI 140 mz, MA9 a_block cI 140 bz, MA9 a_isFresh cZ 140 fz] H := hP
      replace hD : va_D A [MA9 a_disk cI (w * b) d, MA9 a_keys cI 3360 ks, MA9 a_vals cI 3360 vl, MO9 h0 (nI w) (nI b) (nI lm) (nI cm) (nI li) (nI ci) a_disk v_isDown v_isArmed v_armedWrites v_armedWords v_writes a_kind a_many a_block a_keys a_vals a_isFresh a_kindWas a_manyWas a_blockWas a_keysWas a_valsWas a_freshWas v_root v_rootWas v_latest v_epoch a_reached a_oldKeys a_oldVals a_allKeys a_allVals v_oldMany v_allMany a_row a_written v_writtenMany a_path a_place v_depth a_freeRow v_isOther v_moved a_bothKeys a_bothVals v_leafDepth v_found v_lastKey v_hasLast, MA9 a_kind cI 140 kz, MA9 a_many cI 140 mz, MA9 a_block cI 140 bz, MA9 a_isFresh cZ 140 fz] := hD
      replace hK : va_K (dC, dI) vwCl [(cI, .int), (cZ, .boolean)] s := hK
      have hw_r_29 := hw
      obtain rfl : r_29 = nI zz := hw.1
      have hN9 := hw.2
      have hzz := hN9.1
      have hfb : ∀ j, j < 140 → fz j = 0 ∨ fz j = 1 := by rw [hN9.2.2.2.2.2]; exact bo_upd hfr (Or.inl rfl)
      refine lv_istore_n (lv' := [(2, .int (nI zz)), (0, .ref h0), (1, .int (nI q0))]) hx hb dX9_reads_15 rfl hl (by decide) rfl (fun ls hl9 => ?_)
      replace hl := hl9
      clear hl9
      refine lv_aload_n hx hb dX9_reads_16 rfl (lv_at hl 1 rfl) ?_
      refine va_get (D := (dC, dI)) (ci := 9) (v := .ref a_block) (C := RX9) (T := TX9) (N := 50) hx hb hts k_1 hown hK hP 3 rfl rfl 14 (by decide) k_4 (fun _ h9 => h9) rfl dX9_reads_17 ?_
      refine lv_iload_n hx hb dX9_reads_20 rfl (lv_at hl 0 rfl) ?_
      refine lv_iload_n hx hb dX9_reads_21 rfl (lv_at hl 2 rfl) ?_
      refine va_iast hx hb hK hP hD hS 6 0 rfl rfl (show vp_in (nI zz) 140 from vp_in_nI (by omega) (by omega)) dX9_reads_22 (fun H locs hP9 hD9 hS9 => ?_)
      replace hP := hP9
      replace hD := hD9
      replace hS := hS9
      clear hP9 hD9 hS9
      replace hP : va_P (dC, dI) vwCl [MA9 a_disk cI (w * b) d, MA9 a_keys cI 3360 ks, MA9 a_vals cI 3360 vl, MO9 h0 (nI w) (nI b) (nI lm) (nI cm) (nI li) (nI ci) a_disk v_isDown v_isArmed v_armedWrites v_armedWords v_writes a_kind a_many a_block a_keys a_vals a_isFresh a_kindWas a_manyWas a_blockWas a_keysWas a_valsWas a_freshWas v_root v_rootWas v_latest v_epoch a_reached a_oldKeys a_oldVals a_allKeys a_allVals v_oldMany v_allMany a_row a_written v_writtenMany a_path a_place v_depth a_freeRow v_isOther v_moved a_bothKeys a_bothVals v_leafDepth v_found v_lastKey v_hasLast, MA9 a_kind cI 140 kz, MA9 a_many cI 140 mz, MA9 a_block cI 140 (upd bz ((nI zz).toNatClampNeg) (nI q0)), MA9 a_isFresh cZ 140 fz] H := hP
      replace hD : va_D A [MA9 a_disk cI (w * b) d, MA9 a_keys cI 3360 ks, MA9 a_vals cI 3360 vl, MO9 h0 (nI w) (nI b) (nI lm) (nI cm) (nI li) (nI ci) a_disk v_isDown v_isArmed v_armedWrites v_armedWords v_writes a_kind a_many a_block a_keys a_vals a_isFresh a_kindWas a_manyWas a_blockWas a_keysWas a_valsWas a_freshWas v_root v_rootWas v_latest v_epoch a_reached a_oldKeys a_oldVals a_allKeys a_allVals v_oldMany v_allMany a_row a_written v_writtenMany a_path a_place v_depth a_freeRow v_isOther v_moved a_bothKeys a_bothVals v_leafDepth v_found v_lastKey v_hasLast, MA9 a_kind cI 140 kz, MA9 a_many cI 140 mz, MA9 a_block cI 140 (upd bz ((nI zz).toNatClampNeg) (nI q0)), MA9 a_isFresh cZ 140 fz] := hD
      rw [show (nI zz).toNatClampNeg = zz from nI_clamp (by omega)] at hP hD
      obtain ⟨b1, eb1⟩ : ∃ g9, g9 = upd bz zz (nI q0) := ⟨_, rfl⟩
      rw [← eb1] at hP hD
      refine lv_aload_n hx hb dX9_reads_23 rfl (lv_at hl 1 rfl) ?_
      refine va_get (D := (dC, dI)) (ci := 9) (v := .ref a_many) (C := RX9) (T := TX9) (N := 50) hx hb hts k_1 hown hK hP 3 rfl rfl 13 (by decide) k_5 (fun _ h9 => h9) rfl dX9_reads_24 ?_
      refine lv_iload_n hx hb dX9_reads_27 rfl (lv_at hl 0 rfl) ?_
      refine lv_aload_n hx hb dX9_reads_28 rfl (lv_at hl 1 rfl) ?_
      refine va_get (D := (dC, dI)) (ci := 9) (v := .ref a_disk) (C := RX9) (T := TX9) (N := 50) hx hb hts k_1 hown hK hP 3 rfl rfl 6 (by decide) k_2 (fun _ h9 => h9) rfl dX9_reads_29 ?_
      refine lv_aload_n hx hb dX9_reads_32 rfl (lv_at hl 1 rfl) ?_
      refine va_get (D := (dC, dI)) (ci := 9) (v := .int (nI w)) (C := RX9) (T := TX9) (N := 50) hx hb hts k_1 hown hK hP 3 rfl rfl 0 (by decide) k_3 (fun _ h9 => h9) rfl dX9_reads_33 ?_
      refine lv_iload_n hx hb dX9_reads_36 rfl (lv_at hl 2 rfl) ?_
      refine lv_imul hx hb dX9_reads_37 ?_
      refine lv_topi (fun z_30 ez_30 => ?_)
      obtain rfl : z_30 = nI (w * q0) := ez_30.trans (pk_mul w q0)
      refine lv_iconst (v := 1) hx hb dX9_reads_38 (by decide) ?_
      refine lv_iadd hx hb dX9_reads_39 ?_
      refine lv_topi (fun z_31 ez_31 => ?_)
      obtain rfl : z_31 = nI (w * q0 + 1) := ez_31.trans (nI_add (w * q0) 1)
      refine va_iald hx hb hK hP 0 0 rfl rfl (show vp_in (nI (w * q0 + 1)) (w * b) from vp_in_nI (by omega) (by omega)) dX9_reads_40 ?_
      refine lv_topi (fun z_32 ez_32 => ?_)
      obtain rfl : z_32 = nI (dn d w q0) := ez_32.trans ((congrArg d (nI_clamp (by omega))).trans (hDt.2.2.2.1))
      refine va_iast hx hb hK hP hD hS 5 0 rfl rfl (show vp_in (nI zz) 140 from vp_in_nI (by omega) (by omega)) dX9_reads_41 (fun H locs hP9 hD9 hS9 => ?_)
      replace hP := hP9
      replace hD := hD9
      replace hS := hS9
      clear hP9 hD9 hS9
      replace hP : va_P (dC, dI) vwCl [MA9 a_disk cI (w * b) d, MA9 a_keys cI 3360 ks, MA9 a_vals cI 3360 vl, MO9 h0 (nI w) (nI b) (nI lm) (nI cm) (nI li) (nI ci) a_disk v_isDown v_isArmed v_armedWrites v_armedWords v_writes a_kind a_many a_block a_keys a_vals a_isFresh a_kindWas a_manyWas a_blockWas a_keysWas a_valsWas a_freshWas v_root v_rootWas v_latest v_epoch a_reached a_oldKeys a_oldVals a_allKeys a_allVals v_oldMany v_allMany a_row a_written v_writtenMany a_path a_place v_depth a_freeRow v_isOther v_moved a_bothKeys a_bothVals v_leafDepth v_found v_lastKey v_hasLast, MA9 a_kind cI 140 kz, MA9 a_many cI 140 (upd mz ((nI zz).toNatClampNeg) (nI (dn d w q0))), MA9 a_block cI 140 b1, MA9 a_isFresh cZ 140 fz] H := hP
      replace hD : va_D A [MA9 a_disk cI (w * b) d, MA9 a_keys cI 3360 ks, MA9 a_vals cI 3360 vl, MO9 h0 (nI w) (nI b) (nI lm) (nI cm) (nI li) (nI ci) a_disk v_isDown v_isArmed v_armedWrites v_armedWords v_writes a_kind a_many a_block a_keys a_vals a_isFresh a_kindWas a_manyWas a_blockWas a_keysWas a_valsWas a_freshWas v_root v_rootWas v_latest v_epoch a_reached a_oldKeys a_oldVals a_allKeys a_allVals v_oldMany v_allMany a_row a_written v_writtenMany a_path a_place v_depth a_freeRow v_isOther v_moved a_bothKeys a_bothVals v_leafDepth v_found v_lastKey v_hasLast, MA9 a_kind cI 140 kz, MA9 a_many cI 140 (upd mz ((nI zz).toNatClampNeg) (nI (dn d w q0))), MA9 a_block cI 140 b1, MA9 a_isFresh cZ 140 fz] := hD
      rw [show (nI zz).toNatClampNeg = zz from nI_clamp (by omega)] at hP hD
      obtain ⟨m1, em1⟩ : ∃ g9, g9 = upd mz zz (nI (dn d w q0)) := ⟨_, rfl⟩
      rw [← em1] at hP hD
      refine lv_iconst (v := 0) hx hb dX9_reads_42 (by decide) ?_
      refine lv_istore_n (lv' := [(3, .int 0), (2, .int (nI zz)), (0, .ref h0), (1, .int (nI q0))]) hx hb dX9_reads_43 rfl hl (by decide) rfl (fun ls hl9 => ?_)
      replace hl := hl9
      clear hl9
      refine jn_cut (P := fun Q => ∀ (nf i : Nat) (kv : Nat → Int32) (mv : Nat → Int32) (ksv : Nat → Int32) (vv : Nat → Int32) (bv : Nat → Int32) (fv : Nat → Int32) (H : Heap) (locs : List Loc) (ls : Array Slot), i ≤ dn d w q0 → dn d w q0 + 1 ≤ i + nf → (RdL U k mm vl bl kv mv vv bv b d w q0 (h8 + 1) zz (dn d w q0) i 2 kn nn L pa ch) → (∀ j, j < 140 → fv j = 0 ∨ fv j = 1) → va_P (dC, dI) vwCl [MA9 a_disk cI (w * b) d, MA9 a_keys cI 3360 ksv, MA9 a_vals cI 3360 vv, MO9 h0 (nI w) (nI b) (nI lm) (nI cm) (nI li) (nI ci) a_disk v_isDown v_isArmed v_armedWrites v_armedWords v_writes a_kind a_many a_block a_keys a_vals a_isFresh a_kindWas a_manyWas a_blockWas a_keysWas a_valsWas a_freshWas v_root v_rootWas v_latest v_epoch a_reached a_oldKeys a_oldVals a_allKeys a_allVals v_oldMany v_allMany a_row a_written v_writtenMany a_path a_place v_depth a_freeRow v_isOther v_moved a_bothKeys a_bothVals v_leafDepth v_found v_lastKey v_hasLast, MA9 a_kind cI 140 kv, MA9 a_many cI 140 mv, MA9 a_block cI 140 bv, MA9 a_isFresh cZ 140 fv] H → va_D A [MA9 a_disk cI (w * b) d, MA9 a_keys cI 3360 ksv, MA9 a_vals cI 3360 vv, MO9 h0 (nI w) (nI b) (nI lm) (nI cm) (nI li) (nI ci) a_disk v_isDown v_isArmed v_armedWrites v_armedWords v_writes a_kind a_many a_block a_keys a_vals a_isFresh a_kindWas a_manyWas a_blockWas a_keysWas a_valsWas a_freshWas v_root v_rootWas v_latest v_epoch a_reached a_oldKeys a_oldVals a_allKeys a_allVals v_oldMany v_allMany a_row a_written v_writtenMany a_path a_place v_depth a_freeRow v_isOther v_moved a_bothKeys a_bothVals v_leafDepth v_found v_lastKey v_hasLast, MA9 a_kind cI 140 kv, MA9 a_many cI 140 mv, MA9 a_block cI 140 bv, MA9 a_isFresh cZ 140 fv] → va_S A s.heap H locs → lv_has ls 4 [(0, .ref h0), (1, .int (nI q0)), (2, .int (nI zz)), (3, .int (nI i))] → W p l e (headSpec v_X9_reads ({ frames := fu + 1 + 2, cells := 0, slots := 0, locals := 200 * (fu + 1) + 200 } : Room)).room s m ([.ref h0, .int (nI q0)] : List Value).toArray below meth c H locs 0 0 Q (F0 m 44 ls [])) ?_ (fun loop_44 => ?_)
      · intro nf
        induction nf with
        | zero =>
          intro i kv mv ksv vv bv fv H locs ls h1 h2
          exact absurd h2 (by omega)
        | succ nf ih_44 =>
          intro i kv mv ksv vv bv fv H locs ls hi hn hrl hfb hP hD hS hl
          refine lv_iload_n hx hb dX9_reads_44 rfl (lv_at hl 3 rfl) ?_
          refine lv_aload_n hx hb dX9_reads_45 rfl (lv_at hl 0 rfl) ?_
          refine va_get (D := (dC, dI)) (ci := 9) (v := .ref a_many) (C := RX9) (T := TX9) (N := 50) hx hb hts k_1 hown hK hP 3 rfl rfl 13 (by decide) k_5 (fun _ h9 => h9) rfl dX9_reads_46 ?_
          refine lv_iload_n hx hb dX9_reads_49 rfl (lv_at hl 2 rfl) ?_
          refine va_iald hx hb hK hP 5 0 rfl rfl (show vp_in (nI zz) 140 from vp_in_nI (by omega) (by omega)) dX9_reads_50 ?_
          refine lv_topi (fun z_33 ez_33 => ?_)
          obtain rfl : z_33 = nI (dn d w q0) := ez_33.trans ((congrArg mv (nI_clamp (by omega))).trans (hrl.2.1.2.1))
          refine lv_icmp_ge (tgt := 193) hx hb dX9_reads_51 (by decide) (fun c_34 => ?_) (fun c_34 => ?_)
          · have n_c_34 : (dn d w q0) ≤ i := (nI_leI (a := dn d w q0) (b := i) (by omega) (by omega)).mp c_34
            refine lv_iload_n hx hb dX9_reads_193 rfl (lv_at hl 2 rfl) ?_
            have hP9 := hP.sub (ws' := [MO9 h0 (nI w) (nI b) (nI lm) (nI cm) (nI li) (nI ci) a_disk v_isDown v_isArmed v_armedWrites v_armedWords v_writes a_kind a_many a_block a_keys a_vals a_isFresh a_kindWas a_manyWas a_blockWas a_keysWas a_valsWas a_freshWas v_root v_rootWas v_latest v_epoch a_reached a_oldKeys a_oldVals a_allKeys a_allVals v_oldMany v_allMany a_row a_written v_writtenMany a_path a_place v_depth a_freeRow v_isOther v_moved a_bothKeys a_bothVals v_leafDepth v_found v_lastKey v_hasLast, MA9 a_disk cI (w * b) d, MA9 a_kind cI 140 kv, MA9 a_many cI 140 mv, MA9 a_keys cI 3360 ksv, MA9 a_vals cI 3360 vv, MA9 a_block cI 140 bv, MA9 a_isFresh cZ 140 fv]) [3, 0, 4, 5, 1, 2, 6, 7] rfl
            have hD9 := hD.sub (ws' := [MO9 h0 (nI w) (nI b) (nI lm) (nI cm) (nI li) (nI ci) a_disk v_isDown v_isArmed v_armedWrites v_armedWords v_writes a_kind a_many a_block a_keys a_vals a_isFresh a_kindWas a_manyWas a_blockWas a_keysWas a_valsWas a_freshWas v_root v_rootWas v_latest v_epoch a_reached a_oldKeys a_oldVals a_allKeys a_allVals v_oldMany v_allMany a_row a_written v_writtenMany a_path a_place v_depth a_freeRow v_isOther v_moved a_bothKeys a_bothVals v_leafDepth v_found v_lastKey v_hasLast, MA9 a_disk cI (w * b) d, MA9 a_kind cI 140 kv, MA9 a_many cI 140 mv, MA9 a_keys cI 3360 ksv, MA9 a_vals cI 3360 vv, MA9 a_block cI 140 bv, MA9 a_isFresh cZ 140 fv]) [3, 0, 4, 5, 1, 2, 6, 7] (by decide) rfl
            have hK9 := hK.sub (tys' := [(cI, .int), (cZ, .boolean)]) [0, 1] rfl
            exact W.iret (v := (nI zz)) hx hb hr (fun t ht hW => ⟨⟨(nI zz), (kv, mv, ksv, vv, bv, fv, zz), rfl, ⟨rfl, rdL_endI hrl (by omega) hi (by omega) (by omega), hfb⟩, by rw [ht]; exact hP9, va_K.moved hW.alike hK9, hD9⟩, hS.F ht⟩) hS.2.2 dX9_reads_194
          · have n_c_34 : ¬ (dn d w q0) ≤ i := fun h9 => c_34 ((nI_leI (a := dn d w q0) (b := i) (by omega) (by omega)).mpr h9)
            refine lv_aload_n hx hb dX9_reads_54 rfl (lv_at hl 0 rfl) ?_
            refine va_get (D := (dC, dI)) (ci := 9) (v := .ref a_kind) (C := RX9) (T := TX9) (N := 50) hx hb hts k_1 hown hK hP 3 rfl rfl 12 (by decide) k_6 (fun _ h9 => h9) rfl dX9_reads_55 ?_
            refine lv_iload_n hx hb dX9_reads_58 rfl (lv_at hl 2 rfl) ?_
            refine va_iald hx hb hK hP 4 0 rfl rfl (show vp_in (nI zz) 140 from vp_in_nI (by omega) (by omega)) dX9_reads_59 ?_
            refine lv_topi (fun z_35 ez_35 => ?_)
            obtain rfl : z_35 = 2 := ez_35.trans ((congrArg kv (nI_clamp (by omega))).trans (hrl.2.1.2.2))
            refine lv_iconst (v := 1) hx hb dX9_reads_60 (by decide) ?_
            refine lv_icmp_ne (tgt := 123) hx hb dX9_reads_61 (by decide) (fun c_36 => ?_) (fun c_36 => ?_)
            rotate_left
            · exact absurd c_36 (by decide)
            refine jn_cut (P := fun Q => ∀ (ky : Nat → Int32) (H : Heap) (locs : List Loc) (ls : Array Slot), va_P (dC, dI) vwCl [MA9 a_disk cI (w * b) d, MA9 a_keys cI 3360 ky, MA9 a_vals cI 3360 vv, MO9 h0 (nI w) (nI b) (nI lm) (nI cm) (nI li) (nI ci) a_disk v_isDown v_isArmed v_armedWrites v_armedWords v_writes a_kind a_many a_block a_keys a_vals a_isFresh a_kindWas a_manyWas a_blockWas a_keysWas a_valsWas a_freshWas v_root v_rootWas v_latest v_epoch a_reached a_oldKeys a_oldVals a_allKeys a_allVals v_oldMany v_allMany a_row a_written v_writtenMany a_path a_place v_depth a_freeRow v_isOther v_moved a_bothKeys a_bothVals v_leafDepth v_found v_lastKey v_hasLast, MA9 a_kind cI 140 kv, MA9 a_many cI 140 mv, MA9 a_block cI 140 bv, MA9 a_isFresh cZ 140 fv] H → va_D A [MA9 a_disk cI (w * b) d, MA9 a_keys cI 3360 ky, MA9 a_vals cI 3360 vv, MO9 h0 (nI w) (nI b) (nI lm) (nI cm) (nI li) (nI ci) a_disk v_isDown v_isArmed v_armedWrites v_armedWords v_writes a_kind a_many a_block a_keys a_vals a_isFresh a_kindWas a_manyWas a_blockWas a_keysWas a_valsWas a_freshWas v_root v_rootWas v_latest v_epoch a_reached a_oldKeys a_oldVals a_allKeys a_allVals v_oldMany v_allMany a_row a_written v_writtenMany a_path a_place v_depth a_freeRow v_isOther v_moved a_bothKeys a_bothVals v_leafDepth v_found v_lastKey v_hasLast, MA9 a_kind cI 140 kv, MA9 a_many cI 140 mv, MA9 a_block cI 140 bv, MA9 a_isFresh cZ 140 fv] → va_S A s.heap H locs → lv_has ls 4 [(0, .ref h0), (1, .int (nI q0)), (2, .int (nI zz)), (3, .int (nI i))] → W p l e (headSpec v_X9_reads ({ frames := fu + 1 + 2, cells := 0, slots := 0, locals := 200 * (fu + 1) + 200 } : Room)).room s m ([.ref h0, .int (nI q0)] : List Value).toArray below meth c H locs 0 0 Q (F0 m 155 ls [])) ?_ (fun jn_37 => ?_)
            · intro ky H locs ls hP hD hS hl
              refine lv_aload_n hx hb dX9_reads_155 rfl (lv_at hl 0 rfl) ?_
              refine va_get (D := (dC, dI)) (ci := 9) (v := .ref a_vals) (C := RX9) (T := TX9) (N := 50) hx hb hts k_1 hown hK hP 3 rfl rfl 16 (by decide) k_8 (fun _ h9 => h9) rfl dX9_reads_156 ?_
              refine lv_bipush (v := 24) hx hb dX9_reads_159 (by decide) ?_
              refine lv_iload_n hx hb dX9_reads_161 rfl (lv_at hl 2 rfl) ?_
              refine lv_imul hx hb dX9_reads_162 ?_
              refine lv_topi (fun z_38 ez_38 => ?_)
              obtain rfl : z_38 = nI (24 * zz) := ez_38.trans (pk_mul 24 zz)
              refine lv_iload_n hx hb dX9_reads_163 rfl (lv_at hl 3 rfl) ?_
              refine lv_iadd hx hb dX9_reads_164 ?_
              refine lv_topi (fun z_39 ez_39 => ?_)
              obtain rfl : z_39 = nI (24 * zz + i) := ez_39.trans (nI_add (24 * zz) i)
              have hA1 := And.intro hrl.1 (And.intro hrl.2.1 (And.intro hrl.2.2.1 hrl.2.2.2.1))
              obtain ⟨kn1, nn1, L1, pa1, ch1, c1, hS1, hG1, hC1⟩ := hrl.2.2.2.2
              obtain ⟨hD1, hN1, hO1⟩ := rdL_child hrl (by omega) hDt hNd hO (by omega)
              refine lv_aload_n hx hb dX9_reads_165 rfl (lv_at hl 0 rfl) ?_
              refine lv_aload_n hx hb dX9_reads_166 rfl (lv_at hl 0 rfl) ?_
              refine va_get (D := (dC, dI)) (ci := 9) (v := .ref a_disk) (C := RX9) (T := TX9) (N := 50) hx hb hts k_1 hown hK hP 3 rfl rfl 6 (by decide) k_2 (fun _ h9 => h9) rfl dX9_reads_167 ?_
              refine lv_aload_n hx hb dX9_reads_170 rfl (lv_at hl 0 rfl) ?_
              refine va_get (D := (dC, dI)) (ci := 9) (v := .int (nI w)) (C := RX9) (T := TX9) (N := 50) hx hb hts k_1 hown hK hP 3 rfl rfl 0 (by decide) k_3 (fun _ h9 => h9) rfl dX9_reads_171 ?_
              refine lv_iload_n hx hb dX9_reads_174 rfl (lv_at hl 1 rfl) ?_
              refine lv_imul hx hb dX9_reads_175 ?_
              refine lv_topi (fun z_40 ez_40 => ?_)
              obtain rfl : z_40 = nI (w * q0) := ez_40.trans (pk_mul w q0)
              refine lv_iconst (v := 2) hx hb dX9_reads_176 (by decide) ?_
              refine lv_iadd hx hb dX9_reads_177 ?_
              refine lv_topi (fun z_41 ez_41 => ?_)
              obtain rfl : z_41 = nI (w * q0 + 2) := ez_41.trans (nI_add (w * q0) 2)
              refine lv_iconst (v := 2) hx hb dX9_reads_178 (by decide) ?_
              refine lv_iload_n hx hb dX9_reads_179 rfl (lv_at hl 3 rfl) ?_
              refine lv_imul hx hb dX9_reads_180 ?_
              refine lv_topi (fun z_42 ez_42 => ?_)
              obtain rfl : z_42 = nI (2 * i) := ez_42.trans (pk_mul 2 i)
              refine lv_iadd hx hb dX9_reads_181 ?_
              refine lv_topi (fun z_43 ez_43 => ?_)
              obtain rfl : z_43 = nI (w * q0 + 2 + (2 * i)) := ez_43.trans (nI_add (w * q0 + 2) (2 * i))
              refine va_iald hx hb hK hP 0 0 rfl rfl (show vp_in (nI (w * q0 + 2 + (2 * i))) (w * b) from vp_in_nI (by omega) (by omega)) dX9_reads_182 ?_
              refine lv_topi (fun z_44 ez_44 => ?_)
              obtain rfl : z_44 = nI (dch d w q0 i) := ez_44.trans ((congrArg d (nI_clamp (by omega))).trans ((hDt.2.2.2.2.2.2 i (by omega)).1))
              have hPc := hP.sub (ws' := [MO9 h0 (nI w) (nI b) (nI lm) (nI cm) (nI li) (nI ci) a_disk v_isDown v_isArmed v_armedWrites v_armedWords v_writes a_kind a_many a_block a_keys a_vals a_isFresh a_kindWas a_manyWas a_blockWas a_keysWas a_valsWas a_freshWas v_root v_rootWas v_latest v_epoch a_reached a_oldKeys a_oldVals a_allKeys a_allVals v_oldMany v_allMany a_row a_written v_writtenMany a_path a_place v_depth a_freeRow v_isOther v_moved a_bothKeys a_bothVals v_leafDepth v_found v_lastKey v_hasLast, MA9 a_disk cI (w * b) d, MA9 a_kind cI 140 kv, MA9 a_many cI 140 mv, MA9 a_keys cI 3360 ky, MA9 a_vals cI 3360 vv, MA9 a_block cI 140 bv, MA9 a_isFresh cZ 140 fv]) [3, 0, 4, 5, 1, 2, 6, 7] rfl
              have hDc := hD.sub (ws' := [MO9 h0 (nI w) (nI b) (nI lm) (nI cm) (nI li) (nI ci) a_disk v_isDown v_isArmed v_armedWrites v_armedWords v_writes a_kind a_many a_block a_keys a_vals a_isFresh a_kindWas a_manyWas a_blockWas a_keysWas a_valsWas a_freshWas v_root v_rootWas v_latest v_epoch a_reached a_oldKeys a_oldVals a_allKeys a_allVals v_oldMany v_allMany a_row a_written v_writtenMany a_path a_place v_depth a_freeRow v_isOther v_moved a_bothKeys a_bothVals v_leafDepth v_found v_lastKey v_hasLast, MA9 a_disk cI (w * b) d, MA9 a_kind cI 140 kv, MA9 a_many cI 140 mv, MA9 a_keys cI 3360 ky, MA9 a_vals cI 3360 vv, MA9 a_block cI 140 bv, MA9 a_isFresh cZ 140 fv]) [3, 0, 4, 5, 1, 2, 6, 7] (by decide) rfl
              have hKc := hK.sub (tys' := [(cI, .int), (cZ, .boolean)]) [0, 1] rfl
              have hFc := va_free (wc := [MO9 h0 (nI w) (nI b) (nI lm) (nI cm) (nI li) (nI ci) a_disk v_isDown v_isArmed v_armedWrites v_armedWords v_writes a_kind a_many a_block a_keys a_vals a_isFresh a_kindWas a_manyWas a_blockWas a_keysWas a_valsWas a_freshWas v_root v_rootWas v_latest v_epoch a_reached a_oldKeys a_oldVals a_allKeys a_allVals v_oldMany v_allMany a_row a_written v_writtenMany a_path a_place v_depth a_freeRow v_isOther v_moved a_bothKeys a_bothVals v_leafDepth v_found v_lastKey v_hasLast, MA9 a_disk cI (w * b) d, MA9 a_kind cI 140 kv, MA9 a_many cI 140 mv, MA9 a_keys cI 3360 ky, MA9 a_vals cI 3360 vv, MA9 a_block cI 140 bv, MA9 a_isFresh cZ 140 fv]) hD hS hA [3, 0, 4, 5, 1, 2, 6, 7] rfl
              refine va_calli (va_runV (As := [.int (nI (dch d w q0 i))]) (rest := [.int (nI (24 * zz + i)), .ref a_vals]) ⟨hx, hb, hml, hown, hts⟩ (ihr H.size h0 w b lm cm li ci a_disk a_kind a_many a_block a_keys a_vals a_isFresh a_kindWas a_manyWas a_blockWas a_keysWas a_valsWas a_freshWas a_reached a_oldKeys a_oldVals a_allKeys a_allVals a_row a_written a_path a_place a_freeRow a_bothKeys a_bothVals v_isDown v_isArmed v_armedWrites v_armedWords v_writes v_root v_rootWas v_latest v_epoch v_oldMany v_allMany v_writtenMany v_depth v_isOther v_moved v_leafDepth v_found v_lastKey v_hasLast cI cZ d kv mv ky vv bv fv (dch d w q0 i) h8 (fun x => U x ∨ x = zz) kn1 nn1 L1 pa1 ch1 (by first | assumption | omega | decide) (by first | assumption | omega | decide) (by first | assumption | omega | decide) (by first | assumption | omega | decide) (by first | assumption | omega | decide) (by first | assumption | omega | decide) (by first | assumption | omega | decide) (by first | assumption | omega | decide) (by first | assumption | omega | decide) (by first | assumption | omega | decide) (by first | assumption | omega | decide) (by first | assumption | omega | decide) (by first | assumption | omega | decide) (by first | assumption | omega | decide) (by first | assumption | omega | decide)) (cwV 1 hts g_X9_reads_X9_reads rfl rfl rfl (by decide +kernel) ⟨(by show fu + 2 + 1 ≤ fu + 1 + 2; omega), (by show 8 + (4 + 11) + (200 * fu + 200) ≤ 200 * (fu + 1) + 200; omega)⟩) ⟨fun a U g mk q => by obtain ⟨q0, q1, qP, qK, qD⟩ := q; exact ⟨q0, q1, qP, va_K.moved (u := U) (U := U.calling g mk a) (Vm.Alike.refl U.vm) qK, qD⟩, va_recv hKc hPc (ci := 9) (q0 := 0) rfl rfl, fun U hU hW => ⟨rfl, by rw [hU], by rw [hU]; exact hPc, va_K.moved hW.alike hKc, hDc.weaken (fun _ _ _ _ => trivial)⟩⟩ rfl rfl hl.1 rfl (lv_room (Nat.le_of_ble_eq_true rfl)) dX9_reads_183 ⟨(show 0 + 0 ≤ 0 by omega), (show 0 + 0 ≤ 0 by omega)⟩) hS (fun q _ h => hFc q h) hFc (fun r_45 u t H1 locs ht hvm hw hB hz1 hk1 hS9 => ?_)
              replace hS := hS9
              clear hS9
              obtain ⟨ky2, my2, ksy2, vy2, by2, fy2, zy⟩ := u
              obtain ⟨hP1, hK1, hD1⟩ := hB
              rw [ht] at hP1
              replace hK1 := va_K.moved hvm.symm hK1
              try dsimp only at hw
              obtain ⟨hP9, hD9⟩ := va_join (wr := []) (w1 := [MO9 h0 (nI w) (nI b) (nI lm) (nI cm) (nI li) (nI ci) a_disk v_isDown v_isArmed v_armedWrites v_armedWords v_writes a_kind a_many a_block a_keys a_vals a_isFresh a_kindWas a_manyWas a_blockWas a_keysWas a_valsWas a_freshWas v_root v_rootWas v_latest v_epoch a_reached a_oldKeys a_oldVals a_allKeys a_allVals v_oldMany v_allMany a_row a_written v_writtenMany a_path a_place v_depth a_freeRow v_isOther v_moved a_bothKeys a_bothVals v_leafDepth v_found v_lastKey v_hasLast, MA9 a_disk cI (w * b) d, MA9 a_kind cI 140 ky2, MA9 a_many cI 140 my2, MA9 a_keys cI 3360 ksy2, MA9 a_vals cI 3360 vy2, MA9 a_block cI 140 by2, MA9 a_isFresh cZ 140 fy2]) hP hD [3, 0, 4, 5, 1, 2, 6, 7] [] rfl rfl (by decide) (by decide) hk1 hFc hP1 hD1
              replace hP := hP9
              replace hD := hD9
              clear hP9 hD9
              replace hK := (hK.sub (tys' := []) [] rfl).app hK1
              clear hP1 hD1 hK1 hPc hDc hKc hFc hk1 hz1 hvm ht
              generalize H1 = H at hP hS ⊢
              replace hP : va_P (dC, dI) vwCl [MO9 h0 (nI w) (nI b) (nI lm) (nI cm) (nI li) (nI ci) a_disk v_isDown v_isArmed v_armedWrites v_armedWords v_writes a_kind a_many a_block a_keys a_vals a_isFresh a_kindWas a_manyWas a_blockWas a_keysWas a_valsWas a_freshWas v_root v_rootWas v_latest v_epoch a_reached a_oldKeys a_oldVals a_allKeys a_allVals v_oldMany v_allMany a_row a_written v_writtenMany a_path a_place v_depth a_freeRow v_isOther v_moved a_bothKeys a_bothVals v_leafDepth v_found v_lastKey v_hasLast, MA9 a_disk cI (w * b) d, MA9 a_kind cI 140 ky2, MA9 a_many cI 140 my2, MA9 a_keys cI 3360 ksy2, MA9 a_vals cI 3360 vy2, MA9 a_block cI 140 by2, MA9 a_isFresh cZ 140 fy2] H := hP
              replace hD : va_D A [MO9 h0 (nI w) (nI b) (nI lm) (nI cm) (nI li) (nI ci) a_disk v_isDown v_isArmed v_armedWrites v_armedWords v_writes a_kind a_many a_block a_keys a_vals a_isFresh a_kindWas a_manyWas a_blockWas a_keysWas a_valsWas a_freshWas v_root v_rootWas v_latest v_epoch a_reached a_oldKeys a_oldVals a_allKeys a_allVals v_oldMany v_allMany a_row a_written v_writtenMany a_path a_place v_depth a_freeRow v_isOther v_moved a_bothKeys a_bothVals v_leafDepth v_found v_lastKey v_hasLast, MA9 a_disk cI (w * b) d, MA9 a_kind cI 140 ky2, MA9 a_many cI 140 my2, MA9 a_keys cI 3360 ksy2, MA9 a_vals cI 3360 vy2, MA9 a_block cI 140 by2, MA9 a_isFresh cZ 140 fy2] := hD
              replace hK : va_K (dC, dI) vwCl [(cI, .int), (cZ, .boolean)] s := hK
              have hw_r_45 := hw
              obtain rfl : r_45 = nI zy := hw.1
              have hfb := hw.2.2
              refine va_iast hx hb hK hP hD hS 5 0 rfl rfl (show vp_in (nI (24 * zz + i)) 3360 from vp_in_nI (by omega) (by omega)) dX9_reads_186 (fun H locs hP9 hD9 hS9 => ?_)
              replace hP := hP9
              replace hD := hD9
              replace hS := hS9
              clear hP9 hD9 hS9
              replace hP : va_P (dC, dI) vwCl [MO9 h0 (nI w) (nI b) (nI lm) (nI cm) (nI li) (nI ci) a_disk v_isDown v_isArmed v_armedWrites v_armedWords v_writes a_kind a_many a_block a_keys a_vals a_isFresh a_kindWas a_manyWas a_blockWas a_keysWas a_valsWas a_freshWas v_root v_rootWas v_latest v_epoch a_reached a_oldKeys a_oldVals a_allKeys a_allVals v_oldMany v_allMany a_row a_written v_writtenMany a_path a_place v_depth a_freeRow v_isOther v_moved a_bothKeys a_bothVals v_leafDepth v_found v_lastKey v_hasLast, MA9 a_disk cI (w * b) d, MA9 a_kind cI 140 ky2, MA9 a_many cI 140 my2, MA9 a_keys cI 3360 ksy2, MA9 a_vals cI 3360 (upd vy2 ((nI (24 * zz + i)).toNatClampNeg) (nI zy)), MA9 a_block cI 140 by2, MA9 a_isFresh cZ 140 fy2] H := hP
              replace hD : va_D A [MO9 h0 (nI w) (nI b) (nI lm) (nI cm) (nI li) (nI ci) a_disk v_isDown v_isArmed v_armedWrites v_armedWords v_writes a_kind a_many a_block a_keys a_vals a_isFresh a_kindWas a_manyWas a_blockWas a_keysWas a_valsWas a_freshWas v_root v_rootWas v_latest v_epoch a_reached a_oldKeys a_oldVals a_allKeys a_allVals v_oldMany v_allMany a_row a_written v_writtenMany a_path a_place v_depth a_freeRow v_isOther v_moved a_bothKeys a_bothVals v_leafDepth v_found v_lastKey v_hasLast, MA9 a_disk cI (w * b) d, MA9 a_kind cI 140 ky2, MA9 a_many cI 140 my2, MA9 a_keys cI 3360 ksy2, MA9 a_vals cI 3360 (upd vy2 ((nI (24 * zz + i)).toNatClampNeg) (nI zy)), MA9 a_block cI 140 by2, MA9 a_isFresh cZ 140 fy2] := hD
              rw [show (nI (24 * zz + i)).toNatClampNeg = 24 * zz + i from nI_clamp (by omega)] at hP hD
              obtain ⟨f_46, ef_46⟩ : ∃ g9, g9 = upd vy2 (24 * zz + i) (nI zy) := ⟨_, rfl⟩
              rw [← ef_46] at hP hD
              refine lv_iinc (v := (nI (i + 1))) (lv' := [(3, .int (nI (i + 1))), (0, .ref h0), (1, .int (nI q0)), (2, .int (nI zz))]) hx hb dX9_reads_187 hl (k := 3) rfl (nI_1 i) (by decide) rfl (fun ls hl9 => ?_)
              replace hl := hl9
              clear hl9
              refine lv_goto (tgt := 44) hx hb dX9_reads_190 (by decide) ?_
              exact ih_44 (i + 1) ky2 my2 ksy2 f_46 by2 fy2 _ _ _ (by omega) (by omega) (rdL_step (by omega) hA1 hS1 hG1 hC1 hw_r_45.2.1 ef_46) hfb (hP.sub [1, 4, 5, 0, 2, 3, 6, 7] rfl) (hD.sub [1, 4, 5, 0, 2, 3, 6, 7] (by decide) rfl) hS (lv_sub hl [1, 2, 3, 0] rfl)
            refine lv_iload_n hx hb dX9_reads_123 rfl (lv_at hl 3 rfl) ?_
            refine lv_if_le (tgt := 155) hx hb dX9_reads_124 (by decide) (fun c_47 => ?_) (fun c_47 => ?_)
            · have n_c_47 : i ≤ 0 := (nI_leI (a := i) (b := 0) (by omega) (by omega)).mp c_47
              exact jn_37 ksv _ _ _ hP hD hS (lv_sub hl [0, 1, 2, 3] rfl)
            · have n_c_47 : ¬ i ≤ 0 := fun h9 => c_47 ((nI_leI (a := i) (b := 0) (by omega) (by omega)).mpr h9)
              refine lv_aload_n hx hb dX9_reads_127 rfl (lv_at hl 0 rfl) ?_
              refine va_get (D := (dC, dI)) (ci := 9) (v := .ref a_keys) (C := RX9) (T := TX9) (N := 50) hx hb hts k_1 hown hK hP 3 rfl rfl 15 (by decide) k_7 (fun _ h9 => h9) rfl dX9_reads_128 ?_
              refine lv_bipush (v := 24) hx hb dX9_reads_131 (by decide) ?_
              refine lv_iload_n hx hb dX9_reads_133 rfl (lv_at hl 2 rfl) ?_
              refine lv_imul hx hb dX9_reads_134 ?_
              refine lv_topi (fun z_48 ez_48 => ?_)
              obtain rfl : z_48 = nI (24 * zz) := ez_48.trans (pk_mul 24 zz)
              refine lv_iload_n hx hb dX9_reads_135 rfl (lv_at hl 3 rfl) ?_
              refine lv_iadd hx hb dX9_reads_136 ?_
              refine lv_topi (fun z_49 ez_49 => ?_)
              obtain rfl : z_49 = nI (24 * zz + i) := ez_49.trans (nI_add (24 * zz) i)
              refine lv_aload_n hx hb dX9_reads_137 rfl (lv_at hl 0 rfl) ?_
              refine va_get (D := (dC, dI)) (ci := 9) (v := .ref a_disk) (C := RX9) (T := TX9) (N := 50) hx hb hts k_1 hown hK hP 3 rfl rfl 6 (by decide) k_2 (fun _ h9 => h9) rfl dX9_reads_138 ?_
              refine lv_aload_n hx hb dX9_reads_141 rfl (lv_at hl 0 rfl) ?_
              refine va_get (D := (dC, dI)) (ci := 9) (v := .int (nI w)) (C := RX9) (T := TX9) (N := 50) hx hb hts k_1 hown hK hP 3 rfl rfl 0 (by decide) k_3 (fun _ h9 => h9) rfl dX9_reads_142 ?_
              refine lv_iload_n hx hb dX9_reads_145 rfl (lv_at hl 1 rfl) ?_
              refine lv_imul hx hb dX9_reads_146 ?_
              refine lv_topi (fun z_50 ez_50 => ?_)
              obtain rfl : z_50 = nI (w * q0) := ez_50.trans (pk_mul w q0)
              refine lv_iconst (v := 1) hx hb dX9_reads_147 (by decide) ?_
              refine lv_iadd hx hb dX9_reads_148 ?_
              refine lv_topi (fun z_51 ez_51 => ?_)
              obtain rfl : z_51 = nI (w * q0 + 1) := ez_51.trans (nI_add (w * q0) 1)
              refine lv_iconst (v := 2) hx hb dX9_reads_149 (by decide) ?_
              refine lv_iload_n hx hb dX9_reads_150 rfl (lv_at hl 3 rfl) ?_
              refine lv_imul hx hb dX9_reads_151 ?_
              refine lv_topi (fun z_52 ez_52 => ?_)
              obtain rfl : z_52 = nI (2 * i) := ez_52.trans (pk_mul 2 i)
              refine lv_iadd hx hb dX9_reads_152 ?_
              refine lv_topi (fun z_53 ez_53 => ?_)
              obtain rfl : z_53 = nI (w * q0 + 1 + (2 * i)) := ez_53.trans (nI_add (w * q0 + 1) (2 * i))
              refine va_iald hx hb hK hP 0 0 rfl rfl (show vp_in (nI (w * q0 + 1 + (2 * i))) (w * b) from vp_in_nI (by omega) (by omega)) dX9_reads_153 ?_
              refine lv_topi (fun z_54 ez_54 => ?_)
              obtain rfl : z_54 = d (w * q0 + 1 + (2 * i)) := ez_54.trans (congrArg d (nI_clamp (by omega)))
              refine va_iast hx hb hK hP hD hS 1 0 rfl rfl (show vp_in (nI (24 * zz + i)) 3360 from vp_in_nI (by omega) (by omega)) dX9_reads_154 (fun H locs hP9 hD9 hS9 => ?_)
              replace hP := hP9
              replace hD := hD9
              replace hS := hS9
              clear hP9 hD9 hS9
              replace hP : va_P (dC, dI) vwCl [MA9 a_disk cI (w * b) d, MA9 a_keys cI 3360 (upd ksv ((nI (24 * zz + i)).toNatClampNeg) (d (w * q0 + 1 + (2 * i)))), MA9 a_vals cI 3360 vv, MO9 h0 (nI w) (nI b) (nI lm) (nI cm) (nI li) (nI ci) a_disk v_isDown v_isArmed v_armedWrites v_armedWords v_writes a_kind a_many a_block a_keys a_vals a_isFresh a_kindWas a_manyWas a_blockWas a_keysWas a_valsWas a_freshWas v_root v_rootWas v_latest v_epoch a_reached a_oldKeys a_oldVals a_allKeys a_allVals v_oldMany v_allMany a_row a_written v_writtenMany a_path a_place v_depth a_freeRow v_isOther v_moved a_bothKeys a_bothVals v_leafDepth v_found v_lastKey v_hasLast, MA9 a_kind cI 140 kv, MA9 a_many cI 140 mv, MA9 a_block cI 140 bv, MA9 a_isFresh cZ 140 fv] H := hP
              replace hD : va_D A [MA9 a_disk cI (w * b) d, MA9 a_keys cI 3360 (upd ksv ((nI (24 * zz + i)).toNatClampNeg) (d (w * q0 + 1 + (2 * i)))), MA9 a_vals cI 3360 vv, MO9 h0 (nI w) (nI b) (nI lm) (nI cm) (nI li) (nI ci) a_disk v_isDown v_isArmed v_armedWrites v_armedWords v_writes a_kind a_many a_block a_keys a_vals a_isFresh a_kindWas a_manyWas a_blockWas a_keysWas a_valsWas a_freshWas v_root v_rootWas v_latest v_epoch a_reached a_oldKeys a_oldVals a_allKeys a_allVals v_oldMany v_allMany a_row a_written v_writtenMany a_path a_place v_depth a_freeRow v_isOther v_moved a_bothKeys a_bothVals v_leafDepth v_found v_lastKey v_hasLast, MA9 a_kind cI 140 kv, MA9 a_many cI 140 mv, MA9 a_block cI 140 bv, MA9 a_isFresh cZ 140 fv] := hD
              rw [show (nI (24 * zz + i)).toNatClampNeg = 24 * zz + i from nI_clamp (by omega)] at hP hD
              obtain ⟨f_55, ef_55⟩ : ∃ g9, g9 = upd ksv (24 * zz + i) (d (w * q0 + 1 + (2 * i))) := ⟨_, rfl⟩
              rw [← ef_55] at hP hD
              exact jn_37 f_55 _ _ _ hP hD hS (lv_sub hl [0, 1, 2, 3] rfl)
      exact loop_44 ((dn d w q0) + 1) 0 kz m1 ks vl b1 fz _ _ _ (by omega) (by omega) (rdL_start hRS hN9 (by decide) eb1 em1 hqr hO) hfb hP hD hS (lv_sub hl [2, 3, 1, 0] rfl)

theorem dX1_mend_0 : decode cX1_mend 0 = .ok (.iconst 0, 1) := by decide +kernel
theorem dX1_mend_1 : decode cX1_mend 1 = .ok (.iload_n 1, 1) := by decide +kernel
theorem dX1_mend_2 : decode cX1_mend 2 = .ok (.iconst 1, 1) := by decide +kernel
theorem dX1_mend_3 : decode cX1_mend 3 = .ok (.isub, 1) := by decide +kernel
theorem dX1_mend_4 : decode cX1_mend 4 = .ok (.invokestatic 135, 3) := by decide +kernel
theorem dX1_mend_7 : decode cX1_mend 7 = .ok (.istore_n 2, 1) := by decide +kernel
theorem dX1_mend_8 : decode cX1_mend 8 = .ok (.aload_n 0, 1) := by decide +kernel
theorem dX1_mend_9 : decode cX1_mend 9 = .ok (.getfield 42, 3) := by decide +kernel
theorem dX1_mend_12 : decode cX1_mend 12 = .ok (.iload_n 2, 1) := by decide +kernel
theorem dX1_mend_13 : decode cX1_mend 13 = .ok (.invokevirtual 141, 3) := by decide +kernel
theorem dX1_mend_16 : decode cX1_mend 16 = .ok (.istore_n 3, 1) := by decide +kernel
theorem dX1_mend_17 : decode cX1_mend 17 = .ok (.aload_n 0, 1) := by decide +kernel
theorem dX1_mend_18 : decode cX1_mend 18 = .ok (.getfield 42, 3) := by decide +kernel
theorem dX1_mend_21 : decode cX1_mend 21 = .ok (.iload_n 2, 1) := by decide +kernel
theorem dX1_mend_22 : decode cX1_mend 22 = .ok (.iconst 1, 1) := by decide +kernel
theorem dX1_mend_23 : decode cX1_mend 23 = .ok (.iadd, 1) := by decide +kernel
theorem dX1_mend_24 : decode cX1_mend 24 = .ok (.invokevirtual 141, 3) := by decide +kernel
theorem dX1_mend_27 : decode cX1_mend 27 = .ok (.istore 4, 2) := by decide +kernel
theorem dX1_mend_29 : decode cX1_mend 29 = .ok (.iload_n 1, 1) := by decide +kernel
theorem dX1_mend_30 : decode cX1_mend 30 = .ok (.ifCond .le 32, 3) := by decide +kernel
theorem dX1_mend_33 : decode cX1_mend 33 = .ok (.aload_n 0, 1) := by decide +kernel
theorem dX1_mend_34 : decode cX1_mend 34 = .ok (.getfield 39, 3) := by decide +kernel
theorem dX1_mend_37 : decode cX1_mend 37 = .ok (.aload_n 0, 1) := by decide +kernel
theorem dX1_mend_38 : decode cX1_mend 38 = .ok (.getfield 35, 3) := by decide +kernel
theorem dX1_mend_41 : decode cX1_mend 41 = .ok (.invokevirtual 63, 3) := by decide +kernel
theorem dX1_mend_44 : decode cX1_mend 44 = .ok (.aload_n 0, 1) := by decide +kernel
theorem dX1_mend_45 : decode cX1_mend 45 = .ok (.getfield 35, 3) := by decide +kernel
theorem dX1_mend_48 : decode cX1_mend 48 = .ok (.aload_n 0, 1) := by decide +kernel
theorem dX1_mend_49 : decode cX1_mend 49 = .ok (.getfield 15, 3) := by decide +kernel
theorem dX1_mend_52 : decode cX1_mend 52 = .ok (.iload_n 3, 1) := by decide +kernel
theorem dX1_mend_53 : decode cX1_mend 53 = .ok (.invokevirtual 57, 3) := by decide +kernel
theorem dX1_mend_56 : decode cX1_mend 56 = .ok (.invokevirtual 63, 3) := by decide +kernel
theorem dX1_mend_59 : decode cX1_mend 59 = .ok (.goto 19, 3) := by decide +kernel
theorem dX1_mend_62 : decode cX1_mend 62 = .ok (.aload_n 0, 1) := by decide +kernel
theorem dX1_mend_63 : decode cX1_mend 63 = .ok (.getfield 39, 3) := by decide +kernel
theorem dX1_mend_66 : decode cX1_mend 66 = .ok (.aload_n 0, 1) := by decide +kernel
theorem dX1_mend_67 : decode cX1_mend 67 = .ok (.getfield 15, 3) := by decide +kernel
theorem dX1_mend_70 : decode cX1_mend 70 = .ok (.iload 4, 2) := by decide +kernel
theorem dX1_mend_72 : decode cX1_mend 72 = .ok (.invokevirtual 57, 3) := by decide +kernel
theorem dX1_mend_75 : decode cX1_mend 75 = .ok (.invokevirtual 63, 3) := by decide +kernel
theorem dX1_mend_78 : decode cX1_mend 78 = .ok (.aload_n 0, 1) := by decide +kernel
theorem dX1_mend_79 : decode cX1_mend 79 = .ok (.getfield 39, 3) := by decide +kernel
theorem dX1_mend_82 : decode cX1_mend 82 = .ok (.getfield 110, 3) := by decide +kernel
theorem dX1_mend_85 : decode cX1_mend 85 = .ok (.ifCond .ne 21, 3) := by decide +kernel
theorem dX1_mend_88 : decode cX1_mend 88 = .ok (.aload_n 0, 1) := by decide +kernel
theorem dX1_mend_89 : decode cX1_mend 89 = .ok (.getfield 39, 3) := by decide +kernel
theorem dX1_mend_92 : decode cX1_mend 92 = .ok (.iconst 0, 1) := by decide +kernel
theorem dX1_mend_93 : decode cX1_mend 93 = .ok (.aload_n 0, 1) := by decide +kernel
theorem dX1_mend_94 : decode cX1_mend 94 = .ok (.getfield 42, 3) := by decide +kernel
theorem dX1_mend_97 : decode cX1_mend 97 = .ok (.iload_n 2, 1) := by decide +kernel
theorem dX1_mend_98 : decode cX1_mend 98 = .ok (.iconst 1, 1) := by decide +kernel
theorem dX1_mend_99 : decode cX1_mend 99 = .ok (.iadd, 1) := by decide +kernel
theorem dX1_mend_100 : decode cX1_mend 100 = .ok (.invokevirtual 100, 3) := by decide +kernel
theorem dX1_mend_103 : decode cX1_mend 103 = .ok (.invokevirtual 144, 3) := by decide +kernel
theorem dX1_mend_106 : decode cX1_mend 106 = .ok (.aload_n 0, 1) := by decide +kernel
theorem dX1_mend_107 : decode cX1_mend 107 = .ok (.getfield 35, 3) := by decide +kernel
theorem dX1_mend_110 : decode cX1_mend 110 = .ok (.aload_n 0, 1) := by decide +kernel
theorem dX1_mend_111 : decode cX1_mend 111 = .ok (.getfield 39, 3) := by decide +kernel
theorem dX1_mend_114 : decode cX1_mend 114 = .ok (.iconst 0, 1) := by decide +kernel
theorem dX1_mend_115 : decode cX1_mend 115 = .ok (.invokevirtual 147, 3) := by decide +kernel
theorem dX1_mend_118 : decode cX1_mend 118 = .ok (.aload_n 0, 1) := by decide +kernel
theorem dX1_mend_119 : decode cX1_mend 119 = .ok (.invokevirtual 90, 3) := by decide +kernel
theorem dX1_mend_122 : decode cX1_mend 122 = .ok (.istore 5, 2) := by decide +kernel
theorem dX1_mend_124 : decode cX1_mend 124 = .ok (.aload_n 0, 1) := by decide +kernel
theorem dX1_mend_125 : decode cX1_mend 125 = .ok (.getfield 42, 3) := by decide +kernel
theorem dX1_mend_128 : decode cX1_mend 128 = .ok (.iload_n 2, 1) := by decide +kernel
theorem dX1_mend_129 : decode cX1_mend 129 = .ok (.aload_n 0, 1) := by decide +kernel
theorem dX1_mend_130 : decode cX1_mend 130 = .ok (.getfield 19, 3) := by decide +kernel
theorem dX1_mend_133 : decode cX1_mend 133 = .ok (.aload_n 0, 1) := by decide +kernel
theorem dX1_mend_134 : decode cX1_mend 134 = .ok (.getfield 35, 3) := by decide +kernel
theorem dX1_mend_137 : decode cX1_mend 137 = .ok (.iload_n 3, 1) := by decide +kernel
theorem dX1_mend_138 : decode cX1_mend 138 = .ok (.invokevirtual 94, 3) := by decide +kernel
theorem dX1_mend_141 : decode cX1_mend 141 = .ok (.invokevirtual 74, 3) := by decide +kernel
theorem dX1_mend_144 : decode cX1_mend 144 = .ok (.iload 5, 2) := by decide +kernel
theorem dX1_mend_146 : decode cX1_mend 146 = .ok (.ifCond .eq 47, 3) := by decide +kernel
theorem dX1_mend_149 : decode cX1_mend 149 = .ok (.aload_n 0, 1) := by decide +kernel
theorem dX1_mend_150 : decode cX1_mend 150 = .ok (.getfield 42, 3) := by decide +kernel
theorem dX1_mend_153 : decode cX1_mend 153 = .ok (.iload_n 2, 1) := by decide +kernel
theorem dX1_mend_154 : decode cX1_mend 154 = .ok (.iconst 1, 1) := by decide +kernel
theorem dX1_mend_155 : decode cX1_mend 155 = .ok (.iadd, 1) := by decide +kernel
theorem dX1_mend_156 : decode cX1_mend 156 = .ok (.aload_n 0, 1) := by decide +kernel
theorem dX1_mend_157 : decode cX1_mend 157 = .ok (.getfield 19, 3) := by decide +kernel
theorem dX1_mend_160 : decode cX1_mend 160 = .ok (.aload_n 0, 1) := by decide +kernel
theorem dX1_mend_161 : decode cX1_mend 161 = .ok (.getfield 39, 3) := by decide +kernel
theorem dX1_mend_164 : decode cX1_mend 164 = .ok (.iload 4, 2) := by decide +kernel
theorem dX1_mend_166 : decode cX1_mend 166 = .ok (.invokevirtual 94, 3) := by decide +kernel
theorem dX1_mend_169 : decode cX1_mend 169 = .ok (.invokevirtual 74, 3) := by decide +kernel
theorem dX1_mend_172 : decode cX1_mend 172 = .ok (.aload_n 0, 1) := by decide +kernel
theorem dX1_mend_173 : decode cX1_mend 173 = .ok (.getfield 42, 3) := by decide +kernel
theorem dX1_mend_176 : decode cX1_mend 176 = .ok (.iload_n 2, 1) := by decide +kernel
theorem dX1_mend_177 : decode cX1_mend 177 = .ok (.iconst 1, 1) := by decide +kernel
theorem dX1_mend_178 : decode cX1_mend 178 = .ok (.iadd, 1) := by decide +kernel
theorem dX1_mend_179 : decode cX1_mend 179 = .ok (.aload_n 0, 1) := by decide +kernel
theorem dX1_mend_180 : decode cX1_mend 180 = .ok (.getfield 39, 3) := by decide +kernel
theorem dX1_mend_183 : decode cX1_mend 183 = .ok (.iconst 0, 1) := by decide +kernel
theorem dX1_mend_184 : decode cX1_mend 184 = .ok (.invokevirtual 100, 3) := by decide +kernel
theorem dX1_mend_187 : decode cX1_mend 187 = .ok (.invokevirtual 144, 3) := by decide +kernel
theorem dX1_mend_190 : decode cX1_mend 190 = .ok (.goto 22, 3) := by decide +kernel
theorem dX1_mend_193 : decode cX1_mend 193 = .ok (.aload_n 0, 1) := by decide +kernel
theorem dX1_mend_194 : decode cX1_mend 194 = .ok (.getfield 42, 3) := by decide +kernel
theorem dX1_mend_197 : decode cX1_mend 197 = .ok (.iload_n 2, 1) := by decide +kernel
theorem dX1_mend_198 : decode cX1_mend 198 = .ok (.iconst 1, 1) := by decide +kernel
theorem dX1_mend_199 : decode cX1_mend 199 = .ok (.iadd, 1) := by decide +kernel
theorem dX1_mend_200 : decode cX1_mend 200 = .ok (.invokevirtual 123, 3) := by decide +kernel
theorem dX1_mend_203 : decode cX1_mend 203 = .ok (.aload_n 0, 1) := by decide +kernel
theorem dX1_mend_204 : decode cX1_mend 204 = .ok (.getfield 19, 3) := by decide +kernel
theorem dX1_mend_207 : decode cX1_mend 207 = .ok (.iload 4, 2) := by decide +kernel
theorem dX1_mend_209 : decode cX1_mend 209 = .ok (.invokevirtual 151, 3) := by decide +kernel
theorem dX1_mend_212 : decode cX1_mend 212 = .ok (.return_, 1) := by decide +kernel
theorem dX1_settleUppermost_0 : decode cX1_settleUppermost 0 = .ok (.aload_n 0, 1) := by decide +kernel
theorem dX1_settleUppermost_1 : decode cX1_settleUppermost 1 = .ok (.getfield 35, 3) := by decide +kernel
theorem dX1_settleUppermost_4 : decode cX1_settleUppermost 4 = .ok (.getfield 110, 3) := by decide +kernel
theorem dX1_settleUppermost_7 : decode cX1_settleUppermost 7 = .ok (.ifCond .eq 16, 3) := by decide +kernel
theorem dX1_settleUppermost_10 : decode cX1_settleUppermost 10 = .ok (.aload_n 0, 1) := by decide +kernel
theorem dX1_settleUppermost_11 : decode cX1_settleUppermost 11 = .ok (.getfield 35, 3) := by decide +kernel
theorem dX1_settleUppermost_14 : decode cX1_settleUppermost 14 = .ok (.getfield 107, 3) := by decide +kernel
theorem dX1_settleUppermost_17 : decode cX1_settleUppermost 17 = .ok (.ifCond .le 30, 3) := by decide +kernel
theorem dX1_settleUppermost_20 : decode cX1_settleUppermost 20 = .ok (.goto 14, 3) := by decide +kernel
theorem dX1_settleUppermost_23 : decode cX1_settleUppermost 23 = .ok (.aload_n 0, 1) := by decide +kernel
theorem dX1_settleUppermost_24 : decode cX1_settleUppermost 24 = .ok (.getfield 35, 3) := by decide +kernel
theorem dX1_settleUppermost_27 : decode cX1_settleUppermost 27 = .ok (.getfield 107, 3) := by decide +kernel
theorem dX1_settleUppermost_30 : decode cX1_settleUppermost 30 = .ok (.iconst 1, 1) := by decide +kernel
theorem dX1_settleUppermost_31 : decode cX1_settleUppermost 31 = .ok (.if_icmp .le 16, 3) := by decide +kernel
theorem dX1_settleUppermost_34 : decode cX1_settleUppermost 34 = .ok (.aload_n 0, 1) := by decide +kernel
theorem dX1_settleUppermost_35 : decode cX1_settleUppermost 35 = .ok (.getfield 19, 3) := by decide +kernel
theorem dX1_settleUppermost_38 : decode cX1_settleUppermost 38 = .ok (.aload_n 0, 1) := by decide +kernel
theorem dX1_settleUppermost_39 : decode cX1_settleUppermost 39 = .ok (.getfield 35, 3) := by decide +kernel
theorem dX1_settleUppermost_42 : decode cX1_settleUppermost 42 = .ok (.iload_n 1, 1) := by decide +kernel
theorem dX1_settleUppermost_43 : decode cX1_settleUppermost 43 = .ok (.invokevirtual 94, 3) := by decide +kernel
theorem dX1_settleUppermost_46 : decode cX1_settleUppermost 46 = .ok (.ireturn, 1) := by decide +kernel
theorem dX1_settleUppermost_47 : decode cX1_settleUppermost 47 = .ok (.aload_n 0, 1) := by decide +kernel
theorem dX1_settleUppermost_48 : decode cX1_settleUppermost 48 = .ok (.getfield 19, 3) := by decide +kernel
theorem dX1_settleUppermost_51 : decode cX1_settleUppermost 51 = .ok (.iload_n 1, 1) := by decide +kernel
theorem dX1_settleUppermost_52 : decode cX1_settleUppermost 52 = .ok (.invokevirtual 151, 3) := by decide +kernel
theorem dX1_settleUppermost_55 : decode cX1_settleUppermost 55 = .ok (.aload_n 0, 1) := by decide +kernel
theorem dX1_settleUppermost_56 : decode cX1_settleUppermost 56 = .ok (.getfield 35, 3) := by decide +kernel
theorem dX1_settleUppermost_59 : decode cX1_settleUppermost 59 = .ok (.getfield 110, 3) := by decide +kernel
theorem dX1_settleUppermost_62 : decode cX1_settleUppermost 62 = .ok (.ifCond .eq 7, 3) := by decide +kernel
theorem dX1_settleUppermost_65 : decode cX1_settleUppermost 65 = .ok (.iconst 0, 1) := by decide +kernel
theorem dX1_settleUppermost_66 : decode cX1_settleUppermost 66 = .ok (.goto 11, 3) := by decide +kernel
theorem dX1_settleUppermost_69 : decode cX1_settleUppermost 69 = .ok (.aload_n 0, 1) := by decide +kernel
theorem dX1_settleUppermost_70 : decode cX1_settleUppermost 70 = .ok (.getfield 35, 3) := by decide +kernel
theorem dX1_settleUppermost_73 : decode cX1_settleUppermost 73 = .ok (.iconst 0, 1) := by decide +kernel
theorem dX1_settleUppermost_74 : decode cX1_settleUppermost 74 = .ok (.invokevirtual 141, 3) := by decide +kernel
theorem dX1_settleUppermost_77 : decode cX1_settleUppermost 77 = .ok (.ireturn, 1) := by decide +kernel
theorem dX1_writeUppermost_0 : decode cX1_writeUppermost 0 = .ok (.aload_n 0, 1) := by decide +kernel
theorem dX1_writeUppermost_1 : decode cX1_writeUppermost 1 = .ok (.invokevirtual 90, 3) := by decide +kernel
theorem dX1_writeUppermost_4 : decode cX1_writeUppermost 4 = .ok (.istore_n 2, 1) := by decide +kernel
theorem dX1_writeUppermost_5 : decode cX1_writeUppermost 5 = .ok (.aload_n 0, 1) := by decide +kernel
theorem dX1_writeUppermost_6 : decode cX1_writeUppermost 6 = .ok (.getfield 19, 3) := by decide +kernel
theorem dX1_writeUppermost_9 : decode cX1_writeUppermost 9 = .ok (.aload_n 0, 1) := by decide +kernel
theorem dX1_writeUppermost_10 : decode cX1_writeUppermost 10 = .ok (.getfield 35, 3) := by decide +kernel
theorem dX1_writeUppermost_13 : decode cX1_writeUppermost 13 = .ok (.iload_n 1, 1) := by decide +kernel
theorem dX1_writeUppermost_14 : decode cX1_writeUppermost 14 = .ok (.invokevirtual 94, 3) := by decide +kernel
theorem dX1_writeUppermost_17 : decode cX1_writeUppermost 17 = .ok (.istore_n 3, 1) := by decide +kernel
theorem dX1_writeUppermost_18 : decode cX1_writeUppermost 18 = .ok (.iload_n 2, 1) := by decide +kernel
theorem dX1_writeUppermost_19 : decode cX1_writeUppermost 19 = .ok (.ifCond .ne 5, 3) := by decide +kernel
theorem dX1_writeUppermost_22 : decode cX1_writeUppermost 22 = .ok (.iload_n 3, 1) := by decide +kernel
theorem dX1_writeUppermost_23 : decode cX1_writeUppermost 23 = .ok (.ireturn, 1) := by decide +kernel
theorem dX1_writeUppermost_24 : decode cX1_writeUppermost 24 = .ok (.aload_n 0, 1) := by decide +kernel
theorem dX1_writeUppermost_25 : decode cX1_writeUppermost 25 = .ok (.getfield 42, 3) := by decide +kernel
theorem dX1_writeUppermost_28 : decode cX1_writeUppermost 28 = .ok (.iconst 0, 1) := by decide +kernel
theorem dX1_writeUppermost_29 : decode cX1_writeUppermost 29 = .ok (.invokevirtual 103, 3) := by decide +kernel
theorem dX1_writeUppermost_32 : decode cX1_writeUppermost 32 = .ok (.aload_n 0, 1) := by decide +kernel
theorem dX1_writeUppermost_33 : decode cX1_writeUppermost 33 = .ok (.getfield 42, 3) := by decide +kernel
theorem dX1_writeUppermost_36 : decode cX1_writeUppermost 36 = .ok (.iconst 0, 1) := by decide +kernel
theorem dX1_writeUppermost_37 : decode cX1_writeUppermost 37 = .ok (.iconst 0, 1) := by decide +kernel
theorem dX1_writeUppermost_38 : decode cX1_writeUppermost 38 = .ok (.iload_n 3, 1) := by decide +kernel
theorem dX1_writeUppermost_39 : decode cX1_writeUppermost 39 = .ok (.invokevirtual 77, 3) := by decide +kernel
theorem dX1_writeUppermost_42 : decode cX1_writeUppermost 42 = .ok (.aload_n 0, 1) := by decide +kernel
theorem dX1_writeUppermost_43 : decode cX1_writeUppermost 43 = .ok (.getfield 42, 3) := by decide +kernel
theorem dX1_writeUppermost_46 : decode cX1_writeUppermost 46 = .ok (.iconst 1, 1) := by decide +kernel
theorem dX1_writeUppermost_47 : decode cX1_writeUppermost 47 = .ok (.aload_n 0, 1) := by decide +kernel
theorem dX1_writeUppermost_48 : decode cX1_writeUppermost 48 = .ok (.getfield 39, 3) := by decide +kernel
theorem dX1_writeUppermost_51 : decode cX1_writeUppermost 51 = .ok (.iconst 0, 1) := by decide +kernel
theorem dX1_writeUppermost_52 : decode cX1_writeUppermost 52 = .ok (.invokevirtual 100, 3) := by decide +kernel
theorem dX1_writeUppermost_55 : decode cX1_writeUppermost 55 = .ok (.aload_n 0, 1) := by decide +kernel
theorem dX1_writeUppermost_56 : decode cX1_writeUppermost 56 = .ok (.getfield 19, 3) := by decide +kernel
theorem dX1_writeUppermost_59 : decode cX1_writeUppermost 59 = .ok (.aload_n 0, 1) := by decide +kernel
theorem dX1_writeUppermost_60 : decode cX1_writeUppermost 60 = .ok (.getfield 39, 3) := by decide +kernel
theorem dX1_writeUppermost_63 : decode cX1_writeUppermost 63 = .ok (.iconst 0, 1) := by decide +kernel
theorem dX1_writeUppermost_64 : decode cX1_writeUppermost 64 = .ok (.invokevirtual 94, 3) := by decide +kernel
theorem dX1_writeUppermost_67 : decode cX1_writeUppermost 67 = .ok (.invokevirtual 77, 3) := by decide +kernel
theorem dX1_writeUppermost_70 : decode cX1_writeUppermost 70 = .ok (.aload_n 0, 1) := by decide +kernel
theorem dX1_writeUppermost_71 : decode cX1_writeUppermost 71 = .ok (.getfield 19, 3) := by decide +kernel
theorem dX1_writeUppermost_74 : decode cX1_writeUppermost 74 = .ok (.aload_n 0, 1) := by decide +kernel
theorem dX1_writeUppermost_75 : decode cX1_writeUppermost 75 = .ok (.getfield 42, 3) := by decide +kernel
theorem dX1_writeUppermost_78 : decode cX1_writeUppermost 78 = .ok (.iconst 0, 1) := by decide +kernel
theorem dX1_writeUppermost_79 : decode cX1_writeUppermost 79 = .ok (.invokevirtual 94, 3) := by decide +kernel
theorem dX1_writeUppermost_82 : decode cX1_writeUppermost 82 = .ok (.ireturn, 1) := by decide +kernel
theorem dX1_writeUpward_0 : decode cX1_writeUpward 0 = .ok (.aload_n 0, 1) := by decide +kernel
theorem dX1_writeUpward_1 : decode cX1_writeUpward 1 = .ok (.iload_n 1, 1) := by decide +kernel
theorem dX1_writeUpward_2 : decode cX1_writeUpward 2 = .ok (.invokevirtual 53, 3) := by decide +kernel
theorem dX1_writeUpward_5 : decode cX1_writeUpward 5 = .ok (.istore_n 2, 1) := by decide +kernel
theorem dX1_writeUpward_6 : decode cX1_writeUpward 6 = .ok (.aload_n 0, 1) := by decide +kernel
theorem dX1_writeUpward_7 : decode cX1_writeUpward 7 = .ok (.iload_n 1, 1) := by decide +kernel
theorem dX1_writeUpward_8 : decode cX1_writeUpward 8 = .ok (.iconst 1, 1) := by decide +kernel
theorem dX1_writeUpward_9 : decode cX1_writeUpward 9 = .ok (.isub, 1) := by decide +kernel
theorem dX1_writeUpward_10 : decode cX1_writeUpward 10 = .ok (.invokevirtual 87, 3) := by decide +kernel
theorem dX1_writeUpward_13 : decode cX1_writeUpward 13 = .ok (.istore_n 3, 1) := by decide +kernel
theorem dX1_writeUpward_14 : decode cX1_writeUpward 14 = .ok (.aload_n 0, 1) := by decide +kernel
theorem dX1_writeUpward_15 : decode cX1_writeUpward 15 = .ok (.invokevirtual 90, 3) := by decide +kernel
theorem dX1_writeUpward_18 : decode cX1_writeUpward 18 = .ok (.istore 4, 2) := by decide +kernel
theorem dX1_writeUpward_20 : decode cX1_writeUpward 20 = .ok (.aload_n 0, 1) := by decide +kernel
theorem dX1_writeUpward_21 : decode cX1_writeUpward 21 = .ok (.getfield 19, 3) := by decide +kernel
theorem dX1_writeUpward_24 : decode cX1_writeUpward 24 = .ok (.aload_n 0, 1) := by decide +kernel
theorem dX1_writeUpward_25 : decode cX1_writeUpward 25 = .ok (.getfield 35, 3) := by decide +kernel
theorem dX1_writeUpward_28 : decode cX1_writeUpward 28 = .ok (.iload_n 2, 1) := by decide +kernel
theorem dX1_writeUpward_29 : decode cX1_writeUpward 29 = .ok (.invokevirtual 94, 3) := by decide +kernel
theorem dX1_writeUpward_32 : decode cX1_writeUpward 32 = .ok (.istore 5, 2) := by decide +kernel
theorem dX1_writeUpward_34 : decode cX1_writeUpward 34 = .ok (.iload 4, 2) := by decide +kernel
theorem dX1_writeUpward_36 : decode cX1_writeUpward 36 = .ok (.ifCond .ne 11, 3) := by decide +kernel
theorem dX1_writeUpward_39 : decode cX1_writeUpward 39 = .ok (.iload 5, 2) := by decide +kernel
theorem dX1_writeUpward_41 : decode cX1_writeUpward 41 = .ok (.iload_n 2, 1) := by decide +kernel
theorem dX1_writeUpward_42 : decode cX1_writeUpward 42 = .ok (.if_icmp .ne 5, 3) := by decide +kernel
theorem dX1_writeUpward_45 : decode cX1_writeUpward 45 = .ok (.iconst 0, 1) := by decide +kernel
theorem dX1_writeUpward_46 : decode cX1_writeUpward 46 = .ok (.ireturn, 1) := by decide +kernel
theorem dX1_writeUpward_47 : decode cX1_writeUpward 47 = .ok (.aload_n 0, 1) := by decide +kernel
theorem dX1_writeUpward_48 : decode cX1_writeUpward 48 = .ok (.getfield 42, 3) := by decide +kernel
theorem dX1_writeUpward_51 : decode cX1_writeUpward 51 = .ok (.aload_n 0, 1) := by decide +kernel
theorem dX1_writeUpward_52 : decode cX1_writeUpward 52 = .ok (.getfield 15, 3) := by decide +kernel
theorem dX1_writeUpward_55 : decode cX1_writeUpward 55 = .ok (.aload_n 0, 1) := by decide +kernel
theorem dX1_writeUpward_56 : decode cX1_writeUpward 56 = .ok (.iload_n 1, 1) := by decide +kernel
theorem dX1_writeUpward_57 : decode cX1_writeUpward 57 = .ok (.iconst 1, 1) := by decide +kernel
theorem dX1_writeUpward_58 : decode cX1_writeUpward 58 = .ok (.isub, 1) := by decide +kernel
theorem dX1_writeUpward_59 : decode cX1_writeUpward 59 = .ok (.invokevirtual 53, 3) := by decide +kernel
theorem dX1_writeUpward_62 : decode cX1_writeUpward 62 = .ok (.invokevirtual 57, 3) := by decide +kernel
theorem dX1_writeUpward_65 : decode cX1_writeUpward 65 = .ok (.invokevirtual 63, 3) := by decide +kernel
theorem dX1_writeUpward_68 : decode cX1_writeUpward 68 = .ok (.aload_n 0, 1) := by decide +kernel
theorem dX1_writeUpward_69 : decode cX1_writeUpward 69 = .ok (.getfield 42, 3) := by decide +kernel
theorem dX1_writeUpward_72 : decode cX1_writeUpward 72 = .ok (.iload_n 3, 1) := by decide +kernel
theorem dX1_writeUpward_73 : decode cX1_writeUpward 73 = .ok (.iload 5, 2) := by decide +kernel
theorem dX1_writeUpward_75 : decode cX1_writeUpward 75 = .ok (.invokevirtual 74, 3) := by decide +kernel
theorem dX1_writeUpward_78 : decode cX1_writeUpward 78 = .ok (.iload 4, 2) := by decide +kernel
theorem dX1_writeUpward_80 : decode cX1_writeUpward 80 = .ok (.ifCond .eq 33, 3) := by decide +kernel
theorem dX1_writeUpward_83 : decode cX1_writeUpward 83 = .ok (.aload_n 0, 1) := by decide +kernel
theorem dX1_writeUpward_84 : decode cX1_writeUpward 84 = .ok (.getfield 42, 3) := by decide +kernel
theorem dX1_writeUpward_87 : decode cX1_writeUpward 87 = .ok (.iload_n 3, 1) := by decide +kernel
theorem dX1_writeUpward_88 : decode cX1_writeUpward 88 = .ok (.iconst 1, 1) := by decide +kernel
theorem dX1_writeUpward_89 : decode cX1_writeUpward 89 = .ok (.iadd, 1) := by decide +kernel
theorem dX1_writeUpward_90 : decode cX1_writeUpward 90 = .ok (.aload_n 0, 1) := by decide +kernel
theorem dX1_writeUpward_91 : decode cX1_writeUpward 91 = .ok (.getfield 39, 3) := by decide +kernel
theorem dX1_writeUpward_94 : decode cX1_writeUpward 94 = .ok (.iconst 0, 1) := by decide +kernel
theorem dX1_writeUpward_95 : decode cX1_writeUpward 95 = .ok (.invokevirtual 100, 3) := by decide +kernel
theorem dX1_writeUpward_98 : decode cX1_writeUpward 98 = .ok (.aload_n 0, 1) := by decide +kernel
theorem dX1_writeUpward_99 : decode cX1_writeUpward 99 = .ok (.getfield 19, 3) := by decide +kernel
theorem dX1_writeUpward_102 : decode cX1_writeUpward 102 = .ok (.aload_n 0, 1) := by decide +kernel
theorem dX1_writeUpward_103 : decode cX1_writeUpward 103 = .ok (.getfield 39, 3) := by decide +kernel
theorem dX1_writeUpward_106 : decode cX1_writeUpward 106 = .ok (.iconst 0, 1) := by decide +kernel
theorem dX1_writeUpward_107 : decode cX1_writeUpward 107 = .ok (.invokevirtual 94, 3) := by decide +kernel
theorem dX1_writeUpward_110 : decode cX1_writeUpward 110 = .ok (.invokevirtual 77, 3) := by decide +kernel
theorem dX1_writeUpward_113 : decode cX1_writeUpward 113 = .ok (.aload_n 0, 1) := by decide +kernel
theorem dX1_writeUpward_114 : decode cX1_writeUpward 114 = .ok (.getfield 35, 3) := by decide +kernel
theorem dX1_writeUpward_117 : decode cX1_writeUpward 117 = .ok (.aload_n 0, 1) := by decide +kernel
theorem dX1_writeUpward_118 : decode cX1_writeUpward 118 = .ok (.getfield 42, 3) := by decide +kernel
theorem dX1_writeUpward_121 : decode cX1_writeUpward 121 = .ok (.invokevirtual 63, 3) := by decide +kernel
theorem dX1_writeUpward_124 : decode cX1_writeUpward 124 = .ok (.iconst 1, 1) := by decide +kernel
theorem dX1_writeUpward_125 : decode cX1_writeUpward 125 = .ok (.ireturn, 1) := by decide +kernel
def v_X1_writeUpward : List Cond := .code yX1_writeUpward cX1_writeUpward 6 (some .boolean) :: ([.code yX1_blockAt cX1_blockAt 2 (some .int), .fieldLink RX1 23 "TwinRoots$Editor" "pathBlocks" "[I", .methodLink RX1 53 yX1_blockAt, .instanceMethod yX1_blockAt, .selects RX1 yX1_blockAt yX1_blockAt, .initialized RX1, .code yX1_placeAt cX1_placeAt 2 (some .int), .fieldLink RX1 27 "TwinRoots$Editor" "pathPlaces" "[I", .methodLink RX1 87 yX1_placeAt, .instanceMethod yX1_placeAt, .selects RX1 yX1_placeAt yX1_placeAt, .code yX1_partIfTooMany cX1_partIfTooMany 1 (some .boolean), .fieldLink RX1 35 "TwinRoots$Editor" "node" "LTwinRoots$Page;", .fieldLink RX1 107 "TwinRoots$Page" "many" "I", .fieldLink RX1 9 "TwinRoots$Editor" "limits" "LTwinRoots$Limits;", .fieldLink RX1 110 "TwinRoots$Page" "leaf" "Z", .code yX3_most cX3_most 2 (some .int), .fieldLink RX3 13 "TwinRoots$Limits" "mostChildren" "I", .fieldLink RX3 7 "TwinRoots$Limits" "mostKeys" "I", .methodLink RX1 114 yX3_most, .instanceMethod yX3_most, .selects RX3 yX3_most yX3_most, .initialized RX3, .fieldLink RX1 39 "TwinRoots$Editor" "mate" "LTwinRoots$Page;", .code yX4_partInto cX4_partInto 3 none, .fieldLink RX4 22 "TwinRoots$Page" "many" "I", .fieldLink RX4 9 "TwinRoots$Page" "leaf" "Z", .code yX4_clear cX4_clear 2 none, .methodLink RX4 26 yX4_clear, .instanceMethod yX4_clear, .selects RX4 yX4_clear yX4_clear, .initialized RX4, .code yX4_append cX4_append 4 none, .fieldLink RX4 15 "TwinRoots$Page" "keys" "[I", .fieldLink RX4 19 "TwinRoots$Page" "refs" "[I", .code yX4_keyAt cX4_keyAt 2 (some .int), .methodLink RX4 34 yX4_keyAt, .instanceMethod yX4_keyAt, .selects RX4 yX4_keyAt yX4_keyAt, .code yX4_refAt cX4_refAt 2 (some .int), .methodLink RX4 38 yX4_refAt, .instanceMethod yX4_refAt, .selects RX4 yX4_refAt yX4_refAt, .methodLink RX4 30 yX4_append, .instanceMethod yX4_append, .selects RX4 yX4_append yX4_append, .methodLink RX1 120 yX4_partInto, .instanceMethod yX4_partInto, .selects RX4 yX4_partInto yX4_partInto, .methodLink RX1 90 yX1_partIfTooMany, .instanceMethod yX1_partIfTooMany, .selects RX1 yX1_partIfTooMany yX1_partIfTooMany, .fieldLink RX1 19 "TwinRoots$Editor" "plan" "LTwinRoots$Plan;", .code yX5_write cX5_write 4 (some .int), .fieldLink RX5 40 "TwinRoots$Plan" "fresh" "J", .code yX8_holds cX8_holds 3 (some .boolean), .code yX8_bit cX8_bit 1 (some .long), .methodLink RX8 227 yX8_bit, .static yX8_bit, .initialized RX8, .static yX8_holds, .code yX5_takeLeast cX5_takeLeast 2 (some .int), .fieldLink RX5 32 "TwinRoots$Plan" "noRoom" "Z", .fieldLink RX5 36 "TwinRoots$Plan" "free" "J", .constantLong RX5 58 (-1), .methodLink RX5 50 yX5_takeLeast, .instanceMethod yX5_takeLeast, .selects RX5 yX5_takeLeast yX5_takeLeast, .initialized RX5, .fieldLink RX5 43 "TwinRoots$Plan" "work" "J", .fieldLink RX5 28 "TwinRoots$Plan" "many" "I", .fieldLink RX5 11 "TwinRoots$Plan" "drafts" "[LTwinRoots$Page;", .fieldLink RX5 20 "TwinRoots$Plan" "targets" "[I", .code yX4_copy cX4_copy 2 none, .methodLink RX5 60 yX4_copy, .instanceMethod yX4_copy, .selects RX4 yX4_copy yX4_copy, .methodLink RX1 94 yX5_write, .instanceMethod yX5_write, .selects RX5 yX5_write yX5_write, .fieldLink RX1 42 "TwinRoots$Editor" "above" "LTwinRoots$Page;", .fieldLink RX1 15 "TwinRoots$Editor" "forest" "LTwinRoots$Forest;", .code yX2_page cX2_page 2 (some (.object "TwinRoots$Page")), .fieldLink RX2 20 "TwinRoots$Forest" "empty" "LTwinRoots$Page;", .fieldLink RX2 11 "TwinRoots$Forest" "pages" "[LTwinRoots$Page;", .methodLink RX1 57 yX2_page, .instanceMethod yX2_page, .selects RX2 yX2_page yX2_page, .initialized RX2, .methodLink RX1 63 yX4_copy, .code yX4_setRef cX4_setRef 3 none, .methodLink RX1 74 yX4_setRef, .instanceMethod yX4_setRef, .selects RX4 yX4_setRef yX4_setRef, .methodLink RX1 100 yX4_keyAt, .code yX4_insert cX4_insert 5 none, .code yX4_setKey cX4_setKey 3 none, .methodLink RX4 41 yX4_setKey, .instanceMethod yX4_setKey, .selects RX4 yX4_setKey yX4_setKey, .methodLink RX4 45 yX4_setRef, .methodLink RX1 77 yX4_insert, .instanceMethod yX4_insert, .selects RX4 yX4_insert yX4_insert] ++ (wsX10 ++ (wsX40 ++ (wsX30 ++ (wsX50 ++ (wsX20 ++ ([])))))))
set_option maxRecDepth 20000 in
theorem g_X1_writeUpward_X1_blockAt : GoodIn v_X1_writeUpward (wsV RX1 53 RX1 yX1_blockAt v_X1_blockAt) := goodIn_r _ [3, 4, 5, 6, 1, 2, 105, 106, 107, 108, 109, 110, 111, 112, 113] (by decide +kernel) (by decide +kernel)
set_option maxRecDepth 20000 in
theorem g_X1_writeUpward_X1_placeAt : GoodIn v_X1_writeUpward (wsV RX1 87 RX1 yX1_placeAt v_X1_placeAt) := goodIn_r _ [9, 10, 11, 6, 7, 8, 105, 106, 107, 108, 109, 110, 111, 112, 113] (by decide +kernel) (by decide +kernel)
set_option maxRecDepth 20000 in
theorem g_X1_writeUpward_X1_partIfTooMany : GoodIn v_X1_writeUpward (wsV RX1 90 RX1 yX1_partIfTooMany v_X1_partIfTooMany) := goodIn_r _ [50, 51, 52, 6, 12, 13, 14, 15, 16, 17, 18, 19, 20, 21, 22, 23, 24, 25, 26, 27, 28, 29, 30, 31, 32, 33, 34, 35, 36, 37, 38, 39, 40, 41, 42, 43, 44, 45, 46, 47, 48, 49, 105, 106, 107, 108, 109, 110, 111, 112, 113, 114, 115, 116, 117, 118, 119] (by decide +kernel) (by decide +kernel)
set_option maxRecDepth 20000 in
theorem g_X1_writeUpward_X5_write : GoodIn v_X1_writeUpward (wsV RX1 94 RX5 yX5_write v_X5_write) := goodIn_r _ [78, 79, 80, 69, 54, 55, 56, 57, 58, 59, 60, 61, 62, 63, 64, 65, 66, 67, 68, 69, 70, 71, 72, 73, 74, 27, 28, 26, 29, 30, 31, 32, 33, 34, 35, 36, 37, 38, 39, 40, 41, 42, 43, 44, 45, 46, 75, 76, 77, 120, 121, 122, 123, 124, 125, 126, 127, 114, 115, 116, 117] (by decide +kernel) (by decide +kernel)
set_option maxRecDepth 20000 in
theorem g_X1_writeUpward_X2_page : GoodIn v_X1_writeUpward (wsV RX1 57 RX2 yX2_page v_X2_page) := goodIn_r _ [86, 87, 88, 89, 83, 84, 85, 128, 129, 130, 131, 132, 133] (by decide +kernel) (by decide +kernel)
set_option maxRecDepth 20000 in
theorem g_X1_writeUpward_X4_copy : GoodIn v_X1_writeUpward (wsV RX1 63 RX4 yX4_copy v_X4_copy) := goodIn_r _ [90, 76, 77, 32, 74, 27, 28, 26, 29, 30, 31, 32, 33, 34, 35, 36, 37, 38, 39, 40, 41, 42, 43, 44, 45, 46, 114, 115, 116, 117] (by decide +kernel) (by decide +kernel)
set_option maxRecDepth 20000 in
theorem g_X1_writeUpward_X4_setRef : GoodIn v_X1_writeUpward (wsV RX1 74 RX4 yX4_setRef v_X4_setRef) := goodIn_r _ [92, 93, 94, 32, 91, 26, 35, 114, 115, 116, 117] (by decide +kernel) (by decide +kernel)
set_option maxRecDepth 20000 in
theorem g_X1_writeUpward_X4_keyAt : GoodIn v_X1_writeUpward (wsV RX1 100 RX4 yX4_keyAt v_X4_keyAt) := goodIn_r _ [95, 38, 39, 32, 36, 26, 34, 114, 115, 116, 117] (by decide +kernel) (by decide +kernel)
set_option maxRecDepth 20000 in
theorem g_X1_writeUpward_X4_insert_any : GoodIn v_X1_writeUpward (wsV RX1 77 RX4 yX4_insert v_X4_insert_any) := goodIn_r _ [102, 103, 104, 32, 96, 26, 34, 35, 36, 37, 38, 39, 32, 97, 98, 99, 100, 40, 41, 42, 43, 91, 101, 93, 94, 114, 115, 116, 117] (by decide +kernel) (by decide +kernel)
set_option maxHeartbeats 4000000 in
set_option maxRecDepth 100000 in
/-- writeUpward -/
theorem c_X1_writeUpward (l : Launch) (dC : Nat → ClassId) (dI : Nat → Nat → Nat) (sz : Nat) (he : Nat) (hm : Nat) (hf : Nat) (hp : Nat) (eb : Nat) (ep : Nat) (nd : Nat) (mt : Nat) (ab : Nat) (el : Nat) (pm : Nat) (pd : Nat) (pt : Nat) (pb : Nat) (mk : Int32) (mc : Int32) (nr : Int32) (fr : Int64) (wk : Int64) (fe : Int64) (fb : Nat → Int32) (fq : Nat → Int32) (ft : Nat → Int32) (qp : Nat) (qe : Nat) (ql : Nat) (b : Nat) (lo : Nat) (le : Nat) (dp : Int32) (cO : ClassId) (fp : Nat → Option Nat) (fd : Nat → Option Nat) (G : pgG) (Pg : List Nat) (cI : ClassId) (S : pgS) (p0 : Int32) (zb : b ≤ 64) (hI : pgI G Pg S) (hpg : ∀ i, i < b → ∃ a, a ∈ Pg ∧ (G a).2.2.2 = 0 ∧ fp i = some a) (hm_qe : qe ∈ Pg) (ht_qe : (G qe).2.2.2 = 0) (zpm : pm ≤ 25) (hdr : ∀ i, i < 25 → ∃ a, a ∈ Pg ∧ (G a).2.2.2 = 1 ∧ fd i = some a) (hm_pb : pb ∈ Pg) (ht_pb : (G pb).2.2.2 = 1) (hm_nd : nd ∈ Pg) (ht_nd : (G nd).2.2.2 = 2) (hm_mt : mt ∈ Pg) (ht_mt : (G mt).2.2.2 = 3) (hm_ab : ab ∈ Pg) (ht_ab : (G ab).2.2.2 = 4) : Met l yX1_writeUpward v_X1_writeUpward ({ frames := 4, cells := 0, slots := 0, locals := 88 } : Room) (va_Pc [.ref he, .int p0] (fun U => U.heap.size = sz ∧ va_P (dC, dI) vwCl ([(he, .inr (1, [.ref hm, .ref hf, .ref hp, .ref eb, .ref ep, .int (nI el), .ref nd, .ref mt, .ref ab])), (eb, .inl (cI, 12, .inl fb)), (ep, .inl (cI, 12, .inl fq)), (hm, .inr (3, [.int mk, .int mc])), (hf, .inr (2, [.int dp, .ref qp, .ref qe, .ref ql, .int (nI lo), .int (nI le)])), (qp, .inl (cO, b, .inr (.inr (.inr (.inr fp))))), (hp, .inr (5, [.int (nI pm), .long fr, .long wk, .int nr, .ref pd, .ref pt, .ref pb, .long fe])), (pd, .inl (cO, 25, .inr (.inr (.inr (.inr fd))))), (pt, .inl (cI, 25, .inl ft))] ++ pool G cI Pg S) U.heap ∧ va_K (dC, dI) vwCl [(cO, .object RX4), (cI, .int)] U ∧ va_D (fun _ => True) ([(he, .inr (1, [.ref hm, .ref hf, .ref hp, .ref eb, .ref ep, .int (nI el), .ref nd, .ref mt, .ref ab])), (eb, .inl (cI, 12, .inl fb)), (ep, .inl (cI, 12, .inl fq)), (hm, .inr (3, [.int mk, .int mc])), (hf, .inr (2, [.int dp, .ref qp, .ref qe, .ref ql, .int (nI lo), .int (nI le)])), (qp, .inl (cO, b, .inr (.inr (.inr (.inr fp))))), (hp, .inr (5, [.int (nI pm), .long fr, .long wk, .int nr, .ref pd, .ref pt, .ref pb, .long fe])), (pd, .inl (cO, 25, .inr (.inr (.inr (.inr fd))))), (pt, .inl (cI, 25, .inl ft))] ++ pool G cI Pg S) ∧ va_Nw (.methodLinkNest RX5 46 yX8_holds "TwinRoots") U ∧ va_Nw (.methodLinkNest RX5 54 yX8_bit "TwinRoots") U)) (va_Qi (fun (r : Int32) (u : Nat × Int64 × Int64 × Int64 × Int32 × (Nat → Int32) × pgS) => match u with | (pm2, fr2, wk2, fe2, nr2, ft2, S2) => pgI G Pg S2 ∧ (r = 0 ∨ r = 1) ∧ pm2 ≤ 25) (fun (u : Nat × Int64 × Int64 × Int64 × Int32 × (Nat → Int32) × pgS) (t : State) => match u with | (pm2, fr2, wk2, fe2, nr2, ft2, S2) => va_P (dC, dI) vwCl ([(he, .inr (1, [.ref hm, .ref hf, .ref hp, .ref eb, .ref ep, .int (nI el), .ref nd, .ref mt, .ref ab])), (eb, .inl (cI, 12, .inl fb)), (ep, .inl (cI, 12, .inl fq)), (hm, .inr (3, [.int mk, .int mc])), (hf, .inr (2, [.int dp, .ref qp, .ref qe, .ref ql, .int (nI lo), .int (nI le)])), (qp, .inl (cO, b, .inr (.inr (.inr (.inr fp))))), (hp, .inr (5, [.int (nI pm2), .long fr2, .long wk2, .int nr2, .ref pd, .ref pt, .ref pb, .long fe2])), (pd, .inl (cO, 25, .inr (.inr (.inr (.inr fd))))), (pt, .inl (cI, 25, .inl ft2))] ++ pool G cI Pg S2) t.heap ∧ va_K (dC, dI) vwCl [(cO, .object RX4), (cI, .int)] t ∧ va_D (va_A ([(he, .inr (1, [.ref hm, .ref hf, .ref hp, .ref eb, .ref ep, .int (nI el), .ref nd, .ref mt, .ref ab])), (eb, .inl (cI, 12, .inl fb)), (ep, .inl (cI, 12, .inl fq)), (hm, .inr (3, [.int mk, .int mc])), (hf, .inr (2, [.int dp, .ref qp, .ref qe, .ref ql, .int (nI lo), .int (nI le)])), (qp, .inl (cO, b, .inr (.inr (.inr (.inr fp))))), (hp, .inr (5, [.int (nI pm), .long fr, .long wk, .int nr, .ref pd, .ref pt, .ref pb, .long fe])), (pd, .inl (cO, 25, .inr (.inr (.inr (.inr fd))))), (pt, .inl (cI, 25, .inl ft))] ++ pool G cI Pg S) sz) ([(he, .inr (1, [.ref hm, .ref hf, .ref hp, .ref eb, .ref ep, .int (nI el), .ref nd, .ref mt, .ref ab])), (eb, .inl (cI, 12, .inl fb)), (ep, .inl (cI, 12, .inl fq)), (hm, .inr (3, [.int mk, .int mc])), (hf, .inr (2, [.int dp, .ref qp, .ref qe, .ref ql, .int (nI lo), .int (nI le)])), (qp, .inl (cO, b, .inr (.inr (.inr (.inr fp))))), (hp, .inr (5, [.int (nI pm2), .long fr2, .long wk2, .int nr2, .ref pd, .ref pt, .ref pb, .long fe2])), (pd, .inl (cO, 25, .inr (.inr (.inr (.inr fd))))), (pt, .inl (cI, 25, .inl ft2))] ++ pool G cI Pg S2)) (va_A ([(he, .inr (1, [.ref hm, .ref hf, .ref hp, .ref eb, .ref ep, .int (nI el), .ref nd, .ref mt, .ref ab])), (eb, .inl (cI, 12, .inl fb)), (ep, .inl (cI, 12, .inl fq)), (hm, .inr (3, [.int mk, .int mc])), (hf, .inr (2, [.int dp, .ref qp, .ref qe, .ref ql, .int (nI lo), .int (nI le)])), (qp, .inl (cO, b, .inr (.inr (.inr (.inr fp))))), (hp, .inr (5, [.int (nI pm), .long fr, .long wk, .int nr, .ref pd, .ref pt, .ref pb, .long fe])), (pd, .inl (cO, 25, .inr (.inr (.inr (.inr fd))))), (pt, .inl (cI, 25, .inl ft))] ++ pool G cI Pg S) sz)) 0 0 (va_A ([(he, .inr (1, [.ref hm, .ref hf, .ref hp, .ref eb, .ref ep, .int (nI el), .ref nd, .ref mt, .ref ab])), (eb, .inl (cI, 12, .inl fb)), (ep, .inl (cI, 12, .inl fq)), (hm, .inr (3, [.int mk, .int mc])), (hf, .inr (2, [.int dp, .ref qp, .ref qe, .ref ql, .int (nI lo), .int (nI le)])), (qp, .inl (cO, b, .inr (.inr (.inr (.inr fp))))), (hp, .inr (5, [.int (nI pm), .long fr, .long wk, .int nr, .ref pd, .ref pt, .ref pb, .long fe])), (pd, .inl (cO, 25, .inr (.inr (.inr (.inr fd))))), (pt, .inl (cI, 25, .inl ft))] ++ pool G cI Pg S) sz) := by
  refine Met.ofW (cc := cX1_writeUpward) (maxL := 6) (ret := (some .boolean)) (by decide) rfl ?_
  intro p e s m args below meth c s₁ B hml hv
  obtain ⟨rfl, hsz, hP, hK, hD0, hNX5_46, hNX5_54⟩ := hv
  have hx := B.exec
  have hb := B.bytes
  have hr := B.returns
  have hts := atoms_spec (ws := v_X1_writeUpward) B.pre
  have hown : s.vm.findClass RX1 = some m.cls := findClass_of_methodNamed B.named
  have hlocks := B.notSynchronized
  subst hsz
  have hD := hD0.self (sz := s.heap.size)
  generalize hAe : va_A ([(he, .inr (1, [.ref hm, .ref hf, .ref hp, .ref eb, .ref ep, .int (nI el), .ref nd, .ref mt, .ref ab])), (eb, .inl (cI, 12, .inl fb)), (ep, .inl (cI, 12, .inl fq)), (hm, .inr (3, [.int mk, .int mc])), (hf, .inr (2, [.int dp, .ref qp, .ref qe, .ref ql, .int (nI lo), .int (nI le)])), (qp, .inl (cO, b, .inr (.inr (.inr (.inr fp))))), (hp, .inr (5, [.int (nI pm), .long fr, .long wk, .int nr, .ref pd, .ref pt, .ref pb, .long fe])), (pd, .inl (cO, 25, .inr (.inr (.inr (.inr fd))))), (pt, .inl (cI, 25, .inl ft))] ++ pool G cI Pg S) s.heap.size = A at hD ⊢
  have hA : ∀ q : Nat, s.heap.size ≤ q → A q := fun q h => by rw [← hAe]; exact Or.inr h
  have hS : va_S A s.heap s.heap [] := va_S.rf
  have hP : va_P (dC, dI) vwCl ([(he, .inr (1, [.ref hm, .ref hf, .ref hp, .ref eb, .ref ep, .int (nI el), .ref nd, .ref mt, .ref ab])), (eb, .inl (cI, 12, .inl fb)), (ep, .inl (cI, 12, .inl fq)), (hm, .inr (3, [.int mk, .int mc])), (hf, .inr (2, [.int dp, .ref qp, .ref qe, .ref ql, .int (nI lo), .int (nI le)])), (qp, .inl (cO, b, .inr (.inr (.inr (.inr fp))))), (hp, .inr (5, [.int (nI pm), .long fr, .long wk, .int nr, .ref pd, .ref pt, .ref pb, .long fe])), (pd, .inl (cO, 25, .inr (.inr (.inr (.inr fd))))), (pt, .inl (cI, 25, .inl ft))] ++ pool G cI Pg S) s.heap := hP
  have hl := lv_entry ([.ref he, .int p0]) (n := 6) (Nat.le_of_ble_eq_true rfl)
  rw [lg_entry_eq]
  generalize (lg_sl ([.ref he, .int p0]) ++ List.replicate (6 - (lg_sl ([.ref he, .int p0])).length) Slot.unset).toArray = ls at hl ⊢
  have hl : lv_has ls 6 [(0, .ref he), (1, .int p0)] := hl
  have k_1 := (fun _ h => List.mem_cons_of_mem _ (List.mem_append_right _ (List.mem_append_left _ h)) : ∀ w ∈ wsX10, w ∈ v_X1_writeUpward)
  have k_2 := hts (.fieldLink RX1 19 "TwinRoots$Editor" "plan" "LTwinRoots$Plan;") (List.mem_of_getElem? (i := 53) rfl)
  have k_3 := hts (.fieldLink RX1 35 "TwinRoots$Editor" "node" "LTwinRoots$Page;") (List.mem_of_getElem? (i := 13) rfl)
  have k_4 := hts (.fieldLink RX1 42 "TwinRoots$Editor" "above" "LTwinRoots$Page;") (List.mem_of_getElem? (i := 81) rfl)
  have k_5 := hts (.fieldLink RX1 15 "TwinRoots$Editor" "forest" "LTwinRoots$Forest;") (List.mem_of_getElem? (i := 82) rfl)
  have k_6 := hts (.fieldLink RX1 39 "TwinRoots$Editor" "mate" "LTwinRoots$Page;") (List.mem_of_getElem? (i := 24) rfl)
  refine lv_aload_n hx hb dX1_writeUpward_0 rfl (lv_at hl 0 rfl) ?_
  refine lv_iload_n hx hb dX1_writeUpward_1 rfl (lv_at hl 1 rfl) ?_
  have hPc := hP.sub (ws' := [(he, .inr (1, [.ref hm, .ref hf, .ref hp, .ref eb, .ref ep, .int (nI el), .ref nd, .ref mt, .ref ab])), (eb, .inl (cI, 12, .inl fb))]) [0, 1] rfl
  have hDc := hD.sub (ws' := [(he, .inr (1, [.ref hm, .ref hf, .ref hp, .ref eb, .ref ep, .int (nI el), .ref nd, .ref mt, .ref ab])), (eb, .inl (cI, 12, .inl fb))]) [0, 1] (by decide) rfl
  have hKc := hK.sub (tys' := [(cI, .int)]) [1] rfl
  have hFc := va_free (wc := [(he, .inr (1, [.ref hm, .ref hf, .ref hp, .ref eb, .ref ep, .int (nI el), .ref nd, .ref mt, .ref ab])), (eb, .inl (cI, 12, .inl fb))]) hD hS hA [0, 1] rfl
  refine va_calli (va_runV (As := [.int p0]) (rest := []) ⟨hx, hb, hml, hown, hts⟩ (c_X1_blockAt l dC dI s.heap.size he hm hf hp eb ep nd mt ab el p0 cI fb) (cwV 1 hts g_X1_writeUpward_X1_blockAt rfl rfl rfl (by decide +kernel) ⟨Nat.le_of_ble_eq_true rfl, Nat.le_of_ble_eq_true rfl⟩) ⟨fun a U g mk q => by obtain ⟨q0, q1, qP, qK, qD⟩ := q; exact ⟨q0, q1, qP, va_K.moved (u := U) (U := U.calling g mk a) (Vm.Alike.refl U.vm) qK, qD⟩, va_recv hKc hPc (ci := 1) (q0 := 0) rfl rfl, fun U hU hW => ⟨rfl, by rw [hU], by rw [hU]; exact hPc, va_K.moved hW.alike hKc, hDc.weaken (fun _ _ _ _ => trivial)⟩⟩ rfl rfl hl.1 rfl (lv_room (Nat.le_of_ble_eq_true rfl)) dX1_writeUpward_2 ⟨(show 0 + 0 ≤ 0 by omega), (show 0 + 0 ≤ 0 by omega)⟩) hS (fun q _ h => hFc q h) hFc (fun r_1 u t H1 locs ht hvm hw hB hz1 hk1 hS => ?_)
  obtain ⟨hP1, hK1, hD1⟩ := hB
  rw [ht] at hP1
  have hK1 := va_K.moved hvm.symm hK1
  try dsimp only at hw
  obtain ⟨hP, hD⟩ := va_joinQ (wr := [(ep, .inl (cI, 12, .inl fq)), (hm, .inr (3, [.int mk, .int mc])), (hf, .inr (2, [.int dp, .ref qp, .ref qe, .ref ql, .int (nI lo), .int (nI le)])), (qp, .inl (cO, b, .inr (.inr (.inr (.inr fp))))), (hp, .inr (5, [.int (nI pm), .long fr, .long wk, .int nr, .ref pd, .ref pt, .ref pb, .long fe])), (pd, .inl (cO, 25, .inr (.inr (.inr (.inr fd))))), (pt, .inl (cI, 25, .inl ft))]) (w1 := [(he, .inr (1, [.ref hm, .ref hf, .ref hp, .ref eb, .ref ep, .int (nI el), .ref nd, .ref mt, .ref ab])), (eb, .inl (cI, 12, .inl fb))]) hP hD [0, 1] [2, 3, 4, 5, 6, 7, 8] rfl rfl (by decide) (by decide) hk1 hFc hP1 hD1
  have hK := (hK.sub (tys' := [(cO, .object RX4), (cI, .int)]) [0, 1] rfl).app hK1
  have hK : va_K (dC, dI) vwCl [(cO, .object RX4), (cI, .int)] s := hK.sub [0, 1] rfl
  generalize H1 = H at hP hS ⊢
  have hP : va_P (dC, dI) vwCl ([(ep, .inl (cI, 12, .inl fq)), (hm, .inr (3, [.int mk, .int mc])), (hf, .inr (2, [.int dp, .ref qp, .ref qe, .ref ql, .int (nI lo), .int (nI le)])), (qp, .inl (cO, b, .inr (.inr (.inr (.inr fp))))), (hp, .inr (5, [.int (nI pm), .long fr, .long wk, .int nr, .ref pd, .ref pt, .ref pb, .long fe])), (pd, .inl (cO, 25, .inr (.inr (.inr (.inr fd))))), (pt, .inl (cI, 25, .inl ft)), (he, .inr (1, [.ref hm, .ref hf, .ref hp, .ref eb, .ref ep, .int (nI el), .ref nd, .ref mt, .ref ab])), (eb, .inl (cI, 12, .inl fb))] ++ pool G cI Pg S) H := hP
  have hD : va_D A ([(ep, .inl (cI, 12, .inl fq)), (hm, .inr (3, [.int mk, .int mc])), (hf, .inr (2, [.int dp, .ref qp, .ref qe, .ref ql, .int (nI lo), .int (nI le)])), (qp, .inl (cO, b, .inr (.inr (.inr (.inr fp))))), (hp, .inr (5, [.int (nI pm), .long fr, .long wk, .int nr, .ref pd, .ref pt, .ref pb, .long fe])), (pd, .inl (cO, 25, .inr (.inr (.inr (.inr fd))))), (pt, .inl (cI, 25, .inl ft)), (he, .inr (1, [.ref hm, .ref hf, .ref hp, .ref eb, .ref ep, .int (nI el), .ref nd, .ref mt, .ref ab])), (eb, .inl (cI, 12, .inl fb))] ++ pool G cI Pg S) := hD
  have hK : va_K (dC, dI) vwCl [(cO, .object RX4), (cI, .int)] s := hK
  have hw_r_1 := hw
  refine lv_istore_n (lv' := [(2, .int r_1), (0, .ref he), (1, .int p0)]) hx hb dX1_writeUpward_5 rfl hl (by decide) rfl (fun ls hl => ?_)
  refine lv_aload_n hx hb dX1_writeUpward_6 rfl (lv_at hl 1 rfl) ?_
  refine lv_iload_n hx hb dX1_writeUpward_7 rfl (lv_at hl 2 rfl) ?_
  refine lv_iconst (v := 1) hx hb dX1_writeUpward_8 (by decide) ?_
  refine lv_isub hx hb dX1_writeUpward_9 ?_
  refine lv_topi (fun z_2 _ => ?_)
  have hPc := hP.sub (ws' := [(he, .inr (1, [.ref hm, .ref hf, .ref hp, .ref eb, .ref ep, .int (nI el), .ref nd, .ref mt, .ref ab])), (ep, .inl (cI, 12, .inl fq))]) [7, 0] rfl
  have hDc := hD.sub (ws' := [(he, .inr (1, [.ref hm, .ref hf, .ref hp, .ref eb, .ref ep, .int (nI el), .ref nd, .ref mt, .ref ab])), (ep, .inl (cI, 12, .inl fq))]) [7, 0] (by decide) rfl
  have hKc := hK.sub (tys' := [(cI, .int)]) [1] rfl
  have hFc := va_free (wc := [(he, .inr (1, [.ref hm, .ref hf, .ref hp, .ref eb, .ref ep, .int (nI el), .ref nd, .ref mt, .ref ab])), (ep, .inl (cI, 12, .inl fq))]) hD hS hA [7, 0] rfl
  refine va_calli (va_runV (As := [.int z_2]) (rest := []) ⟨hx, hb, hml, hown, hts⟩ (c_X1_placeAt l dC dI H.size he hm hf hp eb ep nd mt ab el z_2 cI fq) (cwV 1 hts g_X1_writeUpward_X1_placeAt rfl rfl rfl (by decide +kernel) ⟨Nat.le_of_ble_eq_true rfl, Nat.le_of_ble_eq_true rfl⟩) ⟨fun a U g mk q => by obtain ⟨q0, q1, qP, qK, qD⟩ := q; exact ⟨q0, q1, qP, va_K.moved (u := U) (U := U.calling g mk a) (Vm.Alike.refl U.vm) qK, qD⟩, va_recv hKc hPc (ci := 1) (q0 := 0) rfl rfl, fun U hU hW => ⟨rfl, by rw [hU], by rw [hU]; exact hPc, va_K.moved hW.alike hKc, hDc.weaken (fun _ _ _ _ => trivial)⟩⟩ rfl rfl hl.1 rfl (lv_room (Nat.le_of_ble_eq_true rfl)) dX1_writeUpward_10 ⟨(show 0 + 0 ≤ 0 by omega), (show 0 + 0 ≤ 0 by omega)⟩) hS (fun q _ h => hFc q h) hFc (fun r_3 u t H1 locs ht hvm hw hB hz1 hk1 hS => ?_)
  obtain ⟨hP1, hK1, hD1⟩ := hB
  rw [ht] at hP1
  have hK1 := va_K.moved hvm.symm hK1
  try dsimp only at hw
  obtain ⟨hP, hD⟩ := va_joinQ (wr := [(hm, .inr (3, [.int mk, .int mc])), (hf, .inr (2, [.int dp, .ref qp, .ref qe, .ref ql, .int (nI lo), .int (nI le)])), (qp, .inl (cO, b, .inr (.inr (.inr (.inr fp))))), (hp, .inr (5, [.int (nI pm), .long fr, .long wk, .int nr, .ref pd, .ref pt, .ref pb, .long fe])), (pd, .inl (cO, 25, .inr (.inr (.inr (.inr fd))))), (pt, .inl (cI, 25, .inl ft)), (eb, .inl (cI, 12, .inl fb))]) (w1 := [(he, .inr (1, [.ref hm, .ref hf, .ref hp, .ref eb, .ref ep, .int (nI el), .ref nd, .ref mt, .ref ab])), (ep, .inl (cI, 12, .inl fq))]) hP hD [7, 0] [1, 2, 3, 4, 5, 6, 8] rfl rfl (by decide) (by decide) hk1 hFc hP1 hD1
  have hK := (hK.sub (tys' := [(cO, .object RX4), (cI, .int)]) [0, 1] rfl).app hK1
  have hK : va_K (dC, dI) vwCl [(cO, .object RX4), (cI, .int)] s := hK.sub [0, 1] rfl
  generalize H1 = H at hP hS ⊢
  have hP : va_P (dC, dI) vwCl ([(hm, .inr (3, [.int mk, .int mc])), (hf, .inr (2, [.int dp, .ref qp, .ref qe, .ref ql, .int (nI lo), .int (nI le)])), (qp, .inl (cO, b, .inr (.inr (.inr (.inr fp))))), (hp, .inr (5, [.int (nI pm), .long fr, .long wk, .int nr, .ref pd, .ref pt, .ref pb, .long fe])), (pd, .inl (cO, 25, .inr (.inr (.inr (.inr fd))))), (pt, .inl (cI, 25, .inl ft)), (eb, .inl (cI, 12, .inl fb)), (he, .inr (1, [.ref hm, .ref hf, .ref hp, .ref eb, .ref ep, .int (nI el), .ref nd, .ref mt, .ref ab])), (ep, .inl (cI, 12, .inl fq))] ++ pool G cI Pg S) H := hP
  have hD : va_D A ([(hm, .inr (3, [.int mk, .int mc])), (hf, .inr (2, [.int dp, .ref qp, .ref qe, .ref ql, .int (nI lo), .int (nI le)])), (qp, .inl (cO, b, .inr (.inr (.inr (.inr fp))))), (hp, .inr (5, [.int (nI pm), .long fr, .long wk, .int nr, .ref pd, .ref pt, .ref pb, .long fe])), (pd, .inl (cO, 25, .inr (.inr (.inr (.inr fd))))), (pt, .inl (cI, 25, .inl ft)), (eb, .inl (cI, 12, .inl fb)), (he, .inr (1, [.ref hm, .ref hf, .ref hp, .ref eb, .ref ep, .int (nI el), .ref nd, .ref mt, .ref ab])), (ep, .inl (cI, 12, .inl fq))] ++ pool G cI Pg S) := hD
  have hK : va_K (dC, dI) vwCl [(cO, .object RX4), (cI, .int)] s := hK
  have hw_r_3 := hw
  refine lv_istore_n (lv' := [(3, .int r_3), (2, .int r_1), (0, .ref he), (1, .int p0)]) hx hb dX1_writeUpward_13 rfl hl (by decide) rfl (fun ls hl => ?_)
  refine lv_aload_n hx hb dX1_writeUpward_14 rfl (lv_at hl 2 rfl) ?_
  have hPc := hP.part (cx := [(he, .inr (1, [.ref hm, .ref hf, .ref hp, .ref eb, .ref ep, .int (nI el), .ref nd, .ref mt, .ref ab])), (hm, .inr (3, [.int mk, .int mc]))]) [7, 0] rfl
  have hDc := hD.part (cx := [(he, .inr (1, [.ref hm, .ref hf, .ref hp, .ref eb, .ref ep, .int (nI el), .ref nd, .ref mt, .ref ab])), (hm, .inr (3, [.int mk, .int mc]))]) [7, 0] (by decide) rfl
  have hFc := va_freeP (cx := [(he, .inr (1, [.ref hm, .ref hf, .ref hp, .ref eb, .ref ep, .int (nI el), .ref nd, .ref mt, .ref ab])), (hm, .inr (3, [.int mk, .int mc]))]) hD hS hA [7, 0] rfl
  have hKc := hK.sub (tys' := [(cI, .int)]) [1] rfl
  refine va_calli (va_runV (As := []) (rest := []) ⟨hx, hb, hml, hown, hts⟩ (c_X1_partIfTooMany l dC dI H.size he hm hf hp eb ep nd mt ab el mk mc G Pg cI S (by first | assumption | omega | decide) (by first | assumption | omega | decide) (by first | assumption | omega | decide) (by first | assumption | omega | decide) (by first | assumption | omega | decide) (by first | assumption | omega | decide) (by first | assumption | omega | decide)) (cwV 0 hts g_X1_writeUpward_X1_partIfTooMany rfl rfl rfl (by decide +kernel) ⟨Nat.le_of_ble_eq_true rfl, Nat.le_of_ble_eq_true rfl⟩) ⟨fun a U g mk q => by obtain ⟨q0, q1, qP, qK, qD⟩ := q; exact ⟨q0, q1, qP, va_K.moved (u := U) (U := U.calling g mk a) (Vm.Alike.refl U.vm) qK, qD⟩, va_recv hKc hPc (ci := 1) (q0 := 0) rfl rfl, fun U hU hW => ⟨rfl, by rw [hU], by rw [hU]; exact hPc, va_K.moved hW.alike hKc, hDc.weaken (fun _ _ _ _ => trivial)⟩⟩ rfl rfl hl.1 rfl (lv_room (Nat.le_of_ble_eq_true rfl)) dX1_writeUpward_15 ⟨(show 0 + 0 ≤ 0 by omega), (show 0 + 0 ≤ 0 by omega)⟩) hS (fun q _ h => hFc q h) hFc (fun r_4 u t H1 locs ht hvm hw hB hz1 hk1 hS => ?_)
  obtain ⟨S2_5, rfl⟩ : ∃ z, z = u := ⟨_, rfl⟩
  obtain ⟨hP1, hK1, hD1⟩ := hB
  rw [ht] at hP1
  have hK1 := va_K.moved hvm.symm hK1
  try dsimp only at hw
  obtain ⟨hP, hD⟩ := va_joinP (wr := [(hf, .inr (2, [.int dp, .ref qp, .ref qe, .ref ql, .int (nI lo), .int (nI le)])), (qp, .inl (cO, b, .inr (.inr (.inr (.inr fp))))), (hp, .inr (5, [.int (nI pm), .long fr, .long wk, .int nr, .ref pd, .ref pt, .ref pb, .long fe])), (pd, .inl (cO, 25, .inr (.inr (.inr (.inr fd))))), (pt, .inl (cI, 25, .inl ft)), (eb, .inl (cI, 12, .inl fb)), (ep, .inl (cI, 12, .inl fq))]) (rx := [(he, .inr (1, [.ref hm, .ref hf, .ref hp, .ref eb, .ref ep, .int (nI el), .ref nd, .ref mt, .ref ab])), (hm, .inr (3, [.int mk, .int mc]))]) (pl1 := pool G cI Pg S2_5) hP hD [7, 0] [1, 2, 3, 4, 5, 6, 8] rfl rfl (by decide) (by decide) hk1 hFc hP1 hD1
  have hK := (hK.sub (tys' := [(cO, .object RX4), (cI, .int)]) [0, 1] rfl).app hK1
  have hK : va_K (dC, dI) vwCl [(cO, .object RX4), (cI, .int)] s := hK.sub [0, 1] rfl
  generalize H1 = H at hP hS ⊢
  have hP : va_P (dC, dI) vwCl ([(hf, .inr (2, [.int dp, .ref qp, .ref qe, .ref ql, .int (nI lo), .int (nI le)])), (qp, .inl (cO, b, .inr (.inr (.inr (.inr fp))))), (hp, .inr (5, [.int (nI pm), .long fr, .long wk, .int nr, .ref pd, .ref pt, .ref pb, .long fe])), (pd, .inl (cO, 25, .inr (.inr (.inr (.inr fd))))), (pt, .inl (cI, 25, .inl ft)), (eb, .inl (cI, 12, .inl fb)), (ep, .inl (cI, 12, .inl fq)), (he, .inr (1, [.ref hm, .ref hf, .ref hp, .ref eb, .ref ep, .int (nI el), .ref nd, .ref mt, .ref ab])), (hm, .inr (3, [.int mk, .int mc]))] ++ pool G cI Pg S2_5) H := hP
  have hD : va_D A ([(hf, .inr (2, [.int dp, .ref qp, .ref qe, .ref ql, .int (nI lo), .int (nI le)])), (qp, .inl (cO, b, .inr (.inr (.inr (.inr fp))))), (hp, .inr (5, [.int (nI pm), .long fr, .long wk, .int nr, .ref pd, .ref pt, .ref pb, .long fe])), (pd, .inl (cO, 25, .inr (.inr (.inr (.inr fd))))), (pt, .inl (cI, 25, .inl ft)), (eb, .inl (cI, 12, .inl fb)), (ep, .inl (cI, 12, .inl fq)), (he, .inr (1, [.ref hm, .ref hf, .ref hp, .ref eb, .ref ep, .int (nI el), .ref nd, .ref mt, .ref ab])), (hm, .inr (3, [.int mk, .int mc]))] ++ pool G cI Pg S2_5) := hD
  have hK : va_K (dC, dI) vwCl [(cO, .object RX4), (cI, .int)] s := hK
  have hI := hw.1
  have hw_r_4 := hw
  refine lv_istore (lv' := [(4, .int r_4), (3, .int r_3), (2, .int r_1), (0, .ref he), (1, .int p0)]) hx hb dX1_writeUpward_18 hl (by decide) rfl (fun ls hl => ?_)
  refine lv_aload_n hx hb dX1_writeUpward_20 rfl (lv_at hl 3 rfl) ?_
  refine va_get (D := (dC, dI)) (ci := 1) (v := .ref hp) (C := RX1) (T := TX1) (N := 9) hx hb hts k_1 hown hK hP 7 rfl rfl 2 (by decide) k_2 (fun _ h9 => h9) rfl dX1_writeUpward_21 ?_
  refine lv_aload_n hx hb dX1_writeUpward_24 rfl (lv_at hl 3 rfl) ?_
  refine va_get (D := (dC, dI)) (ci := 1) (v := .ref nd) (C := RX1) (T := TX1) (N := 9) hx hb hts k_1 hown hK hP 7 rfl rfl 6 (by decide) k_3 (fun _ h9 => h9) rfl dX1_writeUpward_25 ?_
  refine lv_iload_n hx hb dX1_writeUpward_28 rfl (lv_at hl 2 rfl) ?_
  have hPc := hP.part (cx := [(hp, .inr (5, [.int (nI pm), .long fr, .long wk, .int nr, .ref pd, .ref pt, .ref pb, .long fe])), (pd, .inl (cO, 25, .inr (.inr (.inr (.inr fd))))), (pt, .inl (cI, 25, .inl ft))]) [2, 3, 4] rfl
  have hDc := hD.part (cx := [(hp, .inr (5, [.int (nI pm), .long fr, .long wk, .int nr, .ref pd, .ref pt, .ref pb, .long fe])), (pd, .inl (cO, 25, .inr (.inr (.inr (.inr fd))))), (pt, .inl (cI, 25, .inl ft))]) [2, 3, 4] (by decide) rfl
  have hFc := va_freeP (cx := [(hp, .inr (5, [.int (nI pm), .long fr, .long wk, .int nr, .ref pd, .ref pt, .ref pb, .long fe])), (pd, .inl (cO, 25, .inr (.inr (.inr (.inr fd))))), (pt, .inl (cI, 25, .inl ft))]) hD hS hA [2, 3, 4] rfl
  have hKc := hK.sub (tys' := [(cO, .object RX4), (cI, .int)]) [0, 1] rfl
  refine va_calli (va_runV (As := [.ref nd, .int r_1]) (rest := []) ⟨hx, hb, hml, hown, hts⟩ (c_X5_write l dC dI H.size hp pd pt pb fr wk fe nr pm nd r_1 cO fd ft G Pg cI S2_5 (by first | assumption | omega | decide) (by first | assumption | omega | decide) (by first | assumption | omega | decide) (by first | assumption | omega | decide) (by first | assumption | omega | decide) (by first | assumption | omega | decide) (by first | assumption | omega | decide)) (cwV 2 hts g_X1_writeUpward_X5_write rfl rfl rfl (by decide +kernel) ⟨Nat.le_of_ble_eq_true rfl, Nat.le_of_ble_eq_true rfl⟩) ⟨fun a U g mk q => by obtain ⟨q0, q1, qP, qK, qD, qX0, qX1⟩ := q; exact ⟨q0, q1, qP, va_K.moved (u := U) (U := U.calling g mk a) (Vm.Alike.refl U.vm) qK, qD, va_Nw.same (u := U) (U := U.calling g mk a) rfl rfl qX0, va_Nw.same (u := U) (U := U.calling g mk a) rfl rfl qX1⟩, va_recv hKc hPc (ci := 5) (q0 := 0) rfl rfl, fun U hU hW => ⟨rfl, by rw [hU], by rw [hU]; exact hPc, va_K.moved hW.alike hKc, hDc.weaken (fun _ _ _ _ => trivial), va_Nw.warmM hW hNX5_46, va_Nw.warmM hW hNX5_54⟩⟩ rfl rfl hl.1 rfl (lv_room (Nat.le_of_ble_eq_true rfl)) dX1_writeUpward_29 ⟨(show 0 + 0 ≤ 0 by omega), (show 0 + 0 ≤ 0 by omega)⟩) hS (fun q _ h => hFc q h) hFc (fun r_6 u t H1 locs ht hvm hw hB hz1 hk1 hS => ?_)
  obtain ⟨pm2_7, fr2_8, wk2_9, fe2_10, nr2_11, ft2_12, S2_13⟩ := u
  obtain ⟨hP1, hK1, hD1⟩ := hB
  rw [ht] at hP1
  have hK1 := va_K.moved hvm.symm hK1
  try dsimp only at hw
  obtain ⟨hP, hD⟩ := va_joinP (wr := [(hf, .inr (2, [.int dp, .ref qp, .ref qe, .ref ql, .int (nI lo), .int (nI le)])), (qp, .inl (cO, b, .inr (.inr (.inr (.inr fp))))), (eb, .inl (cI, 12, .inl fb)), (ep, .inl (cI, 12, .inl fq)), (he, .inr (1, [.ref hm, .ref hf, .ref hp, .ref eb, .ref ep, .int (nI el), .ref nd, .ref mt, .ref ab])), (hm, .inr (3, [.int mk, .int mc]))]) (rx := [(hp, .inr (5, [.int (nI pm2_7), .long fr2_8, .long wk2_9, .int nr2_11, .ref pd, .ref pt, .ref pb, .long fe2_10])), (pd, .inl (cO, 25, .inr (.inr (.inr (.inr fd))))), (pt, .inl (cI, 25, .inl ft2_12))]) (pl1 := pool G cI Pg S2_13) hP hD [2, 3, 4] [0, 1, 5, 6, 7, 8] rfl rfl (by decide) (by decide) hk1 hFc hP1 hD1
  have hK := (hK.sub (tys' := [(cO, .object RX4), (cI, .int)]) [0, 1] rfl).app hK1
  have hK : va_K (dC, dI) vwCl [(cO, .object RX4), (cI, .int)] s := hK.sub [0, 1] rfl
  generalize H1 = H at hP hS ⊢
  have hP : va_P (dC, dI) vwCl ([(hf, .inr (2, [.int dp, .ref qp, .ref qe, .ref ql, .int (nI lo), .int (nI le)])), (qp, .inl (cO, b, .inr (.inr (.inr (.inr fp))))), (eb, .inl (cI, 12, .inl fb)), (ep, .inl (cI, 12, .inl fq)), (he, .inr (1, [.ref hm, .ref hf, .ref hp, .ref eb, .ref ep, .int (nI el), .ref nd, .ref mt, .ref ab])), (hm, .inr (3, [.int mk, .int mc])), (hp, .inr (5, [.int (nI pm2_7), .long fr2_8, .long wk2_9, .int nr2_11, .ref pd, .ref pt, .ref pb, .long fe2_10])), (pd, .inl (cO, 25, .inr (.inr (.inr (.inr fd))))), (pt, .inl (cI, 25, .inl ft2_12))] ++ pool G cI Pg S2_13) H := hP
  have hD : va_D A ([(hf, .inr (2, [.int dp, .ref qp, .ref qe, .ref ql, .int (nI lo), .int (nI le)])), (qp, .inl (cO, b, .inr (.inr (.inr (.inr fp))))), (eb, .inl (cI, 12, .inl fb)), (ep, .inl (cI, 12, .inl fq)), (he, .inr (1, [.ref hm, .ref hf, .ref hp, .ref eb, .ref ep, .int (nI el), .ref nd, .ref mt, .ref ab])), (hm, .inr (3, [.int mk, .int mc])), (hp, .inr (5, [.int (nI pm2_7), .long fr2_8, .long wk2_9, .int nr2_11, .ref pd, .ref pt, .ref pb, .long fe2_10])), (pd, .inl (cO, 25, .inr (.inr (.inr (.inr fd))))), (pt, .inl (cI, 25, .inl ft2_12))] ++ pool G cI Pg S2_13) := hD
  have hK : va_K (dC, dI) vwCl [(cO, .object RX4), (cI, .int)] s := hK
  have hI := hw.1
  have hw_r_6 := hw
  refine lv_istore (lv' := [(5, .int r_6), (4, .int r_4), (3, .int r_3), (2, .int r_1), (0, .ref he), (1, .int p0)]) hx hb dX1_writeUpward_32 hl (by decide) rfl (fun ls hl => ?_)
  refine lv_iload hx hb dX1_writeUpward_34 (lv_at hl 1 rfl) ?_
  refine lv_if_ne (tgt := 47) hx hb dX1_writeUpward_36 (by decide) (fun c_14 => ?_) (fun c_14 => ?_)
  · refine lv_aload_n hx hb dX1_writeUpward_47 rfl (lv_at hl 4 rfl) ?_
    refine va_get (D := (dC, dI)) (ci := 1) (v := .ref ab) (C := RX1) (T := TX1) (N := 9) hx hb hts k_1 hown hK hP 4 rfl rfl 8 (by decide) k_4 (fun _ h9 => h9) rfl dX1_writeUpward_48 ?_
    refine lv_aload_n hx hb dX1_writeUpward_51 rfl (lv_at hl 4 rfl) ?_
    refine va_get (D := (dC, dI)) (ci := 1) (v := .ref hf) (C := RX1) (T := TX1) (N := 9) hx hb hts k_1 hown hK hP 4 rfl rfl 1 (by decide) k_5 (fun _ h9 => h9) rfl dX1_writeUpward_52 ?_
    refine lv_aload_n hx hb dX1_writeUpward_55 rfl (lv_at hl 4 rfl) ?_
    refine lv_iload_n hx hb dX1_writeUpward_56 rfl (lv_at hl 5 rfl) ?_
    refine lv_iconst (v := 1) hx hb dX1_writeUpward_57 (by decide) ?_
    refine lv_isub hx hb dX1_writeUpward_58 ?_
    refine lv_topi (fun z_15 _ => ?_)
    have hPc := hP.sub (ws' := [(he, .inr (1, [.ref hm, .ref hf, .ref hp, .ref eb, .ref ep, .int (nI el), .ref nd, .ref mt, .ref ab])), (eb, .inl (cI, 12, .inl fb))]) [4, 2] rfl
    have hDc := hD.sub (ws' := [(he, .inr (1, [.ref hm, .ref hf, .ref hp, .ref eb, .ref ep, .int (nI el), .ref nd, .ref mt, .ref ab])), (eb, .inl (cI, 12, .inl fb))]) [4, 2] (by decide) rfl
    have hKc := hK.sub (tys' := [(cI, .int)]) [1] rfl
    have hFc := va_free (wc := [(he, .inr (1, [.ref hm, .ref hf, .ref hp, .ref eb, .ref ep, .int (nI el), .ref nd, .ref mt, .ref ab])), (eb, .inl (cI, 12, .inl fb))]) hD hS hA [4, 2] rfl
    refine va_calli (va_runV (As := [.int z_15]) (rest := [.ref hf, .ref ab]) ⟨hx, hb, hml, hown, hts⟩ (c_X1_blockAt l dC dI H.size he hm hf hp eb ep nd mt ab el z_15 cI fb) (cwV 1 hts g_X1_writeUpward_X1_blockAt rfl rfl rfl (by decide +kernel) ⟨Nat.le_of_ble_eq_true rfl, Nat.le_of_ble_eq_true rfl⟩) ⟨fun a U g mk q => by obtain ⟨q0, q1, qP, qK, qD⟩ := q; exact ⟨q0, q1, qP, va_K.moved (u := U) (U := U.calling g mk a) (Vm.Alike.refl U.vm) qK, qD⟩, va_recv hKc hPc (ci := 1) (q0 := 0) rfl rfl, fun U hU hW => ⟨rfl, by rw [hU], by rw [hU]; exact hPc, va_K.moved hW.alike hKc, hDc.weaken (fun _ _ _ _ => trivial)⟩⟩ rfl rfl hl.1 rfl (lv_room (Nat.le_of_ble_eq_true rfl)) dX1_writeUpward_59 ⟨(show 0 + 0 ≤ 0 by omega), (show 0 + 0 ≤ 0 by omega)⟩) hS (fun q _ h => hFc q h) hFc (fun r_16 u t H1 locs ht hvm hw hB hz1 hk1 hS => ?_)
    obtain ⟨hP1, hK1, hD1⟩ := hB
    rw [ht] at hP1
    have hK1 := va_K.moved hvm.symm hK1
    try dsimp only at hw
    obtain ⟨hP, hD⟩ := va_joinQ (wr := [(hf, .inr (2, [.int dp, .ref qp, .ref qe, .ref ql, .int (nI lo), .int (nI le)])), (qp, .inl (cO, b, .inr (.inr (.inr (.inr fp))))), (ep, .inl (cI, 12, .inl fq)), (hm, .inr (3, [.int mk, .int mc])), (hp, .inr (5, [.int (nI pm2_7), .long fr2_8, .long wk2_9, .int nr2_11, .ref pd, .ref pt, .ref pb, .long fe2_10])), (pd, .inl (cO, 25, .inr (.inr (.inr (.inr fd))))), (pt, .inl (cI, 25, .inl ft2_12))]) (w1 := [(he, .inr (1, [.ref hm, .ref hf, .ref hp, .ref eb, .ref ep, .int (nI el), .ref nd, .ref mt, .ref ab])), (eb, .inl (cI, 12, .inl fb))]) hP hD [4, 2] [0, 1, 3, 5, 6, 7, 8] rfl rfl (by decide) (by decide) hk1 hFc hP1 hD1
    have hK := (hK.sub (tys' := [(cO, .object RX4), (cI, .int)]) [0, 1] rfl).app hK1
    have hK : va_K (dC, dI) vwCl [(cO, .object RX4), (cI, .int)] s := hK.sub [0, 1] rfl
    generalize H1 = H at hP hS ⊢
    have hP : va_P (dC, dI) vwCl ([(hf, .inr (2, [.int dp, .ref qp, .ref qe, .ref ql, .int (nI lo), .int (nI le)])), (qp, .inl (cO, b, .inr (.inr (.inr (.inr fp))))), (ep, .inl (cI, 12, .inl fq)), (hm, .inr (3, [.int mk, .int mc])), (hp, .inr (5, [.int (nI pm2_7), .long fr2_8, .long wk2_9, .int nr2_11, .ref pd, .ref pt, .ref pb, .long fe2_10])), (pd, .inl (cO, 25, .inr (.inr (.inr (.inr fd))))), (pt, .inl (cI, 25, .inl ft2_12)), (he, .inr (1, [.ref hm, .ref hf, .ref hp, .ref eb, .ref ep, .int (nI el), .ref nd, .ref mt, .ref ab])), (eb, .inl (cI, 12, .inl fb))] ++ pool G cI Pg S2_13) H := hP
    have hD : va_D A ([(hf, .inr (2, [.int dp, .ref qp, .ref qe, .ref ql, .int (nI lo), .int (nI le)])), (qp, .inl (cO, b, .inr (.inr (.inr (.inr fp))))), (ep, .inl (cI, 12, .inl fq)), (hm, .inr (3, [.int mk, .int mc])), (hp, .inr (5, [.int (nI pm2_7), .long fr2_8, .long wk2_9, .int nr2_11, .ref pd, .ref pt, .ref pb, .long fe2_10])), (pd, .inl (cO, 25, .inr (.inr (.inr (.inr fd))))), (pt, .inl (cI, 25, .inl ft2_12)), (he, .inr (1, [.ref hm, .ref hf, .ref hp, .ref eb, .ref ep, .int (nI el), .ref nd, .ref mt, .ref ab])), (eb, .inl (cI, 12, .inl fb))] ++ pool G cI Pg S2_13) := hD
    have hK : va_K (dC, dI) vwCl [(cO, .object RX4), (cI, .int)] s := hK
    have hw_r_16 := hw
    have hPc := hP.part (cx := [(hf, .inr (2, [.int dp, .ref qp, .ref qe, .ref ql, .int (nI lo), .int (nI le)])), (qp, .inl (cO, b, .inr (.inr (.inr (.inr fp)))))]) [0, 1] rfl
    have hDc := hD.part (cx := [(hf, .inr (2, [.int dp, .ref qp, .ref qe, .ref ql, .int (nI lo), .int (nI le)])), (qp, .inl (cO, b, .inr (.inr (.inr (.inr fp)))))]) [0, 1] (by decide) rfl
    have hFc := va_freeP (cx := [(hf, .inr (2, [.int dp, .ref qp, .ref qe, .ref ql, .int (nI lo), .int (nI le)])), (qp, .inl (cO, b, .inr (.inr (.inr (.inr fp)))))]) hD hS hA [0, 1] rfl
    have hKc := hK.sub (tys' := [(cO, .object RX4), (cI, .int)]) [0, 1] rfl
    refine va_callr (va_runV (As := [.int r_16]) (rest := [.ref ab]) ⟨hx, hb, hml, hown, hts⟩ (c_X2_page l dC dI H.size hf qp qe ql b lo le dp cO fp G Pg cI S2_13 r_16 (by first | assumption | omega | decide) (by first | assumption | omega | decide) (by first | assumption | omega | decide) (by first | assumption | omega | decide) (by first | assumption | omega | decide)) (cwV 1 hts g_X1_writeUpward_X2_page rfl rfl rfl (by decide +kernel) ⟨Nat.le_of_ble_eq_true rfl, Nat.le_of_ble_eq_true rfl⟩) ⟨fun a U g mk q => by obtain ⟨q0, q1, qP, qK, qD⟩ := q; exact ⟨q0, q1, qP, va_K.moved (u := U) (U := U.calling g mk a) (Vm.Alike.refl U.vm) qK, qD⟩, va_recv hKc hPc (ci := 2) (q0 := 0) rfl rfl, fun U hU hW => ⟨rfl, by rw [hU], by rw [hU]; exact hPc, va_K.moved hW.alike hKc, hDc.weaken (fun _ _ _ _ => trivial)⟩⟩ rfl rfl hl.1 rfl (lv_room (Nat.le_of_ble_eq_true rfl)) dX1_writeUpward_62 ⟨(show 0 + 0 ≤ 0 by omega), (show 0 + 0 ≤ 0 by omega)⟩) hS (fun q _ h => hFc q h) hFc (fun u r_17 t H1 locs ht hvm hw hB hz1 hk1 hS => ?_)
    obtain ⟨a_18, rfl⟩ : ∃ z, z = u := ⟨_, rfl⟩
    obtain ⟨hra, hP1, hK1, hD1⟩ := hB
    have hra := hra.symm
    subst hra
    rw [ht] at hP1
    have hK1 := va_K.moved hvm.symm hK1
    try dsimp only at hw
    obtain ⟨hP, hD⟩ := va_joinP (wr := [(ep, .inl (cI, 12, .inl fq)), (hm, .inr (3, [.int mk, .int mc])), (hp, .inr (5, [.int (nI pm2_7), .long fr2_8, .long wk2_9, .int nr2_11, .ref pd, .ref pt, .ref pb, .long fe2_10])), (pd, .inl (cO, 25, .inr (.inr (.inr (.inr fd))))), (pt, .inl (cI, 25, .inl ft2_12)), (he, .inr (1, [.ref hm, .ref hf, .ref hp, .ref eb, .ref ep, .int (nI el), .ref nd, .ref mt, .ref ab])), (eb, .inl (cI, 12, .inl fb))]) (rx := [(hf, .inr (2, [.int dp, .ref qp, .ref qe, .ref ql, .int (nI lo), .int (nI le)])), (qp, .inl (cO, b, .inr (.inr (.inr (.inr fp)))))]) (pl1 := pool G cI Pg S2_13) hP hD [0, 1] [2, 3, 4, 5, 6, 7, 8] rfl rfl (by decide) (by decide) hk1 hFc hP1 hD1
    have hK := (hK.sub (tys' := [(cO, .object RX4), (cI, .int)]) [0, 1] rfl).app hK1
    have hK : va_K (dC, dI) vwCl [(cO, .object RX4), (cI, .int)] s := hK.sub [0, 1] rfl
    generalize H1 = H at hP hS ⊢
    have hP : va_P (dC, dI) vwCl ([(ep, .inl (cI, 12, .inl fq)), (hm, .inr (3, [.int mk, .int mc])), (hp, .inr (5, [.int (nI pm2_7), .long fr2_8, .long wk2_9, .int nr2_11, .ref pd, .ref pt, .ref pb, .long fe2_10])), (pd, .inl (cO, 25, .inr (.inr (.inr (.inr fd))))), (pt, .inl (cI, 25, .inl ft2_12)), (he, .inr (1, [.ref hm, .ref hf, .ref hp, .ref eb, .ref ep, .int (nI el), .ref nd, .ref mt, .ref ab])), (eb, .inl (cI, 12, .inl fb)), (hf, .inr (2, [.int dp, .ref qp, .ref qe, .ref ql, .int (nI lo), .int (nI le)])), (qp, .inl (cO, b, .inr (.inr (.inr (.inr fp)))))] ++ pool G cI Pg S2_13) H := hP
    have hD : va_D A ([(ep, .inl (cI, 12, .inl fq)), (hm, .inr (3, [.int mk, .int mc])), (hp, .inr (5, [.int (nI pm2_7), .long fr2_8, .long wk2_9, .int nr2_11, .ref pd, .ref pt, .ref pb, .long fe2_10])), (pd, .inl (cO, 25, .inr (.inr (.inr (.inr fd))))), (pt, .inl (cI, 25, .inl ft2_12)), (he, .inr (1, [.ref hm, .ref hf, .ref hp, .ref eb, .ref ep, .int (nI el), .ref nd, .ref mt, .ref ab])), (eb, .inl (cI, 12, .inl fb)), (hf, .inr (2, [.int dp, .ref qp, .ref qe, .ref ql, .int (nI lo), .int (nI le)])), (qp, .inl (cO, b, .inr (.inr (.inr (.inr fp)))))] ++ pool G cI Pg S2_13) := hD
    have hK : va_K (dC, dI) vwCl [(cO, .object RX4), (cI, .int)] s := hK
    have hm_a_18 := hw.1
    have ht_a_18 := hw.2
    have hz1_ab := (hI ab hm_ab).1
    have hz2_ab := (hI ab hm_ab).2.1
    have hz3_ab := (hI ab hm_ab).2.2
    have hz1_a_18 := (hI a_18 hm_a_18).1
    have hz2_a_18 := (hI a_18 hm_a_18).2.1
    have hz3_a_18 := (hI a_18 hm_a_18).2.2
    have hab : ab ≠ a_18 := fun h9 => absurd (congrArg (fun x => (G x).2.2.2) h9) (by show (G ab).2.2.2 ≠ (G a_18).2.2.2; have h7 := ht_ab; have h8 := ht_a_18; omega)
    have hT9 := in2 hm_ab hm_a_18
    have hPc : va_P (dC, dI) vwCl [(ab, .inr (4, [.int (S2_13 ab).1, .int (nI (S2_13 ab).2.1), .ref (G ab).1, .ref (G ab).2.1])), ((G ab).1, .inl (cI, (G ab).2.2.1, .inl (S2_13 ab).2.2.1)), ((G ab).2.1, .inl (cI, (G ab).2.2.1, .inl (S2_13 ab).2.2.2)), (a_18, .inr (4, [.int (S2_13 a_18).1, .int (nI (S2_13 a_18).2.1), .ref (G a_18).1, .ref (G a_18).2.1])), ((G a_18).1, .inl (cI, (G a_18).2.2.1, .inl (S2_13 a_18).2.2.1)), ((G a_18).2.1, .inl (cI, (G a_18).2.2.1, .inl (S2_13 a_18).2.2.2))] H := pool_cut (T := [ab, a_18]) (cx := []) hP hT9 [] rfl
    have hDc : va_D A [(ab, .inr (4, [.int (S2_13 ab).1, .int (nI (S2_13 ab).2.1), .ref (G ab).1, .ref (G ab).2.1])), ((G ab).1, .inl (cI, (G ab).2.2.1, .inl (S2_13 ab).2.2.1)), ((G ab).2.1, .inl (cI, (G ab).2.2.1, .inl (S2_13 ab).2.2.2)), (a_18, .inr (4, [.int (S2_13 a_18).1, .int (nI (S2_13 a_18).2.1), .ref (G a_18).1, .ref (G a_18).2.1])), ((G a_18).1, .inl (cI, (G a_18).2.2.1, .inl (S2_13 a_18).2.2.1)), ((G a_18).2.1, .inl (cI, (G a_18).2.2.1, .inl (S2_13 a_18).2.2.2))] := pool_cutD (T := [ab, a_18]) (cx := []) hD hT9 (nd2 hab) [] (by decide) rfl
    have hFc : ∀ q, va_A [(ab, .inr (4, [.int (S2_13 ab).1, .int (nI (S2_13 ab).2.1), .ref (G ab).1, .ref (G ab).2.1])), ((G ab).1, .inl (cI, (G ab).2.2.1, .inl (S2_13 ab).2.2.1)), ((G ab).2.1, .inl (cI, (G ab).2.2.1, .inl (S2_13 ab).2.2.2)), (a_18, .inr (4, [.int (S2_13 a_18).1, .int (nI (S2_13 a_18).2.1), .ref (G a_18).1, .ref (G a_18).2.1])), ((G a_18).1, .inl (cI, (G a_18).2.2.1, .inl (S2_13 a_18).2.2.1)), ((G a_18).2.1, .inl (cI, (G a_18).2.2.1, .inl (S2_13 a_18).2.2.2))] (H).size q → A q := pool_free (T := [ab, a_18]) (cx := []) hD hS hA hT9 [] rfl
    have hKc := hK.sub (tys' := [(cI, .int), (cI, .int), (cI, .int), (cI, .int)]) [1, 1, 1, 1] rfl
    refine va_callv (va_runV (As := [.ref a_18]) (rest := []) ⟨hx, hb, hml, hown, hts⟩ (c_X4_copy l dC dI H.size ab (G ab).1 (G ab).2.1 (G ab).2.2.1 (S2_13 ab).2.1 (S2_13 ab).1 cI cI (S2_13 ab).2.2.1 (S2_13 ab).2.2.2 a_18 (G a_18).1 (G a_18).2.1 (G a_18).2.2.1 (S2_13 a_18).2.1 (S2_13 a_18).1 cI cI (S2_13 a_18).2.2.1 (S2_13 a_18).2.2.2 (by first | assumption | omega | decide) (by first | assumption | omega | decide) (by first | assumption | omega | decide) (by first | assumption | omega | decide) (by first | assumption | omega | decide)) (cwV 1 hts g_X1_writeUpward_X4_copy rfl rfl rfl (by decide +kernel) ⟨Nat.le_of_ble_eq_true rfl, Nat.le_of_ble_eq_true rfl⟩) ⟨fun a U g mk q => by obtain ⟨q0, q1, qP, qK, qD⟩ := q; exact ⟨q0, q1, qP, va_K.moved (u := U) (U := U.calling g mk a) (Vm.Alike.refl U.vm) qK, qD⟩, va_recv hKc hPc (ci := 4) (q0 := 0) rfl rfl, fun U hU hW => ⟨rfl, by rw [hU], by rw [hU]; exact hPc, va_K.moved hW.alike hKc, hDc.weaken (fun _ _ _ _ => trivial)⟩⟩ rfl rfl hl.1 rfl (lv_room (Nat.le_of_ble_eq_true rfl)) dX1_writeUpward_65 ⟨(show 0 + 0 ≤ 0 by omega), (show 0 + 0 ≤ 0 by omega)⟩) hS (fun q _ h => hFc q h) hFc (fun u t H1 locs ht hvm hw hB hz1 hk1 hS => ?_)
    obtain ⟨m2_20, f2_21, g2_22⟩ := u
    obtain ⟨hP1, hK1, hD1⟩ := hB
    rw [ht] at hP1
    have hK1 := va_K.moved hvm.symm hK1
    try dsimp only at hw
    obtain ⟨hP, hD⟩ := pool_join (S := S2_13) (S1 := (pgJ [ab] (fun _ => ((S2_13 a_18).1, m2_20, f2_21, g2_22)) (fun _ => ((S2_13 a_18).1, (S2_13 a_18).2.1, (S2_13 a_18).2.2.1, (S2_13 a_18).2.2.2)))) (T := [ab, a_18]) (cx := []) (wr := [(ep, .inl (cI, 12, .inl fq)), (hm, .inr (3, [.int mk, .int mc])), (hp, .inr (5, [.int (nI pm2_7), .long fr2_8, .long wk2_9, .int nr2_11, .ref pd, .ref pt, .ref pb, .long fe2_10])), (pd, .inl (cO, 25, .inr (.inr (.inr (.inr fd))))), (pt, .inl (cI, 25, .inl ft2_12)), (he, .inr (1, [.ref hm, .ref hf, .ref hp, .ref eb, .ref ep, .int (nI el), .ref nd, .ref mt, .ref ab])), (eb, .inl (cI, 12, .inl fb)), (hf, .inr (2, [.int dp, .ref qp, .ref qe, .ref ql, .int (nI lo), .int (nI le)])), (qp, .inl (cO, b, .inr (.inr (.inr (.inr fp)))))]) (rx := []) hP hD hT9 [] [0, 1, 2, 3, 4, 5, 6, 7, 8] rfl rfl (by decide) (by decide) hk1 hFc (by rw [pool2 hab]; exact hP1) (by rw [pool2 hab]; exact hD1)
    obtain ⟨S_23, eS_23⟩ : ∃ x, x = pgJ [ab, a_18] (pgJ [ab] (fun _ => ((S2_13 a_18).1, m2_20, f2_21, g2_22)) (fun _ => ((S2_13 a_18).1, (S2_13 a_18).2.1, (S2_13 a_18).2.2.1, (S2_13 a_18).2.2.2))) S2_13 := ⟨_, rfl⟩
    rw [← eS_23] at hP hD
    have hK := (hK.sub (tys' := [(cO, .object RX4), (cI, .int)]) [0, 1] rfl).app hK1
    have hK : va_K (dC, dI) vwCl [(cO, .object RX4), (cI, .int)] s := hK.sub [0, 1] rfl
    generalize H1 = H at hP hS ⊢
    have hP : va_P (dC, dI) vwCl ([(ep, .inl (cI, 12, .inl fq)), (hm, .inr (3, [.int mk, .int mc])), (hp, .inr (5, [.int (nI pm2_7), .long fr2_8, .long wk2_9, .int nr2_11, .ref pd, .ref pt, .ref pb, .long fe2_10])), (pd, .inl (cO, 25, .inr (.inr (.inr (.inr fd))))), (pt, .inl (cI, 25, .inl ft2_12)), (he, .inr (1, [.ref hm, .ref hf, .ref hp, .ref eb, .ref ep, .int (nI el), .ref nd, .ref mt, .ref ab])), (eb, .inl (cI, 12, .inl fb)), (hf, .inr (2, [.int dp, .ref qp, .ref qe, .ref ql, .int (nI lo), .int (nI le)])), (qp, .inl (cO, b, .inr (.inr (.inr (.inr fp)))))] ++ pool G cI Pg S_23) H := hP
    have hD : va_D A ([(ep, .inl (cI, 12, .inl fq)), (hm, .inr (3, [.int mk, .int mc])), (hp, .inr (5, [.int (nI pm2_7), .long fr2_8, .long wk2_9, .int nr2_11, .ref pd, .ref pt, .ref pb, .long fe2_10])), (pd, .inl (cO, 25, .inr (.inr (.inr (.inr fd))))), (pt, .inl (cI, 25, .inl ft2_12)), (he, .inr (1, [.ref hm, .ref hf, .ref hp, .ref eb, .ref ep, .int (nI el), .ref nd, .ref mt, .ref ab])), (eb, .inl (cI, 12, .inl fb)), (hf, .inr (2, [.int dp, .ref qp, .ref qe, .ref ql, .int (nI lo), .int (nI le)])), (qp, .inl (cO, b, .inr (.inr (.inr (.inr fp)))))] ++ pool G cI Pg S_23) := hD
    have hK : va_K (dC, dI) vwCl [(cO, .object RX4), (cI, .int)] s := hK
    have hI : pgI G Pg S_23 := by rw [eS_23]; exact pgI_2 hI hab (by first | assumption | exact Or.inl rfl | exact Or.inr rfl | exact hw.2.1 | exact hw.1) (by first | assumption | omega) (by first | assumption | exact Or.inl rfl | exact Or.inr rfl | exact hw.2.1 | exact hw.1) (by first | assumption | omega)
    have hw_r_19 := hw
    refine lv_aload_n hx hb dX1_writeUpward_68 rfl (lv_at hl 4 rfl) ?_
    refine va_get (D := (dC, dI)) (ci := 1) (v := .ref ab) (C := RX1) (T := TX1) (N := 9) hx hb hts k_1 hown hK hP 5 rfl rfl 8 (by decide) k_4 (fun _ h9 => h9) rfl dX1_writeUpward_69 ?_
    refine lv_iload_n hx hb dX1_writeUpward_72 rfl (lv_at hl 2 rfl) ?_
    refine lv_iload hx hb dX1_writeUpward_73 (lv_at hl 0 rfl) ?_
    have hz1_ab := (hI ab hm_ab).1
    have hz2_ab := (hI ab hm_ab).2.1
    have hz3_ab := (hI ab hm_ab).2.2
    have hT9 := in1 hm_ab
    have hPc : va_P (dC, dI) vwCl [(ab, .inr (4, [.int (S_23 ab).1, .int (nI (S_23 ab).2.1), .ref (G ab).1, .ref (G ab).2.1])), ((G ab).1, .inl (cI, (G ab).2.2.1, .inl (S_23 ab).2.2.1)), ((G ab).2.1, .inl (cI, (G ab).2.2.1, .inl (S_23 ab).2.2.2))] H := pool_cut (T := [ab]) (cx := []) hP hT9 [] rfl
    have hDc : va_D A [(ab, .inr (4, [.int (S_23 ab).1, .int (nI (S_23 ab).2.1), .ref (G ab).1, .ref (G ab).2.1])), ((G ab).1, .inl (cI, (G ab).2.2.1, .inl (S_23 ab).2.2.1)), ((G ab).2.1, .inl (cI, (G ab).2.2.1, .inl (S_23 ab).2.2.2))] := pool_cutD (T := [ab]) (cx := []) hD hT9 (nd1) [] (by decide) rfl
    have hFc : ∀ q, va_A [(ab, .inr (4, [.int (S_23 ab).1, .int (nI (S_23 ab).2.1), .ref (G ab).1, .ref (G ab).2.1])), ((G ab).1, .inl (cI, (G ab).2.2.1, .inl (S_23 ab).2.2.1)), ((G ab).2.1, .inl (cI, (G ab).2.2.1, .inl (S_23 ab).2.2.2))] (H).size q → A q := pool_free (T := [ab]) (cx := []) hD hS hA hT9 [] rfl
    have hKc := hK.sub (tys' := [(cI, .int), (cI, .int)]) [1, 1] rfl
    refine va_callv (va_runV (As := [.int r_3, .int r_6]) (rest := []) ⟨hx, hb, hml, hown, hts⟩ (c_X4_setRef l dC dI H.size ab (G ab).1 (G ab).2.1 (G ab).2.2.1 (S_23 ab).2.1 (S_23 ab).1 cI cI (S_23 ab).2.2.1 (S_23 ab).2.2.2 r_3 r_6 (by first | assumption | omega | decide) (by first | assumption | omega | decide)) (cwV 2 hts g_X1_writeUpward_X4_setRef rfl rfl rfl (by decide +kernel) ⟨Nat.le_of_ble_eq_true rfl, Nat.le_of_ble_eq_true rfl⟩) ⟨fun a U g mk q => by obtain ⟨q0, q1, qP, qK, qD⟩ := q; exact ⟨q0, q1, qP, va_K.moved (u := U) (U := U.calling g mk a) (Vm.Alike.refl U.vm) qK, qD⟩, va_recv hKc hPc (ci := 4) (q0 := 0) rfl rfl, fun U hU hW => ⟨rfl, by rw [hU], by rw [hU]; exact hPc, va_K.moved hW.alike hKc, hDc.weaken (fun _ _ _ _ => trivial)⟩⟩ rfl rfl hl.1 rfl (lv_room (Nat.le_of_ble_eq_true rfl)) dX1_writeUpward_75 ⟨(show 0 + 0 ≤ 0 by omega), (show 0 + 0 ≤ 0 by omega)⟩) hS (fun q _ h => hFc q h) hFc (fun u t H1 locs ht hvm hw hB hz1 hk1 hS => ?_)
    obtain ⟨f2_25, rfl⟩ : ∃ z, z = u := ⟨_, rfl⟩
    obtain ⟨hP1, hK1, hD1⟩ := hB
    rw [ht] at hP1
    have hK1 := va_K.moved hvm.symm hK1
    try dsimp only at hw
    obtain ⟨hP, hD⟩ := pool_join (S := S_23) (S1 := (fun _ => ((S_23 ab).1, (S_23 ab).2.1, (S_23 ab).2.2.1, f2_25))) (T := [ab]) (cx := []) (wr := [(ep, .inl (cI, 12, .inl fq)), (hm, .inr (3, [.int mk, .int mc])), (hp, .inr (5, [.int (nI pm2_7), .long fr2_8, .long wk2_9, .int nr2_11, .ref pd, .ref pt, .ref pb, .long fe2_10])), (pd, .inl (cO, 25, .inr (.inr (.inr (.inr fd))))), (pt, .inl (cI, 25, .inl ft2_12)), (he, .inr (1, [.ref hm, .ref hf, .ref hp, .ref eb, .ref ep, .int (nI el), .ref nd, .ref mt, .ref ab])), (eb, .inl (cI, 12, .inl fb)), (hf, .inr (2, [.int dp, .ref qp, .ref qe, .ref ql, .int (nI lo), .int (nI le)])), (qp, .inl (cO, b, .inr (.inr (.inr (.inr fp)))))]) (rx := []) hP hD hT9 [] [0, 1, 2, 3, 4, 5, 6, 7, 8] rfl rfl (by decide) (by decide) hk1 hFc hP1 hD1
    obtain ⟨S_26, eS_26⟩ : ∃ x, x = pgJ [ab] (fun _ => ((S_23 ab).1, (S_23 ab).2.1, (S_23 ab).2.2.1, f2_25)) S_23 := ⟨_, rfl⟩
    rw [← eS_26] at hP hD
    have hK := (hK.sub (tys' := [(cO, .object RX4), (cI, .int)]) [0, 1] rfl).app hK1
    have hK : va_K (dC, dI) vwCl [(cO, .object RX4), (cI, .int)] s := hK.sub [0, 1] rfl
    generalize H1 = H at hP hS ⊢
    have hP : va_P (dC, dI) vwCl ([(ep, .inl (cI, 12, .inl fq)), (hm, .inr (3, [.int mk, .int mc])), (hp, .inr (5, [.int (nI pm2_7), .long fr2_8, .long wk2_9, .int nr2_11, .ref pd, .ref pt, .ref pb, .long fe2_10])), (pd, .inl (cO, 25, .inr (.inr (.inr (.inr fd))))), (pt, .inl (cI, 25, .inl ft2_12)), (he, .inr (1, [.ref hm, .ref hf, .ref hp, .ref eb, .ref ep, .int (nI el), .ref nd, .ref mt, .ref ab])), (eb, .inl (cI, 12, .inl fb)), (hf, .inr (2, [.int dp, .ref qp, .ref qe, .ref ql, .int (nI lo), .int (nI le)])), (qp, .inl (cO, b, .inr (.inr (.inr (.inr fp)))))] ++ pool G cI Pg S_26) H := hP
    have hD : va_D A ([(ep, .inl (cI, 12, .inl fq)), (hm, .inr (3, [.int mk, .int mc])), (hp, .inr (5, [.int (nI pm2_7), .long fr2_8, .long wk2_9, .int nr2_11, .ref pd, .ref pt, .ref pb, .long fe2_10])), (pd, .inl (cO, 25, .inr (.inr (.inr (.inr fd))))), (pt, .inl (cI, 25, .inl ft2_12)), (he, .inr (1, [.ref hm, .ref hf, .ref hp, .ref eb, .ref ep, .int (nI el), .ref nd, .ref mt, .ref ab])), (eb, .inl (cI, 12, .inl fb)), (hf, .inr (2, [.int dp, .ref qp, .ref qe, .ref ql, .int (nI lo), .int (nI le)])), (qp, .inl (cO, b, .inr (.inr (.inr (.inr fp)))))] ++ pool G cI Pg S_26) := hD
    have hK : va_K (dC, dI) vwCl [(cO, .object RX4), (cI, .int)] s := hK
    have hI : pgI G Pg S_26 := by rw [eS_26]; exact pgI_1 hI (by first | assumption | exact Or.inl rfl | exact Or.inr rfl | exact hw.2.1 | exact hw.1) (by first | assumption | omega)
    refine lv_iload hx hb dX1_writeUpward_78 (lv_at hl 1 rfl) ?_
    refine lv_if_eq (tgt := 113) hx hb dX1_writeUpward_80 (by decide) (fun c_27 => ?_) (fun c_27 => ?_)
    · refine lv_aload_n hx hb dX1_writeUpward_113 rfl (lv_at hl 4 rfl) ?_
      refine va_get (D := (dC, dI)) (ci := 1) (v := .ref nd) (C := RX1) (T := TX1) (N := 9) hx hb hts k_1 hown hK hP 5 rfl rfl 6 (by decide) k_3 (fun _ h9 => h9) rfl dX1_writeUpward_114 ?_
      refine lv_aload_n hx hb dX1_writeUpward_117 rfl (lv_at hl 4 rfl) ?_
      refine va_get (D := (dC, dI)) (ci := 1) (v := .ref ab) (C := RX1) (T := TX1) (N := 9) hx hb hts k_1 hown hK hP 5 rfl rfl 8 (by decide) k_4 (fun _ h9 => h9) rfl dX1_writeUpward_118 ?_
      have hz1_nd := (hI nd hm_nd).1
      have hz2_nd := (hI nd hm_nd).2.1
      have hz3_nd := (hI nd hm_nd).2.2
      have hz1_ab := (hI ab hm_ab).1
      have hz2_ab := (hI ab hm_ab).2.1
      have hz3_ab := (hI ab hm_ab).2.2
      have hab : nd ≠ ab := fun h9 => absurd (congrArg (fun x => (G x).2.2.2) h9) (by show (G nd).2.2.2 ≠ (G ab).2.2.2; have h7 := ht_nd; have h8 := ht_ab; omega)
      have hT9 := in2 hm_nd hm_ab
      have hPc : va_P (dC, dI) vwCl [(nd, .inr (4, [.int (S_26 nd).1, .int (nI (S_26 nd).2.1), .ref (G nd).1, .ref (G nd).2.1])), ((G nd).1, .inl (cI, (G nd).2.2.1, .inl (S_26 nd).2.2.1)), ((G nd).2.1, .inl (cI, (G nd).2.2.1, .inl (S_26 nd).2.2.2)), (ab, .inr (4, [.int (S_26 ab).1, .int (nI (S_26 ab).2.1), .ref (G ab).1, .ref (G ab).2.1])), ((G ab).1, .inl (cI, (G ab).2.2.1, .inl (S_26 ab).2.2.1)), ((G ab).2.1, .inl (cI, (G ab).2.2.1, .inl (S_26 ab).2.2.2))] H := pool_cut (T := [nd, ab]) (cx := []) hP hT9 [] rfl
      have hDc : va_D A [(nd, .inr (4, [.int (S_26 nd).1, .int (nI (S_26 nd).2.1), .ref (G nd).1, .ref (G nd).2.1])), ((G nd).1, .inl (cI, (G nd).2.2.1, .inl (S_26 nd).2.2.1)), ((G nd).2.1, .inl (cI, (G nd).2.2.1, .inl (S_26 nd).2.2.2)), (ab, .inr (4, [.int (S_26 ab).1, .int (nI (S_26 ab).2.1), .ref (G ab).1, .ref (G ab).2.1])), ((G ab).1, .inl (cI, (G ab).2.2.1, .inl (S_26 ab).2.2.1)), ((G ab).2.1, .inl (cI, (G ab).2.2.1, .inl (S_26 ab).2.2.2))] := pool_cutD (T := [nd, ab]) (cx := []) hD hT9 (nd2 hab) [] (by decide) rfl
      have hFc : ∀ q, va_A [(nd, .inr (4, [.int (S_26 nd).1, .int (nI (S_26 nd).2.1), .ref (G nd).1, .ref (G nd).2.1])), ((G nd).1, .inl (cI, (G nd).2.2.1, .inl (S_26 nd).2.2.1)), ((G nd).2.1, .inl (cI, (G nd).2.2.1, .inl (S_26 nd).2.2.2)), (ab, .inr (4, [.int (S_26 ab).1, .int (nI (S_26 ab).2.1), .ref (G ab).1, .ref (G ab).2.1])), ((G ab).1, .inl (cI, (G ab).2.2.1, .inl (S_26 ab).2.2.1)), ((G ab).2.1, .inl (cI, (G ab).2.2.1, .inl (S_26 ab).2.2.2))] (H).size q → A q := pool_free (T := [nd, ab]) (cx := []) hD hS hA hT9 [] rfl
      have hKc := hK.sub (tys' := [(cI, .int), (cI, .int), (cI, .int), (cI, .int)]) [1, 1, 1, 1] rfl
      refine va_callv (va_runV (As := [.ref ab]) (rest := []) ⟨hx, hb, hml, hown, hts⟩ (c_X4_copy l dC dI H.size nd (G nd).1 (G nd).2.1 (G nd).2.2.1 (S_26 nd).2.1 (S_26 nd).1 cI cI (S_26 nd).2.2.1 (S_26 nd).2.2.2 ab (G ab).1 (G ab).2.1 (G ab).2.2.1 (S_26 ab).2.1 (S_26 ab).1 cI cI (S_26 ab).2.2.1 (S_26 ab).2.2.2 (by first | assumption | omega | decide) (by first | assumption | omega | decide) (by first | assumption | omega | decide) (by first | assumption | omega | decide) (by first | assumption | omega | decide)) (cwV 1 hts g_X1_writeUpward_X4_copy rfl rfl rfl (by decide +kernel) ⟨Nat.le_of_ble_eq_true rfl, Nat.le_of_ble_eq_true rfl⟩) ⟨fun a U g mk q => by obtain ⟨q0, q1, qP, qK, qD⟩ := q; exact ⟨q0, q1, qP, va_K.moved (u := U) (U := U.calling g mk a) (Vm.Alike.refl U.vm) qK, qD⟩, va_recv hKc hPc (ci := 4) (q0 := 0) rfl rfl, fun U hU hW => ⟨rfl, by rw [hU], by rw [hU]; exact hPc, va_K.moved hW.alike hKc, hDc.weaken (fun _ _ _ _ => trivial)⟩⟩ rfl rfl hl.1 rfl (lv_room (Nat.le_of_ble_eq_true rfl)) dX1_writeUpward_121 ⟨(show 0 + 0 ≤ 0 by omega), (show 0 + 0 ≤ 0 by omega)⟩) hS (fun q _ h => hFc q h) hFc (fun u t H1 locs ht hvm hw hB hz1 hk1 hS => ?_)
      obtain ⟨m2_29, f2_30, g2_31⟩ := u
      obtain ⟨hP1, hK1, hD1⟩ := hB
      rw [ht] at hP1
      have hK1 := va_K.moved hvm.symm hK1
      try dsimp only at hw
      obtain ⟨hP, hD⟩ := pool_join (S := S_26) (S1 := (pgJ [nd] (fun _ => ((S_26 ab).1, m2_29, f2_30, g2_31)) (fun _ => ((S_26 ab).1, (S_26 ab).2.1, (S_26 ab).2.2.1, (S_26 ab).2.2.2)))) (T := [nd, ab]) (cx := []) (wr := [(ep, .inl (cI, 12, .inl fq)), (hm, .inr (3, [.int mk, .int mc])), (hp, .inr (5, [.int (nI pm2_7), .long fr2_8, .long wk2_9, .int nr2_11, .ref pd, .ref pt, .ref pb, .long fe2_10])), (pd, .inl (cO, 25, .inr (.inr (.inr (.inr fd))))), (pt, .inl (cI, 25, .inl ft2_12)), (he, .inr (1, [.ref hm, .ref hf, .ref hp, .ref eb, .ref ep, .int (nI el), .ref nd, .ref mt, .ref ab])), (eb, .inl (cI, 12, .inl fb)), (hf, .inr (2, [.int dp, .ref qp, .ref qe, .ref ql, .int (nI lo), .int (nI le)])), (qp, .inl (cO, b, .inr (.inr (.inr (.inr fp)))))]) (rx := []) hP hD hT9 [] [0, 1, 2, 3, 4, 5, 6, 7, 8] rfl rfl (by decide) (by decide) hk1 hFc (by rw [pool2 hab]; exact hP1) (by rw [pool2 hab]; exact hD1)
      obtain ⟨S_32, eS_32⟩ : ∃ x, x = pgJ [nd, ab] (pgJ [nd] (fun _ => ((S_26 ab).1, m2_29, f2_30, g2_31)) (fun _ => ((S_26 ab).1, (S_26 ab).2.1, (S_26 ab).2.2.1, (S_26 ab).2.2.2))) S_26 := ⟨_, rfl⟩
      rw [← eS_32] at hP hD
      have hK := (hK.sub (tys' := [(cO, .object RX4), (cI, .int)]) [0, 1] rfl).app hK1
      have hK : va_K (dC, dI) vwCl [(cO, .object RX4), (cI, .int)] s := hK.sub [0, 1] rfl
      generalize H1 = H at hP hS ⊢
      have hP : va_P (dC, dI) vwCl ([(ep, .inl (cI, 12, .inl fq)), (hm, .inr (3, [.int mk, .int mc])), (hp, .inr (5, [.int (nI pm2_7), .long fr2_8, .long wk2_9, .int nr2_11, .ref pd, .ref pt, .ref pb, .long fe2_10])), (pd, .inl (cO, 25, .inr (.inr (.inr (.inr fd))))), (pt, .inl (cI, 25, .inl ft2_12)), (he, .inr (1, [.ref hm, .ref hf, .ref hp, .ref eb, .ref ep, .int (nI el), .ref nd, .ref mt, .ref ab])), (eb, .inl (cI, 12, .inl fb)), (hf, .inr (2, [.int dp, .ref qp, .ref qe, .ref ql, .int (nI lo), .int (nI le)])), (qp, .inl (cO, b, .inr (.inr (.inr (.inr fp)))))] ++ pool G cI Pg S_32) H := hP
      have hD : va_D A ([(ep, .inl (cI, 12, .inl fq)), (hm, .inr (3, [.int mk, .int mc])), (hp, .inr (5, [.int (nI pm2_7), .long fr2_8, .long wk2_9, .int nr2_11, .ref pd, .ref pt, .ref pb, .long fe2_10])), (pd, .inl (cO, 25, .inr (.inr (.inr (.inr fd))))), (pt, .inl (cI, 25, .inl ft2_12)), (he, .inr (1, [.ref hm, .ref hf, .ref hp, .ref eb, .ref ep, .int (nI el), .ref nd, .ref mt, .ref ab])), (eb, .inl (cI, 12, .inl fb)), (hf, .inr (2, [.int dp, .ref qp, .ref qe, .ref ql, .int (nI lo), .int (nI le)])), (qp, .inl (cO, b, .inr (.inr (.inr (.inr fp)))))] ++ pool G cI Pg S_32) := hD
      have hK : va_K (dC, dI) vwCl [(cO, .object RX4), (cI, .int)] s := hK
      have hI : pgI G Pg S_32 := by rw [eS_32]; exact pgI_2 hI hab (by first | assumption | exact Or.inl rfl | exact Or.inr rfl | exact hw.2.1 | exact hw.1) (by first | assumption | omega) (by first | assumption | exact Or.inl rfl | exact Or.inr rfl | exact hw.2.1 | exact hw.1) (by first | assumption | omega)
      have hw_r_28 := hw
      refine lv_iconst (v := 1) hx hb dX1_writeUpward_124 (by decide) ?_
      have hP9 := hP.part (cx := [(he, .inr (1, [.ref hm, .ref hf, .ref hp, .ref eb, .ref ep, .int (nI el), .ref nd, .ref mt, .ref ab])), (eb, .inl (cI, 12, .inl fb)), (ep, .inl (cI, 12, .inl fq)), (hm, .inr (3, [.int mk, .int mc])), (hf, .inr (2, [.int dp, .ref qp, .ref qe, .ref ql, .int (nI lo), .int (nI le)])), (qp, .inl (cO, b, .inr (.inr (.inr (.inr fp))))), (hp, .inr (5, [.int (nI pm2_7), .long fr2_8, .long wk2_9, .int nr2_11, .ref pd, .ref pt, .ref pb, .long fe2_10])), (pd, .inl (cO, 25, .inr (.inr (.inr (.inr fd))))), (pt, .inl (cI, 25, .inl ft2_12))]) [5, 6, 0, 1, 7, 8, 2, 3, 4] rfl
      have hD9 := hD.part (cx := [(he, .inr (1, [.ref hm, .ref hf, .ref hp, .ref eb, .ref ep, .int (nI el), .ref nd, .ref mt, .ref ab])), (eb, .inl (cI, 12, .inl fb)), (ep, .inl (cI, 12, .inl fq)), (hm, .inr (3, [.int mk, .int mc])), (hf, .inr (2, [.int dp, .ref qp, .ref qe, .ref ql, .int (nI lo), .int (nI le)])), (qp, .inl (cO, b, .inr (.inr (.inr (.inr fp))))), (hp, .inr (5, [.int (nI pm2_7), .long fr2_8, .long wk2_9, .int nr2_11, .ref pd, .ref pt, .ref pb, .long fe2_10])), (pd, .inl (cO, 25, .inr (.inr (.inr (.inr fd))))), (pt, .inl (cI, 25, .inl ft2_12))]) [5, 6, 0, 1, 7, 8, 2, 3, 4] (by decide) rfl
      have hK9 := hK.sub (tys' := [(cO, .object RX4), (cI, .int)]) [0, 1] rfl
      exact W.zret (v := 1) hx hb hr rfl (fun t ht hW => ⟨⟨1, (pm2_7, fr2_8, wk2_9, fe2_10, nr2_11, ft2_12, S_32), rfl, ⟨hI, Or.inr rfl, by omega⟩, by rw [ht]; exact hP9, va_K.moved hW.alike hK9, hD9⟩, hS.F ht⟩) hS.2.2 dX1_writeUpward_125
    · refine lv_aload_n hx hb dX1_writeUpward_83 rfl (lv_at hl 4 rfl) ?_
      refine va_get (D := (dC, dI)) (ci := 1) (v := .ref ab) (C := RX1) (T := TX1) (N := 9) hx hb hts k_1 hown hK hP 5 rfl rfl 8 (by decide) k_4 (fun _ h9 => h9) rfl dX1_writeUpward_84 ?_
      refine lv_iload_n hx hb dX1_writeUpward_87 rfl (lv_at hl 2 rfl) ?_
      refine lv_iconst (v := 1) hx hb dX1_writeUpward_88 (by decide) ?_
      refine lv_iadd hx hb dX1_writeUpward_89 ?_
      refine lv_topi (fun z_33 _ => ?_)
      refine lv_aload_n hx hb dX1_writeUpward_90 rfl (lv_at hl 4 rfl) ?_
      refine va_get (D := (dC, dI)) (ci := 1) (v := .ref mt) (C := RX1) (T := TX1) (N := 9) hx hb hts k_1 hown hK hP 5 rfl rfl 7 (by decide) k_6 (fun _ h9 => h9) rfl dX1_writeUpward_91 ?_
      refine lv_iconst (v := 0) hx hb dX1_writeUpward_94 (by decide) ?_
      have hz1_mt := (hI mt hm_mt).1
      have hz2_mt := (hI mt hm_mt).2.1
      have hz3_mt := (hI mt hm_mt).2.2
      have hT9 := in1 hm_mt
      have hPc : va_P (dC, dI) vwCl [(mt, .inr (4, [.int (S_26 mt).1, .int (nI (S_26 mt).2.1), .ref (G mt).1, .ref (G mt).2.1])), ((G mt).1, .inl (cI, (G mt).2.2.1, .inl (S_26 mt).2.2.1)), ((G mt).2.1, .inl (cI, (G mt).2.2.1, .inl (S_26 mt).2.2.2))] H := pool_cut (T := [mt]) (cx := []) hP hT9 [] rfl
      have hDc : va_D A [(mt, .inr (4, [.int (S_26 mt).1, .int (nI (S_26 mt).2.1), .ref (G mt).1, .ref (G mt).2.1])), ((G mt).1, .inl (cI, (G mt).2.2.1, .inl (S_26 mt).2.2.1)), ((G mt).2.1, .inl (cI, (G mt).2.2.1, .inl (S_26 mt).2.2.2))] := pool_cutD (T := [mt]) (cx := []) hD hT9 (nd1) [] (by decide) rfl
      have hFc : ∀ q, va_A [(mt, .inr (4, [.int (S_26 mt).1, .int (nI (S_26 mt).2.1), .ref (G mt).1, .ref (G mt).2.1])), ((G mt).1, .inl (cI, (G mt).2.2.1, .inl (S_26 mt).2.2.1)), ((G mt).2.1, .inl (cI, (G mt).2.2.1, .inl (S_26 mt).2.2.2))] (H).size q → A q := pool_free (T := [mt]) (cx := []) hD hS hA hT9 [] rfl
      have hKc := hK.sub (tys' := [(cI, .int), (cI, .int)]) [1, 1] rfl
      refine va_calli (va_runV (As := [.int 0]) (rest := [.int z_33, .ref ab]) ⟨hx, hb, hml, hown, hts⟩ (c_X4_keyAt l dC dI H.size mt (G mt).1 (G mt).2.1 (G mt).2.2.1 (S_26 mt).2.1 (S_26 mt).1 cI cI (S_26 mt).2.2.1 (S_26 mt).2.2.2 0 (by first | assumption | omega | decide) (by first | assumption | omega | decide)) (cwV 1 hts g_X1_writeUpward_X4_keyAt rfl rfl rfl (by decide +kernel) ⟨Nat.le_of_ble_eq_true rfl, Nat.le_of_ble_eq_true rfl⟩) ⟨fun a U g mk q => by obtain ⟨q0, q1, qP, qK, qD⟩ := q; exact ⟨q0, q1, qP, va_K.moved (u := U) (U := U.calling g mk a) (Vm.Alike.refl U.vm) qK, qD⟩, va_recv hKc hPc (ci := 4) (q0 := 0) rfl rfl, fun U hU hW => ⟨rfl, by rw [hU], by rw [hU]; exact hPc, va_K.moved hW.alike hKc, hDc.weaken (fun _ _ _ _ => trivial)⟩⟩ rfl rfl hl.1 rfl (lv_room (Nat.le_of_ble_eq_true rfl)) dX1_writeUpward_95 ⟨(show 0 + 0 ≤ 0 by omega), (show 0 + 0 ≤ 0 by omega)⟩) hS (fun q _ h => hFc q h) hFc (fun r_34 u t H1 locs ht hvm hw hB hz1 hk1 hS => ?_)
      obtain ⟨hP1, hK1, hD1⟩ := hB
      rw [ht] at hP1
      have hK1 := va_K.moved hvm.symm hK1
      try dsimp only at hw
      obtain ⟨hP, hD⟩ := pool_join (S := S_26) (S1 := S_26) (T := [mt]) (cx := []) (wr := [(ep, .inl (cI, 12, .inl fq)), (hm, .inr (3, [.int mk, .int mc])), (hp, .inr (5, [.int (nI pm2_7), .long fr2_8, .long wk2_9, .int nr2_11, .ref pd, .ref pt, .ref pb, .long fe2_10])), (pd, .inl (cO, 25, .inr (.inr (.inr (.inr fd))))), (pt, .inl (cI, 25, .inl ft2_12)), (he, .inr (1, [.ref hm, .ref hf, .ref hp, .ref eb, .ref ep, .int (nI el), .ref nd, .ref mt, .ref ab])), (eb, .inl (cI, 12, .inl fb)), (hf, .inr (2, [.int dp, .ref qp, .ref qe, .ref ql, .int (nI lo), .int (nI le)])), (qp, .inl (cO, b, .inr (.inr (.inr (.inr fp)))))]) (rx := []) hP hD hT9 [] [0, 1, 2, 3, 4, 5, 6, 7, 8] rfl rfl (by decide) (by decide) hk1 hFc hP1 hD1
      rw [pgJ_same] at hP hD
      have hK := (hK.sub (tys' := [(cO, .object RX4), (cI, .int)]) [0, 1] rfl).app hK1
      have hK : va_K (dC, dI) vwCl [(cO, .object RX4), (cI, .int)] s := hK.sub [0, 1] rfl
      generalize H1 = H at hP hS ⊢
      have hP : va_P (dC, dI) vwCl ([(ep, .inl (cI, 12, .inl fq)), (hm, .inr (3, [.int mk, .int mc])), (hp, .inr (5, [.int (nI pm2_7), .long fr2_8, .long wk2_9, .int nr2_11, .ref pd, .ref pt, .ref pb, .long fe2_10])), (pd, .inl (cO, 25, .inr (.inr (.inr (.inr fd))))), (pt, .inl (cI, 25, .inl ft2_12)), (he, .inr (1, [.ref hm, .ref hf, .ref hp, .ref eb, .ref ep, .int (nI el), .ref nd, .ref mt, .ref ab])), (eb, .inl (cI, 12, .inl fb)), (hf, .inr (2, [.int dp, .ref qp, .ref qe, .ref ql, .int (nI lo), .int (nI le)])), (qp, .inl (cO, b, .inr (.inr (.inr (.inr fp)))))] ++ pool G cI Pg S_26) H := hP
      have hD : va_D A ([(ep, .inl (cI, 12, .inl fq)), (hm, .inr (3, [.int mk, .int mc])), (hp, .inr (5, [.int (nI pm2_7), .long fr2_8, .long wk2_9, .int nr2_11, .ref pd, .ref pt, .ref pb, .long fe2_10])), (pd, .inl (cO, 25, .inr (.inr (.inr (.inr fd))))), (pt, .inl (cI, 25, .inl ft2_12)), (he, .inr (1, [.ref hm, .ref hf, .ref hp, .ref eb, .ref ep, .int (nI el), .ref nd, .ref mt, .ref ab])), (eb, .inl (cI, 12, .inl fb)), (hf, .inr (2, [.int dp, .ref qp, .ref qe, .ref ql, .int (nI lo), .int (nI le)])), (qp, .inl (cO, b, .inr (.inr (.inr (.inr fp)))))] ++ pool G cI Pg S_26) := hD
      have hK : va_K (dC, dI) vwCl [(cO, .object RX4), (cI, .int)] s := hK
      have hw_r_34 := hw
      refine lv_aload_n hx hb dX1_writeUpward_98 rfl (lv_at hl 4 rfl) ?_
      refine va_get (D := (dC, dI)) (ci := 1) (v := .ref hp) (C := RX1) (T := TX1) (N := 9) hx hb hts k_1 hown hK hP 5 rfl rfl 2 (by decide) k_2 (fun _ h9 => h9) rfl dX1_writeUpward_99 ?_
      refine lv_aload_n hx hb dX1_writeUpward_102 rfl (lv_at hl 4 rfl) ?_
      refine va_get (D := (dC, dI)) (ci := 1) (v := .ref mt) (C := RX1) (T := TX1) (N := 9) hx hb hts k_1 hown hK hP 5 rfl rfl 7 (by decide) k_6 (fun _ h9 => h9) rfl dX1_writeUpward_103 ?_
      refine lv_iconst (v := 0) hx hb dX1_writeUpward_106 (by decide) ?_
      have hPc := hP.part (cx := [(hp, .inr (5, [.int (nI pm2_7), .long fr2_8, .long wk2_9, .int nr2_11, .ref pd, .ref pt, .ref pb, .long fe2_10])), (pd, .inl (cO, 25, .inr (.inr (.inr (.inr fd))))), (pt, .inl (cI, 25, .inl ft2_12))]) [2, 3, 4] rfl
      have hDc := hD.part (cx := [(hp, .inr (5, [.int (nI pm2_7), .long fr2_8, .long wk2_9, .int nr2_11, .ref pd, .ref pt, .ref pb, .long fe2_10])), (pd, .inl (cO, 25, .inr (.inr (.inr (.inr fd))))), (pt, .inl (cI, 25, .inl ft2_12))]) [2, 3, 4] (by decide) rfl
      have hFc := va_freeP (cx := [(hp, .inr (5, [.int (nI pm2_7), .long fr2_8, .long wk2_9, .int nr2_11, .ref pd, .ref pt, .ref pb, .long fe2_10])), (pd, .inl (cO, 25, .inr (.inr (.inr (.inr fd))))), (pt, .inl (cI, 25, .inl ft2_12))]) hD hS hA [2, 3, 4] rfl
      have hKc := hK.sub (tys' := [(cO, .object RX4), (cI, .int)]) [0, 1] rfl
      refine va_calli (va_runV (As := [.ref mt, .int 0]) (rest := [.int r_34, .int z_33, .ref ab]) ⟨hx, hb, hml, hown, hts⟩ (c_X5_write l dC dI H.size hp pd pt pb fr2_8 wk2_9 fe2_10 nr2_11 pm2_7 mt 0 cO fd ft2_12 G Pg cI S_26 (by first | assumption | omega | decide) (by first | assumption | omega | decide) (by first | assumption | omega | decide) (by first | assumption | omega | decide) (by first | assumption | omega | decide) (by first | assumption | omega | decide) (by first | assumption | omega | decide)) (cwV 2 hts g_X1_writeUpward_X5_write rfl rfl rfl (by decide +kernel) ⟨Nat.le_of_ble_eq_true rfl, Nat.le_of_ble_eq_true rfl⟩) ⟨fun a U g mk q => by obtain ⟨q0, q1, qP, qK, qD, qX0, qX1⟩ := q; exact ⟨q0, q1, qP, va_K.moved (u := U) (U := U.calling g mk a) (Vm.Alike.refl U.vm) qK, qD, va_Nw.same (u := U) (U := U.calling g mk a) rfl rfl qX0, va_Nw.same (u := U) (U := U.calling g mk a) rfl rfl qX1⟩, va_recv hKc hPc (ci := 5) (q0 := 0) rfl rfl, fun U hU hW => ⟨rfl, by rw [hU], by rw [hU]; exact hPc, va_K.moved hW.alike hKc, hDc.weaken (fun _ _ _ _ => trivial), va_Nw.warmM hW hNX5_46, va_Nw.warmM hW hNX5_54⟩⟩ rfl rfl hl.1 rfl (lv_room (Nat.le_of_ble_eq_true rfl)) dX1_writeUpward_107 ⟨(show 0 + 0 ≤ 0 by omega), (show 0 + 0 ≤ 0 by omega)⟩) hS (fun q _ h => hFc q h) hFc (fun r_35 u t H1 locs ht hvm hw hB hz1 hk1 hS => ?_)
      obtain ⟨pm2_36, fr2_37, wk2_38, fe2_39, nr2_40, ft2_41, S2_42⟩ := u
      obtain ⟨hP1, hK1, hD1⟩ := hB
      rw [ht] at hP1
      have hK1 := va_K.moved hvm.symm hK1
      try dsimp only at hw
      obtain ⟨hP, hD⟩ := va_joinP (wr := [(ep, .inl (cI, 12, .inl fq)), (hm, .inr (3, [.int mk, .int mc])), (he, .inr (1, [.ref hm, .ref hf, .ref hp, .ref eb, .ref ep, .int (nI el), .ref nd, .ref mt, .ref ab])), (eb, .inl (cI, 12, .inl fb)), (hf, .inr (2, [.int dp, .ref qp, .ref qe, .ref ql, .int (nI lo), .int (nI le)])), (qp, .inl (cO, b, .inr (.inr (.inr (.inr fp)))))]) (rx := [(hp, .inr (5, [.int (nI pm2_36), .long fr2_37, .long wk2_38, .int nr2_40, .ref pd, .ref pt, .ref pb, .long fe2_39])), (pd, .inl (cO, 25, .inr (.inr (.inr (.inr fd))))), (pt, .inl (cI, 25, .inl ft2_41))]) (pl1 := pool G cI Pg S2_42) hP hD [2, 3, 4] [0, 1, 5, 6, 7, 8] rfl rfl (by decide) (by decide) hk1 hFc hP1 hD1
      have hK := (hK.sub (tys' := [(cO, .object RX4), (cI, .int)]) [0, 1] rfl).app hK1
      have hK : va_K (dC, dI) vwCl [(cO, .object RX4), (cI, .int)] s := hK.sub [0, 1] rfl
      generalize H1 = H at hP hS ⊢
      have hP : va_P (dC, dI) vwCl ([(ep, .inl (cI, 12, .inl fq)), (hm, .inr (3, [.int mk, .int mc])), (he, .inr (1, [.ref hm, .ref hf, .ref hp, .ref eb, .ref ep, .int (nI el), .ref nd, .ref mt, .ref ab])), (eb, .inl (cI, 12, .inl fb)), (hf, .inr (2, [.int dp, .ref qp, .ref qe, .ref ql, .int (nI lo), .int (nI le)])), (qp, .inl (cO, b, .inr (.inr (.inr (.inr fp))))), (hp, .inr (5, [.int (nI pm2_36), .long fr2_37, .long wk2_38, .int nr2_40, .ref pd, .ref pt, .ref pb, .long fe2_39])), (pd, .inl (cO, 25, .inr (.inr (.inr (.inr fd))))), (pt, .inl (cI, 25, .inl ft2_41))] ++ pool G cI Pg S2_42) H := hP
      have hD : va_D A ([(ep, .inl (cI, 12, .inl fq)), (hm, .inr (3, [.int mk, .int mc])), (he, .inr (1, [.ref hm, .ref hf, .ref hp, .ref eb, .ref ep, .int (nI el), .ref nd, .ref mt, .ref ab])), (eb, .inl (cI, 12, .inl fb)), (hf, .inr (2, [.int dp, .ref qp, .ref qe, .ref ql, .int (nI lo), .int (nI le)])), (qp, .inl (cO, b, .inr (.inr (.inr (.inr fp))))), (hp, .inr (5, [.int (nI pm2_36), .long fr2_37, .long wk2_38, .int nr2_40, .ref pd, .ref pt, .ref pb, .long fe2_39])), (pd, .inl (cO, 25, .inr (.inr (.inr (.inr fd))))), (pt, .inl (cI, 25, .inl ft2_41))] ++ pool G cI Pg S2_42) := hD
      have hK : va_K (dC, dI) vwCl [(cO, .object RX4), (cI, .int)] s := hK
      have hI := hw.1
      have hw_r_35 := hw
      have hz1_ab := (hI ab hm_ab).1
      have hz2_ab := (hI ab hm_ab).2.1
      have hz3_ab := (hI ab hm_ab).2.2
      have hT9 := in1 hm_ab
      have hPc : va_P (dC, dI) vwCl [(ab, .inr (4, [.int (S2_42 ab).1, .int (nI (S2_42 ab).2.1), .ref (G ab).1, .ref (G ab).2.1])), ((G ab).1, .inl (cI, (G ab).2.2.1, .inl (S2_42 ab).2.2.1)), ((G ab).2.1, .inl (cI, (G ab).2.2.1, .inl (S2_42 ab).2.2.2))] H := pool_cut (T := [ab]) (cx := []) hP hT9 [] rfl
      have hDc : va_D A [(ab, .inr (4, [.int (S2_42 ab).1, .int (nI (S2_42 ab).2.1), .ref (G ab).1, .ref (G ab).2.1])), ((G ab).1, .inl (cI, (G ab).2.2.1, .inl (S2_42 ab).2.2.1)), ((G ab).2.1, .inl (cI, (G ab).2.2.1, .inl (S2_42 ab).2.2.2))] := pool_cutD (T := [ab]) (cx := []) hD hT9 (nd1) [] (by decide) rfl
      have hFc : ∀ q, va_A [(ab, .inr (4, [.int (S2_42 ab).1, .int (nI (S2_42 ab).2.1), .ref (G ab).1, .ref (G ab).2.1])), ((G ab).1, .inl (cI, (G ab).2.2.1, .inl (S2_42 ab).2.2.1)), ((G ab).2.1, .inl (cI, (G ab).2.2.1, .inl (S2_42 ab).2.2.2))] (H).size q → A q := pool_free (T := [ab]) (cx := []) hD hS hA hT9 [] rfl
      have hKc := hK.sub (tys' := [(cI, .int), (cI, .int)]) [1, 1] rfl
      refine va_callv (va_runV (As := [.int z_33, .int r_34, .int r_35]) (rest := []) ⟨hx, hb, hml, hown, hts⟩ (c_X4_insert_any l dC dI H.size ab (G ab).1 (G ab).2.1 (G ab).2.2.1 (S2_42 ab).2.1 (S2_42 ab).1 cI cI (S2_42 ab).2.2.1 (S2_42 ab).2.2.2 z_33 r_34 r_35 (by first | assumption | omega | decide) (by first | assumption | omega | decide)) (cwV 3 hts g_X1_writeUpward_X4_insert_any rfl rfl rfl (by decide +kernel) ⟨Nat.le_of_ble_eq_true rfl, Nat.le_of_ble_eq_true rfl⟩) ⟨fun a U g mk q => by obtain ⟨q0, q1, qP, qK, qD⟩ := q; exact ⟨q0, q1, qP, va_K.moved (u := U) (U := U.calling g mk a) (Vm.Alike.refl U.vm) qK, qD⟩, va_recv hKc hPc (ci := 4) (q0 := 0) rfl rfl, fun U hU hW => ⟨rfl, by rw [hU], by rw [hU]; exact hPc, va_K.moved hW.alike hKc, hDc.weaken (fun _ _ _ _ => trivial)⟩⟩ rfl rfl hl.1 rfl (lv_room (Nat.le_of_ble_eq_true rfl)) dX1_writeUpward_110 ⟨(show 0 + 0 ≤ 0 by omega), (show 0 + 0 ≤ 0 by omega)⟩) hS (fun q _ h => hFc q h) hFc (fun u t H1 locs ht hvm hw hB hz1 hk1 hS => ?_)
      obtain ⟨m2_44, f2_45, g2_46⟩ := u
      obtain ⟨hP1, hK1, hD1⟩ := hB
      rw [ht] at hP1
      have hK1 := va_K.moved hvm.symm hK1
      try dsimp only at hw
      obtain ⟨hP, hD⟩ := pool_join (S := S2_42) (S1 := (fun _ => ((S2_42 ab).1, m2_44, f2_45, g2_46))) (T := [ab]) (cx := []) (wr := [(ep, .inl (cI, 12, .inl fq)), (hm, .inr (3, [.int mk, .int mc])), (he, .inr (1, [.ref hm, .ref hf, .ref hp, .ref eb, .ref ep, .int (nI el), .ref nd, .ref mt, .ref ab])), (eb, .inl (cI, 12, .inl fb)), (hf, .inr (2, [.int dp, .ref qp, .ref qe, .ref ql, .int (nI lo), .int (nI le)])), (qp, .inl (cO, b, .inr (.inr (.inr (.inr fp))))), (hp, .inr (5, [.int (nI pm2_36), .long fr2_37, .long wk2_38, .int nr2_40, .ref pd, .ref pt, .ref pb, .long fe2_39])), (pd, .inl (cO, 25, .inr (.inr (.inr (.inr fd))))), (pt, .inl (cI, 25, .inl ft2_41))]) (rx := []) hP hD hT9 [] [0, 1, 2, 3, 4, 5, 6, 7, 8] rfl rfl (by decide) (by decide) hk1 hFc hP1 hD1
      obtain ⟨S_47, eS_47⟩ : ∃ x, x = pgJ [ab] (fun _ => ((S2_42 ab).1, m2_44, f2_45, g2_46)) S2_42 := ⟨_, rfl⟩
      rw [← eS_47] at hP hD
      have hK := (hK.sub (tys' := [(cO, .object RX4), (cI, .int)]) [0, 1] rfl).app hK1
      have hK : va_K (dC, dI) vwCl [(cO, .object RX4), (cI, .int)] s := hK.sub [0, 1] rfl
      generalize H1 = H at hP hS ⊢
      have hP : va_P (dC, dI) vwCl ([(ep, .inl (cI, 12, .inl fq)), (hm, .inr (3, [.int mk, .int mc])), (he, .inr (1, [.ref hm, .ref hf, .ref hp, .ref eb, .ref ep, .int (nI el), .ref nd, .ref mt, .ref ab])), (eb, .inl (cI, 12, .inl fb)), (hf, .inr (2, [.int dp, .ref qp, .ref qe, .ref ql, .int (nI lo), .int (nI le)])), (qp, .inl (cO, b, .inr (.inr (.inr (.inr fp))))), (hp, .inr (5, [.int (nI pm2_36), .long fr2_37, .long wk2_38, .int nr2_40, .ref pd, .ref pt, .ref pb, .long fe2_39])), (pd, .inl (cO, 25, .inr (.inr (.inr (.inr fd))))), (pt, .inl (cI, 25, .inl ft2_41))] ++ pool G cI Pg S_47) H := hP
      have hD : va_D A ([(ep, .inl (cI, 12, .inl fq)), (hm, .inr (3, [.int mk, .int mc])), (he, .inr (1, [.ref hm, .ref hf, .ref hp, .ref eb, .ref ep, .int (nI el), .ref nd, .ref mt, .ref ab])), (eb, .inl (cI, 12, .inl fb)), (hf, .inr (2, [.int dp, .ref qp, .ref qe, .ref ql, .int (nI lo), .int (nI le)])), (qp, .inl (cO, b, .inr (.inr (.inr (.inr fp))))), (hp, .inr (5, [.int (nI pm2_36), .long fr2_37, .long wk2_38, .int nr2_40, .ref pd, .ref pt, .ref pb, .long fe2_39])), (pd, .inl (cO, 25, .inr (.inr (.inr (.inr fd))))), (pt, .inl (cI, 25, .inl ft2_41))] ++ pool G cI Pg S_47) := hD
      have hK : va_K (dC, dI) vwCl [(cO, .object RX4), (cI, .int)] s := hK
      have hI : pgI G Pg S_47 := by rw [eS_47]; exact pgI_1 hI (by first | assumption | exact Or.inl rfl | exact Or.inr rfl | exact hw.2.1 | exact hw.1) (by first | assumption | omega)
      have hw_r_43 := hw
      refine lv_aload_n hx hb dX1_writeUpward_113 rfl (lv_at hl 4 rfl) ?_
      refine va_get (D := (dC, dI)) (ci := 1) (v := .ref nd) (C := RX1) (T := TX1) (N := 9) hx hb hts k_1 hown hK hP 2 rfl rfl 6 (by decide) k_3 (fun _ h9 => h9) rfl dX1_writeUpward_114 ?_
      refine lv_aload_n hx hb dX1_writeUpward_117 rfl (lv_at hl 4 rfl) ?_
      refine va_get (D := (dC, dI)) (ci := 1) (v := .ref ab) (C := RX1) (T := TX1) (N := 9) hx hb hts k_1 hown hK hP 2 rfl rfl 8 (by decide) k_4 (fun _ h9 => h9) rfl dX1_writeUpward_118 ?_
      have hz1_nd := (hI nd hm_nd).1
      have hz2_nd := (hI nd hm_nd).2.1
      have hz3_nd := (hI nd hm_nd).2.2
      have hz1_ab := (hI ab hm_ab).1
      have hz2_ab := (hI ab hm_ab).2.1
      have hz3_ab := (hI ab hm_ab).2.2
      have hab : nd ≠ ab := fun h9 => absurd (congrArg (fun x => (G x).2.2.2) h9) (by show (G nd).2.2.2 ≠ (G ab).2.2.2; have h7 := ht_nd; have h8 := ht_ab; omega)
      have hT9 := in2 hm_nd hm_ab
      have hPc : va_P (dC, dI) vwCl [(nd, .inr (4, [.int (S_47 nd).1, .int (nI (S_47 nd).2.1), .ref (G nd).1, .ref (G nd).2.1])), ((G nd).1, .inl (cI, (G nd).2.2.1, .inl (S_47 nd).2.2.1)), ((G nd).2.1, .inl (cI, (G nd).2.2.1, .inl (S_47 nd).2.2.2)), (ab, .inr (4, [.int (S_47 ab).1, .int (nI (S_47 ab).2.1), .ref (G ab).1, .ref (G ab).2.1])), ((G ab).1, .inl (cI, (G ab).2.2.1, .inl (S_47 ab).2.2.1)), ((G ab).2.1, .inl (cI, (G ab).2.2.1, .inl (S_47 ab).2.2.2))] H := pool_cut (T := [nd, ab]) (cx := []) hP hT9 [] rfl
      have hDc : va_D A [(nd, .inr (4, [.int (S_47 nd).1, .int (nI (S_47 nd).2.1), .ref (G nd).1, .ref (G nd).2.1])), ((G nd).1, .inl (cI, (G nd).2.2.1, .inl (S_47 nd).2.2.1)), ((G nd).2.1, .inl (cI, (G nd).2.2.1, .inl (S_47 nd).2.2.2)), (ab, .inr (4, [.int (S_47 ab).1, .int (nI (S_47 ab).2.1), .ref (G ab).1, .ref (G ab).2.1])), ((G ab).1, .inl (cI, (G ab).2.2.1, .inl (S_47 ab).2.2.1)), ((G ab).2.1, .inl (cI, (G ab).2.2.1, .inl (S_47 ab).2.2.2))] := pool_cutD (T := [nd, ab]) (cx := []) hD hT9 (nd2 hab) [] (by decide) rfl
      have hFc : ∀ q, va_A [(nd, .inr (4, [.int (S_47 nd).1, .int (nI (S_47 nd).2.1), .ref (G nd).1, .ref (G nd).2.1])), ((G nd).1, .inl (cI, (G nd).2.2.1, .inl (S_47 nd).2.2.1)), ((G nd).2.1, .inl (cI, (G nd).2.2.1, .inl (S_47 nd).2.2.2)), (ab, .inr (4, [.int (S_47 ab).1, .int (nI (S_47 ab).2.1), .ref (G ab).1, .ref (G ab).2.1])), ((G ab).1, .inl (cI, (G ab).2.2.1, .inl (S_47 ab).2.2.1)), ((G ab).2.1, .inl (cI, (G ab).2.2.1, .inl (S_47 ab).2.2.2))] (H).size q → A q := pool_free (T := [nd, ab]) (cx := []) hD hS hA hT9 [] rfl
      have hKc := hK.sub (tys' := [(cI, .int), (cI, .int), (cI, .int), (cI, .int)]) [1, 1, 1, 1] rfl
      refine va_callv (va_runV (As := [.ref ab]) (rest := []) ⟨hx, hb, hml, hown, hts⟩ (c_X4_copy l dC dI H.size nd (G nd).1 (G nd).2.1 (G nd).2.2.1 (S_47 nd).2.1 (S_47 nd).1 cI cI (S_47 nd).2.2.1 (S_47 nd).2.2.2 ab (G ab).1 (G ab).2.1 (G ab).2.2.1 (S_47 ab).2.1 (S_47 ab).1 cI cI (S_47 ab).2.2.1 (S_47 ab).2.2.2 (by first | assumption | omega | decide) (by first | assumption | omega | decide) (by first | assumption | omega | decide) (by first | assumption | omega | decide) (by first | assumption | omega | decide)) (cwV 1 hts g_X1_writeUpward_X4_copy rfl rfl rfl (by decide +kernel) ⟨Nat.le_of_ble_eq_true rfl, Nat.le_of_ble_eq_true rfl⟩) ⟨fun a U g mk q => by obtain ⟨q0, q1, qP, qK, qD⟩ := q; exact ⟨q0, q1, qP, va_K.moved (u := U) (U := U.calling g mk a) (Vm.Alike.refl U.vm) qK, qD⟩, va_recv hKc hPc (ci := 4) (q0 := 0) rfl rfl, fun U hU hW => ⟨rfl, by rw [hU], by rw [hU]; exact hPc, va_K.moved hW.alike hKc, hDc.weaken (fun _ _ _ _ => trivial)⟩⟩ rfl rfl hl.1 rfl (lv_room (Nat.le_of_ble_eq_true rfl)) dX1_writeUpward_121 ⟨(show 0 + 0 ≤ 0 by omega), (show 0 + 0 ≤ 0 by omega)⟩) hS (fun q _ h => hFc q h) hFc (fun u t H1 locs ht hvm hw hB hz1 hk1 hS => ?_)
      obtain ⟨m2_49, f2_50, g2_51⟩ := u
      obtain ⟨hP1, hK1, hD1⟩ := hB
      rw [ht] at hP1
      have hK1 := va_K.moved hvm.symm hK1
      try dsimp only at hw
      obtain ⟨hP, hD⟩ := pool_join (S := S_47) (S1 := (pgJ [nd] (fun _ => ((S_47 ab).1, m2_49, f2_50, g2_51)) (fun _ => ((S_47 ab).1, (S_47 ab).2.1, (S_47 ab).2.2.1, (S_47 ab).2.2.2)))) (T := [nd, ab]) (cx := []) (wr := [(ep, .inl (cI, 12, .inl fq)), (hm, .inr (3, [.int mk, .int mc])), (he, .inr (1, [.ref hm, .ref hf, .ref hp, .ref eb, .ref ep, .int (nI el), .ref nd, .ref mt, .ref ab])), (eb, .inl (cI, 12, .inl fb)), (hf, .inr (2, [.int dp, .ref qp, .ref qe, .ref ql, .int (nI lo), .int (nI le)])), (qp, .inl (cO, b, .inr (.inr (.inr (.inr fp))))), (hp, .inr (5, [.int (nI pm2_36), .long fr2_37, .long wk2_38, .int nr2_40, .ref pd, .ref pt, .ref pb, .long fe2_39])), (pd, .inl (cO, 25, .inr (.inr (.inr (.inr fd))))), (pt, .inl (cI, 25, .inl ft2_41))]) (rx := []) hP hD hT9 [] [0, 1, 2, 3, 4, 5, 6, 7, 8] rfl rfl (by decide) (by decide) hk1 hFc (by rw [pool2 hab]; exact hP1) (by rw [pool2 hab]; exact hD1)
      obtain ⟨S_52, eS_52⟩ : ∃ x, x = pgJ [nd, ab] (pgJ [nd] (fun _ => ((S_47 ab).1, m2_49, f2_50, g2_51)) (fun _ => ((S_47 ab).1, (S_47 ab).2.1, (S_47 ab).2.2.1, (S_47 ab).2.2.2))) S_47 := ⟨_, rfl⟩
      rw [← eS_52] at hP hD
      have hK := (hK.sub (tys' := [(cO, .object RX4), (cI, .int)]) [0, 1] rfl).app hK1
      have hK : va_K (dC, dI) vwCl [(cO, .object RX4), (cI, .int)] s := hK.sub [0, 1] rfl
      generalize H1 = H at hP hS ⊢
      have hP : va_P (dC, dI) vwCl ([(ep, .inl (cI, 12, .inl fq)), (hm, .inr (3, [.int mk, .int mc])), (he, .inr (1, [.ref hm, .ref hf, .ref hp, .ref eb, .ref ep, .int (nI el), .ref nd, .ref mt, .ref ab])), (eb, .inl (cI, 12, .inl fb)), (hf, .inr (2, [.int dp, .ref qp, .ref qe, .ref ql, .int (nI lo), .int (nI le)])), (qp, .inl (cO, b, .inr (.inr (.inr (.inr fp))))), (hp, .inr (5, [.int (nI pm2_36), .long fr2_37, .long wk2_38, .int nr2_40, .ref pd, .ref pt, .ref pb, .long fe2_39])), (pd, .inl (cO, 25, .inr (.inr (.inr (.inr fd))))), (pt, .inl (cI, 25, .inl ft2_41))] ++ pool G cI Pg S_52) H := hP
      have hD : va_D A ([(ep, .inl (cI, 12, .inl fq)), (hm, .inr (3, [.int mk, .int mc])), (he, .inr (1, [.ref hm, .ref hf, .ref hp, .ref eb, .ref ep, .int (nI el), .ref nd, .ref mt, .ref ab])), (eb, .inl (cI, 12, .inl fb)), (hf, .inr (2, [.int dp, .ref qp, .ref qe, .ref ql, .int (nI lo), .int (nI le)])), (qp, .inl (cO, b, .inr (.inr (.inr (.inr fp))))), (hp, .inr (5, [.int (nI pm2_36), .long fr2_37, .long wk2_38, .int nr2_40, .ref pd, .ref pt, .ref pb, .long fe2_39])), (pd, .inl (cO, 25, .inr (.inr (.inr (.inr fd))))), (pt, .inl (cI, 25, .inl ft2_41))] ++ pool G cI Pg S_52) := hD
      have hK : va_K (dC, dI) vwCl [(cO, .object RX4), (cI, .int)] s := hK
      have hI : pgI G Pg S_52 := by rw [eS_52]; exact pgI_2 hI hab (by first | assumption | exact Or.inl rfl | exact Or.inr rfl | exact hw.2.1 | exact hw.1) (by first | assumption | omega) (by first | assumption | exact Or.inl rfl | exact Or.inr rfl | exact hw.2.1 | exact hw.1) (by first | assumption | omega)
      have hw_r_48 := hw
      refine lv_iconst (v := 1) hx hb dX1_writeUpward_124 (by decide) ?_
      have hP9 := hP.part (cx := [(he, .inr (1, [.ref hm, .ref hf, .ref hp, .ref eb, .ref ep, .int (nI el), .ref nd, .ref mt, .ref ab])), (eb, .inl (cI, 12, .inl fb)), (ep, .inl (cI, 12, .inl fq)), (hm, .inr (3, [.int mk, .int mc])), (hf, .inr (2, [.int dp, .ref qp, .ref qe, .ref ql, .int (nI lo), .int (nI le)])), (qp, .inl (cO, b, .inr (.inr (.inr (.inr fp))))), (hp, .inr (5, [.int (nI pm2_36), .long fr2_37, .long wk2_38, .int nr2_40, .ref pd, .ref pt, .ref pb, .long fe2_39])), (pd, .inl (cO, 25, .inr (.inr (.inr (.inr fd))))), (pt, .inl (cI, 25, .inl ft2_41))]) [2, 3, 0, 1, 4, 5, 6, 7, 8] rfl
      have hD9 := hD.part (cx := [(he, .inr (1, [.ref hm, .ref hf, .ref hp, .ref eb, .ref ep, .int (nI el), .ref nd, .ref mt, .ref ab])), (eb, .inl (cI, 12, .inl fb)), (ep, .inl (cI, 12, .inl fq)), (hm, .inr (3, [.int mk, .int mc])), (hf, .inr (2, [.int dp, .ref qp, .ref qe, .ref ql, .int (nI lo), .int (nI le)])), (qp, .inl (cO, b, .inr (.inr (.inr (.inr fp))))), (hp, .inr (5, [.int (nI pm2_36), .long fr2_37, .long wk2_38, .int nr2_40, .ref pd, .ref pt, .ref pb, .long fe2_39])), (pd, .inl (cO, 25, .inr (.inr (.inr (.inr fd))))), (pt, .inl (cI, 25, .inl ft2_41))]) [2, 3, 0, 1, 4, 5, 6, 7, 8] (by decide) rfl
      have hK9 := hK.sub (tys' := [(cO, .object RX4), (cI, .int)]) [0, 1] rfl
      exact W.zret (v := 1) hx hb hr rfl (fun t ht hW => ⟨⟨1, (pm2_36, fr2_37, wk2_38, fe2_39, nr2_40, ft2_41, S_52), rfl, ⟨hI, Or.inr rfl, by omega⟩, by rw [ht]; exact hP9, va_K.moved hW.alike hK9, hD9⟩, hS.F ht⟩) hS.2.2 dX1_writeUpward_125
  · refine lv_iload hx hb dX1_writeUpward_39 (lv_at hl 0 rfl) ?_
    refine lv_iload_n hx hb dX1_writeUpward_41 rfl (lv_at hl 3 rfl) ?_
    refine lv_icmp_ne (tgt := 47) hx hb dX1_writeUpward_42 (by decide) (fun c_53 => ?_) (fun c_53 => ?_)
    · refine lv_aload_n hx hb dX1_writeUpward_47 rfl (lv_at hl 4 rfl) ?_
      refine va_get (D := (dC, dI)) (ci := 1) (v := .ref ab) (C := RX1) (T := TX1) (N := 9) hx hb hts k_1 hown hK hP 4 rfl rfl 8 (by decide) k_4 (fun _ h9 => h9) rfl dX1_writeUpward_48 ?_
      refine lv_aload_n hx hb dX1_writeUpward_51 rfl (lv_at hl 4 rfl) ?_
      refine va_get (D := (dC, dI)) (ci := 1) (v := .ref hf) (C := RX1) (T := TX1) (N := 9) hx hb hts k_1 hown hK hP 4 rfl rfl 1 (by decide) k_5 (fun _ h9 => h9) rfl dX1_writeUpward_52 ?_
      refine lv_aload_n hx hb dX1_writeUpward_55 rfl (lv_at hl 4 rfl) ?_
      refine lv_iload_n hx hb dX1_writeUpward_56 rfl (lv_at hl 5 rfl) ?_
      refine lv_iconst (v := 1) hx hb dX1_writeUpward_57 (by decide) ?_
      refine lv_isub hx hb dX1_writeUpward_58 ?_
      refine lv_topi (fun z_54 _ => ?_)
      have hPc := hP.sub (ws' := [(he, .inr (1, [.ref hm, .ref hf, .ref hp, .ref eb, .ref ep, .int (nI el), .ref nd, .ref mt, .ref ab])), (eb, .inl (cI, 12, .inl fb))]) [4, 2] rfl
      have hDc := hD.sub (ws' := [(he, .inr (1, [.ref hm, .ref hf, .ref hp, .ref eb, .ref ep, .int (nI el), .ref nd, .ref mt, .ref ab])), (eb, .inl (cI, 12, .inl fb))]) [4, 2] (by decide) rfl
      have hKc := hK.sub (tys' := [(cI, .int)]) [1] rfl
      have hFc := va_free (wc := [(he, .inr (1, [.ref hm, .ref hf, .ref hp, .ref eb, .ref ep, .int (nI el), .ref nd, .ref mt, .ref ab])), (eb, .inl (cI, 12, .inl fb))]) hD hS hA [4, 2] rfl
      refine va_calli (va_runV (As := [.int z_54]) (rest := [.ref hf, .ref ab]) ⟨hx, hb, hml, hown, hts⟩ (c_X1_blockAt l dC dI H.size he hm hf hp eb ep nd mt ab el z_54 cI fb) (cwV 1 hts g_X1_writeUpward_X1_blockAt rfl rfl rfl (by decide +kernel) ⟨Nat.le_of_ble_eq_true rfl, Nat.le_of_ble_eq_true rfl⟩) ⟨fun a U g mk q => by obtain ⟨q0, q1, qP, qK, qD⟩ := q; exact ⟨q0, q1, qP, va_K.moved (u := U) (U := U.calling g mk a) (Vm.Alike.refl U.vm) qK, qD⟩, va_recv hKc hPc (ci := 1) (q0 := 0) rfl rfl, fun U hU hW => ⟨rfl, by rw [hU], by rw [hU]; exact hPc, va_K.moved hW.alike hKc, hDc.weaken (fun _ _ _ _ => trivial)⟩⟩ rfl rfl hl.1 rfl (lv_room (Nat.le_of_ble_eq_true rfl)) dX1_writeUpward_59 ⟨(show 0 + 0 ≤ 0 by omega), (show 0 + 0 ≤ 0 by omega)⟩) hS (fun q _ h => hFc q h) hFc (fun r_55 u t H1 locs ht hvm hw hB hz1 hk1 hS => ?_)
      obtain ⟨hP1, hK1, hD1⟩ := hB
      rw [ht] at hP1
      have hK1 := va_K.moved hvm.symm hK1
      try dsimp only at hw
      obtain ⟨hP, hD⟩ := va_joinQ (wr := [(hf, .inr (2, [.int dp, .ref qp, .ref qe, .ref ql, .int (nI lo), .int (nI le)])), (qp, .inl (cO, b, .inr (.inr (.inr (.inr fp))))), (ep, .inl (cI, 12, .inl fq)), (hm, .inr (3, [.int mk, .int mc])), (hp, .inr (5, [.int (nI pm2_7), .long fr2_8, .long wk2_9, .int nr2_11, .ref pd, .ref pt, .ref pb, .long fe2_10])), (pd, .inl (cO, 25, .inr (.inr (.inr (.inr fd))))), (pt, .inl (cI, 25, .inl ft2_12))]) (w1 := [(he, .inr (1, [.ref hm, .ref hf, .ref hp, .ref eb, .ref ep, .int (nI el), .ref nd, .ref mt, .ref ab])), (eb, .inl (cI, 12, .inl fb))]) hP hD [4, 2] [0, 1, 3, 5, 6, 7, 8] rfl rfl (by decide) (by decide) hk1 hFc hP1 hD1
      have hK := (hK.sub (tys' := [(cO, .object RX4), (cI, .int)]) [0, 1] rfl).app hK1
      have hK : va_K (dC, dI) vwCl [(cO, .object RX4), (cI, .int)] s := hK.sub [0, 1] rfl
      generalize H1 = H at hP hS ⊢
      have hP : va_P (dC, dI) vwCl ([(hf, .inr (2, [.int dp, .ref qp, .ref qe, .ref ql, .int (nI lo), .int (nI le)])), (qp, .inl (cO, b, .inr (.inr (.inr (.inr fp))))), (ep, .inl (cI, 12, .inl fq)), (hm, .inr (3, [.int mk, .int mc])), (hp, .inr (5, [.int (nI pm2_7), .long fr2_8, .long wk2_9, .int nr2_11, .ref pd, .ref pt, .ref pb, .long fe2_10])), (pd, .inl (cO, 25, .inr (.inr (.inr (.inr fd))))), (pt, .inl (cI, 25, .inl ft2_12)), (he, .inr (1, [.ref hm, .ref hf, .ref hp, .ref eb, .ref ep, .int (nI el), .ref nd, .ref mt, .ref ab])), (eb, .inl (cI, 12, .inl fb))] ++ pool G cI Pg S2_13) H := hP
      have hD : va_D A ([(hf, .inr (2, [.int dp, .ref qp, .ref qe, .ref ql, .int (nI lo), .int (nI le)])), (qp, .inl (cO, b, .inr (.inr (.inr (.inr fp))))), (ep, .inl (cI, 12, .inl fq)), (hm, .inr (3, [.int mk, .int mc])), (hp, .inr (5, [.int (nI pm2_7), .long fr2_8, .long wk2_9, .int nr2_11, .ref pd, .ref pt, .ref pb, .long fe2_10])), (pd, .inl (cO, 25, .inr (.inr (.inr (.inr fd))))), (pt, .inl (cI, 25, .inl ft2_12)), (he, .inr (1, [.ref hm, .ref hf, .ref hp, .ref eb, .ref ep, .int (nI el), .ref nd, .ref mt, .ref ab])), (eb, .inl (cI, 12, .inl fb))] ++ pool G cI Pg S2_13) := hD
      have hK : va_K (dC, dI) vwCl [(cO, .object RX4), (cI, .int)] s := hK
      have hw_r_55 := hw
      have hPc := hP.part (cx := [(hf, .inr (2, [.int dp, .ref qp, .ref qe, .ref ql, .int (nI lo), .int (nI le)])), (qp, .inl (cO, b, .inr (.inr (.inr (.inr fp)))))]) [0, 1] rfl
      have hDc := hD.part (cx := [(hf, .inr (2, [.int dp, .ref qp, .ref qe, .ref ql, .int (nI lo), .int (nI le)])), (qp, .inl (cO, b, .inr (.inr (.inr (.inr fp)))))]) [0, 1] (by decide) rfl
      have hFc := va_freeP (cx := [(hf, .inr (2, [.int dp, .ref qp, .ref qe, .ref ql, .int (nI lo), .int (nI le)])), (qp, .inl (cO, b, .inr (.inr (.inr (.inr fp)))))]) hD hS hA [0, 1] rfl
      have hKc := hK.sub (tys' := [(cO, .object RX4), (cI, .int)]) [0, 1] rfl
      refine va_callr (va_runV (As := [.int r_55]) (rest := [.ref ab]) ⟨hx, hb, hml, hown, hts⟩ (c_X2_page l dC dI H.size hf qp qe ql b lo le dp cO fp G Pg cI S2_13 r_55 (by first | assumption | omega | decide) (by first | assumption | omega | decide) (by first | assumption | omega | decide) (by first | assumption | omega | decide) (by first | assumption | omega | decide)) (cwV 1 hts g_X1_writeUpward_X2_page rfl rfl rfl (by decide +kernel) ⟨Nat.le_of_ble_eq_true rfl, Nat.le_of_ble_eq_true rfl⟩) ⟨fun a U g mk q => by obtain ⟨q0, q1, qP, qK, qD⟩ := q; exact ⟨q0, q1, qP, va_K.moved (u := U) (U := U.calling g mk a) (Vm.Alike.refl U.vm) qK, qD⟩, va_recv hKc hPc (ci := 2) (q0 := 0) rfl rfl, fun U hU hW => ⟨rfl, by rw [hU], by rw [hU]; exact hPc, va_K.moved hW.alike hKc, hDc.weaken (fun _ _ _ _ => trivial)⟩⟩ rfl rfl hl.1 rfl (lv_room (Nat.le_of_ble_eq_true rfl)) dX1_writeUpward_62 ⟨(show 0 + 0 ≤ 0 by omega), (show 0 + 0 ≤ 0 by omega)⟩) hS (fun q _ h => hFc q h) hFc (fun u r_56 t H1 locs ht hvm hw hB hz1 hk1 hS => ?_)
      obtain ⟨a_57, rfl⟩ : ∃ z, z = u := ⟨_, rfl⟩
      obtain ⟨hra, hP1, hK1, hD1⟩ := hB
      have hra := hra.symm
      subst hra
      rw [ht] at hP1
      have hK1 := va_K.moved hvm.symm hK1
      try dsimp only at hw
      obtain ⟨hP, hD⟩ := va_joinP (wr := [(ep, .inl (cI, 12, .inl fq)), (hm, .inr (3, [.int mk, .int mc])), (hp, .inr (5, [.int (nI pm2_7), .long fr2_8, .long wk2_9, .int nr2_11, .ref pd, .ref pt, .ref pb, .long fe2_10])), (pd, .inl (cO, 25, .inr (.inr (.inr (.inr fd))))), (pt, .inl (cI, 25, .inl ft2_12)), (he, .inr (1, [.ref hm, .ref hf, .ref hp, .ref eb, .ref ep, .int (nI el), .ref nd, .ref mt, .ref ab])), (eb, .inl (cI, 12, .inl fb))]) (rx := [(hf, .inr (2, [.int dp, .ref qp, .ref qe, .ref ql, .int (nI lo), .int (nI le)])), (qp, .inl (cO, b, .inr (.inr (.inr (.inr fp)))))]) (pl1 := pool G cI Pg S2_13) hP hD [0, 1] [2, 3, 4, 5, 6, 7, 8] rfl rfl (by decide) (by decide) hk1 hFc hP1 hD1
      have hK := (hK.sub (tys' := [(cO, .object RX4), (cI, .int)]) [0, 1] rfl).app hK1
      have hK : va_K (dC, dI) vwCl [(cO, .object RX4), (cI, .int)] s := hK.sub [0, 1] rfl
      generalize H1 = H at hP hS ⊢
      have hP : va_P (dC, dI) vwCl ([(ep, .inl (cI, 12, .inl fq)), (hm, .inr (3, [.int mk, .int mc])), (hp, .inr (5, [.int (nI pm2_7), .long fr2_8, .long wk2_9, .int nr2_11, .ref pd, .ref pt, .ref pb, .long fe2_10])), (pd, .inl (cO, 25, .inr (.inr (.inr (.inr fd))))), (pt, .inl (cI, 25, .inl ft2_12)), (he, .inr (1, [.ref hm, .ref hf, .ref hp, .ref eb, .ref ep, .int (nI el), .ref nd, .ref mt, .ref ab])), (eb, .inl (cI, 12, .inl fb)), (hf, .inr (2, [.int dp, .ref qp, .ref qe, .ref ql, .int (nI lo), .int (nI le)])), (qp, .inl (cO, b, .inr (.inr (.inr (.inr fp)))))] ++ pool G cI Pg S2_13) H := hP
      have hD : va_D A ([(ep, .inl (cI, 12, .inl fq)), (hm, .inr (3, [.int mk, .int mc])), (hp, .inr (5, [.int (nI pm2_7), .long fr2_8, .long wk2_9, .int nr2_11, .ref pd, .ref pt, .ref pb, .long fe2_10])), (pd, .inl (cO, 25, .inr (.inr (.inr (.inr fd))))), (pt, .inl (cI, 25, .inl ft2_12)), (he, .inr (1, [.ref hm, .ref hf, .ref hp, .ref eb, .ref ep, .int (nI el), .ref nd, .ref mt, .ref ab])), (eb, .inl (cI, 12, .inl fb)), (hf, .inr (2, [.int dp, .ref qp, .ref qe, .ref ql, .int (nI lo), .int (nI le)])), (qp, .inl (cO, b, .inr (.inr (.inr (.inr fp)))))] ++ pool G cI Pg S2_13) := hD
      have hK : va_K (dC, dI) vwCl [(cO, .object RX4), (cI, .int)] s := hK
      have hm_a_57 := hw.1
      have ht_a_57 := hw.2
      have hz1_ab := (hI ab hm_ab).1
      have hz2_ab := (hI ab hm_ab).2.1
      have hz3_ab := (hI ab hm_ab).2.2
      have hz1_a_57 := (hI a_57 hm_a_57).1
      have hz2_a_57 := (hI a_57 hm_a_57).2.1
      have hz3_a_57 := (hI a_57 hm_a_57).2.2
      have hab : ab ≠ a_57 := fun h9 => absurd (congrArg (fun x => (G x).2.2.2) h9) (by show (G ab).2.2.2 ≠ (G a_57).2.2.2; have h7 := ht_ab; have h8 := ht_a_57; omega)
      have hT9 := in2 hm_ab hm_a_57
      have hPc : va_P (dC, dI) vwCl [(ab, .inr (4, [.int (S2_13 ab).1, .int (nI (S2_13 ab).2.1), .ref (G ab).1, .ref (G ab).2.1])), ((G ab).1, .inl (cI, (G ab).2.2.1, .inl (S2_13 ab).2.2.1)), ((G ab).2.1, .inl (cI, (G ab).2.2.1, .inl (S2_13 ab).2.2.2)), (a_57, .inr (4, [.int (S2_13 a_57).1, .int (nI (S2_13 a_57).2.1), .ref (G a_57).1, .ref (G a_57).2.1])), ((G a_57).1, .inl (cI, (G a_57).2.2.1, .inl (S2_13 a_57).2.2.1)), ((G a_57).2.1, .inl (cI, (G a_57).2.2.1, .inl (S2_13 a_57).2.2.2))] H := pool_cut (T := [ab, a_57]) (cx := []) hP hT9 [] rfl
      have hDc : va_D A [(ab, .inr (4, [.int (S2_13 ab).1, .int (nI (S2_13 ab).2.1), .ref (G ab).1, .ref (G ab).2.1])), ((G ab).1, .inl (cI, (G ab).2.2.1, .inl (S2_13 ab).2.2.1)), ((G ab).2.1, .inl (cI, (G ab).2.2.1, .inl (S2_13 ab).2.2.2)), (a_57, .inr (4, [.int (S2_13 a_57).1, .int (nI (S2_13 a_57).2.1), .ref (G a_57).1, .ref (G a_57).2.1])), ((G a_57).1, .inl (cI, (G a_57).2.2.1, .inl (S2_13 a_57).2.2.1)), ((G a_57).2.1, .inl (cI, (G a_57).2.2.1, .inl (S2_13 a_57).2.2.2))] := pool_cutD (T := [ab, a_57]) (cx := []) hD hT9 (nd2 hab) [] (by decide) rfl
      have hFc : ∀ q, va_A [(ab, .inr (4, [.int (S2_13 ab).1, .int (nI (S2_13 ab).2.1), .ref (G ab).1, .ref (G ab).2.1])), ((G ab).1, .inl (cI, (G ab).2.2.1, .inl (S2_13 ab).2.2.1)), ((G ab).2.1, .inl (cI, (G ab).2.2.1, .inl (S2_13 ab).2.2.2)), (a_57, .inr (4, [.int (S2_13 a_57).1, .int (nI (S2_13 a_57).2.1), .ref (G a_57).1, .ref (G a_57).2.1])), ((G a_57).1, .inl (cI, (G a_57).2.2.1, .inl (S2_13 a_57).2.2.1)), ((G a_57).2.1, .inl (cI, (G a_57).2.2.1, .inl (S2_13 a_57).2.2.2))] (H).size q → A q := pool_free (T := [ab, a_57]) (cx := []) hD hS hA hT9 [] rfl
      have hKc := hK.sub (tys' := [(cI, .int), (cI, .int), (cI, .int), (cI, .int)]) [1, 1, 1, 1] rfl
      refine va_callv (va_runV (As := [.ref a_57]) (rest := []) ⟨hx, hb, hml, hown, hts⟩ (c_X4_copy l dC dI H.size ab (G ab).1 (G ab).2.1 (G ab).2.2.1 (S2_13 ab).2.1 (S2_13 ab).1 cI cI (S2_13 ab).2.2.1 (S2_13 ab).2.2.2 a_57 (G a_57).1 (G a_57).2.1 (G a_57).2.2.1 (S2_13 a_57).2.1 (S2_13 a_57).1 cI cI (S2_13 a_57).2.2.1 (S2_13 a_57).2.2.2 (by first | assumption | omega | decide) (by first | assumption | omega | decide) (by first | assumption | omega | decide) (by first | assumption | omega | decide) (by first | assumption | omega | decide)) (cwV 1 hts g_X1_writeUpward_X4_copy rfl rfl rfl (by decide +kernel) ⟨Nat.le_of_ble_eq_true rfl, Nat.le_of_ble_eq_true rfl⟩) ⟨fun a U g mk q => by obtain ⟨q0, q1, qP, qK, qD⟩ := q; exact ⟨q0, q1, qP, va_K.moved (u := U) (U := U.calling g mk a) (Vm.Alike.refl U.vm) qK, qD⟩, va_recv hKc hPc (ci := 4) (q0 := 0) rfl rfl, fun U hU hW => ⟨rfl, by rw [hU], by rw [hU]; exact hPc, va_K.moved hW.alike hKc, hDc.weaken (fun _ _ _ _ => trivial)⟩⟩ rfl rfl hl.1 rfl (lv_room (Nat.le_of_ble_eq_true rfl)) dX1_writeUpward_65 ⟨(show 0 + 0 ≤ 0 by omega), (show 0 + 0 ≤ 0 by omega)⟩) hS (fun q _ h => hFc q h) hFc (fun u t H1 locs ht hvm hw hB hz1 hk1 hS => ?_)
      obtain ⟨m2_59, f2_60, g2_61⟩ := u
      obtain ⟨hP1, hK1, hD1⟩ := hB
      rw [ht] at hP1
      have hK1 := va_K.moved hvm.symm hK1
      try dsimp only at hw
      obtain ⟨hP, hD⟩ := pool_join (S := S2_13) (S1 := (pgJ [ab] (fun _ => ((S2_13 a_57).1, m2_59, f2_60, g2_61)) (fun _ => ((S2_13 a_57).1, (S2_13 a_57).2.1, (S2_13 a_57).2.2.1, (S2_13 a_57).2.2.2)))) (T := [ab, a_57]) (cx := []) (wr := [(ep, .inl (cI, 12, .inl fq)), (hm, .inr (3, [.int mk, .int mc])), (hp, .inr (5, [.int (nI pm2_7), .long fr2_8, .long wk2_9, .int nr2_11, .ref pd, .ref pt, .ref pb, .long fe2_10])), (pd, .inl (cO, 25, .inr (.inr (.inr (.inr fd))))), (pt, .inl (cI, 25, .inl ft2_12)), (he, .inr (1, [.ref hm, .ref hf, .ref hp, .ref eb, .ref ep, .int (nI el), .ref nd, .ref mt, .ref ab])), (eb, .inl (cI, 12, .inl fb)), (hf, .inr (2, [.int dp, .ref qp, .ref qe, .ref ql, .int (nI lo), .int (nI le)])), (qp, .inl (cO, b, .inr (.inr (.inr (.inr fp)))))]) (rx := []) hP hD hT9 [] [0, 1, 2, 3, 4, 5, 6, 7, 8] rfl rfl (by decide) (by decide) hk1 hFc (by rw [pool2 hab]; exact hP1) (by rw [pool2 hab]; exact hD1)
      obtain ⟨S_62, eS_62⟩ : ∃ x, x = pgJ [ab, a_57] (pgJ [ab] (fun _ => ((S2_13 a_57).1, m2_59, f2_60, g2_61)) (fun _ => ((S2_13 a_57).1, (S2_13 a_57).2.1, (S2_13 a_57).2.2.1, (S2_13 a_57).2.2.2))) S2_13 := ⟨_, rfl⟩
      rw [← eS_62] at hP hD
      have hK := (hK.sub (tys' := [(cO, .object RX4), (cI, .int)]) [0, 1] rfl).app hK1
      have hK : va_K (dC, dI) vwCl [(cO, .object RX4), (cI, .int)] s := hK.sub [0, 1] rfl
      generalize H1 = H at hP hS ⊢
      have hP : va_P (dC, dI) vwCl ([(ep, .inl (cI, 12, .inl fq)), (hm, .inr (3, [.int mk, .int mc])), (hp, .inr (5, [.int (nI pm2_7), .long fr2_8, .long wk2_9, .int nr2_11, .ref pd, .ref pt, .ref pb, .long fe2_10])), (pd, .inl (cO, 25, .inr (.inr (.inr (.inr fd))))), (pt, .inl (cI, 25, .inl ft2_12)), (he, .inr (1, [.ref hm, .ref hf, .ref hp, .ref eb, .ref ep, .int (nI el), .ref nd, .ref mt, .ref ab])), (eb, .inl (cI, 12, .inl fb)), (hf, .inr (2, [.int dp, .ref qp, .ref qe, .ref ql, .int (nI lo), .int (nI le)])), (qp, .inl (cO, b, .inr (.inr (.inr (.inr fp)))))] ++ pool G cI Pg S_62) H := hP
      have hD : va_D A ([(ep, .inl (cI, 12, .inl fq)), (hm, .inr (3, [.int mk, .int mc])), (hp, .inr (5, [.int (nI pm2_7), .long fr2_8, .long wk2_9, .int nr2_11, .ref pd, .ref pt, .ref pb, .long fe2_10])), (pd, .inl (cO, 25, .inr (.inr (.inr (.inr fd))))), (pt, .inl (cI, 25, .inl ft2_12)), (he, .inr (1, [.ref hm, .ref hf, .ref hp, .ref eb, .ref ep, .int (nI el), .ref nd, .ref mt, .ref ab])), (eb, .inl (cI, 12, .inl fb)), (hf, .inr (2, [.int dp, .ref qp, .ref qe, .ref ql, .int (nI lo), .int (nI le)])), (qp, .inl (cO, b, .inr (.inr (.inr (.inr fp)))))] ++ pool G cI Pg S_62) := hD
      have hK : va_K (dC, dI) vwCl [(cO, .object RX4), (cI, .int)] s := hK
      have hI : pgI G Pg S_62 := by rw [eS_62]; exact pgI_2 hI hab (by first | assumption | exact Or.inl rfl | exact Or.inr rfl | exact hw.2.1 | exact hw.1) (by first | assumption | omega) (by first | assumption | exact Or.inl rfl | exact Or.inr rfl | exact hw.2.1 | exact hw.1) (by first | assumption | omega)
      have hw_r_58 := hw
      refine lv_aload_n hx hb dX1_writeUpward_68 rfl (lv_at hl 4 rfl) ?_
      refine va_get (D := (dC, dI)) (ci := 1) (v := .ref ab) (C := RX1) (T := TX1) (N := 9) hx hb hts k_1 hown hK hP 5 rfl rfl 8 (by decide) k_4 (fun _ h9 => h9) rfl dX1_writeUpward_69 ?_
      refine lv_iload_n hx hb dX1_writeUpward_72 rfl (lv_at hl 2 rfl) ?_
      refine lv_iload hx hb dX1_writeUpward_73 (lv_at hl 0 rfl) ?_
      have hz1_ab := (hI ab hm_ab).1
      have hz2_ab := (hI ab hm_ab).2.1
      have hz3_ab := (hI ab hm_ab).2.2
      have hT9 := in1 hm_ab
      have hPc : va_P (dC, dI) vwCl [(ab, .inr (4, [.int (S_62 ab).1, .int (nI (S_62 ab).2.1), .ref (G ab).1, .ref (G ab).2.1])), ((G ab).1, .inl (cI, (G ab).2.2.1, .inl (S_62 ab).2.2.1)), ((G ab).2.1, .inl (cI, (G ab).2.2.1, .inl (S_62 ab).2.2.2))] H := pool_cut (T := [ab]) (cx := []) hP hT9 [] rfl
      have hDc : va_D A [(ab, .inr (4, [.int (S_62 ab).1, .int (nI (S_62 ab).2.1), .ref (G ab).1, .ref (G ab).2.1])), ((G ab).1, .inl (cI, (G ab).2.2.1, .inl (S_62 ab).2.2.1)), ((G ab).2.1, .inl (cI, (G ab).2.2.1, .inl (S_62 ab).2.2.2))] := pool_cutD (T := [ab]) (cx := []) hD hT9 (nd1) [] (by decide) rfl
      have hFc : ∀ q, va_A [(ab, .inr (4, [.int (S_62 ab).1, .int (nI (S_62 ab).2.1), .ref (G ab).1, .ref (G ab).2.1])), ((G ab).1, .inl (cI, (G ab).2.2.1, .inl (S_62 ab).2.2.1)), ((G ab).2.1, .inl (cI, (G ab).2.2.1, .inl (S_62 ab).2.2.2))] (H).size q → A q := pool_free (T := [ab]) (cx := []) hD hS hA hT9 [] rfl
      have hKc := hK.sub (tys' := [(cI, .int), (cI, .int)]) [1, 1] rfl
      refine va_callv (va_runV (As := [.int r_3, .int r_6]) (rest := []) ⟨hx, hb, hml, hown, hts⟩ (c_X4_setRef l dC dI H.size ab (G ab).1 (G ab).2.1 (G ab).2.2.1 (S_62 ab).2.1 (S_62 ab).1 cI cI (S_62 ab).2.2.1 (S_62 ab).2.2.2 r_3 r_6 (by first | assumption | omega | decide) (by first | assumption | omega | decide)) (cwV 2 hts g_X1_writeUpward_X4_setRef rfl rfl rfl (by decide +kernel) ⟨Nat.le_of_ble_eq_true rfl, Nat.le_of_ble_eq_true rfl⟩) ⟨fun a U g mk q => by obtain ⟨q0, q1, qP, qK, qD⟩ := q; exact ⟨q0, q1, qP, va_K.moved (u := U) (U := U.calling g mk a) (Vm.Alike.refl U.vm) qK, qD⟩, va_recv hKc hPc (ci := 4) (q0 := 0) rfl rfl, fun U hU hW => ⟨rfl, by rw [hU], by rw [hU]; exact hPc, va_K.moved hW.alike hKc, hDc.weaken (fun _ _ _ _ => trivial)⟩⟩ rfl rfl hl.1 rfl (lv_room (Nat.le_of_ble_eq_true rfl)) dX1_writeUpward_75 ⟨(show 0 + 0 ≤ 0 by omega), (show 0 + 0 ≤ 0 by omega)⟩) hS (fun q _ h => hFc q h) hFc (fun u t H1 locs ht hvm hw hB hz1 hk1 hS => ?_)
      obtain ⟨f2_64, rfl⟩ : ∃ z, z = u := ⟨_, rfl⟩
      obtain ⟨hP1, hK1, hD1⟩ := hB
      rw [ht] at hP1
      have hK1 := va_K.moved hvm.symm hK1
      try dsimp only at hw
      obtain ⟨hP, hD⟩ := pool_join (S := S_62) (S1 := (fun _ => ((S_62 ab).1, (S_62 ab).2.1, (S_62 ab).2.2.1, f2_64))) (T := [ab]) (cx := []) (wr := [(ep, .inl (cI, 12, .inl fq)), (hm, .inr (3, [.int mk, .int mc])), (hp, .inr (5, [.int (nI pm2_7), .long fr2_8, .long wk2_9, .int nr2_11, .ref pd, .ref pt, .ref pb, .long fe2_10])), (pd, .inl (cO, 25, .inr (.inr (.inr (.inr fd))))), (pt, .inl (cI, 25, .inl ft2_12)), (he, .inr (1, [.ref hm, .ref hf, .ref hp, .ref eb, .ref ep, .int (nI el), .ref nd, .ref mt, .ref ab])), (eb, .inl (cI, 12, .inl fb)), (hf, .inr (2, [.int dp, .ref qp, .ref qe, .ref ql, .int (nI lo), .int (nI le)])), (qp, .inl (cO, b, .inr (.inr (.inr (.inr fp)))))]) (rx := []) hP hD hT9 [] [0, 1, 2, 3, 4, 5, 6, 7, 8] rfl rfl (by decide) (by decide) hk1 hFc hP1 hD1
      obtain ⟨S_65, eS_65⟩ : ∃ x, x = pgJ [ab] (fun _ => ((S_62 ab).1, (S_62 ab).2.1, (S_62 ab).2.2.1, f2_64)) S_62 := ⟨_, rfl⟩
      rw [← eS_65] at hP hD
      have hK := (hK.sub (tys' := [(cO, .object RX4), (cI, .int)]) [0, 1] rfl).app hK1
      have hK : va_K (dC, dI) vwCl [(cO, .object RX4), (cI, .int)] s := hK.sub [0, 1] rfl
      generalize H1 = H at hP hS ⊢
      have hP : va_P (dC, dI) vwCl ([(ep, .inl (cI, 12, .inl fq)), (hm, .inr (3, [.int mk, .int mc])), (hp, .inr (5, [.int (nI pm2_7), .long fr2_8, .long wk2_9, .int nr2_11, .ref pd, .ref pt, .ref pb, .long fe2_10])), (pd, .inl (cO, 25, .inr (.inr (.inr (.inr fd))))), (pt, .inl (cI, 25, .inl ft2_12)), (he, .inr (1, [.ref hm, .ref hf, .ref hp, .ref eb, .ref ep, .int (nI el), .ref nd, .ref mt, .ref ab])), (eb, .inl (cI, 12, .inl fb)), (hf, .inr (2, [.int dp, .ref qp, .ref qe, .ref ql, .int (nI lo), .int (nI le)])), (qp, .inl (cO, b, .inr (.inr (.inr (.inr fp)))))] ++ pool G cI Pg S_65) H := hP
      have hD : va_D A ([(ep, .inl (cI, 12, .inl fq)), (hm, .inr (3, [.int mk, .int mc])), (hp, .inr (5, [.int (nI pm2_7), .long fr2_8, .long wk2_9, .int nr2_11, .ref pd, .ref pt, .ref pb, .long fe2_10])), (pd, .inl (cO, 25, .inr (.inr (.inr (.inr fd))))), (pt, .inl (cI, 25, .inl ft2_12)), (he, .inr (1, [.ref hm, .ref hf, .ref hp, .ref eb, .ref ep, .int (nI el), .ref nd, .ref mt, .ref ab])), (eb, .inl (cI, 12, .inl fb)), (hf, .inr (2, [.int dp, .ref qp, .ref qe, .ref ql, .int (nI lo), .int (nI le)])), (qp, .inl (cO, b, .inr (.inr (.inr (.inr fp)))))] ++ pool G cI Pg S_65) := hD
      have hK : va_K (dC, dI) vwCl [(cO, .object RX4), (cI, .int)] s := hK
      have hI : pgI G Pg S_65 := by rw [eS_65]; exact pgI_1 hI (by first | assumption | exact Or.inl rfl | exact Or.inr rfl | exact hw.2.1 | exact hw.1) (by first | assumption | omega)
      refine lv_iload hx hb dX1_writeUpward_78 (lv_at hl 1 rfl) ?_
      refine lv_if_eq (tgt := 113) hx hb dX1_writeUpward_80 (by decide) (fun c_66 => ?_) (fun c_66 => ?_)
      · refine lv_aload_n hx hb dX1_writeUpward_113 rfl (lv_at hl 4 rfl) ?_
        refine va_get (D := (dC, dI)) (ci := 1) (v := .ref nd) (C := RX1) (T := TX1) (N := 9) hx hb hts k_1 hown hK hP 5 rfl rfl 6 (by decide) k_3 (fun _ h9 => h9) rfl dX1_writeUpward_114 ?_
        refine lv_aload_n hx hb dX1_writeUpward_117 rfl (lv_at hl 4 rfl) ?_
        refine va_get (D := (dC, dI)) (ci := 1) (v := .ref ab) (C := RX1) (T := TX1) (N := 9) hx hb hts k_1 hown hK hP 5 rfl rfl 8 (by decide) k_4 (fun _ h9 => h9) rfl dX1_writeUpward_118 ?_
        have hz1_nd := (hI nd hm_nd).1
        have hz2_nd := (hI nd hm_nd).2.1
        have hz3_nd := (hI nd hm_nd).2.2
        have hz1_ab := (hI ab hm_ab).1
        have hz2_ab := (hI ab hm_ab).2.1
        have hz3_ab := (hI ab hm_ab).2.2
        have hab : nd ≠ ab := fun h9 => absurd (congrArg (fun x => (G x).2.2.2) h9) (by show (G nd).2.2.2 ≠ (G ab).2.2.2; have h7 := ht_nd; have h8 := ht_ab; omega)
        have hT9 := in2 hm_nd hm_ab
        have hPc : va_P (dC, dI) vwCl [(nd, .inr (4, [.int (S_65 nd).1, .int (nI (S_65 nd).2.1), .ref (G nd).1, .ref (G nd).2.1])), ((G nd).1, .inl (cI, (G nd).2.2.1, .inl (S_65 nd).2.2.1)), ((G nd).2.1, .inl (cI, (G nd).2.2.1, .inl (S_65 nd).2.2.2)), (ab, .inr (4, [.int (S_65 ab).1, .int (nI (S_65 ab).2.1), .ref (G ab).1, .ref (G ab).2.1])), ((G ab).1, .inl (cI, (G ab).2.2.1, .inl (S_65 ab).2.2.1)), ((G ab).2.1, .inl (cI, (G ab).2.2.1, .inl (S_65 ab).2.2.2))] H := pool_cut (T := [nd, ab]) (cx := []) hP hT9 [] rfl
        have hDc : va_D A [(nd, .inr (4, [.int (S_65 nd).1, .int (nI (S_65 nd).2.1), .ref (G nd).1, .ref (G nd).2.1])), ((G nd).1, .inl (cI, (G nd).2.2.1, .inl (S_65 nd).2.2.1)), ((G nd).2.1, .inl (cI, (G nd).2.2.1, .inl (S_65 nd).2.2.2)), (ab, .inr (4, [.int (S_65 ab).1, .int (nI (S_65 ab).2.1), .ref (G ab).1, .ref (G ab).2.1])), ((G ab).1, .inl (cI, (G ab).2.2.1, .inl (S_65 ab).2.2.1)), ((G ab).2.1, .inl (cI, (G ab).2.2.1, .inl (S_65 ab).2.2.2))] := pool_cutD (T := [nd, ab]) (cx := []) hD hT9 (nd2 hab) [] (by decide) rfl
        have hFc : ∀ q, va_A [(nd, .inr (4, [.int (S_65 nd).1, .int (nI (S_65 nd).2.1), .ref (G nd).1, .ref (G nd).2.1])), ((G nd).1, .inl (cI, (G nd).2.2.1, .inl (S_65 nd).2.2.1)), ((G nd).2.1, .inl (cI, (G nd).2.2.1, .inl (S_65 nd).2.2.2)), (ab, .inr (4, [.int (S_65 ab).1, .int (nI (S_65 ab).2.1), .ref (G ab).1, .ref (G ab).2.1])), ((G ab).1, .inl (cI, (G ab).2.2.1, .inl (S_65 ab).2.2.1)), ((G ab).2.1, .inl (cI, (G ab).2.2.1, .inl (S_65 ab).2.2.2))] (H).size q → A q := pool_free (T := [nd, ab]) (cx := []) hD hS hA hT9 [] rfl
        have hKc := hK.sub (tys' := [(cI, .int), (cI, .int), (cI, .int), (cI, .int)]) [1, 1, 1, 1] rfl
        refine va_callv (va_runV (As := [.ref ab]) (rest := []) ⟨hx, hb, hml, hown, hts⟩ (c_X4_copy l dC dI H.size nd (G nd).1 (G nd).2.1 (G nd).2.2.1 (S_65 nd).2.1 (S_65 nd).1 cI cI (S_65 nd).2.2.1 (S_65 nd).2.2.2 ab (G ab).1 (G ab).2.1 (G ab).2.2.1 (S_65 ab).2.1 (S_65 ab).1 cI cI (S_65 ab).2.2.1 (S_65 ab).2.2.2 (by first | assumption | omega | decide) (by first | assumption | omega | decide) (by first | assumption | omega | decide) (by first | assumption | omega | decide) (by first | assumption | omega | decide)) (cwV 1 hts g_X1_writeUpward_X4_copy rfl rfl rfl (by decide +kernel) ⟨Nat.le_of_ble_eq_true rfl, Nat.le_of_ble_eq_true rfl⟩) ⟨fun a U g mk q => by obtain ⟨q0, q1, qP, qK, qD⟩ := q; exact ⟨q0, q1, qP, va_K.moved (u := U) (U := U.calling g mk a) (Vm.Alike.refl U.vm) qK, qD⟩, va_recv hKc hPc (ci := 4) (q0 := 0) rfl rfl, fun U hU hW => ⟨rfl, by rw [hU], by rw [hU]; exact hPc, va_K.moved hW.alike hKc, hDc.weaken (fun _ _ _ _ => trivial)⟩⟩ rfl rfl hl.1 rfl (lv_room (Nat.le_of_ble_eq_true rfl)) dX1_writeUpward_121 ⟨(show 0 + 0 ≤ 0 by omega), (show 0 + 0 ≤ 0 by omega)⟩) hS (fun q _ h => hFc q h) hFc (fun u t H1 locs ht hvm hw hB hz1 hk1 hS => ?_)
        obtain ⟨m2_68, f2_69, g2_70⟩ := u
        obtain ⟨hP1, hK1, hD1⟩ := hB
        rw [ht] at hP1
        have hK1 := va_K.moved hvm.symm hK1
        try dsimp only at hw
        obtain ⟨hP, hD⟩ := pool_join (S := S_65) (S1 := (pgJ [nd] (fun _ => ((S_65 ab).1, m2_68, f2_69, g2_70)) (fun _ => ((S_65 ab).1, (S_65 ab).2.1, (S_65 ab).2.2.1, (S_65 ab).2.2.2)))) (T := [nd, ab]) (cx := []) (wr := [(ep, .inl (cI, 12, .inl fq)), (hm, .inr (3, [.int mk, .int mc])), (hp, .inr (5, [.int (nI pm2_7), .long fr2_8, .long wk2_9, .int nr2_11, .ref pd, .ref pt, .ref pb, .long fe2_10])), (pd, .inl (cO, 25, .inr (.inr (.inr (.inr fd))))), (pt, .inl (cI, 25, .inl ft2_12)), (he, .inr (1, [.ref hm, .ref hf, .ref hp, .ref eb, .ref ep, .int (nI el), .ref nd, .ref mt, .ref ab])), (eb, .inl (cI, 12, .inl fb)), (hf, .inr (2, [.int dp, .ref qp, .ref qe, .ref ql, .int (nI lo), .int (nI le)])), (qp, .inl (cO, b, .inr (.inr (.inr (.inr fp)))))]) (rx := []) hP hD hT9 [] [0, 1, 2, 3, 4, 5, 6, 7, 8] rfl rfl (by decide) (by decide) hk1 hFc (by rw [pool2 hab]; exact hP1) (by rw [pool2 hab]; exact hD1)
        obtain ⟨S_71, eS_71⟩ : ∃ x, x = pgJ [nd, ab] (pgJ [nd] (fun _ => ((S_65 ab).1, m2_68, f2_69, g2_70)) (fun _ => ((S_65 ab).1, (S_65 ab).2.1, (S_65 ab).2.2.1, (S_65 ab).2.2.2))) S_65 := ⟨_, rfl⟩
        rw [← eS_71] at hP hD
        have hK := (hK.sub (tys' := [(cO, .object RX4), (cI, .int)]) [0, 1] rfl).app hK1
        have hK : va_K (dC, dI) vwCl [(cO, .object RX4), (cI, .int)] s := hK.sub [0, 1] rfl
        generalize H1 = H at hP hS ⊢
        have hP : va_P (dC, dI) vwCl ([(ep, .inl (cI, 12, .inl fq)), (hm, .inr (3, [.int mk, .int mc])), (hp, .inr (5, [.int (nI pm2_7), .long fr2_8, .long wk2_9, .int nr2_11, .ref pd, .ref pt, .ref pb, .long fe2_10])), (pd, .inl (cO, 25, .inr (.inr (.inr (.inr fd))))), (pt, .inl (cI, 25, .inl ft2_12)), (he, .inr (1, [.ref hm, .ref hf, .ref hp, .ref eb, .ref ep, .int (nI el), .ref nd, .ref mt, .ref ab])), (eb, .inl (cI, 12, .inl fb)), (hf, .inr (2, [.int dp, .ref qp, .ref qe, .ref ql, .int (nI lo), .int (nI le)])), (qp, .inl (cO, b, .inr (.inr (.inr (.inr fp)))))] ++ pool G cI Pg S_71) H := hP
        have hD : va_D A ([(ep, .inl (cI, 12, .inl fq)), (hm, .inr (3, [.int mk, .int mc])), (hp, .inr (5, [.int (nI pm2_7), .long fr2_8, .long wk2_9, .int nr2_11, .ref pd, .ref pt, .ref pb, .long fe2_10])), (pd, .inl (cO, 25, .inr (.inr (.inr (.inr fd))))), (pt, .inl (cI, 25, .inl ft2_12)), (he, .inr (1, [.ref hm, .ref hf, .ref hp, .ref eb, .ref ep, .int (nI el), .ref nd, .ref mt, .ref ab])), (eb, .inl (cI, 12, .inl fb)), (hf, .inr (2, [.int dp, .ref qp, .ref qe, .ref ql, .int (nI lo), .int (nI le)])), (qp, .inl (cO, b, .inr (.inr (.inr (.inr fp)))))] ++ pool G cI Pg S_71) := hD
        have hK : va_K (dC, dI) vwCl [(cO, .object RX4), (cI, .int)] s := hK
        have hI : pgI G Pg S_71 := by rw [eS_71]; exact pgI_2 hI hab (by first | assumption | exact Or.inl rfl | exact Or.inr rfl | exact hw.2.1 | exact hw.1) (by first | assumption | omega) (by first | assumption | exact Or.inl rfl | exact Or.inr rfl | exact hw.2.1 | exact hw.1) (by first | assumption | omega)
        have hw_r_67 := hw
        refine lv_iconst (v := 1) hx hb dX1_writeUpward_124 (by decide) ?_
        have hP9 := hP.part (cx := [(he, .inr (1, [.ref hm, .ref hf, .ref hp, .ref eb, .ref ep, .int (nI el), .ref nd, .ref mt, .ref ab])), (eb, .inl (cI, 12, .inl fb)), (ep, .inl (cI, 12, .inl fq)), (hm, .inr (3, [.int mk, .int mc])), (hf, .inr (2, [.int dp, .ref qp, .ref qe, .ref ql, .int (nI lo), .int (nI le)])), (qp, .inl (cO, b, .inr (.inr (.inr (.inr fp))))), (hp, .inr (5, [.int (nI pm2_7), .long fr2_8, .long wk2_9, .int nr2_11, .ref pd, .ref pt, .ref pb, .long fe2_10])), (pd, .inl (cO, 25, .inr (.inr (.inr (.inr fd))))), (pt, .inl (cI, 25, .inl ft2_12))]) [5, 6, 0, 1, 7, 8, 2, 3, 4] rfl
        have hD9 := hD.part (cx := [(he, .inr (1, [.ref hm, .ref hf, .ref hp, .ref eb, .ref ep, .int (nI el), .ref nd, .ref mt, .ref ab])), (eb, .inl (cI, 12, .inl fb)), (ep, .inl (cI, 12, .inl fq)), (hm, .inr (3, [.int mk, .int mc])), (hf, .inr (2, [.int dp, .ref qp, .ref qe, .ref ql, .int (nI lo), .int (nI le)])), (qp, .inl (cO, b, .inr (.inr (.inr (.inr fp))))), (hp, .inr (5, [.int (nI pm2_7), .long fr2_8, .long wk2_9, .int nr2_11, .ref pd, .ref pt, .ref pb, .long fe2_10])), (pd, .inl (cO, 25, .inr (.inr (.inr (.inr fd))))), (pt, .inl (cI, 25, .inl ft2_12))]) [5, 6, 0, 1, 7, 8, 2, 3, 4] (by decide) rfl
        have hK9 := hK.sub (tys' := [(cO, .object RX4), (cI, .int)]) [0, 1] rfl
        exact W.zret (v := 1) hx hb hr rfl (fun t ht hW => ⟨⟨1, (pm2_7, fr2_8, wk2_9, fe2_10, nr2_11, ft2_12, S_71), rfl, ⟨hI, Or.inr rfl, by omega⟩, by rw [ht]; exact hP9, va_K.moved hW.alike hK9, hD9⟩, hS.F ht⟩) hS.2.2 dX1_writeUpward_125
      · refine lv_aload_n hx hb dX1_writeUpward_83 rfl (lv_at hl 4 rfl) ?_
        refine va_get (D := (dC, dI)) (ci := 1) (v := .ref ab) (C := RX1) (T := TX1) (N := 9) hx hb hts k_1 hown hK hP 5 rfl rfl 8 (by decide) k_4 (fun _ h9 => h9) rfl dX1_writeUpward_84 ?_
        refine lv_iload_n hx hb dX1_writeUpward_87 rfl (lv_at hl 2 rfl) ?_
        refine lv_iconst (v := 1) hx hb dX1_writeUpward_88 (by decide) ?_
        refine lv_iadd hx hb dX1_writeUpward_89 ?_
        refine lv_topi (fun z_72 _ => ?_)
        refine lv_aload_n hx hb dX1_writeUpward_90 rfl (lv_at hl 4 rfl) ?_
        refine va_get (D := (dC, dI)) (ci := 1) (v := .ref mt) (C := RX1) (T := TX1) (N := 9) hx hb hts k_1 hown hK hP 5 rfl rfl 7 (by decide) k_6 (fun _ h9 => h9) rfl dX1_writeUpward_91 ?_
        refine lv_iconst (v := 0) hx hb dX1_writeUpward_94 (by decide) ?_
        have hz1_mt := (hI mt hm_mt).1
        have hz2_mt := (hI mt hm_mt).2.1
        have hz3_mt := (hI mt hm_mt).2.2
        have hT9 := in1 hm_mt
        have hPc : va_P (dC, dI) vwCl [(mt, .inr (4, [.int (S_65 mt).1, .int (nI (S_65 mt).2.1), .ref (G mt).1, .ref (G mt).2.1])), ((G mt).1, .inl (cI, (G mt).2.2.1, .inl (S_65 mt).2.2.1)), ((G mt).2.1, .inl (cI, (G mt).2.2.1, .inl (S_65 mt).2.2.2))] H := pool_cut (T := [mt]) (cx := []) hP hT9 [] rfl
        have hDc : va_D A [(mt, .inr (4, [.int (S_65 mt).1, .int (nI (S_65 mt).2.1), .ref (G mt).1, .ref (G mt).2.1])), ((G mt).1, .inl (cI, (G mt).2.2.1, .inl (S_65 mt).2.2.1)), ((G mt).2.1, .inl (cI, (G mt).2.2.1, .inl (S_65 mt).2.2.2))] := pool_cutD (T := [mt]) (cx := []) hD hT9 (nd1) [] (by decide) rfl
        have hFc : ∀ q, va_A [(mt, .inr (4, [.int (S_65 mt).1, .int (nI (S_65 mt).2.1), .ref (G mt).1, .ref (G mt).2.1])), ((G mt).1, .inl (cI, (G mt).2.2.1, .inl (S_65 mt).2.2.1)), ((G mt).2.1, .inl (cI, (G mt).2.2.1, .inl (S_65 mt).2.2.2))] (H).size q → A q := pool_free (T := [mt]) (cx := []) hD hS hA hT9 [] rfl
        have hKc := hK.sub (tys' := [(cI, .int), (cI, .int)]) [1, 1] rfl
        refine va_calli (va_runV (As := [.int 0]) (rest := [.int z_72, .ref ab]) ⟨hx, hb, hml, hown, hts⟩ (c_X4_keyAt l dC dI H.size mt (G mt).1 (G mt).2.1 (G mt).2.2.1 (S_65 mt).2.1 (S_65 mt).1 cI cI (S_65 mt).2.2.1 (S_65 mt).2.2.2 0 (by first | assumption | omega | decide) (by first | assumption | omega | decide)) (cwV 1 hts g_X1_writeUpward_X4_keyAt rfl rfl rfl (by decide +kernel) ⟨Nat.le_of_ble_eq_true rfl, Nat.le_of_ble_eq_true rfl⟩) ⟨fun a U g mk q => by obtain ⟨q0, q1, qP, qK, qD⟩ := q; exact ⟨q0, q1, qP, va_K.moved (u := U) (U := U.calling g mk a) (Vm.Alike.refl U.vm) qK, qD⟩, va_recv hKc hPc (ci := 4) (q0 := 0) rfl rfl, fun U hU hW => ⟨rfl, by rw [hU], by rw [hU]; exact hPc, va_K.moved hW.alike hKc, hDc.weaken (fun _ _ _ _ => trivial)⟩⟩ rfl rfl hl.1 rfl (lv_room (Nat.le_of_ble_eq_true rfl)) dX1_writeUpward_95 ⟨(show 0 + 0 ≤ 0 by omega), (show 0 + 0 ≤ 0 by omega)⟩) hS (fun q _ h => hFc q h) hFc (fun r_73 u t H1 locs ht hvm hw hB hz1 hk1 hS => ?_)
        obtain ⟨hP1, hK1, hD1⟩ := hB
        rw [ht] at hP1
        have hK1 := va_K.moved hvm.symm hK1
        try dsimp only at hw
        obtain ⟨hP, hD⟩ := pool_join (S := S_65) (S1 := S_65) (T := [mt]) (cx := []) (wr := [(ep, .inl (cI, 12, .inl fq)), (hm, .inr (3, [.int mk, .int mc])), (hp, .inr (5, [.int (nI pm2_7), .long fr2_8, .long wk2_9, .int nr2_11, .ref pd, .ref pt, .ref pb, .long fe2_10])), (pd, .inl (cO, 25, .inr (.inr (.inr (.inr fd))))), (pt, .inl (cI, 25, .inl ft2_12)), (he, .inr (1, [.ref hm, .ref hf, .ref hp, .ref eb, .ref ep, .int (nI el), .ref nd, .ref mt, .ref ab])), (eb, .inl (cI, 12, .inl fb)), (hf, .inr (2, [.int dp, .ref qp, .ref qe, .ref ql, .int (nI lo), .int (nI le)])), (qp, .inl (cO, b, .inr (.inr (.inr (.inr fp)))))]) (rx := []) hP hD hT9 [] [0, 1, 2, 3, 4, 5, 6, 7, 8] rfl rfl (by decide) (by decide) hk1 hFc hP1 hD1
        rw [pgJ_same] at hP hD
        have hK := (hK.sub (tys' := [(cO, .object RX4), (cI, .int)]) [0, 1] rfl).app hK1
        have hK : va_K (dC, dI) vwCl [(cO, .object RX4), (cI, .int)] s := hK.sub [0, 1] rfl
        generalize H1 = H at hP hS ⊢
        have hP : va_P (dC, dI) vwCl ([(ep, .inl (cI, 12, .inl fq)), (hm, .inr (3, [.int mk, .int mc])), (hp, .inr (5, [.int (nI pm2_7), .long fr2_8, .long wk2_9, .int nr2_11, .ref pd, .ref pt, .ref pb, .long fe2_10])), (pd, .inl (cO, 25, .inr (.inr (.inr (.inr fd))))), (pt, .inl (cI, 25, .inl ft2_12)), (he, .inr (1, [.ref hm, .ref hf, .ref hp, .ref eb, .ref ep, .int (nI el), .ref nd, .ref mt, .ref ab])), (eb, .inl (cI, 12, .inl fb)), (hf, .inr (2, [.int dp, .ref qp, .ref qe, .ref ql, .int (nI lo), .int (nI le)])), (qp, .inl (cO, b, .inr (.inr (.inr (.inr fp)))))] ++ pool G cI Pg S_65) H := hP
        have hD : va_D A ([(ep, .inl (cI, 12, .inl fq)), (hm, .inr (3, [.int mk, .int mc])), (hp, .inr (5, [.int (nI pm2_7), .long fr2_8, .long wk2_9, .int nr2_11, .ref pd, .ref pt, .ref pb, .long fe2_10])), (pd, .inl (cO, 25, .inr (.inr (.inr (.inr fd))))), (pt, .inl (cI, 25, .inl ft2_12)), (he, .inr (1, [.ref hm, .ref hf, .ref hp, .ref eb, .ref ep, .int (nI el), .ref nd, .ref mt, .ref ab])), (eb, .inl (cI, 12, .inl fb)), (hf, .inr (2, [.int dp, .ref qp, .ref qe, .ref ql, .int (nI lo), .int (nI le)])), (qp, .inl (cO, b, .inr (.inr (.inr (.inr fp)))))] ++ pool G cI Pg S_65) := hD
        have hK : va_K (dC, dI) vwCl [(cO, .object RX4), (cI, .int)] s := hK
        have hw_r_73 := hw
        refine lv_aload_n hx hb dX1_writeUpward_98 rfl (lv_at hl 4 rfl) ?_
        refine va_get (D := (dC, dI)) (ci := 1) (v := .ref hp) (C := RX1) (T := TX1) (N := 9) hx hb hts k_1 hown hK hP 5 rfl rfl 2 (by decide) k_2 (fun _ h9 => h9) rfl dX1_writeUpward_99 ?_
        refine lv_aload_n hx hb dX1_writeUpward_102 rfl (lv_at hl 4 rfl) ?_
        refine va_get (D := (dC, dI)) (ci := 1) (v := .ref mt) (C := RX1) (T := TX1) (N := 9) hx hb hts k_1 hown hK hP 5 rfl rfl 7 (by decide) k_6 (fun _ h9 => h9) rfl dX1_writeUpward_103 ?_
        refine lv_iconst (v := 0) hx hb dX1_writeUpward_106 (by decide) ?_
        have hPc := hP.part (cx := [(hp, .inr (5, [.int (nI pm2_7), .long fr2_8, .long wk2_9, .int nr2_11, .ref pd, .ref pt, .ref pb, .long fe2_10])), (pd, .inl (cO, 25, .inr (.inr (.inr (.inr fd))))), (pt, .inl (cI, 25, .inl ft2_12))]) [2, 3, 4] rfl
        have hDc := hD.part (cx := [(hp, .inr (5, [.int (nI pm2_7), .long fr2_8, .long wk2_9, .int nr2_11, .ref pd, .ref pt, .ref pb, .long fe2_10])), (pd, .inl (cO, 25, .inr (.inr (.inr (.inr fd))))), (pt, .inl (cI, 25, .inl ft2_12))]) [2, 3, 4] (by decide) rfl
        have hFc := va_freeP (cx := [(hp, .inr (5, [.int (nI pm2_7), .long fr2_8, .long wk2_9, .int nr2_11, .ref pd, .ref pt, .ref pb, .long fe2_10])), (pd, .inl (cO, 25, .inr (.inr (.inr (.inr fd))))), (pt, .inl (cI, 25, .inl ft2_12))]) hD hS hA [2, 3, 4] rfl
        have hKc := hK.sub (tys' := [(cO, .object RX4), (cI, .int)]) [0, 1] rfl
        refine va_calli (va_runV (As := [.ref mt, .int 0]) (rest := [.int r_73, .int z_72, .ref ab]) ⟨hx, hb, hml, hown, hts⟩ (c_X5_write l dC dI H.size hp pd pt pb fr2_8 wk2_9 fe2_10 nr2_11 pm2_7 mt 0 cO fd ft2_12 G Pg cI S_65 (by first | assumption | omega | decide) (by first | assumption | omega | decide) (by first | assumption | omega | decide) (by first | assumption | omega | decide) (by first | assumption | omega | decide) (by first | assumption | omega | decide) (by first | assumption | omega | decide)) (cwV 2 hts g_X1_writeUpward_X5_write rfl rfl rfl (by decide +kernel) ⟨Nat.le_of_ble_eq_true rfl, Nat.le_of_ble_eq_true rfl⟩) ⟨fun a U g mk q => by obtain ⟨q0, q1, qP, qK, qD, qX0, qX1⟩ := q; exact ⟨q0, q1, qP, va_K.moved (u := U) (U := U.calling g mk a) (Vm.Alike.refl U.vm) qK, qD, va_Nw.same (u := U) (U := U.calling g mk a) rfl rfl qX0, va_Nw.same (u := U) (U := U.calling g mk a) rfl rfl qX1⟩, va_recv hKc hPc (ci := 5) (q0 := 0) rfl rfl, fun U hU hW => ⟨rfl, by rw [hU], by rw [hU]; exact hPc, va_K.moved hW.alike hKc, hDc.weaken (fun _ _ _ _ => trivial), va_Nw.warmM hW hNX5_46, va_Nw.warmM hW hNX5_54⟩⟩ rfl rfl hl.1 rfl (lv_room (Nat.le_of_ble_eq_true rfl)) dX1_writeUpward_107 ⟨(show 0 + 0 ≤ 0 by omega), (show 0 + 0 ≤ 0 by omega)⟩) hS (fun q _ h => hFc q h) hFc (fun r_74 u t H1 locs ht hvm hw hB hz1 hk1 hS => ?_)
        obtain ⟨pm2_75, fr2_76, wk2_77, fe2_78, nr2_79, ft2_80, S2_81⟩ := u
        obtain ⟨hP1, hK1, hD1⟩ := hB
        rw [ht] at hP1
        have hK1 := va_K.moved hvm.symm hK1
        try dsimp only at hw
        obtain ⟨hP, hD⟩ := va_joinP (wr := [(ep, .inl (cI, 12, .inl fq)), (hm, .inr (3, [.int mk, .int mc])), (he, .inr (1, [.ref hm, .ref hf, .ref hp, .ref eb, .ref ep, .int (nI el), .ref nd, .ref mt, .ref ab])), (eb, .inl (cI, 12, .inl fb)), (hf, .inr (2, [.int dp, .ref qp, .ref qe, .ref ql, .int (nI lo), .int (nI le)])), (qp, .inl (cO, b, .inr (.inr (.inr (.inr fp)))))]) (rx := [(hp, .inr (5, [.int (nI pm2_75), .long fr2_76, .long wk2_77, .int nr2_79, .ref pd, .ref pt, .ref pb, .long fe2_78])), (pd, .inl (cO, 25, .inr (.inr (.inr (.inr fd))))), (pt, .inl (cI, 25, .inl ft2_80))]) (pl1 := pool G cI Pg S2_81) hP hD [2, 3, 4] [0, 1, 5, 6, 7, 8] rfl rfl (by decide) (by decide) hk1 hFc hP1 hD1
        have hK := (hK.sub (tys' := [(cO, .object RX4), (cI, .int)]) [0, 1] rfl).app hK1
        have hK : va_K (dC, dI) vwCl [(cO, .object RX4), (cI, .int)] s := hK.sub [0, 1] rfl
        generalize H1 = H at hP hS ⊢
        have hP : va_P (dC, dI) vwCl ([(ep, .inl (cI, 12, .inl fq)), (hm, .inr (3, [.int mk, .int mc])), (he, .inr (1, [.ref hm, .ref hf, .ref hp, .ref eb, .ref ep, .int (nI el), .ref nd, .ref mt, .ref ab])), (eb, .inl (cI, 12, .inl fb)), (hf, .inr (2, [.int dp, .ref qp, .ref qe, .ref ql, .int (nI lo), .int (nI le)])), (qp, .inl (cO, b, .inr (.inr (.inr (.inr fp))))), (hp, .inr (5, [.int (nI pm2_75), .long fr2_76, .long wk2_77, .int nr2_79, .ref pd, .ref pt, .ref pb, .long fe2_78])), (pd, .inl (cO, 25, .inr (.inr (.inr (.inr fd))))), (pt, .inl (cI, 25, .inl ft2_80))] ++ pool G cI Pg S2_81) H := hP
        have hD : va_D A ([(ep, .inl (cI, 12, .inl fq)), (hm, .inr (3, [.int mk, .int mc])), (he, .inr (1, [.ref hm, .ref hf, .ref hp, .ref eb, .ref ep, .int (nI el), .ref nd, .ref mt, .ref ab])), (eb, .inl (cI, 12, .inl fb)), (hf, .inr (2, [.int dp, .ref qp, .ref qe, .ref ql, .int (nI lo), .int (nI le)])), (qp, .inl (cO, b, .inr (.inr (.inr (.inr fp))))), (hp, .inr (5, [.int (nI pm2_75), .long fr2_76, .long wk2_77, .int nr2_79, .ref pd, .ref pt, .ref pb, .long fe2_78])), (pd, .inl (cO, 25, .inr (.inr (.inr (.inr fd))))), (pt, .inl (cI, 25, .inl ft2_80))] ++ pool G cI Pg S2_81) := hD
        have hK : va_K (dC, dI) vwCl [(cO, .object RX4), (cI, .int)] s := hK
        have hI := hw.1
        have hw_r_74 := hw
        have hz1_ab := (hI ab hm_ab).1
        have hz2_ab := (hI ab hm_ab).2.1
        have hz3_ab := (hI ab hm_ab).2.2
        have hT9 := in1 hm_ab
        have hPc : va_P (dC, dI) vwCl [(ab, .inr (4, [.int (S2_81 ab).1, .int (nI (S2_81 ab).2.1), .ref (G ab).1, .ref (G ab).2.1])), ((G ab).1, .inl (cI, (G ab).2.2.1, .inl (S2_81 ab).2.2.1)), ((G ab).2.1, .inl (cI, (G ab).2.2.1, .inl (S2_81 ab).2.2.2))] H := pool_cut (T := [ab]) (cx := []) hP hT9 [] rfl
        have hDc : va_D A [(ab, .inr (4, [.int (S2_81 ab).1, .int (nI (S2_81 ab).2.1), .ref (G ab).1, .ref (G ab).2.1])), ((G ab).1, .inl (cI, (G ab).2.2.1, .inl (S2_81 ab).2.2.1)), ((G ab).2.1, .inl (cI, (G ab).2.2.1, .inl (S2_81 ab).2.2.2))] := pool_cutD (T := [ab]) (cx := []) hD hT9 (nd1) [] (by decide) rfl
        have hFc : ∀ q, va_A [(ab, .inr (4, [.int (S2_81 ab).1, .int (nI (S2_81 ab).2.1), .ref (G ab).1, .ref (G ab).2.1])), ((G ab).1, .inl (cI, (G ab).2.2.1, .inl (S2_81 ab).2.2.1)), ((G ab).2.1, .inl (cI, (G ab).2.2.1, .inl (S2_81 ab).2.2.2))] (H).size q → A q := pool_free (T := [ab]) (cx := []) hD hS hA hT9 [] rfl
        have hKc := hK.sub (tys' := [(cI, .int), (cI, .int)]) [1, 1] rfl
        refine va_callv (va_runV (As := [.int z_72, .int r_73, .int r_74]) (rest := []) ⟨hx, hb, hml, hown, hts⟩ (c_X4_insert_any l dC dI H.size ab (G ab).1 (G ab).2.1 (G ab).2.2.1 (S2_81 ab).2.1 (S2_81 ab).1 cI cI (S2_81 ab).2.2.1 (S2_81 ab).2.2.2 z_72 r_73 r_74 (by first | assumption | omega | decide) (by first | assumption | omega | decide)) (cwV 3 hts g_X1_writeUpward_X4_insert_any rfl rfl rfl (by decide +kernel) ⟨Nat.le_of_ble_eq_true rfl, Nat.le_of_ble_eq_true rfl⟩) ⟨fun a U g mk q => by obtain ⟨q0, q1, qP, qK, qD⟩ := q; exact ⟨q0, q1, qP, va_K.moved (u := U) (U := U.calling g mk a) (Vm.Alike.refl U.vm) qK, qD⟩, va_recv hKc hPc (ci := 4) (q0 := 0) rfl rfl, fun U hU hW => ⟨rfl, by rw [hU], by rw [hU]; exact hPc, va_K.moved hW.alike hKc, hDc.weaken (fun _ _ _ _ => trivial)⟩⟩ rfl rfl hl.1 rfl (lv_room (Nat.le_of_ble_eq_true rfl)) dX1_writeUpward_110 ⟨(show 0 + 0 ≤ 0 by omega), (show 0 + 0 ≤ 0 by omega)⟩) hS (fun q _ h => hFc q h) hFc (fun u t H1 locs ht hvm hw hB hz1 hk1 hS => ?_)
        obtain ⟨m2_83, f2_84, g2_85⟩ := u
        obtain ⟨hP1, hK1, hD1⟩ := hB
        rw [ht] at hP1
        have hK1 := va_K.moved hvm.symm hK1
        try dsimp only at hw
        obtain ⟨hP, hD⟩ := pool_join (S := S2_81) (S1 := (fun _ => ((S2_81 ab).1, m2_83, f2_84, g2_85))) (T := [ab]) (cx := []) (wr := [(ep, .inl (cI, 12, .inl fq)), (hm, .inr (3, [.int mk, .int mc])), (he, .inr (1, [.ref hm, .ref hf, .ref hp, .ref eb, .ref ep, .int (nI el), .ref nd, .ref mt, .ref ab])), (eb, .inl (cI, 12, .inl fb)), (hf, .inr (2, [.int dp, .ref qp, .ref qe, .ref ql, .int (nI lo), .int (nI le)])), (qp, .inl (cO, b, .inr (.inr (.inr (.inr fp))))), (hp, .inr (5, [.int (nI pm2_75), .long fr2_76, .long wk2_77, .int nr2_79, .ref pd, .ref pt, .ref pb, .long fe2_78])), (pd, .inl (cO, 25, .inr (.inr (.inr (.inr fd))))), (pt, .inl (cI, 25, .inl ft2_80))]) (rx := []) hP hD hT9 [] [0, 1, 2, 3, 4, 5, 6, 7, 8] rfl rfl (by decide) (by decide) hk1 hFc hP1 hD1
        obtain ⟨S_86, eS_86⟩ : ∃ x, x = pgJ [ab] (fun _ => ((S2_81 ab).1, m2_83, f2_84, g2_85)) S2_81 := ⟨_, rfl⟩
        rw [← eS_86] at hP hD
        have hK := (hK.sub (tys' := [(cO, .object RX4), (cI, .int)]) [0, 1] rfl).app hK1
        have hK : va_K (dC, dI) vwCl [(cO, .object RX4), (cI, .int)] s := hK.sub [0, 1] rfl
        generalize H1 = H at hP hS ⊢
        have hP : va_P (dC, dI) vwCl ([(ep, .inl (cI, 12, .inl fq)), (hm, .inr (3, [.int mk, .int mc])), (he, .inr (1, [.ref hm, .ref hf, .ref hp, .ref eb, .ref ep, .int (nI el), .ref nd, .ref mt, .ref ab])), (eb, .inl (cI, 12, .inl fb)), (hf, .inr (2, [.int dp, .ref qp, .ref qe, .ref ql, .int (nI lo), .int (nI le)])), (qp, .inl (cO, b, .inr (.inr (.inr (.inr fp))))), (hp, .inr (5, [.int (nI pm2_75), .long fr2_76, .long wk2_77, .int nr2_79, .ref pd, .ref pt, .ref pb, .long fe2_78])), (pd, .inl (cO, 25, .inr (.inr (.inr (.inr fd))))), (pt, .inl (cI, 25, .inl ft2_80))] ++ pool G cI Pg S_86) H := hP
        have hD : va_D A ([(ep, .inl (cI, 12, .inl fq)), (hm, .inr (3, [.int mk, .int mc])), (he, .inr (1, [.ref hm, .ref hf, .ref hp, .ref eb, .ref ep, .int (nI el), .ref nd, .ref mt, .ref ab])), (eb, .inl (cI, 12, .inl fb)), (hf, .inr (2, [.int dp, .ref qp, .ref qe, .ref ql, .int (nI lo), .int (nI le)])), (qp, .inl (cO, b, .inr (.inr (.inr (.inr fp))))), (hp, .inr (5, [.int (nI pm2_75), .long fr2_76, .long wk2_77, .int nr2_79, .ref pd, .ref pt, .ref pb, .long fe2_78])), (pd, .inl (cO, 25, .inr (.inr (.inr (.inr fd))))), (pt, .inl (cI, 25, .inl ft2_80))] ++ pool G cI Pg S_86) := hD
        have hK : va_K (dC, dI) vwCl [(cO, .object RX4), (cI, .int)] s := hK
        have hI : pgI G Pg S_86 := by rw [eS_86]; exact pgI_1 hI (by first | assumption | exact Or.inl rfl | exact Or.inr rfl | exact hw.2.1 | exact hw.1) (by first | assumption | omega)
        have hw_r_82 := hw
        refine lv_aload_n hx hb dX1_writeUpward_113 rfl (lv_at hl 4 rfl) ?_
        refine va_get (D := (dC, dI)) (ci := 1) (v := .ref nd) (C := RX1) (T := TX1) (N := 9) hx hb hts k_1 hown hK hP 2 rfl rfl 6 (by decide) k_3 (fun _ h9 => h9) rfl dX1_writeUpward_114 ?_
        refine lv_aload_n hx hb dX1_writeUpward_117 rfl (lv_at hl 4 rfl) ?_
        refine va_get (D := (dC, dI)) (ci := 1) (v := .ref ab) (C := RX1) (T := TX1) (N := 9) hx hb hts k_1 hown hK hP 2 rfl rfl 8 (by decide) k_4 (fun _ h9 => h9) rfl dX1_writeUpward_118 ?_
        have hz1_nd := (hI nd hm_nd).1
        have hz2_nd := (hI nd hm_nd).2.1
        have hz3_nd := (hI nd hm_nd).2.2
        have hz1_ab := (hI ab hm_ab).1
        have hz2_ab := (hI ab hm_ab).2.1
        have hz3_ab := (hI ab hm_ab).2.2
        have hab : nd ≠ ab := fun h9 => absurd (congrArg (fun x => (G x).2.2.2) h9) (by show (G nd).2.2.2 ≠ (G ab).2.2.2; have h7 := ht_nd; have h8 := ht_ab; omega)
        have hT9 := in2 hm_nd hm_ab
        have hPc : va_P (dC, dI) vwCl [(nd, .inr (4, [.int (S_86 nd).1, .int (nI (S_86 nd).2.1), .ref (G nd).1, .ref (G nd).2.1])), ((G nd).1, .inl (cI, (G nd).2.2.1, .inl (S_86 nd).2.2.1)), ((G nd).2.1, .inl (cI, (G nd).2.2.1, .inl (S_86 nd).2.2.2)), (ab, .inr (4, [.int (S_86 ab).1, .int (nI (S_86 ab).2.1), .ref (G ab).1, .ref (G ab).2.1])), ((G ab).1, .inl (cI, (G ab).2.2.1, .inl (S_86 ab).2.2.1)), ((G ab).2.1, .inl (cI, (G ab).2.2.1, .inl (S_86 ab).2.2.2))] H := pool_cut (T := [nd, ab]) (cx := []) hP hT9 [] rfl
        have hDc : va_D A [(nd, .inr (4, [.int (S_86 nd).1, .int (nI (S_86 nd).2.1), .ref (G nd).1, .ref (G nd).2.1])), ((G nd).1, .inl (cI, (G nd).2.2.1, .inl (S_86 nd).2.2.1)), ((G nd).2.1, .inl (cI, (G nd).2.2.1, .inl (S_86 nd).2.2.2)), (ab, .inr (4, [.int (S_86 ab).1, .int (nI (S_86 ab).2.1), .ref (G ab).1, .ref (G ab).2.1])), ((G ab).1, .inl (cI, (G ab).2.2.1, .inl (S_86 ab).2.2.1)), ((G ab).2.1, .inl (cI, (G ab).2.2.1, .inl (S_86 ab).2.2.2))] := pool_cutD (T := [nd, ab]) (cx := []) hD hT9 (nd2 hab) [] (by decide) rfl
        have hFc : ∀ q, va_A [(nd, .inr (4, [.int (S_86 nd).1, .int (nI (S_86 nd).2.1), .ref (G nd).1, .ref (G nd).2.1])), ((G nd).1, .inl (cI, (G nd).2.2.1, .inl (S_86 nd).2.2.1)), ((G nd).2.1, .inl (cI, (G nd).2.2.1, .inl (S_86 nd).2.2.2)), (ab, .inr (4, [.int (S_86 ab).1, .int (nI (S_86 ab).2.1), .ref (G ab).1, .ref (G ab).2.1])), ((G ab).1, .inl (cI, (G ab).2.2.1, .inl (S_86 ab).2.2.1)), ((G ab).2.1, .inl (cI, (G ab).2.2.1, .inl (S_86 ab).2.2.2))] (H).size q → A q := pool_free (T := [nd, ab]) (cx := []) hD hS hA hT9 [] rfl
        have hKc := hK.sub (tys' := [(cI, .int), (cI, .int), (cI, .int), (cI, .int)]) [1, 1, 1, 1] rfl
        refine va_callv (va_runV (As := [.ref ab]) (rest := []) ⟨hx, hb, hml, hown, hts⟩ (c_X4_copy l dC dI H.size nd (G nd).1 (G nd).2.1 (G nd).2.2.1 (S_86 nd).2.1 (S_86 nd).1 cI cI (S_86 nd).2.2.1 (S_86 nd).2.2.2 ab (G ab).1 (G ab).2.1 (G ab).2.2.1 (S_86 ab).2.1 (S_86 ab).1 cI cI (S_86 ab).2.2.1 (S_86 ab).2.2.2 (by first | assumption | omega | decide) (by first | assumption | omega | decide) (by first | assumption | omega | decide) (by first | assumption | omega | decide) (by first | assumption | omega | decide)) (cwV 1 hts g_X1_writeUpward_X4_copy rfl rfl rfl (by decide +kernel) ⟨Nat.le_of_ble_eq_true rfl, Nat.le_of_ble_eq_true rfl⟩) ⟨fun a U g mk q => by obtain ⟨q0, q1, qP, qK, qD⟩ := q; exact ⟨q0, q1, qP, va_K.moved (u := U) (U := U.calling g mk a) (Vm.Alike.refl U.vm) qK, qD⟩, va_recv hKc hPc (ci := 4) (q0 := 0) rfl rfl, fun U hU hW => ⟨rfl, by rw [hU], by rw [hU]; exact hPc, va_K.moved hW.alike hKc, hDc.weaken (fun _ _ _ _ => trivial)⟩⟩ rfl rfl hl.1 rfl (lv_room (Nat.le_of_ble_eq_true rfl)) dX1_writeUpward_121 ⟨(show 0 + 0 ≤ 0 by omega), (show 0 + 0 ≤ 0 by omega)⟩) hS (fun q _ h => hFc q h) hFc (fun u t H1 locs ht hvm hw hB hz1 hk1 hS => ?_)
        obtain ⟨m2_88, f2_89, g2_90⟩ := u
        obtain ⟨hP1, hK1, hD1⟩ := hB
        rw [ht] at hP1
        have hK1 := va_K.moved hvm.symm hK1
        try dsimp only at hw
        obtain ⟨hP, hD⟩ := pool_join (S := S_86) (S1 := (pgJ [nd] (fun _ => ((S_86 ab).1, m2_88, f2_89, g2_90)) (fun _ => ((S_86 ab).1, (S_86 ab).2.1, (S_86 ab).2.2.1, (S_86 ab).2.2.2)))) (T := [nd, ab]) (cx := []) (wr := [(ep, .inl (cI, 12, .inl fq)), (hm, .inr (3, [.int mk, .int mc])), (he, .inr (1, [.ref hm, .ref hf, .ref hp, .ref eb, .ref ep, .int (nI el), .ref nd, .ref mt, .ref ab])), (eb, .inl (cI, 12, .inl fb)), (hf, .inr (2, [.int dp, .ref qp, .ref qe, .ref ql, .int (nI lo), .int (nI le)])), (qp, .inl (cO, b, .inr (.inr (.inr (.inr fp))))), (hp, .inr (5, [.int (nI pm2_75), .long fr2_76, .long wk2_77, .int nr2_79, .ref pd, .ref pt, .ref pb, .long fe2_78])), (pd, .inl (cO, 25, .inr (.inr (.inr (.inr fd))))), (pt, .inl (cI, 25, .inl ft2_80))]) (rx := []) hP hD hT9 [] [0, 1, 2, 3, 4, 5, 6, 7, 8] rfl rfl (by decide) (by decide) hk1 hFc (by rw [pool2 hab]; exact hP1) (by rw [pool2 hab]; exact hD1)
        obtain ⟨S_91, eS_91⟩ : ∃ x, x = pgJ [nd, ab] (pgJ [nd] (fun _ => ((S_86 ab).1, m2_88, f2_89, g2_90)) (fun _ => ((S_86 ab).1, (S_86 ab).2.1, (S_86 ab).2.2.1, (S_86 ab).2.2.2))) S_86 := ⟨_, rfl⟩
        rw [← eS_91] at hP hD
        have hK := (hK.sub (tys' := [(cO, .object RX4), (cI, .int)]) [0, 1] rfl).app hK1
        have hK : va_K (dC, dI) vwCl [(cO, .object RX4), (cI, .int)] s := hK.sub [0, 1] rfl
        generalize H1 = H at hP hS ⊢
        have hP : va_P (dC, dI) vwCl ([(ep, .inl (cI, 12, .inl fq)), (hm, .inr (3, [.int mk, .int mc])), (he, .inr (1, [.ref hm, .ref hf, .ref hp, .ref eb, .ref ep, .int (nI el), .ref nd, .ref mt, .ref ab])), (eb, .inl (cI, 12, .inl fb)), (hf, .inr (2, [.int dp, .ref qp, .ref qe, .ref ql, .int (nI lo), .int (nI le)])), (qp, .inl (cO, b, .inr (.inr (.inr (.inr fp))))), (hp, .inr (5, [.int (nI pm2_75), .long fr2_76, .long wk2_77, .int nr2_79, .ref pd, .ref pt, .ref pb, .long fe2_78])), (pd, .inl (cO, 25, .inr (.inr (.inr (.inr fd))))), (pt, .inl (cI, 25, .inl ft2_80))] ++ pool G cI Pg S_91) H := hP
        have hD : va_D A ([(ep, .inl (cI, 12, .inl fq)), (hm, .inr (3, [.int mk, .int mc])), (he, .inr (1, [.ref hm, .ref hf, .ref hp, .ref eb, .ref ep, .int (nI el), .ref nd, .ref mt, .ref ab])), (eb, .inl (cI, 12, .inl fb)), (hf, .inr (2, [.int dp, .ref qp, .ref qe, .ref ql, .int (nI lo), .int (nI le)])), (qp, .inl (cO, b, .inr (.inr (.inr (.inr fp))))), (hp, .inr (5, [.int (nI pm2_75), .long fr2_76, .long wk2_77, .int nr2_79, .ref pd, .ref pt, .ref pb, .long fe2_78])), (pd, .inl (cO, 25, .inr (.inr (.inr (.inr fd))))), (pt, .inl (cI, 25, .inl ft2_80))] ++ pool G cI Pg S_91) := hD
        have hK : va_K (dC, dI) vwCl [(cO, .object RX4), (cI, .int)] s := hK
        have hI : pgI G Pg S_91 := by rw [eS_91]; exact pgI_2 hI hab (by first | assumption | exact Or.inl rfl | exact Or.inr rfl | exact hw.2.1 | exact hw.1) (by first | assumption | omega) (by first | assumption | exact Or.inl rfl | exact Or.inr rfl | exact hw.2.1 | exact hw.1) (by first | assumption | omega)
        have hw_r_87 := hw
        refine lv_iconst (v := 1) hx hb dX1_writeUpward_124 (by decide) ?_
        have hP9 := hP.part (cx := [(he, .inr (1, [.ref hm, .ref hf, .ref hp, .ref eb, .ref ep, .int (nI el), .ref nd, .ref mt, .ref ab])), (eb, .inl (cI, 12, .inl fb)), (ep, .inl (cI, 12, .inl fq)), (hm, .inr (3, [.int mk, .int mc])), (hf, .inr (2, [.int dp, .ref qp, .ref qe, .ref ql, .int (nI lo), .int (nI le)])), (qp, .inl (cO, b, .inr (.inr (.inr (.inr fp))))), (hp, .inr (5, [.int (nI pm2_75), .long fr2_76, .long wk2_77, .int nr2_79, .ref pd, .ref pt, .ref pb, .long fe2_78])), (pd, .inl (cO, 25, .inr (.inr (.inr (.inr fd))))), (pt, .inl (cI, 25, .inl ft2_80))]) [2, 3, 0, 1, 4, 5, 6, 7, 8] rfl
        have hD9 := hD.part (cx := [(he, .inr (1, [.ref hm, .ref hf, .ref hp, .ref eb, .ref ep, .int (nI el), .ref nd, .ref mt, .ref ab])), (eb, .inl (cI, 12, .inl fb)), (ep, .inl (cI, 12, .inl fq)), (hm, .inr (3, [.int mk, .int mc])), (hf, .inr (2, [.int dp, .ref qp, .ref qe, .ref ql, .int (nI lo), .int (nI le)])), (qp, .inl (cO, b, .inr (.inr (.inr (.inr fp))))), (hp, .inr (5, [.int (nI pm2_75), .long fr2_76, .long wk2_77, .int nr2_79, .ref pd, .ref pt, .ref pb, .long fe2_78])), (pd, .inl (cO, 25, .inr (.inr (.inr (.inr fd))))), (pt, .inl (cI, 25, .inl ft2_80))]) [2, 3, 0, 1, 4, 5, 6, 7, 8] (by decide) rfl
        have hK9 := hK.sub (tys' := [(cO, .object RX4), (cI, .int)]) [0, 1] rfl
        exact W.zret (v := 1) hx hb hr rfl (fun t ht hW => ⟨⟨1, (pm2_75, fr2_76, wk2_77, fe2_78, nr2_79, ft2_80, S_91), rfl, ⟨hI, Or.inr rfl, by omega⟩, by rw [ht]; exact hP9, va_K.moved hW.alike hK9, hD9⟩, hS.F ht⟩) hS.2.2 dX1_writeUpward_125
    · refine lv_iconst (v := 0) hx hb dX1_writeUpward_45 (by decide) ?_
      have hP9 := hP.part (cx := [(he, .inr (1, [.ref hm, .ref hf, .ref hp, .ref eb, .ref ep, .int (nI el), .ref nd, .ref mt, .ref ab])), (eb, .inl (cI, 12, .inl fb)), (ep, .inl (cI, 12, .inl fq)), (hm, .inr (3, [.int mk, .int mc])), (hf, .inr (2, [.int dp, .ref qp, .ref qe, .ref ql, .int (nI lo), .int (nI le)])), (qp, .inl (cO, b, .inr (.inr (.inr (.inr fp))))), (hp, .inr (5, [.int (nI pm2_7), .long fr2_8, .long wk2_9, .int nr2_11, .ref pd, .ref pt, .ref pb, .long fe2_10])), (pd, .inl (cO, 25, .inr (.inr (.inr (.inr fd))))), (pt, .inl (cI, 25, .inl ft2_12))]) [4, 2, 3, 5, 0, 1, 6, 7, 8] rfl
      have hD9 := hD.part (cx := [(he, .inr (1, [.ref hm, .ref hf, .ref hp, .ref eb, .ref ep, .int (nI el), .ref nd, .ref mt, .ref ab])), (eb, .inl (cI, 12, .inl fb)), (ep, .inl (cI, 12, .inl fq)), (hm, .inr (3, [.int mk, .int mc])), (hf, .inr (2, [.int dp, .ref qp, .ref qe, .ref ql, .int (nI lo), .int (nI le)])), (qp, .inl (cO, b, .inr (.inr (.inr (.inr fp))))), (hp, .inr (5, [.int (nI pm2_7), .long fr2_8, .long wk2_9, .int nr2_11, .ref pd, .ref pt, .ref pb, .long fe2_10])), (pd, .inl (cO, 25, .inr (.inr (.inr (.inr fd))))), (pt, .inl (cI, 25, .inl ft2_12))]) [4, 2, 3, 5, 0, 1, 6, 7, 8] (by decide) rfl
      have hK9 := hK.sub (tys' := [(cO, .object RX4), (cI, .int)]) [0, 1] rfl
      exact W.zret (v := 0) hx hb hr rfl (fun t ht hW => ⟨⟨0, (pm2_7, fr2_8, wk2_9, fe2_10, nr2_11, ft2_12, S2_13), rfl, ⟨hI, Or.inl rfl, by omega⟩, by rw [ht]; exact hP9, va_K.moved hW.alike hK9, hD9⟩, hS.F ht⟩) hS.2.2 dX1_writeUpward_46
def v_X1_writeUppermost : List Cond := .code yX1_writeUppermost cX1_writeUppermost 4 (some .int) :: ([.code yX1_partIfTooMany cX1_partIfTooMany 1 (some .boolean), .fieldLink RX1 35 "TwinRoots$Editor" "node" "LTwinRoots$Page;", .fieldLink RX1 107 "TwinRoots$Page" "many" "I", .fieldLink RX1 9 "TwinRoots$Editor" "limits" "LTwinRoots$Limits;", .fieldLink RX1 110 "TwinRoots$Page" "leaf" "Z", .code yX3_most cX3_most 2 (some .int), .fieldLink RX3 13 "TwinRoots$Limits" "mostChildren" "I", .fieldLink RX3 7 "TwinRoots$Limits" "mostKeys" "I", .methodLink RX1 114 yX3_most, .instanceMethod yX3_most, .selects RX3 yX3_most yX3_most, .initialized RX3, .fieldLink RX1 39 "TwinRoots$Editor" "mate" "LTwinRoots$Page;", .code yX4_partInto cX4_partInto 3 none, .fieldLink RX4 22 "TwinRoots$Page" "many" "I", .fieldLink RX4 9 "TwinRoots$Page" "leaf" "Z", .code yX4_clear cX4_clear 2 none, .methodLink RX4 26 yX4_clear, .instanceMethod yX4_clear, .selects RX4 yX4_clear yX4_clear, .initialized RX4, .code yX4_append cX4_append 4 none, .fieldLink RX4 15 "TwinRoots$Page" "keys" "[I", .fieldLink RX4 19 "TwinRoots$Page" "refs" "[I", .code yX4_keyAt cX4_keyAt 2 (some .int), .methodLink RX4 34 yX4_keyAt, .instanceMethod yX4_keyAt, .selects RX4 yX4_keyAt yX4_keyAt, .code yX4_refAt cX4_refAt 2 (some .int), .methodLink RX4 38 yX4_refAt, .instanceMethod yX4_refAt, .selects RX4 yX4_refAt yX4_refAt, .methodLink RX4 30 yX4_append, .instanceMethod yX4_append, .selects RX4 yX4_append yX4_append, .methodLink RX1 120 yX4_partInto, .instanceMethod yX4_partInto, .selects RX4 yX4_partInto yX4_partInto, .methodLink RX1 90 yX1_partIfTooMany, .instanceMethod yX1_partIfTooMany, .selects RX1 yX1_partIfTooMany yX1_partIfTooMany, .initialized RX1, .fieldLink RX1 19 "TwinRoots$Editor" "plan" "LTwinRoots$Plan;", .code yX5_write cX5_write 4 (some .int), .fieldLink RX5 40 "TwinRoots$Plan" "fresh" "J", .code yX8_holds cX8_holds 3 (some .boolean), .code yX8_bit cX8_bit 1 (some .long), .methodLink RX8 227 yX8_bit, .static yX8_bit, .initialized RX8, .static yX8_holds, .code yX5_takeLeast cX5_takeLeast 2 (some .int), .fieldLink RX5 32 "TwinRoots$Plan" "noRoom" "Z", .fieldLink RX5 36 "TwinRoots$Plan" "free" "J", .constantLong RX5 58 (-1), .methodLink RX5 50 yX5_takeLeast, .instanceMethod yX5_takeLeast, .selects RX5 yX5_takeLeast yX5_takeLeast, .initialized RX5, .fieldLink RX5 43 "TwinRoots$Plan" "work" "J", .fieldLink RX5 28 "TwinRoots$Plan" "many" "I", .fieldLink RX5 11 "TwinRoots$Plan" "drafts" "[LTwinRoots$Page;", .fieldLink RX5 20 "TwinRoots$Plan" "targets" "[I", .code yX4_copy cX4_copy 2 none, .methodLink RX5 60 yX4_copy, .instanceMethod yX4_copy, .selects RX4 yX4_copy yX4_copy, .methodLink RX1 94 yX5_write, .instanceMethod yX5_write, .selects RX5 yX5_write yX5_write, .fieldLink RX1 42 "TwinRoots$Editor" "above" "LTwinRoots$Page;", .methodLink RX1 103 yX4_clear, .code yX4_insert cX4_insert 5 none, .code yX4_setKey cX4_setKey 3 none, .methodLink RX4 41 yX4_setKey, .instanceMethod yX4_setKey, .selects RX4 yX4_setKey yX4_setKey, .code yX4_setRef cX4_setRef 3 none, .methodLink RX4 45 yX4_setRef, .instanceMethod yX4_setRef, .selects RX4 yX4_setRef yX4_setRef, .methodLink RX1 77 yX4_insert, .instanceMethod yX4_insert, .selects RX4 yX4_insert yX4_insert, .methodLink RX1 100 yX4_keyAt] ++ (wsX10 ++ (wsX40 ++ (wsX30 ++ (wsX50 ++ ([]))))))
set_option maxRecDepth 20000 in
theorem g_X1_writeUppermost_X1_partIfTooMany : GoodIn v_X1_writeUppermost (wsV RX1 90 RX1 yX1_partIfTooMany v_X1_partIfTooMany) := goodIn_r _ [39, 40, 41, 42, 1, 2, 3, 4, 5, 6, 7, 8, 9, 10, 11, 12, 13, 14, 15, 16, 17, 18, 19, 20, 21, 22, 23, 24, 25, 26, 27, 28, 29, 30, 31, 32, 33, 34, 35, 36, 37, 38, 86, 87, 88, 89, 90, 91, 92, 93, 94, 95, 96, 97, 98, 99, 100] (by decide +kernel) (by decide +kernel)
set_option maxRecDepth 20000 in
theorem g_X1_writeUppermost_X5_write : GoodIn v_X1_writeUppermost (wsV RX1 94 RX5 yX5_write v_X5_write) := goodIn_r _ [68, 69, 70, 59, 44, 45, 46, 47, 48, 49, 50, 51, 52, 53, 54, 55, 56, 57, 58, 59, 60, 61, 62, 63, 64, 16, 17, 15, 18, 19, 20, 21, 22, 23, 24, 25, 26, 27, 28, 29, 30, 31, 32, 33, 34, 35, 65, 66, 67, 101, 102, 103, 104, 105, 106, 107, 108, 95, 96, 97, 98] (by decide +kernel) (by decide +kernel)
set_option maxRecDepth 20000 in
theorem g_X1_writeUppermost_X4_clear3 : GoodIn v_X1_writeUppermost (wsV RX1 103 RX4 yX4_clear v_X4_clear3) := goodIn_r _ [72, 19, 20, 21, 17, 16, 15, 95, 96, 97, 98] (by decide +kernel) (by decide +kernel)
set_option maxRecDepth 20000 in
theorem g_X1_writeUppermost_X4_insert_any : GoodIn v_X1_writeUppermost (wsV RX1 77 RX4 yX4_insert v_X4_insert_any) := goodIn_r _ [82, 83, 84, 21, 73, 15, 23, 24, 25, 26, 27, 28, 21, 74, 75, 76, 77, 29, 30, 31, 32, 78, 79, 80, 81, 95, 96, 97, 98] (by decide +kernel) (by decide +kernel)
set_option maxRecDepth 20000 in
theorem g_X1_writeUppermost_X4_keyAt : GoodIn v_X1_writeUppermost (wsV RX1 100 RX4 yX4_keyAt v_X4_keyAt) := goodIn_r _ [85, 27, 28, 21, 25, 15, 23, 95, 96, 97, 98] (by decide +kernel) (by decide +kernel)
set_option maxHeartbeats 4000000 in
set_option maxRecDepth 100000 in
/-- writeUppermost -/
theorem c_X1_writeUppermost (l : Launch) (dC : Nat → ClassId) (dI : Nat → Nat → Nat) (sz : Nat) (he : Nat) (hm : Nat) (hf : Nat) (hp : Nat) (eb : Nat) (ep : Nat) (nd : Nat) (mt : Nat) (ab : Nat) (el : Nat) (pm : Nat) (pd : Nat) (pt : Nat) (pb : Nat) (mk : Int32) (mc : Int32) (nr : Int32) (fr : Int64) (wk : Int64) (fe : Int64) (fb : Nat → Int32) (fq : Nat → Int32) (ft : Nat → Int32) (qp : Nat) (qe : Nat) (ql : Nat) (b : Nat) (lo : Nat) (le : Nat) (dp : Int32) (cO : ClassId) (fp : Nat → Option Nat) (fd : Nat → Option Nat) (G : pgG) (Pg : List Nat) (cI : ClassId) (S : pgS) (p0 : Int32) (zb : b ≤ 64) (hI : pgI G Pg S) (hpg : ∀ i, i < b → ∃ a, a ∈ Pg ∧ (G a).2.2.2 = 0 ∧ fp i = some a) (hm_qe : qe ∈ Pg) (ht_qe : (G qe).2.2.2 = 0) (zpm : pm ≤ 25) (hdr : ∀ i, i < 25 → ∃ a, a ∈ Pg ∧ (G a).2.2.2 = 1 ∧ fd i = some a) (hm_pb : pb ∈ Pg) (ht_pb : (G pb).2.2.2 = 1) (hm_nd : nd ∈ Pg) (ht_nd : (G nd).2.2.2 = 2) (hm_mt : mt ∈ Pg) (ht_mt : (G mt).2.2.2 = 3) (hm_ab : ab ∈ Pg) (ht_ab : (G ab).2.2.2 = 4) : Met l yX1_writeUppermost v_X1_writeUppermost ({ frames := 4, cells := 0, slots := 0, locals := 88 } : Room) (va_Pc [.ref he, .int p0] (fun U => U.heap.size = sz ∧ va_P (dC, dI) vwCl ([(he, .inr (1, [.ref hm, .ref hf, .ref hp, .ref eb, .ref ep, .int (nI el), .ref nd, .ref mt, .ref ab])), (eb, .inl (cI, 12, .inl fb)), (ep, .inl (cI, 12, .inl fq)), (hm, .inr (3, [.int mk, .int mc])), (hf, .inr (2, [.int dp, .ref qp, .ref qe, .ref ql, .int (nI lo), .int (nI le)])), (qp, .inl (cO, b, .inr (.inr (.inr (.inr fp))))), (hp, .inr (5, [.int (nI pm), .long fr, .long wk, .int nr, .ref pd, .ref pt, .ref pb, .long fe])), (pd, .inl (cO, 25, .inr (.inr (.inr (.inr fd))))), (pt, .inl (cI, 25, .inl ft))] ++ pool G cI Pg S) U.heap ∧ va_K (dC, dI) vwCl [(cO, .object RX4), (cI, .int)] U ∧ va_D (fun _ => True) ([(he, .inr (1, [.ref hm, .ref hf, .ref hp, .ref eb, .ref ep, .int (nI el), .ref nd, .ref mt, .ref ab])), (eb, .inl (cI, 12, .inl fb)), (ep, .inl (cI, 12, .inl fq)), (hm, .inr (3, [.int mk, .int mc])), (hf, .inr (2, [.int dp, .ref qp, .ref qe, .ref ql, .int (nI lo), .int (nI le)])), (qp, .inl (cO, b, .inr (.inr (.inr (.inr fp))))), (hp, .inr (5, [.int (nI pm), .long fr, .long wk, .int nr, .ref pd, .ref pt, .ref pb, .long fe])), (pd, .inl (cO, 25, .inr (.inr (.inr (.inr fd))))), (pt, .inl (cI, 25, .inl ft))] ++ pool G cI Pg S) ∧ va_Nw (.methodLinkNest RX5 46 yX8_holds "TwinRoots") U ∧ va_Nw (.methodLinkNest RX5 54 yX8_bit "TwinRoots") U)) (va_Qi (fun (r : Int32) (u : Nat × Int64 × Int64 × Int64 × Int32 × (Nat → Int32) × pgS) => match u with | (pm2, fr2, wk2, fe2, nr2, ft2, S2) => pgI G Pg S2 ∧ pm2 ≤ 25) (fun (u : Nat × Int64 × Int64 × Int64 × Int32 × (Nat → Int32) × pgS) (t : State) => match u with | (pm2, fr2, wk2, fe2, nr2, ft2, S2) => va_P (dC, dI) vwCl ([(he, .inr (1, [.ref hm, .ref hf, .ref hp, .ref eb, .ref ep, .int (nI el), .ref nd, .ref mt, .ref ab])), (eb, .inl (cI, 12, .inl fb)), (ep, .inl (cI, 12, .inl fq)), (hm, .inr (3, [.int mk, .int mc])), (hf, .inr (2, [.int dp, .ref qp, .ref qe, .ref ql, .int (nI lo), .int (nI le)])), (qp, .inl (cO, b, .inr (.inr (.inr (.inr fp))))), (hp, .inr (5, [.int (nI pm2), .long fr2, .long wk2, .int nr2, .ref pd, .ref pt, .ref pb, .long fe2])), (pd, .inl (cO, 25, .inr (.inr (.inr (.inr fd))))), (pt, .inl (cI, 25, .inl ft2))] ++ pool G cI Pg S2) t.heap ∧ va_K (dC, dI) vwCl [(cO, .object RX4), (cI, .int)] t ∧ va_D (va_A ([(he, .inr (1, [.ref hm, .ref hf, .ref hp, .ref eb, .ref ep, .int (nI el), .ref nd, .ref mt, .ref ab])), (eb, .inl (cI, 12, .inl fb)), (ep, .inl (cI, 12, .inl fq)), (hm, .inr (3, [.int mk, .int mc])), (hf, .inr (2, [.int dp, .ref qp, .ref qe, .ref ql, .int (nI lo), .int (nI le)])), (qp, .inl (cO, b, .inr (.inr (.inr (.inr fp))))), (hp, .inr (5, [.int (nI pm), .long fr, .long wk, .int nr, .ref pd, .ref pt, .ref pb, .long fe])), (pd, .inl (cO, 25, .inr (.inr (.inr (.inr fd))))), (pt, .inl (cI, 25, .inl ft))] ++ pool G cI Pg S) sz) ([(he, .inr (1, [.ref hm, .ref hf, .ref hp, .ref eb, .ref ep, .int (nI el), .ref nd, .ref mt, .ref ab])), (eb, .inl (cI, 12, .inl fb)), (ep, .inl (cI, 12, .inl fq)), (hm, .inr (3, [.int mk, .int mc])), (hf, .inr (2, [.int dp, .ref qp, .ref qe, .ref ql, .int (nI lo), .int (nI le)])), (qp, .inl (cO, b, .inr (.inr (.inr (.inr fp))))), (hp, .inr (5, [.int (nI pm2), .long fr2, .long wk2, .int nr2, .ref pd, .ref pt, .ref pb, .long fe2])), (pd, .inl (cO, 25, .inr (.inr (.inr (.inr fd))))), (pt, .inl (cI, 25, .inl ft2))] ++ pool G cI Pg S2)) (va_A ([(he, .inr (1, [.ref hm, .ref hf, .ref hp, .ref eb, .ref ep, .int (nI el), .ref nd, .ref mt, .ref ab])), (eb, .inl (cI, 12, .inl fb)), (ep, .inl (cI, 12, .inl fq)), (hm, .inr (3, [.int mk, .int mc])), (hf, .inr (2, [.int dp, .ref qp, .ref qe, .ref ql, .int (nI lo), .int (nI le)])), (qp, .inl (cO, b, .inr (.inr (.inr (.inr fp))))), (hp, .inr (5, [.int (nI pm), .long fr, .long wk, .int nr, .ref pd, .ref pt, .ref pb, .long fe])), (pd, .inl (cO, 25, .inr (.inr (.inr (.inr fd))))), (pt, .inl (cI, 25, .inl ft))] ++ pool G cI Pg S) sz)) 0 0 (va_A ([(he, .inr (1, [.ref hm, .ref hf, .ref hp, .ref eb, .ref ep, .int (nI el), .ref nd, .ref mt, .ref ab])), (eb, .inl (cI, 12, .inl fb)), (ep, .inl (cI, 12, .inl fq)), (hm, .inr (3, [.int mk, .int mc])), (hf, .inr (2, [.int dp, .ref qp, .ref qe, .ref ql, .int (nI lo), .int (nI le)])), (qp, .inl (cO, b, .inr (.inr (.inr (.inr fp))))), (hp, .inr (5, [.int (nI pm), .long fr, .long wk, .int nr, .ref pd, .ref pt, .ref pb, .long fe])), (pd, .inl (cO, 25, .inr (.inr (.inr (.inr fd))))), (pt, .inl (cI, 25, .inl ft))] ++ pool G cI Pg S) sz) := by
  refine Met.ofW (cc := cX1_writeUppermost) (maxL := 4) (ret := (some .int)) (by decide) rfl ?_
  intro p e s m args below meth c s₁ B hml hv
  obtain ⟨rfl, hsz, hP, hK, hD0, hNX5_46, hNX5_54⟩ := hv
  have hx := B.exec
  have hb := B.bytes
  have hr := B.returns
  have hts := atoms_spec (ws := v_X1_writeUppermost) B.pre
  have hown : s.vm.findClass RX1 = some m.cls := findClass_of_methodNamed B.named
  have hlocks := B.notSynchronized
  subst hsz
  have hD := hD0.self (sz := s.heap.size)
  generalize hAe : va_A ([(he, .inr (1, [.ref hm, .ref hf, .ref hp, .ref eb, .ref ep, .int (nI el), .ref nd, .ref mt, .ref ab])), (eb, .inl (cI, 12, .inl fb)), (ep, .inl (cI, 12, .inl fq)), (hm, .inr (3, [.int mk, .int mc])), (hf, .inr (2, [.int dp, .ref qp, .ref qe, .ref ql, .int (nI lo), .int (nI le)])), (qp, .inl (cO, b, .inr (.inr (.inr (.inr fp))))), (hp, .inr (5, [.int (nI pm), .long fr, .long wk, .int nr, .ref pd, .ref pt, .ref pb, .long fe])), (pd, .inl (cO, 25, .inr (.inr (.inr (.inr fd))))), (pt, .inl (cI, 25, .inl ft))] ++ pool G cI Pg S) s.heap.size = A at hD ⊢
  have hA : ∀ q : Nat, s.heap.size ≤ q → A q := fun q h => by rw [← hAe]; exact Or.inr h
  have hS : va_S A s.heap s.heap [] := va_S.rf
  have hP : va_P (dC, dI) vwCl ([(he, .inr (1, [.ref hm, .ref hf, .ref hp, .ref eb, .ref ep, .int (nI el), .ref nd, .ref mt, .ref ab])), (eb, .inl (cI, 12, .inl fb)), (ep, .inl (cI, 12, .inl fq)), (hm, .inr (3, [.int mk, .int mc])), (hf, .inr (2, [.int dp, .ref qp, .ref qe, .ref ql, .int (nI lo), .int (nI le)])), (qp, .inl (cO, b, .inr (.inr (.inr (.inr fp))))), (hp, .inr (5, [.int (nI pm), .long fr, .long wk, .int nr, .ref pd, .ref pt, .ref pb, .long fe])), (pd, .inl (cO, 25, .inr (.inr (.inr (.inr fd))))), (pt, .inl (cI, 25, .inl ft))] ++ pool G cI Pg S) s.heap := hP
  have hl := lv_entry ([.ref he, .int p0]) (n := 4) (Nat.le_of_ble_eq_true rfl)
  rw [lg_entry_eq]
  generalize (lg_sl ([.ref he, .int p0]) ++ List.replicate (4 - (lg_sl ([.ref he, .int p0])).length) Slot.unset).toArray = ls at hl ⊢
  have hl : lv_has ls 4 [(0, .ref he), (1, .int p0)] := hl
  have k_1 := (fun _ h => List.mem_cons_of_mem _ (List.mem_append_right _ (List.mem_append_left _ h)) : ∀ w ∈ wsX10, w ∈ v_X1_writeUppermost)
  have k_2 := hts (.fieldLink RX1 19 "TwinRoots$Editor" "plan" "LTwinRoots$Plan;") (List.mem_of_getElem? (i := 43) rfl)
  have k_3 := hts (.fieldLink RX1 35 "TwinRoots$Editor" "node" "LTwinRoots$Page;") (List.mem_of_getElem? (i := 2) rfl)
  have k_4 := hts (.fieldLink RX1 42 "TwinRoots$Editor" "above" "LTwinRoots$Page;") (List.mem_of_getElem? (i := 71) rfl)
  have k_5 := hts (.fieldLink RX1 39 "TwinRoots$Editor" "mate" "LTwinRoots$Page;") (List.mem_of_getElem? (i := 13) rfl)
  refine lv_aload_n hx hb dX1_writeUppermost_0 rfl (lv_at hl 0 rfl) ?_
  have hPc := hP.part (cx := [(he, .inr (1, [.ref hm, .ref hf, .ref hp, .ref eb, .ref ep, .int (nI el), .ref nd, .ref mt, .ref ab])), (hm, .inr (3, [.int mk, .int mc]))]) [0, 3] rfl
  have hDc := hD.part (cx := [(he, .inr (1, [.ref hm, .ref hf, .ref hp, .ref eb, .ref ep, .int (nI el), .ref nd, .ref mt, .ref ab])), (hm, .inr (3, [.int mk, .int mc]))]) [0, 3] (by decide) rfl
  have hFc := va_freeP (cx := [(he, .inr (1, [.ref hm, .ref hf, .ref hp, .ref eb, .ref ep, .int (nI el), .ref nd, .ref mt, .ref ab])), (hm, .inr (3, [.int mk, .int mc]))]) hD hS hA [0, 3] rfl
  have hKc := hK.sub (tys' := [(cI, .int)]) [1] rfl
  refine va_calli (va_runV (As := []) (rest := []) ⟨hx, hb, hml, hown, hts⟩ (c_X1_partIfTooMany l dC dI s.heap.size he hm hf hp eb ep nd mt ab el mk mc G Pg cI S (by first | assumption | omega | decide) (by first | assumption | omega | decide) (by first | assumption | omega | decide) (by first | assumption | omega | decide) (by first | assumption | omega | decide) (by first | assumption | omega | decide) (by first | assumption | omega | decide)) (cwV 0 hts g_X1_writeUppermost_X1_partIfTooMany rfl rfl rfl (by decide +kernel) ⟨Nat.le_of_ble_eq_true rfl, Nat.le_of_ble_eq_true rfl⟩) ⟨fun a U g mk q => by obtain ⟨q0, q1, qP, qK, qD⟩ := q; exact ⟨q0, q1, qP, va_K.moved (u := U) (U := U.calling g mk a) (Vm.Alike.refl U.vm) qK, qD⟩, va_recv hKc hPc (ci := 1) (q0 := 0) rfl rfl, fun U hU hW => ⟨rfl, by rw [hU], by rw [hU]; exact hPc, va_K.moved hW.alike hKc, hDc.weaken (fun _ _ _ _ => trivial)⟩⟩ rfl rfl hl.1 rfl (lv_room (Nat.le_of_ble_eq_true rfl)) dX1_writeUppermost_1 ⟨(show 0 + 0 ≤ 0 by omega), (show 0 + 0 ≤ 0 by omega)⟩) hS (fun q _ h => hFc q h) hFc (fun r_1 u t H1 locs ht hvm hw hB hz1 hk1 hS => ?_)
  obtain ⟨S2_2, rfl⟩ : ∃ z, z = u := ⟨_, rfl⟩
  obtain ⟨hP1, hK1, hD1⟩ := hB
  rw [ht] at hP1
  have hK1 := va_K.moved hvm.symm hK1
  try dsimp only at hw
  obtain ⟨hP, hD⟩ := va_joinP (wr := [(eb, .inl (cI, 12, .inl fb)), (ep, .inl (cI, 12, .inl fq)), (hf, .inr (2, [.int dp, .ref qp, .ref qe, .ref ql, .int (nI lo), .int (nI le)])), (qp, .inl (cO, b, .inr (.inr (.inr (.inr fp))))), (hp, .inr (5, [.int (nI pm), .long fr, .long wk, .int nr, .ref pd, .ref pt, .ref pb, .long fe])), (pd, .inl (cO, 25, .inr (.inr (.inr (.inr fd))))), (pt, .inl (cI, 25, .inl ft))]) (rx := [(he, .inr (1, [.ref hm, .ref hf, .ref hp, .ref eb, .ref ep, .int (nI el), .ref nd, .ref mt, .ref ab])), (hm, .inr (3, [.int mk, .int mc]))]) (pl1 := pool G cI Pg S2_2) hP hD [0, 3] [1, 2, 4, 5, 6, 7, 8] rfl rfl (by decide) (by decide) hk1 hFc hP1 hD1
  have hK := (hK.sub (tys' := [(cO, .object RX4), (cI, .int)]) [0, 1] rfl).app hK1
  have hK : va_K (dC, dI) vwCl [(cO, .object RX4), (cI, .int)] s := hK.sub [0, 1] rfl
  generalize H1 = H at hP hS ⊢
  have hP : va_P (dC, dI) vwCl ([(eb, .inl (cI, 12, .inl fb)), (ep, .inl (cI, 12, .inl fq)), (hf, .inr (2, [.int dp, .ref qp, .ref qe, .ref ql, .int (nI lo), .int (nI le)])), (qp, .inl (cO, b, .inr (.inr (.inr (.inr fp))))), (hp, .inr (5, [.int (nI pm), .long fr, .long wk, .int nr, .ref pd, .ref pt, .ref pb, .long fe])), (pd, .inl (cO, 25, .inr (.inr (.inr (.inr fd))))), (pt, .inl (cI, 25, .inl ft)), (he, .inr (1, [.ref hm, .ref hf, .ref hp, .ref eb, .ref ep, .int (nI el), .ref nd, .ref mt, .ref ab])), (hm, .inr (3, [.int mk, .int mc]))] ++ pool G cI Pg S2_2) H := hP
  have hD : va_D A ([(eb, .inl (cI, 12, .inl fb)), (ep, .inl (cI, 12, .inl fq)), (hf, .inr (2, [.int dp, .ref qp, .ref qe, .ref ql, .int (nI lo), .int (nI le)])), (qp, .inl (cO, b, .inr (.inr (.inr (.inr fp))))), (hp, .inr (5, [.int (nI pm), .long fr, .long wk, .int nr, .ref pd, .ref pt, .ref pb, .long fe])), (pd, .inl (cO, 25, .inr (.inr (.inr (.inr fd))))), (pt, .inl (cI, 25, .inl ft)), (he, .inr (1, [.ref hm, .ref hf, .ref hp, .ref eb, .ref ep, .int (nI el), .ref nd, .ref mt, .ref ab])), (hm, .inr (3, [.int mk, .int mc]))] ++ pool G cI Pg S2_2) := hD
  have hK : va_K (dC, dI) vwCl [(cO, .object RX4), (cI, .int)] s := hK
  have hI := hw.1
  have hw_r_1 := hw
  refine lv_istore_n (lv' := [(2, .int r_1), (0, .ref he), (1, .int p0)]) hx hb dX1_writeUppermost_4 rfl hl (by decide) rfl (fun ls hl => ?_)
  refine lv_aload_n hx hb dX1_writeUppermost_5 rfl (lv_at hl 1 rfl) ?_
  refine va_get (D := (dC, dI)) (ci := 1) (v := .ref hp) (C := RX1) (T := TX1) (N := 9) hx hb hts k_1 hown hK hP 7 rfl rfl 2 (by decide) k_2 (fun _ h9 => h9) rfl dX1_writeUppermost_6 ?_
  refine lv_aload_n hx hb dX1_writeUppermost_9 rfl (lv_at hl 1 rfl) ?_
  refine va_get (D := (dC, dI)) (ci := 1) (v := .ref nd) (C := RX1) (T := TX1) (N := 9) hx hb hts k_1 hown hK hP 7 rfl rfl 6 (by decide) k_3 (fun _ h9 => h9) rfl dX1_writeUppermost_10 ?_
  refine lv_iload_n hx hb dX1_writeUppermost_13 rfl (lv_at hl 2 rfl) ?_
  have hPc := hP.part (cx := [(hp, .inr (5, [.int (nI pm), .long fr, .long wk, .int nr, .ref pd, .ref pt, .ref pb, .long fe])), (pd, .inl (cO, 25, .inr (.inr (.inr (.inr fd))))), (pt, .inl (cI, 25, .inl ft))]) [4, 5, 6] rfl
  have hDc := hD.part (cx := [(hp, .inr (5, [.int (nI pm), .long fr, .long wk, .int nr, .ref pd, .ref pt, .ref pb, .long fe])), (pd, .inl (cO, 25, .inr (.inr (.inr (.inr fd))))), (pt, .inl (cI, 25, .inl ft))]) [4, 5, 6] (by decide) rfl
  have hFc := va_freeP (cx := [(hp, .inr (5, [.int (nI pm), .long fr, .long wk, .int nr, .ref pd, .ref pt, .ref pb, .long fe])), (pd, .inl (cO, 25, .inr (.inr (.inr (.inr fd))))), (pt, .inl (cI, 25, .inl ft))]) hD hS hA [4, 5, 6] rfl
  have hKc := hK.sub (tys' := [(cO, .object RX4), (cI, .int)]) [0, 1] rfl
  refine va_calli (va_runV (As := [.ref nd, .int p0]) (rest := []) ⟨hx, hb, hml, hown, hts⟩ (c_X5_write l dC dI H.size hp pd pt pb fr wk fe nr pm nd p0 cO fd ft G Pg cI S2_2 (by first | assumption | omega | decide) (by first | assumption | omega | decide) (by first | assumption | omega | decide) (by first | assumption | omega | decide) (by first | assumption | omega | decide) (by first | assumption | omega | decide) (by first | assumption | omega | decide)) (cwV 2 hts g_X1_writeUppermost_X5_write rfl rfl rfl (by decide +kernel) ⟨Nat.le_of_ble_eq_true rfl, Nat.le_of_ble_eq_true rfl⟩) ⟨fun a U g mk q => by obtain ⟨q0, q1, qP, qK, qD, qX0, qX1⟩ := q; exact ⟨q0, q1, qP, va_K.moved (u := U) (U := U.calling g mk a) (Vm.Alike.refl U.vm) qK, qD, va_Nw.same (u := U) (U := U.calling g mk a) rfl rfl qX0, va_Nw.same (u := U) (U := U.calling g mk a) rfl rfl qX1⟩, va_recv hKc hPc (ci := 5) (q0 := 0) rfl rfl, fun U hU hW => ⟨rfl, by rw [hU], by rw [hU]; exact hPc, va_K.moved hW.alike hKc, hDc.weaken (fun _ _ _ _ => trivial), va_Nw.warmM hW hNX5_46, va_Nw.warmM hW hNX5_54⟩⟩ rfl rfl hl.1 rfl (lv_room (Nat.le_of_ble_eq_true rfl)) dX1_writeUppermost_14 ⟨(show 0 + 0 ≤ 0 by omega), (show 0 + 0 ≤ 0 by omega)⟩) hS (fun q _ h => hFc q h) hFc (fun r_3 u t H1 locs ht hvm hw hB hz1 hk1 hS => ?_)
  obtain ⟨pm2_4, fr2_5, wk2_6, fe2_7, nr2_8, ft2_9, S2_10⟩ := u
  obtain ⟨hP1, hK1, hD1⟩ := hB
  rw [ht] at hP1
  have hK1 := va_K.moved hvm.symm hK1
  try dsimp only at hw
  obtain ⟨hP, hD⟩ := va_joinP (wr := [(eb, .inl (cI, 12, .inl fb)), (ep, .inl (cI, 12, .inl fq)), (hf, .inr (2, [.int dp, .ref qp, .ref qe, .ref ql, .int (nI lo), .int (nI le)])), (qp, .inl (cO, b, .inr (.inr (.inr (.inr fp))))), (he, .inr (1, [.ref hm, .ref hf, .ref hp, .ref eb, .ref ep, .int (nI el), .ref nd, .ref mt, .ref ab])), (hm, .inr (3, [.int mk, .int mc]))]) (rx := [(hp, .inr (5, [.int (nI pm2_4), .long fr2_5, .long wk2_6, .int nr2_8, .ref pd, .ref pt, .ref pb, .long fe2_7])), (pd, .inl (cO, 25, .inr (.inr (.inr (.inr fd))))), (pt, .inl (cI, 25, .inl ft2_9))]) (pl1 := pool G cI Pg S2_10) hP hD [4, 5, 6] [0, 1, 2, 3, 7, 8] rfl rfl (by decide) (by decide) hk1 hFc hP1 hD1
  have hK := (hK.sub (tys' := [(cO, .object RX4), (cI, .int)]) [0, 1] rfl).app hK1
  have hK : va_K (dC, dI) vwCl [(cO, .object RX4), (cI, .int)] s := hK.sub [0, 1] rfl
  generalize H1 = H at hP hS ⊢
  have hP : va_P (dC, dI) vwCl ([(eb, .inl (cI, 12, .inl fb)), (ep, .inl (cI, 12, .inl fq)), (hf, .inr (2, [.int dp, .ref qp, .ref qe, .ref ql, .int (nI lo), .int (nI le)])), (qp, .inl (cO, b, .inr (.inr (.inr (.inr fp))))), (he, .inr (1, [.ref hm, .ref hf, .ref hp, .ref eb, .ref ep, .int (nI el), .ref nd, .ref mt, .ref ab])), (hm, .inr (3, [.int mk, .int mc])), (hp, .inr (5, [.int (nI pm2_4), .long fr2_5, .long wk2_6, .int nr2_8, .ref pd, .ref pt, .ref pb, .long fe2_7])), (pd, .inl (cO, 25, .inr (.inr (.inr (.inr fd))))), (pt, .inl (cI, 25, .inl ft2_9))] ++ pool G cI Pg S2_10) H := hP
  have hD : va_D A ([(eb, .inl (cI, 12, .inl fb)), (ep, .inl (cI, 12, .inl fq)), (hf, .inr (2, [.int dp, .ref qp, .ref qe, .ref ql, .int (nI lo), .int (nI le)])), (qp, .inl (cO, b, .inr (.inr (.inr (.inr fp))))), (he, .inr (1, [.ref hm, .ref hf, .ref hp, .ref eb, .ref ep, .int (nI el), .ref nd, .ref mt, .ref ab])), (hm, .inr (3, [.int mk, .int mc])), (hp, .inr (5, [.int (nI pm2_4), .long fr2_5, .long wk2_6, .int nr2_8, .ref pd, .ref pt, .ref pb, .long fe2_7])), (pd, .inl (cO, 25, .inr (.inr (.inr (.inr fd))))), (pt, .inl (cI, 25, .inl ft2_9))] ++ pool G cI Pg S2_10) := hD
  have hK : va_K (dC, dI) vwCl [(cO, .object RX4), (cI, .int)] s := hK
  have hI := hw.1
  have hw_r_3 := hw
  refine lv_istore_n (lv' := [(3, .int r_3), (2, .int r_1), (0, .ref he), (1, .int p0)]) hx hb dX1_writeUppermost_17 rfl hl (by decide) rfl (fun ls hl => ?_)
  refine lv_iload_n hx hb dX1_writeUppermost_18 rfl (lv_at hl 1 rfl) ?_
  refine lv_if_ne (tgt := 24) hx hb dX1_writeUppermost_19 (by decide) (fun c_11 => ?_) (fun c_11 => ?_)
  · refine lv_aload_n hx hb dX1_writeUppermost_24 rfl (lv_at hl 2 rfl) ?_
    refine va_get (D := (dC, dI)) (ci := 1) (v := .ref ab) (C := RX1) (T := TX1) (N := 9) hx hb hts k_1 hown hK hP 4 rfl rfl 8 (by decide) k_4 (fun _ h9 => h9) rfl dX1_writeUppermost_25 ?_
    refine lv_iconst (v := 0) hx hb dX1_writeUppermost_28 (by decide) ?_
    have hz1_ab := (hI ab hm_ab).1
    have hz2_ab := (hI ab hm_ab).2.1
    have hz3_ab := (hI ab hm_ab).2.2
    have hT9 := in1 hm_ab
    have hPc : va_P (dC, dI) vwCl [(ab, .inr (4, [.int (S2_10 ab).1, .int (nI (S2_10 ab).2.1), .ref (G ab).1, .ref (G ab).2.1])), ((G ab).1, .inl (cI, (G ab).2.2.1, .inl (S2_10 ab).2.2.1)), ((G ab).2.1, .inl (cI, (G ab).2.2.1, .inl (S2_10 ab).2.2.2))] H := pool_cut (T := [ab]) (cx := []) hP hT9 [] rfl
    have hDc : va_D A [(ab, .inr (4, [.int (S2_10 ab).1, .int (nI (S2_10 ab).2.1), .ref (G ab).1, .ref (G ab).2.1])), ((G ab).1, .inl (cI, (G ab).2.2.1, .inl (S2_10 ab).2.2.1)), ((G ab).2.1, .inl (cI, (G ab).2.2.1, .inl (S2_10 ab).2.2.2))] := pool_cutD (T := [ab]) (cx := []) hD hT9 (nd1) [] (by decide) rfl
    have hFc : ∀ q, va_A [(ab, .inr (4, [.int (S2_10 ab).1, .int (nI (S2_10 ab).2.1), .ref (G ab).1, .ref (G ab).2.1])), ((G ab).1, .inl (cI, (G ab).2.2.1, .inl (S2_10 ab).2.2.1)), ((G ab).2.1, .inl (cI, (G ab).2.2.1, .inl (S2_10 ab).2.2.2))] (H).size q → A q := pool_free (T := [ab]) (cx := []) hD hS hA hT9 [] rfl
    have hKc := hK.sub (tys' := [(cI, .int), (cI, .int)]) [1, 1] rfl
    refine va_callv (va_runV (As := [.int 0]) (rest := []) ⟨hx, hb, hml, hown, hts⟩ (c_X4_clear3 l dC dI H.size ab (G ab).1 (G ab).2.1 (G ab).2.2.1 (S2_10 ab).2.1 (S2_10 ab).1 cI cI (S2_10 ab).2.2.1 (S2_10 ab).2.2.2 0 (by first | assumption | omega | decide)) (cwV 1 hts g_X1_writeUppermost_X4_clear3 rfl rfl rfl (by decide +kernel) ⟨Nat.le_of_ble_eq_true rfl, Nat.le_of_ble_eq_true rfl⟩) ⟨fun a U g mk q => by obtain ⟨q0, q1, qP, qK, qD⟩ := q; exact ⟨q0, q1, qP, va_K.moved (u := U) (U := U.calling g mk a) (Vm.Alike.refl U.vm) qK, qD⟩, va_recv hKc hPc (ci := 4) (q0 := 0) rfl rfl, fun U hU hW => ⟨rfl, by rw [hU], by rw [hU]; exact hPc, va_K.moved hW.alike hKc, hDc.weaken (fun _ _ _ _ => trivial)⟩⟩ rfl rfl hl.1 rfl (lv_room (Nat.le_of_ble_eq_true rfl)) dX1_writeUppermost_29 ⟨(show 0 + 0 ≤ 0 by omega), (show 0 + 0 ≤ 0 by omega)⟩) hS (fun q _ h => hFc q h) hFc (fun u t H1 locs ht hvm hw hB hz1 hk1 hS => ?_)
    obtain ⟨hP1, hK1, hD1⟩ := hB
    rw [ht] at hP1
    have hK1 := va_K.moved hvm.symm hK1
    try dsimp only at hw
    obtain ⟨hP, hD⟩ := pool_join (S := S2_10) (S1 := (fun _ => (0, 0, (S2_10 ab).2.2.1, (S2_10 ab).2.2.2))) (T := [ab]) (cx := []) (wr := [(eb, .inl (cI, 12, .inl fb)), (ep, .inl (cI, 12, .inl fq)), (hf, .inr (2, [.int dp, .ref qp, .ref qe, .ref ql, .int (nI lo), .int (nI le)])), (qp, .inl (cO, b, .inr (.inr (.inr (.inr fp))))), (he, .inr (1, [.ref hm, .ref hf, .ref hp, .ref eb, .ref ep, .int (nI el), .ref nd, .ref mt, .ref ab])), (hm, .inr (3, [.int mk, .int mc])), (hp, .inr (5, [.int (nI pm2_4), .long fr2_5, .long wk2_6, .int nr2_8, .ref pd, .ref pt, .ref pb, .long fe2_7])), (pd, .inl (cO, 25, .inr (.inr (.inr (.inr fd))))), (pt, .inl (cI, 25, .inl ft2_9))]) (rx := []) hP hD hT9 [] [0, 1, 2, 3, 4, 5, 6, 7, 8] rfl rfl (by decide) (by decide) hk1 hFc hP1 hD1
    obtain ⟨S_13, eS_13⟩ : ∃ x, x = pgJ [ab] (fun _ => (0, 0, (S2_10 ab).2.2.1, (S2_10 ab).2.2.2)) S2_10 := ⟨_, rfl⟩
    rw [← eS_13] at hP hD
    have hK := (hK.sub (tys' := [(cO, .object RX4), (cI, .int)]) [0, 1] rfl).app hK1
    have hK : va_K (dC, dI) vwCl [(cO, .object RX4), (cI, .int)] s := hK.sub [0, 1] rfl
    generalize H1 = H at hP hS ⊢
    have hP : va_P (dC, dI) vwCl ([(eb, .inl (cI, 12, .inl fb)), (ep, .inl (cI, 12, .inl fq)), (hf, .inr (2, [.int dp, .ref qp, .ref qe, .ref ql, .int (nI lo), .int (nI le)])), (qp, .inl (cO, b, .inr (.inr (.inr (.inr fp))))), (he, .inr (1, [.ref hm, .ref hf, .ref hp, .ref eb, .ref ep, .int (nI el), .ref nd, .ref mt, .ref ab])), (hm, .inr (3, [.int mk, .int mc])), (hp, .inr (5, [.int (nI pm2_4), .long fr2_5, .long wk2_6, .int nr2_8, .ref pd, .ref pt, .ref pb, .long fe2_7])), (pd, .inl (cO, 25, .inr (.inr (.inr (.inr fd))))), (pt, .inl (cI, 25, .inl ft2_9))] ++ pool G cI Pg S_13) H := hP
    have hD : va_D A ([(eb, .inl (cI, 12, .inl fb)), (ep, .inl (cI, 12, .inl fq)), (hf, .inr (2, [.int dp, .ref qp, .ref qe, .ref ql, .int (nI lo), .int (nI le)])), (qp, .inl (cO, b, .inr (.inr (.inr (.inr fp))))), (he, .inr (1, [.ref hm, .ref hf, .ref hp, .ref eb, .ref ep, .int (nI el), .ref nd, .ref mt, .ref ab])), (hm, .inr (3, [.int mk, .int mc])), (hp, .inr (5, [.int (nI pm2_4), .long fr2_5, .long wk2_6, .int nr2_8, .ref pd, .ref pt, .ref pb, .long fe2_7])), (pd, .inl (cO, 25, .inr (.inr (.inr (.inr fd))))), (pt, .inl (cI, 25, .inl ft2_9))] ++ pool G cI Pg S_13) := hD
    have hK : va_K (dC, dI) vwCl [(cO, .object RX4), (cI, .int)] s := hK
    have hI : pgI G Pg S_13 := by rw [eS_13]; exact pgI_1 hI (by first | assumption | exact Or.inl rfl | exact Or.inr rfl | exact hw.2.1 | exact hw.1) (by first | assumption | omega)
    refine lv_aload_n hx hb dX1_writeUppermost_32 rfl (lv_at hl 2 rfl) ?_
    refine va_get (D := (dC, dI)) (ci := 1) (v := .ref ab) (C := RX1) (T := TX1) (N := 9) hx hb hts k_1 hown hK hP 4 rfl rfl 8 (by decide) k_4 (fun _ h9 => h9) rfl dX1_writeUppermost_33 ?_
    refine lv_iconst (v := 0) hx hb dX1_writeUppermost_36 (by decide) ?_
    refine lv_iconst (v := 0) hx hb dX1_writeUppermost_37 (by decide) ?_
    refine lv_iload_n hx hb dX1_writeUppermost_38 rfl (lv_at hl 0 rfl) ?_
    have hz1_ab := (hI ab hm_ab).1
    have hz2_ab := (hI ab hm_ab).2.1
    have hz3_ab := (hI ab hm_ab).2.2
    have hT9 := in1 hm_ab
    have hPc : va_P (dC, dI) vwCl [(ab, .inr (4, [.int (S_13 ab).1, .int (nI (S_13 ab).2.1), .ref (G ab).1, .ref (G ab).2.1])), ((G ab).1, .inl (cI, (G ab).2.2.1, .inl (S_13 ab).2.2.1)), ((G ab).2.1, .inl (cI, (G ab).2.2.1, .inl (S_13 ab).2.2.2))] H := pool_cut (T := [ab]) (cx := []) hP hT9 [] rfl
    have hDc : va_D A [(ab, .inr (4, [.int (S_13 ab).1, .int (nI (S_13 ab).2.1), .ref (G ab).1, .ref (G ab).2.1])), ((G ab).1, .inl (cI, (G ab).2.2.1, .inl (S_13 ab).2.2.1)), ((G ab).2.1, .inl (cI, (G ab).2.2.1, .inl (S_13 ab).2.2.2))] := pool_cutD (T := [ab]) (cx := []) hD hT9 (nd1) [] (by decide) rfl
    have hFc : ∀ q, va_A [(ab, .inr (4, [.int (S_13 ab).1, .int (nI (S_13 ab).2.1), .ref (G ab).1, .ref (G ab).2.1])), ((G ab).1, .inl (cI, (G ab).2.2.1, .inl (S_13 ab).2.2.1)), ((G ab).2.1, .inl (cI, (G ab).2.2.1, .inl (S_13 ab).2.2.2))] (H).size q → A q := pool_free (T := [ab]) (cx := []) hD hS hA hT9 [] rfl
    have hKc := hK.sub (tys' := [(cI, .int), (cI, .int)]) [1, 1] rfl
    refine va_callv (va_runV (As := [.int 0, .int 0, .int r_3]) (rest := []) ⟨hx, hb, hml, hown, hts⟩ (c_X4_insert_any l dC dI H.size ab (G ab).1 (G ab).2.1 (G ab).2.2.1 (S_13 ab).2.1 (S_13 ab).1 cI cI (S_13 ab).2.2.1 (S_13 ab).2.2.2 0 0 r_3 (by first | assumption | omega | decide) (by first | assumption | omega | decide)) (cwV 3 hts g_X1_writeUppermost_X4_insert_any rfl rfl rfl (by decide +kernel) ⟨Nat.le_of_ble_eq_true rfl, Nat.le_of_ble_eq_true rfl⟩) ⟨fun a U g mk q => by obtain ⟨q0, q1, qP, qK, qD⟩ := q; exact ⟨q0, q1, qP, va_K.moved (u := U) (U := U.calling g mk a) (Vm.Alike.refl U.vm) qK, qD⟩, va_recv hKc hPc (ci := 4) (q0 := 0) rfl rfl, fun U hU hW => ⟨rfl, by rw [hU], by rw [hU]; exact hPc, va_K.moved hW.alike hKc, hDc.weaken (fun _ _ _ _ => trivial)⟩⟩ rfl rfl hl.1 rfl (lv_room (Nat.le_of_ble_eq_true rfl)) dX1_writeUppermost_39 ⟨(show 0 + 0 ≤ 0 by omega), (show 0 + 0 ≤ 0 by omega)⟩) hS (fun q _ h => hFc q h) hFc (fun u t H1 locs ht hvm hw hB hz1 hk1 hS => ?_)
    obtain ⟨m2_15, f2_16, g2_17⟩ := u
    obtain ⟨hP1, hK1, hD1⟩ := hB
    rw [ht] at hP1
    have hK1 := va_K.moved hvm.symm hK1
    try dsimp only at hw
    obtain ⟨hP, hD⟩ := pool_join (S := S_13) (S1 := (fun _ => ((S_13 ab).1, m2_15, f2_16, g2_17))) (T := [ab]) (cx := []) (wr := [(eb, .inl (cI, 12, .inl fb)), (ep, .inl (cI, 12, .inl fq)), (hf, .inr (2, [.int dp, .ref qp, .ref qe, .ref ql, .int (nI lo), .int (nI le)])), (qp, .inl (cO, b, .inr (.inr (.inr (.inr fp))))), (he, .inr (1, [.ref hm, .ref hf, .ref hp, .ref eb, .ref ep, .int (nI el), .ref nd, .ref mt, .ref ab])), (hm, .inr (3, [.int mk, .int mc])), (hp, .inr (5, [.int (nI pm2_4), .long fr2_5, .long wk2_6, .int nr2_8, .ref pd, .ref pt, .ref pb, .long fe2_7])), (pd, .inl (cO, 25, .inr (.inr (.inr (.inr fd))))), (pt, .inl (cI, 25, .inl ft2_9))]) (rx := []) hP hD hT9 [] [0, 1, 2, 3, 4, 5, 6, 7, 8] rfl rfl (by decide) (by decide) hk1 hFc hP1 hD1
    obtain ⟨S_18, eS_18⟩ : ∃ x, x = pgJ [ab] (fun _ => ((S_13 ab).1, m2_15, f2_16, g2_17)) S_13 := ⟨_, rfl⟩
    rw [← eS_18] at hP hD
    have hK := (hK.sub (tys' := [(cO, .object RX4), (cI, .int)]) [0, 1] rfl).app hK1
    have hK : va_K (dC, dI) vwCl [(cO, .object RX4), (cI, .int)] s := hK.sub [0, 1] rfl
    generalize H1 = H at hP hS ⊢
    have hP : va_P (dC, dI) vwCl ([(eb, .inl (cI, 12, .inl fb)), (ep, .inl (cI, 12, .inl fq)), (hf, .inr (2, [.int dp, .ref qp, .ref qe, .ref ql, .int (nI lo), .int (nI le)])), (qp, .inl (cO, b, .inr (.inr (.inr (.inr fp))))), (he, .inr (1, [.ref hm, .ref hf, .ref hp, .ref eb, .ref ep, .int (nI el), .ref nd, .ref mt, .ref ab])), (hm, .inr (3, [.int mk, .int mc])), (hp, .inr (5, [.int (nI pm2_4), .long fr2_5, .long wk2_6, .int nr2_8, .ref pd, .ref pt, .ref pb, .long fe2_7])), (pd, .inl (cO, 25, .inr (.inr (.inr (.inr fd))))), (pt, .inl (cI, 25, .inl ft2_9))] ++ pool G cI Pg S_18) H := hP
    have hD : va_D A ([(eb, .inl (cI, 12, .inl fb)), (ep, .inl (cI, 12, .inl fq)), (hf, .inr (2, [.int dp, .ref qp, .ref qe, .ref ql, .int (nI lo), .int (nI le)])), (qp, .inl (cO, b, .inr (.inr (.inr (.inr fp))))), (he, .inr (1, [.ref hm, .ref hf, .ref hp, .ref eb, .ref ep, .int (nI el), .ref nd, .ref mt, .ref ab])), (hm, .inr (3, [.int mk, .int mc])), (hp, .inr (5, [.int (nI pm2_4), .long fr2_5, .long wk2_6, .int nr2_8, .ref pd, .ref pt, .ref pb, .long fe2_7])), (pd, .inl (cO, 25, .inr (.inr (.inr (.inr fd))))), (pt, .inl (cI, 25, .inl ft2_9))] ++ pool G cI Pg S_18) := hD
    have hK : va_K (dC, dI) vwCl [(cO, .object RX4), (cI, .int)] s := hK
    have hI : pgI G Pg S_18 := by rw [eS_18]; exact pgI_1 hI (by first | assumption | exact Or.inl rfl | exact Or.inr rfl | exact hw.2.1 | exact hw.1) (by first | assumption | omega)
    have hw_r_14 := hw
    refine lv_aload_n hx hb dX1_writeUppermost_42 rfl (lv_at hl 2 rfl) ?_
    refine va_get (D := (dC, dI)) (ci := 1) (v := .ref ab) (C := RX1) (T := TX1) (N := 9) hx hb hts k_1 hown hK hP 4 rfl rfl 8 (by decide) k_4 (fun _ h9 => h9) rfl dX1_writeUppermost_43 ?_
    refine lv_iconst (v := 1) hx hb dX1_writeUppermost_46 (by decide) ?_
    refine lv_aload_n hx hb dX1_writeUppermost_47 rfl (lv_at hl 2 rfl) ?_
    refine va_get (D := (dC, dI)) (ci := 1) (v := .ref mt) (C := RX1) (T := TX1) (N := 9) hx hb hts k_1 hown hK hP 4 rfl rfl 7 (by decide) k_5 (fun _ h9 => h9) rfl dX1_writeUppermost_48 ?_
    refine lv_iconst (v := 0) hx hb dX1_writeUppermost_51 (by decide) ?_
    have hz1_mt := (hI mt hm_mt).1
    have hz2_mt := (hI mt hm_mt).2.1
    have hz3_mt := (hI mt hm_mt).2.2
    have hT9 := in1 hm_mt
    have hPc : va_P (dC, dI) vwCl [(mt, .inr (4, [.int (S_18 mt).1, .int (nI (S_18 mt).2.1), .ref (G mt).1, .ref (G mt).2.1])), ((G mt).1, .inl (cI, (G mt).2.2.1, .inl (S_18 mt).2.2.1)), ((G mt).2.1, .inl (cI, (G mt).2.2.1, .inl (S_18 mt).2.2.2))] H := pool_cut (T := [mt]) (cx := []) hP hT9 [] rfl
    have hDc : va_D A [(mt, .inr (4, [.int (S_18 mt).1, .int (nI (S_18 mt).2.1), .ref (G mt).1, .ref (G mt).2.1])), ((G mt).1, .inl (cI, (G mt).2.2.1, .inl (S_18 mt).2.2.1)), ((G mt).2.1, .inl (cI, (G mt).2.2.1, .inl (S_18 mt).2.2.2))] := pool_cutD (T := [mt]) (cx := []) hD hT9 (nd1) [] (by decide) rfl
    have hFc : ∀ q, va_A [(mt, .inr (4, [.int (S_18 mt).1, .int (nI (S_18 mt).2.1), .ref (G mt).1, .ref (G mt).2.1])), ((G mt).1, .inl (cI, (G mt).2.2.1, .inl (S_18 mt).2.2.1)), ((G mt).2.1, .inl (cI, (G mt).2.2.1, .inl (S_18 mt).2.2.2))] (H).size q → A q := pool_free (T := [mt]) (cx := []) hD hS hA hT9 [] rfl
    have hKc := hK.sub (tys' := [(cI, .int), (cI, .int)]) [1, 1] rfl
    refine va_calli (va_runV (As := [.int 0]) (rest := [.int 1, .ref ab]) ⟨hx, hb, hml, hown, hts⟩ (c_X4_keyAt l dC dI H.size mt (G mt).1 (G mt).2.1 (G mt).2.2.1 (S_18 mt).2.1 (S_18 mt).1 cI cI (S_18 mt).2.2.1 (S_18 mt).2.2.2 0 (by first | assumption | omega | decide) (by first | assumption | omega | decide)) (cwV 1 hts g_X1_writeUppermost_X4_keyAt rfl rfl rfl (by decide +kernel) ⟨Nat.le_of_ble_eq_true rfl, Nat.le_of_ble_eq_true rfl⟩) ⟨fun a U g mk q => by obtain ⟨q0, q1, qP, qK, qD⟩ := q; exact ⟨q0, q1, qP, va_K.moved (u := U) (U := U.calling g mk a) (Vm.Alike.refl U.vm) qK, qD⟩, va_recv hKc hPc (ci := 4) (q0 := 0) rfl rfl, fun U hU hW => ⟨rfl, by rw [hU], by rw [hU]; exact hPc, va_K.moved hW.alike hKc, hDc.weaken (fun _ _ _ _ => trivial)⟩⟩ rfl rfl hl.1 rfl (lv_room (Nat.le_of_ble_eq_true rfl)) dX1_writeUppermost_52 ⟨(show 0 + 0 ≤ 0 by omega), (show 0 + 0 ≤ 0 by omega)⟩) hS (fun q _ h => hFc q h) hFc (fun r_19 u t H1 locs ht hvm hw hB hz1 hk1 hS => ?_)
    obtain ⟨hP1, hK1, hD1⟩ := hB
    rw [ht] at hP1
    have hK1 := va_K.moved hvm.symm hK1
    try dsimp only at hw
    obtain ⟨hP, hD⟩ := pool_join (S := S_18) (S1 := S_18) (T := [mt]) (cx := []) (wr := [(eb, .inl (cI, 12, .inl fb)), (ep, .inl (cI, 12, .inl fq)), (hf, .inr (2, [.int dp, .ref qp, .ref qe, .ref ql, .int (nI lo), .int (nI le)])), (qp, .inl (cO, b, .inr (.inr (.inr (.inr fp))))), (he, .inr (1, [.ref hm, .ref hf, .ref hp, .ref eb, .ref ep, .int (nI el), .ref nd, .ref mt, .ref ab])), (hm, .inr (3, [.int mk, .int mc])), (hp, .inr (5, [.int (nI pm2_4), .long fr2_5, .long wk2_6, .int nr2_8, .ref pd, .ref pt, .ref pb, .long fe2_7])), (pd, .inl (cO, 25, .inr (.inr (.inr (.inr fd))))), (pt, .inl (cI, 25, .inl ft2_9))]) (rx := []) hP hD hT9 [] [0, 1, 2, 3, 4, 5, 6, 7, 8] rfl rfl (by decide) (by decide) hk1 hFc hP1 hD1
    rw [pgJ_same] at hP hD
    have hK := (hK.sub (tys' := [(cO, .object RX4), (cI, .int)]) [0, 1] rfl).app hK1
    have hK : va_K (dC, dI) vwCl [(cO, .object RX4), (cI, .int)] s := hK.sub [0, 1] rfl
    generalize H1 = H at hP hS ⊢
    have hP : va_P (dC, dI) vwCl ([(eb, .inl (cI, 12, .inl fb)), (ep, .inl (cI, 12, .inl fq)), (hf, .inr (2, [.int dp, .ref qp, .ref qe, .ref ql, .int (nI lo), .int (nI le)])), (qp, .inl (cO, b, .inr (.inr (.inr (.inr fp))))), (he, .inr (1, [.ref hm, .ref hf, .ref hp, .ref eb, .ref ep, .int (nI el), .ref nd, .ref mt, .ref ab])), (hm, .inr (3, [.int mk, .int mc])), (hp, .inr (5, [.int (nI pm2_4), .long fr2_5, .long wk2_6, .int nr2_8, .ref pd, .ref pt, .ref pb, .long fe2_7])), (pd, .inl (cO, 25, .inr (.inr (.inr (.inr fd))))), (pt, .inl (cI, 25, .inl ft2_9))] ++ pool G cI Pg S_18) H := hP
    have hD : va_D A ([(eb, .inl (cI, 12, .inl fb)), (ep, .inl (cI, 12, .inl fq)), (hf, .inr (2, [.int dp, .ref qp, .ref qe, .ref ql, .int (nI lo), .int (nI le)])), (qp, .inl (cO, b, .inr (.inr (.inr (.inr fp))))), (he, .inr (1, [.ref hm, .ref hf, .ref hp, .ref eb, .ref ep, .int (nI el), .ref nd, .ref mt, .ref ab])), (hm, .inr (3, [.int mk, .int mc])), (hp, .inr (5, [.int (nI pm2_4), .long fr2_5, .long wk2_6, .int nr2_8, .ref pd, .ref pt, .ref pb, .long fe2_7])), (pd, .inl (cO, 25, .inr (.inr (.inr (.inr fd))))), (pt, .inl (cI, 25, .inl ft2_9))] ++ pool G cI Pg S_18) := hD
    have hK : va_K (dC, dI) vwCl [(cO, .object RX4), (cI, .int)] s := hK
    have hw_r_19 := hw
    refine lv_aload_n hx hb dX1_writeUppermost_55 rfl (lv_at hl 2 rfl) ?_
    refine va_get (D := (dC, dI)) (ci := 1) (v := .ref hp) (C := RX1) (T := TX1) (N := 9) hx hb hts k_1 hown hK hP 4 rfl rfl 2 (by decide) k_2 (fun _ h9 => h9) rfl dX1_writeUppermost_56 ?_
    refine lv_aload_n hx hb dX1_writeUppermost_59 rfl (lv_at hl 2 rfl) ?_
    refine va_get (D := (dC, dI)) (ci := 1) (v := .ref mt) (C := RX1) (T := TX1) (N := 9) hx hb hts k_1 hown hK hP 4 rfl rfl 7 (by decide) k_5 (fun _ h9 => h9) rfl dX1_writeUppermost_60 ?_
    refine lv_iconst (v := 0) hx hb dX1_writeUppermost_63 (by decide) ?_
    have hPc := hP.part (cx := [(hp, .inr (5, [.int (nI pm2_4), .long fr2_5, .long wk2_6, .int nr2_8, .ref pd, .ref pt, .ref pb, .long fe2_7])), (pd, .inl (cO, 25, .inr (.inr (.inr (.inr fd))))), (pt, .inl (cI, 25, .inl ft2_9))]) [6, 7, 8] rfl
    have hDc := hD.part (cx := [(hp, .inr (5, [.int (nI pm2_4), .long fr2_5, .long wk2_6, .int nr2_8, .ref pd, .ref pt, .ref pb, .long fe2_7])), (pd, .inl (cO, 25, .inr (.inr (.inr (.inr fd))))), (pt, .inl (cI, 25, .inl ft2_9))]) [6, 7, 8] (by decide) rfl
    have hFc := va_freeP (cx := [(hp, .inr (5, [.int (nI pm2_4), .long fr2_5, .long wk2_6, .int nr2_8, .ref pd, .ref pt, .ref pb, .long fe2_7])), (pd, .inl (cO, 25, .inr (.inr (.inr (.inr fd))))), (pt, .inl (cI, 25, .inl ft2_9))]) hD hS hA [6, 7, 8] rfl
    have hKc := hK.sub (tys' := [(cO, .object RX4), (cI, .int)]) [0, 1] rfl
    refine va_calli (va_runV (As := [.ref mt, .int 0]) (rest := [.int r_19, .int 1, .ref ab]) ⟨hx, hb, hml, hown, hts⟩ (c_X5_write l dC dI H.size hp pd pt pb fr2_5 wk2_6 fe2_7 nr2_8 pm2_4 mt 0 cO fd ft2_9 G Pg cI S_18 (by first | assumption | omega | decide) (by first | assumption | omega | decide) (by first | assumption | omega | decide) (by first | assumption | omega | decide) (by first | assumption | omega | decide) (by first | assumption | omega | decide) (by first | assumption | omega | decide)) (cwV 2 hts g_X1_writeUppermost_X5_write rfl rfl rfl (by decide +kernel) ⟨Nat.le_of_ble_eq_true rfl, Nat.le_of_ble_eq_true rfl⟩) ⟨fun a U g mk q => by obtain ⟨q0, q1, qP, qK, qD, qX0, qX1⟩ := q; exact ⟨q0, q1, qP, va_K.moved (u := U) (U := U.calling g mk a) (Vm.Alike.refl U.vm) qK, qD, va_Nw.same (u := U) (U := U.calling g mk a) rfl rfl qX0, va_Nw.same (u := U) (U := U.calling g mk a) rfl rfl qX1⟩, va_recv hKc hPc (ci := 5) (q0 := 0) rfl rfl, fun U hU hW => ⟨rfl, by rw [hU], by rw [hU]; exact hPc, va_K.moved hW.alike hKc, hDc.weaken (fun _ _ _ _ => trivial), va_Nw.warmM hW hNX5_46, va_Nw.warmM hW hNX5_54⟩⟩ rfl rfl hl.1 rfl (lv_room (Nat.le_of_ble_eq_true rfl)) dX1_writeUppermost_64 ⟨(show 0 + 0 ≤ 0 by omega), (show 0 + 0 ≤ 0 by omega)⟩) hS (fun q _ h => hFc q h) hFc (fun r_20 u t H1 locs ht hvm hw hB hz1 hk1 hS => ?_)
    obtain ⟨pm2_21, fr2_22, wk2_23, fe2_24, nr2_25, ft2_26, S2_27⟩ := u
    obtain ⟨hP1, hK1, hD1⟩ := hB
    rw [ht] at hP1
    have hK1 := va_K.moved hvm.symm hK1
    try dsimp only at hw
    obtain ⟨hP, hD⟩ := va_joinP (wr := [(eb, .inl (cI, 12, .inl fb)), (ep, .inl (cI, 12, .inl fq)), (hf, .inr (2, [.int dp, .ref qp, .ref qe, .ref ql, .int (nI lo), .int (nI le)])), (qp, .inl (cO, b, .inr (.inr (.inr (.inr fp))))), (he, .inr (1, [.ref hm, .ref hf, .ref hp, .ref eb, .ref ep, .int (nI el), .ref nd, .ref mt, .ref ab])), (hm, .inr (3, [.int mk, .int mc]))]) (rx := [(hp, .inr (5, [.int (nI pm2_21), .long fr2_22, .long wk2_23, .int nr2_25, .ref pd, .ref pt, .ref pb, .long fe2_24])), (pd, .inl (cO, 25, .inr (.inr (.inr (.inr fd))))), (pt, .inl (cI, 25, .inl ft2_26))]) (pl1 := pool G cI Pg S2_27) hP hD [6, 7, 8] [0, 1, 2, 3, 4, 5] rfl rfl (by decide) (by decide) hk1 hFc hP1 hD1
    have hK := (hK.sub (tys' := [(cO, .object RX4), (cI, .int)]) [0, 1] rfl).app hK1
    have hK : va_K (dC, dI) vwCl [(cO, .object RX4), (cI, .int)] s := hK.sub [0, 1] rfl
    generalize H1 = H at hP hS ⊢
    have hP : va_P (dC, dI) vwCl ([(eb, .inl (cI, 12, .inl fb)), (ep, .inl (cI, 12, .inl fq)), (hf, .inr (2, [.int dp, .ref qp, .ref qe, .ref ql, .int (nI lo), .int (nI le)])), (qp, .inl (cO, b, .inr (.inr (.inr (.inr fp))))), (he, .inr (1, [.ref hm, .ref hf, .ref hp, .ref eb, .ref ep, .int (nI el), .ref nd, .ref mt, .ref ab])), (hm, .inr (3, [.int mk, .int mc])), (hp, .inr (5, [.int (nI pm2_21), .long fr2_22, .long wk2_23, .int nr2_25, .ref pd, .ref pt, .ref pb, .long fe2_24])), (pd, .inl (cO, 25, .inr (.inr (.inr (.inr fd))))), (pt, .inl (cI, 25, .inl ft2_26))] ++ pool G cI Pg S2_27) H := hP
    have hD : va_D A ([(eb, .inl (cI, 12, .inl fb)), (ep, .inl (cI, 12, .inl fq)), (hf, .inr (2, [.int dp, .ref qp, .ref qe, .ref ql, .int (nI lo), .int (nI le)])), (qp, .inl (cO, b, .inr (.inr (.inr (.inr fp))))), (he, .inr (1, [.ref hm, .ref hf, .ref hp, .ref eb, .ref ep, .int (nI el), .ref nd, .ref mt, .ref ab])), (hm, .inr (3, [.int mk, .int mc])), (hp, .inr (5, [.int (nI pm2_21), .long fr2_22, .long wk2_23, .int nr2_25, .ref pd, .ref pt, .ref pb, .long fe2_24])), (pd, .inl (cO, 25, .inr (.inr (.inr (.inr fd))))), (pt, .inl (cI, 25, .inl ft2_26))] ++ pool G cI Pg S2_27) := hD
    have hK : va_K (dC, dI) vwCl [(cO, .object RX4), (cI, .int)] s := hK
    have hI := hw.1
    have hw_r_20 := hw
    have hz1_ab := (hI ab hm_ab).1
    have hz2_ab := (hI ab hm_ab).2.1
    have hz3_ab := (hI ab hm_ab).2.2
    have hT9 := in1 hm_ab
    have hPc : va_P (dC, dI) vwCl [(ab, .inr (4, [.int (S2_27 ab).1, .int (nI (S2_27 ab).2.1), .ref (G ab).1, .ref (G ab).2.1])), ((G ab).1, .inl (cI, (G ab).2.2.1, .inl (S2_27 ab).2.2.1)), ((G ab).2.1, .inl (cI, (G ab).2.2.1, .inl (S2_27 ab).2.2.2))] H := pool_cut (T := [ab]) (cx := []) hP hT9 [] rfl
    have hDc : va_D A [(ab, .inr (4, [.int (S2_27 ab).1, .int (nI (S2_27 ab).2.1), .ref (G ab).1, .ref (G ab).2.1])), ((G ab).1, .inl (cI, (G ab).2.2.1, .inl (S2_27 ab).2.2.1)), ((G ab).2.1, .inl (cI, (G ab).2.2.1, .inl (S2_27 ab).2.2.2))] := pool_cutD (T := [ab]) (cx := []) hD hT9 (nd1) [] (by decide) rfl
    have hFc : ∀ q, va_A [(ab, .inr (4, [.int (S2_27 ab).1, .int (nI (S2_27 ab).2.1), .ref (G ab).1, .ref (G ab).2.1])), ((G ab).1, .inl (cI, (G ab).2.2.1, .inl (S2_27 ab).2.2.1)), ((G ab).2.1, .inl (cI, (G ab).2.2.1, .inl (S2_27 ab).2.2.2))] (H).size q → A q := pool_free (T := [ab]) (cx := []) hD hS hA hT9 [] rfl
    have hKc := hK.sub (tys' := [(cI, .int), (cI, .int)]) [1, 1] rfl
    refine va_callv (va_runV (As := [.int 1, .int r_19, .int r_20]) (rest := []) ⟨hx, hb, hml, hown, hts⟩ (c_X4_insert_any l dC dI H.size ab (G ab).1 (G ab).2.1 (G ab).2.2.1 (S2_27 ab).2.1 (S2_27 ab).1 cI cI (S2_27 ab).2.2.1 (S2_27 ab).2.2.2 1 r_19 r_20 (by first | assumption | omega | decide) (by first | assumption | omega | decide)) (cwV 3 hts g_X1_writeUppermost_X4_insert_any rfl rfl rfl (by decide +kernel) ⟨Nat.le_of_ble_eq_true rfl, Nat.le_of_ble_eq_true rfl⟩) ⟨fun a U g mk q => by obtain ⟨q0, q1, qP, qK, qD⟩ := q; exact ⟨q0, q1, qP, va_K.moved (u := U) (U := U.calling g mk a) (Vm.Alike.refl U.vm) qK, qD⟩, va_recv hKc hPc (ci := 4) (q0 := 0) rfl rfl, fun U hU hW => ⟨rfl, by rw [hU], by rw [hU]; exact hPc, va_K.moved hW.alike hKc, hDc.weaken (fun _ _ _ _ => trivial)⟩⟩ rfl rfl hl.1 rfl (lv_room (Nat.le_of_ble_eq_true rfl)) dX1_writeUppermost_67 ⟨(show 0 + 0 ≤ 0 by omega), (show 0 + 0 ≤ 0 by omega)⟩) hS (fun q _ h => hFc q h) hFc (fun u t H1 locs ht hvm hw hB hz1 hk1 hS => ?_)
    obtain ⟨m2_29, f2_30, g2_31⟩ := u
    obtain ⟨hP1, hK1, hD1⟩ := hB
    rw [ht] at hP1
    have hK1 := va_K.moved hvm.symm hK1
    try dsimp only at hw
    obtain ⟨hP, hD⟩ := pool_join (S := S2_27) (S1 := (fun _ => ((S2_27 ab).1, m2_29, f2_30, g2_31))) (T := [ab]) (cx := []) (wr := [(eb, .inl (cI, 12, .inl fb)), (ep, .inl (cI, 12, .inl fq)), (hf, .inr (2, [.int dp, .ref qp, .ref qe, .ref ql, .int (nI lo), .int (nI le)])), (qp, .inl (cO, b, .inr (.inr (.inr (.inr fp))))), (he, .inr (1, [.ref hm, .ref hf, .ref hp, .ref eb, .ref ep, .int (nI el), .ref nd, .ref mt, .ref ab])), (hm, .inr (3, [.int mk, .int mc])), (hp, .inr (5, [.int (nI pm2_21), .long fr2_22, .long wk2_23, .int nr2_25, .ref pd, .ref pt, .ref pb, .long fe2_24])), (pd, .inl (cO, 25, .inr (.inr (.inr (.inr fd))))), (pt, .inl (cI, 25, .inl ft2_26))]) (rx := []) hP hD hT9 [] [0, 1, 2, 3, 4, 5, 6, 7, 8] rfl rfl (by decide) (by decide) hk1 hFc hP1 hD1
    obtain ⟨S_32, eS_32⟩ : ∃ x, x = pgJ [ab] (fun _ => ((S2_27 ab).1, m2_29, f2_30, g2_31)) S2_27 := ⟨_, rfl⟩
    rw [← eS_32] at hP hD
    have hK := (hK.sub (tys' := [(cO, .object RX4), (cI, .int)]) [0, 1] rfl).app hK1
    have hK : va_K (dC, dI) vwCl [(cO, .object RX4), (cI, .int)] s := hK.sub [0, 1] rfl
    generalize H1 = H at hP hS ⊢
    have hP : va_P (dC, dI) vwCl ([(eb, .inl (cI, 12, .inl fb)), (ep, .inl (cI, 12, .inl fq)), (hf, .inr (2, [.int dp, .ref qp, .ref qe, .ref ql, .int (nI lo), .int (nI le)])), (qp, .inl (cO, b, .inr (.inr (.inr (.inr fp))))), (he, .inr (1, [.ref hm, .ref hf, .ref hp, .ref eb, .ref ep, .int (nI el), .ref nd, .ref mt, .ref ab])), (hm, .inr (3, [.int mk, .int mc])), (hp, .inr (5, [.int (nI pm2_21), .long fr2_22, .long wk2_23, .int nr2_25, .ref pd, .ref pt, .ref pb, .long fe2_24])), (pd, .inl (cO, 25, .inr (.inr (.inr (.inr fd))))), (pt, .inl (cI, 25, .inl ft2_26))] ++ pool G cI Pg S_32) H := hP
    have hD : va_D A ([(eb, .inl (cI, 12, .inl fb)), (ep, .inl (cI, 12, .inl fq)), (hf, .inr (2, [.int dp, .ref qp, .ref qe, .ref ql, .int (nI lo), .int (nI le)])), (qp, .inl (cO, b, .inr (.inr (.inr (.inr fp))))), (he, .inr (1, [.ref hm, .ref hf, .ref hp, .ref eb, .ref ep, .int (nI el), .ref nd, .ref mt, .ref ab])), (hm, .inr (3, [.int mk, .int mc])), (hp, .inr (5, [.int (nI pm2_21), .long fr2_22, .long wk2_23, .int nr2_25, .ref pd, .ref pt, .ref pb, .long fe2_24])), (pd, .inl (cO, 25, .inr (.inr (.inr (.inr fd))))), (pt, .inl (cI, 25, .inl ft2_26))] ++ pool G cI Pg S_32) := hD
    have hK : va_K (dC, dI) vwCl [(cO, .object RX4), (cI, .int)] s := hK
    have hI : pgI G Pg S_32 := by rw [eS_32]; exact pgI_1 hI (by first | assumption | exact Or.inl rfl | exact Or.inr rfl | exact hw.2.1 | exact hw.1) (by first | assumption | omega)
    have hw_r_28 := hw
    refine lv_aload_n hx hb dX1_writeUppermost_70 rfl (lv_at hl 2 rfl) ?_
    refine va_get (D := (dC, dI)) (ci := 1) (v := .ref hp) (C := RX1) (T := TX1) (N := 9) hx hb hts k_1 hown hK hP 4 rfl rfl 2 (by decide) k_2 (fun _ h9 => h9) rfl dX1_writeUppermost_71 ?_
    refine lv_aload_n hx hb dX1_writeUppermost_74 rfl (lv_at hl 2 rfl) ?_
    refine va_get (D := (dC, dI)) (ci := 1) (v := .ref ab) (C := RX1) (T := TX1) (N := 9) hx hb hts k_1 hown hK hP 4 rfl rfl 8 (by decide) k_4 (fun _ h9 => h9) rfl dX1_writeUppermost_75 ?_
    refine lv_iconst (v := 0) hx hb dX1_writeUppermost_78 (by decide) ?_
    have hPc := hP.part (cx := [(hp, .inr (5, [.int (nI pm2_21), .long fr2_22, .long wk2_23, .int nr2_25, .ref pd, .ref pt, .ref pb, .long fe2_24])), (pd, .inl (cO, 25, .inr (.inr (.inr (.inr fd))))), (pt, .inl (cI, 25, .inl ft2_26))]) [6, 7, 8] rfl
    have hDc := hD.part (cx := [(hp, .inr (5, [.int (nI pm2_21), .long fr2_22, .long wk2_23, .int nr2_25, .ref pd, .ref pt, .ref pb, .long fe2_24])), (pd, .inl (cO, 25, .inr (.inr (.inr (.inr fd))))), (pt, .inl (cI, 25, .inl ft2_26))]) [6, 7, 8] (by decide) rfl
    have hFc := va_freeP (cx := [(hp, .inr (5, [.int (nI pm2_21), .long fr2_22, .long wk2_23, .int nr2_25, .ref pd, .ref pt, .ref pb, .long fe2_24])), (pd, .inl (cO, 25, .inr (.inr (.inr (.inr fd))))), (pt, .inl (cI, 25, .inl ft2_26))]) hD hS hA [6, 7, 8] rfl
    have hKc := hK.sub (tys' := [(cO, .object RX4), (cI, .int)]) [0, 1] rfl
    refine va_calli (va_runV (As := [.ref ab, .int 0]) (rest := []) ⟨hx, hb, hml, hown, hts⟩ (c_X5_write l dC dI H.size hp pd pt pb fr2_22 wk2_23 fe2_24 nr2_25 pm2_21 ab 0 cO fd ft2_26 G Pg cI S_32 (by first | assumption | omega | decide) (by first | assumption | omega | decide) (by first | assumption | omega | decide) (by first | assumption | omega | decide) (by first | assumption | omega | decide) (by first | assumption | omega | decide) (by first | assumption | omega | decide)) (cwV 2 hts g_X1_writeUppermost_X5_write rfl rfl rfl (by decide +kernel) ⟨Nat.le_of_ble_eq_true rfl, Nat.le_of_ble_eq_true rfl⟩) ⟨fun a U g mk q => by obtain ⟨q0, q1, qP, qK, qD, qX0, qX1⟩ := q; exact ⟨q0, q1, qP, va_K.moved (u := U) (U := U.calling g mk a) (Vm.Alike.refl U.vm) qK, qD, va_Nw.same (u := U) (U := U.calling g mk a) rfl rfl qX0, va_Nw.same (u := U) (U := U.calling g mk a) rfl rfl qX1⟩, va_recv hKc hPc (ci := 5) (q0 := 0) rfl rfl, fun U hU hW => ⟨rfl, by rw [hU], by rw [hU]; exact hPc, va_K.moved hW.alike hKc, hDc.weaken (fun _ _ _ _ => trivial), va_Nw.warmM hW hNX5_46, va_Nw.warmM hW hNX5_54⟩⟩ rfl rfl hl.1 rfl (lv_room (Nat.le_of_ble_eq_true rfl)) dX1_writeUppermost_79 ⟨(show 0 + 0 ≤ 0 by omega), (show 0 + 0 ≤ 0 by omega)⟩) hS (fun q _ h => hFc q h) hFc (fun r_33 u t H1 locs ht hvm hw hB hz1 hk1 hS => ?_)
    obtain ⟨pm2_34, fr2_35, wk2_36, fe2_37, nr2_38, ft2_39, S2_40⟩ := u
    obtain ⟨hP1, hK1, hD1⟩ := hB
    rw [ht] at hP1
    have hK1 := va_K.moved hvm.symm hK1
    try dsimp only at hw
    obtain ⟨hP, hD⟩ := va_joinP (wr := [(eb, .inl (cI, 12, .inl fb)), (ep, .inl (cI, 12, .inl fq)), (hf, .inr (2, [.int dp, .ref qp, .ref qe, .ref ql, .int (nI lo), .int (nI le)])), (qp, .inl (cO, b, .inr (.inr (.inr (.inr fp))))), (he, .inr (1, [.ref hm, .ref hf, .ref hp, .ref eb, .ref ep, .int (nI el), .ref nd, .ref mt, .ref ab])), (hm, .inr (3, [.int mk, .int mc]))]) (rx := [(hp, .inr (5, [.int (nI pm2_34), .long fr2_35, .long wk2_36, .int nr2_38, .ref pd, .ref pt, .ref pb, .long fe2_37])), (pd, .inl (cO, 25, .inr (.inr (.inr (.inr fd))))), (pt, .inl (cI, 25, .inl ft2_39))]) (pl1 := pool G cI Pg S2_40) hP hD [6, 7, 8] [0, 1, 2, 3, 4, 5] rfl rfl (by decide) (by decide) hk1 hFc hP1 hD1
    have hK := (hK.sub (tys' := [(cO, .object RX4), (cI, .int)]) [0, 1] rfl).app hK1
    have hK : va_K (dC, dI) vwCl [(cO, .object RX4), (cI, .int)] s := hK.sub [0, 1] rfl
    generalize H1 = H at hP hS ⊢
    have hP : va_P (dC, dI) vwCl ([(eb, .inl (cI, 12, .inl fb)), (ep, .inl (cI, 12, .inl fq)), (hf, .inr (2, [.int dp, .ref qp, .ref qe, .ref ql, .int (nI lo), .int (nI le)])), (qp, .inl (cO, b, .inr (.inr (.inr (.inr fp))))), (he, .inr (1, [.ref hm, .ref hf, .ref hp, .ref eb, .ref ep, .int (nI el), .ref nd, .ref mt, .ref ab])), (hm, .inr (3, [.int mk, .int mc])), (hp, .inr (5, [.int (nI pm2_34), .long fr2_35, .long wk2_36, .int nr2_38, .ref pd, .ref pt, .ref pb, .long fe2_37])), (pd, .inl (cO, 25, .inr (.inr (.inr (.inr fd))))), (pt, .inl (cI, 25, .inl ft2_39))] ++ pool G cI Pg S2_40) H := hP
    have hD : va_D A ([(eb, .inl (cI, 12, .inl fb)), (ep, .inl (cI, 12, .inl fq)), (hf, .inr (2, [.int dp, .ref qp, .ref qe, .ref ql, .int (nI lo), .int (nI le)])), (qp, .inl (cO, b, .inr (.inr (.inr (.inr fp))))), (he, .inr (1, [.ref hm, .ref hf, .ref hp, .ref eb, .ref ep, .int (nI el), .ref nd, .ref mt, .ref ab])), (hm, .inr (3, [.int mk, .int mc])), (hp, .inr (5, [.int (nI pm2_34), .long fr2_35, .long wk2_36, .int nr2_38, .ref pd, .ref pt, .ref pb, .long fe2_37])), (pd, .inl (cO, 25, .inr (.inr (.inr (.inr fd))))), (pt, .inl (cI, 25, .inl ft2_39))] ++ pool G cI Pg S2_40) := hD
    have hK : va_K (dC, dI) vwCl [(cO, .object RX4), (cI, .int)] s := hK
    have hI := hw.1
    have hw_r_33 := hw
    have hP9 := hP.part (cx := [(he, .inr (1, [.ref hm, .ref hf, .ref hp, .ref eb, .ref ep, .int (nI el), .ref nd, .ref mt, .ref ab])), (eb, .inl (cI, 12, .inl fb)), (ep, .inl (cI, 12, .inl fq)), (hm, .inr (3, [.int mk, .int mc])), (hf, .inr (2, [.int dp, .ref qp, .ref qe, .ref ql, .int (nI lo), .int (nI le)])), (qp, .inl (cO, b, .inr (.inr (.inr (.inr fp))))), (hp, .inr (5, [.int (nI pm2_34), .long fr2_35, .long wk2_36, .int nr2_38, .ref pd, .ref pt, .ref pb, .long fe2_37])), (pd, .inl (cO, 25, .inr (.inr (.inr (.inr fd))))), (pt, .inl (cI, 25, .inl ft2_39))]) [4, 0, 1, 5, 2, 3, 6, 7, 8] rfl
    have hD9 := hD.part (cx := [(he, .inr (1, [.ref hm, .ref hf, .ref hp, .ref eb, .ref ep, .int (nI el), .ref nd, .ref mt, .ref ab])), (eb, .inl (cI, 12, .inl fb)), (ep, .inl (cI, 12, .inl fq)), (hm, .inr (3, [.int mk, .int mc])), (hf, .inr (2, [.int dp, .ref qp, .ref qe, .ref ql, .int (nI lo), .int (nI le)])), (qp, .inl (cO, b, .inr (.inr (.inr (.inr fp))))), (hp, .inr (5, [.int (nI pm2_34), .long fr2_35, .long wk2_36, .int nr2_38, .ref pd, .ref pt, .ref pb, .long fe2_37])), (pd, .inl (cO, 25, .inr (.inr (.inr (.inr fd))))), (pt, .inl (cI, 25, .inl ft2_39))]) [4, 0, 1, 5, 2, 3, 6, 7, 8] (by decide) rfl
    have hK9 := hK.sub (tys' := [(cO, .object RX4), (cI, .int)]) [0, 1] rfl
    exact W.iret (v := r_33) hx hb hr (fun t ht hW => ⟨⟨r_33, (pm2_34, fr2_35, wk2_36, fe2_37, nr2_38, ft2_39, S2_40), rfl, ⟨hI, by omega⟩, by rw [ht]; exact hP9, va_K.moved hW.alike hK9, hD9⟩, hS.F ht⟩) hS.2.2 dX1_writeUppermost_82
  · refine lv_iload_n hx hb dX1_writeUppermost_22 rfl (lv_at hl 0 rfl) ?_
    have hP9 := hP.part (cx := [(he, .inr (1, [.ref hm, .ref hf, .ref hp, .ref eb, .ref ep, .int (nI el), .ref nd, .ref mt, .ref ab])), (eb, .inl (cI, 12, .inl fb)), (ep, .inl (cI, 12, .inl fq)), (hm, .inr (3, [.int mk, .int mc])), (hf, .inr (2, [.int dp, .ref qp, .ref qe, .ref ql, .int (nI lo), .int (nI le)])), (qp, .inl (cO, b, .inr (.inr (.inr (.inr fp))))), (hp, .inr (5, [.int (nI pm2_4), .long fr2_5, .long wk2_6, .int nr2_8, .ref pd, .ref pt, .ref pb, .long fe2_7])), (pd, .inl (cO, 25, .inr (.inr (.inr (.inr fd))))), (pt, .inl (cI, 25, .inl ft2_9))]) [4, 0, 1, 5, 2, 3, 6, 7, 8] rfl
    have hD9 := hD.part (cx := [(he, .inr (1, [.ref hm, .ref hf, .ref hp, .ref eb, .ref ep, .int (nI el), .ref nd, .ref mt, .ref ab])), (eb, .inl (cI, 12, .inl fb)), (ep, .inl (cI, 12, .inl fq)), (hm, .inr (3, [.int mk, .int mc])), (hf, .inr (2, [.int dp, .ref qp, .ref qe, .ref ql, .int (nI lo), .int (nI le)])), (qp, .inl (cO, b, .inr (.inr (.inr (.inr fp))))), (hp, .inr (5, [.int (nI pm2_4), .long fr2_5, .long wk2_6, .int nr2_8, .ref pd, .ref pt, .ref pb, .long fe2_7])), (pd, .inl (cO, 25, .inr (.inr (.inr (.inr fd))))), (pt, .inl (cI, 25, .inl ft2_9))]) [4, 0, 1, 5, 2, 3, 6, 7, 8] (by decide) rfl
    have hK9 := hK.sub (tys' := [(cO, .object RX4), (cI, .int)]) [0, 1] rfl
    exact W.iret (v := r_3) hx hb hr (fun t ht hW => ⟨⟨r_3, (pm2_4, fr2_5, wk2_6, fe2_7, nr2_8, ft2_9, S2_10), rfl, ⟨hI, by omega⟩, by rw [ht]; exact hP9, va_K.moved hW.alike hK9, hD9⟩, hS.F ht⟩) hS.2.2 dX1_writeUppermost_23
def v_X1_mend : List Cond := .code yX1_mend cX1_mend 6 none :: ([.code Lib.Math.max.name Lib.Math.max.code 2 (some .int), .methodLink RX1 135 Lib.Math.max.name, .static Lib.Math.max.name, .initialized "java/lang/Math", .fieldLink RX1 42 "TwinRoots$Editor" "above" "LTwinRoots$Page;", .code yX4_refAt cX4_refAt 2 (some .int), .fieldLink RX4 22 "TwinRoots$Page" "many" "I", .fieldLink RX4 19 "TwinRoots$Page" "refs" "[I", .methodLink RX1 141 yX4_refAt, .instanceMethod yX4_refAt, .selects RX4 yX4_refAt yX4_refAt, .initialized RX4, .fieldLink RX1 39 "TwinRoots$Editor" "mate" "LTwinRoots$Page;", .fieldLink RX1 110 "TwinRoots$Page" "leaf" "Z", .fieldLink RX1 35 "TwinRoots$Editor" "node" "LTwinRoots$Page;", .code yX4_append cX4_append 4 none, .fieldLink RX4 15 "TwinRoots$Page" "keys" "[I", .code yX4_keyAt cX4_keyAt 2 (some .int), .methodLink RX4 34 yX4_keyAt, .instanceMethod yX4_keyAt, .selects RX4 yX4_keyAt yX4_keyAt, .methodLink RX4 38 yX4_refAt, .methodLink RX1 147 yX4_append, .instanceMethod yX4_append, .selects RX4 yX4_append yX4_append, .code yX1_partIfTooMany cX1_partIfTooMany 1 (some .boolean), .fieldLink RX1 107 "TwinRoots$Page" "many" "I", .fieldLink RX1 9 "TwinRoots$Editor" "limits" "LTwinRoots$Limits;", .code yX3_most cX3_most 2 (some .int), .fieldLink RX3 13 "TwinRoots$Limits" "mostChildren" "I", .fieldLink RX3 7 "TwinRoots$Limits" "mostKeys" "I", .methodLink RX1 114 yX3_most, .instanceMethod yX3_most, .selects RX3 yX3_most yX3_most, .initialized RX3, .code yX4_partInto cX4_partInto 3 none, .fieldLink RX4 9 "TwinRoots$Page" "leaf" "Z", .code yX4_clear cX4_clear 2 none, .methodLink RX4 26 yX4_clear, .instanceMethod yX4_clear, .selects RX4 yX4_clear yX4_clear, .methodLink RX4 30 yX4_append, .methodLink RX1 120 yX4_partInto, .instanceMethod yX4_partInto, .selects RX4 yX4_partInto yX4_partInto, .methodLink RX1 90 yX1_partIfTooMany, .instanceMethod yX1_partIfTooMany, .selects RX1 yX1_partIfTooMany yX1_partIfTooMany, .initialized RX1, .fieldLink RX1 19 "TwinRoots$Editor" "plan" "LTwinRoots$Plan;", .code yX5_write cX5_write 4 (some .int), .fieldLink RX5 40 "TwinRoots$Plan" "fresh" "J", .code yX8_holds cX8_holds 3 (some .boolean), .code yX8_bit cX8_bit 1 (some .long), .methodLink RX8 227 yX8_bit, .static yX8_bit, .initialized RX8, .static yX8_holds, .code yX5_takeLeast cX5_takeLeast 2 (some .int), .fieldLink RX5 32 "TwinRoots$Plan" "noRoom" "Z", .fieldLink RX5 36 "TwinRoots$Plan" "free" "J", .constantLong RX5 58 (-1), .methodLink RX5 50 yX5_takeLeast, .instanceMethod yX5_takeLeast, .selects RX5 yX5_takeLeast yX5_takeLeast, .initialized RX5, .fieldLink RX5 43 "TwinRoots$Plan" "work" "J", .fieldLink RX5 28 "TwinRoots$Plan" "many" "I", .fieldLink RX5 11 "TwinRoots$Plan" "drafts" "[LTwinRoots$Page;", .fieldLink RX5 20 "TwinRoots$Plan" "targets" "[I", .code yX4_copy cX4_copy 2 none, .methodLink RX5 60 yX4_copy, .instanceMethod yX4_copy, .selects RX4 yX4_copy yX4_copy, .methodLink RX1 94 yX5_write, .instanceMethod yX5_write, .selects RX5 yX5_write yX5_write, .code yX4_setRef cX4_setRef 3 none, .methodLink RX1 74 yX4_setRef, .instanceMethod yX4_setRef, .selects RX4 yX4_setRef yX4_setRef, .code yX4_takeOut cX4_takeOut 3 none, .code yX4_setKey cX4_setKey 3 none, .methodLink RX4 41 yX4_setKey, .instanceMethod yX4_setKey, .selects RX4 yX4_setKey yX4_setKey, .methodLink RX4 45 yX4_setRef, .methodLink RX1 123 yX4_takeOut, .instanceMethod yX4_takeOut, .selects RX4 yX4_takeOut yX4_takeOut, .code yX5_drop cX5_drop 2 none, .methodLink RX1 151 yX5_drop, .instanceMethod yX5_drop, .selects RX5 yX5_drop yX5_drop, .methodLink RX1 100 yX4_keyAt, .methodLink RX1 144 yX4_setKey, .fieldLink RX1 15 "TwinRoots$Editor" "forest" "LTwinRoots$Forest;", .code yX2_page cX2_page 2 (some (.object "TwinRoots$Page")), .fieldLink RX2 20 "TwinRoots$Forest" "empty" "LTwinRoots$Page;", .fieldLink RX2 11 "TwinRoots$Forest" "pages" "[LTwinRoots$Page;", .methodLink RX1 57 yX2_page, .instanceMethod yX2_page, .selects RX2 yX2_page yX2_page, .initialized RX2, .methodLink RX1 63 yX4_copy] ++ (wsX10 ++ (wsX40 ++ (wsX30 ++ (wsX50 ++ (wsX20 ++ ([])))))))
set_option maxRecDepth 20000 in
theorem g_X1_mend_X4_refAt : GoodIn v_X1_mend (wsV RX1 141 RX4 yX4_refAt v_X4_refAt) := goodIn_r _ [9, 10, 11, 12, 6, 7, 8, 115, 116, 117, 118] (by decide +kernel) (by decide +kernel)
set_option maxRecDepth 20000 in
theorem g_X1_mend_X4_append : GoodIn v_X1_mend (wsV RX1 147 RX4 yX4_append v_X4_append) := goodIn_r _ [23, 24, 25, 12, 16, 7, 17, 8, 18, 19, 20, 21, 12, 6, 22, 10, 11, 115, 116, 117, 118] (by decide +kernel) (by decide +kernel)
set_option maxRecDepth 20000 in
theorem g_X1_mend_X1_partIfTooMany : GoodIn v_X1_mend (wsV RX1 90 RX1 yX1_partIfTooMany v_X1_partIfTooMany) := goodIn_r _ [46, 47, 48, 49, 26, 15, 27, 28, 14, 29, 30, 31, 32, 33, 34, 35, 13, 36, 7, 37, 38, 39, 40, 41, 12, 16, 17, 8, 18, 19, 20, 21, 6, 22, 10, 11, 42, 24, 25, 43, 44, 45, 106, 107, 108, 109, 110, 111, 112, 113, 114, 115, 116, 117, 118, 119, 120] (by decide +kernel) (by decide +kernel)
set_option maxRecDepth 20000 in
theorem g_X1_mend_X5_write : GoodIn v_X1_mend (wsV RX1 94 RX5 yX5_write v_X5_write) := goodIn_r _ [75, 76, 77, 66, 51, 52, 53, 54, 55, 56, 57, 58, 59, 60, 61, 62, 63, 64, 65, 66, 67, 68, 69, 70, 71, 37, 38, 7, 39, 40, 41, 12, 16, 17, 8, 18, 19, 20, 21, 6, 22, 10, 11, 42, 24, 25, 72, 73, 74, 121, 122, 123, 124, 125, 126, 127, 128, 115, 116, 117, 118] (by decide +kernel) (by decide +kernel)
set_option maxRecDepth 20000 in
theorem g_X1_mend_X4_setRef : GoodIn v_X1_mend (wsV RX1 74 RX4 yX4_setRef v_X4_setRef) := goodIn_r _ [79, 80, 81, 12, 78, 7, 8, 115, 116, 117, 118] (by decide +kernel) (by decide +kernel)
set_option maxRecDepth 20000 in
theorem g_X1_mend_X4_takeOut_any : GoodIn v_X1_mend (wsV RX1 123 RX4 yX4_takeOut v_X4_takeOut_any) := goodIn_r _ [88, 89, 90, 12, 82, 7, 18, 17, 19, 20, 21, 12, 83, 84, 85, 86, 6, 8, 22, 10, 11, 78, 87, 80, 81, 115, 116, 117, 118] (by decide +kernel) (by decide +kernel)
set_option maxRecDepth 20000 in
theorem g_X1_mend_X5_drop : GoodIn v_X1_mend (wsV RX1 151 RX5 yX5_drop v_X5_drop) := goodIn_r _ [92, 93, 94, 66, 91, 67, 54, 57, 56, 62, 121, 122, 123, 124, 125, 126, 127, 128] (by decide +kernel) (by decide +kernel)
set_option maxRecDepth 20000 in
theorem g_X1_mend_X4_keyAt : GoodIn v_X1_mend (wsV RX1 100 RX4 yX4_keyAt v_X4_keyAt) := goodIn_r _ [95, 20, 21, 12, 18, 7, 17, 115, 116, 117, 118] (by decide +kernel) (by decide +kernel)
set_option maxRecDepth 20000 in
theorem g_X1_mend_X4_setKey : GoodIn v_X1_mend (wsV RX1 144 RX4 yX4_setKey v_X4_setKey) := goodIn_r _ [96, 85, 86, 12, 83, 7, 17, 115, 116, 117, 118] (by decide +kernel) (by decide +kernel)
set_option maxRecDepth 20000 in
theorem g_X1_mend_X2_page : GoodIn v_X1_mend (wsV RX1 57 RX2 yX2_page v_X2_page) := goodIn_r _ [101, 102, 103, 104, 98, 99, 100, 129, 130, 131, 132, 133, 134] (by decide +kernel) (by decide +kernel)
set_option maxRecDepth 20000 in
theorem g_X1_mend_X4_copy : GoodIn v_X1_mend (wsV RX1 63 RX4 yX4_copy v_X4_copy) := goodIn_r _ [105, 73, 74, 12, 71, 37, 38, 7, 39, 40, 41, 12, 16, 17, 8, 18, 19, 20, 21, 6, 22, 10, 11, 42, 24, 25, 115, 116, 117, 118] (by decide +kernel) (by decide +kernel)
set_option maxHeartbeats 4000000 in
set_option maxRecDepth 100000 in
/-- mend -/
theorem c_X1_mend (l : Launch) (dC : Nat → ClassId) (dI : Nat → Nat → Nat) (sz : Nat) (he : Nat) (hm : Nat) (hf : Nat) (hp : Nat) (eb : Nat) (ep : Nat) (nd : Nat) (mt : Nat) (ab : Nat) (el : Nat) (pm : Nat) (pd : Nat) (pt : Nat) (pb : Nat) (mk : Int32) (mc : Int32) (nr : Int32) (fr : Int64) (wk : Int64) (fe : Int64) (fb : Nat → Int32) (fq : Nat → Int32) (ft : Nat → Int32) (qp : Nat) (qe : Nat) (ql : Nat) (b : Nat) (lo : Nat) (le : Nat) (dp : Int32) (cO : ClassId) (fp : Nat → Option Nat) (fd : Nat → Option Nat) (G : pgG) (Pg : List Nat) (cI : ClassId) (S : pgS) (p0 : Int32) (zb : b ≤ 64) (hI : pgI G Pg S) (hpg : ∀ i, i < b → ∃ a, a ∈ Pg ∧ (G a).2.2.2 = 0 ∧ fp i = some a) (hm_qe : qe ∈ Pg) (ht_qe : (G qe).2.2.2 = 0) (zpm : pm ≤ 25) (hdr : ∀ i, i < 25 → ∃ a, a ∈ Pg ∧ (G a).2.2.2 = 1 ∧ fd i = some a) (hm_pb : pb ∈ Pg) (ht_pb : (G pb).2.2.2 = 1) (hm_nd : nd ∈ Pg) (ht_nd : (G nd).2.2.2 = 2) (hm_mt : mt ∈ Pg) (ht_mt : (G mt).2.2.2 = 3) (hm_ab : ab ∈ Pg) (ht_ab : (G ab).2.2.2 = 4) : Met l yX1_mend v_X1_mend ({ frames := 4, cells := 0, slots := 0, locals := 88 } : Room) (va_Pc [.ref he, .int p0] (fun U => U.heap.size = sz ∧ va_P (dC, dI) vwCl ([(he, .inr (1, [.ref hm, .ref hf, .ref hp, .ref eb, .ref ep, .int (nI el), .ref nd, .ref mt, .ref ab])), (eb, .inl (cI, 12, .inl fb)), (ep, .inl (cI, 12, .inl fq)), (hm, .inr (3, [.int mk, .int mc])), (hf, .inr (2, [.int dp, .ref qp, .ref qe, .ref ql, .int (nI lo), .int (nI le)])), (qp, .inl (cO, b, .inr (.inr (.inr (.inr fp))))), (hp, .inr (5, [.int (nI pm), .long fr, .long wk, .int nr, .ref pd, .ref pt, .ref pb, .long fe])), (pd, .inl (cO, 25, .inr (.inr (.inr (.inr fd))))), (pt, .inl (cI, 25, .inl ft))] ++ pool G cI Pg S) U.heap ∧ va_K (dC, dI) vwCl [(cO, .object RX4), (cI, .int)] U ∧ va_D (fun _ => True) ([(he, .inr (1, [.ref hm, .ref hf, .ref hp, .ref eb, .ref ep, .int (nI el), .ref nd, .ref mt, .ref ab])), (eb, .inl (cI, 12, .inl fb)), (ep, .inl (cI, 12, .inl fq)), (hm, .inr (3, [.int mk, .int mc])), (hf, .inr (2, [.int dp, .ref qp, .ref qe, .ref ql, .int (nI lo), .int (nI le)])), (qp, .inl (cO, b, .inr (.inr (.inr (.inr fp))))), (hp, .inr (5, [.int (nI pm), .long fr, .long wk, .int nr, .ref pd, .ref pt, .ref pb, .long fe])), (pd, .inl (cO, 25, .inr (.inr (.inr (.inr fd))))), (pt, .inl (cI, 25, .inl ft))] ++ pool G cI Pg S) ∧ va_Nw (.methodLinkNest RX5 46 yX8_holds "TwinRoots") U ∧ va_Nw (.methodLinkNest RX5 54 yX8_bit "TwinRoots") U)) (va_Qv (fun (u : Nat × Int64 × Int64 × Int64 × Int32 × (Nat → Int32) × pgS) => match u with | (pm2, fr2, wk2, fe2, nr2, ft2, S2) => pgI G Pg S2 ∧ pm2 ≤ 25) (fun (u : Nat × Int64 × Int64 × Int64 × Int32 × (Nat → Int32) × pgS) (t : State) => match u with | (pm2, fr2, wk2, fe2, nr2, ft2, S2) => va_P (dC, dI) vwCl ([(he, .inr (1, [.ref hm, .ref hf, .ref hp, .ref eb, .ref ep, .int (nI el), .ref nd, .ref mt, .ref ab])), (eb, .inl (cI, 12, .inl fb)), (ep, .inl (cI, 12, .inl fq)), (hm, .inr (3, [.int mk, .int mc])), (hf, .inr (2, [.int dp, .ref qp, .ref qe, .ref ql, .int (nI lo), .int (nI le)])), (qp, .inl (cO, b, .inr (.inr (.inr (.inr fp))))), (hp, .inr (5, [.int (nI pm2), .long fr2, .long wk2, .int nr2, .ref pd, .ref pt, .ref pb, .long fe2])), (pd, .inl (cO, 25, .inr (.inr (.inr (.inr fd))))), (pt, .inl (cI, 25, .inl ft2))] ++ pool G cI Pg S2) t.heap ∧ va_K (dC, dI) vwCl [(cO, .object RX4), (cI, .int)] t ∧ va_D (va_A ([(he, .inr (1, [.ref hm, .ref hf, .ref hp, .ref eb, .ref ep, .int (nI el), .ref nd, .ref mt, .ref ab])), (eb, .inl (cI, 12, .inl fb)), (ep, .inl (cI, 12, .inl fq)), (hm, .inr (3, [.int mk, .int mc])), (hf, .inr (2, [.int dp, .ref qp, .ref qe, .ref ql, .int (nI lo), .int (nI le)])), (qp, .inl (cO, b, .inr (.inr (.inr (.inr fp))))), (hp, .inr (5, [.int (nI pm), .long fr, .long wk, .int nr, .ref pd, .ref pt, .ref pb, .long fe])), (pd, .inl (cO, 25, .inr (.inr (.inr (.inr fd))))), (pt, .inl (cI, 25, .inl ft))] ++ pool G cI Pg S) sz) ([(he, .inr (1, [.ref hm, .ref hf, .ref hp, .ref eb, .ref ep, .int (nI el), .ref nd, .ref mt, .ref ab])), (eb, .inl (cI, 12, .inl fb)), (ep, .inl (cI, 12, .inl fq)), (hm, .inr (3, [.int mk, .int mc])), (hf, .inr (2, [.int dp, .ref qp, .ref qe, .ref ql, .int (nI lo), .int (nI le)])), (qp, .inl (cO, b, .inr (.inr (.inr (.inr fp))))), (hp, .inr (5, [.int (nI pm2), .long fr2, .long wk2, .int nr2, .ref pd, .ref pt, .ref pb, .long fe2])), (pd, .inl (cO, 25, .inr (.inr (.inr (.inr fd))))), (pt, .inl (cI, 25, .inl ft2))] ++ pool G cI Pg S2)) (va_A ([(he, .inr (1, [.ref hm, .ref hf, .ref hp, .ref eb, .ref ep, .int (nI el), .ref nd, .ref mt, .ref ab])), (eb, .inl (cI, 12, .inl fb)), (ep, .inl (cI, 12, .inl fq)), (hm, .inr (3, [.int mk, .int mc])), (hf, .inr (2, [.int dp, .ref qp, .ref qe, .ref ql, .int (nI lo), .int (nI le)])), (qp, .inl (cO, b, .inr (.inr (.inr (.inr fp))))), (hp, .inr (5, [.int (nI pm), .long fr, .long wk, .int nr, .ref pd, .ref pt, .ref pb, .long fe])), (pd, .inl (cO, 25, .inr (.inr (.inr (.inr fd))))), (pt, .inl (cI, 25, .inl ft))] ++ pool G cI Pg S) sz)) 0 0 (va_A ([(he, .inr (1, [.ref hm, .ref hf, .ref hp, .ref eb, .ref ep, .int (nI el), .ref nd, .ref mt, .ref ab])), (eb, .inl (cI, 12, .inl fb)), (ep, .inl (cI, 12, .inl fq)), (hm, .inr (3, [.int mk, .int mc])), (hf, .inr (2, [.int dp, .ref qp, .ref qe, .ref ql, .int (nI lo), .int (nI le)])), (qp, .inl (cO, b, .inr (.inr (.inr (.inr fp))))), (hp, .inr (5, [.int (nI pm), .long fr, .long wk, .int nr, .ref pd, .ref pt, .ref pb, .long fe])), (pd, .inl (cO, 25, .inr (.inr (.inr (.inr fd))))), (pt, .inl (cI, 25, .inl ft))] ++ pool G cI Pg S) sz) := by
  refine Met.ofW (cc := cX1_mend) (maxL := 6) (ret := none) (by decide) rfl ?_
  intro p e s m args below meth c s₁ B hml hv
  obtain ⟨rfl, hsz, hP, hK, hD0, hNX5_46, hNX5_54⟩ := hv
  have hx := B.exec
  have hb := B.bytes
  have hr := B.returns
  have hts := atoms_spec (ws := v_X1_mend) B.pre
  have hown : s.vm.findClass RX1 = some m.cls := findClass_of_methodNamed B.named
  have hlocks := B.notSynchronized
  subst hsz
  have hD := hD0.self (sz := s.heap.size)
  generalize hAe : va_A ([(he, .inr (1, [.ref hm, .ref hf, .ref hp, .ref eb, .ref ep, .int (nI el), .ref nd, .ref mt, .ref ab])), (eb, .inl (cI, 12, .inl fb)), (ep, .inl (cI, 12, .inl fq)), (hm, .inr (3, [.int mk, .int mc])), (hf, .inr (2, [.int dp, .ref qp, .ref qe, .ref ql, .int (nI lo), .int (nI le)])), (qp, .inl (cO, b, .inr (.inr (.inr (.inr fp))))), (hp, .inr (5, [.int (nI pm), .long fr, .long wk, .int nr, .ref pd, .ref pt, .ref pb, .long fe])), (pd, .inl (cO, 25, .inr (.inr (.inr (.inr fd))))), (pt, .inl (cI, 25, .inl ft))] ++ pool G cI Pg S) s.heap.size = A at hD ⊢
  have hA : ∀ q : Nat, s.heap.size ≤ q → A q := fun q h => by rw [← hAe]; exact Or.inr h
  have hS : va_S A s.heap s.heap [] := va_S.rf
  have hP : va_P (dC, dI) vwCl ([(he, .inr (1, [.ref hm, .ref hf, .ref hp, .ref eb, .ref ep, .int (nI el), .ref nd, .ref mt, .ref ab])), (eb, .inl (cI, 12, .inl fb)), (ep, .inl (cI, 12, .inl fq)), (hm, .inr (3, [.int mk, .int mc])), (hf, .inr (2, [.int dp, .ref qp, .ref qe, .ref ql, .int (nI lo), .int (nI le)])), (qp, .inl (cO, b, .inr (.inr (.inr (.inr fp))))), (hp, .inr (5, [.int (nI pm), .long fr, .long wk, .int nr, .ref pd, .ref pt, .ref pb, .long fe])), (pd, .inl (cO, 25, .inr (.inr (.inr (.inr fd))))), (pt, .inl (cI, 25, .inl ft))] ++ pool G cI Pg S) s.heap := hP
  have hl := lv_entry ([.ref he, .int p0]) (n := 6) (Nat.le_of_ble_eq_true rfl)
  rw [lg_entry_eq]
  generalize (lg_sl ([.ref he, .int p0]) ++ List.replicate (6 - (lg_sl ([.ref he, .int p0])).length) Slot.unset).toArray = ls at hl ⊢
  have hl : lv_has ls 6 [(0, .ref he), (1, .int p0)] := hl
  have k_1 := hts (.code Lib.Math.max.name Lib.Math.max.code 2 (some .int)) (List.mem_of_getElem? (i := 1) rfl)
  have k_2 := hts (.methodLink RX1 135 Lib.Math.max.name) (List.mem_of_getElem? (i := 2) rfl)
  have k_3 := hts (.static Lib.Math.max.name) (List.mem_of_getElem? (i := 3) rfl)
  have k_4 := hts (.initialized "java/lang/Math") (List.mem_of_getElem? (i := 4) rfl)
  have k_5 := (fun _ h => List.mem_cons_of_mem _ (List.mem_append_right _ (List.mem_append_left _ h)) : ∀ w ∈ wsX10, w ∈ v_X1_mend)
  have k_6 := hts (.fieldLink RX1 42 "TwinRoots$Editor" "above" "LTwinRoots$Page;") (List.mem_of_getElem? (i := 5) rfl)
  have k_7 := hts (.fieldLink RX1 39 "TwinRoots$Editor" "mate" "LTwinRoots$Page;") (List.mem_of_getElem? (i := 13) rfl)
  have k_8 := (fun _ h => List.mem_cons_of_mem _ (List.mem_append_right _ (List.mem_append_right _ (List.mem_append_left _ h))) : ∀ w ∈ wsX40, w ∈ v_X1_mend)
  have k_9 := hts (.fieldLink RX1 110 "TwinRoots$Page" "leaf" "Z") (List.mem_of_getElem? (i := 14) rfl)
  have k_10 := hts (.fieldLink RX1 35 "TwinRoots$Editor" "node" "LTwinRoots$Page;") (List.mem_of_getElem? (i := 15) rfl)
  have k_11 := hts (.fieldLink RX1 19 "TwinRoots$Editor" "plan" "LTwinRoots$Plan;") (List.mem_of_getElem? (i := 50) rfl)
  have k_12 := hts (.fieldLink RX1 15 "TwinRoots$Editor" "forest" "LTwinRoots$Forest;") (List.mem_of_getElem? (i := 97) rfl)
  refine lv_iconst (v := 0) hx hb dX1_mend_0 (by decide) ?_
  refine lv_iload_n hx hb dX1_mend_1 rfl (lv_at hl 1 rfl) ?_
  refine lv_iconst (v := 1) hx hb dX1_mend_2 (by decide) ?_
  refine lv_isub hx hb dX1_mend_3 ?_
  refine lv_topi (fun z_1 _ => ?_)
  refine va_mmax hx hb (by rw [hml]; exact hl.1.symm) hown k_2 k_3 k_4 k_1 (Nat.le_of_ble_eq_true rfl) (Nat.le_of_ble_eq_true rfl) (show 0 ≤ 0 by omega) (show 0 ≤ 0 by omega) dX1_mend_4 ?_
  refine lv_topi (fun z_2 _ => ?_)
  refine lv_istore_n (lv' := [(2, .int z_2), (0, .ref he), (1, .int p0)]) hx hb dX1_mend_7 rfl hl (by decide) rfl (fun ls hl => ?_)
  refine lv_aload_n hx hb dX1_mend_8 rfl (lv_at hl 1 rfl) ?_
  refine va_get (D := (dC, dI)) (ci := 1) (v := .ref ab) (C := RX1) (T := TX1) (N := 9) hx hb hts k_5 hown hK hP 0 rfl rfl 8 (by decide) k_6 (fun _ h9 => h9) rfl dX1_mend_9 ?_
  refine lv_iload_n hx hb dX1_mend_12 rfl (lv_at hl 0 rfl) ?_
  have hz1_ab := (hI ab hm_ab).1
  have hz2_ab := (hI ab hm_ab).2.1
  have hz3_ab := (hI ab hm_ab).2.2
  have hT9 := in1 hm_ab
  have hPc : va_P (dC, dI) vwCl [(ab, .inr (4, [.int (S ab).1, .int (nI (S ab).2.1), .ref (G ab).1, .ref (G ab).2.1])), ((G ab).1, .inl (cI, (G ab).2.2.1, .inl (S ab).2.2.1)), ((G ab).2.1, .inl (cI, (G ab).2.2.1, .inl (S ab).2.2.2))] s.heap := pool_cut (T := [ab]) (cx := []) hP hT9 [] rfl
  have hDc : va_D A [(ab, .inr (4, [.int (S ab).1, .int (nI (S ab).2.1), .ref (G ab).1, .ref (G ab).2.1])), ((G ab).1, .inl (cI, (G ab).2.2.1, .inl (S ab).2.2.1)), ((G ab).2.1, .inl (cI, (G ab).2.2.1, .inl (S ab).2.2.2))] := pool_cutD (T := [ab]) (cx := []) hD hT9 (nd1) [] (by decide) rfl
  have hFc : ∀ q, va_A [(ab, .inr (4, [.int (S ab).1, .int (nI (S ab).2.1), .ref (G ab).1, .ref (G ab).2.1])), ((G ab).1, .inl (cI, (G ab).2.2.1, .inl (S ab).2.2.1)), ((G ab).2.1, .inl (cI, (G ab).2.2.1, .inl (S ab).2.2.2))] (s.heap).size q → A q := pool_free (T := [ab]) (cx := []) hD hS hA hT9 [] rfl
  have hKc := hK.sub (tys' := [(cI, .int), (cI, .int)]) [1, 1] rfl
  refine va_calli (va_runV (As := [.int z_2]) (rest := []) ⟨hx, hb, hml, hown, hts⟩ (c_X4_refAt l dC dI s.heap.size ab (G ab).1 (G ab).2.1 (G ab).2.2.1 (S ab).2.1 (S ab).1 cI cI (S ab).2.2.1 (S ab).2.2.2 z_2 (by first | assumption | omega | decide) (by first | assumption | omega | decide)) (cwV 1 hts g_X1_mend_X4_refAt rfl rfl rfl (by decide +kernel) ⟨Nat.le_of_ble_eq_true rfl, Nat.le_of_ble_eq_true rfl⟩) ⟨fun a U g mk q => by obtain ⟨q0, q1, qP, qK, qD⟩ := q; exact ⟨q0, q1, qP, va_K.moved (u := U) (U := U.calling g mk a) (Vm.Alike.refl U.vm) qK, qD⟩, va_recv hKc hPc (ci := 4) (q0 := 0) rfl rfl, fun U hU hW => ⟨rfl, by rw [hU], by rw [hU]; exact hPc, va_K.moved hW.alike hKc, hDc.weaken (fun _ _ _ _ => trivial)⟩⟩ rfl rfl hl.1 rfl (lv_room (Nat.le_of_ble_eq_true rfl)) dX1_mend_13 ⟨(show 0 + 0 ≤ 0 by omega), (show 0 + 0 ≤ 0 by omega)⟩) hS (fun q _ h => hFc q h) hFc (fun r_3 u t H1 locs ht hvm hw hB hz1 hk1 hS => ?_)
  obtain ⟨hP1, hK1, hD1⟩ := hB
  rw [ht] at hP1
  have hK1 := va_K.moved hvm.symm hK1
  try dsimp only at hw
  obtain ⟨hP, hD⟩ := pool_join (S := S) (S1 := S) (T := [ab]) (cx := []) (wr := [(he, .inr (1, [.ref hm, .ref hf, .ref hp, .ref eb, .ref ep, .int (nI el), .ref nd, .ref mt, .ref ab])), (eb, .inl (cI, 12, .inl fb)), (ep, .inl (cI, 12, .inl fq)), (hm, .inr (3, [.int mk, .int mc])), (hf, .inr (2, [.int dp, .ref qp, .ref qe, .ref ql, .int (nI lo), .int (nI le)])), (qp, .inl (cO, b, .inr (.inr (.inr (.inr fp))))), (hp, .inr (5, [.int (nI pm), .long fr, .long wk, .int nr, .ref pd, .ref pt, .ref pb, .long fe])), (pd, .inl (cO, 25, .inr (.inr (.inr (.inr fd))))), (pt, .inl (cI, 25, .inl ft))]) (rx := []) hP hD hT9 [] [0, 1, 2, 3, 4, 5, 6, 7, 8] rfl rfl (by decide) (by decide) hk1 hFc hP1 hD1
  rw [pgJ_same] at hP hD
  have hK := (hK.sub (tys' := [(cO, .object RX4), (cI, .int)]) [0, 1] rfl).app hK1
  have hK : va_K (dC, dI) vwCl [(cO, .object RX4), (cI, .int)] s := hK.sub [0, 1] rfl
  generalize H1 = H at hP hS ⊢
  have hP : va_P (dC, dI) vwCl ([(he, .inr (1, [.ref hm, .ref hf, .ref hp, .ref eb, .ref ep, .int (nI el), .ref nd, .ref mt, .ref ab])), (eb, .inl (cI, 12, .inl fb)), (ep, .inl (cI, 12, .inl fq)), (hm, .inr (3, [.int mk, .int mc])), (hf, .inr (2, [.int dp, .ref qp, .ref qe, .ref ql, .int (nI lo), .int (nI le)])), (qp, .inl (cO, b, .inr (.inr (.inr (.inr fp))))), (hp, .inr (5, [.int (nI pm), .long fr, .long wk, .int nr, .ref pd, .ref pt, .ref pb, .long fe])), (pd, .inl (cO, 25, .inr (.inr (.inr (.inr fd))))), (pt, .inl (cI, 25, .inl ft))] ++ pool G cI Pg S) H := hP
  have hD : va_D A ([(he, .inr (1, [.ref hm, .ref hf, .ref hp, .ref eb, .ref ep, .int (nI el), .ref nd, .ref mt, .ref ab])), (eb, .inl (cI, 12, .inl fb)), (ep, .inl (cI, 12, .inl fq)), (hm, .inr (3, [.int mk, .int mc])), (hf, .inr (2, [.int dp, .ref qp, .ref qe, .ref ql, .int (nI lo), .int (nI le)])), (qp, .inl (cO, b, .inr (.inr (.inr (.inr fp))))), (hp, .inr (5, [.int (nI pm), .long fr, .long wk, .int nr, .ref pd, .ref pt, .ref pb, .long fe])), (pd, .inl (cO, 25, .inr (.inr (.inr (.inr fd))))), (pt, .inl (cI, 25, .inl ft))] ++ pool G cI Pg S) := hD
  have hK : va_K (dC, dI) vwCl [(cO, .object RX4), (cI, .int)] s := hK
  have hw_r_3 := hw
  refine lv_istore_n (lv' := [(3, .int r_3), (2, .int z_2), (0, .ref he), (1, .int p0)]) hx hb dX1_mend_16 rfl hl (by decide) rfl (fun ls hl => ?_)
  refine lv_aload_n hx hb dX1_mend_17 rfl (lv_at hl 2 rfl) ?_
  refine va_get (D := (dC, dI)) (ci := 1) (v := .ref ab) (C := RX1) (T := TX1) (N := 9) hx hb hts k_5 hown hK hP 0 rfl rfl 8 (by decide) k_6 (fun _ h9 => h9) rfl dX1_mend_18 ?_
  refine lv_iload_n hx hb dX1_mend_21 rfl (lv_at hl 1 rfl) ?_
  refine lv_iconst (v := 1) hx hb dX1_mend_22 (by decide) ?_
  refine lv_iadd hx hb dX1_mend_23 ?_
  refine lv_topi (fun z_4 _ => ?_)
  have hz1_ab := (hI ab hm_ab).1
  have hz2_ab := (hI ab hm_ab).2.1
  have hz3_ab := (hI ab hm_ab).2.2
  have hT9 := in1 hm_ab
  have hPc : va_P (dC, dI) vwCl [(ab, .inr (4, [.int (S ab).1, .int (nI (S ab).2.1), .ref (G ab).1, .ref (G ab).2.1])), ((G ab).1, .inl (cI, (G ab).2.2.1, .inl (S ab).2.2.1)), ((G ab).2.1, .inl (cI, (G ab).2.2.1, .inl (S ab).2.2.2))] H := pool_cut (T := [ab]) (cx := []) hP hT9 [] rfl
  have hDc : va_D A [(ab, .inr (4, [.int (S ab).1, .int (nI (S ab).2.1), .ref (G ab).1, .ref (G ab).2.1])), ((G ab).1, .inl (cI, (G ab).2.2.1, .inl (S ab).2.2.1)), ((G ab).2.1, .inl (cI, (G ab).2.2.1, .inl (S ab).2.2.2))] := pool_cutD (T := [ab]) (cx := []) hD hT9 (nd1) [] (by decide) rfl
  have hFc : ∀ q, va_A [(ab, .inr (4, [.int (S ab).1, .int (nI (S ab).2.1), .ref (G ab).1, .ref (G ab).2.1])), ((G ab).1, .inl (cI, (G ab).2.2.1, .inl (S ab).2.2.1)), ((G ab).2.1, .inl (cI, (G ab).2.2.1, .inl (S ab).2.2.2))] (H).size q → A q := pool_free (T := [ab]) (cx := []) hD hS hA hT9 [] rfl
  have hKc := hK.sub (tys' := [(cI, .int), (cI, .int)]) [1, 1] rfl
  refine va_calli (va_runV (As := [.int z_4]) (rest := []) ⟨hx, hb, hml, hown, hts⟩ (c_X4_refAt l dC dI H.size ab (G ab).1 (G ab).2.1 (G ab).2.2.1 (S ab).2.1 (S ab).1 cI cI (S ab).2.2.1 (S ab).2.2.2 z_4 (by first | assumption | omega | decide) (by first | assumption | omega | decide)) (cwV 1 hts g_X1_mend_X4_refAt rfl rfl rfl (by decide +kernel) ⟨Nat.le_of_ble_eq_true rfl, Nat.le_of_ble_eq_true rfl⟩) ⟨fun a U g mk q => by obtain ⟨q0, q1, qP, qK, qD⟩ := q; exact ⟨q0, q1, qP, va_K.moved (u := U) (U := U.calling g mk a) (Vm.Alike.refl U.vm) qK, qD⟩, va_recv hKc hPc (ci := 4) (q0 := 0) rfl rfl, fun U hU hW => ⟨rfl, by rw [hU], by rw [hU]; exact hPc, va_K.moved hW.alike hKc, hDc.weaken (fun _ _ _ _ => trivial)⟩⟩ rfl rfl hl.1 rfl (lv_room (Nat.le_of_ble_eq_true rfl)) dX1_mend_24 ⟨(show 0 + 0 ≤ 0 by omega), (show 0 + 0 ≤ 0 by omega)⟩) hS (fun q _ h => hFc q h) hFc (fun r_5 u t H1 locs ht hvm hw hB hz1 hk1 hS => ?_)
  obtain ⟨hP1, hK1, hD1⟩ := hB
  rw [ht] at hP1
  have hK1 := va_K.moved hvm.symm hK1
  try dsimp only at hw
  obtain ⟨hP, hD⟩ := pool_join (S := S) (S1 := S) (T := [ab]) (cx := []) (wr := [(he, .inr (1, [.ref hm, .ref hf, .ref hp, .ref eb, .ref ep, .int (nI el), .ref nd, .ref mt, .ref ab])), (eb, .inl (cI, 12, .inl fb)), (ep, .inl (cI, 12, .inl fq)), (hm, .inr (3, [.int mk, .int mc])), (hf, .inr (2, [.int dp, .ref qp, .ref qe, .ref ql, .int (nI lo), .int (nI le)])), (qp, .inl (cO, b, .inr (.inr (.inr (.inr fp))))), (hp, .inr (5, [.int (nI pm), .long fr, .long wk, .int nr, .ref pd, .ref pt, .ref pb, .long fe])), (pd, .inl (cO, 25, .inr (.inr (.inr (.inr fd))))), (pt, .inl (cI, 25, .inl ft))]) (rx := []) hP hD hT9 [] [0, 1, 2, 3, 4, 5, 6, 7, 8] rfl rfl (by decide) (by decide) hk1 hFc hP1 hD1
  rw [pgJ_same] at hP hD
  have hK := (hK.sub (tys' := [(cO, .object RX4), (cI, .int)]) [0, 1] rfl).app hK1
  have hK : va_K (dC, dI) vwCl [(cO, .object RX4), (cI, .int)] s := hK.sub [0, 1] rfl
  generalize H1 = H at hP hS ⊢
  have hP : va_P (dC, dI) vwCl ([(he, .inr (1, [.ref hm, .ref hf, .ref hp, .ref eb, .ref ep, .int (nI el), .ref nd, .ref mt, .ref ab])), (eb, .inl (cI, 12, .inl fb)), (ep, .inl (cI, 12, .inl fq)), (hm, .inr (3, [.int mk, .int mc])), (hf, .inr (2, [.int dp, .ref qp, .ref qe, .ref ql, .int (nI lo), .int (nI le)])), (qp, .inl (cO, b, .inr (.inr (.inr (.inr fp))))), (hp, .inr (5, [.int (nI pm), .long fr, .long wk, .int nr, .ref pd, .ref pt, .ref pb, .long fe])), (pd, .inl (cO, 25, .inr (.inr (.inr (.inr fd))))), (pt, .inl (cI, 25, .inl ft))] ++ pool G cI Pg S) H := hP
  have hD : va_D A ([(he, .inr (1, [.ref hm, .ref hf, .ref hp, .ref eb, .ref ep, .int (nI el), .ref nd, .ref mt, .ref ab])), (eb, .inl (cI, 12, .inl fb)), (ep, .inl (cI, 12, .inl fq)), (hm, .inr (3, [.int mk, .int mc])), (hf, .inr (2, [.int dp, .ref qp, .ref qe, .ref ql, .int (nI lo), .int (nI le)])), (qp, .inl (cO, b, .inr (.inr (.inr (.inr fp))))), (hp, .inr (5, [.int (nI pm), .long fr, .long wk, .int nr, .ref pd, .ref pt, .ref pb, .long fe])), (pd, .inl (cO, 25, .inr (.inr (.inr (.inr fd))))), (pt, .inl (cI, 25, .inl ft))] ++ pool G cI Pg S) := hD
  have hK : va_K (dC, dI) vwCl [(cO, .object RX4), (cI, .int)] s := hK
  have hw_r_5 := hw
  refine lv_istore (lv' := [(4, .int r_5), (3, .int r_3), (2, .int z_2), (0, .ref he), (1, .int p0)]) hx hb dX1_mend_27 hl (by decide) rfl (fun ls hl => ?_)
  refine jn_cut (P := fun Q => ∀ (Sj : pgS) (H : Heap) (locs : List Loc) (ls : Array Slot), (pgI G Pg Sj) → va_P (dC, dI) vwCl ([(he, .inr (1, [.ref hm, .ref hf, .ref hp, .ref eb, .ref ep, .int (nI el), .ref nd, .ref mt, .ref ab])), (eb, .inl (cI, 12, .inl fb)), (ep, .inl (cI, 12, .inl fq)), (hm, .inr (3, [.int mk, .int mc])), (hf, .inr (2, [.int dp, .ref qp, .ref qe, .ref ql, .int (nI lo), .int (nI le)])), (qp, .inl (cO, b, .inr (.inr (.inr (.inr fp))))), (hp, .inr (5, [.int (nI pm), .long fr, .long wk, .int nr, .ref pd, .ref pt, .ref pb, .long fe])), (pd, .inl (cO, 25, .inr (.inr (.inr (.inr fd))))), (pt, .inl (cI, 25, .inl ft))] ++ pool G cI Pg Sj) H → va_D A ([(he, .inr (1, [.ref hm, .ref hf, .ref hp, .ref eb, .ref ep, .int (nI el), .ref nd, .ref mt, .ref ab])), (eb, .inl (cI, 12, .inl fb)), (ep, .inl (cI, 12, .inl fq)), (hm, .inr (3, [.int mk, .int mc])), (hf, .inr (2, [.int dp, .ref qp, .ref qe, .ref ql, .int (nI lo), .int (nI le)])), (qp, .inl (cO, b, .inr (.inr (.inr (.inr fp))))), (hp, .inr (5, [.int (nI pm), .long fr, .long wk, .int nr, .ref pd, .ref pt, .ref pb, .long fe])), (pd, .inl (cO, 25, .inr (.inr (.inr (.inr fd))))), (pt, .inl (cI, 25, .inl ft))] ++ pool G cI Pg Sj) → va_S A s.heap H locs → lv_has ls 6 [(4, .int r_5), (3, .int r_3), (2, .int z_2), (0, .ref he), (1, .int p0)] → W p l e (headSpec v_X1_mend ({ frames := 4, cells := 0, slots := 0, locals := 88 } : Room)).room s m ([.ref he, .int p0] : List Value).toArray below meth c H locs 0 0 Q (F0 m 78 ls [])) ?_ (fun jn_6 => ?_)
  · intro Sj H locs ls hI hP hD hS hl
    refine lv_aload_n hx hb dX1_mend_78 rfl (lv_at hl 3 rfl) ?_
    refine va_get (D := (dC, dI)) (ci := 1) (v := .ref mt) (C := RX1) (T := TX1) (N := 9) hx hb hts k_5 hown hK hP 0 rfl rfl 7 (by decide) k_7 (fun _ h9 => h9) rfl dX1_mend_79 ?_
    obtain ⟨k9, hk9⟩ := pool_at (G := G) (cI := cI) (S := Sj) [(he, .inr (1, [.ref hm, .ref hf, .ref hp, .ref eb, .ref ep, .int (nI el), .ref nd, .ref mt, .ref ab])), (eb, .inl (cI, 12, .inl fb)), (ep, .inl (cI, 12, .inl fq)), (hm, .inr (3, [.int mk, .int mc])), (hf, .inr (2, [.int dp, .ref qp, .ref qe, .ref ql, .int (nI lo), .int (nI le)])), (qp, .inl (cO, b, .inr (.inr (.inr (.inr fp))))), (hp, .inr (5, [.int (nI pm), .long fr, .long wk, .int nr, .ref pd, .ref pt, .ref pb, .long fe])), (pd, .inl (cO, 25, .inr (.inr (.inr (.inr fd))))), (pt, .inl (cI, 25, .inl ft))] hm_mt
    refine va_get (D := (dC, dI)) (ci := 4) (v := .int (Sj mt).1) (C := RX4) (T := TX4) (N := 4) hx hb hts k_8 hown hK hP k9 hk9 rfl 0 (by decide) k_9 (fun _ h9 => h9) rfl dX1_mend_82 ?_
    refine jn_cut (P := fun Q => ∀ (Sj : pgS) (H : Heap) (locs : List Loc) (ls : Array Slot), (pgI G Pg Sj) → va_P (dC, dI) vwCl ([(he, .inr (1, [.ref hm, .ref hf, .ref hp, .ref eb, .ref ep, .int (nI el), .ref nd, .ref mt, .ref ab])), (eb, .inl (cI, 12, .inl fb)), (ep, .inl (cI, 12, .inl fq)), (hm, .inr (3, [.int mk, .int mc])), (hf, .inr (2, [.int dp, .ref qp, .ref qe, .ref ql, .int (nI lo), .int (nI le)])), (qp, .inl (cO, b, .inr (.inr (.inr (.inr fp))))), (hp, .inr (5, [.int (nI pm), .long fr, .long wk, .int nr, .ref pd, .ref pt, .ref pb, .long fe])), (pd, .inl (cO, 25, .inr (.inr (.inr (.inr fd))))), (pt, .inl (cI, 25, .inl ft))] ++ pool G cI Pg Sj) H → va_D A ([(he, .inr (1, [.ref hm, .ref hf, .ref hp, .ref eb, .ref ep, .int (nI el), .ref nd, .ref mt, .ref ab])), (eb, .inl (cI, 12, .inl fb)), (ep, .inl (cI, 12, .inl fq)), (hm, .inr (3, [.int mk, .int mc])), (hf, .inr (2, [.int dp, .ref qp, .ref qe, .ref ql, .int (nI lo), .int (nI le)])), (qp, .inl (cO, b, .inr (.inr (.inr (.inr fp))))), (hp, .inr (5, [.int (nI pm), .long fr, .long wk, .int nr, .ref pd, .ref pt, .ref pb, .long fe])), (pd, .inl (cO, 25, .inr (.inr (.inr (.inr fd))))), (pt, .inl (cI, 25, .inl ft))] ++ pool G cI Pg Sj) → va_S A s.heap H locs → lv_has ls 6 [(4, .int r_5), (3, .int r_3), (2, .int z_2), (0, .ref he), (1, .int p0)] → W p l e (headSpec v_X1_mend ({ frames := 4, cells := 0, slots := 0, locals := 88 } : Room)).room s m ([.ref he, .int p0] : List Value).toArray below meth c H locs 0 0 Q (F0 m 106 ls [])) ?_ (fun jn_7 => ?_)
    · intro Sj H locs ls hI hP hD hS hl
      refine lv_aload_n hx hb dX1_mend_106 rfl (lv_at hl 3 rfl) ?_
      refine va_get (D := (dC, dI)) (ci := 1) (v := .ref nd) (C := RX1) (T := TX1) (N := 9) hx hb hts k_5 hown hK hP 0 rfl rfl 6 (by decide) k_10 (fun _ h9 => h9) rfl dX1_mend_107 ?_
      refine lv_aload_n hx hb dX1_mend_110 rfl (lv_at hl 3 rfl) ?_
      refine va_get (D := (dC, dI)) (ci := 1) (v := .ref mt) (C := RX1) (T := TX1) (N := 9) hx hb hts k_5 hown hK hP 0 rfl rfl 7 (by decide) k_7 (fun _ h9 => h9) rfl dX1_mend_111 ?_
      refine lv_iconst (v := 0) hx hb dX1_mend_114 (by decide) ?_
      have hz1_nd := (hI nd hm_nd).1
      have hz2_nd := (hI nd hm_nd).2.1
      have hz3_nd := (hI nd hm_nd).2.2
      have hz1_mt := (hI mt hm_mt).1
      have hz2_mt := (hI mt hm_mt).2.1
      have hz3_mt := (hI mt hm_mt).2.2
      have hab : nd ≠ mt := fun h9 => absurd (congrArg (fun x => (G x).2.2.2) h9) (by show (G nd).2.2.2 ≠ (G mt).2.2.2; have h7 := ht_nd; have h8 := ht_mt; omega)
      have hT9 := in2 hm_nd hm_mt
      have hPc : va_P (dC, dI) vwCl [(nd, .inr (4, [.int (Sj nd).1, .int (nI (Sj nd).2.1), .ref (G nd).1, .ref (G nd).2.1])), ((G nd).1, .inl (cI, (G nd).2.2.1, .inl (Sj nd).2.2.1)), ((G nd).2.1, .inl (cI, (G nd).2.2.1, .inl (Sj nd).2.2.2)), (mt, .inr (4, [.int (Sj mt).1, .int (nI (Sj mt).2.1), .ref (G mt).1, .ref (G mt).2.1])), ((G mt).1, .inl (cI, (G mt).2.2.1, .inl (Sj mt).2.2.1)), ((G mt).2.1, .inl (cI, (G mt).2.2.1, .inl (Sj mt).2.2.2))] H := pool_cut (T := [nd, mt]) (cx := []) hP hT9 [] rfl
      have hDc : va_D A [(nd, .inr (4, [.int (Sj nd).1, .int (nI (Sj nd).2.1), .ref (G nd).1, .ref (G nd).2.1])), ((G nd).1, .inl (cI, (G nd).2.2.1, .inl (Sj nd).2.2.1)), ((G nd).2.1, .inl (cI, (G nd).2.2.1, .inl (Sj nd).2.2.2)), (mt, .inr (4, [.int (Sj mt).1, .int (nI (Sj mt).2.1), .ref (G mt).1, .ref (G mt).2.1])), ((G mt).1, .inl (cI, (G mt).2.2.1, .inl (Sj mt).2.2.1)), ((G mt).2.1, .inl (cI, (G mt).2.2.1, .inl (Sj mt).2.2.2))] := pool_cutD (T := [nd, mt]) (cx := []) hD hT9 (nd2 hab) [] (by decide) rfl
      have hFc : ∀ q, va_A [(nd, .inr (4, [.int (Sj nd).1, .int (nI (Sj nd).2.1), .ref (G nd).1, .ref (G nd).2.1])), ((G nd).1, .inl (cI, (G nd).2.2.1, .inl (Sj nd).2.2.1)), ((G nd).2.1, .inl (cI, (G nd).2.2.1, .inl (Sj nd).2.2.2)), (mt, .inr (4, [.int (Sj mt).1, .int (nI (Sj mt).2.1), .ref (G mt).1, .ref (G mt).2.1])), ((G mt).1, .inl (cI, (G mt).2.2.1, .inl (Sj mt).2.2.1)), ((G mt).2.1, .inl (cI, (G mt).2.2.1, .inl (Sj mt).2.2.2))] (H).size q → A q := pool_free (T := [nd, mt]) (cx := []) hD hS hA hT9 [] rfl
      have hKc := hK.sub (tys' := [(cI, .int), (cI, .int), (cI, .int), (cI, .int)]) [1, 1, 1, 1] rfl
      refine va_callv (va_runV (As := [.ref mt, .int 0]) (rest := []) ⟨hx, hb, hml, hown, hts⟩ (c_X4_append l dC dI H.size nd (G nd).1 (G nd).2.1 (G nd).2.2.1 (Sj nd).2.1 (Sj nd).1 cI cI (Sj nd).2.2.1 (Sj nd).2.2.2 mt (G mt).1 (G mt).2.1 (G mt).2.2.1 (Sj mt).2.1 (Sj mt).1 cI cI (Sj mt).2.2.1 (Sj mt).2.2.2 0 (by first | assumption | omega | decide) (by first | assumption | omega | decide) (by first | assumption | omega | decide) (by first | assumption | omega | decide)) (cwV 2 hts g_X1_mend_X4_append rfl rfl rfl (by decide +kernel) ⟨Nat.le_of_ble_eq_true rfl, Nat.le_of_ble_eq_true rfl⟩) ⟨fun a U g mk q => by obtain ⟨q0, q1, qP, qK, qD⟩ := q; exact ⟨q0, q1, qP, va_K.moved (u := U) (U := U.calling g mk a) (Vm.Alike.refl U.vm) qK, qD⟩, va_recv hKc hPc (ci := 4) (q0 := 0) rfl rfl, fun U hU hW => ⟨rfl, by rw [hU], by rw [hU]; exact hPc, va_K.moved hW.alike hKc, hDc.weaken (fun _ _ _ _ => trivial)⟩⟩ rfl rfl hl.1 rfl (lv_room (Nat.le_of_ble_eq_true rfl)) dX1_mend_115 ⟨(show 0 + 0 ≤ 0 by omega), (show 0 + 0 ≤ 0 by omega)⟩) hS (fun q _ h => hFc q h) hFc (fun u t H1 locs ht hvm hw hB hz1 hk1 hS => ?_)
      obtain ⟨m2_9, f2_10, g2_11⟩ := u
      obtain ⟨hP1, hK1, hD1⟩ := hB
      rw [ht] at hP1
      have hK1 := va_K.moved hvm.symm hK1
      try dsimp only at hw
      obtain ⟨hP, hD⟩ := pool_join (S := Sj) (S1 := (pgJ [nd] (fun _ => ((Sj nd).1, m2_9, f2_10, g2_11)) (fun _ => ((Sj mt).1, (Sj mt).2.1, (Sj mt).2.2.1, (Sj mt).2.2.2)))) (T := [nd, mt]) (cx := []) (wr := [(he, .inr (1, [.ref hm, .ref hf, .ref hp, .ref eb, .ref ep, .int (nI el), .ref nd, .ref mt, .ref ab])), (eb, .inl (cI, 12, .inl fb)), (ep, .inl (cI, 12, .inl fq)), (hm, .inr (3, [.int mk, .int mc])), (hf, .inr (2, [.int dp, .ref qp, .ref qe, .ref ql, .int (nI lo), .int (nI le)])), (qp, .inl (cO, b, .inr (.inr (.inr (.inr fp))))), (hp, .inr (5, [.int (nI pm), .long fr, .long wk, .int nr, .ref pd, .ref pt, .ref pb, .long fe])), (pd, .inl (cO, 25, .inr (.inr (.inr (.inr fd))))), (pt, .inl (cI, 25, .inl ft))]) (rx := []) hP hD hT9 [] [0, 1, 2, 3, 4, 5, 6, 7, 8] rfl rfl (by decide) (by decide) hk1 hFc (by rw [pool2 hab]; exact hP1) (by rw [pool2 hab]; exact hD1)
      obtain ⟨S_12, eS_12⟩ : ∃ x, x = pgJ [nd, mt] (pgJ [nd] (fun _ => ((Sj nd).1, m2_9, f2_10, g2_11)) (fun _ => ((Sj mt).1, (Sj mt).2.1, (Sj mt).2.2.1, (Sj mt).2.2.2))) Sj := ⟨_, rfl⟩
      rw [← eS_12] at hP hD
      have hK := (hK.sub (tys' := [(cO, .object RX4), (cI, .int)]) [0, 1] rfl).app hK1
      have hK : va_K (dC, dI) vwCl [(cO, .object RX4), (cI, .int)] s := hK.sub [0, 1] rfl
      generalize H1 = H at hP hS ⊢
      have hP : va_P (dC, dI) vwCl ([(he, .inr (1, [.ref hm, .ref hf, .ref hp, .ref eb, .ref ep, .int (nI el), .ref nd, .ref mt, .ref ab])), (eb, .inl (cI, 12, .inl fb)), (ep, .inl (cI, 12, .inl fq)), (hm, .inr (3, [.int mk, .int mc])), (hf, .inr (2, [.int dp, .ref qp, .ref qe, .ref ql, .int (nI lo), .int (nI le)])), (qp, .inl (cO, b, .inr (.inr (.inr (.inr fp))))), (hp, .inr (5, [.int (nI pm), .long fr, .long wk, .int nr, .ref pd, .ref pt, .ref pb, .long fe])), (pd, .inl (cO, 25, .inr (.inr (.inr (.inr fd))))), (pt, .inl (cI, 25, .inl ft))] ++ pool G cI Pg S_12) H := hP
      have hD : va_D A ([(he, .inr (1, [.ref hm, .ref hf, .ref hp, .ref eb, .ref ep, .int (nI el), .ref nd, .ref mt, .ref ab])), (eb, .inl (cI, 12, .inl fb)), (ep, .inl (cI, 12, .inl fq)), (hm, .inr (3, [.int mk, .int mc])), (hf, .inr (2, [.int dp, .ref qp, .ref qe, .ref ql, .int (nI lo), .int (nI le)])), (qp, .inl (cO, b, .inr (.inr (.inr (.inr fp))))), (hp, .inr (5, [.int (nI pm), .long fr, .long wk, .int nr, .ref pd, .ref pt, .ref pb, .long fe])), (pd, .inl (cO, 25, .inr (.inr (.inr (.inr fd))))), (pt, .inl (cI, 25, .inl ft))] ++ pool G cI Pg S_12) := hD
      have hK : va_K (dC, dI) vwCl [(cO, .object RX4), (cI, .int)] s := hK
      have hI : pgI G Pg S_12 := by rw [eS_12]; exact pgI_2 hI hab (by first | assumption | exact Or.inl rfl | exact Or.inr rfl | exact hw.2.1 | exact hw.1) (by first | assumption | omega) (by first | assumption | exact Or.inl rfl | exact Or.inr rfl | exact hw.2.1 | exact hw.1) (by first | assumption | omega)
      have hw_r_8 := hw
      refine lv_aload_n hx hb dX1_mend_118 rfl (lv_at hl 3 rfl) ?_
      have hPc := hP.part (cx := [(he, .inr (1, [.ref hm, .ref hf, .ref hp, .ref eb, .ref ep, .int (nI el), .ref nd, .ref mt, .ref ab])), (hm, .inr (3, [.int mk, .int mc]))]) [0, 3] rfl
      have hDc := hD.part (cx := [(he, .inr (1, [.ref hm, .ref hf, .ref hp, .ref eb, .ref ep, .int (nI el), .ref nd, .ref mt, .ref ab])), (hm, .inr (3, [.int mk, .int mc]))]) [0, 3] (by decide) rfl
      have hFc := va_freeP (cx := [(he, .inr (1, [.ref hm, .ref hf, .ref hp, .ref eb, .ref ep, .int (nI el), .ref nd, .ref mt, .ref ab])), (hm, .inr (3, [.int mk, .int mc]))]) hD hS hA [0, 3] rfl
      have hKc := hK.sub (tys' := [(cI, .int)]) [1] rfl
      refine va_calli (va_runV (As := []) (rest := []) ⟨hx, hb, hml, hown, hts⟩ (c_X1_partIfTooMany l dC dI H.size he hm hf hp eb ep nd mt ab el mk mc G Pg cI S_12 (by first | assumption | omega | decide) (by first | assumption | omega | decide) (by first | assumption | omega | decide) (by first | assumption | omega | decide) (by first | assumption | omega | decide) (by first | assumption | omega | decide) (by first | assumption | omega | decide)) (cwV 0 hts g_X1_mend_X1_partIfTooMany rfl rfl rfl (by decide +kernel) ⟨Nat.le_of_ble_eq_true rfl, Nat.le_of_ble_eq_true rfl⟩) ⟨fun a U g mk q => by obtain ⟨q0, q1, qP, qK, qD⟩ := q; exact ⟨q0, q1, qP, va_K.moved (u := U) (U := U.calling g mk a) (Vm.Alike.refl U.vm) qK, qD⟩, va_recv hKc hPc (ci := 1) (q0 := 0) rfl rfl, fun U hU hW => ⟨rfl, by rw [hU], by rw [hU]; exact hPc, va_K.moved hW.alike hKc, hDc.weaken (fun _ _ _ _ => trivial)⟩⟩ rfl rfl hl.1 rfl (lv_room (Nat.le_of_ble_eq_true rfl)) dX1_mend_119 ⟨(show 0 + 0 ≤ 0 by omega), (show 0 + 0 ≤ 0 by omega)⟩) hS (fun q _ h => hFc q h) hFc (fun r_13 u t H1 locs ht hvm hw hB hz1 hk1 hS => ?_)
      obtain ⟨S2_14, rfl⟩ : ∃ z, z = u := ⟨_, rfl⟩
      obtain ⟨hP1, hK1, hD1⟩ := hB
      rw [ht] at hP1
      have hK1 := va_K.moved hvm.symm hK1
      try dsimp only at hw
      obtain ⟨hP, hD⟩ := va_joinP (wr := [(eb, .inl (cI, 12, .inl fb)), (ep, .inl (cI, 12, .inl fq)), (hf, .inr (2, [.int dp, .ref qp, .ref qe, .ref ql, .int (nI lo), .int (nI le)])), (qp, .inl (cO, b, .inr (.inr (.inr (.inr fp))))), (hp, .inr (5, [.int (nI pm), .long fr, .long wk, .int nr, .ref pd, .ref pt, .ref pb, .long fe])), (pd, .inl (cO, 25, .inr (.inr (.inr (.inr fd))))), (pt, .inl (cI, 25, .inl ft))]) (rx := [(he, .inr (1, [.ref hm, .ref hf, .ref hp, .ref eb, .ref ep, .int (nI el), .ref nd, .ref mt, .ref ab])), (hm, .inr (3, [.int mk, .int mc]))]) (pl1 := pool G cI Pg S2_14) hP hD [0, 3] [1, 2, 4, 5, 6, 7, 8] rfl rfl (by decide) (by decide) hk1 hFc hP1 hD1
      have hK := (hK.sub (tys' := [(cO, .object RX4), (cI, .int)]) [0, 1] rfl).app hK1
      have hK : va_K (dC, dI) vwCl [(cO, .object RX4), (cI, .int)] s := hK.sub [0, 1] rfl
      generalize H1 = H at hP hS ⊢
      have hP : va_P (dC, dI) vwCl ([(eb, .inl (cI, 12, .inl fb)), (ep, .inl (cI, 12, .inl fq)), (hf, .inr (2, [.int dp, .ref qp, .ref qe, .ref ql, .int (nI lo), .int (nI le)])), (qp, .inl (cO, b, .inr (.inr (.inr (.inr fp))))), (hp, .inr (5, [.int (nI pm), .long fr, .long wk, .int nr, .ref pd, .ref pt, .ref pb, .long fe])), (pd, .inl (cO, 25, .inr (.inr (.inr (.inr fd))))), (pt, .inl (cI, 25, .inl ft)), (he, .inr (1, [.ref hm, .ref hf, .ref hp, .ref eb, .ref ep, .int (nI el), .ref nd, .ref mt, .ref ab])), (hm, .inr (3, [.int mk, .int mc]))] ++ pool G cI Pg S2_14) H := hP
      have hD : va_D A ([(eb, .inl (cI, 12, .inl fb)), (ep, .inl (cI, 12, .inl fq)), (hf, .inr (2, [.int dp, .ref qp, .ref qe, .ref ql, .int (nI lo), .int (nI le)])), (qp, .inl (cO, b, .inr (.inr (.inr (.inr fp))))), (hp, .inr (5, [.int (nI pm), .long fr, .long wk, .int nr, .ref pd, .ref pt, .ref pb, .long fe])), (pd, .inl (cO, 25, .inr (.inr (.inr (.inr fd))))), (pt, .inl (cI, 25, .inl ft)), (he, .inr (1, [.ref hm, .ref hf, .ref hp, .ref eb, .ref ep, .int (nI el), .ref nd, .ref mt, .ref ab])), (hm, .inr (3, [.int mk, .int mc]))] ++ pool G cI Pg S2_14) := hD
      have hK : va_K (dC, dI) vwCl [(cO, .object RX4), (cI, .int)] s := hK
      have hI := hw.1
      have hw_r_13 := hw
      refine lv_istore (lv' := [(5, .int r_13), (4, .int r_5), (3, .int r_3), (2, .int z_2), (0, .ref he), (1, .int p0)]) hx hb dX1_mend_122 hl (by decide) rfl (fun ls hl => ?_)
      refine lv_aload_n hx hb dX1_mend_124 rfl (lv_at hl 4 rfl) ?_
      refine va_get (D := (dC, dI)) (ci := 1) (v := .ref ab) (C := RX1) (T := TX1) (N := 9) hx hb hts k_5 hown hK hP 7 rfl rfl 8 (by decide) k_6 (fun _ h9 => h9) rfl dX1_mend_125 ?_
      refine lv_iload_n hx hb dX1_mend_128 rfl (lv_at hl 3 rfl) ?_
      refine lv_aload_n hx hb dX1_mend_129 rfl (lv_at hl 4 rfl) ?_
      refine va_get (D := (dC, dI)) (ci := 1) (v := .ref hp) (C := RX1) (T := TX1) (N := 9) hx hb hts k_5 hown hK hP 7 rfl rfl 2 (by decide) k_11 (fun _ h9 => h9) rfl dX1_mend_130 ?_
      refine lv_aload_n hx hb dX1_mend_133 rfl (lv_at hl 4 rfl) ?_
      refine va_get (D := (dC, dI)) (ci := 1) (v := .ref nd) (C := RX1) (T := TX1) (N := 9) hx hb hts k_5 hown hK hP 7 rfl rfl 6 (by decide) k_10 (fun _ h9 => h9) rfl dX1_mend_134 ?_
      refine lv_iload_n hx hb dX1_mend_137 rfl (lv_at hl 2 rfl) ?_
      have hPc := hP.part (cx := [(hp, .inr (5, [.int (nI pm), .long fr, .long wk, .int nr, .ref pd, .ref pt, .ref pb, .long fe])), (pd, .inl (cO, 25, .inr (.inr (.inr (.inr fd))))), (pt, .inl (cI, 25, .inl ft))]) [4, 5, 6] rfl
      have hDc := hD.part (cx := [(hp, .inr (5, [.int (nI pm), .long fr, .long wk, .int nr, .ref pd, .ref pt, .ref pb, .long fe])), (pd, .inl (cO, 25, .inr (.inr (.inr (.inr fd))))), (pt, .inl (cI, 25, .inl ft))]) [4, 5, 6] (by decide) rfl
      have hFc := va_freeP (cx := [(hp, .inr (5, [.int (nI pm), .long fr, .long wk, .int nr, .ref pd, .ref pt, .ref pb, .long fe])), (pd, .inl (cO, 25, .inr (.inr (.inr (.inr fd))))), (pt, .inl (cI, 25, .inl ft))]) hD hS hA [4, 5, 6] rfl
      have hKc := hK.sub (tys' := [(cO, .object RX4), (cI, .int)]) [0, 1] rfl
      refine va_calli (va_runV (As := [.ref nd, .int r_3]) (rest := [.int z_2, .ref ab]) ⟨hx, hb, hml, hown, hts⟩ (c_X5_write l dC dI H.size hp pd pt pb fr wk fe nr pm nd r_3 cO fd ft G Pg cI S2_14 (by first | assumption | omega | decide) (by first | assumption | omega | decide) (by first | assumption | omega | decide) (by first | assumption | omega | decide) (by first | assumption | omega | decide) (by first | assumption | omega | decide) (by first | assumption | omega | decide)) (cwV 2 hts g_X1_mend_X5_write rfl rfl rfl (by decide +kernel) ⟨Nat.le_of_ble_eq_true rfl, Nat.le_of_ble_eq_true rfl⟩) ⟨fun a U g mk q => by obtain ⟨q0, q1, qP, qK, qD, qX0, qX1⟩ := q; exact ⟨q0, q1, qP, va_K.moved (u := U) (U := U.calling g mk a) (Vm.Alike.refl U.vm) qK, qD, va_Nw.same (u := U) (U := U.calling g mk a) rfl rfl qX0, va_Nw.same (u := U) (U := U.calling g mk a) rfl rfl qX1⟩, va_recv hKc hPc (ci := 5) (q0 := 0) rfl rfl, fun U hU hW => ⟨rfl, by rw [hU], by rw [hU]; exact hPc, va_K.moved hW.alike hKc, hDc.weaken (fun _ _ _ _ => trivial), va_Nw.warmM hW hNX5_46, va_Nw.warmM hW hNX5_54⟩⟩ rfl rfl hl.1 rfl (lv_room (Nat.le_of_ble_eq_true rfl)) dX1_mend_138 ⟨(show 0 + 0 ≤ 0 by omega), (show 0 + 0 ≤ 0 by omega)⟩) hS (fun q _ h => hFc q h) hFc (fun r_15 u t H1 locs ht hvm hw hB hz1 hk1 hS => ?_)
      obtain ⟨pm2_16, fr2_17, wk2_18, fe2_19, nr2_20, ft2_21, S2_22⟩ := u
      obtain ⟨hP1, hK1, hD1⟩ := hB
      rw [ht] at hP1
      have hK1 := va_K.moved hvm.symm hK1
      try dsimp only at hw
      obtain ⟨hP, hD⟩ := va_joinP (wr := [(eb, .inl (cI, 12, .inl fb)), (ep, .inl (cI, 12, .inl fq)), (hf, .inr (2, [.int dp, .ref qp, .ref qe, .ref ql, .int (nI lo), .int (nI le)])), (qp, .inl (cO, b, .inr (.inr (.inr (.inr fp))))), (he, .inr (1, [.ref hm, .ref hf, .ref hp, .ref eb, .ref ep, .int (nI el), .ref nd, .ref mt, .ref ab])), (hm, .inr (3, [.int mk, .int mc]))]) (rx := [(hp, .inr (5, [.int (nI pm2_16), .long fr2_17, .long wk2_18, .int nr2_20, .ref pd, .ref pt, .ref pb, .long fe2_19])), (pd, .inl (cO, 25, .inr (.inr (.inr (.inr fd))))), (pt, .inl (cI, 25, .inl ft2_21))]) (pl1 := pool G cI Pg S2_22) hP hD [4, 5, 6] [0, 1, 2, 3, 7, 8] rfl rfl (by decide) (by decide) hk1 hFc hP1 hD1
      have hK := (hK.sub (tys' := [(cO, .object RX4), (cI, .int)]) [0, 1] rfl).app hK1
      have hK : va_K (dC, dI) vwCl [(cO, .object RX4), (cI, .int)] s := hK.sub [0, 1] rfl
      generalize H1 = H at hP hS ⊢
      have hP : va_P (dC, dI) vwCl ([(eb, .inl (cI, 12, .inl fb)), (ep, .inl (cI, 12, .inl fq)), (hf, .inr (2, [.int dp, .ref qp, .ref qe, .ref ql, .int (nI lo), .int (nI le)])), (qp, .inl (cO, b, .inr (.inr (.inr (.inr fp))))), (he, .inr (1, [.ref hm, .ref hf, .ref hp, .ref eb, .ref ep, .int (nI el), .ref nd, .ref mt, .ref ab])), (hm, .inr (3, [.int mk, .int mc])), (hp, .inr (5, [.int (nI pm2_16), .long fr2_17, .long wk2_18, .int nr2_20, .ref pd, .ref pt, .ref pb, .long fe2_19])), (pd, .inl (cO, 25, .inr (.inr (.inr (.inr fd))))), (pt, .inl (cI, 25, .inl ft2_21))] ++ pool G cI Pg S2_22) H := hP
      have hD : va_D A ([(eb, .inl (cI, 12, .inl fb)), (ep, .inl (cI, 12, .inl fq)), (hf, .inr (2, [.int dp, .ref qp, .ref qe, .ref ql, .int (nI lo), .int (nI le)])), (qp, .inl (cO, b, .inr (.inr (.inr (.inr fp))))), (he, .inr (1, [.ref hm, .ref hf, .ref hp, .ref eb, .ref ep, .int (nI el), .ref nd, .ref mt, .ref ab])), (hm, .inr (3, [.int mk, .int mc])), (hp, .inr (5, [.int (nI pm2_16), .long fr2_17, .long wk2_18, .int nr2_20, .ref pd, .ref pt, .ref pb, .long fe2_19])), (pd, .inl (cO, 25, .inr (.inr (.inr (.inr fd))))), (pt, .inl (cI, 25, .inl ft2_21))] ++ pool G cI Pg S2_22) := hD
      have hK : va_K (dC, dI) vwCl [(cO, .object RX4), (cI, .int)] s := hK
      have hI := hw.1
      have hw_r_15 := hw
      have hz1_ab := (hI ab hm_ab).1
      have hz2_ab := (hI ab hm_ab).2.1
      have hz3_ab := (hI ab hm_ab).2.2
      have hT9 := in1 hm_ab
      have hPc : va_P (dC, dI) vwCl [(ab, .inr (4, [.int (S2_22 ab).1, .int (nI (S2_22 ab).2.1), .ref (G ab).1, .ref (G ab).2.1])), ((G ab).1, .inl (cI, (G ab).2.2.1, .inl (S2_22 ab).2.2.1)), ((G ab).2.1, .inl (cI, (G ab).2.2.1, .inl (S2_22 ab).2.2.2))] H := pool_cut (T := [ab]) (cx := []) hP hT9 [] rfl
      have hDc : va_D A [(ab, .inr (4, [.int (S2_22 ab).1, .int (nI (S2_22 ab).2.1), .ref (G ab).1, .ref (G ab).2.1])), ((G ab).1, .inl (cI, (G ab).2.2.1, .inl (S2_22 ab).2.2.1)), ((G ab).2.1, .inl (cI, (G ab).2.2.1, .inl (S2_22 ab).2.2.2))] := pool_cutD (T := [ab]) (cx := []) hD hT9 (nd1) [] (by decide) rfl
      have hFc : ∀ q, va_A [(ab, .inr (4, [.int (S2_22 ab).1, .int (nI (S2_22 ab).2.1), .ref (G ab).1, .ref (G ab).2.1])), ((G ab).1, .inl (cI, (G ab).2.2.1, .inl (S2_22 ab).2.2.1)), ((G ab).2.1, .inl (cI, (G ab).2.2.1, .inl (S2_22 ab).2.2.2))] (H).size q → A q := pool_free (T := [ab]) (cx := []) hD hS hA hT9 [] rfl
      have hKc := hK.sub (tys' := [(cI, .int), (cI, .int)]) [1, 1] rfl
      refine va_callv (va_runV (As := [.int z_2, .int r_15]) (rest := []) ⟨hx, hb, hml, hown, hts⟩ (c_X4_setRef l dC dI H.size ab (G ab).1 (G ab).2.1 (G ab).2.2.1 (S2_22 ab).2.1 (S2_22 ab).1 cI cI (S2_22 ab).2.2.1 (S2_22 ab).2.2.2 z_2 r_15 (by first | assumption | omega | decide) (by first | assumption | omega | decide)) (cwV 2 hts g_X1_mend_X4_setRef rfl rfl rfl (by decide +kernel) ⟨Nat.le_of_ble_eq_true rfl, Nat.le_of_ble_eq_true rfl⟩) ⟨fun a U g mk q => by obtain ⟨q0, q1, qP, qK, qD⟩ := q; exact ⟨q0, q1, qP, va_K.moved (u := U) (U := U.calling g mk a) (Vm.Alike.refl U.vm) qK, qD⟩, va_recv hKc hPc (ci := 4) (q0 := 0) rfl rfl, fun U hU hW => ⟨rfl, by rw [hU], by rw [hU]; exact hPc, va_K.moved hW.alike hKc, hDc.weaken (fun _ _ _ _ => trivial)⟩⟩ rfl rfl hl.1 rfl (lv_room (Nat.le_of_ble_eq_true rfl)) dX1_mend_141 ⟨(show 0 + 0 ≤ 0 by omega), (show 0 + 0 ≤ 0 by omega)⟩) hS (fun q _ h => hFc q h) hFc (fun u t H1 locs ht hvm hw hB hz1 hk1 hS => ?_)
      obtain ⟨f2_24, rfl⟩ : ∃ z, z = u := ⟨_, rfl⟩
      obtain ⟨hP1, hK1, hD1⟩ := hB
      rw [ht] at hP1
      have hK1 := va_K.moved hvm.symm hK1
      try dsimp only at hw
      obtain ⟨hP, hD⟩ := pool_join (S := S2_22) (S1 := (fun _ => ((S2_22 ab).1, (S2_22 ab).2.1, (S2_22 ab).2.2.1, f2_24))) (T := [ab]) (cx := []) (wr := [(eb, .inl (cI, 12, .inl fb)), (ep, .inl (cI, 12, .inl fq)), (hf, .inr (2, [.int dp, .ref qp, .ref qe, .ref ql, .int (nI lo), .int (nI le)])), (qp, .inl (cO, b, .inr (.inr (.inr (.inr fp))))), (he, .inr (1, [.ref hm, .ref hf, .ref hp, .ref eb, .ref ep, .int (nI el), .ref nd, .ref mt, .ref ab])), (hm, .inr (3, [.int mk, .int mc])), (hp, .inr (5, [.int (nI pm2_16), .long fr2_17, .long wk2_18, .int nr2_20, .ref pd, .ref pt, .ref pb, .long fe2_19])), (pd, .inl (cO, 25, .inr (.inr (.inr (.inr fd))))), (pt, .inl (cI, 25, .inl ft2_21))]) (rx := []) hP hD hT9 [] [0, 1, 2, 3, 4, 5, 6, 7, 8] rfl rfl (by decide) (by decide) hk1 hFc hP1 hD1
      obtain ⟨S_25, eS_25⟩ : ∃ x, x = pgJ [ab] (fun _ => ((S2_22 ab).1, (S2_22 ab).2.1, (S2_22 ab).2.2.1, f2_24)) S2_22 := ⟨_, rfl⟩
      rw [← eS_25] at hP hD
      have hK := (hK.sub (tys' := [(cO, .object RX4), (cI, .int)]) [0, 1] rfl).app hK1
      have hK : va_K (dC, dI) vwCl [(cO, .object RX4), (cI, .int)] s := hK.sub [0, 1] rfl
      generalize H1 = H at hP hS ⊢
      have hP : va_P (dC, dI) vwCl ([(eb, .inl (cI, 12, .inl fb)), (ep, .inl (cI, 12, .inl fq)), (hf, .inr (2, [.int dp, .ref qp, .ref qe, .ref ql, .int (nI lo), .int (nI le)])), (qp, .inl (cO, b, .inr (.inr (.inr (.inr fp))))), (he, .inr (1, [.ref hm, .ref hf, .ref hp, .ref eb, .ref ep, .int (nI el), .ref nd, .ref mt, .ref ab])), (hm, .inr (3, [.int mk, .int mc])), (hp, .inr (5, [.int (nI pm2_16), .long fr2_17, .long wk2_18, .int nr2_20, .ref pd, .ref pt, .ref pb, .long fe2_19])), (pd, .inl (cO, 25, .inr (.inr (.inr (.inr fd))))), (pt, .inl (cI, 25, .inl ft2_21))] ++ pool G cI Pg S_25) H := hP
      have hD : va_D A ([(eb, .inl (cI, 12, .inl fb)), (ep, .inl (cI, 12, .inl fq)), (hf, .inr (2, [.int dp, .ref qp, .ref qe, .ref ql, .int (nI lo), .int (nI le)])), (qp, .inl (cO, b, .inr (.inr (.inr (.inr fp))))), (he, .inr (1, [.ref hm, .ref hf, .ref hp, .ref eb, .ref ep, .int (nI el), .ref nd, .ref mt, .ref ab])), (hm, .inr (3, [.int mk, .int mc])), (hp, .inr (5, [.int (nI pm2_16), .long fr2_17, .long wk2_18, .int nr2_20, .ref pd, .ref pt, .ref pb, .long fe2_19])), (pd, .inl (cO, 25, .inr (.inr (.inr (.inr fd))))), (pt, .inl (cI, 25, .inl ft2_21))] ++ pool G cI Pg S_25) := hD
      have hK : va_K (dC, dI) vwCl [(cO, .object RX4), (cI, .int)] s := hK
      have hI : pgI G Pg S_25 := by rw [eS_25]; exact pgI_1 hI (by first | assumption | exact Or.inl rfl | exact Or.inr rfl | exact hw.2.1 | exact hw.1) (by first | assumption | omega)
      refine lv_iload hx hb dX1_mend_144 (lv_at hl 0 rfl) ?_
      refine lv_if_eq (tgt := 193) hx hb dX1_mend_146 (by decide) (fun c_26 => ?_) (fun c_26 => ?_)
      · refine lv_aload_n hx hb dX1_mend_193 rfl (lv_at hl 4 rfl) ?_
        refine va_get (D := (dC, dI)) (ci := 1) (v := .ref ab) (C := RX1) (T := TX1) (N := 9) hx hb hts k_5 hown hK hP 4 rfl rfl 8 (by decide) k_6 (fun _ h9 => h9) rfl dX1_mend_194 ?_
        refine lv_iload_n hx hb dX1_mend_197 rfl (lv_at hl 3 rfl) ?_
        refine lv_iconst (v := 1) hx hb dX1_mend_198 (by decide) ?_
        refine lv_iadd hx hb dX1_mend_199 ?_
        refine lv_topi (fun z_27 _ => ?_)
        have hz1_ab := (hI ab hm_ab).1
        have hz2_ab := (hI ab hm_ab).2.1
        have hz3_ab := (hI ab hm_ab).2.2
        have hT9 := in1 hm_ab
        have hPc : va_P (dC, dI) vwCl [(ab, .inr (4, [.int (S_25 ab).1, .int (nI (S_25 ab).2.1), .ref (G ab).1, .ref (G ab).2.1])), ((G ab).1, .inl (cI, (G ab).2.2.1, .inl (S_25 ab).2.2.1)), ((G ab).2.1, .inl (cI, (G ab).2.2.1, .inl (S_25 ab).2.2.2))] H := pool_cut (T := [ab]) (cx := []) hP hT9 [] rfl
        have hDc : va_D A [(ab, .inr (4, [.int (S_25 ab).1, .int (nI (S_25 ab).2.1), .ref (G ab).1, .ref (G ab).2.1])), ((G ab).1, .inl (cI, (G ab).2.2.1, .inl (S_25 ab).2.2.1)), ((G ab).2.1, .inl (cI, (G ab).2.2.1, .inl (S_25 ab).2.2.2))] := pool_cutD (T := [ab]) (cx := []) hD hT9 (nd1) [] (by decide) rfl
        have hFc : ∀ q, va_A [(ab, .inr (4, [.int (S_25 ab).1, .int (nI (S_25 ab).2.1), .ref (G ab).1, .ref (G ab).2.1])), ((G ab).1, .inl (cI, (G ab).2.2.1, .inl (S_25 ab).2.2.1)), ((G ab).2.1, .inl (cI, (G ab).2.2.1, .inl (S_25 ab).2.2.2))] (H).size q → A q := pool_free (T := [ab]) (cx := []) hD hS hA hT9 [] rfl
        have hKc := hK.sub (tys' := [(cI, .int), (cI, .int)]) [1, 1] rfl
        refine va_callv (va_runV (As := [.int z_27]) (rest := []) ⟨hx, hb, hml, hown, hts⟩ (c_X4_takeOut_any l dC dI H.size ab (G ab).1 (G ab).2.1 (G ab).2.2.1 (S_25 ab).2.1 (S_25 ab).1 cI cI (S_25 ab).2.2.1 (S_25 ab).2.2.2 z_27 (by first | assumption | omega | decide) (by first | assumption | omega | decide)) (cwV 1 hts g_X1_mend_X4_takeOut_any rfl rfl rfl (by decide +kernel) ⟨Nat.le_of_ble_eq_true rfl, Nat.le_of_ble_eq_true rfl⟩) ⟨fun a U g mk q => by obtain ⟨q0, q1, qP, qK, qD⟩ := q; exact ⟨q0, q1, qP, va_K.moved (u := U) (U := U.calling g mk a) (Vm.Alike.refl U.vm) qK, qD⟩, va_recv hKc hPc (ci := 4) (q0 := 0) rfl rfl, fun U hU hW => ⟨rfl, by rw [hU], by rw [hU]; exact hPc, va_K.moved hW.alike hKc, hDc.weaken (fun _ _ _ _ => trivial)⟩⟩ rfl rfl hl.1 rfl (lv_room (Nat.le_of_ble_eq_true rfl)) dX1_mend_200 ⟨(show 0 + 0 ≤ 0 by omega), (show 0 + 0 ≤ 0 by omega)⟩) hS (fun q _ h => hFc q h) hFc (fun u t H1 locs ht hvm hw hB hz1 hk1 hS => ?_)
        obtain ⟨m2_29, f2_30, g2_31⟩ := u
        obtain ⟨hP1, hK1, hD1⟩ := hB
        rw [ht] at hP1
        have hK1 := va_K.moved hvm.symm hK1
        try dsimp only at hw
        obtain ⟨hP, hD⟩ := pool_join (S := S_25) (S1 := (fun _ => ((S_25 ab).1, m2_29, f2_30, g2_31))) (T := [ab]) (cx := []) (wr := [(eb, .inl (cI, 12, .inl fb)), (ep, .inl (cI, 12, .inl fq)), (hf, .inr (2, [.int dp, .ref qp, .ref qe, .ref ql, .int (nI lo), .int (nI le)])), (qp, .inl (cO, b, .inr (.inr (.inr (.inr fp))))), (he, .inr (1, [.ref hm, .ref hf, .ref hp, .ref eb, .ref ep, .int (nI el), .ref nd, .ref mt, .ref ab])), (hm, .inr (3, [.int mk, .int mc])), (hp, .inr (5, [.int (nI pm2_16), .long fr2_17, .long wk2_18, .int nr2_20, .ref pd, .ref pt, .ref pb, .long fe2_19])), (pd, .inl (cO, 25, .inr (.inr (.inr (.inr fd))))), (pt, .inl (cI, 25, .inl ft2_21))]) (rx := []) hP hD hT9 [] [0, 1, 2, 3, 4, 5, 6, 7, 8] rfl rfl (by decide) (by decide) hk1 hFc hP1 hD1
        obtain ⟨S_32, eS_32⟩ : ∃ x, x = pgJ [ab] (fun _ => ((S_25 ab).1, m2_29, f2_30, g2_31)) S_25 := ⟨_, rfl⟩
        rw [← eS_32] at hP hD
        have hK := (hK.sub (tys' := [(cO, .object RX4), (cI, .int)]) [0, 1] rfl).app hK1
        have hK : va_K (dC, dI) vwCl [(cO, .object RX4), (cI, .int)] s := hK.sub [0, 1] rfl
        generalize H1 = H at hP hS ⊢
        have hP : va_P (dC, dI) vwCl ([(eb, .inl (cI, 12, .inl fb)), (ep, .inl (cI, 12, .inl fq)), (hf, .inr (2, [.int dp, .ref qp, .ref qe, .ref ql, .int (nI lo), .int (nI le)])), (qp, .inl (cO, b, .inr (.inr (.inr (.inr fp))))), (he, .inr (1, [.ref hm, .ref hf, .ref hp, .ref eb, .ref ep, .int (nI el), .ref nd, .ref mt, .ref ab])), (hm, .inr (3, [.int mk, .int mc])), (hp, .inr (5, [.int (nI pm2_16), .long fr2_17, .long wk2_18, .int nr2_20, .ref pd, .ref pt, .ref pb, .long fe2_19])), (pd, .inl (cO, 25, .inr (.inr (.inr (.inr fd))))), (pt, .inl (cI, 25, .inl ft2_21))] ++ pool G cI Pg S_32) H := hP
        have hD : va_D A ([(eb, .inl (cI, 12, .inl fb)), (ep, .inl (cI, 12, .inl fq)), (hf, .inr (2, [.int dp, .ref qp, .ref qe, .ref ql, .int (nI lo), .int (nI le)])), (qp, .inl (cO, b, .inr (.inr (.inr (.inr fp))))), (he, .inr (1, [.ref hm, .ref hf, .ref hp, .ref eb, .ref ep, .int (nI el), .ref nd, .ref mt, .ref ab])), (hm, .inr (3, [.int mk, .int mc])), (hp, .inr (5, [.int (nI pm2_16), .long fr2_17, .long wk2_18, .int nr2_20, .ref pd, .ref pt, .ref pb, .long fe2_19])), (pd, .inl (cO, 25, .inr (.inr (.inr (.inr fd))))), (pt, .inl (cI, 25, .inl ft2_21))] ++ pool G cI Pg S_32) := hD
        have hK : va_K (dC, dI) vwCl [(cO, .object RX4), (cI, .int)] s := hK
        have hI : pgI G Pg S_32 := by rw [eS_32]; exact pgI_1 hI (by first | assumption | exact Or.inl rfl | exact Or.inr rfl | exact hw.2.1 | exact hw.1) (by first | assumption | omega)
        have hw_r_28 := hw
        refine lv_aload_n hx hb dX1_mend_203 rfl (lv_at hl 4 rfl) ?_
        refine va_get (D := (dC, dI)) (ci := 1) (v := .ref hp) (C := RX1) (T := TX1) (N := 9) hx hb hts k_5 hown hK hP 4 rfl rfl 2 (by decide) k_11 (fun _ h9 => h9) rfl dX1_mend_204 ?_
        refine lv_iload hx hb dX1_mend_207 (lv_at hl 1 rfl) ?_
        have hPc := hP.sub (ws' := [(hp, .inr (5, [.int (nI pm2_16), .long fr2_17, .long wk2_18, .int nr2_20, .ref pd, .ref pt, .ref pb, .long fe2_19]))]) [6] rfl
        have hDc := hD.sub (ws' := [(hp, .inr (5, [.int (nI pm2_16), .long fr2_17, .long wk2_18, .int nr2_20, .ref pd, .ref pt, .ref pb, .long fe2_19]))]) [6] (by decide) rfl
        have hKc := hK.sub (tys' := []) [] rfl
        have hFc := va_free (wc := [(hp, .inr (5, [.int (nI pm2_16), .long fr2_17, .long wk2_18, .int nr2_20, .ref pd, .ref pt, .ref pb, .long fe2_19]))]) hD hS hA [6] rfl
        refine va_callv (va_runV (As := [.int r_5]) (rest := []) ⟨hx, hb, hml, hown, hts⟩ (c_X5_drop l dC dI H.size hp pd pt pb fr2_17 wk2_18 fe2_19 nr2_20 pm2_16 r_5) (cwV 1 hts g_X1_mend_X5_drop rfl rfl rfl (by decide +kernel) ⟨Nat.le_of_ble_eq_true rfl, Nat.le_of_ble_eq_true rfl⟩) ⟨fun a U g mk q => by obtain ⟨q0, q1, qP, qK, qD, qX0⟩ := q; exact ⟨q0, q1, qP, va_K.moved (u := U) (U := U.calling g mk a) (Vm.Alike.refl U.vm) qK, qD, va_Nw.same (u := U) (U := U.calling g mk a) rfl rfl qX0⟩, va_recv hKc hPc (ci := 5) (q0 := 0) rfl rfl, fun U hU hW => ⟨rfl, by rw [hU], by rw [hU]; exact hPc, va_K.moved hW.alike hKc, hDc.weaken (fun _ _ _ _ => trivial), va_Nw.warmM hW hNX5_54⟩⟩ rfl rfl hl.1 rfl (lv_room (Nat.le_of_ble_eq_true rfl)) dX1_mend_209 ⟨(show 0 + 0 ≤ 0 by omega), (show 0 + 0 ≤ 0 by omega)⟩) hS (fun q _ h => hFc q h) hFc (fun u t H1 locs ht hvm hw hB hz1 hk1 hS => ?_)
        obtain ⟨wk2_34, rfl⟩ : ∃ z, z = u := ⟨_, rfl⟩
        obtain ⟨hP1, hK1, hD1⟩ := hB
        rw [ht] at hP1
        have hK1 := va_K.moved hvm.symm hK1
        try dsimp only at hw
        obtain ⟨hP, hD⟩ := va_joinQ (wr := [(eb, .inl (cI, 12, .inl fb)), (ep, .inl (cI, 12, .inl fq)), (hf, .inr (2, [.int dp, .ref qp, .ref qe, .ref ql, .int (nI lo), .int (nI le)])), (qp, .inl (cO, b, .inr (.inr (.inr (.inr fp))))), (he, .inr (1, [.ref hm, .ref hf, .ref hp, .ref eb, .ref ep, .int (nI el), .ref nd, .ref mt, .ref ab])), (hm, .inr (3, [.int mk, .int mc])), (pd, .inl (cO, 25, .inr (.inr (.inr (.inr fd))))), (pt, .inl (cI, 25, .inl ft2_21))]) (w1 := [(hp, .inr (5, [.int (nI pm2_16), .long fr2_17, .long wk2_34, .int nr2_20, .ref pd, .ref pt, .ref pb, .long fe2_19]))]) hP hD [6] [0, 1, 2, 3, 4, 5, 7, 8] rfl rfl (by decide) (by decide) hk1 hFc hP1 hD1
        have hK := (hK.sub (tys' := [(cO, .object RX4), (cI, .int)]) [0, 1] rfl).app hK1
        have hK : va_K (dC, dI) vwCl [(cO, .object RX4), (cI, .int)] s := hK.sub [0, 1] rfl
        generalize H1 = H at hP hS ⊢
        have hP : va_P (dC, dI) vwCl ([(eb, .inl (cI, 12, .inl fb)), (ep, .inl (cI, 12, .inl fq)), (hf, .inr (2, [.int dp, .ref qp, .ref qe, .ref ql, .int (nI lo), .int (nI le)])), (qp, .inl (cO, b, .inr (.inr (.inr (.inr fp))))), (he, .inr (1, [.ref hm, .ref hf, .ref hp, .ref eb, .ref ep, .int (nI el), .ref nd, .ref mt, .ref ab])), (hm, .inr (3, [.int mk, .int mc])), (pd, .inl (cO, 25, .inr (.inr (.inr (.inr fd))))), (pt, .inl (cI, 25, .inl ft2_21)), (hp, .inr (5, [.int (nI pm2_16), .long fr2_17, .long wk2_34, .int nr2_20, .ref pd, .ref pt, .ref pb, .long fe2_19]))] ++ pool G cI Pg S_32) H := hP
        have hD : va_D A ([(eb, .inl (cI, 12, .inl fb)), (ep, .inl (cI, 12, .inl fq)), (hf, .inr (2, [.int dp, .ref qp, .ref qe, .ref ql, .int (nI lo), .int (nI le)])), (qp, .inl (cO, b, .inr (.inr (.inr (.inr fp))))), (he, .inr (1, [.ref hm, .ref hf, .ref hp, .ref eb, .ref ep, .int (nI el), .ref nd, .ref mt, .ref ab])), (hm, .inr (3, [.int mk, .int mc])), (pd, .inl (cO, 25, .inr (.inr (.inr (.inr fd))))), (pt, .inl (cI, 25, .inl ft2_21)), (hp, .inr (5, [.int (nI pm2_16), .long fr2_17, .long wk2_34, .int nr2_20, .ref pd, .ref pt, .ref pb, .long fe2_19]))] ++ pool G cI Pg S_32) := hD
        have hK : va_K (dC, dI) vwCl [(cO, .object RX4), (cI, .int)] s := hK
        have hP9 := hP.part (cx := [(he, .inr (1, [.ref hm, .ref hf, .ref hp, .ref eb, .ref ep, .int (nI el), .ref nd, .ref mt, .ref ab])), (eb, .inl (cI, 12, .inl fb)), (ep, .inl (cI, 12, .inl fq)), (hm, .inr (3, [.int mk, .int mc])), (hf, .inr (2, [.int dp, .ref qp, .ref qe, .ref ql, .int (nI lo), .int (nI le)])), (qp, .inl (cO, b, .inr (.inr (.inr (.inr fp))))), (hp, .inr (5, [.int (nI pm2_16), .long fr2_17, .long wk2_34, .int nr2_20, .ref pd, .ref pt, .ref pb, .long fe2_19])), (pd, .inl (cO, 25, .inr (.inr (.inr (.inr fd))))), (pt, .inl (cI, 25, .inl ft2_21))]) [4, 0, 1, 5, 2, 3, 8, 6, 7] rfl
        have hD9 := hD.part (cx := [(he, .inr (1, [.ref hm, .ref hf, .ref hp, .ref eb, .ref ep, .int (nI el), .ref nd, .ref mt, .ref ab])), (eb, .inl (cI, 12, .inl fb)), (ep, .inl (cI, 12, .inl fq)), (hm, .inr (3, [.int mk, .int mc])), (hf, .inr (2, [.int dp, .ref qp, .ref qe, .ref ql, .int (nI lo), .int (nI le)])), (qp, .inl (cO, b, .inr (.inr (.inr (.inr fp))))), (hp, .inr (5, [.int (nI pm2_16), .long fr2_17, .long wk2_34, .int nr2_20, .ref pd, .ref pt, .ref pb, .long fe2_19])), (pd, .inl (cO, 25, .inr (.inr (.inr (.inr fd))))), (pt, .inl (cI, 25, .inl ft2_21))]) [4, 0, 1, 5, 2, 3, 8, 6, 7] (by decide) rfl
        have hK9 := hK.sub (tys' := [(cO, .object RX4), (cI, .int)]) [0, 1] rfl
        exact W.vret hx hb hr (fun t ht hW => ⟨⟨(pm2_16, fr2_17, wk2_34, fe2_19, nr2_20, ft2_21, S_32), rfl, ⟨hI, by omega⟩, by rw [ht]; exact hP9, va_K.moved hW.alike hK9, hD9⟩, hS.F ht⟩) hS.2.2 dX1_mend_212
      · refine lv_aload_n hx hb dX1_mend_149 rfl (lv_at hl 4 rfl) ?_
        refine va_get (D := (dC, dI)) (ci := 1) (v := .ref ab) (C := RX1) (T := TX1) (N := 9) hx hb hts k_5 hown hK hP 4 rfl rfl 8 (by decide) k_6 (fun _ h9 => h9) rfl dX1_mend_150 ?_
        refine lv_iload_n hx hb dX1_mend_153 rfl (lv_at hl 3 rfl) ?_
        refine lv_iconst (v := 1) hx hb dX1_mend_154 (by decide) ?_
        refine lv_iadd hx hb dX1_mend_155 ?_
        refine lv_topi (fun z_35 _ => ?_)
        refine lv_aload_n hx hb dX1_mend_156 rfl (lv_at hl 4 rfl) ?_
        refine va_get (D := (dC, dI)) (ci := 1) (v := .ref hp) (C := RX1) (T := TX1) (N := 9) hx hb hts k_5 hown hK hP 4 rfl rfl 2 (by decide) k_11 (fun _ h9 => h9) rfl dX1_mend_157 ?_
        refine lv_aload_n hx hb dX1_mend_160 rfl (lv_at hl 4 rfl) ?_
        refine va_get (D := (dC, dI)) (ci := 1) (v := .ref mt) (C := RX1) (T := TX1) (N := 9) hx hb hts k_5 hown hK hP 4 rfl rfl 7 (by decide) k_7 (fun _ h9 => h9) rfl dX1_mend_161 ?_
        refine lv_iload hx hb dX1_mend_164 (lv_at hl 1 rfl) ?_
        have hPc := hP.part (cx := [(hp, .inr (5, [.int (nI pm2_16), .long fr2_17, .long wk2_18, .int nr2_20, .ref pd, .ref pt, .ref pb, .long fe2_19])), (pd, .inl (cO, 25, .inr (.inr (.inr (.inr fd))))), (pt, .inl (cI, 25, .inl ft2_21))]) [6, 7, 8] rfl
        have hDc := hD.part (cx := [(hp, .inr (5, [.int (nI pm2_16), .long fr2_17, .long wk2_18, .int nr2_20, .ref pd, .ref pt, .ref pb, .long fe2_19])), (pd, .inl (cO, 25, .inr (.inr (.inr (.inr fd))))), (pt, .inl (cI, 25, .inl ft2_21))]) [6, 7, 8] (by decide) rfl
        have hFc := va_freeP (cx := [(hp, .inr (5, [.int (nI pm2_16), .long fr2_17, .long wk2_18, .int nr2_20, .ref pd, .ref pt, .ref pb, .long fe2_19])), (pd, .inl (cO, 25, .inr (.inr (.inr (.inr fd))))), (pt, .inl (cI, 25, .inl ft2_21))]) hD hS hA [6, 7, 8] rfl
        have hKc := hK.sub (tys' := [(cO, .object RX4), (cI, .int)]) [0, 1] rfl
        refine va_calli (va_runV (As := [.ref mt, .int r_5]) (rest := [.int z_35, .ref ab]) ⟨hx, hb, hml, hown, hts⟩ (c_X5_write l dC dI H.size hp pd pt pb fr2_17 wk2_18 fe2_19 nr2_20 pm2_16 mt r_5 cO fd ft2_21 G Pg cI S_25 (by first | assumption | omega | decide) (by first | assumption | omega | decide) (by first | assumption | omega | decide) (by first | assumption | omega | decide) (by first | assumption | omega | decide) (by first | assumption | omega | decide) (by first | assumption | omega | decide)) (cwV 2 hts g_X1_mend_X5_write rfl rfl rfl (by decide +kernel) ⟨Nat.le_of_ble_eq_true rfl, Nat.le_of_ble_eq_true rfl⟩) ⟨fun a U g mk q => by obtain ⟨q0, q1, qP, qK, qD, qX0, qX1⟩ := q; exact ⟨q0, q1, qP, va_K.moved (u := U) (U := U.calling g mk a) (Vm.Alike.refl U.vm) qK, qD, va_Nw.same (u := U) (U := U.calling g mk a) rfl rfl qX0, va_Nw.same (u := U) (U := U.calling g mk a) rfl rfl qX1⟩, va_recv hKc hPc (ci := 5) (q0 := 0) rfl rfl, fun U hU hW => ⟨rfl, by rw [hU], by rw [hU]; exact hPc, va_K.moved hW.alike hKc, hDc.weaken (fun _ _ _ _ => trivial), va_Nw.warmM hW hNX5_46, va_Nw.warmM hW hNX5_54⟩⟩ rfl rfl hl.1 rfl (lv_room (Nat.le_of_ble_eq_true rfl)) dX1_mend_166 ⟨(show 0 + 0 ≤ 0 by omega), (show 0 + 0 ≤ 0 by omega)⟩) hS (fun q _ h => hFc q h) hFc (fun r_36 u t H1 locs ht hvm hw hB hz1 hk1 hS => ?_)
        obtain ⟨pm2_37, fr2_38, wk2_39, fe2_40, nr2_41, ft2_42, S2_43⟩ := u
        obtain ⟨hP1, hK1, hD1⟩ := hB
        rw [ht] at hP1
        have hK1 := va_K.moved hvm.symm hK1
        try dsimp only at hw
        obtain ⟨hP, hD⟩ := va_joinP (wr := [(eb, .inl (cI, 12, .inl fb)), (ep, .inl (cI, 12, .inl fq)), (hf, .inr (2, [.int dp, .ref qp, .ref qe, .ref ql, .int (nI lo), .int (nI le)])), (qp, .inl (cO, b, .inr (.inr (.inr (.inr fp))))), (he, .inr (1, [.ref hm, .ref hf, .ref hp, .ref eb, .ref ep, .int (nI el), .ref nd, .ref mt, .ref ab])), (hm, .inr (3, [.int mk, .int mc]))]) (rx := [(hp, .inr (5, [.int (nI pm2_37), .long fr2_38, .long wk2_39, .int nr2_41, .ref pd, .ref pt, .ref pb, .long fe2_40])), (pd, .inl (cO, 25, .inr (.inr (.inr (.inr fd))))), (pt, .inl (cI, 25, .inl ft2_42))]) (pl1 := pool G cI Pg S2_43) hP hD [6, 7, 8] [0, 1, 2, 3, 4, 5] rfl rfl (by decide) (by decide) hk1 hFc hP1 hD1
        have hK := (hK.sub (tys' := [(cO, .object RX4), (cI, .int)]) [0, 1] rfl).app hK1
        have hK : va_K (dC, dI) vwCl [(cO, .object RX4), (cI, .int)] s := hK.sub [0, 1] rfl
        generalize H1 = H at hP hS ⊢
        have hP : va_P (dC, dI) vwCl ([(eb, .inl (cI, 12, .inl fb)), (ep, .inl (cI, 12, .inl fq)), (hf, .inr (2, [.int dp, .ref qp, .ref qe, .ref ql, .int (nI lo), .int (nI le)])), (qp, .inl (cO, b, .inr (.inr (.inr (.inr fp))))), (he, .inr (1, [.ref hm, .ref hf, .ref hp, .ref eb, .ref ep, .int (nI el), .ref nd, .ref mt, .ref ab])), (hm, .inr (3, [.int mk, .int mc])), (hp, .inr (5, [.int (nI pm2_37), .long fr2_38, .long wk2_39, .int nr2_41, .ref pd, .ref pt, .ref pb, .long fe2_40])), (pd, .inl (cO, 25, .inr (.inr (.inr (.inr fd))))), (pt, .inl (cI, 25, .inl ft2_42))] ++ pool G cI Pg S2_43) H := hP
        have hD : va_D A ([(eb, .inl (cI, 12, .inl fb)), (ep, .inl (cI, 12, .inl fq)), (hf, .inr (2, [.int dp, .ref qp, .ref qe, .ref ql, .int (nI lo), .int (nI le)])), (qp, .inl (cO, b, .inr (.inr (.inr (.inr fp))))), (he, .inr (1, [.ref hm, .ref hf, .ref hp, .ref eb, .ref ep, .int (nI el), .ref nd, .ref mt, .ref ab])), (hm, .inr (3, [.int mk, .int mc])), (hp, .inr (5, [.int (nI pm2_37), .long fr2_38, .long wk2_39, .int nr2_41, .ref pd, .ref pt, .ref pb, .long fe2_40])), (pd, .inl (cO, 25, .inr (.inr (.inr (.inr fd))))), (pt, .inl (cI, 25, .inl ft2_42))] ++ pool G cI Pg S2_43) := hD
        have hK : va_K (dC, dI) vwCl [(cO, .object RX4), (cI, .int)] s := hK
        have hI := hw.1
        have hw_r_36 := hw
        have hz1_ab := (hI ab hm_ab).1
        have hz2_ab := (hI ab hm_ab).2.1
        have hz3_ab := (hI ab hm_ab).2.2
        have hT9 := in1 hm_ab
        have hPc : va_P (dC, dI) vwCl [(ab, .inr (4, [.int (S2_43 ab).1, .int (nI (S2_43 ab).2.1), .ref (G ab).1, .ref (G ab).2.1])), ((G ab).1, .inl (cI, (G ab).2.2.1, .inl (S2_43 ab).2.2.1)), ((G ab).2.1, .inl (cI, (G ab).2.2.1, .inl (S2_43 ab).2.2.2))] H := pool_cut (T := [ab]) (cx := []) hP hT9 [] rfl
        have hDc : va_D A [(ab, .inr (4, [.int (S2_43 ab).1, .int (nI (S2_43 ab).2.1), .ref (G ab).1, .ref (G ab).2.1])), ((G ab).1, .inl (cI, (G ab).2.2.1, .inl (S2_43 ab).2.2.1)), ((G ab).2.1, .inl (cI, (G ab).2.2.1, .inl (S2_43 ab).2.2.2))] := pool_cutD (T := [ab]) (cx := []) hD hT9 (nd1) [] (by decide) rfl
        have hFc : ∀ q, va_A [(ab, .inr (4, [.int (S2_43 ab).1, .int (nI (S2_43 ab).2.1), .ref (G ab).1, .ref (G ab).2.1])), ((G ab).1, .inl (cI, (G ab).2.2.1, .inl (S2_43 ab).2.2.1)), ((G ab).2.1, .inl (cI, (G ab).2.2.1, .inl (S2_43 ab).2.2.2))] (H).size q → A q := pool_free (T := [ab]) (cx := []) hD hS hA hT9 [] rfl
        have hKc := hK.sub (tys' := [(cI, .int), (cI, .int)]) [1, 1] rfl
        refine va_callv (va_runV (As := [.int z_35, .int r_36]) (rest := []) ⟨hx, hb, hml, hown, hts⟩ (c_X4_setRef l dC dI H.size ab (G ab).1 (G ab).2.1 (G ab).2.2.1 (S2_43 ab).2.1 (S2_43 ab).1 cI cI (S2_43 ab).2.2.1 (S2_43 ab).2.2.2 z_35 r_36 (by first | assumption | omega | decide) (by first | assumption | omega | decide)) (cwV 2 hts g_X1_mend_X4_setRef rfl rfl rfl (by decide +kernel) ⟨Nat.le_of_ble_eq_true rfl, Nat.le_of_ble_eq_true rfl⟩) ⟨fun a U g mk q => by obtain ⟨q0, q1, qP, qK, qD⟩ := q; exact ⟨q0, q1, qP, va_K.moved (u := U) (U := U.calling g mk a) (Vm.Alike.refl U.vm) qK, qD⟩, va_recv hKc hPc (ci := 4) (q0 := 0) rfl rfl, fun U hU hW => ⟨rfl, by rw [hU], by rw [hU]; exact hPc, va_K.moved hW.alike hKc, hDc.weaken (fun _ _ _ _ => trivial)⟩⟩ rfl rfl hl.1 rfl (lv_room (Nat.le_of_ble_eq_true rfl)) dX1_mend_169 ⟨(show 0 + 0 ≤ 0 by omega), (show 0 + 0 ≤ 0 by omega)⟩) hS (fun q _ h => hFc q h) hFc (fun u t H1 locs ht hvm hw hB hz1 hk1 hS => ?_)
        obtain ⟨f2_45, rfl⟩ : ∃ z, z = u := ⟨_, rfl⟩
        obtain ⟨hP1, hK1, hD1⟩ := hB
        rw [ht] at hP1
        have hK1 := va_K.moved hvm.symm hK1
        try dsimp only at hw
        obtain ⟨hP, hD⟩ := pool_join (S := S2_43) (S1 := (fun _ => ((S2_43 ab).1, (S2_43 ab).2.1, (S2_43 ab).2.2.1, f2_45))) (T := [ab]) (cx := []) (wr := [(eb, .inl (cI, 12, .inl fb)), (ep, .inl (cI, 12, .inl fq)), (hf, .inr (2, [.int dp, .ref qp, .ref qe, .ref ql, .int (nI lo), .int (nI le)])), (qp, .inl (cO, b, .inr (.inr (.inr (.inr fp))))), (he, .inr (1, [.ref hm, .ref hf, .ref hp, .ref eb, .ref ep, .int (nI el), .ref nd, .ref mt, .ref ab])), (hm, .inr (3, [.int mk, .int mc])), (hp, .inr (5, [.int (nI pm2_37), .long fr2_38, .long wk2_39, .int nr2_41, .ref pd, .ref pt, .ref pb, .long fe2_40])), (pd, .inl (cO, 25, .inr (.inr (.inr (.inr fd))))), (pt, .inl (cI, 25, .inl ft2_42))]) (rx := []) hP hD hT9 [] [0, 1, 2, 3, 4, 5, 6, 7, 8] rfl rfl (by decide) (by decide) hk1 hFc hP1 hD1
        obtain ⟨S_46, eS_46⟩ : ∃ x, x = pgJ [ab] (fun _ => ((S2_43 ab).1, (S2_43 ab).2.1, (S2_43 ab).2.2.1, f2_45)) S2_43 := ⟨_, rfl⟩
        rw [← eS_46] at hP hD
        have hK := (hK.sub (tys' := [(cO, .object RX4), (cI, .int)]) [0, 1] rfl).app hK1
        have hK : va_K (dC, dI) vwCl [(cO, .object RX4), (cI, .int)] s := hK.sub [0, 1] rfl
        generalize H1 = H at hP hS ⊢
        have hP : va_P (dC, dI) vwCl ([(eb, .inl (cI, 12, .inl fb)), (ep, .inl (cI, 12, .inl fq)), (hf, .inr (2, [.int dp, .ref qp, .ref qe, .ref ql, .int (nI lo), .int (nI le)])), (qp, .inl (cO, b, .inr (.inr (.inr (.inr fp))))), (he, .inr (1, [.ref hm, .ref hf, .ref hp, .ref eb, .ref ep, .int (nI el), .ref nd, .ref mt, .ref ab])), (hm, .inr (3, [.int mk, .int mc])), (hp, .inr (5, [.int (nI pm2_37), .long fr2_38, .long wk2_39, .int nr2_41, .ref pd, .ref pt, .ref pb, .long fe2_40])), (pd, .inl (cO, 25, .inr (.inr (.inr (.inr fd))))), (pt, .inl (cI, 25, .inl ft2_42))] ++ pool G cI Pg S_46) H := hP
        have hD : va_D A ([(eb, .inl (cI, 12, .inl fb)), (ep, .inl (cI, 12, .inl fq)), (hf, .inr (2, [.int dp, .ref qp, .ref qe, .ref ql, .int (nI lo), .int (nI le)])), (qp, .inl (cO, b, .inr (.inr (.inr (.inr fp))))), (he, .inr (1, [.ref hm, .ref hf, .ref hp, .ref eb, .ref ep, .int (nI el), .ref nd, .ref mt, .ref ab])), (hm, .inr (3, [.int mk, .int mc])), (hp, .inr (5, [.int (nI pm2_37), .long fr2_38, .long wk2_39, .int nr2_41, .ref pd, .ref pt, .ref pb, .long fe2_40])), (pd, .inl (cO, 25, .inr (.inr (.inr (.inr fd))))), (pt, .inl (cI, 25, .inl ft2_42))] ++ pool G cI Pg S_46) := hD
        have hK : va_K (dC, dI) vwCl [(cO, .object RX4), (cI, .int)] s := hK
        have hI : pgI G Pg S_46 := by rw [eS_46]; exact pgI_1 hI (by first | assumption | exact Or.inl rfl | exact Or.inr rfl | exact hw.2.1 | exact hw.1) (by first | assumption | omega)
        refine lv_aload_n hx hb dX1_mend_172 rfl (lv_at hl 4 rfl) ?_
        refine va_get (D := (dC, dI)) (ci := 1) (v := .ref ab) (C := RX1) (T := TX1) (N := 9) hx hb hts k_5 hown hK hP 4 rfl rfl 8 (by decide) k_6 (fun _ h9 => h9) rfl dX1_mend_173 ?_
        refine lv_iload_n hx hb dX1_mend_176 rfl (lv_at hl 3 rfl) ?_
        refine lv_iconst (v := 1) hx hb dX1_mend_177 (by decide) ?_
        refine lv_iadd hx hb dX1_mend_178 ?_
        refine lv_topi (fun z_47 _ => ?_)
        refine lv_aload_n hx hb dX1_mend_179 rfl (lv_at hl 4 rfl) ?_
        refine va_get (D := (dC, dI)) (ci := 1) (v := .ref mt) (C := RX1) (T := TX1) (N := 9) hx hb hts k_5 hown hK hP 4 rfl rfl 7 (by decide) k_7 (fun _ h9 => h9) rfl dX1_mend_180 ?_
        refine lv_iconst (v := 0) hx hb dX1_mend_183 (by decide) ?_
        have hz1_mt := (hI mt hm_mt).1
        have hz2_mt := (hI mt hm_mt).2.1
        have hz3_mt := (hI mt hm_mt).2.2
        have hT9 := in1 hm_mt
        have hPc : va_P (dC, dI) vwCl [(mt, .inr (4, [.int (S_46 mt).1, .int (nI (S_46 mt).2.1), .ref (G mt).1, .ref (G mt).2.1])), ((G mt).1, .inl (cI, (G mt).2.2.1, .inl (S_46 mt).2.2.1)), ((G mt).2.1, .inl (cI, (G mt).2.2.1, .inl (S_46 mt).2.2.2))] H := pool_cut (T := [mt]) (cx := []) hP hT9 [] rfl
        have hDc : va_D A [(mt, .inr (4, [.int (S_46 mt).1, .int (nI (S_46 mt).2.1), .ref (G mt).1, .ref (G mt).2.1])), ((G mt).1, .inl (cI, (G mt).2.2.1, .inl (S_46 mt).2.2.1)), ((G mt).2.1, .inl (cI, (G mt).2.2.1, .inl (S_46 mt).2.2.2))] := pool_cutD (T := [mt]) (cx := []) hD hT9 (nd1) [] (by decide) rfl
        have hFc : ∀ q, va_A [(mt, .inr (4, [.int (S_46 mt).1, .int (nI (S_46 mt).2.1), .ref (G mt).1, .ref (G mt).2.1])), ((G mt).1, .inl (cI, (G mt).2.2.1, .inl (S_46 mt).2.2.1)), ((G mt).2.1, .inl (cI, (G mt).2.2.1, .inl (S_46 mt).2.2.2))] (H).size q → A q := pool_free (T := [mt]) (cx := []) hD hS hA hT9 [] rfl
        have hKc := hK.sub (tys' := [(cI, .int), (cI, .int)]) [1, 1] rfl
        refine va_calli (va_runV (As := [.int 0]) (rest := [.int z_47, .ref ab]) ⟨hx, hb, hml, hown, hts⟩ (c_X4_keyAt l dC dI H.size mt (G mt).1 (G mt).2.1 (G mt).2.2.1 (S_46 mt).2.1 (S_46 mt).1 cI cI (S_46 mt).2.2.1 (S_46 mt).2.2.2 0 (by first | assumption | omega | decide) (by first | assumption | omega | decide)) (cwV 1 hts g_X1_mend_X4_keyAt rfl rfl rfl (by decide +kernel) ⟨Nat.le_of_ble_eq_true rfl, Nat.le_of_ble_eq_true rfl⟩) ⟨fun a U g mk q => by obtain ⟨q0, q1, qP, qK, qD⟩ := q; exact ⟨q0, q1, qP, va_K.moved (u := U) (U := U.calling g mk a) (Vm.Alike.refl U.vm) qK, qD⟩, va_recv hKc hPc (ci := 4) (q0 := 0) rfl rfl, fun U hU hW => ⟨rfl, by rw [hU], by rw [hU]; exact hPc, va_K.moved hW.alike hKc, hDc.weaken (fun _ _ _ _ => trivial)⟩⟩ rfl rfl hl.1 rfl (lv_room (Nat.le_of_ble_eq_true rfl)) dX1_mend_184 ⟨(show 0 + 0 ≤ 0 by omega), (show 0 + 0 ≤ 0 by omega)⟩) hS (fun q _ h => hFc q h) hFc (fun r_48 u t H1 locs ht hvm hw hB hz1 hk1 hS => ?_)
        obtain ⟨hP1, hK1, hD1⟩ := hB
        rw [ht] at hP1
        have hK1 := va_K.moved hvm.symm hK1
        try dsimp only at hw
        obtain ⟨hP, hD⟩ := pool_join (S := S_46) (S1 := S_46) (T := [mt]) (cx := []) (wr := [(eb, .inl (cI, 12, .inl fb)), (ep, .inl (cI, 12, .inl fq)), (hf, .inr (2, [.int dp, .ref qp, .ref qe, .ref ql, .int (nI lo), .int (nI le)])), (qp, .inl (cO, b, .inr (.inr (.inr (.inr fp))))), (he, .inr (1, [.ref hm, .ref hf, .ref hp, .ref eb, .ref ep, .int (nI el), .ref nd, .ref mt, .ref ab])), (hm, .inr (3, [.int mk, .int mc])), (hp, .inr (5, [.int (nI pm2_37), .long fr2_38, .long wk2_39, .int nr2_41, .ref pd, .ref pt, .ref pb, .long fe2_40])), (pd, .inl (cO, 25, .inr (.inr (.inr (.inr fd))))), (pt, .inl (cI, 25, .inl ft2_42))]) (rx := []) hP hD hT9 [] [0, 1, 2, 3, 4, 5, 6, 7, 8] rfl rfl (by decide) (by decide) hk1 hFc hP1 hD1
        rw [pgJ_same] at hP hD
        have hK := (hK.sub (tys' := [(cO, .object RX4), (cI, .int)]) [0, 1] rfl).app hK1
        have hK : va_K (dC, dI) vwCl [(cO, .object RX4), (cI, .int)] s := hK.sub [0, 1] rfl
        generalize H1 = H at hP hS ⊢
        have hP : va_P (dC, dI) vwCl ([(eb, .inl (cI, 12, .inl fb)), (ep, .inl (cI, 12, .inl fq)), (hf, .inr (2, [.int dp, .ref qp, .ref qe, .ref ql, .int (nI lo), .int (nI le)])), (qp, .inl (cO, b, .inr (.inr (.inr (.inr fp))))), (he, .inr (1, [.ref hm, .ref hf, .ref hp, .ref eb, .ref ep, .int (nI el), .ref nd, .ref mt, .ref ab])), (hm, .inr (3, [.int mk, .int mc])), (hp, .inr (5, [.int (nI pm2_37), .long fr2_38, .long wk2_39, .int nr2_41, .ref pd, .ref pt, .ref pb, .long fe2_40])), (pd, .inl (cO, 25, .inr (.inr (.inr (.inr fd))))), (pt, .inl (cI, 25, .inl ft2_42))] ++ pool G cI Pg S_46) H := hP
        have hD : va_D A ([(eb, .inl (cI, 12, .inl fb)), (ep, .inl (cI, 12, .inl fq)), (hf, .inr (2, [.int dp, .ref qp, .ref qe, .ref ql, .int (nI lo), .int (nI le)])), (qp, .inl (cO, b, .inr (.inr (.inr (.inr fp))))), (he, .inr (1, [.ref hm, .ref hf, .ref hp, .ref eb, .ref ep, .int (nI el), .ref nd, .ref mt, .ref ab])), (hm, .inr (3, [.int mk, .int mc])), (hp, .inr (5, [.int (nI pm2_37), .long fr2_38, .long wk2_39, .int nr2_41, .ref pd, .ref pt, .ref pb, .long fe2_40])), (pd, .inl (cO, 25, .inr (.inr (.inr (.inr fd))))), (pt, .inl (cI, 25, .inl ft2_42))] ++ pool G cI Pg S_46) := hD
        have hK : va_K (dC, dI) vwCl [(cO, .object RX4), (cI, .int)] s := hK
        have hw_r_48 := hw
        have hz1_ab := (hI ab hm_ab).1
        have hz2_ab := (hI ab hm_ab).2.1
        have hz3_ab := (hI ab hm_ab).2.2
        have hT9 := in1 hm_ab
        have hPc : va_P (dC, dI) vwCl [(ab, .inr (4, [.int (S_46 ab).1, .int (nI (S_46 ab).2.1), .ref (G ab).1, .ref (G ab).2.1])), ((G ab).1, .inl (cI, (G ab).2.2.1, .inl (S_46 ab).2.2.1)), ((G ab).2.1, .inl (cI, (G ab).2.2.1, .inl (S_46 ab).2.2.2))] H := pool_cut (T := [ab]) (cx := []) hP hT9 [] rfl
        have hDc : va_D A [(ab, .inr (4, [.int (S_46 ab).1, .int (nI (S_46 ab).2.1), .ref (G ab).1, .ref (G ab).2.1])), ((G ab).1, .inl (cI, (G ab).2.2.1, .inl (S_46 ab).2.2.1)), ((G ab).2.1, .inl (cI, (G ab).2.2.1, .inl (S_46 ab).2.2.2))] := pool_cutD (T := [ab]) (cx := []) hD hT9 (nd1) [] (by decide) rfl
        have hFc : ∀ q, va_A [(ab, .inr (4, [.int (S_46 ab).1, .int (nI (S_46 ab).2.1), .ref (G ab).1, .ref (G ab).2.1])), ((G ab).1, .inl (cI, (G ab).2.2.1, .inl (S_46 ab).2.2.1)), ((G ab).2.1, .inl (cI, (G ab).2.2.1, .inl (S_46 ab).2.2.2))] (H).size q → A q := pool_free (T := [ab]) (cx := []) hD hS hA hT9 [] rfl
        have hKc := hK.sub (tys' := [(cI, .int), (cI, .int)]) [1, 1] rfl
        refine va_callv (va_runV (As := [.int z_47, .int r_48]) (rest := []) ⟨hx, hb, hml, hown, hts⟩ (c_X4_setKey l dC dI H.size ab (G ab).1 (G ab).2.1 (G ab).2.2.1 (S_46 ab).2.1 (S_46 ab).1 cI cI (S_46 ab).2.2.1 (S_46 ab).2.2.2 z_47 r_48 (by first | assumption | omega | decide) (by first | assumption | omega | decide)) (cwV 2 hts g_X1_mend_X4_setKey rfl rfl rfl (by decide +kernel) ⟨Nat.le_of_ble_eq_true rfl, Nat.le_of_ble_eq_true rfl⟩) ⟨fun a U g mk q => by obtain ⟨q0, q1, qP, qK, qD⟩ := q; exact ⟨q0, q1, qP, va_K.moved (u := U) (U := U.calling g mk a) (Vm.Alike.refl U.vm) qK, qD⟩, va_recv hKc hPc (ci := 4) (q0 := 0) rfl rfl, fun U hU hW => ⟨rfl, by rw [hU], by rw [hU]; exact hPc, va_K.moved hW.alike hKc, hDc.weaken (fun _ _ _ _ => trivial)⟩⟩ rfl rfl hl.1 rfl (lv_room (Nat.le_of_ble_eq_true rfl)) dX1_mend_187 ⟨(show 0 + 0 ≤ 0 by omega), (show 0 + 0 ≤ 0 by omega)⟩) hS (fun q _ h => hFc q h) hFc (fun u t H1 locs ht hvm hw hB hz1 hk1 hS => ?_)
        obtain ⟨f2_50, rfl⟩ : ∃ z, z = u := ⟨_, rfl⟩
        obtain ⟨hP1, hK1, hD1⟩ := hB
        rw [ht] at hP1
        have hK1 := va_K.moved hvm.symm hK1
        try dsimp only at hw
        obtain ⟨hP, hD⟩ := pool_join (S := S_46) (S1 := (fun _ => ((S_46 ab).1, (S_46 ab).2.1, f2_50, (S_46 ab).2.2.2))) (T := [ab]) (cx := []) (wr := [(eb, .inl (cI, 12, .inl fb)), (ep, .inl (cI, 12, .inl fq)), (hf, .inr (2, [.int dp, .ref qp, .ref qe, .ref ql, .int (nI lo), .int (nI le)])), (qp, .inl (cO, b, .inr (.inr (.inr (.inr fp))))), (he, .inr (1, [.ref hm, .ref hf, .ref hp, .ref eb, .ref ep, .int (nI el), .ref nd, .ref mt, .ref ab])), (hm, .inr (3, [.int mk, .int mc])), (hp, .inr (5, [.int (nI pm2_37), .long fr2_38, .long wk2_39, .int nr2_41, .ref pd, .ref pt, .ref pb, .long fe2_40])), (pd, .inl (cO, 25, .inr (.inr (.inr (.inr fd))))), (pt, .inl (cI, 25, .inl ft2_42))]) (rx := []) hP hD hT9 [] [0, 1, 2, 3, 4, 5, 6, 7, 8] rfl rfl (by decide) (by decide) hk1 hFc hP1 hD1
        obtain ⟨S_51, eS_51⟩ : ∃ x, x = pgJ [ab] (fun _ => ((S_46 ab).1, (S_46 ab).2.1, f2_50, (S_46 ab).2.2.2)) S_46 := ⟨_, rfl⟩
        rw [← eS_51] at hP hD
        have hK := (hK.sub (tys' := [(cO, .object RX4), (cI, .int)]) [0, 1] rfl).app hK1
        have hK : va_K (dC, dI) vwCl [(cO, .object RX4), (cI, .int)] s := hK.sub [0, 1] rfl
        generalize H1 = H at hP hS ⊢
        have hP : va_P (dC, dI) vwCl ([(eb, .inl (cI, 12, .inl fb)), (ep, .inl (cI, 12, .inl fq)), (hf, .inr (2, [.int dp, .ref qp, .ref qe, .ref ql, .int (nI lo), .int (nI le)])), (qp, .inl (cO, b, .inr (.inr (.inr (.inr fp))))), (he, .inr (1, [.ref hm, .ref hf, .ref hp, .ref eb, .ref ep, .int (nI el), .ref nd, .ref mt, .ref ab])), (hm, .inr (3, [.int mk, .int mc])), (hp, .inr (5, [.int (nI pm2_37), .long fr2_38, .long wk2_39, .int nr2_41, .ref pd, .ref pt, .ref pb, .long fe2_40])), (pd, .inl (cO, 25, .inr (.inr (.inr (.inr fd))))), (pt, .inl (cI, 25, .inl ft2_42))] ++ pool G cI Pg S_51) H := hP
        have hD : va_D A ([(eb, .inl (cI, 12, .inl fb)), (ep, .inl (cI, 12, .inl fq)), (hf, .inr (2, [.int dp, .ref qp, .ref qe, .ref ql, .int (nI lo), .int (nI le)])), (qp, .inl (cO, b, .inr (.inr (.inr (.inr fp))))), (he, .inr (1, [.ref hm, .ref hf, .ref hp, .ref eb, .ref ep, .int (nI el), .ref nd, .ref mt, .ref ab])), (hm, .inr (3, [.int mk, .int mc])), (hp, .inr (5, [.int (nI pm2_37), .long fr2_38, .long wk2_39, .int nr2_41, .ref pd, .ref pt, .ref pb, .long fe2_40])), (pd, .inl (cO, 25, .inr (.inr (.inr (.inr fd))))), (pt, .inl (cI, 25, .inl ft2_42))] ++ pool G cI Pg S_51) := hD
        have hK : va_K (dC, dI) vwCl [(cO, .object RX4), (cI, .int)] s := hK
        have hI : pgI G Pg S_51 := by rw [eS_51]; exact pgI_1 hI (by first | assumption | exact Or.inl rfl | exact Or.inr rfl | exact hw.2.1 | exact hw.1) (by first | assumption | omega)
        refine lv_goto (tgt := 212) hx hb dX1_mend_190 (by decide) ?_
        have hP9 := hP.part (cx := [(he, .inr (1, [.ref hm, .ref hf, .ref hp, .ref eb, .ref ep, .int (nI el), .ref nd, .ref mt, .ref ab])), (eb, .inl (cI, 12, .inl fb)), (ep, .inl (cI, 12, .inl fq)), (hm, .inr (3, [.int mk, .int mc])), (hf, .inr (2, [.int dp, .ref qp, .ref qe, .ref ql, .int (nI lo), .int (nI le)])), (qp, .inl (cO, b, .inr (.inr (.inr (.inr fp))))), (hp, .inr (5, [.int (nI pm2_37), .long fr2_38, .long wk2_39, .int nr2_41, .ref pd, .ref pt, .ref pb, .long fe2_40])), (pd, .inl (cO, 25, .inr (.inr (.inr (.inr fd))))), (pt, .inl (cI, 25, .inl ft2_42))]) [4, 0, 1, 5, 2, 3, 6, 7, 8] rfl
        have hD9 := hD.part (cx := [(he, .inr (1, [.ref hm, .ref hf, .ref hp, .ref eb, .ref ep, .int (nI el), .ref nd, .ref mt, .ref ab])), (eb, .inl (cI, 12, .inl fb)), (ep, .inl (cI, 12, .inl fq)), (hm, .inr (3, [.int mk, .int mc])), (hf, .inr (2, [.int dp, .ref qp, .ref qe, .ref ql, .int (nI lo), .int (nI le)])), (qp, .inl (cO, b, .inr (.inr (.inr (.inr fp))))), (hp, .inr (5, [.int (nI pm2_37), .long fr2_38, .long wk2_39, .int nr2_41, .ref pd, .ref pt, .ref pb, .long fe2_40])), (pd, .inl (cO, 25, .inr (.inr (.inr (.inr fd))))), (pt, .inl (cI, 25, .inl ft2_42))]) [4, 0, 1, 5, 2, 3, 6, 7, 8] (by decide) rfl
        have hK9 := hK.sub (tys' := [(cO, .object RX4), (cI, .int)]) [0, 1] rfl
        exact W.vret hx hb hr (fun t ht hW => ⟨⟨(pm2_37, fr2_38, wk2_39, fe2_40, nr2_41, ft2_42, S_51), rfl, ⟨hI, by omega⟩, by rw [ht]; exact hP9, va_K.moved hW.alike hK9, hD9⟩, hS.F ht⟩) hS.2.2 dX1_mend_212
    refine lv_if_ne (tgt := 106) hx hb dX1_mend_85 (by decide) (fun c_52 => ?_) (fun c_52 => ?_)
    · exact jn_7 Sj _ _ _ hI hP hD hS (lv_sub hl [0, 1, 2, 3, 4] rfl)
    · refine lv_aload_n hx hb dX1_mend_88 rfl (lv_at hl 3 rfl) ?_
      refine va_get (D := (dC, dI)) (ci := 1) (v := .ref mt) (C := RX1) (T := TX1) (N := 9) hx hb hts k_5 hown hK hP 0 rfl rfl 7 (by decide) k_7 (fun _ h9 => h9) rfl dX1_mend_89 ?_
      refine lv_iconst (v := 0) hx hb dX1_mend_92 (by decide) ?_
      refine lv_aload_n hx hb dX1_mend_93 rfl (lv_at hl 3 rfl) ?_
      refine va_get (D := (dC, dI)) (ci := 1) (v := .ref ab) (C := RX1) (T := TX1) (N := 9) hx hb hts k_5 hown hK hP 0 rfl rfl 8 (by decide) k_6 (fun _ h9 => h9) rfl dX1_mend_94 ?_
      refine lv_iload_n hx hb dX1_mend_97 rfl (lv_at hl 2 rfl) ?_
      refine lv_iconst (v := 1) hx hb dX1_mend_98 (by decide) ?_
      refine lv_iadd hx hb dX1_mend_99 ?_
      refine lv_topi (fun z_53 _ => ?_)
      have hz1_ab := (hI ab hm_ab).1
      have hz2_ab := (hI ab hm_ab).2.1
      have hz3_ab := (hI ab hm_ab).2.2
      have hT9 := in1 hm_ab
      have hPc : va_P (dC, dI) vwCl [(ab, .inr (4, [.int (Sj ab).1, .int (nI (Sj ab).2.1), .ref (G ab).1, .ref (G ab).2.1])), ((G ab).1, .inl (cI, (G ab).2.2.1, .inl (Sj ab).2.2.1)), ((G ab).2.1, .inl (cI, (G ab).2.2.1, .inl (Sj ab).2.2.2))] H := pool_cut (T := [ab]) (cx := []) hP hT9 [] rfl
      have hDc : va_D A [(ab, .inr (4, [.int (Sj ab).1, .int (nI (Sj ab).2.1), .ref (G ab).1, .ref (G ab).2.1])), ((G ab).1, .inl (cI, (G ab).2.2.1, .inl (Sj ab).2.2.1)), ((G ab).2.1, .inl (cI, (G ab).2.2.1, .inl (Sj ab).2.2.2))] := pool_cutD (T := [ab]) (cx := []) hD hT9 (nd1) [] (by decide) rfl
      have hFc : ∀ q, va_A [(ab, .inr (4, [.int (Sj ab).1, .int (nI (Sj ab).2.1), .ref (G ab).1, .ref (G ab).2.1])), ((G ab).1, .inl (cI, (G ab).2.2.1, .inl (Sj ab).2.2.1)), ((G ab).2.1, .inl (cI, (G ab).2.2.1, .inl (Sj ab).2.2.2))] (H).size q → A q := pool_free (T := [ab]) (cx := []) hD hS hA hT9 [] rfl
      have hKc := hK.sub (tys' := [(cI, .int), (cI, .int)]) [1, 1] rfl
      refine va_calli (va_runV (As := [.int z_53]) (rest := [.int 0, .ref mt]) ⟨hx, hb, hml, hown, hts⟩ (c_X4_keyAt l dC dI H.size ab (G ab).1 (G ab).2.1 (G ab).2.2.1 (Sj ab).2.1 (Sj ab).1 cI cI (Sj ab).2.2.1 (Sj ab).2.2.2 z_53 (by first | assumption | omega | decide) (by first | assumption | omega | decide)) (cwV 1 hts g_X1_mend_X4_keyAt rfl rfl rfl (by decide +kernel) ⟨Nat.le_of_ble_eq_true rfl, Nat.le_of_ble_eq_true rfl⟩) ⟨fun a U g mk q => by obtain ⟨q0, q1, qP, qK, qD⟩ := q; exact ⟨q0, q1, qP, va_K.moved (u := U) (U := U.calling g mk a) (Vm.Alike.refl U.vm) qK, qD⟩, va_recv hKc hPc (ci := 4) (q0 := 0) rfl rfl, fun U hU hW => ⟨rfl, by rw [hU], by rw [hU]; exact hPc, va_K.moved hW.alike hKc, hDc.weaken (fun _ _ _ _ => trivial)⟩⟩ rfl rfl hl.1 rfl (lv_room (Nat.le_of_ble_eq_true rfl)) dX1_mend_100 ⟨(show 0 + 0 ≤ 0 by omega), (show 0 + 0 ≤ 0 by omega)⟩) hS (fun q _ h => hFc q h) hFc (fun r_54 u t H1 locs ht hvm hw hB hz1 hk1 hS => ?_)
      obtain ⟨hP1, hK1, hD1⟩ := hB
      rw [ht] at hP1
      have hK1 := va_K.moved hvm.symm hK1
      try dsimp only at hw
      obtain ⟨hP, hD⟩ := pool_join (S := Sj) (S1 := Sj) (T := [ab]) (cx := []) (wr := [(he, .inr (1, [.ref hm, .ref hf, .ref hp, .ref eb, .ref ep, .int (nI el), .ref nd, .ref mt, .ref ab])), (eb, .inl (cI, 12, .inl fb)), (ep, .inl (cI, 12, .inl fq)), (hm, .inr (3, [.int mk, .int mc])), (hf, .inr (2, [.int dp, .ref qp, .ref qe, .ref ql, .int (nI lo), .int (nI le)])), (qp, .inl (cO, b, .inr (.inr (.inr (.inr fp))))), (hp, .inr (5, [.int (nI pm), .long fr, .long wk, .int nr, .ref pd, .ref pt, .ref pb, .long fe])), (pd, .inl (cO, 25, .inr (.inr (.inr (.inr fd))))), (pt, .inl (cI, 25, .inl ft))]) (rx := []) hP hD hT9 [] [0, 1, 2, 3, 4, 5, 6, 7, 8] rfl rfl (by decide) (by decide) hk1 hFc hP1 hD1
      rw [pgJ_same] at hP hD
      have hK := (hK.sub (tys' := [(cO, .object RX4), (cI, .int)]) [0, 1] rfl).app hK1
      have hK : va_K (dC, dI) vwCl [(cO, .object RX4), (cI, .int)] s := hK.sub [0, 1] rfl
      generalize H1 = H at hP hS ⊢
      have hP : va_P (dC, dI) vwCl ([(he, .inr (1, [.ref hm, .ref hf, .ref hp, .ref eb, .ref ep, .int (nI el), .ref nd, .ref mt, .ref ab])), (eb, .inl (cI, 12, .inl fb)), (ep, .inl (cI, 12, .inl fq)), (hm, .inr (3, [.int mk, .int mc])), (hf, .inr (2, [.int dp, .ref qp, .ref qe, .ref ql, .int (nI lo), .int (nI le)])), (qp, .inl (cO, b, .inr (.inr (.inr (.inr fp))))), (hp, .inr (5, [.int (nI pm), .long fr, .long wk, .int nr, .ref pd, .ref pt, .ref pb, .long fe])), (pd, .inl (cO, 25, .inr (.inr (.inr (.inr fd))))), (pt, .inl (cI, 25, .inl ft))] ++ pool G cI Pg Sj) H := hP
      have hD : va_D A ([(he, .inr (1, [.ref hm, .ref hf, .ref hp, .ref eb, .ref ep, .int (nI el), .ref nd, .ref mt, .ref ab])), (eb, .inl (cI, 12, .inl fb)), (ep, .inl (cI, 12, .inl fq)), (hm, .inr (3, [.int mk, .int mc])), (hf, .inr (2, [.int dp, .ref qp, .ref qe, .ref ql, .int (nI lo), .int (nI le)])), (qp, .inl (cO, b, .inr (.inr (.inr (.inr fp))))), (hp, .inr (5, [.int (nI pm), .long fr, .long wk, .int nr, .ref pd, .ref pt, .ref pb, .long fe])), (pd, .inl (cO, 25, .inr (.inr (.inr (.inr fd))))), (pt, .inl (cI, 25, .inl ft))] ++ pool G cI Pg Sj) := hD
      have hK : va_K (dC, dI) vwCl [(cO, .object RX4), (cI, .int)] s := hK
      have hw_r_54 := hw
      have hz1_mt := (hI mt hm_mt).1
      have hz2_mt := (hI mt hm_mt).2.1
      have hz3_mt := (hI mt hm_mt).2.2
      have hT9 := in1 hm_mt
      have hPc : va_P (dC, dI) vwCl [(mt, .inr (4, [.int (Sj mt).1, .int (nI (Sj mt).2.1), .ref (G mt).1, .ref (G mt).2.1])), ((G mt).1, .inl (cI, (G mt).2.2.1, .inl (Sj mt).2.2.1)), ((G mt).2.1, .inl (cI, (G mt).2.2.1, .inl (Sj mt).2.2.2))] H := pool_cut (T := [mt]) (cx := []) hP hT9 [] rfl
      have hDc : va_D A [(mt, .inr (4, [.int (Sj mt).1, .int (nI (Sj mt).2.1), .ref (G mt).1, .ref (G mt).2.1])), ((G mt).1, .inl (cI, (G mt).2.2.1, .inl (Sj mt).2.2.1)), ((G mt).2.1, .inl (cI, (G mt).2.2.1, .inl (Sj mt).2.2.2))] := pool_cutD (T := [mt]) (cx := []) hD hT9 (nd1) [] (by decide) rfl
      have hFc : ∀ q, va_A [(mt, .inr (4, [.int (Sj mt).1, .int (nI (Sj mt).2.1), .ref (G mt).1, .ref (G mt).2.1])), ((G mt).1, .inl (cI, (G mt).2.2.1, .inl (Sj mt).2.2.1)), ((G mt).2.1, .inl (cI, (G mt).2.2.1, .inl (Sj mt).2.2.2))] (H).size q → A q := pool_free (T := [mt]) (cx := []) hD hS hA hT9 [] rfl
      have hKc := hK.sub (tys' := [(cI, .int), (cI, .int)]) [1, 1] rfl
      refine va_callv (va_runV (As := [.int 0, .int r_54]) (rest := []) ⟨hx, hb, hml, hown, hts⟩ (c_X4_setKey l dC dI H.size mt (G mt).1 (G mt).2.1 (G mt).2.2.1 (Sj mt).2.1 (Sj mt).1 cI cI (Sj mt).2.2.1 (Sj mt).2.2.2 0 r_54 (by first | assumption | omega | decide) (by first | assumption | omega | decide)) (cwV 2 hts g_X1_mend_X4_setKey rfl rfl rfl (by decide +kernel) ⟨Nat.le_of_ble_eq_true rfl, Nat.le_of_ble_eq_true rfl⟩) ⟨fun a U g mk q => by obtain ⟨q0, q1, qP, qK, qD⟩ := q; exact ⟨q0, q1, qP, va_K.moved (u := U) (U := U.calling g mk a) (Vm.Alike.refl U.vm) qK, qD⟩, va_recv hKc hPc (ci := 4) (q0 := 0) rfl rfl, fun U hU hW => ⟨rfl, by rw [hU], by rw [hU]; exact hPc, va_K.moved hW.alike hKc, hDc.weaken (fun _ _ _ _ => trivial)⟩⟩ rfl rfl hl.1 rfl (lv_room (Nat.le_of_ble_eq_true rfl)) dX1_mend_103 ⟨(show 0 + 0 ≤ 0 by omega), (show 0 + 0 ≤ 0 by omega)⟩) hS (fun q _ h => hFc q h) hFc (fun u t H1 locs ht hvm hw hB hz1 hk1 hS => ?_)
      obtain ⟨f2_56, rfl⟩ : ∃ z, z = u := ⟨_, rfl⟩
      obtain ⟨hP1, hK1, hD1⟩ := hB
      rw [ht] at hP1
      have hK1 := va_K.moved hvm.symm hK1
      try dsimp only at hw
      obtain ⟨hP, hD⟩ := pool_join (S := Sj) (S1 := (fun _ => ((Sj mt).1, (Sj mt).2.1, f2_56, (Sj mt).2.2.2))) (T := [mt]) (cx := []) (wr := [(he, .inr (1, [.ref hm, .ref hf, .ref hp, .ref eb, .ref ep, .int (nI el), .ref nd, .ref mt, .ref ab])), (eb, .inl (cI, 12, .inl fb)), (ep, .inl (cI, 12, .inl fq)), (hm, .inr (3, [.int mk, .int mc])), (hf, .inr (2, [.int dp, .ref qp, .ref qe, .ref ql, .int (nI lo), .int (nI le)])), (qp, .inl (cO, b, .inr (.inr (.inr (.inr fp))))), (hp, .inr (5, [.int (nI pm), .long fr, .long wk, .int nr, .ref pd, .ref pt, .ref pb, .long fe])), (pd, .inl (cO, 25, .inr (.inr (.inr (.inr fd))))), (pt, .inl (cI, 25, .inl ft))]) (rx := []) hP hD hT9 [] [0, 1, 2, 3, 4, 5, 6, 7, 8] rfl rfl (by decide) (by decide) hk1 hFc hP1 hD1
      obtain ⟨S_57, eS_57⟩ : ∃ x, x = pgJ [mt] (fun _ => ((Sj mt).1, (Sj mt).2.1, f2_56, (Sj mt).2.2.2)) Sj := ⟨_, rfl⟩
      rw [← eS_57] at hP hD
      have hK := (hK.sub (tys' := [(cO, .object RX4), (cI, .int)]) [0, 1] rfl).app hK1
      have hK : va_K (dC, dI) vwCl [(cO, .object RX4), (cI, .int)] s := hK.sub [0, 1] rfl
      generalize H1 = H at hP hS ⊢
      have hP : va_P (dC, dI) vwCl ([(he, .inr (1, [.ref hm, .ref hf, .ref hp, .ref eb, .ref ep, .int (nI el), .ref nd, .ref mt, .ref ab])), (eb, .inl (cI, 12, .inl fb)), (ep, .inl (cI, 12, .inl fq)), (hm, .inr (3, [.int mk, .int mc])), (hf, .inr (2, [.int dp, .ref qp, .ref qe, .ref ql, .int (nI lo), .int (nI le)])), (qp, .inl (cO, b, .inr (.inr (.inr (.inr fp))))), (hp, .inr (5, [.int (nI pm), .long fr, .long wk, .int nr, .ref pd, .ref pt, .ref pb, .long fe])), (pd, .inl (cO, 25, .inr (.inr (.inr (.inr fd))))), (pt, .inl (cI, 25, .inl ft))] ++ pool G cI Pg S_57) H := hP
      have hD : va_D A ([(he, .inr (1, [.ref hm, .ref hf, .ref hp, .ref eb, .ref ep, .int (nI el), .ref nd, .ref mt, .ref ab])), (eb, .inl (cI, 12, .inl fb)), (ep, .inl (cI, 12, .inl fq)), (hm, .inr (3, [.int mk, .int mc])), (hf, .inr (2, [.int dp, .ref qp, .ref qe, .ref ql, .int (nI lo), .int (nI le)])), (qp, .inl (cO, b, .inr (.inr (.inr (.inr fp))))), (hp, .inr (5, [.int (nI pm), .long fr, .long wk, .int nr, .ref pd, .ref pt, .ref pb, .long fe])), (pd, .inl (cO, 25, .inr (.inr (.inr (.inr fd))))), (pt, .inl (cI, 25, .inl ft))] ++ pool G cI Pg S_57) := hD
      have hK : va_K (dC, dI) vwCl [(cO, .object RX4), (cI, .int)] s := hK
      have hI : pgI G Pg S_57 := by rw [eS_57]; exact pgI_1 hI (by first | assumption | exact Or.inl rfl | exact Or.inr rfl | exact hw.2.1 | exact hw.1) (by first | assumption | omega)
      exact jn_7 S_57 _ _ _ hI hP hD hS (lv_sub hl [0, 1, 2, 3, 4] rfl)
  refine lv_iload_n hx hb dX1_mend_29 rfl (lv_at hl 4 rfl) ?_
  refine lv_if_le (tgt := 62) hx hb dX1_mend_30 (by decide) (fun c_58 => ?_) (fun c_58 => ?_)
  · refine lv_aload_n hx hb dX1_mend_62 rfl (lv_at hl 3 rfl) ?_
    refine va_get (D := (dC, dI)) (ci := 1) (v := .ref mt) (C := RX1) (T := TX1) (N := 9) hx hb hts k_5 hown hK hP 0 rfl rfl 7 (by decide) k_7 (fun _ h9 => h9) rfl dX1_mend_63 ?_
    refine lv_aload_n hx hb dX1_mend_66 rfl (lv_at hl 3 rfl) ?_
    refine va_get (D := (dC, dI)) (ci := 1) (v := .ref hf) (C := RX1) (T := TX1) (N := 9) hx hb hts k_5 hown hK hP 0 rfl rfl 1 (by decide) k_12 (fun _ h9 => h9) rfl dX1_mend_67 ?_
    refine lv_iload hx hb dX1_mend_70 (lv_at hl 0 rfl) ?_
    have hPc := hP.part (cx := [(hf, .inr (2, [.int dp, .ref qp, .ref qe, .ref ql, .int (nI lo), .int (nI le)])), (qp, .inl (cO, b, .inr (.inr (.inr (.inr fp)))))]) [4, 5] rfl
    have hDc := hD.part (cx := [(hf, .inr (2, [.int dp, .ref qp, .ref qe, .ref ql, .int (nI lo), .int (nI le)])), (qp, .inl (cO, b, .inr (.inr (.inr (.inr fp)))))]) [4, 5] (by decide) rfl
    have hFc := va_freeP (cx := [(hf, .inr (2, [.int dp, .ref qp, .ref qe, .ref ql, .int (nI lo), .int (nI le)])), (qp, .inl (cO, b, .inr (.inr (.inr (.inr fp)))))]) hD hS hA [4, 5] rfl
    have hKc := hK.sub (tys' := [(cO, .object RX4), (cI, .int)]) [0, 1] rfl
    refine va_callr (va_runV (As := [.int r_5]) (rest := [.ref mt]) ⟨hx, hb, hml, hown, hts⟩ (c_X2_page l dC dI H.size hf qp qe ql b lo le dp cO fp G Pg cI S r_5 (by first | assumption | omega | decide) (by first | assumption | omega | decide) (by first | assumption | omega | decide) (by first | assumption | omega | decide) (by first | assumption | omega | decide)) (cwV 1 hts g_X1_mend_X2_page rfl rfl rfl (by decide +kernel) ⟨Nat.le_of_ble_eq_true rfl, Nat.le_of_ble_eq_true rfl⟩) ⟨fun a U g mk q => by obtain ⟨q0, q1, qP, qK, qD⟩ := q; exact ⟨q0, q1, qP, va_K.moved (u := U) (U := U.calling g mk a) (Vm.Alike.refl U.vm) qK, qD⟩, va_recv hKc hPc (ci := 2) (q0 := 0) rfl rfl, fun U hU hW => ⟨rfl, by rw [hU], by rw [hU]; exact hPc, va_K.moved hW.alike hKc, hDc.weaken (fun _ _ _ _ => trivial)⟩⟩ rfl rfl hl.1 rfl (lv_room (Nat.le_of_ble_eq_true rfl)) dX1_mend_72 ⟨(show 0 + 0 ≤ 0 by omega), (show 0 + 0 ≤ 0 by omega)⟩) hS (fun q _ h => hFc q h) hFc (fun u r_59 t H1 locs ht hvm hw hB hz1 hk1 hS => ?_)
    obtain ⟨a_60, rfl⟩ : ∃ z, z = u := ⟨_, rfl⟩
    obtain ⟨hra, hP1, hK1, hD1⟩ := hB
    have hra := hra.symm
    subst hra
    rw [ht] at hP1
    have hK1 := va_K.moved hvm.symm hK1
    try dsimp only at hw
    obtain ⟨hP, hD⟩ := va_joinP (wr := [(he, .inr (1, [.ref hm, .ref hf, .ref hp, .ref eb, .ref ep, .int (nI el), .ref nd, .ref mt, .ref ab])), (eb, .inl (cI, 12, .inl fb)), (ep, .inl (cI, 12, .inl fq)), (hm, .inr (3, [.int mk, .int mc])), (hp, .inr (5, [.int (nI pm), .long fr, .long wk, .int nr, .ref pd, .ref pt, .ref pb, .long fe])), (pd, .inl (cO, 25, .inr (.inr (.inr (.inr fd))))), (pt, .inl (cI, 25, .inl ft))]) (rx := [(hf, .inr (2, [.int dp, .ref qp, .ref qe, .ref ql, .int (nI lo), .int (nI le)])), (qp, .inl (cO, b, .inr (.inr (.inr (.inr fp)))))]) (pl1 := pool G cI Pg S) hP hD [4, 5] [0, 1, 2, 3, 6, 7, 8] rfl rfl (by decide) (by decide) hk1 hFc hP1 hD1
    have hK := (hK.sub (tys' := [(cO, .object RX4), (cI, .int)]) [0, 1] rfl).app hK1
    have hK : va_K (dC, dI) vwCl [(cO, .object RX4), (cI, .int)] s := hK.sub [0, 1] rfl
    generalize H1 = H at hP hS ⊢
    have hP : va_P (dC, dI) vwCl ([(he, .inr (1, [.ref hm, .ref hf, .ref hp, .ref eb, .ref ep, .int (nI el), .ref nd, .ref mt, .ref ab])), (eb, .inl (cI, 12, .inl fb)), (ep, .inl (cI, 12, .inl fq)), (hm, .inr (3, [.int mk, .int mc])), (hp, .inr (5, [.int (nI pm), .long fr, .long wk, .int nr, .ref pd, .ref pt, .ref pb, .long fe])), (pd, .inl (cO, 25, .inr (.inr (.inr (.inr fd))))), (pt, .inl (cI, 25, .inl ft)), (hf, .inr (2, [.int dp, .ref qp, .ref qe, .ref ql, .int (nI lo), .int (nI le)])), (qp, .inl (cO, b, .inr (.inr (.inr (.inr fp)))))] ++ pool G cI Pg S) H := hP
    have hD : va_D A ([(he, .inr (1, [.ref hm, .ref hf, .ref hp, .ref eb, .ref ep, .int (nI el), .ref nd, .ref mt, .ref ab])), (eb, .inl (cI, 12, .inl fb)), (ep, .inl (cI, 12, .inl fq)), (hm, .inr (3, [.int mk, .int mc])), (hp, .inr (5, [.int (nI pm), .long fr, .long wk, .int nr, .ref pd, .ref pt, .ref pb, .long fe])), (pd, .inl (cO, 25, .inr (.inr (.inr (.inr fd))))), (pt, .inl (cI, 25, .inl ft)), (hf, .inr (2, [.int dp, .ref qp, .ref qe, .ref ql, .int (nI lo), .int (nI le)])), (qp, .inl (cO, b, .inr (.inr (.inr (.inr fp)))))] ++ pool G cI Pg S) := hD
    have hK : va_K (dC, dI) vwCl [(cO, .object RX4), (cI, .int)] s := hK
    have hm_a_60 := hw.1
    have ht_a_60 := hw.2
    have hz1_mt := (hI mt hm_mt).1
    have hz2_mt := (hI mt hm_mt).2.1
    have hz3_mt := (hI mt hm_mt).2.2
    have hz1_a_60 := (hI a_60 hm_a_60).1
    have hz2_a_60 := (hI a_60 hm_a_60).2.1
    have hz3_a_60 := (hI a_60 hm_a_60).2.2
    have hab : mt ≠ a_60 := fun h9 => absurd (congrArg (fun x => (G x).2.2.2) h9) (by show (G mt).2.2.2 ≠ (G a_60).2.2.2; have h7 := ht_mt; have h8 := ht_a_60; omega)
    have hT9 := in2 hm_mt hm_a_60
    have hPc : va_P (dC, dI) vwCl [(mt, .inr (4, [.int (S mt).1, .int (nI (S mt).2.1), .ref (G mt).1, .ref (G mt).2.1])), ((G mt).1, .inl (cI, (G mt).2.2.1, .inl (S mt).2.2.1)), ((G mt).2.1, .inl (cI, (G mt).2.2.1, .inl (S mt).2.2.2)), (a_60, .inr (4, [.int (S a_60).1, .int (nI (S a_60).2.1), .ref (G a_60).1, .ref (G a_60).2.1])), ((G a_60).1, .inl (cI, (G a_60).2.2.1, .inl (S a_60).2.2.1)), ((G a_60).2.1, .inl (cI, (G a_60).2.2.1, .inl (S a_60).2.2.2))] H := pool_cut (T := [mt, a_60]) (cx := []) hP hT9 [] rfl
    have hDc : va_D A [(mt, .inr (4, [.int (S mt).1, .int (nI (S mt).2.1), .ref (G mt).1, .ref (G mt).2.1])), ((G mt).1, .inl (cI, (G mt).2.2.1, .inl (S mt).2.2.1)), ((G mt).2.1, .inl (cI, (G mt).2.2.1, .inl (S mt).2.2.2)), (a_60, .inr (4, [.int (S a_60).1, .int (nI (S a_60).2.1), .ref (G a_60).1, .ref (G a_60).2.1])), ((G a_60).1, .inl (cI, (G a_60).2.2.1, .inl (S a_60).2.2.1)), ((G a_60).2.1, .inl (cI, (G a_60).2.2.1, .inl (S a_60).2.2.2))] := pool_cutD (T := [mt, a_60]) (cx := []) hD hT9 (nd2 hab) [] (by decide) rfl
    have hFc : ∀ q, va_A [(mt, .inr (4, [.int (S mt).1, .int (nI (S mt).2.1), .ref (G mt).1, .ref (G mt).2.1])), ((G mt).1, .inl (cI, (G mt).2.2.1, .inl (S mt).2.2.1)), ((G mt).2.1, .inl (cI, (G mt).2.2.1, .inl (S mt).2.2.2)), (a_60, .inr (4, [.int (S a_60).1, .int (nI (S a_60).2.1), .ref (G a_60).1, .ref (G a_60).2.1])), ((G a_60).1, .inl (cI, (G a_60).2.2.1, .inl (S a_60).2.2.1)), ((G a_60).2.1, .inl (cI, (G a_60).2.2.1, .inl (S a_60).2.2.2))] (H).size q → A q := pool_free (T := [mt, a_60]) (cx := []) hD hS hA hT9 [] rfl
    have hKc := hK.sub (tys' := [(cI, .int), (cI, .int), (cI, .int), (cI, .int)]) [1, 1, 1, 1] rfl
    refine va_callv (va_runV (As := [.ref a_60]) (rest := []) ⟨hx, hb, hml, hown, hts⟩ (c_X4_copy l dC dI H.size mt (G mt).1 (G mt).2.1 (G mt).2.2.1 (S mt).2.1 (S mt).1 cI cI (S mt).2.2.1 (S mt).2.2.2 a_60 (G a_60).1 (G a_60).2.1 (G a_60).2.2.1 (S a_60).2.1 (S a_60).1 cI cI (S a_60).2.2.1 (S a_60).2.2.2 (by first | assumption | omega | decide) (by first | assumption | omega | decide) (by first | assumption | omega | decide) (by first | assumption | omega | decide) (by first | assumption | omega | decide)) (cwV 1 hts g_X1_mend_X4_copy rfl rfl rfl (by decide +kernel) ⟨Nat.le_of_ble_eq_true rfl, Nat.le_of_ble_eq_true rfl⟩) ⟨fun a U g mk q => by obtain ⟨q0, q1, qP, qK, qD⟩ := q; exact ⟨q0, q1, qP, va_K.moved (u := U) (U := U.calling g mk a) (Vm.Alike.refl U.vm) qK, qD⟩, va_recv hKc hPc (ci := 4) (q0 := 0) rfl rfl, fun U hU hW => ⟨rfl, by rw [hU], by rw [hU]; exact hPc, va_K.moved hW.alike hKc, hDc.weaken (fun _ _ _ _ => trivial)⟩⟩ rfl rfl hl.1 rfl (lv_room (Nat.le_of_ble_eq_true rfl)) dX1_mend_75 ⟨(show 0 + 0 ≤ 0 by omega), (show 0 + 0 ≤ 0 by omega)⟩) hS (fun q _ h => hFc q h) hFc (fun u t H1 locs ht hvm hw hB hz1 hk1 hS => ?_)
    obtain ⟨m2_62, f2_63, g2_64⟩ := u
    obtain ⟨hP1, hK1, hD1⟩ := hB
    rw [ht] at hP1
    have hK1 := va_K.moved hvm.symm hK1
    try dsimp only at hw
    obtain ⟨hP, hD⟩ := pool_join (S := S) (S1 := (pgJ [mt] (fun _ => ((S a_60).1, m2_62, f2_63, g2_64)) (fun _ => ((S a_60).1, (S a_60).2.1, (S a_60).2.2.1, (S a_60).2.2.2)))) (T := [mt, a_60]) (cx := []) (wr := [(he, .inr (1, [.ref hm, .ref hf, .ref hp, .ref eb, .ref ep, .int (nI el), .ref nd, .ref mt, .ref ab])), (eb, .inl (cI, 12, .inl fb)), (ep, .inl (cI, 12, .inl fq)), (hm, .inr (3, [.int mk, .int mc])), (hp, .inr (5, [.int (nI pm), .long fr, .long wk, .int nr, .ref pd, .ref pt, .ref pb, .long fe])), (pd, .inl (cO, 25, .inr (.inr (.inr (.inr fd))))), (pt, .inl (cI, 25, .inl ft)), (hf, .inr (2, [.int dp, .ref qp, .ref qe, .ref ql, .int (nI lo), .int (nI le)])), (qp, .inl (cO, b, .inr (.inr (.inr (.inr fp)))))]) (rx := []) hP hD hT9 [] [0, 1, 2, 3, 4, 5, 6, 7, 8] rfl rfl (by decide) (by decide) hk1 hFc (by rw [pool2 hab]; exact hP1) (by rw [pool2 hab]; exact hD1)
    obtain ⟨S_65, eS_65⟩ : ∃ x, x = pgJ [mt, a_60] (pgJ [mt] (fun _ => ((S a_60).1, m2_62, f2_63, g2_64)) (fun _ => ((S a_60).1, (S a_60).2.1, (S a_60).2.2.1, (S a_60).2.2.2))) S := ⟨_, rfl⟩
    rw [← eS_65] at hP hD
    have hK := (hK.sub (tys' := [(cO, .object RX4), (cI, .int)]) [0, 1] rfl).app hK1
    have hK : va_K (dC, dI) vwCl [(cO, .object RX4), (cI, .int)] s := hK.sub [0, 1] rfl
    generalize H1 = H at hP hS ⊢
    have hP : va_P (dC, dI) vwCl ([(he, .inr (1, [.ref hm, .ref hf, .ref hp, .ref eb, .ref ep, .int (nI el), .ref nd, .ref mt, .ref ab])), (eb, .inl (cI, 12, .inl fb)), (ep, .inl (cI, 12, .inl fq)), (hm, .inr (3, [.int mk, .int mc])), (hp, .inr (5, [.int (nI pm), .long fr, .long wk, .int nr, .ref pd, .ref pt, .ref pb, .long fe])), (pd, .inl (cO, 25, .inr (.inr (.inr (.inr fd))))), (pt, .inl (cI, 25, .inl ft)), (hf, .inr (2, [.int dp, .ref qp, .ref qe, .ref ql, .int (nI lo), .int (nI le)])), (qp, .inl (cO, b, .inr (.inr (.inr (.inr fp)))))] ++ pool G cI Pg S_65) H := hP
    have hD : va_D A ([(he, .inr (1, [.ref hm, .ref hf, .ref hp, .ref eb, .ref ep, .int (nI el), .ref nd, .ref mt, .ref ab])), (eb, .inl (cI, 12, .inl fb)), (ep, .inl (cI, 12, .inl fq)), (hm, .inr (3, [.int mk, .int mc])), (hp, .inr (5, [.int (nI pm), .long fr, .long wk, .int nr, .ref pd, .ref pt, .ref pb, .long fe])), (pd, .inl (cO, 25, .inr (.inr (.inr (.inr fd))))), (pt, .inl (cI, 25, .inl ft)), (hf, .inr (2, [.int dp, .ref qp, .ref qe, .ref ql, .int (nI lo), .int (nI le)])), (qp, .inl (cO, b, .inr (.inr (.inr (.inr fp)))))] ++ pool G cI Pg S_65) := hD
    have hK : va_K (dC, dI) vwCl [(cO, .object RX4), (cI, .int)] s := hK
    have hI : pgI G Pg S_65 := by rw [eS_65]; exact pgI_2 hI hab (by first | assumption | exact Or.inl rfl | exact Or.inr rfl | exact hw.2.1 | exact hw.1) (by first | assumption | omega) (by first | assumption | exact Or.inl rfl | exact Or.inr rfl | exact hw.2.1 | exact hw.1) (by first | assumption | omega)
    have hw_r_61 := hw
    exact jn_6 S_65 _ _ _ hI (hP.part (cx := [(he, .inr (1, [.ref hm, .ref hf, .ref hp, .ref eb, .ref ep, .int (nI el), .ref nd, .ref mt, .ref ab])), (eb, .inl (cI, 12, .inl fb)), (ep, .inl (cI, 12, .inl fq)), (hm, .inr (3, [.int mk, .int mc])), (hf, .inr (2, [.int dp, .ref qp, .ref qe, .ref ql, .int (nI lo), .int (nI le)])), (qp, .inl (cO, b, .inr (.inr (.inr (.inr fp))))), (hp, .inr (5, [.int (nI pm), .long fr, .long wk, .int nr, .ref pd, .ref pt, .ref pb, .long fe])), (pd, .inl (cO, 25, .inr (.inr (.inr (.inr fd))))), (pt, .inl (cI, 25, .inl ft))]) [0, 1, 2, 3, 7, 8, 4, 5, 6] rfl) (hD.part (cx := [(he, .inr (1, [.ref hm, .ref hf, .ref hp, .ref eb, .ref ep, .int (nI el), .ref nd, .ref mt, .ref ab])), (eb, .inl (cI, 12, .inl fb)), (ep, .inl (cI, 12, .inl fq)), (hm, .inr (3, [.int mk, .int mc])), (hf, .inr (2, [.int dp, .ref qp, .ref qe, .ref ql, .int (nI lo), .int (nI le)])), (qp, .inl (cO, b, .inr (.inr (.inr (.inr fp))))), (hp, .inr (5, [.int (nI pm), .long fr, .long wk, .int nr, .ref pd, .ref pt, .ref pb, .long fe])), (pd, .inl (cO, 25, .inr (.inr (.inr (.inr fd))))), (pt, .inl (cI, 25, .inl ft))]) [0, 1, 2, 3, 7, 8, 4, 5, 6] (by decide) rfl) hS (lv_sub hl [0, 1, 2, 3, 4] rfl)
  · refine lv_aload_n hx hb dX1_mend_33 rfl (lv_at hl 3 rfl) ?_
    refine va_get (D := (dC, dI)) (ci := 1) (v := .ref mt) (C := RX1) (T := TX1) (N := 9) hx hb hts k_5 hown hK hP 0 rfl rfl 7 (by decide) k_7 (fun _ h9 => h9) rfl dX1_mend_34 ?_
    refine lv_aload_n hx hb dX1_mend_37 rfl (lv_at hl 3 rfl) ?_
    refine va_get (D := (dC, dI)) (ci := 1) (v := .ref nd) (C := RX1) (T := TX1) (N := 9) hx hb hts k_5 hown hK hP 0 rfl rfl 6 (by decide) k_10 (fun _ h9 => h9) rfl dX1_mend_38 ?_
    have hz1_mt := (hI mt hm_mt).1
    have hz2_mt := (hI mt hm_mt).2.1
    have hz3_mt := (hI mt hm_mt).2.2
    have hz1_nd := (hI nd hm_nd).1
    have hz2_nd := (hI nd hm_nd).2.1
    have hz3_nd := (hI nd hm_nd).2.2
    have hab : mt ≠ nd := fun h9 => absurd (congrArg (fun x => (G x).2.2.2) h9) (by show (G mt).2.2.2 ≠ (G nd).2.2.2; have h7 := ht_mt; have h8 := ht_nd; omega)
    have hT9 := in2 hm_mt hm_nd
    have hPc : va_P (dC, dI) vwCl [(mt, .inr (4, [.int (S mt).1, .int (nI (S mt).2.1), .ref (G mt).1, .ref (G mt).2.1])), ((G mt).1, .inl (cI, (G mt).2.2.1, .inl (S mt).2.2.1)), ((G mt).2.1, .inl (cI, (G mt).2.2.1, .inl (S mt).2.2.2)), (nd, .inr (4, [.int (S nd).1, .int (nI (S nd).2.1), .ref (G nd).1, .ref (G nd).2.1])), ((G nd).1, .inl (cI, (G nd).2.2.1, .inl (S nd).2.2.1)), ((G nd).2.1, .inl (cI, (G nd).2.2.1, .inl (S nd).2.2.2))] H := pool_cut (T := [mt, nd]) (cx := []) hP hT9 [] rfl
    have hDc : va_D A [(mt, .inr (4, [.int (S mt).1, .int (nI (S mt).2.1), .ref (G mt).1, .ref (G mt).2.1])), ((G mt).1, .inl (cI, (G mt).2.2.1, .inl (S mt).2.2.1)), ((G mt).2.1, .inl (cI, (G mt).2.2.1, .inl (S mt).2.2.2)), (nd, .inr (4, [.int (S nd).1, .int (nI (S nd).2.1), .ref (G nd).1, .ref (G nd).2.1])), ((G nd).1, .inl (cI, (G nd).2.2.1, .inl (S nd).2.2.1)), ((G nd).2.1, .inl (cI, (G nd).2.2.1, .inl (S nd).2.2.2))] := pool_cutD (T := [mt, nd]) (cx := []) hD hT9 (nd2 hab) [] (by decide) rfl
    have hFc : ∀ q, va_A [(mt, .inr (4, [.int (S mt).1, .int (nI (S mt).2.1), .ref (G mt).1, .ref (G mt).2.1])), ((G mt).1, .inl (cI, (G mt).2.2.1, .inl (S mt).2.2.1)), ((G mt).2.1, .inl (cI, (G mt).2.2.1, .inl (S mt).2.2.2)), (nd, .inr (4, [.int (S nd).1, .int (nI (S nd).2.1), .ref (G nd).1, .ref (G nd).2.1])), ((G nd).1, .inl (cI, (G nd).2.2.1, .inl (S nd).2.2.1)), ((G nd).2.1, .inl (cI, (G nd).2.2.1, .inl (S nd).2.2.2))] (H).size q → A q := pool_free (T := [mt, nd]) (cx := []) hD hS hA hT9 [] rfl
    have hKc := hK.sub (tys' := [(cI, .int), (cI, .int), (cI, .int), (cI, .int)]) [1, 1, 1, 1] rfl
    refine va_callv (va_runV (As := [.ref nd]) (rest := []) ⟨hx, hb, hml, hown, hts⟩ (c_X4_copy l dC dI H.size mt (G mt).1 (G mt).2.1 (G mt).2.2.1 (S mt).2.1 (S mt).1 cI cI (S mt).2.2.1 (S mt).2.2.2 nd (G nd).1 (G nd).2.1 (G nd).2.2.1 (S nd).2.1 (S nd).1 cI cI (S nd).2.2.1 (S nd).2.2.2 (by first | assumption | omega | decide) (by first | assumption | omega | decide) (by first | assumption | omega | decide) (by first | assumption | omega | decide) (by first | assumption | omega | decide)) (cwV 1 hts g_X1_mend_X4_copy rfl rfl rfl (by decide +kernel) ⟨Nat.le_of_ble_eq_true rfl, Nat.le_of_ble_eq_true rfl⟩) ⟨fun a U g mk q => by obtain ⟨q0, q1, qP, qK, qD⟩ := q; exact ⟨q0, q1, qP, va_K.moved (u := U) (U := U.calling g mk a) (Vm.Alike.refl U.vm) qK, qD⟩, va_recv hKc hPc (ci := 4) (q0 := 0) rfl rfl, fun U hU hW => ⟨rfl, by rw [hU], by rw [hU]; exact hPc, va_K.moved hW.alike hKc, hDc.weaken (fun _ _ _ _ => trivial)⟩⟩ rfl rfl hl.1 rfl (lv_room (Nat.le_of_ble_eq_true rfl)) dX1_mend_41 ⟨(show 0 + 0 ≤ 0 by omega), (show 0 + 0 ≤ 0 by omega)⟩) hS (fun q _ h => hFc q h) hFc (fun u t H1 locs ht hvm hw hB hz1 hk1 hS => ?_)
    obtain ⟨m2_67, f2_68, g2_69⟩ := u
    obtain ⟨hP1, hK1, hD1⟩ := hB
    rw [ht] at hP1
    have hK1 := va_K.moved hvm.symm hK1
    try dsimp only at hw
    obtain ⟨hP, hD⟩ := pool_join (S := S) (S1 := (pgJ [mt] (fun _ => ((S nd).1, m2_67, f2_68, g2_69)) (fun _ => ((S nd).1, (S nd).2.1, (S nd).2.2.1, (S nd).2.2.2)))) (T := [mt, nd]) (cx := []) (wr := [(he, .inr (1, [.ref hm, .ref hf, .ref hp, .ref eb, .ref ep, .int (nI el), .ref nd, .ref mt, .ref ab])), (eb, .inl (cI, 12, .inl fb)), (ep, .inl (cI, 12, .inl fq)), (hm, .inr (3, [.int mk, .int mc])), (hf, .inr (2, [.int dp, .ref qp, .ref qe, .ref ql, .int (nI lo), .int (nI le)])), (qp, .inl (cO, b, .inr (.inr (.inr (.inr fp))))), (hp, .inr (5, [.int (nI pm), .long fr, .long wk, .int nr, .ref pd, .ref pt, .ref pb, .long fe])), (pd, .inl (cO, 25, .inr (.inr (.inr (.inr fd))))), (pt, .inl (cI, 25, .inl ft))]) (rx := []) hP hD hT9 [] [0, 1, 2, 3, 4, 5, 6, 7, 8] rfl rfl (by decide) (by decide) hk1 hFc (by rw [pool2 hab]; exact hP1) (by rw [pool2 hab]; exact hD1)
    obtain ⟨S_70, eS_70⟩ : ∃ x, x = pgJ [mt, nd] (pgJ [mt] (fun _ => ((S nd).1, m2_67, f2_68, g2_69)) (fun _ => ((S nd).1, (S nd).2.1, (S nd).2.2.1, (S nd).2.2.2))) S := ⟨_, rfl⟩
    rw [← eS_70] at hP hD
    have hK := (hK.sub (tys' := [(cO, .object RX4), (cI, .int)]) [0, 1] rfl).app hK1
    have hK : va_K (dC, dI) vwCl [(cO, .object RX4), (cI, .int)] s := hK.sub [0, 1] rfl
    generalize H1 = H at hP hS ⊢
    have hP : va_P (dC, dI) vwCl ([(he, .inr (1, [.ref hm, .ref hf, .ref hp, .ref eb, .ref ep, .int (nI el), .ref nd, .ref mt, .ref ab])), (eb, .inl (cI, 12, .inl fb)), (ep, .inl (cI, 12, .inl fq)), (hm, .inr (3, [.int mk, .int mc])), (hf, .inr (2, [.int dp, .ref qp, .ref qe, .ref ql, .int (nI lo), .int (nI le)])), (qp, .inl (cO, b, .inr (.inr (.inr (.inr fp))))), (hp, .inr (5, [.int (nI pm), .long fr, .long wk, .int nr, .ref pd, .ref pt, .ref pb, .long fe])), (pd, .inl (cO, 25, .inr (.inr (.inr (.inr fd))))), (pt, .inl (cI, 25, .inl ft))] ++ pool G cI Pg S_70) H := hP
    have hD : va_D A ([(he, .inr (1, [.ref hm, .ref hf, .ref hp, .ref eb, .ref ep, .int (nI el), .ref nd, .ref mt, .ref ab])), (eb, .inl (cI, 12, .inl fb)), (ep, .inl (cI, 12, .inl fq)), (hm, .inr (3, [.int mk, .int mc])), (hf, .inr (2, [.int dp, .ref qp, .ref qe, .ref ql, .int (nI lo), .int (nI le)])), (qp, .inl (cO, b, .inr (.inr (.inr (.inr fp))))), (hp, .inr (5, [.int (nI pm), .long fr, .long wk, .int nr, .ref pd, .ref pt, .ref pb, .long fe])), (pd, .inl (cO, 25, .inr (.inr (.inr (.inr fd))))), (pt, .inl (cI, 25, .inl ft))] ++ pool G cI Pg S_70) := hD
    have hK : va_K (dC, dI) vwCl [(cO, .object RX4), (cI, .int)] s := hK
    have hI : pgI G Pg S_70 := by rw [eS_70]; exact pgI_2 hI hab (by first | assumption | exact Or.inl rfl | exact Or.inr rfl | exact hw.2.1 | exact hw.1) (by first | assumption | omega) (by first | assumption | exact Or.inl rfl | exact Or.inr rfl | exact hw.2.1 | exact hw.1) (by first | assumption | omega)
    have hw_r_66 := hw
    refine lv_aload_n hx hb dX1_mend_44 rfl (lv_at hl 3 rfl) ?_
    refine va_get (D := (dC, dI)) (ci := 1) (v := .ref nd) (C := RX1) (T := TX1) (N := 9) hx hb hts k_5 hown hK hP 0 rfl rfl 6 (by decide) k_10 (fun _ h9 => h9) rfl dX1_mend_45 ?_
    refine lv_aload_n hx hb dX1_mend_48 rfl (lv_at hl 3 rfl) ?_
    refine va_get (D := (dC, dI)) (ci := 1) (v := .ref hf) (C := RX1) (T := TX1) (N := 9) hx hb hts k_5 hown hK hP 0 rfl rfl 1 (by decide) k_12 (fun _ h9 => h9) rfl dX1_mend_49 ?_
    refine lv_iload_n hx hb dX1_mend_52 rfl (lv_at hl 1 rfl) ?_
    have hPc := hP.part (cx := [(hf, .inr (2, [.int dp, .ref qp, .ref qe, .ref ql, .int (nI lo), .int (nI le)])), (qp, .inl (cO, b, .inr (.inr (.inr (.inr fp)))))]) [4, 5] rfl
    have hDc := hD.part (cx := [(hf, .inr (2, [.int dp, .ref qp, .ref qe, .ref ql, .int (nI lo), .int (nI le)])), (qp, .inl (cO, b, .inr (.inr (.inr (.inr fp)))))]) [4, 5] (by decide) rfl
    have hFc := va_freeP (cx := [(hf, .inr (2, [.int dp, .ref qp, .ref qe, .ref ql, .int (nI lo), .int (nI le)])), (qp, .inl (cO, b, .inr (.inr (.inr (.inr fp)))))]) hD hS hA [4, 5] rfl
    have hKc := hK.sub (tys' := [(cO, .object RX4), (cI, .int)]) [0, 1] rfl
    refine va_callr (va_runV (As := [.int r_3]) (rest := [.ref nd]) ⟨hx, hb, hml, hown, hts⟩ (c_X2_page l dC dI H.size hf qp qe ql b lo le dp cO fp G Pg cI S_70 r_3 (by first | assumption | omega | decide) (by first | assumption | omega | decide) (by first | assumption | omega | decide) (by first | assumption | omega | decide) (by first | assumption | omega | decide)) (cwV 1 hts g_X1_mend_X2_page rfl rfl rfl (by decide +kernel) ⟨Nat.le_of_ble_eq_true rfl, Nat.le_of_ble_eq_true rfl⟩) ⟨fun a U g mk q => by obtain ⟨q0, q1, qP, qK, qD⟩ := q; exact ⟨q0, q1, qP, va_K.moved (u := U) (U := U.calling g mk a) (Vm.Alike.refl U.vm) qK, qD⟩, va_recv hKc hPc (ci := 2) (q0 := 0) rfl rfl, fun U hU hW => ⟨rfl, by rw [hU], by rw [hU]; exact hPc, va_K.moved hW.alike hKc, hDc.weaken (fun _ _ _ _ => trivial)⟩⟩ rfl rfl hl.1 rfl (lv_room (Nat.le_of_ble_eq_true rfl)) dX1_mend_53 ⟨(show 0 + 0 ≤ 0 by omega), (show 0 + 0 ≤ 0 by omega)⟩) hS (fun q _ h => hFc q h) hFc (fun u r_71 t H1 locs ht hvm hw hB hz1 hk1 hS => ?_)
    obtain ⟨a_72, rfl⟩ : ∃ z, z = u := ⟨_, rfl⟩
    obtain ⟨hra, hP1, hK1, hD1⟩ := hB
    have hra := hra.symm
    subst hra
    rw [ht] at hP1
    have hK1 := va_K.moved hvm.symm hK1
    try dsimp only at hw
    obtain ⟨hP, hD⟩ := va_joinP (wr := [(he, .inr (1, [.ref hm, .ref hf, .ref hp, .ref eb, .ref ep, .int (nI el), .ref nd, .ref mt, .ref ab])), (eb, .inl (cI, 12, .inl fb)), (ep, .inl (cI, 12, .inl fq)), (hm, .inr (3, [.int mk, .int mc])), (hp, .inr (5, [.int (nI pm), .long fr, .long wk, .int nr, .ref pd, .ref pt, .ref pb, .long fe])), (pd, .inl (cO, 25, .inr (.inr (.inr (.inr fd))))), (pt, .inl (cI, 25, .inl ft))]) (rx := [(hf, .inr (2, [.int dp, .ref qp, .ref qe, .ref ql, .int (nI lo), .int (nI le)])), (qp, .inl (cO, b, .inr (.inr (.inr (.inr fp)))))]) (pl1 := pool G cI Pg S_70) hP hD [4, 5] [0, 1, 2, 3, 6, 7, 8] rfl rfl (by decide) (by decide) hk1 hFc hP1 hD1
    have hK := (hK.sub (tys' := [(cO, .object RX4), (cI, .int)]) [0, 1] rfl).app hK1
    have hK : va_K (dC, dI) vwCl [(cO, .object RX4), (cI, .int)] s := hK.sub [0, 1] rfl
    generalize H1 = H at hP hS ⊢
    have hP : va_P (dC, dI) vwCl ([(he, .inr (1, [.ref hm, .ref hf, .ref hp, .ref eb, .ref ep, .int (nI el), .ref nd, .ref mt, .ref ab])), (eb, .inl (cI, 12, .inl fb)), (ep, .inl (cI, 12, .inl fq)), (hm, .inr (3, [.int mk, .int mc])), (hp, .inr (5, [.int (nI pm), .long fr, .long wk, .int nr, .ref pd, .ref pt, .ref pb, .long fe])), (pd, .inl (cO, 25, .inr (.inr (.inr (.inr fd))))), (pt, .inl (cI, 25, .inl ft)), (hf, .inr (2, [.int dp, .ref qp, .ref qe, .ref ql, .int (nI lo), .int (nI le)])), (qp, .inl (cO, b, .inr (.inr (.inr (.inr fp)))))] ++ pool G cI Pg S_70) H := hP
    have hD : va_D A ([(he, .inr (1, [.ref hm, .ref hf, .ref hp, .ref eb, .ref ep, .int (nI el), .ref nd, .ref mt, .ref ab])), (eb, .inl (cI, 12, .inl fb)), (ep, .inl (cI, 12, .inl fq)), (hm, .inr (3, [.int mk, .int mc])), (hp, .inr (5, [.int (nI pm), .long fr, .long wk, .int nr, .ref pd, .ref pt, .ref pb, .long fe])), (pd, .inl (cO, 25, .inr (.inr (.inr (.inr fd))))), (pt, .inl (cI, 25, .inl ft)), (hf, .inr (2, [.int dp, .ref qp, .ref qe, .ref ql, .int (nI lo), .int (nI le)])), (qp, .inl (cO, b, .inr (.inr (.inr (.inr fp)))))] ++ pool G cI Pg S_70) := hD
    have hK : va_K (dC, dI) vwCl [(cO, .object RX4), (cI, .int)] s := hK
    have hm_a_72 := hw.1
    have ht_a_72 := hw.2
    have hz1_nd := (hI nd hm_nd).1
    have hz2_nd := (hI nd hm_nd).2.1
    have hz3_nd := (hI nd hm_nd).2.2
    have hz1_a_72 := (hI a_72 hm_a_72).1
    have hz2_a_72 := (hI a_72 hm_a_72).2.1
    have hz3_a_72 := (hI a_72 hm_a_72).2.2
    have hab : nd ≠ a_72 := fun h9 => absurd (congrArg (fun x => (G x).2.2.2) h9) (by show (G nd).2.2.2 ≠ (G a_72).2.2.2; have h7 := ht_nd; have h8 := ht_a_72; omega)
    have hT9 := in2 hm_nd hm_a_72
    have hPc : va_P (dC, dI) vwCl [(nd, .inr (4, [.int (S_70 nd).1, .int (nI (S_70 nd).2.1), .ref (G nd).1, .ref (G nd).2.1])), ((G nd).1, .inl (cI, (G nd).2.2.1, .inl (S_70 nd).2.2.1)), ((G nd).2.1, .inl (cI, (G nd).2.2.1, .inl (S_70 nd).2.2.2)), (a_72, .inr (4, [.int (S_70 a_72).1, .int (nI (S_70 a_72).2.1), .ref (G a_72).1, .ref (G a_72).2.1])), ((G a_72).1, .inl (cI, (G a_72).2.2.1, .inl (S_70 a_72).2.2.1)), ((G a_72).2.1, .inl (cI, (G a_72).2.2.1, .inl (S_70 a_72).2.2.2))] H := pool_cut (T := [nd, a_72]) (cx := []) hP hT9 [] rfl
    have hDc : va_D A [(nd, .inr (4, [.int (S_70 nd).1, .int (nI (S_70 nd).2.1), .ref (G nd).1, .ref (G nd).2.1])), ((G nd).1, .inl (cI, (G nd).2.2.1, .inl (S_70 nd).2.2.1)), ((G nd).2.1, .inl (cI, (G nd).2.2.1, .inl (S_70 nd).2.2.2)), (a_72, .inr (4, [.int (S_70 a_72).1, .int (nI (S_70 a_72).2.1), .ref (G a_72).1, .ref (G a_72).2.1])), ((G a_72).1, .inl (cI, (G a_72).2.2.1, .inl (S_70 a_72).2.2.1)), ((G a_72).2.1, .inl (cI, (G a_72).2.2.1, .inl (S_70 a_72).2.2.2))] := pool_cutD (T := [nd, a_72]) (cx := []) hD hT9 (nd2 hab) [] (by decide) rfl
    have hFc : ∀ q, va_A [(nd, .inr (4, [.int (S_70 nd).1, .int (nI (S_70 nd).2.1), .ref (G nd).1, .ref (G nd).2.1])), ((G nd).1, .inl (cI, (G nd).2.2.1, .inl (S_70 nd).2.2.1)), ((G nd).2.1, .inl (cI, (G nd).2.2.1, .inl (S_70 nd).2.2.2)), (a_72, .inr (4, [.int (S_70 a_72).1, .int (nI (S_70 a_72).2.1), .ref (G a_72).1, .ref (G a_72).2.1])), ((G a_72).1, .inl (cI, (G a_72).2.2.1, .inl (S_70 a_72).2.2.1)), ((G a_72).2.1, .inl (cI, (G a_72).2.2.1, .inl (S_70 a_72).2.2.2))] (H).size q → A q := pool_free (T := [nd, a_72]) (cx := []) hD hS hA hT9 [] rfl
    have hKc := hK.sub (tys' := [(cI, .int), (cI, .int), (cI, .int), (cI, .int)]) [1, 1, 1, 1] rfl
    refine va_callv (va_runV (As := [.ref a_72]) (rest := []) ⟨hx, hb, hml, hown, hts⟩ (c_X4_copy l dC dI H.size nd (G nd).1 (G nd).2.1 (G nd).2.2.1 (S_70 nd).2.1 (S_70 nd).1 cI cI (S_70 nd).2.2.1 (S_70 nd).2.2.2 a_72 (G a_72).1 (G a_72).2.1 (G a_72).2.2.1 (S_70 a_72).2.1 (S_70 a_72).1 cI cI (S_70 a_72).2.2.1 (S_70 a_72).2.2.2 (by first | assumption | omega | decide) (by first | assumption | omega | decide) (by first | assumption | omega | decide) (by first | assumption | omega | decide) (by first | assumption | omega | decide)) (cwV 1 hts g_X1_mend_X4_copy rfl rfl rfl (by decide +kernel) ⟨Nat.le_of_ble_eq_true rfl, Nat.le_of_ble_eq_true rfl⟩) ⟨fun a U g mk q => by obtain ⟨q0, q1, qP, qK, qD⟩ := q; exact ⟨q0, q1, qP, va_K.moved (u := U) (U := U.calling g mk a) (Vm.Alike.refl U.vm) qK, qD⟩, va_recv hKc hPc (ci := 4) (q0 := 0) rfl rfl, fun U hU hW => ⟨rfl, by rw [hU], by rw [hU]; exact hPc, va_K.moved hW.alike hKc, hDc.weaken (fun _ _ _ _ => trivial)⟩⟩ rfl rfl hl.1 rfl (lv_room (Nat.le_of_ble_eq_true rfl)) dX1_mend_56 ⟨(show 0 + 0 ≤ 0 by omega), (show 0 + 0 ≤ 0 by omega)⟩) hS (fun q _ h => hFc q h) hFc (fun u t H1 locs ht hvm hw hB hz1 hk1 hS => ?_)
    obtain ⟨m2_74, f2_75, g2_76⟩ := u
    obtain ⟨hP1, hK1, hD1⟩ := hB
    rw [ht] at hP1
    have hK1 := va_K.moved hvm.symm hK1
    try dsimp only at hw
    obtain ⟨hP, hD⟩ := pool_join (S := S_70) (S1 := (pgJ [nd] (fun _ => ((S_70 a_72).1, m2_74, f2_75, g2_76)) (fun _ => ((S_70 a_72).1, (S_70 a_72).2.1, (S_70 a_72).2.2.1, (S_70 a_72).2.2.2)))) (T := [nd, a_72]) (cx := []) (wr := [(he, .inr (1, [.ref hm, .ref hf, .ref hp, .ref eb, .ref ep, .int (nI el), .ref nd, .ref mt, .ref ab])), (eb, .inl (cI, 12, .inl fb)), (ep, .inl (cI, 12, .inl fq)), (hm, .inr (3, [.int mk, .int mc])), (hp, .inr (5, [.int (nI pm), .long fr, .long wk, .int nr, .ref pd, .ref pt, .ref pb, .long fe])), (pd, .inl (cO, 25, .inr (.inr (.inr (.inr fd))))), (pt, .inl (cI, 25, .inl ft)), (hf, .inr (2, [.int dp, .ref qp, .ref qe, .ref ql, .int (nI lo), .int (nI le)])), (qp, .inl (cO, b, .inr (.inr (.inr (.inr fp)))))]) (rx := []) hP hD hT9 [] [0, 1, 2, 3, 4, 5, 6, 7, 8] rfl rfl (by decide) (by decide) hk1 hFc (by rw [pool2 hab]; exact hP1) (by rw [pool2 hab]; exact hD1)
    obtain ⟨S_77, eS_77⟩ : ∃ x, x = pgJ [nd, a_72] (pgJ [nd] (fun _ => ((S_70 a_72).1, m2_74, f2_75, g2_76)) (fun _ => ((S_70 a_72).1, (S_70 a_72).2.1, (S_70 a_72).2.2.1, (S_70 a_72).2.2.2))) S_70 := ⟨_, rfl⟩
    rw [← eS_77] at hP hD
    have hK := (hK.sub (tys' := [(cO, .object RX4), (cI, .int)]) [0, 1] rfl).app hK1
    have hK : va_K (dC, dI) vwCl [(cO, .object RX4), (cI, .int)] s := hK.sub [0, 1] rfl
    generalize H1 = H at hP hS ⊢
    have hP : va_P (dC, dI) vwCl ([(he, .inr (1, [.ref hm, .ref hf, .ref hp, .ref eb, .ref ep, .int (nI el), .ref nd, .ref mt, .ref ab])), (eb, .inl (cI, 12, .inl fb)), (ep, .inl (cI, 12, .inl fq)), (hm, .inr (3, [.int mk, .int mc])), (hp, .inr (5, [.int (nI pm), .long fr, .long wk, .int nr, .ref pd, .ref pt, .ref pb, .long fe])), (pd, .inl (cO, 25, .inr (.inr (.inr (.inr fd))))), (pt, .inl (cI, 25, .inl ft)), (hf, .inr (2, [.int dp, .ref qp, .ref qe, .ref ql, .int (nI lo), .int (nI le)])), (qp, .inl (cO, b, .inr (.inr (.inr (.inr fp)))))] ++ pool G cI Pg S_77) H := hP
    have hD : va_D A ([(he, .inr (1, [.ref hm, .ref hf, .ref hp, .ref eb, .ref ep, .int (nI el), .ref nd, .ref mt, .ref ab])), (eb, .inl (cI, 12, .inl fb)), (ep, .inl (cI, 12, .inl fq)), (hm, .inr (3, [.int mk, .int mc])), (hp, .inr (5, [.int (nI pm), .long fr, .long wk, .int nr, .ref pd, .ref pt, .ref pb, .long fe])), (pd, .inl (cO, 25, .inr (.inr (.inr (.inr fd))))), (pt, .inl (cI, 25, .inl ft)), (hf, .inr (2, [.int dp, .ref qp, .ref qe, .ref ql, .int (nI lo), .int (nI le)])), (qp, .inl (cO, b, .inr (.inr (.inr (.inr fp)))))] ++ pool G cI Pg S_77) := hD
    have hK : va_K (dC, dI) vwCl [(cO, .object RX4), (cI, .int)] s := hK
    have hI : pgI G Pg S_77 := by rw [eS_77]; exact pgI_2 hI hab (by first | assumption | exact Or.inl rfl | exact Or.inr rfl | exact hw.2.1 | exact hw.1) (by first | assumption | omega) (by first | assumption | exact Or.inl rfl | exact Or.inr rfl | exact hw.2.1 | exact hw.1) (by first | assumption | omega)
    have hw_r_73 := hw
    refine lv_goto (tgt := 78) hx hb dX1_mend_59 (by decide) ?_
    exact jn_6 S_77 _ _ _ hI (hP.part (cx := [(he, .inr (1, [.ref hm, .ref hf, .ref hp, .ref eb, .ref ep, .int (nI el), .ref nd, .ref mt, .ref ab])), (eb, .inl (cI, 12, .inl fb)), (ep, .inl (cI, 12, .inl fq)), (hm, .inr (3, [.int mk, .int mc])), (hf, .inr (2, [.int dp, .ref qp, .ref qe, .ref ql, .int (nI lo), .int (nI le)])), (qp, .inl (cO, b, .inr (.inr (.inr (.inr fp))))), (hp, .inr (5, [.int (nI pm), .long fr, .long wk, .int nr, .ref pd, .ref pt, .ref pb, .long fe])), (pd, .inl (cO, 25, .inr (.inr (.inr (.inr fd))))), (pt, .inl (cI, 25, .inl ft))]) [0, 1, 2, 3, 7, 8, 4, 5, 6] rfl) (hD.part (cx := [(he, .inr (1, [.ref hm, .ref hf, .ref hp, .ref eb, .ref ep, .int (nI el), .ref nd, .ref mt, .ref ab])), (eb, .inl (cI, 12, .inl fb)), (ep, .inl (cI, 12, .inl fq)), (hm, .inr (3, [.int mk, .int mc])), (hf, .inr (2, [.int dp, .ref qp, .ref qe, .ref ql, .int (nI lo), .int (nI le)])), (qp, .inl (cO, b, .inr (.inr (.inr (.inr fp))))), (hp, .inr (5, [.int (nI pm), .long fr, .long wk, .int nr, .ref pd, .ref pt, .ref pb, .long fe])), (pd, .inl (cO, 25, .inr (.inr (.inr (.inr fd))))), (pt, .inl (cI, 25, .inl ft))]) [0, 1, 2, 3, 7, 8, 4, 5, 6] (by decide) rfl) hS (lv_sub hl [0, 1, 2, 3, 4] rfl)
def v_X1_settleUppermost : List Cond := .code yX1_settleUppermost cX1_settleUppermost 2 (some .int) :: ([.fieldLink RX1 35 "TwinRoots$Editor" "node" "LTwinRoots$Page;", .fieldLink RX1 110 "TwinRoots$Page" "leaf" "Z", .fieldLink RX1 107 "TwinRoots$Page" "many" "I", .fieldLink RX1 19 "TwinRoots$Editor" "plan" "LTwinRoots$Plan;", .code yX5_drop cX5_drop 2 none, .fieldLink RX5 43 "TwinRoots$Plan" "work" "J", .code yX8_bit cX8_bit 1 (some .long), .initialized RX8, .static yX8_bit, .constantLong RX5 58 (-1), .methodLink RX1 151 yX5_drop, .instanceMethod yX5_drop, .selects RX5 yX5_drop yX5_drop, .initialized RX5, .code yX4_refAt cX4_refAt 2 (some .int), .fieldLink RX4 22 "TwinRoots$Page" "many" "I", .fieldLink RX4 19 "TwinRoots$Page" "refs" "[I", .methodLink RX1 141 yX4_refAt, .instanceMethod yX4_refAt, .selects RX4 yX4_refAt yX4_refAt, .initialized RX4, .code yX5_write cX5_write 4 (some .int), .fieldLink RX5 40 "TwinRoots$Plan" "fresh" "J", .code yX8_holds cX8_holds 3 (some .boolean), .methodLink RX8 227 yX8_bit, .static yX8_holds, .code yX5_takeLeast cX5_takeLeast 2 (some .int), .fieldLink RX5 32 "TwinRoots$Plan" "noRoom" "Z", .fieldLink RX5 36 "TwinRoots$Plan" "free" "J", .methodLink RX5 50 yX5_takeLeast, .instanceMethod yX5_takeLeast, .selects RX5 yX5_takeLeast yX5_takeLeast, .fieldLink RX5 28 "TwinRoots$Plan" "many" "I", .fieldLink RX5 11 "TwinRoots$Plan" "drafts" "[LTwinRoots$Page;", .fieldLink RX5 20 "TwinRoots$Plan" "targets" "[I", .code yX4_copy cX4_copy 2 none, .fieldLink RX4 9 "TwinRoots$Page" "leaf" "Z", .code yX4_clear cX4_clear 2 none, .methodLink RX4 26 yX4_clear, .instanceMethod yX4_clear, .selects RX4 yX4_clear yX4_clear, .code yX4_append cX4_append 4 none, .fieldLink RX4 15 "TwinRoots$Page" "keys" "[I", .code yX4_keyAt cX4_keyAt 2 (some .int), .methodLink RX4 34 yX4_keyAt, .instanceMethod yX4_keyAt, .selects RX4 yX4_keyAt yX4_keyAt, .methodLink RX4 38 yX4_refAt, .methodLink RX4 30 yX4_append, .instanceMethod yX4_append, .selects RX4 yX4_append yX4_append, .methodLink RX5 60 yX4_copy, .instanceMethod yX4_copy, .selects RX4 yX4_copy yX4_copy, .methodLink RX1 94 yX5_write, .instanceMethod yX5_write, .selects RX5 yX5_write yX5_write] ++ (wsX10 ++ (wsX40 ++ (wsX50 ++ ([])))))
set_option maxRecDepth 20000 in
theorem g_X1_settleUppermost_X5_drop : GoodIn v_X1_settleUppermost (wsV RX1 151 RX5 yX5_drop v_X5_drop) := goodIn_r _ [11, 12, 13, 14, 5, 6, 7, 8, 9, 10, 71, 72, 73, 74, 75, 76, 77, 78] (by decide +kernel) (by decide +kernel)
set_option maxRecDepth 20000 in
theorem g_X1_settleUppermost_X4_refAt : GoodIn v_X1_settleUppermost (wsV RX1 141 RX4 yX4_refAt v_X4_refAt) := goodIn_r _ [18, 19, 20, 21, 15, 16, 17, 67, 68, 69, 70] (by decide +kernel) (by decide +kernel)
set_option maxRecDepth 20000 in
theorem g_X1_settleUppermost_X5_write : GoodIn v_X1_settleUppermost (wsV RX1 94 RX5 yX5_write v_X5_write) := goodIn_r _ [55, 56, 57, 14, 22, 23, 24, 7, 25, 9, 8, 26, 27, 28, 29, 10, 30, 31, 32, 14, 6, 33, 34, 35, 36, 37, 38, 16, 39, 40, 41, 21, 42, 43, 17, 44, 45, 46, 47, 15, 48, 19, 20, 49, 50, 51, 52, 53, 54, 71, 72, 73, 74, 75, 76, 77, 78, 67, 68, 69, 70] (by decide +kernel) (by decide +kernel)
set_option maxHeartbeats 4000000 in
set_option maxRecDepth 100000 in
/-- settleUppermost -/
theorem c_X1_settleUppermost (l : Launch) (dC : Nat → ClassId) (dI : Nat → Nat → Nat) (sz : Nat) (he : Nat) (hm : Nat) (hf : Nat) (hp : Nat) (eb : Nat) (ep : Nat) (nd : Nat) (mt : Nat) (ab : Nat) (el : Nat) (pm : Nat) (pd : Nat) (pt : Nat) (pb : Nat) (mk : Int32) (mc : Int32) (nr : Int32) (fr : Int64) (wk : Int64) (fe : Int64) (fb : Nat → Int32) (fq : Nat → Int32) (ft : Nat → Int32) (qp : Nat) (qe : Nat) (ql : Nat) (b : Nat) (lo : Nat) (le : Nat) (dp : Int32) (cO : ClassId) (fp : Nat → Option Nat) (fd : Nat → Option Nat) (G : pgG) (Pg : List Nat) (cI : ClassId) (S : pgS) (p0 : Int32) (zb : b ≤ 64) (hI : pgI G Pg S) (hpg : ∀ i, i < b → ∃ a, a ∈ Pg ∧ (G a).2.2.2 = 0 ∧ fp i = some a) (hm_qe : qe ∈ Pg) (ht_qe : (G qe).2.2.2 = 0) (zpm : pm ≤ 25) (hdr : ∀ i, i < 25 → ∃ a, a ∈ Pg ∧ (G a).2.2.2 = 1 ∧ fd i = some a) (hm_pb : pb ∈ Pg) (ht_pb : (G pb).2.2.2 = 1) (hm_nd : nd ∈ Pg) (ht_nd : (G nd).2.2.2 = 2) (hm_mt : mt ∈ Pg) (ht_mt : (G mt).2.2.2 = 3) (hm_ab : ab ∈ Pg) (ht_ab : (G ab).2.2.2 = 4) : Met l yX1_settleUppermost v_X1_settleUppermost ({ frames := 4, cells := 0, slots := 0, locals := 88 } : Room) (va_Pc [.ref he, .int p0] (fun U => U.heap.size = sz ∧ va_P (dC, dI) vwCl ([(he, .inr (1, [.ref hm, .ref hf, .ref hp, .ref eb, .ref ep, .int (nI el), .ref nd, .ref mt, .ref ab])), (eb, .inl (cI, 12, .inl fb)), (ep, .inl (cI, 12, .inl fq)), (hm, .inr (3, [.int mk, .int mc])), (hf, .inr (2, [.int dp, .ref qp, .ref qe, .ref ql, .int (nI lo), .int (nI le)])), (qp, .inl (cO, b, .inr (.inr (.inr (.inr fp))))), (hp, .inr (5, [.int (nI pm), .long fr, .long wk, .int nr, .ref pd, .ref pt, .ref pb, .long fe])), (pd, .inl (cO, 25, .inr (.inr (.inr (.inr fd))))), (pt, .inl (cI, 25, .inl ft))] ++ pool G cI Pg S) U.heap ∧ va_K (dC, dI) vwCl [(cO, .object RX4), (cI, .int)] U ∧ va_D (fun _ => True) ([(he, .inr (1, [.ref hm, .ref hf, .ref hp, .ref eb, .ref ep, .int (nI el), .ref nd, .ref mt, .ref ab])), (eb, .inl (cI, 12, .inl fb)), (ep, .inl (cI, 12, .inl fq)), (hm, .inr (3, [.int mk, .int mc])), (hf, .inr (2, [.int dp, .ref qp, .ref qe, .ref ql, .int (nI lo), .int (nI le)])), (qp, .inl (cO, b, .inr (.inr (.inr (.inr fp))))), (hp, .inr (5, [.int (nI pm), .long fr, .long wk, .int nr, .ref pd, .ref pt, .ref pb, .long fe])), (pd, .inl (cO, 25, .inr (.inr (.inr (.inr fd))))), (pt, .inl (cI, 25, .inl ft))] ++ pool G cI Pg S) ∧ va_Nw (.methodLinkNest RX5 54 yX8_bit "TwinRoots") U ∧ va_Nw (.methodLinkNest RX5 46 yX8_holds "TwinRoots") U)) (va_Qi (fun (r : Int32) (u : Nat × Int64 × Int64 × Int64 × Int32 × (Nat → Int32) × pgS) => match u with | (pm2, fr2, wk2, fe2, nr2, ft2, S2) => pgI G Pg S2 ∧ pm2 ≤ 25) (fun (u : Nat × Int64 × Int64 × Int64 × Int32 × (Nat → Int32) × pgS) (t : State) => match u with | (pm2, fr2, wk2, fe2, nr2, ft2, S2) => va_P (dC, dI) vwCl ([(he, .inr (1, [.ref hm, .ref hf, .ref hp, .ref eb, .ref ep, .int (nI el), .ref nd, .ref mt, .ref ab])), (eb, .inl (cI, 12, .inl fb)), (ep, .inl (cI, 12, .inl fq)), (hm, .inr (3, [.int mk, .int mc])), (hf, .inr (2, [.int dp, .ref qp, .ref qe, .ref ql, .int (nI lo), .int (nI le)])), (qp, .inl (cO, b, .inr (.inr (.inr (.inr fp))))), (hp, .inr (5, [.int (nI pm2), .long fr2, .long wk2, .int nr2, .ref pd, .ref pt, .ref pb, .long fe2])), (pd, .inl (cO, 25, .inr (.inr (.inr (.inr fd))))), (pt, .inl (cI, 25, .inl ft2))] ++ pool G cI Pg S2) t.heap ∧ va_K (dC, dI) vwCl [(cO, .object RX4), (cI, .int)] t ∧ va_D (va_A ([(he, .inr (1, [.ref hm, .ref hf, .ref hp, .ref eb, .ref ep, .int (nI el), .ref nd, .ref mt, .ref ab])), (eb, .inl (cI, 12, .inl fb)), (ep, .inl (cI, 12, .inl fq)), (hm, .inr (3, [.int mk, .int mc])), (hf, .inr (2, [.int dp, .ref qp, .ref qe, .ref ql, .int (nI lo), .int (nI le)])), (qp, .inl (cO, b, .inr (.inr (.inr (.inr fp))))), (hp, .inr (5, [.int (nI pm), .long fr, .long wk, .int nr, .ref pd, .ref pt, .ref pb, .long fe])), (pd, .inl (cO, 25, .inr (.inr (.inr (.inr fd))))), (pt, .inl (cI, 25, .inl ft))] ++ pool G cI Pg S) sz) ([(he, .inr (1, [.ref hm, .ref hf, .ref hp, .ref eb, .ref ep, .int (nI el), .ref nd, .ref mt, .ref ab])), (eb, .inl (cI, 12, .inl fb)), (ep, .inl (cI, 12, .inl fq)), (hm, .inr (3, [.int mk, .int mc])), (hf, .inr (2, [.int dp, .ref qp, .ref qe, .ref ql, .int (nI lo), .int (nI le)])), (qp, .inl (cO, b, .inr (.inr (.inr (.inr fp))))), (hp, .inr (5, [.int (nI pm2), .long fr2, .long wk2, .int nr2, .ref pd, .ref pt, .ref pb, .long fe2])), (pd, .inl (cO, 25, .inr (.inr (.inr (.inr fd))))), (pt, .inl (cI, 25, .inl ft2))] ++ pool G cI Pg S2)) (va_A ([(he, .inr (1, [.ref hm, .ref hf, .ref hp, .ref eb, .ref ep, .int (nI el), .ref nd, .ref mt, .ref ab])), (eb, .inl (cI, 12, .inl fb)), (ep, .inl (cI, 12, .inl fq)), (hm, .inr (3, [.int mk, .int mc])), (hf, .inr (2, [.int dp, .ref qp, .ref qe, .ref ql, .int (nI lo), .int (nI le)])), (qp, .inl (cO, b, .inr (.inr (.inr (.inr fp))))), (hp, .inr (5, [.int (nI pm), .long fr, .long wk, .int nr, .ref pd, .ref pt, .ref pb, .long fe])), (pd, .inl (cO, 25, .inr (.inr (.inr (.inr fd))))), (pt, .inl (cI, 25, .inl ft))] ++ pool G cI Pg S) sz)) 0 0 (va_A ([(he, .inr (1, [.ref hm, .ref hf, .ref hp, .ref eb, .ref ep, .int (nI el), .ref nd, .ref mt, .ref ab])), (eb, .inl (cI, 12, .inl fb)), (ep, .inl (cI, 12, .inl fq)), (hm, .inr (3, [.int mk, .int mc])), (hf, .inr (2, [.int dp, .ref qp, .ref qe, .ref ql, .int (nI lo), .int (nI le)])), (qp, .inl (cO, b, .inr (.inr (.inr (.inr fp))))), (hp, .inr (5, [.int (nI pm), .long fr, .long wk, .int nr, .ref pd, .ref pt, .ref pb, .long fe])), (pd, .inl (cO, 25, .inr (.inr (.inr (.inr fd))))), (pt, .inl (cI, 25, .inl ft))] ++ pool G cI Pg S) sz) := by
  refine Met.ofW (cc := cX1_settleUppermost) (maxL := 2) (ret := (some .int)) (by decide) rfl ?_
  intro p e s m args below meth c s₁ B hml hv
  obtain ⟨rfl, hsz, hP, hK, hD0, hNX5_54, hNX5_46⟩ := hv
  have hx := B.exec
  have hb := B.bytes
  have hr := B.returns
  have hts := atoms_spec (ws := v_X1_settleUppermost) B.pre
  have hown : s.vm.findClass RX1 = some m.cls := findClass_of_methodNamed B.named
  have hlocks := B.notSynchronized
  subst hsz
  have hD := hD0.self (sz := s.heap.size)
  generalize hAe : va_A ([(he, .inr (1, [.ref hm, .ref hf, .ref hp, .ref eb, .ref ep, .int (nI el), .ref nd, .ref mt, .ref ab])), (eb, .inl (cI, 12, .inl fb)), (ep, .inl (cI, 12, .inl fq)), (hm, .inr (3, [.int mk, .int mc])), (hf, .inr (2, [.int dp, .ref qp, .ref qe, .ref ql, .int (nI lo), .int (nI le)])), (qp, .inl (cO, b, .inr (.inr (.inr (.inr fp))))), (hp, .inr (5, [.int (nI pm), .long fr, .long wk, .int nr, .ref pd, .ref pt, .ref pb, .long fe])), (pd, .inl (cO, 25, .inr (.inr (.inr (.inr fd))))), (pt, .inl (cI, 25, .inl ft))] ++ pool G cI Pg S) s.heap.size = A at hD ⊢
  have hA : ∀ q : Nat, s.heap.size ≤ q → A q := fun q h => by rw [← hAe]; exact Or.inr h
  have hS : va_S A s.heap s.heap [] := va_S.rf
  have hP : va_P (dC, dI) vwCl ([(he, .inr (1, [.ref hm, .ref hf, .ref hp, .ref eb, .ref ep, .int (nI el), .ref nd, .ref mt, .ref ab])), (eb, .inl (cI, 12, .inl fb)), (ep, .inl (cI, 12, .inl fq)), (hm, .inr (3, [.int mk, .int mc])), (hf, .inr (2, [.int dp, .ref qp, .ref qe, .ref ql, .int (nI lo), .int (nI le)])), (qp, .inl (cO, b, .inr (.inr (.inr (.inr fp))))), (hp, .inr (5, [.int (nI pm), .long fr, .long wk, .int nr, .ref pd, .ref pt, .ref pb, .long fe])), (pd, .inl (cO, 25, .inr (.inr (.inr (.inr fd))))), (pt, .inl (cI, 25, .inl ft))] ++ pool G cI Pg S) s.heap := hP
  have hl := lv_entry ([.ref he, .int p0]) (n := 2) (Nat.le_of_ble_eq_true rfl)
  rw [lg_entry_eq]
  generalize (lg_sl ([.ref he, .int p0]) ++ List.replicate (2 - (lg_sl ([.ref he, .int p0])).length) Slot.unset).toArray = ls at hl ⊢
  have hl : lv_has ls 2 [(0, .ref he), (1, .int p0)] := hl
  have k_1 := (fun _ h => List.mem_cons_of_mem _ (List.mem_append_right _ (List.mem_append_left _ h)) : ∀ w ∈ wsX10, w ∈ v_X1_settleUppermost)
  have k_2 := hts (.fieldLink RX1 35 "TwinRoots$Editor" "node" "LTwinRoots$Page;") (List.mem_of_getElem? (i := 1) rfl)
  have k_3 := (fun _ h => List.mem_cons_of_mem _ (List.mem_append_right _ (List.mem_append_right _ (List.mem_append_left _ h))) : ∀ w ∈ wsX40, w ∈ v_X1_settleUppermost)
  have k_4 := hts (.fieldLink RX1 110 "TwinRoots$Page" "leaf" "Z") (List.mem_of_getElem? (i := 2) rfl)
  have k_5 := hts (.fieldLink RX1 107 "TwinRoots$Page" "many" "I") (List.mem_of_getElem? (i := 3) rfl)
  have k_6 := hts (.fieldLink RX1 19 "TwinRoots$Editor" "plan" "LTwinRoots$Plan;") (List.mem_of_getElem? (i := 4) rfl)
  refine lv_aload_n hx hb dX1_settleUppermost_0 rfl (lv_at hl 0 rfl) ?_
  refine va_get (D := (dC, dI)) (ci := 1) (v := .ref nd) (C := RX1) (T := TX1) (N := 9) hx hb hts k_1 hown hK hP 0 rfl rfl 6 (by decide) k_2 (fun _ h9 => h9) rfl dX1_settleUppermost_1 ?_
  obtain ⟨k9, hk9⟩ := pool_at (G := G) (cI := cI) (S := S) [(he, .inr (1, [.ref hm, .ref hf, .ref hp, .ref eb, .ref ep, .int (nI el), .ref nd, .ref mt, .ref ab])), (eb, .inl (cI, 12, .inl fb)), (ep, .inl (cI, 12, .inl fq)), (hm, .inr (3, [.int mk, .int mc])), (hf, .inr (2, [.int dp, .ref qp, .ref qe, .ref ql, .int (nI lo), .int (nI le)])), (qp, .inl (cO, b, .inr (.inr (.inr (.inr fp))))), (hp, .inr (5, [.int (nI pm), .long fr, .long wk, .int nr, .ref pd, .ref pt, .ref pb, .long fe])), (pd, .inl (cO, 25, .inr (.inr (.inr (.inr fd))))), (pt, .inl (cI, 25, .inl ft))] hm_nd
  refine va_get (D := (dC, dI)) (ci := 4) (v := .int (S nd).1) (C := RX4) (T := TX4) (N := 4) hx hb hts k_3 hown hK hP k9 hk9 rfl 0 (by decide) k_4 (fun _ h9 => h9) rfl dX1_settleUppermost_4 ?_
  refine lv_if_eq (tgt := 23) hx hb dX1_settleUppermost_7 (by decide) (fun c_1 => ?_) (fun c_1 => ?_)
  · refine lv_aload_n hx hb dX1_settleUppermost_23 rfl (lv_at hl 0 rfl) ?_
    refine va_get (D := (dC, dI)) (ci := 1) (v := .ref nd) (C := RX1) (T := TX1) (N := 9) hx hb hts k_1 hown hK hP 0 rfl rfl 6 (by decide) k_2 (fun _ h9 => h9) rfl dX1_settleUppermost_24 ?_
    obtain ⟨k9, hk9⟩ := pool_at (G := G) (cI := cI) (S := S) [(he, .inr (1, [.ref hm, .ref hf, .ref hp, .ref eb, .ref ep, .int (nI el), .ref nd, .ref mt, .ref ab])), (eb, .inl (cI, 12, .inl fb)), (ep, .inl (cI, 12, .inl fq)), (hm, .inr (3, [.int mk, .int mc])), (hf, .inr (2, [.int dp, .ref qp, .ref qe, .ref ql, .int (nI lo), .int (nI le)])), (qp, .inl (cO, b, .inr (.inr (.inr (.inr fp))))), (hp, .inr (5, [.int (nI pm), .long fr, .long wk, .int nr, .ref pd, .ref pt, .ref pb, .long fe])), (pd, .inl (cO, 25, .inr (.inr (.inr (.inr fd))))), (pt, .inl (cI, 25, .inl ft))] hm_nd
    refine va_get (D := (dC, dI)) (ci := 4) (v := .int (nI (S nd).2.1)) (C := RX4) (T := TX4) (N := 4) hx hb hts k_3 hown hK hP k9 hk9 rfl 1 (by decide) k_5 (fun _ h9 => h9) rfl dX1_settleUppermost_27 ?_
    refine lv_iconst (v := 1) hx hb dX1_settleUppermost_30 (by decide) ?_
    refine lv_icmp_le (tgt := 47) hx hb dX1_settleUppermost_31 (by decide) (fun c_2 => ?_) (fun c_2 => ?_)
    · refine lv_aload_n hx hb dX1_settleUppermost_47 rfl (lv_at hl 0 rfl) ?_
      refine va_get (D := (dC, dI)) (ci := 1) (v := .ref hp) (C := RX1) (T := TX1) (N := 9) hx hb hts k_1 hown hK hP 0 rfl rfl 2 (by decide) k_6 (fun _ h9 => h9) rfl dX1_settleUppermost_48 ?_
      refine lv_iload_n hx hb dX1_settleUppermost_51 rfl (lv_at hl 1 rfl) ?_
      have hPc := hP.sub (ws' := [(hp, .inr (5, [.int (nI pm), .long fr, .long wk, .int nr, .ref pd, .ref pt, .ref pb, .long fe]))]) [6] rfl
      have hDc := hD.sub (ws' := [(hp, .inr (5, [.int (nI pm), .long fr, .long wk, .int nr, .ref pd, .ref pt, .ref pb, .long fe]))]) [6] (by decide) rfl
      have hKc := hK.sub (tys' := []) [] rfl
      have hFc := va_free (wc := [(hp, .inr (5, [.int (nI pm), .long fr, .long wk, .int nr, .ref pd, .ref pt, .ref pb, .long fe]))]) hD hS hA [6] rfl
      refine va_callv (va_runV (As := [.int p0]) (rest := []) ⟨hx, hb, hml, hown, hts⟩ (c_X5_drop l dC dI s.heap.size hp pd pt pb fr wk fe nr pm p0) (cwV 1 hts g_X1_settleUppermost_X5_drop rfl rfl rfl (by decide +kernel) ⟨Nat.le_of_ble_eq_true rfl, Nat.le_of_ble_eq_true rfl⟩) ⟨fun a U g mk q => by obtain ⟨q0, q1, qP, qK, qD, qX0⟩ := q; exact ⟨q0, q1, qP, va_K.moved (u := U) (U := U.calling g mk a) (Vm.Alike.refl U.vm) qK, qD, va_Nw.same (u := U) (U := U.calling g mk a) rfl rfl qX0⟩, va_recv hKc hPc (ci := 5) (q0 := 0) rfl rfl, fun U hU hW => ⟨rfl, by rw [hU], by rw [hU]; exact hPc, va_K.moved hW.alike hKc, hDc.weaken (fun _ _ _ _ => trivial), va_Nw.warmM hW hNX5_54⟩⟩ rfl rfl hl.1 rfl (lv_room (Nat.le_of_ble_eq_true rfl)) dX1_settleUppermost_52 ⟨(show 0 + 0 ≤ 0 by omega), (show 0 + 0 ≤ 0 by omega)⟩) hS (fun q _ h => hFc q h) hFc (fun u t H1 locs ht hvm hw hB hz1 hk1 hS => ?_)
      obtain ⟨wk2_4, rfl⟩ : ∃ z, z = u := ⟨_, rfl⟩
      obtain ⟨hP1, hK1, hD1⟩ := hB
      rw [ht] at hP1
      have hK1 := va_K.moved hvm.symm hK1
      try dsimp only at hw
      obtain ⟨hP, hD⟩ := va_joinQ (wr := [(he, .inr (1, [.ref hm, .ref hf, .ref hp, .ref eb, .ref ep, .int (nI el), .ref nd, .ref mt, .ref ab])), (eb, .inl (cI, 12, .inl fb)), (ep, .inl (cI, 12, .inl fq)), (hm, .inr (3, [.int mk, .int mc])), (hf, .inr (2, [.int dp, .ref qp, .ref qe, .ref ql, .int (nI lo), .int (nI le)])), (qp, .inl (cO, b, .inr (.inr (.inr (.inr fp))))), (pd, .inl (cO, 25, .inr (.inr (.inr (.inr fd))))), (pt, .inl (cI, 25, .inl ft))]) (w1 := [(hp, .inr (5, [.int (nI pm), .long fr, .long wk2_4, .int nr, .ref pd, .ref pt, .ref pb, .long fe]))]) hP hD [6] [0, 1, 2, 3, 4, 5, 7, 8] rfl rfl (by decide) (by decide) hk1 hFc hP1 hD1
      have hK := (hK.sub (tys' := [(cO, .object RX4), (cI, .int)]) [0, 1] rfl).app hK1
      have hK : va_K (dC, dI) vwCl [(cO, .object RX4), (cI, .int)] s := hK.sub [0, 1] rfl
      generalize H1 = H at hP hS ⊢
      have hP : va_P (dC, dI) vwCl ([(he, .inr (1, [.ref hm, .ref hf, .ref hp, .ref eb, .ref ep, .int (nI el), .ref nd, .ref mt, .ref ab])), (eb, .inl (cI, 12, .inl fb)), (ep, .inl (cI, 12, .inl fq)), (hm, .inr (3, [.int mk, .int mc])), (hf, .inr (2, [.int dp, .ref qp, .ref qe, .ref ql, .int (nI lo), .int (nI le)])), (qp, .inl (cO, b, .inr (.inr (.inr (.inr fp))))), (pd, .inl (cO, 25, .inr (.inr (.inr (.inr fd))))), (pt, .inl (cI, 25, .inl ft)), (hp, .inr (5, [.int (nI pm), .long fr, .long wk2_4, .int nr, .ref pd, .ref pt, .ref pb, .long fe]))] ++ pool G cI Pg S) H := hP
      have hD : va_D A ([(he, .inr (1, [.ref hm, .ref hf, .ref hp, .ref eb, .ref ep, .int (nI el), .ref nd, .ref mt, .ref ab])), (eb, .inl (cI, 12, .inl fb)), (ep, .inl (cI, 12, .inl fq)), (hm, .inr (3, [.int mk, .int mc])), (hf, .inr (2, [.int dp, .ref qp, .ref qe, .ref ql, .int (nI lo), .int (nI le)])), (qp, .inl (cO, b, .inr (.inr (.inr (.inr fp))))), (pd, .inl (cO, 25, .inr (.inr (.inr (.inr fd))))), (pt, .inl (cI, 25, .inl ft)), (hp, .inr (5, [.int (nI pm), .long fr, .long wk2_4, .int nr, .ref pd, .ref pt, .ref pb, .long fe]))] ++ pool G cI Pg S) := hD
      have hK : va_K (dC, dI) vwCl [(cO, .object RX4), (cI, .int)] s := hK
      refine lv_aload_n hx hb dX1_settleUppermost_55 rfl (lv_at hl 0 rfl) ?_
      refine va_get (D := (dC, dI)) (ci := 1) (v := .ref nd) (C := RX1) (T := TX1) (N := 9) hx hb hts k_1 hown hK hP 0 rfl rfl 6 (by decide) k_2 (fun _ h9 => h9) rfl dX1_settleUppermost_56 ?_
      obtain ⟨k9, hk9⟩ := pool_at (G := G) (cI := cI) (S := S) [(he, .inr (1, [.ref hm, .ref hf, .ref hp, .ref eb, .ref ep, .int (nI el), .ref nd, .ref mt, .ref ab])), (eb, .inl (cI, 12, .inl fb)), (ep, .inl (cI, 12, .inl fq)), (hm, .inr (3, [.int mk, .int mc])), (hf, .inr (2, [.int dp, .ref qp, .ref qe, .ref ql, .int (nI lo), .int (nI le)])), (qp, .inl (cO, b, .inr (.inr (.inr (.inr fp))))), (pd, .inl (cO, 25, .inr (.inr (.inr (.inr fd))))), (pt, .inl (cI, 25, .inl ft)), (hp, .inr (5, [.int (nI pm), .long fr, .long wk2_4, .int nr, .ref pd, .ref pt, .ref pb, .long fe]))] hm_nd
      refine va_get (D := (dC, dI)) (ci := 4) (v := .int (S nd).1) (C := RX4) (T := TX4) (N := 4) hx hb hts k_3 hown hK hP k9 hk9 rfl 0 (by decide) k_4 (fun _ h9 => h9) rfl dX1_settleUppermost_59 ?_
      refine lv_if_eq (tgt := 69) hx hb dX1_settleUppermost_62 (by decide) (fun c_5 => ?_) (fun c_5 => ?_)
      · refine lv_aload_n hx hb dX1_settleUppermost_69 rfl (lv_at hl 0 rfl) ?_
        refine va_get (D := (dC, dI)) (ci := 1) (v := .ref nd) (C := RX1) (T := TX1) (N := 9) hx hb hts k_1 hown hK hP 0 rfl rfl 6 (by decide) k_2 (fun _ h9 => h9) rfl dX1_settleUppermost_70 ?_
        refine lv_iconst (v := 0) hx hb dX1_settleUppermost_73 (by decide) ?_
        have hz1_nd := (hI nd hm_nd).1
        have hz2_nd := (hI nd hm_nd).2.1
        have hz3_nd := (hI nd hm_nd).2.2
        have hT9 := in1 hm_nd
        have hPc : va_P (dC, dI) vwCl [(nd, .inr (4, [.int (S nd).1, .int (nI (S nd).2.1), .ref (G nd).1, .ref (G nd).2.1])), ((G nd).1, .inl (cI, (G nd).2.2.1, .inl (S nd).2.2.1)), ((G nd).2.1, .inl (cI, (G nd).2.2.1, .inl (S nd).2.2.2))] H := pool_cut (T := [nd]) (cx := []) hP hT9 [] rfl
        have hDc : va_D A [(nd, .inr (4, [.int (S nd).1, .int (nI (S nd).2.1), .ref (G nd).1, .ref (G nd).2.1])), ((G nd).1, .inl (cI, (G nd).2.2.1, .inl (S nd).2.2.1)), ((G nd).2.1, .inl (cI, (G nd).2.2.1, .inl (S nd).2.2.2))] := pool_cutD (T := [nd]) (cx := []) hD hT9 (nd1) [] (by decide) rfl
        have hFc : ∀ q, va_A [(nd, .inr (4, [.int (S nd).1, .int (nI (S nd).2.1), .ref (G nd).1, .ref (G nd).2.1])), ((G nd).1, .inl (cI, (G nd).2.2.1, .inl (S nd).2.2.1)), ((G nd).2.1, .inl (cI, (G nd).2.2.1, .inl (S nd).2.2.2))] (H).size q → A q := pool_free (T := [nd]) (cx := []) hD hS hA hT9 [] rfl
        have hKc := hK.sub (tys' := [(cI, .int), (cI, .int)]) [1, 1] rfl
        refine va_calli (va_runV (As := [.int 0]) (rest := []) ⟨hx, hb, hml, hown, hts⟩ (c_X4_refAt l dC dI H.size nd (G nd).1 (G nd).2.1 (G nd).2.2.1 (S nd).2.1 (S nd).1 cI cI (S nd).2.2.1 (S nd).2.2.2 0 (by first | assumption | omega | decide) (by first | assumption | omega | decide)) (cwV 1 hts g_X1_settleUppermost_X4_refAt rfl rfl rfl (by decide +kernel) ⟨Nat.le_of_ble_eq_true rfl, Nat.le_of_ble_eq_true rfl⟩) ⟨fun a U g mk q => by obtain ⟨q0, q1, qP, qK, qD⟩ := q; exact ⟨q0, q1, qP, va_K.moved (u := U) (U := U.calling g mk a) (Vm.Alike.refl U.vm) qK, qD⟩, va_recv hKc hPc (ci := 4) (q0 := 0) rfl rfl, fun U hU hW => ⟨rfl, by rw [hU], by rw [hU]; exact hPc, va_K.moved hW.alike hKc, hDc.weaken (fun _ _ _ _ => trivial)⟩⟩ rfl rfl hl.1 rfl (lv_room (Nat.le_of_ble_eq_true rfl)) dX1_settleUppermost_74 ⟨(show 0 + 0 ≤ 0 by omega), (show 0 + 0 ≤ 0 by omega)⟩) hS (fun q _ h => hFc q h) hFc (fun r_6 u t H1 locs ht hvm hw hB hz1 hk1 hS => ?_)
        obtain ⟨hP1, hK1, hD1⟩ := hB
        rw [ht] at hP1
        have hK1 := va_K.moved hvm.symm hK1
        try dsimp only at hw
        obtain ⟨hP, hD⟩ := pool_join (S := S) (S1 := S) (T := [nd]) (cx := []) (wr := [(he, .inr (1, [.ref hm, .ref hf, .ref hp, .ref eb, .ref ep, .int (nI el), .ref nd, .ref mt, .ref ab])), (eb, .inl (cI, 12, .inl fb)), (ep, .inl (cI, 12, .inl fq)), (hm, .inr (3, [.int mk, .int mc])), (hf, .inr (2, [.int dp, .ref qp, .ref qe, .ref ql, .int (nI lo), .int (nI le)])), (qp, .inl (cO, b, .inr (.inr (.inr (.inr fp))))), (pd, .inl (cO, 25, .inr (.inr (.inr (.inr fd))))), (pt, .inl (cI, 25, .inl ft)), (hp, .inr (5, [.int (nI pm), .long fr, .long wk2_4, .int nr, .ref pd, .ref pt, .ref pb, .long fe]))]) (rx := []) hP hD hT9 [] [0, 1, 2, 3, 4, 5, 6, 7, 8] rfl rfl (by decide) (by decide) hk1 hFc hP1 hD1
        rw [pgJ_same] at hP hD
        have hK := (hK.sub (tys' := [(cO, .object RX4), (cI, .int)]) [0, 1] rfl).app hK1
        have hK : va_K (dC, dI) vwCl [(cO, .object RX4), (cI, .int)] s := hK.sub [0, 1] rfl
        generalize H1 = H at hP hS ⊢
        have hP : va_P (dC, dI) vwCl ([(he, .inr (1, [.ref hm, .ref hf, .ref hp, .ref eb, .ref ep, .int (nI el), .ref nd, .ref mt, .ref ab])), (eb, .inl (cI, 12, .inl fb)), (ep, .inl (cI, 12, .inl fq)), (hm, .inr (3, [.int mk, .int mc])), (hf, .inr (2, [.int dp, .ref qp, .ref qe, .ref ql, .int (nI lo), .int (nI le)])), (qp, .inl (cO, b, .inr (.inr (.inr (.inr fp))))), (pd, .inl (cO, 25, .inr (.inr (.inr (.inr fd))))), (pt, .inl (cI, 25, .inl ft)), (hp, .inr (5, [.int (nI pm), .long fr, .long wk2_4, .int nr, .ref pd, .ref pt, .ref pb, .long fe]))] ++ pool G cI Pg S) H := hP
        have hD : va_D A ([(he, .inr (1, [.ref hm, .ref hf, .ref hp, .ref eb, .ref ep, .int (nI el), .ref nd, .ref mt, .ref ab])), (eb, .inl (cI, 12, .inl fb)), (ep, .inl (cI, 12, .inl fq)), (hm, .inr (3, [.int mk, .int mc])), (hf, .inr (2, [.int dp, .ref qp, .ref qe, .ref ql, .int (nI lo), .int (nI le)])), (qp, .inl (cO, b, .inr (.inr (.inr (.inr fp))))), (pd, .inl (cO, 25, .inr (.inr (.inr (.inr fd))))), (pt, .inl (cI, 25, .inl ft)), (hp, .inr (5, [.int (nI pm), .long fr, .long wk2_4, .int nr, .ref pd, .ref pt, .ref pb, .long fe]))] ++ pool G cI Pg S) := hD
        have hK : va_K (dC, dI) vwCl [(cO, .object RX4), (cI, .int)] s := hK
        have hw_r_6 := hw
        have hP9 := hP.part (cx := [(he, .inr (1, [.ref hm, .ref hf, .ref hp, .ref eb, .ref ep, .int (nI el), .ref nd, .ref mt, .ref ab])), (eb, .inl (cI, 12, .inl fb)), (ep, .inl (cI, 12, .inl fq)), (hm, .inr (3, [.int mk, .int mc])), (hf, .inr (2, [.int dp, .ref qp, .ref qe, .ref ql, .int (nI lo), .int (nI le)])), (qp, .inl (cO, b, .inr (.inr (.inr (.inr fp))))), (hp, .inr (5, [.int (nI pm), .long fr, .long wk2_4, .int nr, .ref pd, .ref pt, .ref pb, .long fe])), (pd, .inl (cO, 25, .inr (.inr (.inr (.inr fd))))), (pt, .inl (cI, 25, .inl ft))]) [0, 1, 2, 3, 4, 5, 8, 6, 7] rfl
        have hD9 := hD.part (cx := [(he, .inr (1, [.ref hm, .ref hf, .ref hp, .ref eb, .ref ep, .int (nI el), .ref nd, .ref mt, .ref ab])), (eb, .inl (cI, 12, .inl fb)), (ep, .inl (cI, 12, .inl fq)), (hm, .inr (3, [.int mk, .int mc])), (hf, .inr (2, [.int dp, .ref qp, .ref qe, .ref ql, .int (nI lo), .int (nI le)])), (qp, .inl (cO, b, .inr (.inr (.inr (.inr fp))))), (hp, .inr (5, [.int (nI pm), .long fr, .long wk2_4, .int nr, .ref pd, .ref pt, .ref pb, .long fe])), (pd, .inl (cO, 25, .inr (.inr (.inr (.inr fd))))), (pt, .inl (cI, 25, .inl ft))]) [0, 1, 2, 3, 4, 5, 8, 6, 7] (by decide) rfl
        have hK9 := hK.sub (tys' := [(cO, .object RX4), (cI, .int)]) [0, 1] rfl
        exact W.iret (v := r_6) hx hb hr (fun t ht hW => ⟨⟨r_6, (pm, fr, wk2_4, fe, nr, ft, S), rfl, ⟨hI, by omega⟩, by rw [ht]; exact hP9, va_K.moved hW.alike hK9, hD9⟩, hS.F ht⟩) hS.2.2 dX1_settleUppermost_77
      · refine lv_iconst (v := 0) hx hb dX1_settleUppermost_65 (by decide) ?_
        refine lv_goto (tgt := 77) hx hb dX1_settleUppermost_66 (by decide) ?_
        have hP9 := hP.part (cx := [(he, .inr (1, [.ref hm, .ref hf, .ref hp, .ref eb, .ref ep, .int (nI el), .ref nd, .ref mt, .ref ab])), (eb, .inl (cI, 12, .inl fb)), (ep, .inl (cI, 12, .inl fq)), (hm, .inr (3, [.int mk, .int mc])), (hf, .inr (2, [.int dp, .ref qp, .ref qe, .ref ql, .int (nI lo), .int (nI le)])), (qp, .inl (cO, b, .inr (.inr (.inr (.inr fp))))), (hp, .inr (5, [.int (nI pm), .long fr, .long wk2_4, .int nr, .ref pd, .ref pt, .ref pb, .long fe])), (pd, .inl (cO, 25, .inr (.inr (.inr (.inr fd))))), (pt, .inl (cI, 25, .inl ft))]) [0, 1, 2, 3, 4, 5, 8, 6, 7] rfl
        have hD9 := hD.part (cx := [(he, .inr (1, [.ref hm, .ref hf, .ref hp, .ref eb, .ref ep, .int (nI el), .ref nd, .ref mt, .ref ab])), (eb, .inl (cI, 12, .inl fb)), (ep, .inl (cI, 12, .inl fq)), (hm, .inr (3, [.int mk, .int mc])), (hf, .inr (2, [.int dp, .ref qp, .ref qe, .ref ql, .int (nI lo), .int (nI le)])), (qp, .inl (cO, b, .inr (.inr (.inr (.inr fp))))), (hp, .inr (5, [.int (nI pm), .long fr, .long wk2_4, .int nr, .ref pd, .ref pt, .ref pb, .long fe])), (pd, .inl (cO, 25, .inr (.inr (.inr (.inr fd))))), (pt, .inl (cI, 25, .inl ft))]) [0, 1, 2, 3, 4, 5, 8, 6, 7] (by decide) rfl
        have hK9 := hK.sub (tys' := [(cO, .object RX4), (cI, .int)]) [0, 1] rfl
        exact W.iret (v := 0) hx hb hr (fun t ht hW => ⟨⟨0, (pm, fr, wk2_4, fe, nr, ft, S), rfl, ⟨hI, by omega⟩, by rw [ht]; exact hP9, va_K.moved hW.alike hK9, hD9⟩, hS.F ht⟩) hS.2.2 dX1_settleUppermost_77
    · refine lv_aload_n hx hb dX1_settleUppermost_34 rfl (lv_at hl 0 rfl) ?_
      refine va_get (D := (dC, dI)) (ci := 1) (v := .ref hp) (C := RX1) (T := TX1) (N := 9) hx hb hts k_1 hown hK hP 0 rfl rfl 2 (by decide) k_6 (fun _ h9 => h9) rfl dX1_settleUppermost_35 ?_
      refine lv_aload_n hx hb dX1_settleUppermost_38 rfl (lv_at hl 0 rfl) ?_
      refine va_get (D := (dC, dI)) (ci := 1) (v := .ref nd) (C := RX1) (T := TX1) (N := 9) hx hb hts k_1 hown hK hP 0 rfl rfl 6 (by decide) k_2 (fun _ h9 => h9) rfl dX1_settleUppermost_39 ?_
      refine lv_iload_n hx hb dX1_settleUppermost_42 rfl (lv_at hl 1 rfl) ?_
      have hPc := hP.part (cx := [(hp, .inr (5, [.int (nI pm), .long fr, .long wk, .int nr, .ref pd, .ref pt, .ref pb, .long fe])), (pd, .inl (cO, 25, .inr (.inr (.inr (.inr fd))))), (pt, .inl (cI, 25, .inl ft))]) [6, 7, 8] rfl
      have hDc := hD.part (cx := [(hp, .inr (5, [.int (nI pm), .long fr, .long wk, .int nr, .ref pd, .ref pt, .ref pb, .long fe])), (pd, .inl (cO, 25, .inr (.inr (.inr (.inr fd))))), (pt, .inl (cI, 25, .inl ft))]) [6, 7, 8] (by decide) rfl
      have hFc := va_freeP (cx := [(hp, .inr (5, [.int (nI pm), .long fr, .long wk, .int nr, .ref pd, .ref pt, .ref pb, .long fe])), (pd, .inl (cO, 25, .inr (.inr (.inr (.inr fd))))), (pt, .inl (cI, 25, .inl ft))]) hD hS hA [6, 7, 8] rfl
      have hKc := hK.sub (tys' := [(cO, .object RX4), (cI, .int)]) [0, 1] rfl
      refine va_calli (va_runV (As := [.ref nd, .int p0]) (rest := []) ⟨hx, hb, hml, hown, hts⟩ (c_X5_write l dC dI s.heap.size hp pd pt pb fr wk fe nr pm nd p0 cO fd ft G Pg cI S (by first | assumption | omega | decide) (by first | assumption | omega | decide) (by first | assumption | omega | decide) (by first | assumption | omega | decide) (by first | assumption | omega | decide) (by first | assumption | omega | decide) (by first | assumption | omega | decide)) (cwV 2 hts g_X1_settleUppermost_X5_write rfl rfl rfl (by decide +kernel) ⟨Nat.le_of_ble_eq_true rfl, Nat.le_of_ble_eq_true rfl⟩) ⟨fun a U g mk q => by obtain ⟨q0, q1, qP, qK, qD, qX0, qX1⟩ := q; exact ⟨q0, q1, qP, va_K.moved (u := U) (U := U.calling g mk a) (Vm.Alike.refl U.vm) qK, qD, va_Nw.same (u := U) (U := U.calling g mk a) rfl rfl qX0, va_Nw.same (u := U) (U := U.calling g mk a) rfl rfl qX1⟩, va_recv hKc hPc (ci := 5) (q0 := 0) rfl rfl, fun U hU hW => ⟨rfl, by rw [hU], by rw [hU]; exact hPc, va_K.moved hW.alike hKc, hDc.weaken (fun _ _ _ _ => trivial), va_Nw.warmM hW hNX5_46, va_Nw.warmM hW hNX5_54⟩⟩ rfl rfl hl.1 rfl (lv_room (Nat.le_of_ble_eq_true rfl)) dX1_settleUppermost_43 ⟨(show 0 + 0 ≤ 0 by omega), (show 0 + 0 ≤ 0 by omega)⟩) hS (fun q _ h => hFc q h) hFc (fun r_7 u t H1 locs ht hvm hw hB hz1 hk1 hS => ?_)
      obtain ⟨pm2_8, fr2_9, wk2_10, fe2_11, nr2_12, ft2_13, S2_14⟩ := u
      obtain ⟨hP1, hK1, hD1⟩ := hB
      rw [ht] at hP1
      have hK1 := va_K.moved hvm.symm hK1
      try dsimp only at hw
      obtain ⟨hP, hD⟩ := va_joinP (wr := [(he, .inr (1, [.ref hm, .ref hf, .ref hp, .ref eb, .ref ep, .int (nI el), .ref nd, .ref mt, .ref ab])), (eb, .inl (cI, 12, .inl fb)), (ep, .inl (cI, 12, .inl fq)), (hm, .inr (3, [.int mk, .int mc])), (hf, .inr (2, [.int dp, .ref qp, .ref qe, .ref ql, .int (nI lo), .int (nI le)])), (qp, .inl (cO, b, .inr (.inr (.inr (.inr fp)))))]) (rx := [(hp, .inr (5, [.int (nI pm2_8), .long fr2_9, .long wk2_10, .int nr2_12, .ref pd, .ref pt, .ref pb, .long fe2_11])), (pd, .inl (cO, 25, .inr (.inr (.inr (.inr fd))))), (pt, .inl (cI, 25, .inl ft2_13))]) (pl1 := pool G cI Pg S2_14) hP hD [6, 7, 8] [0, 1, 2, 3, 4, 5] rfl rfl (by decide) (by decide) hk1 hFc hP1 hD1
      have hK := (hK.sub (tys' := [(cO, .object RX4), (cI, .int)]) [0, 1] rfl).app hK1
      have hK : va_K (dC, dI) vwCl [(cO, .object RX4), (cI, .int)] s := hK.sub [0, 1] rfl
      generalize H1 = H at hP hS ⊢
      have hP : va_P (dC, dI) vwCl ([(he, .inr (1, [.ref hm, .ref hf, .ref hp, .ref eb, .ref ep, .int (nI el), .ref nd, .ref mt, .ref ab])), (eb, .inl (cI, 12, .inl fb)), (ep, .inl (cI, 12, .inl fq)), (hm, .inr (3, [.int mk, .int mc])), (hf, .inr (2, [.int dp, .ref qp, .ref qe, .ref ql, .int (nI lo), .int (nI le)])), (qp, .inl (cO, b, .inr (.inr (.inr (.inr fp))))), (hp, .inr (5, [.int (nI pm2_8), .long fr2_9, .long wk2_10, .int nr2_12, .ref pd, .ref pt, .ref pb, .long fe2_11])), (pd, .inl (cO, 25, .inr (.inr (.inr (.inr fd))))), (pt, .inl (cI, 25, .inl ft2_13))] ++ pool G cI Pg S2_14) H := hP
      have hD : va_D A ([(he, .inr (1, [.ref hm, .ref hf, .ref hp, .ref eb, .ref ep, .int (nI el), .ref nd, .ref mt, .ref ab])), (eb, .inl (cI, 12, .inl fb)), (ep, .inl (cI, 12, .inl fq)), (hm, .inr (3, [.int mk, .int mc])), (hf, .inr (2, [.int dp, .ref qp, .ref qe, .ref ql, .int (nI lo), .int (nI le)])), (qp, .inl (cO, b, .inr (.inr (.inr (.inr fp))))), (hp, .inr (5, [.int (nI pm2_8), .long fr2_9, .long wk2_10, .int nr2_12, .ref pd, .ref pt, .ref pb, .long fe2_11])), (pd, .inl (cO, 25, .inr (.inr (.inr (.inr fd))))), (pt, .inl (cI, 25, .inl ft2_13))] ++ pool G cI Pg S2_14) := hD
      have hK : va_K (dC, dI) vwCl [(cO, .object RX4), (cI, .int)] s := hK
      have hI := hw.1
      have hw_r_7 := hw
      have hP9 := hP.part (cx := [(he, .inr (1, [.ref hm, .ref hf, .ref hp, .ref eb, .ref ep, .int (nI el), .ref nd, .ref mt, .ref ab])), (eb, .inl (cI, 12, .inl fb)), (ep, .inl (cI, 12, .inl fq)), (hm, .inr (3, [.int mk, .int mc])), (hf, .inr (2, [.int dp, .ref qp, .ref qe, .ref ql, .int (nI lo), .int (nI le)])), (qp, .inl (cO, b, .inr (.inr (.inr (.inr fp))))), (hp, .inr (5, [.int (nI pm2_8), .long fr2_9, .long wk2_10, .int nr2_12, .ref pd, .ref pt, .ref pb, .long fe2_11])), (pd, .inl (cO, 25, .inr (.inr (.inr (.inr fd))))), (pt, .inl (cI, 25, .inl ft2_13))]) [0, 1, 2, 3, 4, 5, 6, 7, 8] rfl
      have hD9 := hD.part (cx := [(he, .inr (1, [.ref hm, .ref hf, .ref hp, .ref eb, .ref ep, .int (nI el), .ref nd, .ref mt, .ref ab])), (eb, .inl (cI, 12, .inl fb)), (ep, .inl (cI, 12, .inl fq)), (hm, .inr (3, [.int mk, .int mc])), (hf, .inr (2, [.int dp, .ref qp, .ref qe, .ref ql, .int (nI lo), .int (nI le)])), (qp, .inl (cO, b, .inr (.inr (.inr (.inr fp))))), (hp, .inr (5, [.int (nI pm2_8), .long fr2_9, .long wk2_10, .int nr2_12, .ref pd, .ref pt, .ref pb, .long fe2_11])), (pd, .inl (cO, 25, .inr (.inr (.inr (.inr fd))))), (pt, .inl (cI, 25, .inl ft2_13))]) [0, 1, 2, 3, 4, 5, 6, 7, 8] (by decide) rfl
      have hK9 := hK.sub (tys' := [(cO, .object RX4), (cI, .int)]) [0, 1] rfl
      exact W.iret (v := r_7) hx hb hr (fun t ht hW => ⟨⟨r_7, (pm2_8, fr2_9, wk2_10, fe2_11, nr2_12, ft2_13, S2_14), rfl, ⟨hI, by omega⟩, by rw [ht]; exact hP9, va_K.moved hW.alike hK9, hD9⟩, hS.F ht⟩) hS.2.2 dX1_settleUppermost_46
  · refine lv_aload_n hx hb dX1_settleUppermost_10 rfl (lv_at hl 0 rfl) ?_
    refine va_get (D := (dC, dI)) (ci := 1) (v := .ref nd) (C := RX1) (T := TX1) (N := 9) hx hb hts k_1 hown hK hP 0 rfl rfl 6 (by decide) k_2 (fun _ h9 => h9) rfl dX1_settleUppermost_11 ?_
    obtain ⟨k9, hk9⟩ := pool_at (G := G) (cI := cI) (S := S) [(he, .inr (1, [.ref hm, .ref hf, .ref hp, .ref eb, .ref ep, .int (nI el), .ref nd, .ref mt, .ref ab])), (eb, .inl (cI, 12, .inl fb)), (ep, .inl (cI, 12, .inl fq)), (hm, .inr (3, [.int mk, .int mc])), (hf, .inr (2, [.int dp, .ref qp, .ref qe, .ref ql, .int (nI lo), .int (nI le)])), (qp, .inl (cO, b, .inr (.inr (.inr (.inr fp))))), (hp, .inr (5, [.int (nI pm), .long fr, .long wk, .int nr, .ref pd, .ref pt, .ref pb, .long fe])), (pd, .inl (cO, 25, .inr (.inr (.inr (.inr fd))))), (pt, .inl (cI, 25, .inl ft))] hm_nd
    refine va_get (D := (dC, dI)) (ci := 4) (v := .int (nI (S nd).2.1)) (C := RX4) (T := TX4) (N := 4) hx hb hts k_3 hown hK hP k9 hk9 rfl 1 (by decide) k_5 (fun _ h9 => h9) rfl dX1_settleUppermost_14 ?_
    refine lv_if_le (tgt := 47) hx hb dX1_settleUppermost_17 (by decide) (fun c_15 => ?_) (fun c_15 => ?_)
    · refine lv_aload_n hx hb dX1_settleUppermost_47 rfl (lv_at hl 0 rfl) ?_
      refine va_get (D := (dC, dI)) (ci := 1) (v := .ref hp) (C := RX1) (T := TX1) (N := 9) hx hb hts k_1 hown hK hP 0 rfl rfl 2 (by decide) k_6 (fun _ h9 => h9) rfl dX1_settleUppermost_48 ?_
      refine lv_iload_n hx hb dX1_settleUppermost_51 rfl (lv_at hl 1 rfl) ?_
      have hPc := hP.sub (ws' := [(hp, .inr (5, [.int (nI pm), .long fr, .long wk, .int nr, .ref pd, .ref pt, .ref pb, .long fe]))]) [6] rfl
      have hDc := hD.sub (ws' := [(hp, .inr (5, [.int (nI pm), .long fr, .long wk, .int nr, .ref pd, .ref pt, .ref pb, .long fe]))]) [6] (by decide) rfl
      have hKc := hK.sub (tys' := []) [] rfl
      have hFc := va_free (wc := [(hp, .inr (5, [.int (nI pm), .long fr, .long wk, .int nr, .ref pd, .ref pt, .ref pb, .long fe]))]) hD hS hA [6] rfl
      refine va_callv (va_runV (As := [.int p0]) (rest := []) ⟨hx, hb, hml, hown, hts⟩ (c_X5_drop l dC dI s.heap.size hp pd pt pb fr wk fe nr pm p0) (cwV 1 hts g_X1_settleUppermost_X5_drop rfl rfl rfl (by decide +kernel) ⟨Nat.le_of_ble_eq_true rfl, Nat.le_of_ble_eq_true rfl⟩) ⟨fun a U g mk q => by obtain ⟨q0, q1, qP, qK, qD, qX0⟩ := q; exact ⟨q0, q1, qP, va_K.moved (u := U) (U := U.calling g mk a) (Vm.Alike.refl U.vm) qK, qD, va_Nw.same (u := U) (U := U.calling g mk a) rfl rfl qX0⟩, va_recv hKc hPc (ci := 5) (q0 := 0) rfl rfl, fun U hU hW => ⟨rfl, by rw [hU], by rw [hU]; exact hPc, va_K.moved hW.alike hKc, hDc.weaken (fun _ _ _ _ => trivial), va_Nw.warmM hW hNX5_54⟩⟩ rfl rfl hl.1 rfl (lv_room (Nat.le_of_ble_eq_true rfl)) dX1_settleUppermost_52 ⟨(show 0 + 0 ≤ 0 by omega), (show 0 + 0 ≤ 0 by omega)⟩) hS (fun q _ h => hFc q h) hFc (fun u t H1 locs ht hvm hw hB hz1 hk1 hS => ?_)
      obtain ⟨wk2_17, rfl⟩ : ∃ z, z = u := ⟨_, rfl⟩
      obtain ⟨hP1, hK1, hD1⟩ := hB
      rw [ht] at hP1
      have hK1 := va_K.moved hvm.symm hK1
      try dsimp only at hw
      obtain ⟨hP, hD⟩ := va_joinQ (wr := [(he, .inr (1, [.ref hm, .ref hf, .ref hp, .ref eb, .ref ep, .int (nI el), .ref nd, .ref mt, .ref ab])), (eb, .inl (cI, 12, .inl fb)), (ep, .inl (cI, 12, .inl fq)), (hm, .inr (3, [.int mk, .int mc])), (hf, .inr (2, [.int dp, .ref qp, .ref qe, .ref ql, .int (nI lo), .int (nI le)])), (qp, .inl (cO, b, .inr (.inr (.inr (.inr fp))))), (pd, .inl (cO, 25, .inr (.inr (.inr (.inr fd))))), (pt, .inl (cI, 25, .inl ft))]) (w1 := [(hp, .inr (5, [.int (nI pm), .long fr, .long wk2_17, .int nr, .ref pd, .ref pt, .ref pb, .long fe]))]) hP hD [6] [0, 1, 2, 3, 4, 5, 7, 8] rfl rfl (by decide) (by decide) hk1 hFc hP1 hD1
      have hK := (hK.sub (tys' := [(cO, .object RX4), (cI, .int)]) [0, 1] rfl).app hK1
      have hK : va_K (dC, dI) vwCl [(cO, .object RX4), (cI, .int)] s := hK.sub [0, 1] rfl
      generalize H1 = H at hP hS ⊢
      have hP : va_P (dC, dI) vwCl ([(he, .inr (1, [.ref hm, .ref hf, .ref hp, .ref eb, .ref ep, .int (nI el), .ref nd, .ref mt, .ref ab])), (eb, .inl (cI, 12, .inl fb)), (ep, .inl (cI, 12, .inl fq)), (hm, .inr (3, [.int mk, .int mc])), (hf, .inr (2, [.int dp, .ref qp, .ref qe, .ref ql, .int (nI lo), .int (nI le)])), (qp, .inl (cO, b, .inr (.inr (.inr (.inr fp))))), (pd, .inl (cO, 25, .inr (.inr (.inr (.inr fd))))), (pt, .inl (cI, 25, .inl ft)), (hp, .inr (5, [.int (nI pm), .long fr, .long wk2_17, .int nr, .ref pd, .ref pt, .ref pb, .long fe]))] ++ pool G cI Pg S) H := hP
      have hD : va_D A ([(he, .inr (1, [.ref hm, .ref hf, .ref hp, .ref eb, .ref ep, .int (nI el), .ref nd, .ref mt, .ref ab])), (eb, .inl (cI, 12, .inl fb)), (ep, .inl (cI, 12, .inl fq)), (hm, .inr (3, [.int mk, .int mc])), (hf, .inr (2, [.int dp, .ref qp, .ref qe, .ref ql, .int (nI lo), .int (nI le)])), (qp, .inl (cO, b, .inr (.inr (.inr (.inr fp))))), (pd, .inl (cO, 25, .inr (.inr (.inr (.inr fd))))), (pt, .inl (cI, 25, .inl ft)), (hp, .inr (5, [.int (nI pm), .long fr, .long wk2_17, .int nr, .ref pd, .ref pt, .ref pb, .long fe]))] ++ pool G cI Pg S) := hD
      have hK : va_K (dC, dI) vwCl [(cO, .object RX4), (cI, .int)] s := hK
      refine lv_aload_n hx hb dX1_settleUppermost_55 rfl (lv_at hl 0 rfl) ?_
      refine va_get (D := (dC, dI)) (ci := 1) (v := .ref nd) (C := RX1) (T := TX1) (N := 9) hx hb hts k_1 hown hK hP 0 rfl rfl 6 (by decide) k_2 (fun _ h9 => h9) rfl dX1_settleUppermost_56 ?_
      obtain ⟨k9, hk9⟩ := pool_at (G := G) (cI := cI) (S := S) [(he, .inr (1, [.ref hm, .ref hf, .ref hp, .ref eb, .ref ep, .int (nI el), .ref nd, .ref mt, .ref ab])), (eb, .inl (cI, 12, .inl fb)), (ep, .inl (cI, 12, .inl fq)), (hm, .inr (3, [.int mk, .int mc])), (hf, .inr (2, [.int dp, .ref qp, .ref qe, .ref ql, .int (nI lo), .int (nI le)])), (qp, .inl (cO, b, .inr (.inr (.inr (.inr fp))))), (pd, .inl (cO, 25, .inr (.inr (.inr (.inr fd))))), (pt, .inl (cI, 25, .inl ft)), (hp, .inr (5, [.int (nI pm), .long fr, .long wk2_17, .int nr, .ref pd, .ref pt, .ref pb, .long fe]))] hm_nd
      refine va_get (D := (dC, dI)) (ci := 4) (v := .int (S nd).1) (C := RX4) (T := TX4) (N := 4) hx hb hts k_3 hown hK hP k9 hk9 rfl 0 (by decide) k_4 (fun _ h9 => h9) rfl dX1_settleUppermost_59 ?_
      refine lv_if_eq (tgt := 69) hx hb dX1_settleUppermost_62 (by decide) (fun c_18 => ?_) (fun c_18 => ?_)
      · refine lv_aload_n hx hb dX1_settleUppermost_69 rfl (lv_at hl 0 rfl) ?_
        refine va_get (D := (dC, dI)) (ci := 1) (v := .ref nd) (C := RX1) (T := TX1) (N := 9) hx hb hts k_1 hown hK hP 0 rfl rfl 6 (by decide) k_2 (fun _ h9 => h9) rfl dX1_settleUppermost_70 ?_
        refine lv_iconst (v := 0) hx hb dX1_settleUppermost_73 (by decide) ?_
        have hz1_nd := (hI nd hm_nd).1
        have hz2_nd := (hI nd hm_nd).2.1
        have hz3_nd := (hI nd hm_nd).2.2
        have hT9 := in1 hm_nd
        have hPc : va_P (dC, dI) vwCl [(nd, .inr (4, [.int (S nd).1, .int (nI (S nd).2.1), .ref (G nd).1, .ref (G nd).2.1])), ((G nd).1, .inl (cI, (G nd).2.2.1, .inl (S nd).2.2.1)), ((G nd).2.1, .inl (cI, (G nd).2.2.1, .inl (S nd).2.2.2))] H := pool_cut (T := [nd]) (cx := []) hP hT9 [] rfl
        have hDc : va_D A [(nd, .inr (4, [.int (S nd).1, .int (nI (S nd).2.1), .ref (G nd).1, .ref (G nd).2.1])), ((G nd).1, .inl (cI, (G nd).2.2.1, .inl (S nd).2.2.1)), ((G nd).2.1, .inl (cI, (G nd).2.2.1, .inl (S nd).2.2.2))] := pool_cutD (T := [nd]) (cx := []) hD hT9 (nd1) [] (by decide) rfl
        have hFc : ∀ q, va_A [(nd, .inr (4, [.int (S nd).1, .int (nI (S nd).2.1), .ref (G nd).1, .ref (G nd).2.1])), ((G nd).1, .inl (cI, (G nd).2.2.1, .inl (S nd).2.2.1)), ((G nd).2.1, .inl (cI, (G nd).2.2.1, .inl (S nd).2.2.2))] (H).size q → A q := pool_free (T := [nd]) (cx := []) hD hS hA hT9 [] rfl
        have hKc := hK.sub (tys' := [(cI, .int), (cI, .int)]) [1, 1] rfl
        refine va_calli (va_runV (As := [.int 0]) (rest := []) ⟨hx, hb, hml, hown, hts⟩ (c_X4_refAt l dC dI H.size nd (G nd).1 (G nd).2.1 (G nd).2.2.1 (S nd).2.1 (S nd).1 cI cI (S nd).2.2.1 (S nd).2.2.2 0 (by first | assumption | omega | decide) (by first | assumption | omega | decide)) (cwV 1 hts g_X1_settleUppermost_X4_refAt rfl rfl rfl (by decide +kernel) ⟨Nat.le_of_ble_eq_true rfl, Nat.le_of_ble_eq_true rfl⟩) ⟨fun a U g mk q => by obtain ⟨q0, q1, qP, qK, qD⟩ := q; exact ⟨q0, q1, qP, va_K.moved (u := U) (U := U.calling g mk a) (Vm.Alike.refl U.vm) qK, qD⟩, va_recv hKc hPc (ci := 4) (q0 := 0) rfl rfl, fun U hU hW => ⟨rfl, by rw [hU], by rw [hU]; exact hPc, va_K.moved hW.alike hKc, hDc.weaken (fun _ _ _ _ => trivial)⟩⟩ rfl rfl hl.1 rfl (lv_room (Nat.le_of_ble_eq_true rfl)) dX1_settleUppermost_74 ⟨(show 0 + 0 ≤ 0 by omega), (show 0 + 0 ≤ 0 by omega)⟩) hS (fun q _ h => hFc q h) hFc (fun r_19 u t H1 locs ht hvm hw hB hz1 hk1 hS => ?_)
        obtain ⟨hP1, hK1, hD1⟩ := hB
        rw [ht] at hP1
        have hK1 := va_K.moved hvm.symm hK1
        try dsimp only at hw
        obtain ⟨hP, hD⟩ := pool_join (S := S) (S1 := S) (T := [nd]) (cx := []) (wr := [(he, .inr (1, [.ref hm, .ref hf, .ref hp, .ref eb, .ref ep, .int (nI el), .ref nd, .ref mt, .ref ab])), (eb, .inl (cI, 12, .inl fb)), (ep, .inl (cI, 12, .inl fq)), (hm, .inr (3, [.int mk, .int mc])), (hf, .inr (2, [.int dp, .ref qp, .ref qe, .ref ql, .int (nI lo), .int (nI le)])), (qp, .inl (cO, b, .inr (.inr (.inr (.inr fp))))), (pd, .inl (cO, 25, .inr (.inr (.inr (.inr fd))))), (pt, .inl (cI, 25, .inl ft)), (hp, .inr (5, [.int (nI pm), .long fr, .long wk2_17, .int nr, .ref pd, .ref pt, .ref pb, .long fe]))]) (rx := []) hP hD hT9 [] [0, 1, 2, 3, 4, 5, 6, 7, 8] rfl rfl (by decide) (by decide) hk1 hFc hP1 hD1
        rw [pgJ_same] at hP hD
        have hK := (hK.sub (tys' := [(cO, .object RX4), (cI, .int)]) [0, 1] rfl).app hK1
        have hK : va_K (dC, dI) vwCl [(cO, .object RX4), (cI, .int)] s := hK.sub [0, 1] rfl
        generalize H1 = H at hP hS ⊢
        have hP : va_P (dC, dI) vwCl ([(he, .inr (1, [.ref hm, .ref hf, .ref hp, .ref eb, .ref ep, .int (nI el), .ref nd, .ref mt, .ref ab])), (eb, .inl (cI, 12, .inl fb)), (ep, .inl (cI, 12, .inl fq)), (hm, .inr (3, [.int mk, .int mc])), (hf, .inr (2, [.int dp, .ref qp, .ref qe, .ref ql, .int (nI lo), .int (nI le)])), (qp, .inl (cO, b, .inr (.inr (.inr (.inr fp))))), (pd, .inl (cO, 25, .inr (.inr (.inr (.inr fd))))), (pt, .inl (cI, 25, .inl ft)), (hp, .inr (5, [.int (nI pm), .long fr, .long wk2_17, .int nr, .ref pd, .ref pt, .ref pb, .long fe]))] ++ pool G cI Pg S) H := hP
        have hD : va_D A ([(he, .inr (1, [.ref hm, .ref hf, .ref hp, .ref eb, .ref ep, .int (nI el), .ref nd, .ref mt, .ref ab])), (eb, .inl (cI, 12, .inl fb)), (ep, .inl (cI, 12, .inl fq)), (hm, .inr (3, [.int mk, .int mc])), (hf, .inr (2, [.int dp, .ref qp, .ref qe, .ref ql, .int (nI lo), .int (nI le)])), (qp, .inl (cO, b, .inr (.inr (.inr (.inr fp))))), (pd, .inl (cO, 25, .inr (.inr (.inr (.inr fd))))), (pt, .inl (cI, 25, .inl ft)), (hp, .inr (5, [.int (nI pm), .long fr, .long wk2_17, .int nr, .ref pd, .ref pt, .ref pb, .long fe]))] ++ pool G cI Pg S) := hD
        have hK : va_K (dC, dI) vwCl [(cO, .object RX4), (cI, .int)] s := hK
        have hw_r_19 := hw
        have hP9 := hP.part (cx := [(he, .inr (1, [.ref hm, .ref hf, .ref hp, .ref eb, .ref ep, .int (nI el), .ref nd, .ref mt, .ref ab])), (eb, .inl (cI, 12, .inl fb)), (ep, .inl (cI, 12, .inl fq)), (hm, .inr (3, [.int mk, .int mc])), (hf, .inr (2, [.int dp, .ref qp, .ref qe, .ref ql, .int (nI lo), .int (nI le)])), (qp, .inl (cO, b, .inr (.inr (.inr (.inr fp))))), (hp, .inr (5, [.int (nI pm), .long fr, .long wk2_17, .int nr, .ref pd, .ref pt, .ref pb, .long fe])), (pd, .inl (cO, 25, .inr (.inr (.inr (.inr fd))))), (pt, .inl (cI, 25, .inl ft))]) [0, 1, 2, 3, 4, 5, 8, 6, 7] rfl
        have hD9 := hD.part (cx := [(he, .inr (1, [.ref hm, .ref hf, .ref hp, .ref eb, .ref ep, .int (nI el), .ref nd, .ref mt, .ref ab])), (eb, .inl (cI, 12, .inl fb)), (ep, .inl (cI, 12, .inl fq)), (hm, .inr (3, [.int mk, .int mc])), (hf, .inr (2, [.int dp, .ref qp, .ref qe, .ref ql, .int (nI lo), .int (nI le)])), (qp, .inl (cO, b, .inr (.inr (.inr (.inr fp))))), (hp, .inr (5, [.int (nI pm), .long fr, .long wk2_17, .int nr, .ref pd, .ref pt, .ref pb, .long fe])), (pd, .inl (cO, 25, .inr (.inr (.inr (.inr fd))))), (pt, .inl (cI, 25, .inl ft))]) [0, 1, 2, 3, 4, 5, 8, 6, 7] (by decide) rfl
        have hK9 := hK.sub (tys' := [(cO, .object RX4), (cI, .int)]) [0, 1] rfl
        exact W.iret (v := r_19) hx hb hr (fun t ht hW => ⟨⟨r_19, (pm, fr, wk2_17, fe, nr, ft, S), rfl, ⟨hI, by omega⟩, by rw [ht]; exact hP9, va_K.moved hW.alike hK9, hD9⟩, hS.F ht⟩) hS.2.2 dX1_settleUppermost_77
      · refine lv_iconst (v := 0) hx hb dX1_settleUppermost_65 (by decide) ?_
        refine lv_goto (tgt := 77) hx hb dX1_settleUppermost_66 (by decide) ?_
        have hP9 := hP.part (cx := [(he, .inr (1, [.ref hm, .ref hf, .ref hp, .ref eb, .ref ep, .int (nI el), .ref nd, .ref mt, .ref ab])), (eb, .inl (cI, 12, .inl fb)), (ep, .inl (cI, 12, .inl fq)), (hm, .inr (3, [.int mk, .int mc])), (hf, .inr (2, [.int dp, .ref qp, .ref qe, .ref ql, .int (nI lo), .int (nI le)])), (qp, .inl (cO, b, .inr (.inr (.inr (.inr fp))))), (hp, .inr (5, [.int (nI pm), .long fr, .long wk2_17, .int nr, .ref pd, .ref pt, .ref pb, .long fe])), (pd, .inl (cO, 25, .inr (.inr (.inr (.inr fd))))), (pt, .inl (cI, 25, .inl ft))]) [0, 1, 2, 3, 4, 5, 8, 6, 7] rfl
        have hD9 := hD.part (cx := [(he, .inr (1, [.ref hm, .ref hf, .ref hp, .ref eb, .ref ep, .int (nI el), .ref nd, .ref mt, .ref ab])), (eb, .inl (cI, 12, .inl fb)), (ep, .inl (cI, 12, .inl fq)), (hm, .inr (3, [.int mk, .int mc])), (hf, .inr (2, [.int dp, .ref qp, .ref qe, .ref ql, .int (nI lo), .int (nI le)])), (qp, .inl (cO, b, .inr (.inr (.inr (.inr fp))))), (hp, .inr (5, [.int (nI pm), .long fr, .long wk2_17, .int nr, .ref pd, .ref pt, .ref pb, .long fe])), (pd, .inl (cO, 25, .inr (.inr (.inr (.inr fd))))), (pt, .inl (cI, 25, .inl ft))]) [0, 1, 2, 3, 4, 5, 8, 6, 7] (by decide) rfl
        have hK9 := hK.sub (tys' := [(cO, .object RX4), (cI, .int)]) [0, 1] rfl
        exact W.iret (v := 0) hx hb hr (fun t ht hW => ⟨⟨0, (pm, fr, wk2_17, fe, nr, ft, S), rfl, ⟨hI, by omega⟩, by rw [ht]; exact hP9, va_K.moved hW.alike hK9, hD9⟩, hS.F ht⟩) hS.2.2 dX1_settleUppermost_77
    · refine lv_goto (tgt := 34) hx hb dX1_settleUppermost_20 (by decide) ?_
      refine lv_aload_n hx hb dX1_settleUppermost_34 rfl (lv_at hl 0 rfl) ?_
      refine va_get (D := (dC, dI)) (ci := 1) (v := .ref hp) (C := RX1) (T := TX1) (N := 9) hx hb hts k_1 hown hK hP 0 rfl rfl 2 (by decide) k_6 (fun _ h9 => h9) rfl dX1_settleUppermost_35 ?_
      refine lv_aload_n hx hb dX1_settleUppermost_38 rfl (lv_at hl 0 rfl) ?_
      refine va_get (D := (dC, dI)) (ci := 1) (v := .ref nd) (C := RX1) (T := TX1) (N := 9) hx hb hts k_1 hown hK hP 0 rfl rfl 6 (by decide) k_2 (fun _ h9 => h9) rfl dX1_settleUppermost_39 ?_
      refine lv_iload_n hx hb dX1_settleUppermost_42 rfl (lv_at hl 1 rfl) ?_
      have hPc := hP.part (cx := [(hp, .inr (5, [.int (nI pm), .long fr, .long wk, .int nr, .ref pd, .ref pt, .ref pb, .long fe])), (pd, .inl (cO, 25, .inr (.inr (.inr (.inr fd))))), (pt, .inl (cI, 25, .inl ft))]) [6, 7, 8] rfl
      have hDc := hD.part (cx := [(hp, .inr (5, [.int (nI pm), .long fr, .long wk, .int nr, .ref pd, .ref pt, .ref pb, .long fe])), (pd, .inl (cO, 25, .inr (.inr (.inr (.inr fd))))), (pt, .inl (cI, 25, .inl ft))]) [6, 7, 8] (by decide) rfl
      have hFc := va_freeP (cx := [(hp, .inr (5, [.int (nI pm), .long fr, .long wk, .int nr, .ref pd, .ref pt, .ref pb, .long fe])), (pd, .inl (cO, 25, .inr (.inr (.inr (.inr fd))))), (pt, .inl (cI, 25, .inl ft))]) hD hS hA [6, 7, 8] rfl
      have hKc := hK.sub (tys' := [(cO, .object RX4), (cI, .int)]) [0, 1] rfl
      refine va_calli (va_runV (As := [.ref nd, .int p0]) (rest := []) ⟨hx, hb, hml, hown, hts⟩ (c_X5_write l dC dI s.heap.size hp pd pt pb fr wk fe nr pm nd p0 cO fd ft G Pg cI S (by first | assumption | omega | decide) (by first | assumption | omega | decide) (by first | assumption | omega | decide) (by first | assumption | omega | decide) (by first | assumption | omega | decide) (by first | assumption | omega | decide) (by first | assumption | omega | decide)) (cwV 2 hts g_X1_settleUppermost_X5_write rfl rfl rfl (by decide +kernel) ⟨Nat.le_of_ble_eq_true rfl, Nat.le_of_ble_eq_true rfl⟩) ⟨fun a U g mk q => by obtain ⟨q0, q1, qP, qK, qD, qX0, qX1⟩ := q; exact ⟨q0, q1, qP, va_K.moved (u := U) (U := U.calling g mk a) (Vm.Alike.refl U.vm) qK, qD, va_Nw.same (u := U) (U := U.calling g mk a) rfl rfl qX0, va_Nw.same (u := U) (U := U.calling g mk a) rfl rfl qX1⟩, va_recv hKc hPc (ci := 5) (q0 := 0) rfl rfl, fun U hU hW => ⟨rfl, by rw [hU], by rw [hU]; exact hPc, va_K.moved hW.alike hKc, hDc.weaken (fun _ _ _ _ => trivial), va_Nw.warmM hW hNX5_46, va_Nw.warmM hW hNX5_54⟩⟩ rfl rfl hl.1 rfl (lv_room (Nat.le_of_ble_eq_true rfl)) dX1_settleUppermost_43 ⟨(show 0 + 0 ≤ 0 by omega), (show 0 + 0 ≤ 0 by omega)⟩) hS (fun q _ h => hFc q h) hFc (fun r_20 u t H1 locs ht hvm hw hB hz1 hk1 hS => ?_)
      obtain ⟨pm2_21, fr2_22, wk2_23, fe2_24, nr2_25, ft2_26, S2_27⟩ := u
      obtain ⟨hP1, hK1, hD1⟩ := hB
      rw [ht] at hP1
      have hK1 := va_K.moved hvm.symm hK1
      try dsimp only at hw
      obtain ⟨hP, hD⟩ := va_joinP (wr := [(he, .inr (1, [.ref hm, .ref hf, .ref hp, .ref eb, .ref ep, .int (nI el), .ref nd, .ref mt, .ref ab])), (eb, .inl (cI, 12, .inl fb)), (ep, .inl (cI, 12, .inl fq)), (hm, .inr (3, [.int mk, .int mc])), (hf, .inr (2, [.int dp, .ref qp, .ref qe, .ref ql, .int (nI lo), .int (nI le)])), (qp, .inl (cO, b, .inr (.inr (.inr (.inr fp)))))]) (rx := [(hp, .inr (5, [.int (nI pm2_21), .long fr2_22, .long wk2_23, .int nr2_25, .ref pd, .ref pt, .ref pb, .long fe2_24])), (pd, .inl (cO, 25, .inr (.inr (.inr (.inr fd))))), (pt, .inl (cI, 25, .inl ft2_26))]) (pl1 := pool G cI Pg S2_27) hP hD [6, 7, 8] [0, 1, 2, 3, 4, 5] rfl rfl (by decide) (by decide) hk1 hFc hP1 hD1
      have hK := (hK.sub (tys' := [(cO, .object RX4), (cI, .int)]) [0, 1] rfl).app hK1
      have hK : va_K (dC, dI) vwCl [(cO, .object RX4), (cI, .int)] s := hK.sub [0, 1] rfl
      generalize H1 = H at hP hS ⊢
      have hP : va_P (dC, dI) vwCl ([(he, .inr (1, [.ref hm, .ref hf, .ref hp, .ref eb, .ref ep, .int (nI el), .ref nd, .ref mt, .ref ab])), (eb, .inl (cI, 12, .inl fb)), (ep, .inl (cI, 12, .inl fq)), (hm, .inr (3, [.int mk, .int mc])), (hf, .inr (2, [.int dp, .ref qp, .ref qe, .ref ql, .int (nI lo), .int (nI le)])), (qp, .inl (cO, b, .inr (.inr (.inr (.inr fp))))), (hp, .inr (5, [.int (nI pm2_21), .long fr2_22, .long wk2_23, .int nr2_25, .ref pd, .ref pt, .ref pb, .long fe2_24])), (pd, .inl (cO, 25, .inr (.inr (.inr (.inr fd))))), (pt, .inl (cI, 25, .inl ft2_26))] ++ pool G cI Pg S2_27) H := hP
      have hD : va_D A ([(he, .inr (1, [.ref hm, .ref hf, .ref hp, .ref eb, .ref ep, .int (nI el), .ref nd, .ref mt, .ref ab])), (eb, .inl (cI, 12, .inl fb)), (ep, .inl (cI, 12, .inl fq)), (hm, .inr (3, [.int mk, .int mc])), (hf, .inr (2, [.int dp, .ref qp, .ref qe, .ref ql, .int (nI lo), .int (nI le)])), (qp, .inl (cO, b, .inr (.inr (.inr (.inr fp))))), (hp, .inr (5, [.int (nI pm2_21), .long fr2_22, .long wk2_23, .int nr2_25, .ref pd, .ref pt, .ref pb, .long fe2_24])), (pd, .inl (cO, 25, .inr (.inr (.inr (.inr fd))))), (pt, .inl (cI, 25, .inl ft2_26))] ++ pool G cI Pg S2_27) := hD
      have hK : va_K (dC, dI) vwCl [(cO, .object RX4), (cI, .int)] s := hK
      have hI := hw.1
      have hw_r_20 := hw
      have hP9 := hP.part (cx := [(he, .inr (1, [.ref hm, .ref hf, .ref hp, .ref eb, .ref ep, .int (nI el), .ref nd, .ref mt, .ref ab])), (eb, .inl (cI, 12, .inl fb)), (ep, .inl (cI, 12, .inl fq)), (hm, .inr (3, [.int mk, .int mc])), (hf, .inr (2, [.int dp, .ref qp, .ref qe, .ref ql, .int (nI lo), .int (nI le)])), (qp, .inl (cO, b, .inr (.inr (.inr (.inr fp))))), (hp, .inr (5, [.int (nI pm2_21), .long fr2_22, .long wk2_23, .int nr2_25, .ref pd, .ref pt, .ref pb, .long fe2_24])), (pd, .inl (cO, 25, .inr (.inr (.inr (.inr fd))))), (pt, .inl (cI, 25, .inl ft2_26))]) [0, 1, 2, 3, 4, 5, 6, 7, 8] rfl
      have hD9 := hD.part (cx := [(he, .inr (1, [.ref hm, .ref hf, .ref hp, .ref eb, .ref ep, .int (nI el), .ref nd, .ref mt, .ref ab])), (eb, .inl (cI, 12, .inl fb)), (ep, .inl (cI, 12, .inl fq)), (hm, .inr (3, [.int mk, .int mc])), (hf, .inr (2, [.int dp, .ref qp, .ref qe, .ref ql, .int (nI lo), .int (nI le)])), (qp, .inl (cO, b, .inr (.inr (.inr (.inr fp))))), (hp, .inr (5, [.int (nI pm2_21), .long fr2_22, .long wk2_23, .int nr2_25, .ref pd, .ref pt, .ref pb, .long fe2_24])), (pd, .inl (cO, 25, .inr (.inr (.inr (.inr fd))))), (pt, .inl (cI, 25, .inl ft2_26))]) [0, 1, 2, 3, 4, 5, 6, 7, 8] (by decide) rfl
      have hK9 := hK.sub (tys' := [(cO, .object RX4), (cI, .int)]) [0, 1] rfl
      exact W.iret (v := r_20) hx hb hr (fun t ht hW => ⟨⟨r_20, (pm2_21, fr2_22, wk2_23, fe2_24, nr2_25, ft2_26, S2_27), rfl, ⟨hI, by omega⟩, by rw [ht]; exact hP9, va_K.moved hW.alike hK9, hD9⟩, hS.F ht⟩) hS.2.2 dX1_settleUppermost_46

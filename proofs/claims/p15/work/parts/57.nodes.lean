theorem dX9_erase_0 : decode cX9_erase 0 = .ok (.aload_n 0, 1) := by decide +kernel
theorem dX9_erase_1 : decode cX9_erase 1 = .ok (.getfield 17, 3) := by decide +kernel
theorem dX9_erase_4 : decode cX9_erase 4 = .ok (.iload_n 1, 1) := by decide +kernel
theorem dX9_erase_5 : decode cX9_erase 5 = .ok (.dup2, 1) := by decide +kernel
theorem dX9_erase_6 : decode cX9_erase 6 = .ok (.iaload, 1) := by decide +kernel
theorem dX9_erase_7 : decode cX9_erase 7 = .ok (.iconst 1, 1) := by decide +kernel
theorem dX9_erase_8 : decode cX9_erase 8 = .ok (.isub, 1) := by decide +kernel
theorem dX9_erase_9 : decode cX9_erase 9 = .ok (.iastore, 1) := by decide +kernel
theorem dX9_erase_10 : decode cX9_erase 10 = .ok (.iload_n 2, 1) := by decide +kernel
theorem dX9_erase_11 : decode cX9_erase 11 = .ok (.istore_n 3, 1) := by decide +kernel
theorem dX9_erase_12 : decode cX9_erase 12 = .ok (.iload_n 3, 1) := by decide +kernel
theorem dX9_erase_13 : decode cX9_erase 13 = .ok (.aload_n 0, 1) := by decide +kernel
theorem dX9_erase_14 : decode cX9_erase 14 = .ok (.getfield 17, 3) := by decide +kernel
theorem dX9_erase_17 : decode cX9_erase 17 = .ok (.iload_n 1, 1) := by decide +kernel
theorem dX9_erase_18 : decode cX9_erase 18 = .ok (.iaload, 1) := by decide +kernel
theorem dX9_erase_19 : decode cX9_erase 19 = .ok (.if_icmp .ge 57, 3) := by decide +kernel
theorem dX9_erase_22 : decode cX9_erase 22 = .ok (.aload_n 0, 1) := by decide +kernel
theorem dX9_erase_23 : decode cX9_erase 23 = .ok (.getfield 23, 3) := by decide +kernel
theorem dX9_erase_26 : decode cX9_erase 26 = .ok (.bipush 24, 2) := by decide +kernel
theorem dX9_erase_28 : decode cX9_erase 28 = .ok (.iload_n 1, 1) := by decide +kernel
theorem dX9_erase_29 : decode cX9_erase 29 = .ok (.imul, 1) := by decide +kernel
theorem dX9_erase_30 : decode cX9_erase 30 = .ok (.iload_n 3, 1) := by decide +kernel
theorem dX9_erase_31 : decode cX9_erase 31 = .ok (.iadd, 1) := by decide +kernel
theorem dX9_erase_32 : decode cX9_erase 32 = .ok (.aload_n 0, 1) := by decide +kernel
theorem dX9_erase_33 : decode cX9_erase 33 = .ok (.getfield 23, 3) := by decide +kernel
theorem dX9_erase_36 : decode cX9_erase 36 = .ok (.bipush 24, 2) := by decide +kernel
theorem dX9_erase_38 : decode cX9_erase 38 = .ok (.iload_n 1, 1) := by decide +kernel
theorem dX9_erase_39 : decode cX9_erase 39 = .ok (.imul, 1) := by decide +kernel
theorem dX9_erase_40 : decode cX9_erase 40 = .ok (.iload_n 3, 1) := by decide +kernel
theorem dX9_erase_41 : decode cX9_erase 41 = .ok (.iadd, 1) := by decide +kernel
theorem dX9_erase_42 : decode cX9_erase 42 = .ok (.iconst 1, 1) := by decide +kernel
theorem dX9_erase_43 : decode cX9_erase 43 = .ok (.iadd, 1) := by decide +kernel
theorem dX9_erase_44 : decode cX9_erase 44 = .ok (.iaload, 1) := by decide +kernel
theorem dX9_erase_45 : decode cX9_erase 45 = .ok (.iastore, 1) := by decide +kernel
theorem dX9_erase_46 : decode cX9_erase 46 = .ok (.aload_n 0, 1) := by decide +kernel
theorem dX9_erase_47 : decode cX9_erase 47 = .ok (.getfield 26, 3) := by decide +kernel
theorem dX9_erase_50 : decode cX9_erase 50 = .ok (.bipush 24, 2) := by decide +kernel
theorem dX9_erase_52 : decode cX9_erase 52 = .ok (.iload_n 1, 1) := by decide +kernel
theorem dX9_erase_53 : decode cX9_erase 53 = .ok (.imul, 1) := by decide +kernel
theorem dX9_erase_54 : decode cX9_erase 54 = .ok (.iload_n 3, 1) := by decide +kernel
theorem dX9_erase_55 : decode cX9_erase 55 = .ok (.iadd, 1) := by decide +kernel
theorem dX9_erase_56 : decode cX9_erase 56 = .ok (.aload_n 0, 1) := by decide +kernel
theorem dX9_erase_57 : decode cX9_erase 57 = .ok (.getfield 26, 3) := by decide +kernel
theorem dX9_erase_60 : decode cX9_erase 60 = .ok (.bipush 24, 2) := by decide +kernel
theorem dX9_erase_62 : decode cX9_erase 62 = .ok (.iload_n 1, 1) := by decide +kernel
theorem dX9_erase_63 : decode cX9_erase 63 = .ok (.imul, 1) := by decide +kernel
theorem dX9_erase_64 : decode cX9_erase 64 = .ok (.iload_n 3, 1) := by decide +kernel
theorem dX9_erase_65 : decode cX9_erase 65 = .ok (.iadd, 1) := by decide +kernel
theorem dX9_erase_66 : decode cX9_erase 66 = .ok (.iconst 1, 1) := by decide +kernel
theorem dX9_erase_67 : decode cX9_erase 67 = .ok (.iadd, 1) := by decide +kernel
theorem dX9_erase_68 : decode cX9_erase 68 = .ok (.iaload, 1) := by decide +kernel
theorem dX9_erase_69 : decode cX9_erase 69 = .ok (.iastore, 1) := by decide +kernel
theorem dX9_erase_70 : decode cX9_erase 70 = .ok (.iinc 3 1, 3) := by decide +kernel
theorem dX9_erase_73 : decode cX9_erase 73 = .ok (.goto (-61), 3) := by decide +kernel
theorem dX9_erase_76 : decode cX9_erase 76 = .ok (.return_, 1) := by decide +kernel
theorem dX9_indexIn_0 : decode cX9_indexIn 0 = .ok (.iconst 0, 1) := by decide +kernel
theorem dX9_indexIn_1 : decode cX9_indexIn 1 = .ok (.istore_n 3, 1) := by decide +kernel
theorem dX9_indexIn_2 : decode cX9_indexIn 2 = .ok (.iload_n 3, 1) := by decide +kernel
theorem dX9_indexIn_3 : decode cX9_indexIn 3 = .ok (.aload_n 0, 1) := by decide +kernel
theorem dX9_indexIn_4 : decode cX9_indexIn 4 = .ok (.getfield 17, 3) := by decide +kernel
theorem dX9_indexIn_7 : decode cX9_indexIn 7 = .ok (.iload_n 1, 1) := by decide +kernel
theorem dX9_indexIn_8 : decode cX9_indexIn 8 = .ok (.iaload, 1) := by decide +kernel
theorem dX9_indexIn_9 : decode cX9_indexIn 9 = .ok (.if_icmp .ge 24, 3) := by decide +kernel
theorem dX9_indexIn_12 : decode cX9_indexIn 12 = .ok (.aload_n 0, 1) := by decide +kernel
theorem dX9_indexIn_13 : decode cX9_indexIn 13 = .ok (.getfield 23, 3) := by decide +kernel
theorem dX9_indexIn_16 : decode cX9_indexIn 16 = .ok (.bipush 24, 2) := by decide +kernel
theorem dX9_indexIn_18 : decode cX9_indexIn 18 = .ok (.iload_n 1, 1) := by decide +kernel
theorem dX9_indexIn_19 : decode cX9_indexIn 19 = .ok (.imul, 1) := by decide +kernel
theorem dX9_indexIn_20 : decode cX9_indexIn 20 = .ok (.iload_n 3, 1) := by decide +kernel
theorem dX9_indexIn_21 : decode cX9_indexIn 21 = .ok (.iadd, 1) := by decide +kernel
theorem dX9_indexIn_22 : decode cX9_indexIn 22 = .ok (.iaload, 1) := by decide +kernel
theorem dX9_indexIn_23 : decode cX9_indexIn 23 = .ok (.iload_n 2, 1) := by decide +kernel
theorem dX9_indexIn_24 : decode cX9_indexIn 24 = .ok (.if_icmp .ge 9, 3) := by decide +kernel
theorem dX9_indexIn_27 : decode cX9_indexIn 27 = .ok (.iinc 3 1, 3) := by decide +kernel
theorem dX9_indexIn_30 : decode cX9_indexIn 30 = .ok (.goto (-28), 3) := by decide +kernel
theorem dX9_indexIn_33 : decode cX9_indexIn 33 = .ok (.iload_n 3, 1) := by decide +kernel
theorem dX9_indexIn_34 : decode cX9_indexIn 34 = .ok (.ireturn, 1) := by decide +kernel
theorem dX9_insert_0 : decode cX9_insert 0 = .ok (.aload_n 0, 1) := by decide +kernel
theorem dX9_insert_1 : decode cX9_insert 1 = .ok (.getfield 17, 3) := by decide +kernel
theorem dX9_insert_4 : decode cX9_insert 4 = .ok (.iload_n 1, 1) := by decide +kernel
theorem dX9_insert_5 : decode cX9_insert 5 = .ok (.iaload, 1) := by decide +kernel
theorem dX9_insert_6 : decode cX9_insert 6 = .ok (.istore 5, 2) := by decide +kernel
theorem dX9_insert_8 : decode cX9_insert 8 = .ok (.iload 5, 2) := by decide +kernel
theorem dX9_insert_10 : decode cX9_insert 10 = .ok (.iload_n 2, 1) := by decide +kernel
theorem dX9_insert_11 : decode cX9_insert 11 = .ok (.if_icmp .le 61, 3) := by decide +kernel
theorem dX9_insert_14 : decode cX9_insert 14 = .ok (.aload_n 0, 1) := by decide +kernel
theorem dX9_insert_15 : decode cX9_insert 15 = .ok (.getfield 23, 3) := by decide +kernel
theorem dX9_insert_18 : decode cX9_insert 18 = .ok (.bipush 24, 2) := by decide +kernel
theorem dX9_insert_20 : decode cX9_insert 20 = .ok (.iload_n 1, 1) := by decide +kernel
theorem dX9_insert_21 : decode cX9_insert 21 = .ok (.imul, 1) := by decide +kernel
theorem dX9_insert_22 : decode cX9_insert 22 = .ok (.iload 5, 2) := by decide +kernel
theorem dX9_insert_24 : decode cX9_insert 24 = .ok (.iadd, 1) := by decide +kernel
theorem dX9_insert_25 : decode cX9_insert 25 = .ok (.aload_n 0, 1) := by decide +kernel
theorem dX9_insert_26 : decode cX9_insert 26 = .ok (.getfield 23, 3) := by decide +kernel
theorem dX9_insert_29 : decode cX9_insert 29 = .ok (.bipush 24, 2) := by decide +kernel
theorem dX9_insert_31 : decode cX9_insert 31 = .ok (.iload_n 1, 1) := by decide +kernel
theorem dX9_insert_32 : decode cX9_insert 32 = .ok (.imul, 1) := by decide +kernel
theorem dX9_insert_33 : decode cX9_insert 33 = .ok (.iload 5, 2) := by decide +kernel
theorem dX9_insert_35 : decode cX9_insert 35 = .ok (.iadd, 1) := by decide +kernel
theorem dX9_insert_36 : decode cX9_insert 36 = .ok (.iconst 1, 1) := by decide +kernel
theorem dX9_insert_37 : decode cX9_insert 37 = .ok (.isub, 1) := by decide +kernel
theorem dX9_insert_38 : decode cX9_insert 38 = .ok (.iaload, 1) := by decide +kernel
theorem dX9_insert_39 : decode cX9_insert 39 = .ok (.iastore, 1) := by decide +kernel
theorem dX9_insert_40 : decode cX9_insert 40 = .ok (.aload_n 0, 1) := by decide +kernel
theorem dX9_insert_41 : decode cX9_insert 41 = .ok (.getfield 26, 3) := by decide +kernel
theorem dX9_insert_44 : decode cX9_insert 44 = .ok (.bipush 24, 2) := by decide +kernel
theorem dX9_insert_46 : decode cX9_insert 46 = .ok (.iload_n 1, 1) := by decide +kernel
theorem dX9_insert_47 : decode cX9_insert 47 = .ok (.imul, 1) := by decide +kernel
theorem dX9_insert_48 : decode cX9_insert 48 = .ok (.iload 5, 2) := by decide +kernel
theorem dX9_insert_50 : decode cX9_insert 50 = .ok (.iadd, 1) := by decide +kernel
theorem dX9_insert_51 : decode cX9_insert 51 = .ok (.aload_n 0, 1) := by decide +kernel
theorem dX9_insert_52 : decode cX9_insert 52 = .ok (.getfield 26, 3) := by decide +kernel
theorem dX9_insert_55 : decode cX9_insert 55 = .ok (.bipush 24, 2) := by decide +kernel
theorem dX9_insert_57 : decode cX9_insert 57 = .ok (.iload_n 1, 1) := by decide +kernel
theorem dX9_insert_58 : decode cX9_insert 58 = .ok (.imul, 1) := by decide +kernel
theorem dX9_insert_59 : decode cX9_insert 59 = .ok (.iload 5, 2) := by decide +kernel
theorem dX9_insert_61 : decode cX9_insert 61 = .ok (.iadd, 1) := by decide +kernel
theorem dX9_insert_62 : decode cX9_insert 62 = .ok (.iconst 1, 1) := by decide +kernel
theorem dX9_insert_63 : decode cX9_insert 63 = .ok (.isub, 1) := by decide +kernel
theorem dX9_insert_64 : decode cX9_insert 64 = .ok (.iaload, 1) := by decide +kernel
theorem dX9_insert_65 : decode cX9_insert 65 = .ok (.iastore, 1) := by decide +kernel
theorem dX9_insert_66 : decode cX9_insert 66 = .ok (.iinc 5 (-1), 3) := by decide +kernel
theorem dX9_insert_69 : decode cX9_insert 69 = .ok (.goto (-61), 3) := by decide +kernel
theorem dX9_insert_72 : decode cX9_insert 72 = .ok (.aload_n 0, 1) := by decide +kernel
theorem dX9_insert_73 : decode cX9_insert 73 = .ok (.getfield 23, 3) := by decide +kernel
theorem dX9_insert_76 : decode cX9_insert 76 = .ok (.bipush 24, 2) := by decide +kernel
theorem dX9_insert_78 : decode cX9_insert 78 = .ok (.iload_n 1, 1) := by decide +kernel
theorem dX9_insert_79 : decode cX9_insert 79 = .ok (.imul, 1) := by decide +kernel
theorem dX9_insert_80 : decode cX9_insert 80 = .ok (.iload_n 2, 1) := by decide +kernel
theorem dX9_insert_81 : decode cX9_insert 81 = .ok (.iadd, 1) := by decide +kernel
theorem dX9_insert_82 : decode cX9_insert 82 = .ok (.iload_n 3, 1) := by decide +kernel
theorem dX9_insert_83 : decode cX9_insert 83 = .ok (.iastore, 1) := by decide +kernel
theorem dX9_insert_84 : decode cX9_insert 84 = .ok (.aload_n 0, 1) := by decide +kernel
theorem dX9_insert_85 : decode cX9_insert 85 = .ok (.getfield 26, 3) := by decide +kernel
theorem dX9_insert_88 : decode cX9_insert 88 = .ok (.bipush 24, 2) := by decide +kernel
theorem dX9_insert_90 : decode cX9_insert 90 = .ok (.iload_n 1, 1) := by decide +kernel
theorem dX9_insert_91 : decode cX9_insert 91 = .ok (.imul, 1) := by decide +kernel
theorem dX9_insert_92 : decode cX9_insert 92 = .ok (.iload_n 2, 1) := by decide +kernel
theorem dX9_insert_93 : decode cX9_insert 93 = .ok (.iadd, 1) := by decide +kernel
theorem dX9_insert_94 : decode cX9_insert 94 = .ok (.iload 4, 2) := by decide +kernel
theorem dX9_insert_96 : decode cX9_insert 96 = .ok (.iastore, 1) := by decide +kernel
theorem dX9_insert_97 : decode cX9_insert 97 = .ok (.aload_n 0, 1) := by decide +kernel
theorem dX9_insert_98 : decode cX9_insert 98 = .ok (.getfield 17, 3) := by decide +kernel
theorem dX9_insert_101 : decode cX9_insert 101 = .ok (.iload_n 1, 1) := by decide +kernel
theorem dX9_insert_102 : decode cX9_insert 102 = .ok (.dup2, 1) := by decide +kernel
theorem dX9_insert_103 : decode cX9_insert 103 = .ok (.iaload, 1) := by decide +kernel
theorem dX9_insert_104 : decode cX9_insert 104 = .ok (.iconst 1, 1) := by decide +kernel
theorem dX9_insert_105 : decode cX9_insert 105 = .ok (.iadd, 1) := by decide +kernel
theorem dX9_insert_106 : decode cX9_insert 106 = .ok (.iastore, 1) := by decide +kernel
theorem dX9_insert_107 : decode cX9_insert 107 = .ok (.return_, 1) := by decide +kernel
theorem dX9_newNode_0 : decode cX9_newNode 0 = .ok (.iconst 0, 1) := by decide +kernel
theorem dX9_newNode_1 : decode cX9_newNode 1 = .ok (.istore_n 2, 1) := by decide +kernel
theorem dX9_newNode_2 : decode cX9_newNode 2 = .ok (.aload_n 0, 1) := by decide +kernel
theorem dX9_newNode_3 : decode cX9_newNode 3 = .ok (.getfield 13, 3) := by decide +kernel
theorem dX9_newNode_6 : decode cX9_newNode 6 = .ok (.iload_n 2, 1) := by decide +kernel
theorem dX9_newNode_7 : decode cX9_newNode 7 = .ok (.iaload, 1) := by decide +kernel
theorem dX9_newNode_8 : decode cX9_newNode 8 = .ok (.ifCond .eq 9, 3) := by decide +kernel
theorem dX9_newNode_11 : decode cX9_newNode 11 = .ok (.iinc 2 1, 3) := by decide +kernel
theorem dX9_newNode_14 : decode cX9_newNode 14 = .ok (.goto (-12), 3) := by decide +kernel
theorem dX9_newNode_17 : decode cX9_newNode 17 = .ok (.aload_n 0, 1) := by decide +kernel
theorem dX9_newNode_18 : decode cX9_newNode 18 = .ok (.getfield 13, 3) := by decide +kernel
theorem dX9_newNode_21 : decode cX9_newNode 21 = .ok (.iload_n 2, 1) := by decide +kernel
theorem dX9_newNode_22 : decode cX9_newNode 22 = .ok (.iload_n 1, 1) := by decide +kernel
theorem dX9_newNode_23 : decode cX9_newNode 23 = .ok (.iastore, 1) := by decide +kernel
theorem dX9_newNode_24 : decode cX9_newNode 24 = .ok (.aload_n 0, 1) := by decide +kernel
theorem dX9_newNode_25 : decode cX9_newNode 25 = .ok (.getfield 17, 3) := by decide +kernel
theorem dX9_newNode_28 : decode cX9_newNode 28 = .ok (.iload_n 2, 1) := by decide +kernel
theorem dX9_newNode_29 : decode cX9_newNode 29 = .ok (.iconst 0, 1) := by decide +kernel
theorem dX9_newNode_30 : decode cX9_newNode 30 = .ok (.iastore, 1) := by decide +kernel
theorem dX9_newNode_31 : decode cX9_newNode 31 = .ok (.aload_n 0, 1) := by decide +kernel
theorem dX9_newNode_32 : decode cX9_newNode 32 = .ok (.getfield 20, 3) := by decide +kernel
theorem dX9_newNode_35 : decode cX9_newNode 35 = .ok (.iload_n 2, 1) := by decide +kernel
theorem dX9_newNode_36 : decode cX9_newNode 36 = .ok (.iconst 0, 1) := by decide +kernel
theorem dX9_newNode_37 : decode cX9_newNode 37 = .ok (.iastore, 1) := by decide +kernel
theorem dX9_newNode_38 : decode cX9_newNode 38 = .ok (.aload_n 0, 1) := by decide +kernel
theorem dX9_newNode_39 : decode cX9_newNode 39 = .ok (.getfield 29, 3) := by decide +kernel
theorem dX9_newNode_42 : decode cX9_newNode 42 = .ok (.iload_n 2, 1) := by decide +kernel
theorem dX9_newNode_43 : decode cX9_newNode 43 = .ok (.iconst 0, 1) := by decide +kernel
theorem dX9_newNode_44 : decode cX9_newNode 44 = .ok (.bastore, 1) := by decide +kernel
theorem dX9_newNode_45 : decode cX9_newNode 45 = .ok (.iload_n 2, 1) := by decide +kernel
theorem dX9_newNode_46 : decode cX9_newNode 46 = .ok (.ireturn, 1) := by decide +kernel
theorem dX9_part_0 : decode cX9_part 0 = .ok (.aload_n 0, 1) := by decide +kernel
theorem dX9_part_1 : decode cX9_part 1 = .ok (.aload_n 0, 1) := by decide +kernel
theorem dX9_part_2 : decode cX9_part 2 = .ok (.getfield 13, 3) := by decide +kernel
theorem dX9_part_5 : decode cX9_part 5 = .ok (.iload_n 1, 1) := by decide +kernel
theorem dX9_part_6 : decode cX9_part 6 = .ok (.iaload, 1) := by decide +kernel
theorem dX9_part_7 : decode cX9_part 7 = .ok (.invokevirtual 179, 3) := by decide +kernel
theorem dX9_part_10 : decode cX9_part 10 = .ok (.istore_n 2, 1) := by decide +kernel
theorem dX9_part_11 : decode cX9_part 11 = .ok (.aload_n 0, 1) := by decide +kernel
theorem dX9_part_12 : decode cX9_part 12 = .ok (.getfield 17, 3) := by decide +kernel
theorem dX9_part_15 : decode cX9_part 15 = .ok (.iload_n 1, 1) := by decide +kernel
theorem dX9_part_16 : decode cX9_part 16 = .ok (.iaload, 1) := by decide +kernel
theorem dX9_part_17 : decode cX9_part 17 = .ok (.iconst 1, 1) := by decide +kernel
theorem dX9_part_18 : decode cX9_part 18 = .ok (.iadd, 1) := by decide +kernel
theorem dX9_part_19 : decode cX9_part 19 = .ok (.iconst 2, 1) := by decide +kernel
theorem dX9_part_20 : decode cX9_part 20 = .ok (.idiv, 1) := by decide +kernel
theorem dX9_part_21 : decode cX9_part 21 = .ok (.istore_n 3, 1) := by decide +kernel
theorem dX9_part_22 : decode cX9_part 22 = .ok (.iload_n 3, 1) := by decide +kernel
theorem dX9_part_23 : decode cX9_part 23 = .ok (.istore 4, 2) := by decide +kernel
theorem dX9_part_25 : decode cX9_part 25 = .ok (.iload 4, 2) := by decide +kernel
theorem dX9_part_27 : decode cX9_part 27 = .ok (.aload_n 0, 1) := by decide +kernel
theorem dX9_part_28 : decode cX9_part 28 = .ok (.getfield 17, 3) := by decide +kernel
theorem dX9_part_31 : decode cX9_part 31 = .ok (.iload_n 1, 1) := by decide +kernel
theorem dX9_part_32 : decode cX9_part 32 = .ok (.iaload, 1) := by decide +kernel
theorem dX9_part_33 : decode cX9_part 33 = .ok (.if_icmp .ge 61, 3) := by decide +kernel
theorem dX9_part_36 : decode cX9_part 36 = .ok (.aload_n 0, 1) := by decide +kernel
theorem dX9_part_37 : decode cX9_part 37 = .ok (.getfield 23, 3) := by decide +kernel
theorem dX9_part_40 : decode cX9_part 40 = .ok (.bipush 24, 2) := by decide +kernel
theorem dX9_part_42 : decode cX9_part 42 = .ok (.iload_n 2, 1) := by decide +kernel
theorem dX9_part_43 : decode cX9_part 43 = .ok (.imul, 1) := by decide +kernel
theorem dX9_part_44 : decode cX9_part 44 = .ok (.iload 4, 2) := by decide +kernel
theorem dX9_part_46 : decode cX9_part 46 = .ok (.iadd, 1) := by decide +kernel
theorem dX9_part_47 : decode cX9_part 47 = .ok (.iload_n 3, 1) := by decide +kernel
theorem dX9_part_48 : decode cX9_part 48 = .ok (.isub, 1) := by decide +kernel
theorem dX9_part_49 : decode cX9_part 49 = .ok (.aload_n 0, 1) := by decide +kernel
theorem dX9_part_50 : decode cX9_part 50 = .ok (.getfield 23, 3) := by decide +kernel
theorem dX9_part_53 : decode cX9_part 53 = .ok (.bipush 24, 2) := by decide +kernel
theorem dX9_part_55 : decode cX9_part 55 = .ok (.iload_n 1, 1) := by decide +kernel
theorem dX9_part_56 : decode cX9_part 56 = .ok (.imul, 1) := by decide +kernel
theorem dX9_part_57 : decode cX9_part 57 = .ok (.iload 4, 2) := by decide +kernel
theorem dX9_part_59 : decode cX9_part 59 = .ok (.iadd, 1) := by decide +kernel
theorem dX9_part_60 : decode cX9_part 60 = .ok (.iaload, 1) := by decide +kernel
theorem dX9_part_61 : decode cX9_part 61 = .ok (.iastore, 1) := by decide +kernel
theorem dX9_part_62 : decode cX9_part 62 = .ok (.aload_n 0, 1) := by decide +kernel
theorem dX9_part_63 : decode cX9_part 63 = .ok (.getfield 26, 3) := by decide +kernel
theorem dX9_part_66 : decode cX9_part 66 = .ok (.bipush 24, 2) := by decide +kernel
theorem dX9_part_68 : decode cX9_part 68 = .ok (.iload_n 2, 1) := by decide +kernel
theorem dX9_part_69 : decode cX9_part 69 = .ok (.imul, 1) := by decide +kernel
theorem dX9_part_70 : decode cX9_part 70 = .ok (.iload 4, 2) := by decide +kernel
theorem dX9_part_72 : decode cX9_part 72 = .ok (.iadd, 1) := by decide +kernel
theorem dX9_part_73 : decode cX9_part 73 = .ok (.iload_n 3, 1) := by decide +kernel
theorem dX9_part_74 : decode cX9_part 74 = .ok (.isub, 1) := by decide +kernel
theorem dX9_part_75 : decode cX9_part 75 = .ok (.aload_n 0, 1) := by decide +kernel
theorem dX9_part_76 : decode cX9_part 76 = .ok (.getfield 26, 3) := by decide +kernel
theorem dX9_part_79 : decode cX9_part 79 = .ok (.bipush 24, 2) := by decide +kernel
theorem dX9_part_81 : decode cX9_part 81 = .ok (.iload_n 1, 1) := by decide +kernel
theorem dX9_part_82 : decode cX9_part 82 = .ok (.imul, 1) := by decide +kernel
theorem dX9_part_83 : decode cX9_part 83 = .ok (.iload 4, 2) := by decide +kernel
theorem dX9_part_85 : decode cX9_part 85 = .ok (.iadd, 1) := by decide +kernel
theorem dX9_part_86 : decode cX9_part 86 = .ok (.iaload, 1) := by decide +kernel
theorem dX9_part_87 : decode cX9_part 87 = .ok (.iastore, 1) := by decide +kernel
theorem dX9_part_88 : decode cX9_part 88 = .ok (.iinc 4 1, 3) := by decide +kernel
theorem dX9_part_91 : decode cX9_part 91 = .ok (.goto (-66), 3) := by decide +kernel
theorem dX9_part_94 : decode cX9_part 94 = .ok (.aload_n 0, 1) := by decide +kernel
theorem dX9_part_95 : decode cX9_part 95 = .ok (.getfield 17, 3) := by decide +kernel
theorem dX9_part_98 : decode cX9_part 98 = .ok (.iload_n 2, 1) := by decide +kernel
theorem dX9_part_99 : decode cX9_part 99 = .ok (.aload_n 0, 1) := by decide +kernel
theorem dX9_part_100 : decode cX9_part 100 = .ok (.getfield 17, 3) := by decide +kernel
theorem dX9_part_103 : decode cX9_part 103 = .ok (.iload_n 1, 1) := by decide +kernel
theorem dX9_part_104 : decode cX9_part 104 = .ok (.iaload, 1) := by decide +kernel
theorem dX9_part_105 : decode cX9_part 105 = .ok (.iload_n 3, 1) := by decide +kernel
theorem dX9_part_106 : decode cX9_part 106 = .ok (.isub, 1) := by decide +kernel
theorem dX9_part_107 : decode cX9_part 107 = .ok (.iastore, 1) := by decide +kernel
theorem dX9_part_108 : decode cX9_part 108 = .ok (.aload_n 0, 1) := by decide +kernel
theorem dX9_part_109 : decode cX9_part 109 = .ok (.getfield 17, 3) := by decide +kernel
theorem dX9_part_112 : decode cX9_part 112 = .ok (.iload_n 1, 1) := by decide +kernel
theorem dX9_part_113 : decode cX9_part 113 = .ok (.iload_n 3, 1) := by decide +kernel
theorem dX9_part_114 : decode cX9_part 114 = .ok (.iastore, 1) := by decide +kernel
theorem dX9_part_115 : decode cX9_part 115 = .ok (.iload_n 2, 1) := by decide +kernel
theorem dX9_part_116 : decode cX9_part 116 = .ok (.ireturn, 1) := by decide +kernel
theorem nI_dec {n : Nat} (h : 1 ≤ n) : nI n + Int32.ofInt (-1) = nI (n - 1) := by
  obtain ⟨j, rfl⟩ : ∃ j, n = j + 1 := ⟨n - 1, by omega⟩
  exact pk_m1 j
def InsF (vl vv : Nat → Int32) (x jn n : Nat) : Prop := (∀ q, (q < 24 * x ∨ 24 * x + 24 ≤ q) → vv q = vl q) ∧ (∀ j, j ≤ jn → vv (24 * x + j) = vl (24 * x + j)) ∧ ∀ j, jn ≤ j → j < n → vv (24 * x + (j + 1)) = vl (24 * x + j)
theorem insF_start (vl : Nat → Int32) (x n : Nat) : InsF vl vl x n n := ⟨fun _ _ => rfl, fun _ _ => rfl, fun j h1 h2 => by omega⟩
theorem insF_step {vl vv vv2 : Nat → Int32} {x jn n : Nat} (h : InsF vl vv x jn n) (h1 : 1 ≤ jn) (hn : jn ≤ 23) (e : vv2 = upd vv (24 * x + jn) (vv (24 * x + jn - 1))) : InsF vl vv2 x (jn - 1) n := by
  subst e
  obtain ⟨a, b, c⟩ := h
  refine ⟨fun q hq => by rw [pk_un (by omega)]; exact a q hq, fun j hj => by rw [pk_un (by omega)]; exact b j (by omega), fun j hj hj2 => ?_⟩
  by_cases e : j + 1 = jn
  · subst e
    rw [pk_us, show 24 * x + (j + 1) - 1 = 24 * x + j by omega]
    exact b j (by omega)
  · rw [pk_un (by omega)]
    exact c j (by omega) hj2
theorem insF_end {mm mm2 vl vv vl2 : Nat → Int32} {x jn p n : Nat} {v : Int32} (h : InsF vl vv x jn n) (e0 : jn = p) (hp : p ≤ 23) (e : vl2 = upd vv (24 * x + p) v) (em : mm2 = upd mm x (nI (n + 1))) : InsR mm vl mm2 vl2 x p n v := by
  subst e0 e
  obtain ⟨a, b, c⟩ := h
  exact ⟨em, fun q hq => by rw [pk_un (by omega)]; exact a q hq, fun j hj => by rw [pk_un (by omega)]; exact b j (by omega), pk_us, fun j hj hj2 => by rw [pk_un (by omega)]; exact c j hj hj2⟩
def EraR (mm vl mm2 vl2 : Nat → Int32) (x p n : Nat) : Prop := mm2 = upd mm x (nI (n - 1)) ∧ (∀ q, (q < 24 * x ∨ 24 * x + 24 ≤ q) → vl2 q = vl q) ∧ (∀ j, j < p → vl2 (24 * x + j) = vl (24 * x + j)) ∧ ∀ j, p ≤ j → j < n - 1 → vl2 (24 * x + j) = vl (24 * x + (j + 1))
def EraF (vl vv : Nat → Int32) (x p i : Nat) : Prop := (∀ q, (q < 24 * x ∨ 24 * x + 24 ≤ q) → vv q = vl q) ∧ (∀ j, j < p → vv (24 * x + j) = vl (24 * x + j)) ∧ (∀ j, p ≤ j → j < i → vv (24 * x + j) = vl (24 * x + (j + 1))) ∧ ∀ j, i ≤ j → vv (24 * x + j) = vl (24 * x + j)
theorem eraF_start (vl : Nat → Int32) (x p : Nat) : EraF vl vl x p p := ⟨fun _ _ => rfl, fun _ _ => rfl, fun j h1 h2 => by omega, fun _ _ => rfl⟩
theorem eraF_step {vl vv vv2 : Nat → Int32} {x p i : Nat} (h : EraF vl vv x p i) (hp : p ≤ i) (hi : i < 23) (e : vv2 = upd vv (24 * x + i) (vv (24 * x + i + 1))) : EraF vl vv2 x p (i + 1) := by
  subst e
  obtain ⟨a, b, c, d⟩ := h
  refine ⟨fun q hq => by rw [pk_un (by omega)]; exact a q hq, fun j hj => by rw [pk_un (by omega)]; exact b j hj, fun j hj hj2 => ?_, fun j hj => by rw [pk_un (by omega)]; exact d j (by omega)⟩
  by_cases e : j = i
  · subst e
    rw [pk_us]
    exact d (j + 1) (by omega)
  · rw [pk_un (by omega)]
    exact c j hj (by omega)
theorem eraF_end {mm mm2 vl vv : Nat → Int32} {x p i n : Nat} (h : EraF vl vv x p i) (hi : n - 1 ≤ i) (em : mm2 = upd mm x (nI (n - 1))) : EraR mm vl mm2 vv x p n := by
  obtain ⟨a, b, c, d⟩ := h
  exact ⟨em, a, b, fun j hj hj2 => c j hj (by omega)⟩
def PaF (vl vv : Nat → Int32) (x z s i : Nat) : Prop := (∀ q, (q < 24 * z ∨ 24 * z + 24 ≤ q) → vv q = vl q) ∧ ∀ j, j + s < i → vv (24 * z + j) = vl (24 * x + (s + j))
theorem paF_start (vl : Nat → Int32) (x z s : Nat) : PaF vl vl x z s s := ⟨fun _ _ => rfl, fun j h => by omega⟩
theorem paF_step {vl vv vv2 : Nat → Int32} {x z s i : Nat} (h : PaF vl vv x z s i) (hxz : x ≠ z) (hs : s ≤ i) (hi : i < 24) (e : vv2 = upd vv (24 * z + i - s) (vv (24 * x + i))) : PaF vl vv2 x z s (i + 1) := by
  subst e
  obtain ⟨a, b⟩ := h
  refine ⟨fun q hq => by rw [pk_un (by omega)]; exact a q hq, fun j hj => ?_⟩
  by_cases e : j + s = i
  · rw [show 24 * z + j = 24 * z + i - s by omega, pk_us, show 24 * x + (s + j) = 24 * x + i by omega]
    exact a _ (by omega)
  · rw [pk_un (by omega)]
    exact b j (by omega)
theorem part_end {k mm vl bl fr k2 mz mm2 mm3 vl2 bl2 fr2 : Nat → Int32} {x z n s i : Nat} (hN : NewR k mm bl fr k2 mz bl2 fr2 z (k x)) (hxz : x ≠ z) (h : PaF vl vl2 x z s i) (hi : n ≤ i) (e1 : mm2 = upd mz z (nI (n - s))) (e2 : mm3 = upd mm2 x (nI s)) : PartR k mm vl bl fr k2 mm3 vl2 bl2 fr2 x z n s := by
  obtain ⟨h1, h2, h3, h4, h5, h6⟩ := hN
  refine ⟨h1, h2, h3, by rw [e2, pk_un (fun e => hxz e.symm), e1, pk_us], by rw [e2, pk_us], fun q a b => by rw [e2, pk_un a, e1, pk_un b, h4, pk_un b], h5, h6, h.1, fun j hj => h.2 j (by omega)⟩
def v_X9_newNode : List Cond := .code yX9_newNode cX9_newNode 3 (some .int) :: ([.fieldLink RX9 13 "TwinRootsModel" "kind" "[I", .fieldLink RX9 17 "TwinRootsModel" "many" "[I", .fieldLink RX9 20 "TwinRootsModel" "block" "[I", .fieldLink RX9 29 "TwinRootsModel" "isFresh" "[Z"] ++ (wsX90 ++ ([])))
set_option maxHeartbeats 4000000 in
set_option maxRecDepth 100000 in
/-- X9_newNode -/
theorem c_X9_newNode (l : Launch) (dC : Nat → ClassId) (dI : Nat → Nat → Nat) (sz : Nat) (h0 : Nat) (w : Nat) (b : Nat) (lm : Nat) (cm : Nat) (li : Nat) (ci : Nat) (a_disk : Nat) (a_kind : Nat) (a_many : Nat) (a_block : Nat) (a_keys : Nat) (a_vals : Nat) (a_isFresh : Nat) (a_kindWas : Nat) (a_manyWas : Nat) (a_blockWas : Nat) (a_keysWas : Nat) (a_valsWas : Nat) (a_freshWas : Nat) (a_reached : Nat) (a_oldKeys : Nat) (a_oldVals : Nat) (a_allKeys : Nat) (a_allVals : Nat) (a_row : Nat) (a_written : Nat) (a_path : Nat) (a_place : Nat) (a_freeRow : Nat) (a_bothKeys : Nat) (a_bothVals : Nat) (v_isDown : Int32) (v_isArmed : Int32) (v_armedWrites : Int32) (v_armedWords : Int32) (v_writes : Int32) (v_root : Int32) (v_rootWas : Int32) (v_latest : Int32) (v_epoch : Int32) (v_oldMany : Int32) (v_allMany : Int32) (v_writtenMany : Int32) (v_depth : Int32) (v_isOther : Int32) (v_moved : Int32) (v_leafDepth : Int32) (v_found : Int32) (v_lastKey : Int32) (v_hasLast : Int32) (cI : ClassId) (cZ : ClassId) (k : Nat → Int32) (mm : Nat → Int32) (bl : Nat → Int32) (fr : Nat → Int32) (p0 : Int32) (x9 : Nat) (h9 : x9 < 140) (hk9 : k x9 = 0) : Met l yX9_newNode v_X9_newNode ({ frames := 0, cells := 0, slots := 0, locals := 0 } : Room) (va_Pc [.ref h0, .int p0] (fun U => U.heap.size = sz ∧ va_P (dC, dI) vwCl [(h0, .inr (9, [.int (nI w), .int (nI b), .int (nI lm), .int (nI cm), .int (nI li), .int (nI ci), .ref a_disk, .int v_isDown, .int v_isArmed, .int v_armedWrites, .int v_armedWords, .int v_writes, .ref a_kind, .ref a_many, .ref a_block, .ref a_keys, .ref a_vals, .ref a_isFresh, .ref a_kindWas, .ref a_manyWas, .ref a_blockWas, .ref a_keysWas, .ref a_valsWas, .ref a_freshWas, .int v_root, .int v_rootWas, .int v_latest, .int v_epoch, .ref a_reached, .ref a_oldKeys, .ref a_oldVals, .ref a_allKeys, .ref a_allVals, .int v_oldMany, .int v_allMany, .ref a_row, .ref a_written, .int v_writtenMany, .ref a_path, .ref a_place, .int v_depth, .ref a_freeRow, .int v_isOther, .int v_moved, .ref a_bothKeys, .ref a_bothVals, .int v_leafDepth, .int v_found, .int v_lastKey, .int v_hasLast])), (a_kind, .inl (cI, 140, .inl k)), (a_many, .inl (cI, 140, .inl mm)), (a_block, .inl (cI, 140, .inl bl)), (a_isFresh, .inl (cZ, 140, .inl fr))] U.heap ∧ va_K (dC, dI) vwCl [(cI, .int), (cZ, .boolean)] U ∧ va_D (fun _ => True) [(h0, .inr (9, [.int (nI w), .int (nI b), .int (nI lm), .int (nI cm), .int (nI li), .int (nI ci), .ref a_disk, .int v_isDown, .int v_isArmed, .int v_armedWrites, .int v_armedWords, .int v_writes, .ref a_kind, .ref a_many, .ref a_block, .ref a_keys, .ref a_vals, .ref a_isFresh, .ref a_kindWas, .ref a_manyWas, .ref a_blockWas, .ref a_keysWas, .ref a_valsWas, .ref a_freshWas, .int v_root, .int v_rootWas, .int v_latest, .int v_epoch, .ref a_reached, .ref a_oldKeys, .ref a_oldVals, .ref a_allKeys, .ref a_allVals, .int v_oldMany, .int v_allMany, .ref a_row, .ref a_written, .int v_writtenMany, .ref a_path, .ref a_place, .int v_depth, .ref a_freeRow, .int v_isOther, .int v_moved, .ref a_bothKeys, .ref a_bothVals, .int v_leafDepth, .int v_found, .int v_lastKey, .int v_hasLast])), (a_kind, .inl (cI, 140, .inl k)), (a_many, .inl (cI, 140, .inl mm)), (a_block, .inl (cI, 140, .inl bl)), (a_isFresh, .inl (cZ, 140, .inl fr))])) (va_Qi (fun (r : Int32) (u : (Nat → Int32) × (Nat → Int32) × (Nat → Int32) × (Nat → Int32) × Nat) => match u with | (k2, mm2, bl2, fr2, z2) => r = nI z2 ∧ NewR k mm bl fr k2 mm2 bl2 fr2 z2 p0) (fun (u : (Nat → Int32) × (Nat → Int32) × (Nat → Int32) × (Nat → Int32) × Nat) (t : State) => match u with | (k2, mm2, bl2, fr2, z2) => va_P (dC, dI) vwCl [(h0, .inr (9, [.int (nI w), .int (nI b), .int (nI lm), .int (nI cm), .int (nI li), .int (nI ci), .ref a_disk, .int v_isDown, .int v_isArmed, .int v_armedWrites, .int v_armedWords, .int v_writes, .ref a_kind, .ref a_many, .ref a_block, .ref a_keys, .ref a_vals, .ref a_isFresh, .ref a_kindWas, .ref a_manyWas, .ref a_blockWas, .ref a_keysWas, .ref a_valsWas, .ref a_freshWas, .int v_root, .int v_rootWas, .int v_latest, .int v_epoch, .ref a_reached, .ref a_oldKeys, .ref a_oldVals, .ref a_allKeys, .ref a_allVals, .int v_oldMany, .int v_allMany, .ref a_row, .ref a_written, .int v_writtenMany, .ref a_path, .ref a_place, .int v_depth, .ref a_freeRow, .int v_isOther, .int v_moved, .ref a_bothKeys, .ref a_bothVals, .int v_leafDepth, .int v_found, .int v_lastKey, .int v_hasLast])), (a_kind, .inl (cI, 140, .inl k2)), (a_many, .inl (cI, 140, .inl mm2)), (a_block, .inl (cI, 140, .inl bl2)), (a_isFresh, .inl (cZ, 140, .inl fr2))] t.heap ∧ va_K (dC, dI) vwCl [(cI, .int), (cZ, .boolean)] t ∧ va_D (va_A [(h0, .inr (9, [.int (nI w), .int (nI b), .int (nI lm), .int (nI cm), .int (nI li), .int (nI ci), .ref a_disk, .int v_isDown, .int v_isArmed, .int v_armedWrites, .int v_armedWords, .int v_writes, .ref a_kind, .ref a_many, .ref a_block, .ref a_keys, .ref a_vals, .ref a_isFresh, .ref a_kindWas, .ref a_manyWas, .ref a_blockWas, .ref a_keysWas, .ref a_valsWas, .ref a_freshWas, .int v_root, .int v_rootWas, .int v_latest, .int v_epoch, .ref a_reached, .ref a_oldKeys, .ref a_oldVals, .ref a_allKeys, .ref a_allVals, .int v_oldMany, .int v_allMany, .ref a_row, .ref a_written, .int v_writtenMany, .ref a_path, .ref a_place, .int v_depth, .ref a_freeRow, .int v_isOther, .int v_moved, .ref a_bothKeys, .ref a_bothVals, .int v_leafDepth, .int v_found, .int v_lastKey, .int v_hasLast])), (a_kind, .inl (cI, 140, .inl k)), (a_many, .inl (cI, 140, .inl mm)), (a_block, .inl (cI, 140, .inl bl)), (a_isFresh, .inl (cZ, 140, .inl fr))] sz) [(h0, .inr (9, [.int (nI w), .int (nI b), .int (nI lm), .int (nI cm), .int (nI li), .int (nI ci), .ref a_disk, .int v_isDown, .int v_isArmed, .int v_armedWrites, .int v_armedWords, .int v_writes, .ref a_kind, .ref a_many, .ref a_block, .ref a_keys, .ref a_vals, .ref a_isFresh, .ref a_kindWas, .ref a_manyWas, .ref a_blockWas, .ref a_keysWas, .ref a_valsWas, .ref a_freshWas, .int v_root, .int v_rootWas, .int v_latest, .int v_epoch, .ref a_reached, .ref a_oldKeys, .ref a_oldVals, .ref a_allKeys, .ref a_allVals, .int v_oldMany, .int v_allMany, .ref a_row, .ref a_written, .int v_writtenMany, .ref a_path, .ref a_place, .int v_depth, .ref a_freeRow, .int v_isOther, .int v_moved, .ref a_bothKeys, .ref a_bothVals, .int v_leafDepth, .int v_found, .int v_lastKey, .int v_hasLast])), (a_kind, .inl (cI, 140, .inl k2)), (a_many, .inl (cI, 140, .inl mm2)), (a_block, .inl (cI, 140, .inl bl2)), (a_isFresh, .inl (cZ, 140, .inl fr2))]) (va_A [(h0, .inr (9, [.int (nI w), .int (nI b), .int (nI lm), .int (nI cm), .int (nI li), .int (nI ci), .ref a_disk, .int v_isDown, .int v_isArmed, .int v_armedWrites, .int v_armedWords, .int v_writes, .ref a_kind, .ref a_many, .ref a_block, .ref a_keys, .ref a_vals, .ref a_isFresh, .ref a_kindWas, .ref a_manyWas, .ref a_blockWas, .ref a_keysWas, .ref a_valsWas, .ref a_freshWas, .int v_root, .int v_rootWas, .int v_latest, .int v_epoch, .ref a_reached, .ref a_oldKeys, .ref a_oldVals, .ref a_allKeys, .ref a_allVals, .int v_oldMany, .int v_allMany, .ref a_row, .ref a_written, .int v_writtenMany, .ref a_path, .ref a_place, .int v_depth, .ref a_freeRow, .int v_isOther, .int v_moved, .ref a_bothKeys, .ref a_bothVals, .int v_leafDepth, .int v_found, .int v_lastKey, .int v_hasLast])), (a_kind, .inl (cI, 140, .inl k)), (a_many, .inl (cI, 140, .inl mm)), (a_block, .inl (cI, 140, .inl bl)), (a_isFresh, .inl (cZ, 140, .inl fr))] sz)) 0 0 (va_A [(h0, .inr (9, [.int (nI w), .int (nI b), .int (nI lm), .int (nI cm), .int (nI li), .int (nI ci), .ref a_disk, .int v_isDown, .int v_isArmed, .int v_armedWrites, .int v_armedWords, .int v_writes, .ref a_kind, .ref a_many, .ref a_block, .ref a_keys, .ref a_vals, .ref a_isFresh, .ref a_kindWas, .ref a_manyWas, .ref a_blockWas, .ref a_keysWas, .ref a_valsWas, .ref a_freshWas, .int v_root, .int v_rootWas, .int v_latest, .int v_epoch, .ref a_reached, .ref a_oldKeys, .ref a_oldVals, .ref a_allKeys, .ref a_allVals, .int v_oldMany, .int v_allMany, .ref a_row, .ref a_written, .int v_writtenMany, .ref a_path, .ref a_place, .int v_depth, .ref a_freeRow, .int v_isOther, .int v_moved, .ref a_bothKeys, .ref a_bothVals, .int v_leafDepth, .int v_found, .int v_lastKey, .int v_hasLast])), (a_kind, .inl (cI, 140, .inl k)), (a_many, .inl (cI, 140, .inl mm)), (a_block, .inl (cI, 140, .inl bl)), (a_isFresh, .inl (cZ, 140, .inl fr))] sz) := by
  refine Met.ofW (cc := cX9_newNode) (maxL := 3) (ret := (some .int)) (by decide) rfl ?_
  intro p e s m args below meth c s₁ B hml hv
  obtain ⟨rfl, hsz, hP, hK, hD0⟩ := hv
  have hx := B.exec
  have hb := B.bytes
  have hr := B.returns
  have hts := atoms_spec (ws := v_X9_newNode) B.pre
  have hown : s.vm.findClass RX9 = some m.cls := findClass_of_methodNamed B.named
  have hlocks := B.notSynchronized
  subst hsz
  have hD := hD0.self (sz := s.heap.size)
  generalize hAe : va_A [(h0, .inr (9, [.int (nI w), .int (nI b), .int (nI lm), .int (nI cm), .int (nI li), .int (nI ci), .ref a_disk, .int v_isDown, .int v_isArmed, .int v_armedWrites, .int v_armedWords, .int v_writes, .ref a_kind, .ref a_many, .ref a_block, .ref a_keys, .ref a_vals, .ref a_isFresh, .ref a_kindWas, .ref a_manyWas, .ref a_blockWas, .ref a_keysWas, .ref a_valsWas, .ref a_freshWas, .int v_root, .int v_rootWas, .int v_latest, .int v_epoch, .ref a_reached, .ref a_oldKeys, .ref a_oldVals, .ref a_allKeys, .ref a_allVals, .int v_oldMany, .int v_allMany, .ref a_row, .ref a_written, .int v_writtenMany, .ref a_path, .ref a_place, .int v_depth, .ref a_freeRow, .int v_isOther, .int v_moved, .ref a_bothKeys, .ref a_bothVals, .int v_leafDepth, .int v_found, .int v_lastKey, .int v_hasLast])), (a_kind, .inl (cI, 140, .inl k)), (a_many, .inl (cI, 140, .inl mm)), (a_block, .inl (cI, 140, .inl bl)), (a_isFresh, .inl (cZ, 140, .inl fr))] s.heap.size = A at hD ⊢
  have hA : ∀ q : Nat, s.heap.size ≤ q → A q := fun q h => by rw [← hAe]; exact Or.inr h
  have hS : va_S A s.heap s.heap [] := va_S.rf
  have hP : va_P (dC, dI) vwCl [(h0, .inr (9, [.int (nI w), .int (nI b), .int (nI lm), .int (nI cm), .int (nI li), .int (nI ci), .ref a_disk, .int v_isDown, .int v_isArmed, .int v_armedWrites, .int v_armedWords, .int v_writes, .ref a_kind, .ref a_many, .ref a_block, .ref a_keys, .ref a_vals, .ref a_isFresh, .ref a_kindWas, .ref a_manyWas, .ref a_blockWas, .ref a_keysWas, .ref a_valsWas, .ref a_freshWas, .int v_root, .int v_rootWas, .int v_latest, .int v_epoch, .ref a_reached, .ref a_oldKeys, .ref a_oldVals, .ref a_allKeys, .ref a_allVals, .int v_oldMany, .int v_allMany, .ref a_row, .ref a_written, .int v_writtenMany, .ref a_path, .ref a_place, .int v_depth, .ref a_freeRow, .int v_isOther, .int v_moved, .ref a_bothKeys, .ref a_bothVals, .int v_leafDepth, .int v_found, .int v_lastKey, .int v_hasLast])), (a_kind, .inl (cI, 140, .inl k)), (a_many, .inl (cI, 140, .inl mm)), (a_block, .inl (cI, 140, .inl bl)), (a_isFresh, .inl (cZ, 140, .inl fr))] s.heap := hP
  have hl := lv_entry ([.ref h0, .int p0]) (n := 3) (Nat.le_of_ble_eq_true rfl)
  rw [lg_entry_eq]
  generalize (lg_sl ([.ref h0, .int p0]) ++ List.replicate (3 - (lg_sl ([.ref h0, .int p0])).length) Slot.unset).toArray = ls at hl ⊢
  have hl : lv_has ls 3 [(0, .ref h0), (1, .int p0)] := hl
  have k_1 := (fun _ h => List.mem_cons_of_mem _ (List.mem_append_right _ (List.mem_append_left _ h)) : ∀ w ∈ wsX90, w ∈ v_X9_newNode)
  have k_2 := hts (.fieldLink RX9 13 "TwinRootsModel" "kind" "[I") (List.mem_of_getElem? (i := 1) rfl)
  have k_3 := hts (.fieldLink RX9 17 "TwinRootsModel" "many" "[I") (List.mem_of_getElem? (i := 2) rfl)
  have k_4 := hts (.fieldLink RX9 20 "TwinRootsModel" "block" "[I") (List.mem_of_getElem? (i := 3) rfl)
  have k_5 := hts (.fieldLink RX9 29 "TwinRootsModel" "isFresh" "[Z") (List.mem_of_getElem? (i := 4) rfl)
  refine lv_iconst (v := 0) hx hb dX9_newNode_0 (by decide) ?_
  refine lv_istore_n (lv' := [(2, .int 0), (0, .ref h0), (1, .int p0)]) hx hb dX9_newNode_1 rfl hl (by decide) rfl (fun ls hl => ?_)
  refine jn_cut (P := fun Q => ∀ (nf i : Nat) (H : Heap) (locs : List Loc) (ls : Array Slot), i ≤ x9 → x9 + 1 ≤ i + nf → va_P (dC, dI) vwCl [(h0, .inr (9, [.int (nI w), .int (nI b), .int (nI lm), .int (nI cm), .int (nI li), .int (nI ci), .ref a_disk, .int v_isDown, .int v_isArmed, .int v_armedWrites, .int v_armedWords, .int v_writes, .ref a_kind, .ref a_many, .ref a_block, .ref a_keys, .ref a_vals, .ref a_isFresh, .ref a_kindWas, .ref a_manyWas, .ref a_blockWas, .ref a_keysWas, .ref a_valsWas, .ref a_freshWas, .int v_root, .int v_rootWas, .int v_latest, .int v_epoch, .ref a_reached, .ref a_oldKeys, .ref a_oldVals, .ref a_allKeys, .ref a_allVals, .int v_oldMany, .int v_allMany, .ref a_row, .ref a_written, .int v_writtenMany, .ref a_path, .ref a_place, .int v_depth, .ref a_freeRow, .int v_isOther, .int v_moved, .ref a_bothKeys, .ref a_bothVals, .int v_leafDepth, .int v_found, .int v_lastKey, .int v_hasLast])), (a_kind, .inl (cI, 140, .inl k)), (a_many, .inl (cI, 140, .inl mm)), (a_block, .inl (cI, 140, .inl bl)), (a_isFresh, .inl (cZ, 140, .inl fr))] H → va_D A [(h0, .inr (9, [.int (nI w), .int (nI b), .int (nI lm), .int (nI cm), .int (nI li), .int (nI ci), .ref a_disk, .int v_isDown, .int v_isArmed, .int v_armedWrites, .int v_armedWords, .int v_writes, .ref a_kind, .ref a_many, .ref a_block, .ref a_keys, .ref a_vals, .ref a_isFresh, .ref a_kindWas, .ref a_manyWas, .ref a_blockWas, .ref a_keysWas, .ref a_valsWas, .ref a_freshWas, .int v_root, .int v_rootWas, .int v_latest, .int v_epoch, .ref a_reached, .ref a_oldKeys, .ref a_oldVals, .ref a_allKeys, .ref a_allVals, .int v_oldMany, .int v_allMany, .ref a_row, .ref a_written, .int v_writtenMany, .ref a_path, .ref a_place, .int v_depth, .ref a_freeRow, .int v_isOther, .int v_moved, .ref a_bothKeys, .ref a_bothVals, .int v_leafDepth, .int v_found, .int v_lastKey, .int v_hasLast])), (a_kind, .inl (cI, 140, .inl k)), (a_many, .inl (cI, 140, .inl mm)), (a_block, .inl (cI, 140, .inl bl)), (a_isFresh, .inl (cZ, 140, .inl fr))] → va_S A s.heap H locs → lv_has ls 3 [(0, .ref h0), (1, .int p0), (2, .int (nI i))] → W p l e (headSpec v_X9_newNode ({ frames := 0, cells := 0, slots := 0, locals := 0 } : Room)).room s m ([.ref h0, .int p0] : List Value).toArray below meth c H locs 0 0 Q (F0 m 2 ls [])) ?_ (fun loop_2 => ?_)
  · intro nf
    induction nf with
    | zero =>
      intro i H locs ls h1 h2
      exact absurd h2 (by omega)
    | succ nf ih_2 =>
      intro i H locs ls hi hn hP hD hS hl
      refine lv_aload_n hx hb dX9_newNode_2 rfl (lv_at hl 0 rfl) ?_
      refine va_get (D := (dC, dI)) (ci := 9) (v := .ref a_kind) (C := RX9) (T := TX9) (N := 50) hx hb hts k_1 hown hK hP 0 rfl rfl 12 (by decide) k_2 (fun _ h9 => h9) rfl dX9_newNode_3 ?_
      refine lv_iload_n hx hb dX9_newNode_6 rfl (lv_at hl 2 rfl) ?_
      refine va_iald hx hb hK hP 1 0 rfl rfl (show vp_in (nI i) 140 from vp_in_nI (by omega) (by omega)) dX9_newNode_7 ?_
      refine lv_topi (fun z_1 ez_1 => ?_)
      obtain rfl : z_1 = k i := ez_1.trans (congrArg k (nI_clamp (by omega)))
      refine lv_if_eq (tgt := 17) hx hb dX9_newNode_8 (by decide) (fun c_2 => ?_) (fun c_2 => ?_)
      · refine lv_aload_n hx hb dX9_newNode_17 rfl (lv_at hl 0 rfl) ?_
        refine va_get (D := (dC, dI)) (ci := 9) (v := .ref a_kind) (C := RX9) (T := TX9) (N := 50) hx hb hts k_1 hown hK hP 0 rfl rfl 12 (by decide) k_2 (fun _ h9 => h9) rfl dX9_newNode_18 ?_
        refine lv_iload_n hx hb dX9_newNode_21 rfl (lv_at hl 2 rfl) ?_
        refine lv_iload_n hx hb dX9_newNode_22 rfl (lv_at hl 1 rfl) ?_
        refine va_iast hx hb hK hP hD hS 1 0 rfl rfl (show vp_in (nI i) 140 from vp_in_nI (by omega) (by omega)) dX9_newNode_23 (fun H locs hP hD hS => ?_)
        have hP : va_P (dC, dI) vwCl [(h0, .inr (9, [.int (nI w), .int (nI b), .int (nI lm), .int (nI cm), .int (nI li), .int (nI ci), .ref a_disk, .int v_isDown, .int v_isArmed, .int v_armedWrites, .int v_armedWords, .int v_writes, .ref a_kind, .ref a_many, .ref a_block, .ref a_keys, .ref a_vals, .ref a_isFresh, .ref a_kindWas, .ref a_manyWas, .ref a_blockWas, .ref a_keysWas, .ref a_valsWas, .ref a_freshWas, .int v_root, .int v_rootWas, .int v_latest, .int v_epoch, .ref a_reached, .ref a_oldKeys, .ref a_oldVals, .ref a_allKeys, .ref a_allVals, .int v_oldMany, .int v_allMany, .ref a_row, .ref a_written, .int v_writtenMany, .ref a_path, .ref a_place, .int v_depth, .ref a_freeRow, .int v_isOther, .int v_moved, .ref a_bothKeys, .ref a_bothVals, .int v_leafDepth, .int v_found, .int v_lastKey, .int v_hasLast])), (a_kind, .inl (cI, 140, .inl (upd k ((nI i).toNatClampNeg) p0))), (a_many, .inl (cI, 140, .inl mm)), (a_block, .inl (cI, 140, .inl bl)), (a_isFresh, .inl (cZ, 140, .inl fr))] H := hP
        have hD : va_D A [(h0, .inr (9, [.int (nI w), .int (nI b), .int (nI lm), .int (nI cm), .int (nI li), .int (nI ci), .ref a_disk, .int v_isDown, .int v_isArmed, .int v_armedWrites, .int v_armedWords, .int v_writes, .ref a_kind, .ref a_many, .ref a_block, .ref a_keys, .ref a_vals, .ref a_isFresh, .ref a_kindWas, .ref a_manyWas, .ref a_blockWas, .ref a_keysWas, .ref a_valsWas, .ref a_freshWas, .int v_root, .int v_rootWas, .int v_latest, .int v_epoch, .ref a_reached, .ref a_oldKeys, .ref a_oldVals, .ref a_allKeys, .ref a_allVals, .int v_oldMany, .int v_allMany, .ref a_row, .ref a_written, .int v_writtenMany, .ref a_path, .ref a_place, .int v_depth, .ref a_freeRow, .int v_isOther, .int v_moved, .ref a_bothKeys, .ref a_bothVals, .int v_leafDepth, .int v_found, .int v_lastKey, .int v_hasLast])), (a_kind, .inl (cI, 140, .inl (upd k ((nI i).toNatClampNeg) p0))), (a_many, .inl (cI, 140, .inl mm)), (a_block, .inl (cI, 140, .inl bl)), (a_isFresh, .inl (cZ, 140, .inl fr))] := hD
        rw [show (nI i).toNatClampNeg = i from nI_clamp (by omega)] at hP hD
        obtain ⟨f_3, ef_3⟩ : ∃ g9, g9 = upd k i p0 := ⟨_, rfl⟩
        rw [← ef_3] at hP hD
        refine lv_aload_n hx hb dX9_newNode_24 rfl (lv_at hl 0 rfl) ?_
        refine va_get (D := (dC, dI)) (ci := 9) (v := .ref a_many) (C := RX9) (T := TX9) (N := 50) hx hb hts k_1 hown hK hP 0 rfl rfl 13 (by decide) k_3 (fun _ h9 => h9) rfl dX9_newNode_25 ?_
        refine lv_iload_n hx hb dX9_newNode_28 rfl (lv_at hl 2 rfl) ?_
        refine lv_iconst (v := 0) hx hb dX9_newNode_29 (by decide) ?_
        refine va_iast hx hb hK hP hD hS 2 0 rfl rfl (show vp_in (nI i) 140 from vp_in_nI (by omega) (by omega)) dX9_newNode_30 (fun H locs hP hD hS => ?_)
        have hP : va_P (dC, dI) vwCl [(h0, .inr (9, [.int (nI w), .int (nI b), .int (nI lm), .int (nI cm), .int (nI li), .int (nI ci), .ref a_disk, .int v_isDown, .int v_isArmed, .int v_armedWrites, .int v_armedWords, .int v_writes, .ref a_kind, .ref a_many, .ref a_block, .ref a_keys, .ref a_vals, .ref a_isFresh, .ref a_kindWas, .ref a_manyWas, .ref a_blockWas, .ref a_keysWas, .ref a_valsWas, .ref a_freshWas, .int v_root, .int v_rootWas, .int v_latest, .int v_epoch, .ref a_reached, .ref a_oldKeys, .ref a_oldVals, .ref a_allKeys, .ref a_allVals, .int v_oldMany, .int v_allMany, .ref a_row, .ref a_written, .int v_writtenMany, .ref a_path, .ref a_place, .int v_depth, .ref a_freeRow, .int v_isOther, .int v_moved, .ref a_bothKeys, .ref a_bothVals, .int v_leafDepth, .int v_found, .int v_lastKey, .int v_hasLast])), (a_kind, .inl (cI, 140, .inl f_3)), (a_many, .inl (cI, 140, .inl (upd mm ((nI i).toNatClampNeg) 0))), (a_block, .inl (cI, 140, .inl bl)), (a_isFresh, .inl (cZ, 140, .inl fr))] H := hP
        have hD : va_D A [(h0, .inr (9, [.int (nI w), .int (nI b), .int (nI lm), .int (nI cm), .int (nI li), .int (nI ci), .ref a_disk, .int v_isDown, .int v_isArmed, .int v_armedWrites, .int v_armedWords, .int v_writes, .ref a_kind, .ref a_many, .ref a_block, .ref a_keys, .ref a_vals, .ref a_isFresh, .ref a_kindWas, .ref a_manyWas, .ref a_blockWas, .ref a_keysWas, .ref a_valsWas, .ref a_freshWas, .int v_root, .int v_rootWas, .int v_latest, .int v_epoch, .ref a_reached, .ref a_oldKeys, .ref a_oldVals, .ref a_allKeys, .ref a_allVals, .int v_oldMany, .int v_allMany, .ref a_row, .ref a_written, .int v_writtenMany, .ref a_path, .ref a_place, .int v_depth, .ref a_freeRow, .int v_isOther, .int v_moved, .ref a_bothKeys, .ref a_bothVals, .int v_leafDepth, .int v_found, .int v_lastKey, .int v_hasLast])), (a_kind, .inl (cI, 140, .inl f_3)), (a_many, .inl (cI, 140, .inl (upd mm ((nI i).toNatClampNeg) 0))), (a_block, .inl (cI, 140, .inl bl)), (a_isFresh, .inl (cZ, 140, .inl fr))] := hD
        rw [show (nI i).toNatClampNeg = i from nI_clamp (by omega)] at hP hD
        obtain ⟨f_4, ef_4⟩ : ∃ g9, g9 = upd mm i 0 := ⟨_, rfl⟩
        rw [← ef_4] at hP hD
        refine lv_aload_n hx hb dX9_newNode_31 rfl (lv_at hl 0 rfl) ?_
        refine va_get (D := (dC, dI)) (ci := 9) (v := .ref a_block) (C := RX9) (T := TX9) (N := 50) hx hb hts k_1 hown hK hP 0 rfl rfl 14 (by decide) k_4 (fun _ h9 => h9) rfl dX9_newNode_32 ?_
        refine lv_iload_n hx hb dX9_newNode_35 rfl (lv_at hl 2 rfl) ?_
        refine lv_iconst (v := 0) hx hb dX9_newNode_36 (by decide) ?_
        refine va_iast hx hb hK hP hD hS 3 0 rfl rfl (show vp_in (nI i) 140 from vp_in_nI (by omega) (by omega)) dX9_newNode_37 (fun H locs hP hD hS => ?_)
        have hP : va_P (dC, dI) vwCl [(h0, .inr (9, [.int (nI w), .int (nI b), .int (nI lm), .int (nI cm), .int (nI li), .int (nI ci), .ref a_disk, .int v_isDown, .int v_isArmed, .int v_armedWrites, .int v_armedWords, .int v_writes, .ref a_kind, .ref a_many, .ref a_block, .ref a_keys, .ref a_vals, .ref a_isFresh, .ref a_kindWas, .ref a_manyWas, .ref a_blockWas, .ref a_keysWas, .ref a_valsWas, .ref a_freshWas, .int v_root, .int v_rootWas, .int v_latest, .int v_epoch, .ref a_reached, .ref a_oldKeys, .ref a_oldVals, .ref a_allKeys, .ref a_allVals, .int v_oldMany, .int v_allMany, .ref a_row, .ref a_written, .int v_writtenMany, .ref a_path, .ref a_place, .int v_depth, .ref a_freeRow, .int v_isOther, .int v_moved, .ref a_bothKeys, .ref a_bothVals, .int v_leafDepth, .int v_found, .int v_lastKey, .int v_hasLast])), (a_kind, .inl (cI, 140, .inl f_3)), (a_many, .inl (cI, 140, .inl f_4)), (a_block, .inl (cI, 140, .inl (upd bl ((nI i).toNatClampNeg) 0))), (a_isFresh, .inl (cZ, 140, .inl fr))] H := hP
        have hD : va_D A [(h0, .inr (9, [.int (nI w), .int (nI b), .int (nI lm), .int (nI cm), .int (nI li), .int (nI ci), .ref a_disk, .int v_isDown, .int v_isArmed, .int v_armedWrites, .int v_armedWords, .int v_writes, .ref a_kind, .ref a_many, .ref a_block, .ref a_keys, .ref a_vals, .ref a_isFresh, .ref a_kindWas, .ref a_manyWas, .ref a_blockWas, .ref a_keysWas, .ref a_valsWas, .ref a_freshWas, .int v_root, .int v_rootWas, .int v_latest, .int v_epoch, .ref a_reached, .ref a_oldKeys, .ref a_oldVals, .ref a_allKeys, .ref a_allVals, .int v_oldMany, .int v_allMany, .ref a_row, .ref a_written, .int v_writtenMany, .ref a_path, .ref a_place, .int v_depth, .ref a_freeRow, .int v_isOther, .int v_moved, .ref a_bothKeys, .ref a_bothVals, .int v_leafDepth, .int v_found, .int v_lastKey, .int v_hasLast])), (a_kind, .inl (cI, 140, .inl f_3)), (a_many, .inl (cI, 140, .inl f_4)), (a_block, .inl (cI, 140, .inl (upd bl ((nI i).toNatClampNeg) 0))), (a_isFresh, .inl (cZ, 140, .inl fr))] := hD
        rw [show (nI i).toNatClampNeg = i from nI_clamp (by omega)] at hP hD
        obtain ⟨f_5, ef_5⟩ : ∃ g9, g9 = upd bl i 0 := ⟨_, rfl⟩
        rw [← ef_5] at hP hD
        refine lv_aload_n hx hb dX9_newNode_38 rfl (lv_at hl 0 rfl) ?_
        refine va_get (D := (dC, dI)) (ci := 9) (v := .ref a_isFresh) (C := RX9) (T := TX9) (N := 50) hx hb hts k_1 hown hK hP 0 rfl rfl 17 (by decide) k_5 (fun _ h9 => h9) rfl dX9_newNode_39 ?_
        refine lv_iload_n hx hb dX9_newNode_42 rfl (lv_at hl 2 rfl) ?_
        refine lv_iconst (v := 0) hx hb dX9_newNode_43 (by decide) ?_
        refine va_zast hx hb hK hP hD hS 4 1 rfl rfl (show vp_in (nI i) 140 from vp_in_nI (by omega) (by omega)) dX9_newNode_44 (fun H locs hP hD hS => ?_)
        have hP : va_P (dC, dI) vwCl [(h0, .inr (9, [.int (nI w), .int (nI b), .int (nI lm), .int (nI cm), .int (nI li), .int (nI ci), .ref a_disk, .int v_isDown, .int v_isArmed, .int v_armedWrites, .int v_armedWords, .int v_writes, .ref a_kind, .ref a_many, .ref a_block, .ref a_keys, .ref a_vals, .ref a_isFresh, .ref a_kindWas, .ref a_manyWas, .ref a_blockWas, .ref a_keysWas, .ref a_valsWas, .ref a_freshWas, .int v_root, .int v_rootWas, .int v_latest, .int v_epoch, .ref a_reached, .ref a_oldKeys, .ref a_oldVals, .ref a_allKeys, .ref a_allVals, .int v_oldMany, .int v_allMany, .ref a_row, .ref a_written, .int v_writtenMany, .ref a_path, .ref a_place, .int v_depth, .ref a_freeRow, .int v_isOther, .int v_moved, .ref a_bothKeys, .ref a_bothVals, .int v_leafDepth, .int v_found, .int v_lastKey, .int v_hasLast])), (a_kind, .inl (cI, 140, .inl f_3)), (a_many, .inl (cI, 140, .inl f_4)), (a_block, .inl (cI, 140, .inl f_5)), (a_isFresh, .inl (cZ, 140, .inl (upd fr ((nI i).toNatClampNeg) (vp_nar .boolean 0))))] H := hP
        have hD : va_D A [(h0, .inr (9, [.int (nI w), .int (nI b), .int (nI lm), .int (nI cm), .int (nI li), .int (nI ci), .ref a_disk, .int v_isDown, .int v_isArmed, .int v_armedWrites, .int v_armedWords, .int v_writes, .ref a_kind, .ref a_many, .ref a_block, .ref a_keys, .ref a_vals, .ref a_isFresh, .ref a_kindWas, .ref a_manyWas, .ref a_blockWas, .ref a_keysWas, .ref a_valsWas, .ref a_freshWas, .int v_root, .int v_rootWas, .int v_latest, .int v_epoch, .ref a_reached, .ref a_oldKeys, .ref a_oldVals, .ref a_allKeys, .ref a_allVals, .int v_oldMany, .int v_allMany, .ref a_row, .ref a_written, .int v_writtenMany, .ref a_path, .ref a_place, .int v_depth, .ref a_freeRow, .int v_isOther, .int v_moved, .ref a_bothKeys, .ref a_bothVals, .int v_leafDepth, .int v_found, .int v_lastKey, .int v_hasLast])), (a_kind, .inl (cI, 140, .inl f_3)), (a_many, .inl (cI, 140, .inl f_4)), (a_block, .inl (cI, 140, .inl f_5)), (a_isFresh, .inl (cZ, 140, .inl (upd fr ((nI i).toNatClampNeg) (vp_nar .boolean 0))))] := hD
        rw [show (nI i).toNatClampNeg = i from nI_clamp (by omega)] at hP hD
        rw [show vp_nar .boolean 0 = 0 from rfl] at hP hD
        obtain ⟨f_6, ef_6⟩ : ∃ g9, g9 = upd fr i 0 := ⟨_, rfl⟩
        rw [← ef_6] at hP hD
        refine lv_iload_n hx hb dX9_newNode_45 rfl (lv_at hl 2 rfl) ?_
        have hP9 := hP.sub (ws' := [(h0, .inr (9, [.int (nI w), .int (nI b), .int (nI lm), .int (nI cm), .int (nI li), .int (nI ci), .ref a_disk, .int v_isDown, .int v_isArmed, .int v_armedWrites, .int v_armedWords, .int v_writes, .ref a_kind, .ref a_many, .ref a_block, .ref a_keys, .ref a_vals, .ref a_isFresh, .ref a_kindWas, .ref a_manyWas, .ref a_blockWas, .ref a_keysWas, .ref a_valsWas, .ref a_freshWas, .int v_root, .int v_rootWas, .int v_latest, .int v_epoch, .ref a_reached, .ref a_oldKeys, .ref a_oldVals, .ref a_allKeys, .ref a_allVals, .int v_oldMany, .int v_allMany, .ref a_row, .ref a_written, .int v_writtenMany, .ref a_path, .ref a_place, .int v_depth, .ref a_freeRow, .int v_isOther, .int v_moved, .ref a_bothKeys, .ref a_bothVals, .int v_leafDepth, .int v_found, .int v_lastKey, .int v_hasLast])), (a_kind, .inl (cI, 140, .inl f_3)), (a_many, .inl (cI, 140, .inl f_4)), (a_block, .inl (cI, 140, .inl f_5)), (a_isFresh, .inl (cZ, 140, .inl f_6))]) [0, 1, 2, 3, 4] rfl
        have hD9 := hD.sub (ws' := [(h0, .inr (9, [.int (nI w), .int (nI b), .int (nI lm), .int (nI cm), .int (nI li), .int (nI ci), .ref a_disk, .int v_isDown, .int v_isArmed, .int v_armedWrites, .int v_armedWords, .int v_writes, .ref a_kind, .ref a_many, .ref a_block, .ref a_keys, .ref a_vals, .ref a_isFresh, .ref a_kindWas, .ref a_manyWas, .ref a_blockWas, .ref a_keysWas, .ref a_valsWas, .ref a_freshWas, .int v_root, .int v_rootWas, .int v_latest, .int v_epoch, .ref a_reached, .ref a_oldKeys, .ref a_oldVals, .ref a_allKeys, .ref a_allVals, .int v_oldMany, .int v_allMany, .ref a_row, .ref a_written, .int v_writtenMany, .ref a_path, .ref a_place, .int v_depth, .ref a_freeRow, .int v_isOther, .int v_moved, .ref a_bothKeys, .ref a_bothVals, .int v_leafDepth, .int v_found, .int v_lastKey, .int v_hasLast])), (a_kind, .inl (cI, 140, .inl f_3)), (a_many, .inl (cI, 140, .inl f_4)), (a_block, .inl (cI, 140, .inl f_5)), (a_isFresh, .inl (cZ, 140, .inl f_6))]) [0, 1, 2, 3, 4] (by decide) rfl
        have hK9 := hK.sub (tys' := [(cI, .int), (cZ, .boolean)]) [0, 1] rfl
        exact W.iret (v := (nI i)) hx hb hr (fun t ht hW => ⟨⟨(nI i), (f_3, f_4, f_5, f_6, i), rfl, ⟨rfl, by omega, c_2, ef_3, ef_4, ef_5, ef_6⟩, by rw [ht]; exact hP9, va_K.moved hW.alike hK9, hD9⟩, hS.F ht⟩) hS.2.2 dX9_newNode_46
      · have hne : i ≠ x9 := fun h9 => c_2 (h9 ▸ hk9)
        refine lv_iinc (v := (nI (i + 1))) (lv' := [(2, .int (nI (i + 1))), (0, .ref h0), (1, .int p0)]) hx hb dX9_newNode_11 hl (k := 2) rfl (nI_1 i) (by decide) rfl (fun ls hl => ?_)
        refine lv_goto (tgt := 2) hx hb dX9_newNode_14 (by decide) ?_
        exact ih_2 (i + 1) _ _ _ (by omega) (by omega) hP hD hS (lv_sub hl [1, 2, 0] rfl)
  exact loop_2 (x9 + 1) 0 _ _ _ (by omega) (by omega) hP hD hS (lv_sub hl [1, 2, 0] rfl)
def v_X9_indexIn : List Cond := .code yX9_indexIn cX9_indexIn 4 (some .int) :: ([.fieldLink RX9 17 "TwinRootsModel" "many" "[I", .fieldLink RX9 23 "TwinRootsModel" "keys" "[I"] ++ (wsX90 ++ ([])))
set_option maxHeartbeats 4000000 in
set_option maxRecDepth 100000 in
/-- X9_indexIn -/
theorem c_X9_indexIn (l : Launch) (dC : Nat → ClassId) (dI : Nat → Nat → Nat) (sz : Nat) (h0 : Nat) (w : Nat) (b : Nat) (lm : Nat) (cm : Nat) (li : Nat) (ci : Nat) (a_disk : Nat) (a_kind : Nat) (a_many : Nat) (a_block : Nat) (a_keys : Nat) (a_vals : Nat) (a_isFresh : Nat) (a_kindWas : Nat) (a_manyWas : Nat) (a_blockWas : Nat) (a_keysWas : Nat) (a_valsWas : Nat) (a_freshWas : Nat) (a_reached : Nat) (a_oldKeys : Nat) (a_oldVals : Nat) (a_allKeys : Nat) (a_allVals : Nat) (a_row : Nat) (a_written : Nat) (a_path : Nat) (a_place : Nat) (a_freeRow : Nat) (a_bothKeys : Nat) (a_bothVals : Nat) (v_isDown : Int32) (v_isArmed : Int32) (v_armedWrites : Int32) (v_armedWords : Int32) (v_writes : Int32) (v_root : Int32) (v_rootWas : Int32) (v_latest : Int32) (v_epoch : Int32) (v_oldMany : Int32) (v_allMany : Int32) (v_writtenMany : Int32) (v_depth : Int32) (v_isOther : Int32) (v_moved : Int32) (v_leafDepth : Int32) (v_found : Int32) (v_lastKey : Int32) (v_hasLast : Int32) (cI : ClassId) (mm : Nat → Int32) (ks : Nat → Int32) (x0 : Nat) (n0 : Nat) (p1 : Int32) (hxx : x0 < 140) (hm0 : mm x0 = nI n0) (hn0 : n0 ≤ 23) : Met l yX9_indexIn v_X9_indexIn ({ frames := 0, cells := 0, slots := 0, locals := 0 } : Room) (va_Pc [.ref h0, .int (nI x0), .int p1] (fun U => U.heap.size = sz ∧ va_P (dC, dI) vwCl [(h0, .inr (9, [.int (nI w), .int (nI b), .int (nI lm), .int (nI cm), .int (nI li), .int (nI ci), .ref a_disk, .int v_isDown, .int v_isArmed, .int v_armedWrites, .int v_armedWords, .int v_writes, .ref a_kind, .ref a_many, .ref a_block, .ref a_keys, .ref a_vals, .ref a_isFresh, .ref a_kindWas, .ref a_manyWas, .ref a_blockWas, .ref a_keysWas, .ref a_valsWas, .ref a_freshWas, .int v_root, .int v_rootWas, .int v_latest, .int v_epoch, .ref a_reached, .ref a_oldKeys, .ref a_oldVals, .ref a_allKeys, .ref a_allVals, .int v_oldMany, .int v_allMany, .ref a_row, .ref a_written, .int v_writtenMany, .ref a_path, .ref a_place, .int v_depth, .ref a_freeRow, .int v_isOther, .int v_moved, .ref a_bothKeys, .ref a_bothVals, .int v_leafDepth, .int v_found, .int v_lastKey, .int v_hasLast])), (a_many, .inl (cI, 140, .inl mm)), (a_keys, .inl (cI, 3360, .inl ks))] U.heap ∧ va_K (dC, dI) vwCl [(cI, .int)] U ∧ va_D (fun _ => True) [(h0, .inr (9, [.int (nI w), .int (nI b), .int (nI lm), .int (nI cm), .int (nI li), .int (nI ci), .ref a_disk, .int v_isDown, .int v_isArmed, .int v_armedWrites, .int v_armedWords, .int v_writes, .ref a_kind, .ref a_many, .ref a_block, .ref a_keys, .ref a_vals, .ref a_isFresh, .ref a_kindWas, .ref a_manyWas, .ref a_blockWas, .ref a_keysWas, .ref a_valsWas, .ref a_freshWas, .int v_root, .int v_rootWas, .int v_latest, .int v_epoch, .ref a_reached, .ref a_oldKeys, .ref a_oldVals, .ref a_allKeys, .ref a_allVals, .int v_oldMany, .int v_allMany, .ref a_row, .ref a_written, .int v_writtenMany, .ref a_path, .ref a_place, .int v_depth, .ref a_freeRow, .int v_isOther, .int v_moved, .ref a_bothKeys, .ref a_bothVals, .int v_leafDepth, .int v_found, .int v_lastKey, .int v_hasLast])), (a_many, .inl (cI, 140, .inl mm)), (a_keys, .inl (cI, 3360, .inl ks))])) (va_Qi (fun (r : Int32) (i2 : Nat) => r = nI i2 ∧ i2 ≤ n0) (fun (i2 : Nat) (t : State) => va_P (dC, dI) vwCl [(h0, .inr (9, [.int (nI w), .int (nI b), .int (nI lm), .int (nI cm), .int (nI li), .int (nI ci), .ref a_disk, .int v_isDown, .int v_isArmed, .int v_armedWrites, .int v_armedWords, .int v_writes, .ref a_kind, .ref a_many, .ref a_block, .ref a_keys, .ref a_vals, .ref a_isFresh, .ref a_kindWas, .ref a_manyWas, .ref a_blockWas, .ref a_keysWas, .ref a_valsWas, .ref a_freshWas, .int v_root, .int v_rootWas, .int v_latest, .int v_epoch, .ref a_reached, .ref a_oldKeys, .ref a_oldVals, .ref a_allKeys, .ref a_allVals, .int v_oldMany, .int v_allMany, .ref a_row, .ref a_written, .int v_writtenMany, .ref a_path, .ref a_place, .int v_depth, .ref a_freeRow, .int v_isOther, .int v_moved, .ref a_bothKeys, .ref a_bothVals, .int v_leafDepth, .int v_found, .int v_lastKey, .int v_hasLast])), (a_many, .inl (cI, 140, .inl mm)), (a_keys, .inl (cI, 3360, .inl ks))] t.heap ∧ va_K (dC, dI) vwCl [(cI, .int)] t ∧ va_D (va_A [(h0, .inr (9, [.int (nI w), .int (nI b), .int (nI lm), .int (nI cm), .int (nI li), .int (nI ci), .ref a_disk, .int v_isDown, .int v_isArmed, .int v_armedWrites, .int v_armedWords, .int v_writes, .ref a_kind, .ref a_many, .ref a_block, .ref a_keys, .ref a_vals, .ref a_isFresh, .ref a_kindWas, .ref a_manyWas, .ref a_blockWas, .ref a_keysWas, .ref a_valsWas, .ref a_freshWas, .int v_root, .int v_rootWas, .int v_latest, .int v_epoch, .ref a_reached, .ref a_oldKeys, .ref a_oldVals, .ref a_allKeys, .ref a_allVals, .int v_oldMany, .int v_allMany, .ref a_row, .ref a_written, .int v_writtenMany, .ref a_path, .ref a_place, .int v_depth, .ref a_freeRow, .int v_isOther, .int v_moved, .ref a_bothKeys, .ref a_bothVals, .int v_leafDepth, .int v_found, .int v_lastKey, .int v_hasLast])), (a_many, .inl (cI, 140, .inl mm)), (a_keys, .inl (cI, 3360, .inl ks))] sz) [(h0, .inr (9, [.int (nI w), .int (nI b), .int (nI lm), .int (nI cm), .int (nI li), .int (nI ci), .ref a_disk, .int v_isDown, .int v_isArmed, .int v_armedWrites, .int v_armedWords, .int v_writes, .ref a_kind, .ref a_many, .ref a_block, .ref a_keys, .ref a_vals, .ref a_isFresh, .ref a_kindWas, .ref a_manyWas, .ref a_blockWas, .ref a_keysWas, .ref a_valsWas, .ref a_freshWas, .int v_root, .int v_rootWas, .int v_latest, .int v_epoch, .ref a_reached, .ref a_oldKeys, .ref a_oldVals, .ref a_allKeys, .ref a_allVals, .int v_oldMany, .int v_allMany, .ref a_row, .ref a_written, .int v_writtenMany, .ref a_path, .ref a_place, .int v_depth, .ref a_freeRow, .int v_isOther, .int v_moved, .ref a_bothKeys, .ref a_bothVals, .int v_leafDepth, .int v_found, .int v_lastKey, .int v_hasLast])), (a_many, .inl (cI, 140, .inl mm)), (a_keys, .inl (cI, 3360, .inl ks))]) (va_A [(h0, .inr (9, [.int (nI w), .int (nI b), .int (nI lm), .int (nI cm), .int (nI li), .int (nI ci), .ref a_disk, .int v_isDown, .int v_isArmed, .int v_armedWrites, .int v_armedWords, .int v_writes, .ref a_kind, .ref a_many, .ref a_block, .ref a_keys, .ref a_vals, .ref a_isFresh, .ref a_kindWas, .ref a_manyWas, .ref a_blockWas, .ref a_keysWas, .ref a_valsWas, .ref a_freshWas, .int v_root, .int v_rootWas, .int v_latest, .int v_epoch, .ref a_reached, .ref a_oldKeys, .ref a_oldVals, .ref a_allKeys, .ref a_allVals, .int v_oldMany, .int v_allMany, .ref a_row, .ref a_written, .int v_writtenMany, .ref a_path, .ref a_place, .int v_depth, .ref a_freeRow, .int v_isOther, .int v_moved, .ref a_bothKeys, .ref a_bothVals, .int v_leafDepth, .int v_found, .int v_lastKey, .int v_hasLast])), (a_many, .inl (cI, 140, .inl mm)), (a_keys, .inl (cI, 3360, .inl ks))] sz)) 0 0 (va_A [(h0, .inr (9, [.int (nI w), .int (nI b), .int (nI lm), .int (nI cm), .int (nI li), .int (nI ci), .ref a_disk, .int v_isDown, .int v_isArmed, .int v_armedWrites, .int v_armedWords, .int v_writes, .ref a_kind, .ref a_many, .ref a_block, .ref a_keys, .ref a_vals, .ref a_isFresh, .ref a_kindWas, .ref a_manyWas, .ref a_blockWas, .ref a_keysWas, .ref a_valsWas, .ref a_freshWas, .int v_root, .int v_rootWas, .int v_latest, .int v_epoch, .ref a_reached, .ref a_oldKeys, .ref a_oldVals, .ref a_allKeys, .ref a_allVals, .int v_oldMany, .int v_allMany, .ref a_row, .ref a_written, .int v_writtenMany, .ref a_path, .ref a_place, .int v_depth, .ref a_freeRow, .int v_isOther, .int v_moved, .ref a_bothKeys, .ref a_bothVals, .int v_leafDepth, .int v_found, .int v_lastKey, .int v_hasLast])), (a_many, .inl (cI, 140, .inl mm)), (a_keys, .inl (cI, 3360, .inl ks))] sz) := by
  refine Met.ofW (cc := cX9_indexIn) (maxL := 4) (ret := (some .int)) (by decide) rfl ?_
  intro p e s m args below meth c s₁ B hml hv
  obtain ⟨rfl, hsz, hP, hK, hD0⟩ := hv
  have hx := B.exec
  have hb := B.bytes
  have hr := B.returns
  have hts := atoms_spec (ws := v_X9_indexIn) B.pre
  have hown : s.vm.findClass RX9 = some m.cls := findClass_of_methodNamed B.named
  have hlocks := B.notSynchronized
  subst hsz
  have hD := hD0.self (sz := s.heap.size)
  generalize hAe : va_A [(h0, .inr (9, [.int (nI w), .int (nI b), .int (nI lm), .int (nI cm), .int (nI li), .int (nI ci), .ref a_disk, .int v_isDown, .int v_isArmed, .int v_armedWrites, .int v_armedWords, .int v_writes, .ref a_kind, .ref a_many, .ref a_block, .ref a_keys, .ref a_vals, .ref a_isFresh, .ref a_kindWas, .ref a_manyWas, .ref a_blockWas, .ref a_keysWas, .ref a_valsWas, .ref a_freshWas, .int v_root, .int v_rootWas, .int v_latest, .int v_epoch, .ref a_reached, .ref a_oldKeys, .ref a_oldVals, .ref a_allKeys, .ref a_allVals, .int v_oldMany, .int v_allMany, .ref a_row, .ref a_written, .int v_writtenMany, .ref a_path, .ref a_place, .int v_depth, .ref a_freeRow, .int v_isOther, .int v_moved, .ref a_bothKeys, .ref a_bothVals, .int v_leafDepth, .int v_found, .int v_lastKey, .int v_hasLast])), (a_many, .inl (cI, 140, .inl mm)), (a_keys, .inl (cI, 3360, .inl ks))] s.heap.size = A at hD ⊢
  have hA : ∀ q : Nat, s.heap.size ≤ q → A q := fun q h => by rw [← hAe]; exact Or.inr h
  have hS : va_S A s.heap s.heap [] := va_S.rf
  have hP : va_P (dC, dI) vwCl [(h0, .inr (9, [.int (nI w), .int (nI b), .int (nI lm), .int (nI cm), .int (nI li), .int (nI ci), .ref a_disk, .int v_isDown, .int v_isArmed, .int v_armedWrites, .int v_armedWords, .int v_writes, .ref a_kind, .ref a_many, .ref a_block, .ref a_keys, .ref a_vals, .ref a_isFresh, .ref a_kindWas, .ref a_manyWas, .ref a_blockWas, .ref a_keysWas, .ref a_valsWas, .ref a_freshWas, .int v_root, .int v_rootWas, .int v_latest, .int v_epoch, .ref a_reached, .ref a_oldKeys, .ref a_oldVals, .ref a_allKeys, .ref a_allVals, .int v_oldMany, .int v_allMany, .ref a_row, .ref a_written, .int v_writtenMany, .ref a_path, .ref a_place, .int v_depth, .ref a_freeRow, .int v_isOther, .int v_moved, .ref a_bothKeys, .ref a_bothVals, .int v_leafDepth, .int v_found, .int v_lastKey, .int v_hasLast])), (a_many, .inl (cI, 140, .inl mm)), (a_keys, .inl (cI, 3360, .inl ks))] s.heap := hP
  have hl := lv_entry ([.ref h0, .int (nI x0), .int p1]) (n := 4) (Nat.le_of_ble_eq_true rfl)
  rw [lg_entry_eq]
  generalize (lg_sl ([.ref h0, .int (nI x0), .int p1]) ++ List.replicate (4 - (lg_sl ([.ref h0, .int (nI x0), .int p1])).length) Slot.unset).toArray = ls at hl ⊢
  have hl : lv_has ls 4 [(0, .ref h0), (1, .int (nI x0)), (2, .int p1)] := hl
  have k_1 := (fun _ h => List.mem_cons_of_mem _ (List.mem_append_right _ (List.mem_append_left _ h)) : ∀ w ∈ wsX90, w ∈ v_X9_indexIn)
  have k_2 := hts (.fieldLink RX9 17 "TwinRootsModel" "many" "[I") (List.mem_of_getElem? (i := 1) rfl)
  have k_3 := hts (.fieldLink RX9 23 "TwinRootsModel" "keys" "[I") (List.mem_of_getElem? (i := 2) rfl)
  refine lv_iconst (v := 0) hx hb dX9_indexIn_0 (by decide) ?_
  refine lv_istore_n (lv' := [(3, .int 0), (0, .ref h0), (1, .int (nI x0)), (2, .int p1)]) hx hb dX9_indexIn_1 rfl hl (by decide) rfl (fun ls hl => ?_)
  refine jn_cut (P := fun Q => ∀ (nf i : Nat) (H : Heap) (locs : List Loc) (ls : Array Slot), i ≤ n0 → n0 + 1 ≤ i + nf → va_P (dC, dI) vwCl [(h0, .inr (9, [.int (nI w), .int (nI b), .int (nI lm), .int (nI cm), .int (nI li), .int (nI ci), .ref a_disk, .int v_isDown, .int v_isArmed, .int v_armedWrites, .int v_armedWords, .int v_writes, .ref a_kind, .ref a_many, .ref a_block, .ref a_keys, .ref a_vals, .ref a_isFresh, .ref a_kindWas, .ref a_manyWas, .ref a_blockWas, .ref a_keysWas, .ref a_valsWas, .ref a_freshWas, .int v_root, .int v_rootWas, .int v_latest, .int v_epoch, .ref a_reached, .ref a_oldKeys, .ref a_oldVals, .ref a_allKeys, .ref a_allVals, .int v_oldMany, .int v_allMany, .ref a_row, .ref a_written, .int v_writtenMany, .ref a_path, .ref a_place, .int v_depth, .ref a_freeRow, .int v_isOther, .int v_moved, .ref a_bothKeys, .ref a_bothVals, .int v_leafDepth, .int v_found, .int v_lastKey, .int v_hasLast])), (a_many, .inl (cI, 140, .inl mm)), (a_keys, .inl (cI, 3360, .inl ks))] H → va_D A [(h0, .inr (9, [.int (nI w), .int (nI b), .int (nI lm), .int (nI cm), .int (nI li), .int (nI ci), .ref a_disk, .int v_isDown, .int v_isArmed, .int v_armedWrites, .int v_armedWords, .int v_writes, .ref a_kind, .ref a_many, .ref a_block, .ref a_keys, .ref a_vals, .ref a_isFresh, .ref a_kindWas, .ref a_manyWas, .ref a_blockWas, .ref a_keysWas, .ref a_valsWas, .ref a_freshWas, .int v_root, .int v_rootWas, .int v_latest, .int v_epoch, .ref a_reached, .ref a_oldKeys, .ref a_oldVals, .ref a_allKeys, .ref a_allVals, .int v_oldMany, .int v_allMany, .ref a_row, .ref a_written, .int v_writtenMany, .ref a_path, .ref a_place, .int v_depth, .ref a_freeRow, .int v_isOther, .int v_moved, .ref a_bothKeys, .ref a_bothVals, .int v_leafDepth, .int v_found, .int v_lastKey, .int v_hasLast])), (a_many, .inl (cI, 140, .inl mm)), (a_keys, .inl (cI, 3360, .inl ks))] → va_S A s.heap H locs → lv_has ls 4 [(0, .ref h0), (1, .int (nI x0)), (2, .int p1), (3, .int (nI i))] → W p l e (headSpec v_X9_indexIn ({ frames := 0, cells := 0, slots := 0, locals := 0 } : Room)).room s m ([.ref h0, .int (nI x0), .int p1] : List Value).toArray below meth c H locs 0 0 Q (F0 m 2 ls [])) ?_ (fun loop_2 => ?_)
  · intro nf
    induction nf with
    | zero =>
      intro i H locs ls h1 h2
      exact absurd h2 (by omega)
    | succ nf ih_2 =>
      intro i H locs ls hi hn hP hD hS hl
      refine lv_iload_n hx hb dX9_indexIn_2 rfl (lv_at hl 3 rfl) ?_
      refine lv_aload_n hx hb dX9_indexIn_3 rfl (lv_at hl 0 rfl) ?_
      refine va_get (D := (dC, dI)) (ci := 9) (v := .ref a_many) (C := RX9) (T := TX9) (N := 50) hx hb hts k_1 hown hK hP 0 rfl rfl 13 (by decide) k_2 (fun _ h9 => h9) rfl dX9_indexIn_4 ?_
      refine lv_iload_n hx hb dX9_indexIn_7 rfl (lv_at hl 1 rfl) ?_
      refine va_iald hx hb hK hP 1 0 rfl rfl (show vp_in (nI x0) 140 from vp_in_nI (by omega) (by omega)) dX9_indexIn_8 ?_
      refine lv_topi (fun z_1 ez_1 => ?_)
      obtain rfl : z_1 = nI n0 := ez_1.trans ((congrArg mm (nI_clamp (by omega))).trans (hm0))
      refine lv_icmp_ge (tgt := 33) hx hb dX9_indexIn_9 (by decide) (fun c_2 => ?_) (fun c_2 => ?_)
      · have n_c_2 : n0 ≤ i := (nI_leI (a := n0) (b := i) (by omega) (by omega)).mp c_2
        refine lv_iload_n hx hb dX9_indexIn_33 rfl (lv_at hl 3 rfl) ?_
        have hP9 := hP.sub (ws' := [(h0, .inr (9, [.int (nI w), .int (nI b), .int (nI lm), .int (nI cm), .int (nI li), .int (nI ci), .ref a_disk, .int v_isDown, .int v_isArmed, .int v_armedWrites, .int v_armedWords, .int v_writes, .ref a_kind, .ref a_many, .ref a_block, .ref a_keys, .ref a_vals, .ref a_isFresh, .ref a_kindWas, .ref a_manyWas, .ref a_blockWas, .ref a_keysWas, .ref a_valsWas, .ref a_freshWas, .int v_root, .int v_rootWas, .int v_latest, .int v_epoch, .ref a_reached, .ref a_oldKeys, .ref a_oldVals, .ref a_allKeys, .ref a_allVals, .int v_oldMany, .int v_allMany, .ref a_row, .ref a_written, .int v_writtenMany, .ref a_path, .ref a_place, .int v_depth, .ref a_freeRow, .int v_isOther, .int v_moved, .ref a_bothKeys, .ref a_bothVals, .int v_leafDepth, .int v_found, .int v_lastKey, .int v_hasLast])), (a_many, .inl (cI, 140, .inl mm)), (a_keys, .inl (cI, 3360, .inl ks))]) [0, 1, 2] rfl
        have hD9 := hD.sub (ws' := [(h0, .inr (9, [.int (nI w), .int (nI b), .int (nI lm), .int (nI cm), .int (nI li), .int (nI ci), .ref a_disk, .int v_isDown, .int v_isArmed, .int v_armedWrites, .int v_armedWords, .int v_writes, .ref a_kind, .ref a_many, .ref a_block, .ref a_keys, .ref a_vals, .ref a_isFresh, .ref a_kindWas, .ref a_manyWas, .ref a_blockWas, .ref a_keysWas, .ref a_valsWas, .ref a_freshWas, .int v_root, .int v_rootWas, .int v_latest, .int v_epoch, .ref a_reached, .ref a_oldKeys, .ref a_oldVals, .ref a_allKeys, .ref a_allVals, .int v_oldMany, .int v_allMany, .ref a_row, .ref a_written, .int v_writtenMany, .ref a_path, .ref a_place, .int v_depth, .ref a_freeRow, .int v_isOther, .int v_moved, .ref a_bothKeys, .ref a_bothVals, .int v_leafDepth, .int v_found, .int v_lastKey, .int v_hasLast])), (a_many, .inl (cI, 140, .inl mm)), (a_keys, .inl (cI, 3360, .inl ks))]) [0, 1, 2] (by decide) rfl
        have hK9 := hK.sub (tys' := [(cI, .int)]) [0] rfl
        exact W.iret (v := (nI i)) hx hb hr (fun t ht hW => ⟨⟨(nI i), (i), rfl, ⟨rfl, hi⟩, by rw [ht]; exact hP9, va_K.moved hW.alike hK9, hD9⟩, hS.F ht⟩) hS.2.2 dX9_indexIn_34
      · have n_c_2 : ¬ n0 ≤ i := fun h9 => c_2 ((nI_leI (a := n0) (b := i) (by omega) (by omega)).mpr h9)
        refine lv_aload_n hx hb dX9_indexIn_12 rfl (lv_at hl 0 rfl) ?_
        refine va_get (D := (dC, dI)) (ci := 9) (v := .ref a_keys) (C := RX9) (T := TX9) (N := 50) hx hb hts k_1 hown hK hP 0 rfl rfl 15 (by decide) k_3 (fun _ h9 => h9) rfl dX9_indexIn_13 ?_
        refine lv_bipush (v := 24) hx hb dX9_indexIn_16 (by decide) ?_
        refine lv_iload_n hx hb dX9_indexIn_18 rfl (lv_at hl 1 rfl) ?_
        refine lv_imul hx hb dX9_indexIn_19 ?_
        refine lv_topi (fun z_3 ez_3 => ?_)
        obtain rfl : z_3 = nI (24 * x0) := ez_3.trans (pk_mul 24 x0)
        refine lv_iload_n hx hb dX9_indexIn_20 rfl (lv_at hl 3 rfl) ?_
        refine lv_iadd hx hb dX9_indexIn_21 ?_
        refine lv_topi (fun z_4 ez_4 => ?_)
        obtain rfl : z_4 = nI (24 * x0 + i) := ez_4.trans (nI_add (24 * x0) i)
        refine va_iald hx hb hK hP 2 0 rfl rfl (show vp_in (nI (24 * x0 + i)) 3360 from vp_in_nI (by omega) (by omega)) dX9_indexIn_22 ?_
        refine lv_topi (fun z_5 ez_5 => ?_)
        obtain rfl : z_5 = ks (24 * x0 + i) := ez_5.trans (congrArg ks (nI_clamp (by omega)))
        refine lv_iload_n hx hb dX9_indexIn_23 rfl (lv_at hl 2 rfl) ?_
        refine lv_icmp_ge (tgt := 33) hx hb dX9_indexIn_24 (by decide) (fun c_6 => ?_) (fun c_6 => ?_)
        · refine lv_iload_n hx hb dX9_indexIn_33 rfl (lv_at hl 3 rfl) ?_
          have hP9 := hP.sub (ws' := [(h0, .inr (9, [.int (nI w), .int (nI b), .int (nI lm), .int (nI cm), .int (nI li), .int (nI ci), .ref a_disk, .int v_isDown, .int v_isArmed, .int v_armedWrites, .int v_armedWords, .int v_writes, .ref a_kind, .ref a_many, .ref a_block, .ref a_keys, .ref a_vals, .ref a_isFresh, .ref a_kindWas, .ref a_manyWas, .ref a_blockWas, .ref a_keysWas, .ref a_valsWas, .ref a_freshWas, .int v_root, .int v_rootWas, .int v_latest, .int v_epoch, .ref a_reached, .ref a_oldKeys, .ref a_oldVals, .ref a_allKeys, .ref a_allVals, .int v_oldMany, .int v_allMany, .ref a_row, .ref a_written, .int v_writtenMany, .ref a_path, .ref a_place, .int v_depth, .ref a_freeRow, .int v_isOther, .int v_moved, .ref a_bothKeys, .ref a_bothVals, .int v_leafDepth, .int v_found, .int v_lastKey, .int v_hasLast])), (a_many, .inl (cI, 140, .inl mm)), (a_keys, .inl (cI, 3360, .inl ks))]) [0, 1, 2] rfl
          have hD9 := hD.sub (ws' := [(h0, .inr (9, [.int (nI w), .int (nI b), .int (nI lm), .int (nI cm), .int (nI li), .int (nI ci), .ref a_disk, .int v_isDown, .int v_isArmed, .int v_armedWrites, .int v_armedWords, .int v_writes, .ref a_kind, .ref a_many, .ref a_block, .ref a_keys, .ref a_vals, .ref a_isFresh, .ref a_kindWas, .ref a_manyWas, .ref a_blockWas, .ref a_keysWas, .ref a_valsWas, .ref a_freshWas, .int v_root, .int v_rootWas, .int v_latest, .int v_epoch, .ref a_reached, .ref a_oldKeys, .ref a_oldVals, .ref a_allKeys, .ref a_allVals, .int v_oldMany, .int v_allMany, .ref a_row, .ref a_written, .int v_writtenMany, .ref a_path, .ref a_place, .int v_depth, .ref a_freeRow, .int v_isOther, .int v_moved, .ref a_bothKeys, .ref a_bothVals, .int v_leafDepth, .int v_found, .int v_lastKey, .int v_hasLast])), (a_many, .inl (cI, 140, .inl mm)), (a_keys, .inl (cI, 3360, .inl ks))]) [0, 1, 2] (by decide) rfl
          have hK9 := hK.sub (tys' := [(cI, .int)]) [0] rfl
          exact W.iret (v := (nI i)) hx hb hr (fun t ht hW => ⟨⟨(nI i), (i), rfl, ⟨rfl, hi⟩, by rw [ht]; exact hP9, va_K.moved hW.alike hK9, hD9⟩, hS.F ht⟩) hS.2.2 dX9_indexIn_34
        · refine lv_iinc (v := (nI (i + 1))) (lv' := [(3, .int (nI (i + 1))), (0, .ref h0), (1, .int (nI x0)), (2, .int p1)]) hx hb dX9_indexIn_27 hl (k := 3) rfl (nI_1 i) (by decide) rfl (fun ls hl => ?_)
          refine lv_goto (tgt := 2) hx hb dX9_indexIn_30 (by decide) ?_
          exact ih_2 (i + 1) _ _ _ (by omega) (by omega) hP hD hS (lv_sub hl [1, 2, 3, 0] rfl)
  exact loop_2 (n0 + 1) 0 _ _ _ (by omega) (by omega) hP hD hS (lv_sub hl [1, 2, 3, 0] rfl)
def v_X9_insert : List Cond := .code yX9_insert cX9_insert 6 none :: ([.fieldLink RX9 17 "TwinRootsModel" "many" "[I", .fieldLink RX9 23 "TwinRootsModel" "keys" "[I", .fieldLink RX9 26 "TwinRootsModel" "vals" "[I"] ++ (wsX90 ++ ([])))
set_option maxHeartbeats 4000000 in
set_option maxRecDepth 100000 in
/-- X9_insert -/
theorem c_X9_insert (l : Launch) (dC : Nat → ClassId) (dI : Nat → Nat → Nat) (sz : Nat) (h0 : Nat) (w : Nat) (b : Nat) (lm : Nat) (cm : Nat) (li : Nat) (ci : Nat) (a_disk : Nat) (a_kind : Nat) (a_many : Nat) (a_block : Nat) (a_keys : Nat) (a_vals : Nat) (a_isFresh : Nat) (a_kindWas : Nat) (a_manyWas : Nat) (a_blockWas : Nat) (a_keysWas : Nat) (a_valsWas : Nat) (a_freshWas : Nat) (a_reached : Nat) (a_oldKeys : Nat) (a_oldVals : Nat) (a_allKeys : Nat) (a_allVals : Nat) (a_row : Nat) (a_written : Nat) (a_path : Nat) (a_place : Nat) (a_freeRow : Nat) (a_bothKeys : Nat) (a_bothVals : Nat) (v_isDown : Int32) (v_isArmed : Int32) (v_armedWrites : Int32) (v_armedWords : Int32) (v_writes : Int32) (v_root : Int32) (v_rootWas : Int32) (v_latest : Int32) (v_epoch : Int32) (v_oldMany : Int32) (v_allMany : Int32) (v_writtenMany : Int32) (v_depth : Int32) (v_isOther : Int32) (v_moved : Int32) (v_leafDepth : Int32) (v_found : Int32) (v_lastKey : Int32) (v_hasLast : Int32) (cI : ClassId) (mm : Nat → Int32) (ks : Nat → Int32) (vl : Nat → Int32) (x0 : Nat) (i0 : Nat) (n0 : Nat) (p2 : Int32) (p3 : Int32) (hxx : x0 < 140) (hm0 : mm x0 = nI n0) (hi0 : i0 ≤ n0) (hn0 : n0 ≤ 22) : Met l yX9_insert v_X9_insert ({ frames := 0, cells := 0, slots := 0, locals := 0 } : Room) (va_Pc [.ref h0, .int (nI x0), .int (nI i0), .int p2, .int p3] (fun U => U.heap.size = sz ∧ va_P (dC, dI) vwCl [(h0, .inr (9, [.int (nI w), .int (nI b), .int (nI lm), .int (nI cm), .int (nI li), .int (nI ci), .ref a_disk, .int v_isDown, .int v_isArmed, .int v_armedWrites, .int v_armedWords, .int v_writes, .ref a_kind, .ref a_many, .ref a_block, .ref a_keys, .ref a_vals, .ref a_isFresh, .ref a_kindWas, .ref a_manyWas, .ref a_blockWas, .ref a_keysWas, .ref a_valsWas, .ref a_freshWas, .int v_root, .int v_rootWas, .int v_latest, .int v_epoch, .ref a_reached, .ref a_oldKeys, .ref a_oldVals, .ref a_allKeys, .ref a_allVals, .int v_oldMany, .int v_allMany, .ref a_row, .ref a_written, .int v_writtenMany, .ref a_path, .ref a_place, .int v_depth, .ref a_freeRow, .int v_isOther, .int v_moved, .ref a_bothKeys, .ref a_bothVals, .int v_leafDepth, .int v_found, .int v_lastKey, .int v_hasLast])), (a_many, .inl (cI, 140, .inl mm)), (a_keys, .inl (cI, 3360, .inl ks)), (a_vals, .inl (cI, 3360, .inl vl))] U.heap ∧ va_K (dC, dI) vwCl [(cI, .int)] U ∧ va_D (fun _ => True) [(h0, .inr (9, [.int (nI w), .int (nI b), .int (nI lm), .int (nI cm), .int (nI li), .int (nI ci), .ref a_disk, .int v_isDown, .int v_isArmed, .int v_armedWrites, .int v_armedWords, .int v_writes, .ref a_kind, .ref a_many, .ref a_block, .ref a_keys, .ref a_vals, .ref a_isFresh, .ref a_kindWas, .ref a_manyWas, .ref a_blockWas, .ref a_keysWas, .ref a_valsWas, .ref a_freshWas, .int v_root, .int v_rootWas, .int v_latest, .int v_epoch, .ref a_reached, .ref a_oldKeys, .ref a_oldVals, .ref a_allKeys, .ref a_allVals, .int v_oldMany, .int v_allMany, .ref a_row, .ref a_written, .int v_writtenMany, .ref a_path, .ref a_place, .int v_depth, .ref a_freeRow, .int v_isOther, .int v_moved, .ref a_bothKeys, .ref a_bothVals, .int v_leafDepth, .int v_found, .int v_lastKey, .int v_hasLast])), (a_many, .inl (cI, 140, .inl mm)), (a_keys, .inl (cI, 3360, .inl ks)), (a_vals, .inl (cI, 3360, .inl vl))])) (va_Qv (fun (u : (Nat → Int32) × (Nat → Int32) × (Nat → Int32)) => match u with | (mm2, ks2, vl2) => InsR mm vl mm2 vl2 x0 i0 n0 p3) (fun (u : (Nat → Int32) × (Nat → Int32) × (Nat → Int32)) (t : State) => match u with | (mm2, ks2, vl2) => va_P (dC, dI) vwCl [(h0, .inr (9, [.int (nI w), .int (nI b), .int (nI lm), .int (nI cm), .int (nI li), .int (nI ci), .ref a_disk, .int v_isDown, .int v_isArmed, .int v_armedWrites, .int v_armedWords, .int v_writes, .ref a_kind, .ref a_many, .ref a_block, .ref a_keys, .ref a_vals, .ref a_isFresh, .ref a_kindWas, .ref a_manyWas, .ref a_blockWas, .ref a_keysWas, .ref a_valsWas, .ref a_freshWas, .int v_root, .int v_rootWas, .int v_latest, .int v_epoch, .ref a_reached, .ref a_oldKeys, .ref a_oldVals, .ref a_allKeys, .ref a_allVals, .int v_oldMany, .int v_allMany, .ref a_row, .ref a_written, .int v_writtenMany, .ref a_path, .ref a_place, .int v_depth, .ref a_freeRow, .int v_isOther, .int v_moved, .ref a_bothKeys, .ref a_bothVals, .int v_leafDepth, .int v_found, .int v_lastKey, .int v_hasLast])), (a_many, .inl (cI, 140, .inl mm2)), (a_keys, .inl (cI, 3360, .inl ks2)), (a_vals, .inl (cI, 3360, .inl vl2))] t.heap ∧ va_K (dC, dI) vwCl [(cI, .int)] t ∧ va_D (va_A [(h0, .inr (9, [.int (nI w), .int (nI b), .int (nI lm), .int (nI cm), .int (nI li), .int (nI ci), .ref a_disk, .int v_isDown, .int v_isArmed, .int v_armedWrites, .int v_armedWords, .int v_writes, .ref a_kind, .ref a_many, .ref a_block, .ref a_keys, .ref a_vals, .ref a_isFresh, .ref a_kindWas, .ref a_manyWas, .ref a_blockWas, .ref a_keysWas, .ref a_valsWas, .ref a_freshWas, .int v_root, .int v_rootWas, .int v_latest, .int v_epoch, .ref a_reached, .ref a_oldKeys, .ref a_oldVals, .ref a_allKeys, .ref a_allVals, .int v_oldMany, .int v_allMany, .ref a_row, .ref a_written, .int v_writtenMany, .ref a_path, .ref a_place, .int v_depth, .ref a_freeRow, .int v_isOther, .int v_moved, .ref a_bothKeys, .ref a_bothVals, .int v_leafDepth, .int v_found, .int v_lastKey, .int v_hasLast])), (a_many, .inl (cI, 140, .inl mm)), (a_keys, .inl (cI, 3360, .inl ks)), (a_vals, .inl (cI, 3360, .inl vl))] sz) [(h0, .inr (9, [.int (nI w), .int (nI b), .int (nI lm), .int (nI cm), .int (nI li), .int (nI ci), .ref a_disk, .int v_isDown, .int v_isArmed, .int v_armedWrites, .int v_armedWords, .int v_writes, .ref a_kind, .ref a_many, .ref a_block, .ref a_keys, .ref a_vals, .ref a_isFresh, .ref a_kindWas, .ref a_manyWas, .ref a_blockWas, .ref a_keysWas, .ref a_valsWas, .ref a_freshWas, .int v_root, .int v_rootWas, .int v_latest, .int v_epoch, .ref a_reached, .ref a_oldKeys, .ref a_oldVals, .ref a_allKeys, .ref a_allVals, .int v_oldMany, .int v_allMany, .ref a_row, .ref a_written, .int v_writtenMany, .ref a_path, .ref a_place, .int v_depth, .ref a_freeRow, .int v_isOther, .int v_moved, .ref a_bothKeys, .ref a_bothVals, .int v_leafDepth, .int v_found, .int v_lastKey, .int v_hasLast])), (a_many, .inl (cI, 140, .inl mm2)), (a_keys, .inl (cI, 3360, .inl ks2)), (a_vals, .inl (cI, 3360, .inl vl2))]) (va_A [(h0, .inr (9, [.int (nI w), .int (nI b), .int (nI lm), .int (nI cm), .int (nI li), .int (nI ci), .ref a_disk, .int v_isDown, .int v_isArmed, .int v_armedWrites, .int v_armedWords, .int v_writes, .ref a_kind, .ref a_many, .ref a_block, .ref a_keys, .ref a_vals, .ref a_isFresh, .ref a_kindWas, .ref a_manyWas, .ref a_blockWas, .ref a_keysWas, .ref a_valsWas, .ref a_freshWas, .int v_root, .int v_rootWas, .int v_latest, .int v_epoch, .ref a_reached, .ref a_oldKeys, .ref a_oldVals, .ref a_allKeys, .ref a_allVals, .int v_oldMany, .int v_allMany, .ref a_row, .ref a_written, .int v_writtenMany, .ref a_path, .ref a_place, .int v_depth, .ref a_freeRow, .int v_isOther, .int v_moved, .ref a_bothKeys, .ref a_bothVals, .int v_leafDepth, .int v_found, .int v_lastKey, .int v_hasLast])), (a_many, .inl (cI, 140, .inl mm)), (a_keys, .inl (cI, 3360, .inl ks)), (a_vals, .inl (cI, 3360, .inl vl))] sz)) 0 0 (va_A [(h0, .inr (9, [.int (nI w), .int (nI b), .int (nI lm), .int (nI cm), .int (nI li), .int (nI ci), .ref a_disk, .int v_isDown, .int v_isArmed, .int v_armedWrites, .int v_armedWords, .int v_writes, .ref a_kind, .ref a_many, .ref a_block, .ref a_keys, .ref a_vals, .ref a_isFresh, .ref a_kindWas, .ref a_manyWas, .ref a_blockWas, .ref a_keysWas, .ref a_valsWas, .ref a_freshWas, .int v_root, .int v_rootWas, .int v_latest, .int v_epoch, .ref a_reached, .ref a_oldKeys, .ref a_oldVals, .ref a_allKeys, .ref a_allVals, .int v_oldMany, .int v_allMany, .ref a_row, .ref a_written, .int v_writtenMany, .ref a_path, .ref a_place, .int v_depth, .ref a_freeRow, .int v_isOther, .int v_moved, .ref a_bothKeys, .ref a_bothVals, .int v_leafDepth, .int v_found, .int v_lastKey, .int v_hasLast])), (a_many, .inl (cI, 140, .inl mm)), (a_keys, .inl (cI, 3360, .inl ks)), (a_vals, .inl (cI, 3360, .inl vl))] sz) := by
  refine Met.ofW (cc := cX9_insert) (maxL := 6) (ret := none) (by decide) rfl ?_
  intro p e s m args below meth c s₁ B hml hv
  obtain ⟨rfl, hsz, hP, hK, hD0⟩ := hv
  have hx := B.exec
  have hb := B.bytes
  have hr := B.returns
  have hts := atoms_spec (ws := v_X9_insert) B.pre
  have hown : s.vm.findClass RX9 = some m.cls := findClass_of_methodNamed B.named
  have hlocks := B.notSynchronized
  subst hsz
  have hD := hD0.self (sz := s.heap.size)
  generalize hAe : va_A [(h0, .inr (9, [.int (nI w), .int (nI b), .int (nI lm), .int (nI cm), .int (nI li), .int (nI ci), .ref a_disk, .int v_isDown, .int v_isArmed, .int v_armedWrites, .int v_armedWords, .int v_writes, .ref a_kind, .ref a_many, .ref a_block, .ref a_keys, .ref a_vals, .ref a_isFresh, .ref a_kindWas, .ref a_manyWas, .ref a_blockWas, .ref a_keysWas, .ref a_valsWas, .ref a_freshWas, .int v_root, .int v_rootWas, .int v_latest, .int v_epoch, .ref a_reached, .ref a_oldKeys, .ref a_oldVals, .ref a_allKeys, .ref a_allVals, .int v_oldMany, .int v_allMany, .ref a_row, .ref a_written, .int v_writtenMany, .ref a_path, .ref a_place, .int v_depth, .ref a_freeRow, .int v_isOther, .int v_moved, .ref a_bothKeys, .ref a_bothVals, .int v_leafDepth, .int v_found, .int v_lastKey, .int v_hasLast])), (a_many, .inl (cI, 140, .inl mm)), (a_keys, .inl (cI, 3360, .inl ks)), (a_vals, .inl (cI, 3360, .inl vl))] s.heap.size = A at hD ⊢
  have hA : ∀ q : Nat, s.heap.size ≤ q → A q := fun q h => by rw [← hAe]; exact Or.inr h
  have hS : va_S A s.heap s.heap [] := va_S.rf
  have hP : va_P (dC, dI) vwCl [(h0, .inr (9, [.int (nI w), .int (nI b), .int (nI lm), .int (nI cm), .int (nI li), .int (nI ci), .ref a_disk, .int v_isDown, .int v_isArmed, .int v_armedWrites, .int v_armedWords, .int v_writes, .ref a_kind, .ref a_many, .ref a_block, .ref a_keys, .ref a_vals, .ref a_isFresh, .ref a_kindWas, .ref a_manyWas, .ref a_blockWas, .ref a_keysWas, .ref a_valsWas, .ref a_freshWas, .int v_root, .int v_rootWas, .int v_latest, .int v_epoch, .ref a_reached, .ref a_oldKeys, .ref a_oldVals, .ref a_allKeys, .ref a_allVals, .int v_oldMany, .int v_allMany, .ref a_row, .ref a_written, .int v_writtenMany, .ref a_path, .ref a_place, .int v_depth, .ref a_freeRow, .int v_isOther, .int v_moved, .ref a_bothKeys, .ref a_bothVals, .int v_leafDepth, .int v_found, .int v_lastKey, .int v_hasLast])), (a_many, .inl (cI, 140, .inl mm)), (a_keys, .inl (cI, 3360, .inl ks)), (a_vals, .inl (cI, 3360, .inl vl))] s.heap := hP
  have hl := lv_entry ([.ref h0, .int (nI x0), .int (nI i0), .int p2, .int p3]) (n := 6) (Nat.le_of_ble_eq_true rfl)
  rw [lg_entry_eq]
  generalize (lg_sl ([.ref h0, .int (nI x0), .int (nI i0), .int p2, .int p3]) ++ List.replicate (6 - (lg_sl ([.ref h0, .int (nI x0), .int (nI i0), .int p2, .int p3])).length) Slot.unset).toArray = ls at hl ⊢
  have hl : lv_has ls 6 [(0, .ref h0), (1, .int (nI x0)), (2, .int (nI i0)), (3, .int p2), (4, .int p3)] := hl
  have k_1 := (fun _ h => List.mem_cons_of_mem _ (List.mem_append_right _ (List.mem_append_left _ h)) : ∀ w ∈ wsX90, w ∈ v_X9_insert)
  have k_2 := hts (.fieldLink RX9 17 "TwinRootsModel" "many" "[I") (List.mem_of_getElem? (i := 1) rfl)
  have k_3 := hts (.fieldLink RX9 23 "TwinRootsModel" "keys" "[I") (List.mem_of_getElem? (i := 2) rfl)
  have k_4 := hts (.fieldLink RX9 26 "TwinRootsModel" "vals" "[I") (List.mem_of_getElem? (i := 3) rfl)
  refine lv_aload_n hx hb dX9_insert_0 rfl (lv_at hl 0 rfl) ?_
  refine va_get (D := (dC, dI)) (ci := 9) (v := .ref a_many) (C := RX9) (T := TX9) (N := 50) hx hb hts k_1 hown hK hP 0 rfl rfl 13 (by decide) k_2 (fun _ h9 => h9) rfl dX9_insert_1 ?_
  refine lv_iload_n hx hb dX9_insert_4 rfl (lv_at hl 1 rfl) ?_
  refine va_iald hx hb hK hP 1 0 rfl rfl (show vp_in (nI x0) 140 from vp_in_nI (by omega) (by omega)) dX9_insert_5 ?_
  refine lv_topi (fun z_1 ez_1 => ?_)
  obtain rfl : z_1 = nI n0 := ez_1.trans ((congrArg mm (nI_clamp (by omega))).trans (hm0))
  refine lv_istore (lv' := [(5, .int (nI n0)), (0, .ref h0), (1, .int (nI x0)), (2, .int (nI i0)), (3, .int p2), (4, .int p3)]) hx hb dX9_insert_6 hl (by decide) rfl (fun ls hl => ?_)
  refine jn_cut (P := fun Q => ∀ (nf i : Nat) (jn : Nat) (kv : Nat → Int32) (vv : Nat → Int32) (H : Heap) (locs : List Loc) (ls : Array Slot), i ≤ n0 → n0 + 1 ≤ i + nf → (jn + i = n0) → (i0 ≤ jn) → (InsF vl vv x0 jn n0) → va_P (dC, dI) vwCl [(h0, .inr (9, [.int (nI w), .int (nI b), .int (nI lm), .int (nI cm), .int (nI li), .int (nI ci), .ref a_disk, .int v_isDown, .int v_isArmed, .int v_armedWrites, .int v_armedWords, .int v_writes, .ref a_kind, .ref a_many, .ref a_block, .ref a_keys, .ref a_vals, .ref a_isFresh, .ref a_kindWas, .ref a_manyWas, .ref a_blockWas, .ref a_keysWas, .ref a_valsWas, .ref a_freshWas, .int v_root, .int v_rootWas, .int v_latest, .int v_epoch, .ref a_reached, .ref a_oldKeys, .ref a_oldVals, .ref a_allKeys, .ref a_allVals, .int v_oldMany, .int v_allMany, .ref a_row, .ref a_written, .int v_writtenMany, .ref a_path, .ref a_place, .int v_depth, .ref a_freeRow, .int v_isOther, .int v_moved, .ref a_bothKeys, .ref a_bothVals, .int v_leafDepth, .int v_found, .int v_lastKey, .int v_hasLast])), (a_many, .inl (cI, 140, .inl mm)), (a_keys, .inl (cI, 3360, .inl kv)), (a_vals, .inl (cI, 3360, .inl vv))] H → va_D A [(h0, .inr (9, [.int (nI w), .int (nI b), .int (nI lm), .int (nI cm), .int (nI li), .int (nI ci), .ref a_disk, .int v_isDown, .int v_isArmed, .int v_armedWrites, .int v_armedWords, .int v_writes, .ref a_kind, .ref a_many, .ref a_block, .ref a_keys, .ref a_vals, .ref a_isFresh, .ref a_kindWas, .ref a_manyWas, .ref a_blockWas, .ref a_keysWas, .ref a_valsWas, .ref a_freshWas, .int v_root, .int v_rootWas, .int v_latest, .int v_epoch, .ref a_reached, .ref a_oldKeys, .ref a_oldVals, .ref a_allKeys, .ref a_allVals, .int v_oldMany, .int v_allMany, .ref a_row, .ref a_written, .int v_writtenMany, .ref a_path, .ref a_place, .int v_depth, .ref a_freeRow, .int v_isOther, .int v_moved, .ref a_bothKeys, .ref a_bothVals, .int v_leafDepth, .int v_found, .int v_lastKey, .int v_hasLast])), (a_many, .inl (cI, 140, .inl mm)), (a_keys, .inl (cI, 3360, .inl kv)), (a_vals, .inl (cI, 3360, .inl vv))] → va_S A s.heap H locs → lv_has ls 6 [(0, .ref h0), (1, .int (nI x0)), (2, .int (nI i0)), (3, .int p2), (4, .int p3), (5, .int (nI jn))] → W p l e (headSpec v_X9_insert ({ frames := 0, cells := 0, slots := 0, locals := 0 } : Room)).room s m ([.ref h0, .int (nI x0), .int (nI i0), .int p2, .int p3] : List Value).toArray below meth c H locs 0 0 Q (F0 m 8 ls [])) ?_ (fun loop_8 => ?_)
  · intro nf
    induction nf with
    | zero =>
      intro i jn kv vv H locs ls h1 h2
      exact absurd h2 (by omega)
    | succ nf ih_8 =>
      intro i jn kv vv H locs ls hi hn hjn hjp hF hP hD hS hl
      refine lv_iload hx hb dX9_insert_8 (lv_at hl 5 rfl) ?_
      refine lv_iload_n hx hb dX9_insert_10 rfl (lv_at hl 2 rfl) ?_
      refine lv_icmp_le (tgt := 72) hx hb dX9_insert_11 (by decide) (fun c_2 => ?_) (fun c_2 => ?_)
      · have n_c_2 : jn ≤ i0 := (nI_leI (a := jn) (b := i0) (by omega) (by omega)).mp c_2
        refine lv_aload_n hx hb dX9_insert_72 rfl (lv_at hl 0 rfl) ?_
        refine va_get (D := (dC, dI)) (ci := 9) (v := .ref a_keys) (C := RX9) (T := TX9) (N := 50) hx hb hts k_1 hown hK hP 0 rfl rfl 15 (by decide) k_3 (fun _ h9 => h9) rfl dX9_insert_73 ?_
        refine lv_bipush (v := 24) hx hb dX9_insert_76 (by decide) ?_
        refine lv_iload_n hx hb dX9_insert_78 rfl (lv_at hl 1 rfl) ?_
        refine lv_imul hx hb dX9_insert_79 ?_
        refine lv_topi (fun z_3 ez_3 => ?_)
        obtain rfl : z_3 = nI (24 * x0) := ez_3.trans (pk_mul 24 x0)
        refine lv_iload_n hx hb dX9_insert_80 rfl (lv_at hl 2 rfl) ?_
        refine lv_iadd hx hb dX9_insert_81 ?_
        refine lv_topi (fun z_4 ez_4 => ?_)
        obtain rfl : z_4 = nI (24 * x0 + i0) := ez_4.trans (nI_add (24 * x0) i0)
        refine lv_iload_n hx hb dX9_insert_82 rfl (lv_at hl 3 rfl) ?_
        refine va_iast hx hb hK hP hD hS 2 0 rfl rfl (show vp_in (nI (24 * x0 + i0)) 3360 from vp_in_nI (by omega) (by omega)) dX9_insert_83 (fun H locs hP hD hS => ?_)
        have hP : va_P (dC, dI) vwCl [(h0, .inr (9, [.int (nI w), .int (nI b), .int (nI lm), .int (nI cm), .int (nI li), .int (nI ci), .ref a_disk, .int v_isDown, .int v_isArmed, .int v_armedWrites, .int v_armedWords, .int v_writes, .ref a_kind, .ref a_many, .ref a_block, .ref a_keys, .ref a_vals, .ref a_isFresh, .ref a_kindWas, .ref a_manyWas, .ref a_blockWas, .ref a_keysWas, .ref a_valsWas, .ref a_freshWas, .int v_root, .int v_rootWas, .int v_latest, .int v_epoch, .ref a_reached, .ref a_oldKeys, .ref a_oldVals, .ref a_allKeys, .ref a_allVals, .int v_oldMany, .int v_allMany, .ref a_row, .ref a_written, .int v_writtenMany, .ref a_path, .ref a_place, .int v_depth, .ref a_freeRow, .int v_isOther, .int v_moved, .ref a_bothKeys, .ref a_bothVals, .int v_leafDepth, .int v_found, .int v_lastKey, .int v_hasLast])), (a_many, .inl (cI, 140, .inl mm)), (a_keys, .inl (cI, 3360, .inl (upd kv ((nI (24 * x0 + i0)).toNatClampNeg) p2))), (a_vals, .inl (cI, 3360, .inl vv))] H := hP
        have hD : va_D A [(h0, .inr (9, [.int (nI w), .int (nI b), .int (nI lm), .int (nI cm), .int (nI li), .int (nI ci), .ref a_disk, .int v_isDown, .int v_isArmed, .int v_armedWrites, .int v_armedWords, .int v_writes, .ref a_kind, .ref a_many, .ref a_block, .ref a_keys, .ref a_vals, .ref a_isFresh, .ref a_kindWas, .ref a_manyWas, .ref a_blockWas, .ref a_keysWas, .ref a_valsWas, .ref a_freshWas, .int v_root, .int v_rootWas, .int v_latest, .int v_epoch, .ref a_reached, .ref a_oldKeys, .ref a_oldVals, .ref a_allKeys, .ref a_allVals, .int v_oldMany, .int v_allMany, .ref a_row, .ref a_written, .int v_writtenMany, .ref a_path, .ref a_place, .int v_depth, .ref a_freeRow, .int v_isOther, .int v_moved, .ref a_bothKeys, .ref a_bothVals, .int v_leafDepth, .int v_found, .int v_lastKey, .int v_hasLast])), (a_many, .inl (cI, 140, .inl mm)), (a_keys, .inl (cI, 3360, .inl (upd kv ((nI (24 * x0 + i0)).toNatClampNeg) p2))), (a_vals, .inl (cI, 3360, .inl vv))] := hD
        rw [show (nI (24 * x0 + i0)).toNatClampNeg = 24 * x0 + i0 from nI_clamp (by omega)] at hP hD
        obtain ⟨f_5, ef_5⟩ : ∃ g9, g9 = upd kv (24 * x0 + i0) p2 := ⟨_, rfl⟩
        rw [← ef_5] at hP hD
        refine lv_aload_n hx hb dX9_insert_84 rfl (lv_at hl 0 rfl) ?_
        refine va_get (D := (dC, dI)) (ci := 9) (v := .ref a_vals) (C := RX9) (T := TX9) (N := 50) hx hb hts k_1 hown hK hP 0 rfl rfl 16 (by decide) k_4 (fun _ h9 => h9) rfl dX9_insert_85 ?_
        refine lv_bipush (v := 24) hx hb dX9_insert_88 (by decide) ?_
        refine lv_iload_n hx hb dX9_insert_90 rfl (lv_at hl 1 rfl) ?_
        refine lv_imul hx hb dX9_insert_91 ?_
        refine lv_topi (fun z_6 ez_6 => ?_)
        obtain rfl : z_6 = nI (24 * x0) := ez_6.trans (pk_mul 24 x0)
        refine lv_iload_n hx hb dX9_insert_92 rfl (lv_at hl 2 rfl) ?_
        refine lv_iadd hx hb dX9_insert_93 ?_
        refine lv_topi (fun z_7 ez_7 => ?_)
        obtain rfl : z_7 = nI (24 * x0 + i0) := ez_7.trans (nI_add (24 * x0) i0)
        refine lv_iload hx hb dX9_insert_94 (lv_at hl 4 rfl) ?_
        refine va_iast hx hb hK hP hD hS 3 0 rfl rfl (show vp_in (nI (24 * x0 + i0)) 3360 from vp_in_nI (by omega) (by omega)) dX9_insert_96 (fun H locs hP hD hS => ?_)
        have hP : va_P (dC, dI) vwCl [(h0, .inr (9, [.int (nI w), .int (nI b), .int (nI lm), .int (nI cm), .int (nI li), .int (nI ci), .ref a_disk, .int v_isDown, .int v_isArmed, .int v_armedWrites, .int v_armedWords, .int v_writes, .ref a_kind, .ref a_many, .ref a_block, .ref a_keys, .ref a_vals, .ref a_isFresh, .ref a_kindWas, .ref a_manyWas, .ref a_blockWas, .ref a_keysWas, .ref a_valsWas, .ref a_freshWas, .int v_root, .int v_rootWas, .int v_latest, .int v_epoch, .ref a_reached, .ref a_oldKeys, .ref a_oldVals, .ref a_allKeys, .ref a_allVals, .int v_oldMany, .int v_allMany, .ref a_row, .ref a_written, .int v_writtenMany, .ref a_path, .ref a_place, .int v_depth, .ref a_freeRow, .int v_isOther, .int v_moved, .ref a_bothKeys, .ref a_bothVals, .int v_leafDepth, .int v_found, .int v_lastKey, .int v_hasLast])), (a_many, .inl (cI, 140, .inl mm)), (a_keys, .inl (cI, 3360, .inl f_5)), (a_vals, .inl (cI, 3360, .inl (upd vv ((nI (24 * x0 + i0)).toNatClampNeg) p3)))] H := hP
        have hD : va_D A [(h0, .inr (9, [.int (nI w), .int (nI b), .int (nI lm), .int (nI cm), .int (nI li), .int (nI ci), .ref a_disk, .int v_isDown, .int v_isArmed, .int v_armedWrites, .int v_armedWords, .int v_writes, .ref a_kind, .ref a_many, .ref a_block, .ref a_keys, .ref a_vals, .ref a_isFresh, .ref a_kindWas, .ref a_manyWas, .ref a_blockWas, .ref a_keysWas, .ref a_valsWas, .ref a_freshWas, .int v_root, .int v_rootWas, .int v_latest, .int v_epoch, .ref a_reached, .ref a_oldKeys, .ref a_oldVals, .ref a_allKeys, .ref a_allVals, .int v_oldMany, .int v_allMany, .ref a_row, .ref a_written, .int v_writtenMany, .ref a_path, .ref a_place, .int v_depth, .ref a_freeRow, .int v_isOther, .int v_moved, .ref a_bothKeys, .ref a_bothVals, .int v_leafDepth, .int v_found, .int v_lastKey, .int v_hasLast])), (a_many, .inl (cI, 140, .inl mm)), (a_keys, .inl (cI, 3360, .inl f_5)), (a_vals, .inl (cI, 3360, .inl (upd vv ((nI (24 * x0 + i0)).toNatClampNeg) p3)))] := hD
        rw [show (nI (24 * x0 + i0)).toNatClampNeg = 24 * x0 + i0 from nI_clamp (by omega)] at hP hD
        obtain ⟨f_8, ef_8⟩ : ∃ g9, g9 = upd vv (24 * x0 + i0) p3 := ⟨_, rfl⟩
        rw [← ef_8] at hP hD
        refine lv_aload_n hx hb dX9_insert_97 rfl (lv_at hl 0 rfl) ?_
        refine va_get (D := (dC, dI)) (ci := 9) (v := .ref a_many) (C := RX9) (T := TX9) (N := 50) hx hb hts k_1 hown hK hP 0 rfl rfl 13 (by decide) k_2 (fun _ h9 => h9) rfl dX9_insert_98 ?_
        refine lv_iload_n hx hb dX9_insert_101 rfl (lv_at hl 1 rfl) ?_
        refine lv_dup2_11 hx hb dX9_insert_102 rfl rfl ?_
        refine va_iald hx hb hK hP 1 0 rfl rfl (show vp_in (nI x0) 140 from vp_in_nI (by omega) (by omega)) dX9_insert_103 ?_
        refine lv_topi (fun z_9 ez_9 => ?_)
        obtain rfl : z_9 = nI n0 := ez_9.trans ((congrArg mm (nI_clamp (by omega))).trans (hm0))
        refine lv_iconst (v := 1) hx hb dX9_insert_104 (by decide) ?_
        refine lv_iadd hx hb dX9_insert_105 ?_
        refine lv_topi (fun z_10 ez_10 => ?_)
        obtain rfl : z_10 = nI (n0 + 1) := ez_10.trans (nI_add n0 1)
        refine va_iast hx hb hK hP hD hS 1 0 rfl rfl (show vp_in (nI x0) 140 from vp_in_nI (by omega) (by omega)) dX9_insert_106 (fun H locs hP hD hS => ?_)
        have hP : va_P (dC, dI) vwCl [(h0, .inr (9, [.int (nI w), .int (nI b), .int (nI lm), .int (nI cm), .int (nI li), .int (nI ci), .ref a_disk, .int v_isDown, .int v_isArmed, .int v_armedWrites, .int v_armedWords, .int v_writes, .ref a_kind, .ref a_many, .ref a_block, .ref a_keys, .ref a_vals, .ref a_isFresh, .ref a_kindWas, .ref a_manyWas, .ref a_blockWas, .ref a_keysWas, .ref a_valsWas, .ref a_freshWas, .int v_root, .int v_rootWas, .int v_latest, .int v_epoch, .ref a_reached, .ref a_oldKeys, .ref a_oldVals, .ref a_allKeys, .ref a_allVals, .int v_oldMany, .int v_allMany, .ref a_row, .ref a_written, .int v_writtenMany, .ref a_path, .ref a_place, .int v_depth, .ref a_freeRow, .int v_isOther, .int v_moved, .ref a_bothKeys, .ref a_bothVals, .int v_leafDepth, .int v_found, .int v_lastKey, .int v_hasLast])), (a_many, .inl (cI, 140, .inl (upd mm ((nI x0).toNatClampNeg) (nI (n0 + 1))))), (a_keys, .inl (cI, 3360, .inl f_5)), (a_vals, .inl (cI, 3360, .inl f_8))] H := hP
        have hD : va_D A [(h0, .inr (9, [.int (nI w), .int (nI b), .int (nI lm), .int (nI cm), .int (nI li), .int (nI ci), .ref a_disk, .int v_isDown, .int v_isArmed, .int v_armedWrites, .int v_armedWords, .int v_writes, .ref a_kind, .ref a_many, .ref a_block, .ref a_keys, .ref a_vals, .ref a_isFresh, .ref a_kindWas, .ref a_manyWas, .ref a_blockWas, .ref a_keysWas, .ref a_valsWas, .ref a_freshWas, .int v_root, .int v_rootWas, .int v_latest, .int v_epoch, .ref a_reached, .ref a_oldKeys, .ref a_oldVals, .ref a_allKeys, .ref a_allVals, .int v_oldMany, .int v_allMany, .ref a_row, .ref a_written, .int v_writtenMany, .ref a_path, .ref a_place, .int v_depth, .ref a_freeRow, .int v_isOther, .int v_moved, .ref a_bothKeys, .ref a_bothVals, .int v_leafDepth, .int v_found, .int v_lastKey, .int v_hasLast])), (a_many, .inl (cI, 140, .inl (upd mm ((nI x0).toNatClampNeg) (nI (n0 + 1))))), (a_keys, .inl (cI, 3360, .inl f_5)), (a_vals, .inl (cI, 3360, .inl f_8))] := hD
        rw [show (nI x0).toNatClampNeg = x0 from nI_clamp (by omega)] at hP hD
        obtain ⟨f_11, ef_11⟩ : ∃ g9, g9 = upd mm x0 (nI (n0 + 1)) := ⟨_, rfl⟩
        rw [← ef_11] at hP hD
        have hP9 := hP.sub (ws' := [(h0, .inr (9, [.int (nI w), .int (nI b), .int (nI lm), .int (nI cm), .int (nI li), .int (nI ci), .ref a_disk, .int v_isDown, .int v_isArmed, .int v_armedWrites, .int v_armedWords, .int v_writes, .ref a_kind, .ref a_many, .ref a_block, .ref a_keys, .ref a_vals, .ref a_isFresh, .ref a_kindWas, .ref a_manyWas, .ref a_blockWas, .ref a_keysWas, .ref a_valsWas, .ref a_freshWas, .int v_root, .int v_rootWas, .int v_latest, .int v_epoch, .ref a_reached, .ref a_oldKeys, .ref a_oldVals, .ref a_allKeys, .ref a_allVals, .int v_oldMany, .int v_allMany, .ref a_row, .ref a_written, .int v_writtenMany, .ref a_path, .ref a_place, .int v_depth, .ref a_freeRow, .int v_isOther, .int v_moved, .ref a_bothKeys, .ref a_bothVals, .int v_leafDepth, .int v_found, .int v_lastKey, .int v_hasLast])), (a_many, .inl (cI, 140, .inl f_11)), (a_keys, .inl (cI, 3360, .inl f_5)), (a_vals, .inl (cI, 3360, .inl f_8))]) [0, 1, 2, 3] rfl
        have hD9 := hD.sub (ws' := [(h0, .inr (9, [.int (nI w), .int (nI b), .int (nI lm), .int (nI cm), .int (nI li), .int (nI ci), .ref a_disk, .int v_isDown, .int v_isArmed, .int v_armedWrites, .int v_armedWords, .int v_writes, .ref a_kind, .ref a_many, .ref a_block, .ref a_keys, .ref a_vals, .ref a_isFresh, .ref a_kindWas, .ref a_manyWas, .ref a_blockWas, .ref a_keysWas, .ref a_valsWas, .ref a_freshWas, .int v_root, .int v_rootWas, .int v_latest, .int v_epoch, .ref a_reached, .ref a_oldKeys, .ref a_oldVals, .ref a_allKeys, .ref a_allVals, .int v_oldMany, .int v_allMany, .ref a_row, .ref a_written, .int v_writtenMany, .ref a_path, .ref a_place, .int v_depth, .ref a_freeRow, .int v_isOther, .int v_moved, .ref a_bothKeys, .ref a_bothVals, .int v_leafDepth, .int v_found, .int v_lastKey, .int v_hasLast])), (a_many, .inl (cI, 140, .inl f_11)), (a_keys, .inl (cI, 3360, .inl f_5)), (a_vals, .inl (cI, 3360, .inl f_8))]) [0, 1, 2, 3] (by decide) rfl
        have hK9 := hK.sub (tys' := [(cI, .int)]) [0] rfl
        exact W.vret hx hb hr (fun t ht hW => ⟨⟨(f_11, f_5, f_8), rfl, (insF_end hF (by omega) (by omega) ef_8 ef_11), by rw [ht]; exact hP9, va_K.moved hW.alike hK9, hD9⟩, hS.F ht⟩) hS.2.2 dX9_insert_107
      · have n_c_2 : ¬ jn ≤ i0 := fun h9 => c_2 ((nI_leI (a := jn) (b := i0) (by omega) (by omega)).mpr h9)
        refine lv_aload_n hx hb dX9_insert_14 rfl (lv_at hl 0 rfl) ?_
        refine va_get (D := (dC, dI)) (ci := 9) (v := .ref a_keys) (C := RX9) (T := TX9) (N := 50) hx hb hts k_1 hown hK hP 0 rfl rfl 15 (by decide) k_3 (fun _ h9 => h9) rfl dX9_insert_15 ?_
        refine lv_bipush (v := 24) hx hb dX9_insert_18 (by decide) ?_
        refine lv_iload_n hx hb dX9_insert_20 rfl (lv_at hl 1 rfl) ?_
        refine lv_imul hx hb dX9_insert_21 ?_
        refine lv_topi (fun z_12 ez_12 => ?_)
        obtain rfl : z_12 = nI (24 * x0) := ez_12.trans (pk_mul 24 x0)
        refine lv_iload hx hb dX9_insert_22 (lv_at hl 5 rfl) ?_
        refine lv_iadd hx hb dX9_insert_24 ?_
        refine lv_topi (fun z_13 ez_13 => ?_)
        obtain rfl : z_13 = nI (24 * x0 + jn) := ez_13.trans (nI_add (24 * x0) jn)
        refine lv_aload_n hx hb dX9_insert_25 rfl (lv_at hl 0 rfl) ?_
        refine va_get (D := (dC, dI)) (ci := 9) (v := .ref a_keys) (C := RX9) (T := TX9) (N := 50) hx hb hts k_1 hown hK hP 0 rfl rfl 15 (by decide) k_3 (fun _ h9 => h9) rfl dX9_insert_26 ?_
        refine lv_bipush (v := 24) hx hb dX9_insert_29 (by decide) ?_
        refine lv_iload_n hx hb dX9_insert_31 rfl (lv_at hl 1 rfl) ?_
        refine lv_imul hx hb dX9_insert_32 ?_
        refine lv_topi (fun z_14 ez_14 => ?_)
        obtain rfl : z_14 = nI (24 * x0) := ez_14.trans (pk_mul 24 x0)
        refine lv_iload hx hb dX9_insert_33 (lv_at hl 5 rfl) ?_
        refine lv_iadd hx hb dX9_insert_35 ?_
        refine lv_topi (fun z_15 ez_15 => ?_)
        obtain rfl : z_15 = nI (24 * x0 + jn) := ez_15.trans (nI_add (24 * x0) jn)
        refine lv_iconst (v := 1) hx hb dX9_insert_36 (by decide) ?_
        refine lv_isub hx hb dX9_insert_37 ?_
        refine lv_topi (fun z_16 ez_16 => ?_)
        obtain rfl : z_16 = nI (24 * x0 + jn - 1) := ez_16.trans (pk_sub (a := 24 * x0 + jn) (b := 1) (by omega))
        refine va_iald hx hb hK hP 2 0 rfl rfl (show vp_in (nI (24 * x0 + jn - 1)) 3360 from vp_in_nI (by omega) (by omega)) dX9_insert_38 ?_
        refine lv_topi (fun z_17 ez_17 => ?_)
        obtain rfl : z_17 = kv (24 * x0 + jn - 1) := ez_17.trans (congrArg kv (nI_clamp (by omega)))
        refine va_iast hx hb hK hP hD hS 2 0 rfl rfl (show vp_in (nI (24 * x0 + jn)) 3360 from vp_in_nI (by omega) (by omega)) dX9_insert_39 (fun H locs hP hD hS => ?_)
        have hP : va_P (dC, dI) vwCl [(h0, .inr (9, [.int (nI w), .int (nI b), .int (nI lm), .int (nI cm), .int (nI li), .int (nI ci), .ref a_disk, .int v_isDown, .int v_isArmed, .int v_armedWrites, .int v_armedWords, .int v_writes, .ref a_kind, .ref a_many, .ref a_block, .ref a_keys, .ref a_vals, .ref a_isFresh, .ref a_kindWas, .ref a_manyWas, .ref a_blockWas, .ref a_keysWas, .ref a_valsWas, .ref a_freshWas, .int v_root, .int v_rootWas, .int v_latest, .int v_epoch, .ref a_reached, .ref a_oldKeys, .ref a_oldVals, .ref a_allKeys, .ref a_allVals, .int v_oldMany, .int v_allMany, .ref a_row, .ref a_written, .int v_writtenMany, .ref a_path, .ref a_place, .int v_depth, .ref a_freeRow, .int v_isOther, .int v_moved, .ref a_bothKeys, .ref a_bothVals, .int v_leafDepth, .int v_found, .int v_lastKey, .int v_hasLast])), (a_many, .inl (cI, 140, .inl mm)), (a_keys, .inl (cI, 3360, .inl (upd kv ((nI (24 * x0 + jn)).toNatClampNeg) (kv (24 * x0 + jn - 1))))), (a_vals, .inl (cI, 3360, .inl vv))] H := hP
        have hD : va_D A [(h0, .inr (9, [.int (nI w), .int (nI b), .int (nI lm), .int (nI cm), .int (nI li), .int (nI ci), .ref a_disk, .int v_isDown, .int v_isArmed, .int v_armedWrites, .int v_armedWords, .int v_writes, .ref a_kind, .ref a_many, .ref a_block, .ref a_keys, .ref a_vals, .ref a_isFresh, .ref a_kindWas, .ref a_manyWas, .ref a_blockWas, .ref a_keysWas, .ref a_valsWas, .ref a_freshWas, .int v_root, .int v_rootWas, .int v_latest, .int v_epoch, .ref a_reached, .ref a_oldKeys, .ref a_oldVals, .ref a_allKeys, .ref a_allVals, .int v_oldMany, .int v_allMany, .ref a_row, .ref a_written, .int v_writtenMany, .ref a_path, .ref a_place, .int v_depth, .ref a_freeRow, .int v_isOther, .int v_moved, .ref a_bothKeys, .ref a_bothVals, .int v_leafDepth, .int v_found, .int v_lastKey, .int v_hasLast])), (a_many, .inl (cI, 140, .inl mm)), (a_keys, .inl (cI, 3360, .inl (upd kv ((nI (24 * x0 + jn)).toNatClampNeg) (kv (24 * x0 + jn - 1))))), (a_vals, .inl (cI, 3360, .inl vv))] := hD
        rw [show (nI (24 * x0 + jn)).toNatClampNeg = 24 * x0 + jn from nI_clamp (by omega)] at hP hD
        obtain ⟨f_18, ef_18⟩ : ∃ g9, g9 = upd kv (24 * x0 + jn) (kv (24 * x0 + jn - 1)) := ⟨_, rfl⟩
        rw [← ef_18] at hP hD
        refine lv_aload_n hx hb dX9_insert_40 rfl (lv_at hl 0 rfl) ?_
        refine va_get (D := (dC, dI)) (ci := 9) (v := .ref a_vals) (C := RX9) (T := TX9) (N := 50) hx hb hts k_1 hown hK hP 0 rfl rfl 16 (by decide) k_4 (fun _ h9 => h9) rfl dX9_insert_41 ?_
        refine lv_bipush (v := 24) hx hb dX9_insert_44 (by decide) ?_
        refine lv_iload_n hx hb dX9_insert_46 rfl (lv_at hl 1 rfl) ?_
        refine lv_imul hx hb dX9_insert_47 ?_
        refine lv_topi (fun z_19 ez_19 => ?_)
        obtain rfl : z_19 = nI (24 * x0) := ez_19.trans (pk_mul 24 x0)
        refine lv_iload hx hb dX9_insert_48 (lv_at hl 5 rfl) ?_
        refine lv_iadd hx hb dX9_insert_50 ?_
        refine lv_topi (fun z_20 ez_20 => ?_)
        obtain rfl : z_20 = nI (24 * x0 + jn) := ez_20.trans (nI_add (24 * x0) jn)
        refine lv_aload_n hx hb dX9_insert_51 rfl (lv_at hl 0 rfl) ?_
        refine va_get (D := (dC, dI)) (ci := 9) (v := .ref a_vals) (C := RX9) (T := TX9) (N := 50) hx hb hts k_1 hown hK hP 0 rfl rfl 16 (by decide) k_4 (fun _ h9 => h9) rfl dX9_insert_52 ?_
        refine lv_bipush (v := 24) hx hb dX9_insert_55 (by decide) ?_
        refine lv_iload_n hx hb dX9_insert_57 rfl (lv_at hl 1 rfl) ?_
        refine lv_imul hx hb dX9_insert_58 ?_
        refine lv_topi (fun z_21 ez_21 => ?_)
        obtain rfl : z_21 = nI (24 * x0) := ez_21.trans (pk_mul 24 x0)
        refine lv_iload hx hb dX9_insert_59 (lv_at hl 5 rfl) ?_
        refine lv_iadd hx hb dX9_insert_61 ?_
        refine lv_topi (fun z_22 ez_22 => ?_)
        obtain rfl : z_22 = nI (24 * x0 + jn) := ez_22.trans (nI_add (24 * x0) jn)
        refine lv_iconst (v := 1) hx hb dX9_insert_62 (by decide) ?_
        refine lv_isub hx hb dX9_insert_63 ?_
        refine lv_topi (fun z_23 ez_23 => ?_)
        obtain rfl : z_23 = nI (24 * x0 + jn - 1) := ez_23.trans (pk_sub (a := 24 * x0 + jn) (b := 1) (by omega))
        refine va_iald hx hb hK hP 3 0 rfl rfl (show vp_in (nI (24 * x0 + jn - 1)) 3360 from vp_in_nI (by omega) (by omega)) dX9_insert_64 ?_
        refine lv_topi (fun z_24 ez_24 => ?_)
        obtain rfl : z_24 = vv (24 * x0 + jn - 1) := ez_24.trans (congrArg vv (nI_clamp (by omega)))
        refine va_iast hx hb hK hP hD hS 3 0 rfl rfl (show vp_in (nI (24 * x0 + jn)) 3360 from vp_in_nI (by omega) (by omega)) dX9_insert_65 (fun H locs hP hD hS => ?_)
        have hP : va_P (dC, dI) vwCl [(h0, .inr (9, [.int (nI w), .int (nI b), .int (nI lm), .int (nI cm), .int (nI li), .int (nI ci), .ref a_disk, .int v_isDown, .int v_isArmed, .int v_armedWrites, .int v_armedWords, .int v_writes, .ref a_kind, .ref a_many, .ref a_block, .ref a_keys, .ref a_vals, .ref a_isFresh, .ref a_kindWas, .ref a_manyWas, .ref a_blockWas, .ref a_keysWas, .ref a_valsWas, .ref a_freshWas, .int v_root, .int v_rootWas, .int v_latest, .int v_epoch, .ref a_reached, .ref a_oldKeys, .ref a_oldVals, .ref a_allKeys, .ref a_allVals, .int v_oldMany, .int v_allMany, .ref a_row, .ref a_written, .int v_writtenMany, .ref a_path, .ref a_place, .int v_depth, .ref a_freeRow, .int v_isOther, .int v_moved, .ref a_bothKeys, .ref a_bothVals, .int v_leafDepth, .int v_found, .int v_lastKey, .int v_hasLast])), (a_many, .inl (cI, 140, .inl mm)), (a_keys, .inl (cI, 3360, .inl f_18)), (a_vals, .inl (cI, 3360, .inl (upd vv ((nI (24 * x0 + jn)).toNatClampNeg) (vv (24 * x0 + jn - 1)))))] H := hP
        have hD : va_D A [(h0, .inr (9, [.int (nI w), .int (nI b), .int (nI lm), .int (nI cm), .int (nI li), .int (nI ci), .ref a_disk, .int v_isDown, .int v_isArmed, .int v_armedWrites, .int v_armedWords, .int v_writes, .ref a_kind, .ref a_many, .ref a_block, .ref a_keys, .ref a_vals, .ref a_isFresh, .ref a_kindWas, .ref a_manyWas, .ref a_blockWas, .ref a_keysWas, .ref a_valsWas, .ref a_freshWas, .int v_root, .int v_rootWas, .int v_latest, .int v_epoch, .ref a_reached, .ref a_oldKeys, .ref a_oldVals, .ref a_allKeys, .ref a_allVals, .int v_oldMany, .int v_allMany, .ref a_row, .ref a_written, .int v_writtenMany, .ref a_path, .ref a_place, .int v_depth, .ref a_freeRow, .int v_isOther, .int v_moved, .ref a_bothKeys, .ref a_bothVals, .int v_leafDepth, .int v_found, .int v_lastKey, .int v_hasLast])), (a_many, .inl (cI, 140, .inl mm)), (a_keys, .inl (cI, 3360, .inl f_18)), (a_vals, .inl (cI, 3360, .inl (upd vv ((nI (24 * x0 + jn)).toNatClampNeg) (vv (24 * x0 + jn - 1)))))] := hD
        rw [show (nI (24 * x0 + jn)).toNatClampNeg = 24 * x0 + jn from nI_clamp (by omega)] at hP hD
        obtain ⟨f_25, ef_25⟩ : ∃ g9, g9 = upd vv (24 * x0 + jn) (vv (24 * x0 + jn - 1)) := ⟨_, rfl⟩
        rw [← ef_25] at hP hD
        refine lv_iinc (v := (nI (jn - 1))) (lv' := [(5, .int (nI (jn - 1))), (0, .ref h0), (1, .int (nI x0)), (2, .int (nI i0)), (3, .int p2), (4, .int p3)]) hx hb dX9_insert_66 hl (k := 5) rfl (nI_dec (by omega)) (by decide) rfl (fun ls hl => ?_)
        refine lv_goto (tgt := 8) hx hb dX9_insert_69 (by decide) ?_
        exact ih_8 (i + 1) (jn - 1) f_18 f_25 _ _ _ (by omega) (by omega) (by omega) (by omega) (insF_step hF (by omega) (by omega) ef_25) hP hD hS (lv_sub hl [1, 2, 3, 4, 5, 0] rfl)
  exact loop_8 (n0 + 1) 0 n0 ks vl _ _ _ (by omega) (by omega) (by omega) (by omega) (insF_start _ _ _) hP hD hS (lv_sub hl [1, 2, 3, 4, 5, 0] rfl)
def v_X9_erase : List Cond := .code yX9_erase cX9_erase 4 none :: ([.fieldLink RX9 17 "TwinRootsModel" "many" "[I", .fieldLink RX9 23 "TwinRootsModel" "keys" "[I", .fieldLink RX9 26 "TwinRootsModel" "vals" "[I"] ++ (wsX90 ++ ([])))
set_option maxHeartbeats 4000000 in
set_option maxRecDepth 100000 in
/-- X9_erase -/
theorem c_X9_erase (l : Launch) (dC : Nat → ClassId) (dI : Nat → Nat → Nat) (sz : Nat) (h0 : Nat) (w : Nat) (b : Nat) (lm : Nat) (cm : Nat) (li : Nat) (ci : Nat) (a_disk : Nat) (a_kind : Nat) (a_many : Nat) (a_block : Nat) (a_keys : Nat) (a_vals : Nat) (a_isFresh : Nat) (a_kindWas : Nat) (a_manyWas : Nat) (a_blockWas : Nat) (a_keysWas : Nat) (a_valsWas : Nat) (a_freshWas : Nat) (a_reached : Nat) (a_oldKeys : Nat) (a_oldVals : Nat) (a_allKeys : Nat) (a_allVals : Nat) (a_row : Nat) (a_written : Nat) (a_path : Nat) (a_place : Nat) (a_freeRow : Nat) (a_bothKeys : Nat) (a_bothVals : Nat) (v_isDown : Int32) (v_isArmed : Int32) (v_armedWrites : Int32) (v_armedWords : Int32) (v_writes : Int32) (v_root : Int32) (v_rootWas : Int32) (v_latest : Int32) (v_epoch : Int32) (v_oldMany : Int32) (v_allMany : Int32) (v_writtenMany : Int32) (v_depth : Int32) (v_isOther : Int32) (v_moved : Int32) (v_leafDepth : Int32) (v_found : Int32) (v_lastKey : Int32) (v_hasLast : Int32) (cI : ClassId) (mm : Nat → Int32) (ks : Nat → Int32) (vl : Nat → Int32) (x0 : Nat) (i0 : Nat) (n0 : Nat) (hxx : x0 < 140) (hm0 : mm x0 = nI n0) (hi0 : i0 < n0) (hn0 : n0 ≤ 23) : Met l yX9_erase v_X9_erase ({ frames := 0, cells := 0, slots := 0, locals := 0 } : Room) (va_Pc [.ref h0, .int (nI x0), .int (nI i0)] (fun U => U.heap.size = sz ∧ va_P (dC, dI) vwCl [(h0, .inr (9, [.int (nI w), .int (nI b), .int (nI lm), .int (nI cm), .int (nI li), .int (nI ci), .ref a_disk, .int v_isDown, .int v_isArmed, .int v_armedWrites, .int v_armedWords, .int v_writes, .ref a_kind, .ref a_many, .ref a_block, .ref a_keys, .ref a_vals, .ref a_isFresh, .ref a_kindWas, .ref a_manyWas, .ref a_blockWas, .ref a_keysWas, .ref a_valsWas, .ref a_freshWas, .int v_root, .int v_rootWas, .int v_latest, .int v_epoch, .ref a_reached, .ref a_oldKeys, .ref a_oldVals, .ref a_allKeys, .ref a_allVals, .int v_oldMany, .int v_allMany, .ref a_row, .ref a_written, .int v_writtenMany, .ref a_path, .ref a_place, .int v_depth, .ref a_freeRow, .int v_isOther, .int v_moved, .ref a_bothKeys, .ref a_bothVals, .int v_leafDepth, .int v_found, .int v_lastKey, .int v_hasLast])), (a_many, .inl (cI, 140, .inl mm)), (a_keys, .inl (cI, 3360, .inl ks)), (a_vals, .inl (cI, 3360, .inl vl))] U.heap ∧ va_K (dC, dI) vwCl [(cI, .int)] U ∧ va_D (fun _ => True) [(h0, .inr (9, [.int (nI w), .int (nI b), .int (nI lm), .int (nI cm), .int (nI li), .int (nI ci), .ref a_disk, .int v_isDown, .int v_isArmed, .int v_armedWrites, .int v_armedWords, .int v_writes, .ref a_kind, .ref a_many, .ref a_block, .ref a_keys, .ref a_vals, .ref a_isFresh, .ref a_kindWas, .ref a_manyWas, .ref a_blockWas, .ref a_keysWas, .ref a_valsWas, .ref a_freshWas, .int v_root, .int v_rootWas, .int v_latest, .int v_epoch, .ref a_reached, .ref a_oldKeys, .ref a_oldVals, .ref a_allKeys, .ref a_allVals, .int v_oldMany, .int v_allMany, .ref a_row, .ref a_written, .int v_writtenMany, .ref a_path, .ref a_place, .int v_depth, .ref a_freeRow, .int v_isOther, .int v_moved, .ref a_bothKeys, .ref a_bothVals, .int v_leafDepth, .int v_found, .int v_lastKey, .int v_hasLast])), (a_many, .inl (cI, 140, .inl mm)), (a_keys, .inl (cI, 3360, .inl ks)), (a_vals, .inl (cI, 3360, .inl vl))])) (va_Qv (fun (u : (Nat → Int32) × (Nat → Int32) × (Nat → Int32)) => match u with | (mm2, ks2, vl2) => EraR mm vl mm2 vl2 x0 i0 n0) (fun (u : (Nat → Int32) × (Nat → Int32) × (Nat → Int32)) (t : State) => match u with | (mm2, ks2, vl2) => va_P (dC, dI) vwCl [(h0, .inr (9, [.int (nI w), .int (nI b), .int (nI lm), .int (nI cm), .int (nI li), .int (nI ci), .ref a_disk, .int v_isDown, .int v_isArmed, .int v_armedWrites, .int v_armedWords, .int v_writes, .ref a_kind, .ref a_many, .ref a_block, .ref a_keys, .ref a_vals, .ref a_isFresh, .ref a_kindWas, .ref a_manyWas, .ref a_blockWas, .ref a_keysWas, .ref a_valsWas, .ref a_freshWas, .int v_root, .int v_rootWas, .int v_latest, .int v_epoch, .ref a_reached, .ref a_oldKeys, .ref a_oldVals, .ref a_allKeys, .ref a_allVals, .int v_oldMany, .int v_allMany, .ref a_row, .ref a_written, .int v_writtenMany, .ref a_path, .ref a_place, .int v_depth, .ref a_freeRow, .int v_isOther, .int v_moved, .ref a_bothKeys, .ref a_bothVals, .int v_leafDepth, .int v_found, .int v_lastKey, .int v_hasLast])), (a_many, .inl (cI, 140, .inl mm2)), (a_keys, .inl (cI, 3360, .inl ks2)), (a_vals, .inl (cI, 3360, .inl vl2))] t.heap ∧ va_K (dC, dI) vwCl [(cI, .int)] t ∧ va_D (va_A [(h0, .inr (9, [.int (nI w), .int (nI b), .int (nI lm), .int (nI cm), .int (nI li), .int (nI ci), .ref a_disk, .int v_isDown, .int v_isArmed, .int v_armedWrites, .int v_armedWords, .int v_writes, .ref a_kind, .ref a_many, .ref a_block, .ref a_keys, .ref a_vals, .ref a_isFresh, .ref a_kindWas, .ref a_manyWas, .ref a_blockWas, .ref a_keysWas, .ref a_valsWas, .ref a_freshWas, .int v_root, .int v_rootWas, .int v_latest, .int v_epoch, .ref a_reached, .ref a_oldKeys, .ref a_oldVals, .ref a_allKeys, .ref a_allVals, .int v_oldMany, .int v_allMany, .ref a_row, .ref a_written, .int v_writtenMany, .ref a_path, .ref a_place, .int v_depth, .ref a_freeRow, .int v_isOther, .int v_moved, .ref a_bothKeys, .ref a_bothVals, .int v_leafDepth, .int v_found, .int v_lastKey, .int v_hasLast])), (a_many, .inl (cI, 140, .inl mm)), (a_keys, .inl (cI, 3360, .inl ks)), (a_vals, .inl (cI, 3360, .inl vl))] sz) [(h0, .inr (9, [.int (nI w), .int (nI b), .int (nI lm), .int (nI cm), .int (nI li), .int (nI ci), .ref a_disk, .int v_isDown, .int v_isArmed, .int v_armedWrites, .int v_armedWords, .int v_writes, .ref a_kind, .ref a_many, .ref a_block, .ref a_keys, .ref a_vals, .ref a_isFresh, .ref a_kindWas, .ref a_manyWas, .ref a_blockWas, .ref a_keysWas, .ref a_valsWas, .ref a_freshWas, .int v_root, .int v_rootWas, .int v_latest, .int v_epoch, .ref a_reached, .ref a_oldKeys, .ref a_oldVals, .ref a_allKeys, .ref a_allVals, .int v_oldMany, .int v_allMany, .ref a_row, .ref a_written, .int v_writtenMany, .ref a_path, .ref a_place, .int v_depth, .ref a_freeRow, .int v_isOther, .int v_moved, .ref a_bothKeys, .ref a_bothVals, .int v_leafDepth, .int v_found, .int v_lastKey, .int v_hasLast])), (a_many, .inl (cI, 140, .inl mm2)), (a_keys, .inl (cI, 3360, .inl ks2)), (a_vals, .inl (cI, 3360, .inl vl2))]) (va_A [(h0, .inr (9, [.int (nI w), .int (nI b), .int (nI lm), .int (nI cm), .int (nI li), .int (nI ci), .ref a_disk, .int v_isDown, .int v_isArmed, .int v_armedWrites, .int v_armedWords, .int v_writes, .ref a_kind, .ref a_many, .ref a_block, .ref a_keys, .ref a_vals, .ref a_isFresh, .ref a_kindWas, .ref a_manyWas, .ref a_blockWas, .ref a_keysWas, .ref a_valsWas, .ref a_freshWas, .int v_root, .int v_rootWas, .int v_latest, .int v_epoch, .ref a_reached, .ref a_oldKeys, .ref a_oldVals, .ref a_allKeys, .ref a_allVals, .int v_oldMany, .int v_allMany, .ref a_row, .ref a_written, .int v_writtenMany, .ref a_path, .ref a_place, .int v_depth, .ref a_freeRow, .int v_isOther, .int v_moved, .ref a_bothKeys, .ref a_bothVals, .int v_leafDepth, .int v_found, .int v_lastKey, .int v_hasLast])), (a_many, .inl (cI, 140, .inl mm)), (a_keys, .inl (cI, 3360, .inl ks)), (a_vals, .inl (cI, 3360, .inl vl))] sz)) 0 0 (va_A [(h0, .inr (9, [.int (nI w), .int (nI b), .int (nI lm), .int (nI cm), .int (nI li), .int (nI ci), .ref a_disk, .int v_isDown, .int v_isArmed, .int v_armedWrites, .int v_armedWords, .int v_writes, .ref a_kind, .ref a_many, .ref a_block, .ref a_keys, .ref a_vals, .ref a_isFresh, .ref a_kindWas, .ref a_manyWas, .ref a_blockWas, .ref a_keysWas, .ref a_valsWas, .ref a_freshWas, .int v_root, .int v_rootWas, .int v_latest, .int v_epoch, .ref a_reached, .ref a_oldKeys, .ref a_oldVals, .ref a_allKeys, .ref a_allVals, .int v_oldMany, .int v_allMany, .ref a_row, .ref a_written, .int v_writtenMany, .ref a_path, .ref a_place, .int v_depth, .ref a_freeRow, .int v_isOther, .int v_moved, .ref a_bothKeys, .ref a_bothVals, .int v_leafDepth, .int v_found, .int v_lastKey, .int v_hasLast])), (a_many, .inl (cI, 140, .inl mm)), (a_keys, .inl (cI, 3360, .inl ks)), (a_vals, .inl (cI, 3360, .inl vl))] sz) := by
  refine Met.ofW (cc := cX9_erase) (maxL := 4) (ret := none) (by decide) rfl ?_
  intro p e s m args below meth c s₁ B hml hv
  obtain ⟨rfl, hsz, hP, hK, hD0⟩ := hv
  have hx := B.exec
  have hb := B.bytes
  have hr := B.returns
  have hts := atoms_spec (ws := v_X9_erase) B.pre
  have hown : s.vm.findClass RX9 = some m.cls := findClass_of_methodNamed B.named
  have hlocks := B.notSynchronized
  subst hsz
  have hD := hD0.self (sz := s.heap.size)
  generalize hAe : va_A [(h0, .inr (9, [.int (nI w), .int (nI b), .int (nI lm), .int (nI cm), .int (nI li), .int (nI ci), .ref a_disk, .int v_isDown, .int v_isArmed, .int v_armedWrites, .int v_armedWords, .int v_writes, .ref a_kind, .ref a_many, .ref a_block, .ref a_keys, .ref a_vals, .ref a_isFresh, .ref a_kindWas, .ref a_manyWas, .ref a_blockWas, .ref a_keysWas, .ref a_valsWas, .ref a_freshWas, .int v_root, .int v_rootWas, .int v_latest, .int v_epoch, .ref a_reached, .ref a_oldKeys, .ref a_oldVals, .ref a_allKeys, .ref a_allVals, .int v_oldMany, .int v_allMany, .ref a_row, .ref a_written, .int v_writtenMany, .ref a_path, .ref a_place, .int v_depth, .ref a_freeRow, .int v_isOther, .int v_moved, .ref a_bothKeys, .ref a_bothVals, .int v_leafDepth, .int v_found, .int v_lastKey, .int v_hasLast])), (a_many, .inl (cI, 140, .inl mm)), (a_keys, .inl (cI, 3360, .inl ks)), (a_vals, .inl (cI, 3360, .inl vl))] s.heap.size = A at hD ⊢
  have hA : ∀ q : Nat, s.heap.size ≤ q → A q := fun q h => by rw [← hAe]; exact Or.inr h
  have hS : va_S A s.heap s.heap [] := va_S.rf
  have hP : va_P (dC, dI) vwCl [(h0, .inr (9, [.int (nI w), .int (nI b), .int (nI lm), .int (nI cm), .int (nI li), .int (nI ci), .ref a_disk, .int v_isDown, .int v_isArmed, .int v_armedWrites, .int v_armedWords, .int v_writes, .ref a_kind, .ref a_many, .ref a_block, .ref a_keys, .ref a_vals, .ref a_isFresh, .ref a_kindWas, .ref a_manyWas, .ref a_blockWas, .ref a_keysWas, .ref a_valsWas, .ref a_freshWas, .int v_root, .int v_rootWas, .int v_latest, .int v_epoch, .ref a_reached, .ref a_oldKeys, .ref a_oldVals, .ref a_allKeys, .ref a_allVals, .int v_oldMany, .int v_allMany, .ref a_row, .ref a_written, .int v_writtenMany, .ref a_path, .ref a_place, .int v_depth, .ref a_freeRow, .int v_isOther, .int v_moved, .ref a_bothKeys, .ref a_bothVals, .int v_leafDepth, .int v_found, .int v_lastKey, .int v_hasLast])), (a_many, .inl (cI, 140, .inl mm)), (a_keys, .inl (cI, 3360, .inl ks)), (a_vals, .inl (cI, 3360, .inl vl))] s.heap := hP
  have hl := lv_entry ([.ref h0, .int (nI x0), .int (nI i0)]) (n := 4) (Nat.le_of_ble_eq_true rfl)
  rw [lg_entry_eq]
  generalize (lg_sl ([.ref h0, .int (nI x0), .int (nI i0)]) ++ List.replicate (4 - (lg_sl ([.ref h0, .int (nI x0), .int (nI i0)])).length) Slot.unset).toArray = ls at hl ⊢
  have hl : lv_has ls 4 [(0, .ref h0), (1, .int (nI x0)), (2, .int (nI i0))] := hl
  have k_1 := (fun _ h => List.mem_cons_of_mem _ (List.mem_append_right _ (List.mem_append_left _ h)) : ∀ w ∈ wsX90, w ∈ v_X9_erase)
  have k_2 := hts (.fieldLink RX9 17 "TwinRootsModel" "many" "[I") (List.mem_of_getElem? (i := 1) rfl)
  have k_3 := hts (.fieldLink RX9 23 "TwinRootsModel" "keys" "[I") (List.mem_of_getElem? (i := 2) rfl)
  have k_4 := hts (.fieldLink RX9 26 "TwinRootsModel" "vals" "[I") (List.mem_of_getElem? (i := 3) rfl)
  refine lv_aload_n hx hb dX9_erase_0 rfl (lv_at hl 0 rfl) ?_
  refine va_get (D := (dC, dI)) (ci := 9) (v := .ref a_many) (C := RX9) (T := TX9) (N := 50) hx hb hts k_1 hown hK hP 0 rfl rfl 13 (by decide) k_2 (fun _ h9 => h9) rfl dX9_erase_1 ?_
  refine lv_iload_n hx hb dX9_erase_4 rfl (lv_at hl 1 rfl) ?_
  refine lv_dup2_11 hx hb dX9_erase_5 rfl rfl ?_
  refine va_iald hx hb hK hP 1 0 rfl rfl (show vp_in (nI x0) 140 from vp_in_nI (by omega) (by omega)) dX9_erase_6 ?_
  refine lv_topi (fun z_1 ez_1 => ?_)
  obtain rfl : z_1 = nI n0 := ez_1.trans ((congrArg mm (nI_clamp (by omega))).trans (hm0))
  refine lv_iconst (v := 1) hx hb dX9_erase_7 (by decide) ?_
  refine lv_isub hx hb dX9_erase_8 ?_
  refine lv_topi (fun z_2 ez_2 => ?_)
  obtain rfl : z_2 = nI (n0 - 1) := ez_2.trans (pk_sub (a := n0) (b := 1) (by omega))
  refine va_iast hx hb hK hP hD hS 1 0 rfl rfl (show vp_in (nI x0) 140 from vp_in_nI (by omega) (by omega)) dX9_erase_9 (fun H locs hP hD hS => ?_)
  have hP : va_P (dC, dI) vwCl [(h0, .inr (9, [.int (nI w), .int (nI b), .int (nI lm), .int (nI cm), .int (nI li), .int (nI ci), .ref a_disk, .int v_isDown, .int v_isArmed, .int v_armedWrites, .int v_armedWords, .int v_writes, .ref a_kind, .ref a_many, .ref a_block, .ref a_keys, .ref a_vals, .ref a_isFresh, .ref a_kindWas, .ref a_manyWas, .ref a_blockWas, .ref a_keysWas, .ref a_valsWas, .ref a_freshWas, .int v_root, .int v_rootWas, .int v_latest, .int v_epoch, .ref a_reached, .ref a_oldKeys, .ref a_oldVals, .ref a_allKeys, .ref a_allVals, .int v_oldMany, .int v_allMany, .ref a_row, .ref a_written, .int v_writtenMany, .ref a_path, .ref a_place, .int v_depth, .ref a_freeRow, .int v_isOther, .int v_moved, .ref a_bothKeys, .ref a_bothVals, .int v_leafDepth, .int v_found, .int v_lastKey, .int v_hasLast])), (a_many, .inl (cI, 140, .inl (upd mm ((nI x0).toNatClampNeg) (nI (n0 - 1))))), (a_keys, .inl (cI, 3360, .inl ks)), (a_vals, .inl (cI, 3360, .inl vl))] H := hP
  have hD : va_D A [(h0, .inr (9, [.int (nI w), .int (nI b), .int (nI lm), .int (nI cm), .int (nI li), .int (nI ci), .ref a_disk, .int v_isDown, .int v_isArmed, .int v_armedWrites, .int v_armedWords, .int v_writes, .ref a_kind, .ref a_many, .ref a_block, .ref a_keys, .ref a_vals, .ref a_isFresh, .ref a_kindWas, .ref a_manyWas, .ref a_blockWas, .ref a_keysWas, .ref a_valsWas, .ref a_freshWas, .int v_root, .int v_rootWas, .int v_latest, .int v_epoch, .ref a_reached, .ref a_oldKeys, .ref a_oldVals, .ref a_allKeys, .ref a_allVals, .int v_oldMany, .int v_allMany, .ref a_row, .ref a_written, .int v_writtenMany, .ref a_path, .ref a_place, .int v_depth, .ref a_freeRow, .int v_isOther, .int v_moved, .ref a_bothKeys, .ref a_bothVals, .int v_leafDepth, .int v_found, .int v_lastKey, .int v_hasLast])), (a_many, .inl (cI, 140, .inl (upd mm ((nI x0).toNatClampNeg) (nI (n0 - 1))))), (a_keys, .inl (cI, 3360, .inl ks)), (a_vals, .inl (cI, 3360, .inl vl))] := hD
  rw [show (nI x0).toNatClampNeg = x0 from nI_clamp (by omega)] at hP hD
  obtain ⟨f_3, ef_3⟩ : ∃ g9, g9 = upd mm x0 (nI (n0 - 1)) := ⟨_, rfl⟩
  rw [← ef_3] at hP hD
  refine lv_iload_n hx hb dX9_erase_10 rfl (lv_at hl 2 rfl) ?_
  refine lv_istore_n (lv' := [(3, .int (nI i0)), (0, .ref h0), (1, .int (nI x0)), (2, .int (nI i0))]) hx hb dX9_erase_11 rfl hl (by decide) rfl (fun ls hl => ?_)
  refine jn_cut (P := fun Q => ∀ (nf i : Nat) (kv : Nat → Int32) (vv : Nat → Int32) (H : Heap) (locs : List Loc) (ls : Array Slot), i ≤ n0 → n0 + 1 ≤ i + nf → (i0 ≤ i) → (EraF vl vv x0 i0 i) → va_P (dC, dI) vwCl [(h0, .inr (9, [.int (nI w), .int (nI b), .int (nI lm), .int (nI cm), .int (nI li), .int (nI ci), .ref a_disk, .int v_isDown, .int v_isArmed, .int v_armedWrites, .int v_armedWords, .int v_writes, .ref a_kind, .ref a_many, .ref a_block, .ref a_keys, .ref a_vals, .ref a_isFresh, .ref a_kindWas, .ref a_manyWas, .ref a_blockWas, .ref a_keysWas, .ref a_valsWas, .ref a_freshWas, .int v_root, .int v_rootWas, .int v_latest, .int v_epoch, .ref a_reached, .ref a_oldKeys, .ref a_oldVals, .ref a_allKeys, .ref a_allVals, .int v_oldMany, .int v_allMany, .ref a_row, .ref a_written, .int v_writtenMany, .ref a_path, .ref a_place, .int v_depth, .ref a_freeRow, .int v_isOther, .int v_moved, .ref a_bothKeys, .ref a_bothVals, .int v_leafDepth, .int v_found, .int v_lastKey, .int v_hasLast])), (a_many, .inl (cI, 140, .inl f_3)), (a_keys, .inl (cI, 3360, .inl kv)), (a_vals, .inl (cI, 3360, .inl vv))] H → va_D A [(h0, .inr (9, [.int (nI w), .int (nI b), .int (nI lm), .int (nI cm), .int (nI li), .int (nI ci), .ref a_disk, .int v_isDown, .int v_isArmed, .int v_armedWrites, .int v_armedWords, .int v_writes, .ref a_kind, .ref a_many, .ref a_block, .ref a_keys, .ref a_vals, .ref a_isFresh, .ref a_kindWas, .ref a_manyWas, .ref a_blockWas, .ref a_keysWas, .ref a_valsWas, .ref a_freshWas, .int v_root, .int v_rootWas, .int v_latest, .int v_epoch, .ref a_reached, .ref a_oldKeys, .ref a_oldVals, .ref a_allKeys, .ref a_allVals, .int v_oldMany, .int v_allMany, .ref a_row, .ref a_written, .int v_writtenMany, .ref a_path, .ref a_place, .int v_depth, .ref a_freeRow, .int v_isOther, .int v_moved, .ref a_bothKeys, .ref a_bothVals, .int v_leafDepth, .int v_found, .int v_lastKey, .int v_hasLast])), (a_many, .inl (cI, 140, .inl f_3)), (a_keys, .inl (cI, 3360, .inl kv)), (a_vals, .inl (cI, 3360, .inl vv))] → va_S A s.heap H locs → lv_has ls 4 [(0, .ref h0), (1, .int (nI x0)), (2, .int (nI i0)), (3, .int (nI i))] → W p l e (headSpec v_X9_erase ({ frames := 0, cells := 0, slots := 0, locals := 0 } : Room)).room s m ([.ref h0, .int (nI x0), .int (nI i0)] : List Value).toArray below meth c H locs 0 0 Q (F0 m 12 ls [])) ?_ (fun loop_12 => ?_)
  · intro nf
    induction nf with
    | zero =>
      intro i kv vv H locs ls h1 h2
      exact absurd h2 (by omega)
    | succ nf ih_12 =>
      intro i kv vv H locs ls hi hn hip hF hP hD hS hl
      refine lv_iload_n hx hb dX9_erase_12 rfl (lv_at hl 3 rfl) ?_
      refine lv_aload_n hx hb dX9_erase_13 rfl (lv_at hl 0 rfl) ?_
      refine va_get (D := (dC, dI)) (ci := 9) (v := .ref a_many) (C := RX9) (T := TX9) (N := 50) hx hb hts k_1 hown hK hP 0 rfl rfl 13 (by decide) k_2 (fun _ h9 => h9) rfl dX9_erase_14 ?_
      refine lv_iload_n hx hb dX9_erase_17 rfl (lv_at hl 1 rfl) ?_
      refine va_iald hx hb hK hP 1 0 rfl rfl (show vp_in (nI x0) 140 from vp_in_nI (by omega) (by omega)) dX9_erase_18 ?_
      refine lv_topi (fun z_4 ez_4 => ?_)
      obtain rfl : z_4 = nI (n0 - 1) := ez_4.trans ((congrArg f_3 (nI_clamp (by omega))).trans (by rw [ef_3]; exact pk_us))
      refine lv_icmp_ge (tgt := 76) hx hb dX9_erase_19 (by decide) (fun c_5 => ?_) (fun c_5 => ?_)
      · have n_c_5 : (n0 - 1) ≤ i := (nI_leI (a := n0 - 1) (b := i) (by omega) (by omega)).mp c_5
        have hP9 := hP.sub (ws' := [(h0, .inr (9, [.int (nI w), .int (nI b), .int (nI lm), .int (nI cm), .int (nI li), .int (nI ci), .ref a_disk, .int v_isDown, .int v_isArmed, .int v_armedWrites, .int v_armedWords, .int v_writes, .ref a_kind, .ref a_many, .ref a_block, .ref a_keys, .ref a_vals, .ref a_isFresh, .ref a_kindWas, .ref a_manyWas, .ref a_blockWas, .ref a_keysWas, .ref a_valsWas, .ref a_freshWas, .int v_root, .int v_rootWas, .int v_latest, .int v_epoch, .ref a_reached, .ref a_oldKeys, .ref a_oldVals, .ref a_allKeys, .ref a_allVals, .int v_oldMany, .int v_allMany, .ref a_row, .ref a_written, .int v_writtenMany, .ref a_path, .ref a_place, .int v_depth, .ref a_freeRow, .int v_isOther, .int v_moved, .ref a_bothKeys, .ref a_bothVals, .int v_leafDepth, .int v_found, .int v_lastKey, .int v_hasLast])), (a_many, .inl (cI, 140, .inl f_3)), (a_keys, .inl (cI, 3360, .inl kv)), (a_vals, .inl (cI, 3360, .inl vv))]) [0, 1, 2, 3] rfl
        have hD9 := hD.sub (ws' := [(h0, .inr (9, [.int (nI w), .int (nI b), .int (nI lm), .int (nI cm), .int (nI li), .int (nI ci), .ref a_disk, .int v_isDown, .int v_isArmed, .int v_armedWrites, .int v_armedWords, .int v_writes, .ref a_kind, .ref a_many, .ref a_block, .ref a_keys, .ref a_vals, .ref a_isFresh, .ref a_kindWas, .ref a_manyWas, .ref a_blockWas, .ref a_keysWas, .ref a_valsWas, .ref a_freshWas, .int v_root, .int v_rootWas, .int v_latest, .int v_epoch, .ref a_reached, .ref a_oldKeys, .ref a_oldVals, .ref a_allKeys, .ref a_allVals, .int v_oldMany, .int v_allMany, .ref a_row, .ref a_written, .int v_writtenMany, .ref a_path, .ref a_place, .int v_depth, .ref a_freeRow, .int v_isOther, .int v_moved, .ref a_bothKeys, .ref a_bothVals, .int v_leafDepth, .int v_found, .int v_lastKey, .int v_hasLast])), (a_many, .inl (cI, 140, .inl f_3)), (a_keys, .inl (cI, 3360, .inl kv)), (a_vals, .inl (cI, 3360, .inl vv))]) [0, 1, 2, 3] (by decide) rfl
        have hK9 := hK.sub (tys' := [(cI, .int)]) [0] rfl
        exact W.vret hx hb hr (fun t ht hW => ⟨⟨(f_3, kv, vv), rfl, (eraF_end hF (by omega) ef_3), by rw [ht]; exact hP9, va_K.moved hW.alike hK9, hD9⟩, hS.F ht⟩) hS.2.2 dX9_erase_76
      · have n_c_5 : ¬ (n0 - 1) ≤ i := fun h9 => c_5 ((nI_leI (a := n0 - 1) (b := i) (by omega) (by omega)).mpr h9)
        refine lv_aload_n hx hb dX9_erase_22 rfl (lv_at hl 0 rfl) ?_
        refine va_get (D := (dC, dI)) (ci := 9) (v := .ref a_keys) (C := RX9) (T := TX9) (N := 50) hx hb hts k_1 hown hK hP 0 rfl rfl 15 (by decide) k_3 (fun _ h9 => h9) rfl dX9_erase_23 ?_
        refine lv_bipush (v := 24) hx hb dX9_erase_26 (by decide) ?_
        refine lv_iload_n hx hb dX9_erase_28 rfl (lv_at hl 1 rfl) ?_
        refine lv_imul hx hb dX9_erase_29 ?_
        refine lv_topi (fun z_6 ez_6 => ?_)
        obtain rfl : z_6 = nI (24 * x0) := ez_6.trans (pk_mul 24 x0)
        refine lv_iload_n hx hb dX9_erase_30 rfl (lv_at hl 3 rfl) ?_
        refine lv_iadd hx hb dX9_erase_31 ?_
        refine lv_topi (fun z_7 ez_7 => ?_)
        obtain rfl : z_7 = nI (24 * x0 + i) := ez_7.trans (nI_add (24 * x0) i)
        refine lv_aload_n hx hb dX9_erase_32 rfl (lv_at hl 0 rfl) ?_
        refine va_get (D := (dC, dI)) (ci := 9) (v := .ref a_keys) (C := RX9) (T := TX9) (N := 50) hx hb hts k_1 hown hK hP 0 rfl rfl 15 (by decide) k_3 (fun _ h9 => h9) rfl dX9_erase_33 ?_
        refine lv_bipush (v := 24) hx hb dX9_erase_36 (by decide) ?_
        refine lv_iload_n hx hb dX9_erase_38 rfl (lv_at hl 1 rfl) ?_
        refine lv_imul hx hb dX9_erase_39 ?_
        refine lv_topi (fun z_8 ez_8 => ?_)
        obtain rfl : z_8 = nI (24 * x0) := ez_8.trans (pk_mul 24 x0)
        refine lv_iload_n hx hb dX9_erase_40 rfl (lv_at hl 3 rfl) ?_
        refine lv_iadd hx hb dX9_erase_41 ?_
        refine lv_topi (fun z_9 ez_9 => ?_)
        obtain rfl : z_9 = nI (24 * x0 + i) := ez_9.trans (nI_add (24 * x0) i)
        refine lv_iconst (v := 1) hx hb dX9_erase_42 (by decide) ?_
        refine lv_iadd hx hb dX9_erase_43 ?_
        refine lv_topi (fun z_10 ez_10 => ?_)
        obtain rfl : z_10 = nI (24 * x0 + i + 1) := ez_10.trans (nI_add (24 * x0 + i) 1)
        refine va_iald hx hb hK hP 2 0 rfl rfl (show vp_in (nI (24 * x0 + i + 1)) 3360 from vp_in_nI (by omega) (by omega)) dX9_erase_44 ?_
        refine lv_topi (fun z_11 ez_11 => ?_)
        obtain rfl : z_11 = kv (24 * x0 + i + 1) := ez_11.trans (congrArg kv (nI_clamp (by omega)))
        refine va_iast hx hb hK hP hD hS 2 0 rfl rfl (show vp_in (nI (24 * x0 + i)) 3360 from vp_in_nI (by omega) (by omega)) dX9_erase_45 (fun H locs hP hD hS => ?_)
        have hP : va_P (dC, dI) vwCl [(h0, .inr (9, [.int (nI w), .int (nI b), .int (nI lm), .int (nI cm), .int (nI li), .int (nI ci), .ref a_disk, .int v_isDown, .int v_isArmed, .int v_armedWrites, .int v_armedWords, .int v_writes, .ref a_kind, .ref a_many, .ref a_block, .ref a_keys, .ref a_vals, .ref a_isFresh, .ref a_kindWas, .ref a_manyWas, .ref a_blockWas, .ref a_keysWas, .ref a_valsWas, .ref a_freshWas, .int v_root, .int v_rootWas, .int v_latest, .int v_epoch, .ref a_reached, .ref a_oldKeys, .ref a_oldVals, .ref a_allKeys, .ref a_allVals, .int v_oldMany, .int v_allMany, .ref a_row, .ref a_written, .int v_writtenMany, .ref a_path, .ref a_place, .int v_depth, .ref a_freeRow, .int v_isOther, .int v_moved, .ref a_bothKeys, .ref a_bothVals, .int v_leafDepth, .int v_found, .int v_lastKey, .int v_hasLast])), (a_many, .inl (cI, 140, .inl f_3)), (a_keys, .inl (cI, 3360, .inl (upd kv ((nI (24 * x0 + i)).toNatClampNeg) (kv (24 * x0 + i + 1))))), (a_vals, .inl (cI, 3360, .inl vv))] H := hP
        have hD : va_D A [(h0, .inr (9, [.int (nI w), .int (nI b), .int (nI lm), .int (nI cm), .int (nI li), .int (nI ci), .ref a_disk, .int v_isDown, .int v_isArmed, .int v_armedWrites, .int v_armedWords, .int v_writes, .ref a_kind, .ref a_many, .ref a_block, .ref a_keys, .ref a_vals, .ref a_isFresh, .ref a_kindWas, .ref a_manyWas, .ref a_blockWas, .ref a_keysWas, .ref a_valsWas, .ref a_freshWas, .int v_root, .int v_rootWas, .int v_latest, .int v_epoch, .ref a_reached, .ref a_oldKeys, .ref a_oldVals, .ref a_allKeys, .ref a_allVals, .int v_oldMany, .int v_allMany, .ref a_row, .ref a_written, .int v_writtenMany, .ref a_path, .ref a_place, .int v_depth, .ref a_freeRow, .int v_isOther, .int v_moved, .ref a_bothKeys, .ref a_bothVals, .int v_leafDepth, .int v_found, .int v_lastKey, .int v_hasLast])), (a_many, .inl (cI, 140, .inl f_3)), (a_keys, .inl (cI, 3360, .inl (upd kv ((nI (24 * x0 + i)).toNatClampNeg) (kv (24 * x0 + i + 1))))), (a_vals, .inl (cI, 3360, .inl vv))] := hD
        rw [show (nI (24 * x0 + i)).toNatClampNeg = 24 * x0 + i from nI_clamp (by omega)] at hP hD
        obtain ⟨f_12, ef_12⟩ : ∃ g9, g9 = upd kv (24 * x0 + i) (kv (24 * x0 + i + 1)) := ⟨_, rfl⟩
        rw [← ef_12] at hP hD
        refine lv_aload_n hx hb dX9_erase_46 rfl (lv_at hl 0 rfl) ?_
        refine va_get (D := (dC, dI)) (ci := 9) (v := .ref a_vals) (C := RX9) (T := TX9) (N := 50) hx hb hts k_1 hown hK hP 0 rfl rfl 16 (by decide) k_4 (fun _ h9 => h9) rfl dX9_erase_47 ?_
        refine lv_bipush (v := 24) hx hb dX9_erase_50 (by decide) ?_
        refine lv_iload_n hx hb dX9_erase_52 rfl (lv_at hl 1 rfl) ?_
        refine lv_imul hx hb dX9_erase_53 ?_
        refine lv_topi (fun z_13 ez_13 => ?_)
        obtain rfl : z_13 = nI (24 * x0) := ez_13.trans (pk_mul 24 x0)
        refine lv_iload_n hx hb dX9_erase_54 rfl (lv_at hl 3 rfl) ?_
        refine lv_iadd hx hb dX9_erase_55 ?_
        refine lv_topi (fun z_14 ez_14 => ?_)
        obtain rfl : z_14 = nI (24 * x0 + i) := ez_14.trans (nI_add (24 * x0) i)
        refine lv_aload_n hx hb dX9_erase_56 rfl (lv_at hl 0 rfl) ?_
        refine va_get (D := (dC, dI)) (ci := 9) (v := .ref a_vals) (C := RX9) (T := TX9) (N := 50) hx hb hts k_1 hown hK hP 0 rfl rfl 16 (by decide) k_4 (fun _ h9 => h9) rfl dX9_erase_57 ?_
        refine lv_bipush (v := 24) hx hb dX9_erase_60 (by decide) ?_
        refine lv_iload_n hx hb dX9_erase_62 rfl (lv_at hl 1 rfl) ?_
        refine lv_imul hx hb dX9_erase_63 ?_
        refine lv_topi (fun z_15 ez_15 => ?_)
        obtain rfl : z_15 = nI (24 * x0) := ez_15.trans (pk_mul 24 x0)
        refine lv_iload_n hx hb dX9_erase_64 rfl (lv_at hl 3 rfl) ?_
        refine lv_iadd hx hb dX9_erase_65 ?_
        refine lv_topi (fun z_16 ez_16 => ?_)
        obtain rfl : z_16 = nI (24 * x0 + i) := ez_16.trans (nI_add (24 * x0) i)
        refine lv_iconst (v := 1) hx hb dX9_erase_66 (by decide) ?_
        refine lv_iadd hx hb dX9_erase_67 ?_
        refine lv_topi (fun z_17 ez_17 => ?_)
        obtain rfl : z_17 = nI (24 * x0 + i + 1) := ez_17.trans (nI_add (24 * x0 + i) 1)
        refine va_iald hx hb hK hP 3 0 rfl rfl (show vp_in (nI (24 * x0 + i + 1)) 3360 from vp_in_nI (by omega) (by omega)) dX9_erase_68 ?_
        refine lv_topi (fun z_18 ez_18 => ?_)
        obtain rfl : z_18 = vv (24 * x0 + i + 1) := ez_18.trans (congrArg vv (nI_clamp (by omega)))
        refine va_iast hx hb hK hP hD hS 3 0 rfl rfl (show vp_in (nI (24 * x0 + i)) 3360 from vp_in_nI (by omega) (by omega)) dX9_erase_69 (fun H locs hP hD hS => ?_)
        have hP : va_P (dC, dI) vwCl [(h0, .inr (9, [.int (nI w), .int (nI b), .int (nI lm), .int (nI cm), .int (nI li), .int (nI ci), .ref a_disk, .int v_isDown, .int v_isArmed, .int v_armedWrites, .int v_armedWords, .int v_writes, .ref a_kind, .ref a_many, .ref a_block, .ref a_keys, .ref a_vals, .ref a_isFresh, .ref a_kindWas, .ref a_manyWas, .ref a_blockWas, .ref a_keysWas, .ref a_valsWas, .ref a_freshWas, .int v_root, .int v_rootWas, .int v_latest, .int v_epoch, .ref a_reached, .ref a_oldKeys, .ref a_oldVals, .ref a_allKeys, .ref a_allVals, .int v_oldMany, .int v_allMany, .ref a_row, .ref a_written, .int v_writtenMany, .ref a_path, .ref a_place, .int v_depth, .ref a_freeRow, .int v_isOther, .int v_moved, .ref a_bothKeys, .ref a_bothVals, .int v_leafDepth, .int v_found, .int v_lastKey, .int v_hasLast])), (a_many, .inl (cI, 140, .inl f_3)), (a_keys, .inl (cI, 3360, .inl f_12)), (a_vals, .inl (cI, 3360, .inl (upd vv ((nI (24 * x0 + i)).toNatClampNeg) (vv (24 * x0 + i + 1)))))] H := hP
        have hD : va_D A [(h0, .inr (9, [.int (nI w), .int (nI b), .int (nI lm), .int (nI cm), .int (nI li), .int (nI ci), .ref a_disk, .int v_isDown, .int v_isArmed, .int v_armedWrites, .int v_armedWords, .int v_writes, .ref a_kind, .ref a_many, .ref a_block, .ref a_keys, .ref a_vals, .ref a_isFresh, .ref a_kindWas, .ref a_manyWas, .ref a_blockWas, .ref a_keysWas, .ref a_valsWas, .ref a_freshWas, .int v_root, .int v_rootWas, .int v_latest, .int v_epoch, .ref a_reached, .ref a_oldKeys, .ref a_oldVals, .ref a_allKeys, .ref a_allVals, .int v_oldMany, .int v_allMany, .ref a_row, .ref a_written, .int v_writtenMany, .ref a_path, .ref a_place, .int v_depth, .ref a_freeRow, .int v_isOther, .int v_moved, .ref a_bothKeys, .ref a_bothVals, .int v_leafDepth, .int v_found, .int v_lastKey, .int v_hasLast])), (a_many, .inl (cI, 140, .inl f_3)), (a_keys, .inl (cI, 3360, .inl f_12)), (a_vals, .inl (cI, 3360, .inl (upd vv ((nI (24 * x0 + i)).toNatClampNeg) (vv (24 * x0 + i + 1)))))] := hD
        rw [show (nI (24 * x0 + i)).toNatClampNeg = 24 * x0 + i from nI_clamp (by omega)] at hP hD
        obtain ⟨f_19, ef_19⟩ : ∃ g9, g9 = upd vv (24 * x0 + i) (vv (24 * x0 + i + 1)) := ⟨_, rfl⟩
        rw [← ef_19] at hP hD
        refine lv_iinc (v := (nI (i + 1))) (lv' := [(3, .int (nI (i + 1))), (0, .ref h0), (1, .int (nI x0)), (2, .int (nI i0))]) hx hb dX9_erase_70 hl (k := 3) rfl (nI_1 i) (by decide) rfl (fun ls hl => ?_)
        refine lv_goto (tgt := 12) hx hb dX9_erase_73 (by decide) ?_
        exact ih_12 (i + 1) f_12 f_19 _ _ _ (by omega) (by omega) (by omega) (eraF_step hF (by omega) (by omega) ef_19) hP hD hS (lv_sub hl [1, 2, 3, 0] rfl)
  exact loop_12 (n0 + 1) i0 ks vl _ _ _ (by omega) (by omega) (by omega) (eraF_start _ _ _) hP hD hS (lv_sub hl [1, 2, 3, 0] rfl)
def v_X9_part : List Cond := .code yX9_part cX9_part 5 (some .int) :: ([.fieldLink RX9 13 "TwinRootsModel" "kind" "[I", .code yX9_newNode cX9_newNode 3 (some .int), .fieldLink RX9 17 "TwinRootsModel" "many" "[I", .fieldLink RX9 20 "TwinRootsModel" "block" "[I", .fieldLink RX9 29 "TwinRootsModel" "isFresh" "[Z", .methodLink RX9 179 yX9_newNode, .instanceMethod yX9_newNode, .selects RX9 yX9_newNode yX9_newNode, .initialized RX9, .fieldLink RX9 23 "TwinRootsModel" "keys" "[I", .fieldLink RX9 26 "TwinRootsModel" "vals" "[I"] ++ (wsX90 ++ ([])))
set_option maxRecDepth 20000 in
theorem g_X9_part_X9_newNode : GoodIn v_X9_part (wsV RX9 179 RX9 yX9_newNode v_X9_newNode) := goodIn_r _ [6, 7, 8, 9, 2, 1, 3, 4, 5, 12, 13, 14, 15, 16, 17, 18, 19, 20, 21, 22, 23, 24, 25, 26, 27, 28, 29, 30, 31, 32, 33, 34, 35, 36, 37, 38, 39, 40, 41, 42, 43, 44, 45, 46, 47, 48, 49, 50, 51, 52, 53, 54, 55, 56, 57, 58, 59, 60, 61] (by decide +kernel) (by decide +kernel)
set_option maxHeartbeats 4000000 in
set_option maxRecDepth 100000 in
/-- X9_part -/
theorem c_X9_part (l : Launch) (dC : Nat → ClassId) (dI : Nat → Nat → Nat) (sz : Nat) (h0 : Nat) (w : Nat) (b : Nat) (lm : Nat) (cm : Nat) (li : Nat) (ci : Nat) (a_disk : Nat) (a_kind : Nat) (a_many : Nat) (a_block : Nat) (a_keys : Nat) (a_vals : Nat) (a_isFresh : Nat) (a_kindWas : Nat) (a_manyWas : Nat) (a_blockWas : Nat) (a_keysWas : Nat) (a_valsWas : Nat) (a_freshWas : Nat) (a_reached : Nat) (a_oldKeys : Nat) (a_oldVals : Nat) (a_allKeys : Nat) (a_allVals : Nat) (a_row : Nat) (a_written : Nat) (a_path : Nat) (a_place : Nat) (a_freeRow : Nat) (a_bothKeys : Nat) (a_bothVals : Nat) (v_isDown : Int32) (v_isArmed : Int32) (v_armedWrites : Int32) (v_armedWords : Int32) (v_writes : Int32) (v_root : Int32) (v_rootWas : Int32) (v_latest : Int32) (v_epoch : Int32) (v_oldMany : Int32) (v_allMany : Int32) (v_writtenMany : Int32) (v_depth : Int32) (v_isOther : Int32) (v_moved : Int32) (v_leafDepth : Int32) (v_found : Int32) (v_lastKey : Int32) (v_hasLast : Int32) (cI : ClassId) (cZ : ClassId) (k : Nat → Int32) (mm : Nat → Int32) (ks : Nat → Int32) (vl : Nat → Int32) (bl : Nat → Int32) (fr : Nat → Int32) (x0 : Nat) (n0 : Nat) (x9 : Nat) (hxx : x0 < 140) (hm0 : mm x0 = nI n0) (h9 : x9 < 140) (hk9 : k x9 = 0) (hn0 : n0 ≤ 23) (hkx : ¬ k x0 = 0) : Met l yX9_part v_X9_part ({ frames := 1, cells := 0, slots := 0, locals := 22 } : Room) (va_Pc [.ref h0, .int (nI x0)] (fun U => U.heap.size = sz ∧ va_P (dC, dI) vwCl [(h0, .inr (9, [.int (nI w), .int (nI b), .int (nI lm), .int (nI cm), .int (nI li), .int (nI ci), .ref a_disk, .int v_isDown, .int v_isArmed, .int v_armedWrites, .int v_armedWords, .int v_writes, .ref a_kind, .ref a_many, .ref a_block, .ref a_keys, .ref a_vals, .ref a_isFresh, .ref a_kindWas, .ref a_manyWas, .ref a_blockWas, .ref a_keysWas, .ref a_valsWas, .ref a_freshWas, .int v_root, .int v_rootWas, .int v_latest, .int v_epoch, .ref a_reached, .ref a_oldKeys, .ref a_oldVals, .ref a_allKeys, .ref a_allVals, .int v_oldMany, .int v_allMany, .ref a_row, .ref a_written, .int v_writtenMany, .ref a_path, .ref a_place, .int v_depth, .ref a_freeRow, .int v_isOther, .int v_moved, .ref a_bothKeys, .ref a_bothVals, .int v_leafDepth, .int v_found, .int v_lastKey, .int v_hasLast])), (a_kind, .inl (cI, 140, .inl k)), (a_many, .inl (cI, 140, .inl mm)), (a_keys, .inl (cI, 3360, .inl ks)), (a_vals, .inl (cI, 3360, .inl vl)), (a_block, .inl (cI, 140, .inl bl)), (a_isFresh, .inl (cZ, 140, .inl fr))] U.heap ∧ va_K (dC, dI) vwCl [(cI, .int), (cZ, .boolean)] U ∧ va_D (fun _ => True) [(h0, .inr (9, [.int (nI w), .int (nI b), .int (nI lm), .int (nI cm), .int (nI li), .int (nI ci), .ref a_disk, .int v_isDown, .int v_isArmed, .int v_armedWrites, .int v_armedWords, .int v_writes, .ref a_kind, .ref a_many, .ref a_block, .ref a_keys, .ref a_vals, .ref a_isFresh, .ref a_kindWas, .ref a_manyWas, .ref a_blockWas, .ref a_keysWas, .ref a_valsWas, .ref a_freshWas, .int v_root, .int v_rootWas, .int v_latest, .int v_epoch, .ref a_reached, .ref a_oldKeys, .ref a_oldVals, .ref a_allKeys, .ref a_allVals, .int v_oldMany, .int v_allMany, .ref a_row, .ref a_written, .int v_writtenMany, .ref a_path, .ref a_place, .int v_depth, .ref a_freeRow, .int v_isOther, .int v_moved, .ref a_bothKeys, .ref a_bothVals, .int v_leafDepth, .int v_found, .int v_lastKey, .int v_hasLast])), (a_kind, .inl (cI, 140, .inl k)), (a_many, .inl (cI, 140, .inl mm)), (a_keys, .inl (cI, 3360, .inl ks)), (a_vals, .inl (cI, 3360, .inl vl)), (a_block, .inl (cI, 140, .inl bl)), (a_isFresh, .inl (cZ, 140, .inl fr))])) (va_Qi (fun (r : Int32) (u : (Nat → Int32) × (Nat → Int32) × (Nat → Int32) × (Nat → Int32) × (Nat → Int32) × (Nat → Int32) × Nat) => match u with | (k2, mm2, ks2, vl2, bl2, fr2, z2) => r = nI z2 ∧ PartR k mm vl bl fr k2 mm2 vl2 bl2 fr2 x0 z2 n0 ((n0 + 1) / 2)) (fun (u : (Nat → Int32) × (Nat → Int32) × (Nat → Int32) × (Nat → Int32) × (Nat → Int32) × (Nat → Int32) × Nat) (t : State) => match u with | (k2, mm2, ks2, vl2, bl2, fr2, z2) => va_P (dC, dI) vwCl [(h0, .inr (9, [.int (nI w), .int (nI b), .int (nI lm), .int (nI cm), .int (nI li), .int (nI ci), .ref a_disk, .int v_isDown, .int v_isArmed, .int v_armedWrites, .int v_armedWords, .int v_writes, .ref a_kind, .ref a_many, .ref a_block, .ref a_keys, .ref a_vals, .ref a_isFresh, .ref a_kindWas, .ref a_manyWas, .ref a_blockWas, .ref a_keysWas, .ref a_valsWas, .ref a_freshWas, .int v_root, .int v_rootWas, .int v_latest, .int v_epoch, .ref a_reached, .ref a_oldKeys, .ref a_oldVals, .ref a_allKeys, .ref a_allVals, .int v_oldMany, .int v_allMany, .ref a_row, .ref a_written, .int v_writtenMany, .ref a_path, .ref a_place, .int v_depth, .ref a_freeRow, .int v_isOther, .int v_moved, .ref a_bothKeys, .ref a_bothVals, .int v_leafDepth, .int v_found, .int v_lastKey, .int v_hasLast])), (a_kind, .inl (cI, 140, .inl k2)), (a_many, .inl (cI, 140, .inl mm2)), (a_keys, .inl (cI, 3360, .inl ks2)), (a_vals, .inl (cI, 3360, .inl vl2)), (a_block, .inl (cI, 140, .inl bl2)), (a_isFresh, .inl (cZ, 140, .inl fr2))] t.heap ∧ va_K (dC, dI) vwCl [(cI, .int), (cZ, .boolean)] t ∧ va_D (va_A [(h0, .inr (9, [.int (nI w), .int (nI b), .int (nI lm), .int (nI cm), .int (nI li), .int (nI ci), .ref a_disk, .int v_isDown, .int v_isArmed, .int v_armedWrites, .int v_armedWords, .int v_writes, .ref a_kind, .ref a_many, .ref a_block, .ref a_keys, .ref a_vals, .ref a_isFresh, .ref a_kindWas, .ref a_manyWas, .ref a_blockWas, .ref a_keysWas, .ref a_valsWas, .ref a_freshWas, .int v_root, .int v_rootWas, .int v_latest, .int v_epoch, .ref a_reached, .ref a_oldKeys, .ref a_oldVals, .ref a_allKeys, .ref a_allVals, .int v_oldMany, .int v_allMany, .ref a_row, .ref a_written, .int v_writtenMany, .ref a_path, .ref a_place, .int v_depth, .ref a_freeRow, .int v_isOther, .int v_moved, .ref a_bothKeys, .ref a_bothVals, .int v_leafDepth, .int v_found, .int v_lastKey, .int v_hasLast])), (a_kind, .inl (cI, 140, .inl k)), (a_many, .inl (cI, 140, .inl mm)), (a_keys, .inl (cI, 3360, .inl ks)), (a_vals, .inl (cI, 3360, .inl vl)), (a_block, .inl (cI, 140, .inl bl)), (a_isFresh, .inl (cZ, 140, .inl fr))] sz) [(h0, .inr (9, [.int (nI w), .int (nI b), .int (nI lm), .int (nI cm), .int (nI li), .int (nI ci), .ref a_disk, .int v_isDown, .int v_isArmed, .int v_armedWrites, .int v_armedWords, .int v_writes, .ref a_kind, .ref a_many, .ref a_block, .ref a_keys, .ref a_vals, .ref a_isFresh, .ref a_kindWas, .ref a_manyWas, .ref a_blockWas, .ref a_keysWas, .ref a_valsWas, .ref a_freshWas, .int v_root, .int v_rootWas, .int v_latest, .int v_epoch, .ref a_reached, .ref a_oldKeys, .ref a_oldVals, .ref a_allKeys, .ref a_allVals, .int v_oldMany, .int v_allMany, .ref a_row, .ref a_written, .int v_writtenMany, .ref a_path, .ref a_place, .int v_depth, .ref a_freeRow, .int v_isOther, .int v_moved, .ref a_bothKeys, .ref a_bothVals, .int v_leafDepth, .int v_found, .int v_lastKey, .int v_hasLast])), (a_kind, .inl (cI, 140, .inl k2)), (a_many, .inl (cI, 140, .inl mm2)), (a_keys, .inl (cI, 3360, .inl ks2)), (a_vals, .inl (cI, 3360, .inl vl2)), (a_block, .inl (cI, 140, .inl bl2)), (a_isFresh, .inl (cZ, 140, .inl fr2))]) (va_A [(h0, .inr (9, [.int (nI w), .int (nI b), .int (nI lm), .int (nI cm), .int (nI li), .int (nI ci), .ref a_disk, .int v_isDown, .int v_isArmed, .int v_armedWrites, .int v_armedWords, .int v_writes, .ref a_kind, .ref a_many, .ref a_block, .ref a_keys, .ref a_vals, .ref a_isFresh, .ref a_kindWas, .ref a_manyWas, .ref a_blockWas, .ref a_keysWas, .ref a_valsWas, .ref a_freshWas, .int v_root, .int v_rootWas, .int v_latest, .int v_epoch, .ref a_reached, .ref a_oldKeys, .ref a_oldVals, .ref a_allKeys, .ref a_allVals, .int v_oldMany, .int v_allMany, .ref a_row, .ref a_written, .int v_writtenMany, .ref a_path, .ref a_place, .int v_depth, .ref a_freeRow, .int v_isOther, .int v_moved, .ref a_bothKeys, .ref a_bothVals, .int v_leafDepth, .int v_found, .int v_lastKey, .int v_hasLast])), (a_kind, .inl (cI, 140, .inl k)), (a_many, .inl (cI, 140, .inl mm)), (a_keys, .inl (cI, 3360, .inl ks)), (a_vals, .inl (cI, 3360, .inl vl)), (a_block, .inl (cI, 140, .inl bl)), (a_isFresh, .inl (cZ, 140, .inl fr))] sz)) 0 0 (va_A [(h0, .inr (9, [.int (nI w), .int (nI b), .int (nI lm), .int (nI cm), .int (nI li), .int (nI ci), .ref a_disk, .int v_isDown, .int v_isArmed, .int v_armedWrites, .int v_armedWords, .int v_writes, .ref a_kind, .ref a_many, .ref a_block, .ref a_keys, .ref a_vals, .ref a_isFresh, .ref a_kindWas, .ref a_manyWas, .ref a_blockWas, .ref a_keysWas, .ref a_valsWas, .ref a_freshWas, .int v_root, .int v_rootWas, .int v_latest, .int v_epoch, .ref a_reached, .ref a_oldKeys, .ref a_oldVals, .ref a_allKeys, .ref a_allVals, .int v_oldMany, .int v_allMany, .ref a_row, .ref a_written, .int v_writtenMany, .ref a_path, .ref a_place, .int v_depth, .ref a_freeRow, .int v_isOther, .int v_moved, .ref a_bothKeys, .ref a_bothVals, .int v_leafDepth, .int v_found, .int v_lastKey, .int v_hasLast])), (a_kind, .inl (cI, 140, .inl k)), (a_many, .inl (cI, 140, .inl mm)), (a_keys, .inl (cI, 3360, .inl ks)), (a_vals, .inl (cI, 3360, .inl vl)), (a_block, .inl (cI, 140, .inl bl)), (a_isFresh, .inl (cZ, 140, .inl fr))] sz) := by
  refine Met.ofW (cc := cX9_part) (maxL := 5) (ret := (some .int)) (by decide) rfl ?_
  intro p e s m args below meth c s₁ B hml hv
  obtain ⟨rfl, hsz, hP, hK, hD0⟩ := hv
  have hx := B.exec
  have hb := B.bytes
  have hr := B.returns
  have hts := atoms_spec (ws := v_X9_part) B.pre
  have hown : s.vm.findClass RX9 = some m.cls := findClass_of_methodNamed B.named
  have hlocks := B.notSynchronized
  subst hsz
  have hD := hD0.self (sz := s.heap.size)
  generalize hAe : va_A [(h0, .inr (9, [.int (nI w), .int (nI b), .int (nI lm), .int (nI cm), .int (nI li), .int (nI ci), .ref a_disk, .int v_isDown, .int v_isArmed, .int v_armedWrites, .int v_armedWords, .int v_writes, .ref a_kind, .ref a_many, .ref a_block, .ref a_keys, .ref a_vals, .ref a_isFresh, .ref a_kindWas, .ref a_manyWas, .ref a_blockWas, .ref a_keysWas, .ref a_valsWas, .ref a_freshWas, .int v_root, .int v_rootWas, .int v_latest, .int v_epoch, .ref a_reached, .ref a_oldKeys, .ref a_oldVals, .ref a_allKeys, .ref a_allVals, .int v_oldMany, .int v_allMany, .ref a_row, .ref a_written, .int v_writtenMany, .ref a_path, .ref a_place, .int v_depth, .ref a_freeRow, .int v_isOther, .int v_moved, .ref a_bothKeys, .ref a_bothVals, .int v_leafDepth, .int v_found, .int v_lastKey, .int v_hasLast])), (a_kind, .inl (cI, 140, .inl k)), (a_many, .inl (cI, 140, .inl mm)), (a_keys, .inl (cI, 3360, .inl ks)), (a_vals, .inl (cI, 3360, .inl vl)), (a_block, .inl (cI, 140, .inl bl)), (a_isFresh, .inl (cZ, 140, .inl fr))] s.heap.size = A at hD ⊢
  have hA : ∀ q : Nat, s.heap.size ≤ q → A q := fun q h => by rw [← hAe]; exact Or.inr h
  have hS : va_S A s.heap s.heap [] := va_S.rf
  have hP : va_P (dC, dI) vwCl [(h0, .inr (9, [.int (nI w), .int (nI b), .int (nI lm), .int (nI cm), .int (nI li), .int (nI ci), .ref a_disk, .int v_isDown, .int v_isArmed, .int v_armedWrites, .int v_armedWords, .int v_writes, .ref a_kind, .ref a_many, .ref a_block, .ref a_keys, .ref a_vals, .ref a_isFresh, .ref a_kindWas, .ref a_manyWas, .ref a_blockWas, .ref a_keysWas, .ref a_valsWas, .ref a_freshWas, .int v_root, .int v_rootWas, .int v_latest, .int v_epoch, .ref a_reached, .ref a_oldKeys, .ref a_oldVals, .ref a_allKeys, .ref a_allVals, .int v_oldMany, .int v_allMany, .ref a_row, .ref a_written, .int v_writtenMany, .ref a_path, .ref a_place, .int v_depth, .ref a_freeRow, .int v_isOther, .int v_moved, .ref a_bothKeys, .ref a_bothVals, .int v_leafDepth, .int v_found, .int v_lastKey, .int v_hasLast])), (a_kind, .inl (cI, 140, .inl k)), (a_many, .inl (cI, 140, .inl mm)), (a_keys, .inl (cI, 3360, .inl ks)), (a_vals, .inl (cI, 3360, .inl vl)), (a_block, .inl (cI, 140, .inl bl)), (a_isFresh, .inl (cZ, 140, .inl fr))] s.heap := hP
  have hl := lv_entry ([.ref h0, .int (nI x0)]) (n := 5) (Nat.le_of_ble_eq_true rfl)
  rw [lg_entry_eq]
  generalize (lg_sl ([.ref h0, .int (nI x0)]) ++ List.replicate (5 - (lg_sl ([.ref h0, .int (nI x0)])).length) Slot.unset).toArray = ls at hl ⊢
  have hl : lv_has ls 5 [(0, .ref h0), (1, .int (nI x0))] := hl
  have k_1 := (fun _ h => List.mem_cons_of_mem _ (List.mem_append_right _ (List.mem_append_left _ h)) : ∀ w ∈ wsX90, w ∈ v_X9_part)
  have k_2 := hts (.fieldLink RX9 13 "TwinRootsModel" "kind" "[I") (List.mem_of_getElem? (i := 1) rfl)
  have k_3 := hts (.fieldLink RX9 17 "TwinRootsModel" "many" "[I") (List.mem_of_getElem? (i := 3) rfl)
  have k_4 := hts (.fieldLink RX9 23 "TwinRootsModel" "keys" "[I") (List.mem_of_getElem? (i := 10) rfl)
  have k_5 := hts (.fieldLink RX9 26 "TwinRootsModel" "vals" "[I") (List.mem_of_getElem? (i := 11) rfl)
  refine lv_aload_n hx hb dX9_part_0 rfl (lv_at hl 0 rfl) ?_
  refine lv_aload_n hx hb dX9_part_1 rfl (lv_at hl 0 rfl) ?_
  refine va_get (D := (dC, dI)) (ci := 9) (v := .ref a_kind) (C := RX9) (T := TX9) (N := 50) hx hb hts k_1 hown hK hP 0 rfl rfl 12 (by decide) k_2 (fun _ h9 => h9) rfl dX9_part_2 ?_
  refine lv_iload_n hx hb dX9_part_5 rfl (lv_at hl 1 rfl) ?_
  refine va_iald hx hb hK hP 1 0 rfl rfl (show vp_in (nI x0) 140 from vp_in_nI (by omega) (by omega)) dX9_part_6 ?_
  refine lv_topi (fun z_1 ez_1 => ?_)
  obtain rfl : z_1 = k x0 := ez_1.trans (congrArg k (nI_clamp (by omega)))
  have hPc := hP.sub (ws' := [(h0, .inr (9, [.int (nI w), .int (nI b), .int (nI lm), .int (nI cm), .int (nI li), .int (nI ci), .ref a_disk, .int v_isDown, .int v_isArmed, .int v_armedWrites, .int v_armedWords, .int v_writes, .ref a_kind, .ref a_many, .ref a_block, .ref a_keys, .ref a_vals, .ref a_isFresh, .ref a_kindWas, .ref a_manyWas, .ref a_blockWas, .ref a_keysWas, .ref a_valsWas, .ref a_freshWas, .int v_root, .int v_rootWas, .int v_latest, .int v_epoch, .ref a_reached, .ref a_oldKeys, .ref a_oldVals, .ref a_allKeys, .ref a_allVals, .int v_oldMany, .int v_allMany, .ref a_row, .ref a_written, .int v_writtenMany, .ref a_path, .ref a_place, .int v_depth, .ref a_freeRow, .int v_isOther, .int v_moved, .ref a_bothKeys, .ref a_bothVals, .int v_leafDepth, .int v_found, .int v_lastKey, .int v_hasLast])), (a_kind, .inl (cI, 140, .inl k)), (a_many, .inl (cI, 140, .inl mm)), (a_block, .inl (cI, 140, .inl bl)), (a_isFresh, .inl (cZ, 140, .inl fr))]) [0, 1, 2, 5, 6] rfl
  have hDc := hD.sub (ws' := [(h0, .inr (9, [.int (nI w), .int (nI b), .int (nI lm), .int (nI cm), .int (nI li), .int (nI ci), .ref a_disk, .int v_isDown, .int v_isArmed, .int v_armedWrites, .int v_armedWords, .int v_writes, .ref a_kind, .ref a_many, .ref a_block, .ref a_keys, .ref a_vals, .ref a_isFresh, .ref a_kindWas, .ref a_manyWas, .ref a_blockWas, .ref a_keysWas, .ref a_valsWas, .ref a_freshWas, .int v_root, .int v_rootWas, .int v_latest, .int v_epoch, .ref a_reached, .ref a_oldKeys, .ref a_oldVals, .ref a_allKeys, .ref a_allVals, .int v_oldMany, .int v_allMany, .ref a_row, .ref a_written, .int v_writtenMany, .ref a_path, .ref a_place, .int v_depth, .ref a_freeRow, .int v_isOther, .int v_moved, .ref a_bothKeys, .ref a_bothVals, .int v_leafDepth, .int v_found, .int v_lastKey, .int v_hasLast])), (a_kind, .inl (cI, 140, .inl k)), (a_many, .inl (cI, 140, .inl mm)), (a_block, .inl (cI, 140, .inl bl)), (a_isFresh, .inl (cZ, 140, .inl fr))]) [0, 1, 2, 5, 6] (by decide) rfl
  have hKc := hK.sub (tys' := [(cI, .int), (cZ, .boolean)]) [0, 1] rfl
  have hFc := va_free (wc := [(h0, .inr (9, [.int (nI w), .int (nI b), .int (nI lm), .int (nI cm), .int (nI li), .int (nI ci), .ref a_disk, .int v_isDown, .int v_isArmed, .int v_armedWrites, .int v_armedWords, .int v_writes, .ref a_kind, .ref a_many, .ref a_block, .ref a_keys, .ref a_vals, .ref a_isFresh, .ref a_kindWas, .ref a_manyWas, .ref a_blockWas, .ref a_keysWas, .ref a_valsWas, .ref a_freshWas, .int v_root, .int v_rootWas, .int v_latest, .int v_epoch, .ref a_reached, .ref a_oldKeys, .ref a_oldVals, .ref a_allKeys, .ref a_allVals, .int v_oldMany, .int v_allMany, .ref a_row, .ref a_written, .int v_writtenMany, .ref a_path, .ref a_place, .int v_depth, .ref a_freeRow, .int v_isOther, .int v_moved, .ref a_bothKeys, .ref a_bothVals, .int v_leafDepth, .int v_found, .int v_lastKey, .int v_hasLast])), (a_kind, .inl (cI, 140, .inl k)), (a_many, .inl (cI, 140, .inl mm)), (a_block, .inl (cI, 140, .inl bl)), (a_isFresh, .inl (cZ, 140, .inl fr))]) hD hS hA [0, 1, 2, 5, 6] rfl
  refine va_calli (va_runV (As := [.int (k x0)]) (rest := []) ⟨hx, hb, hml, hown, hts⟩ (c_X9_newNode l dC dI s.heap.size h0 w b lm cm li ci a_disk a_kind a_many a_block a_keys a_vals a_isFresh a_kindWas a_manyWas a_blockWas a_keysWas a_valsWas a_freshWas a_reached a_oldKeys a_oldVals a_allKeys a_allVals a_row a_written a_path a_place a_freeRow a_bothKeys a_bothVals v_isDown v_isArmed v_armedWrites v_armedWords v_writes v_root v_rootWas v_latest v_epoch v_oldMany v_allMany v_writtenMany v_depth v_isOther v_moved v_leafDepth v_found v_lastKey v_hasLast cI cZ k mm bl fr (k x0) x9 (by first | assumption | omega | decide) (by first | assumption | omega | decide)) (cwV 1 hts g_X9_part_X9_newNode rfl rfl rfl (by decide +kernel) ⟨Nat.le_of_ble_eq_true rfl, Nat.le_of_ble_eq_true rfl⟩) ⟨fun a U g mk q => by obtain ⟨q0, q1, qP, qK, qD⟩ := q; exact ⟨q0, q1, qP, va_K.moved (u := U) (U := U.calling g mk a) (Vm.Alike.refl U.vm) qK, qD⟩, va_recv hKc hPc (ci := 9) (q0 := 0) rfl rfl, fun U hU hW => ⟨rfl, by rw [hU], by rw [hU]; exact hPc, va_K.moved hW.alike hKc, hDc.weaken (fun _ _ _ _ => trivial)⟩⟩ rfl rfl hl.1 rfl (lv_room (Nat.le_of_ble_eq_true rfl)) dX9_part_7 ⟨(show 0 + 0 ≤ 0 by omega), (show 0 + 0 ≤ 0 by omega)⟩) hS (fun q _ h => hFc q h) hFc (fun r_2 u t H1 locs ht hvm hw hB hz1 hk1 hS => ?_)
  obtain ⟨kz, mz, bz, fz, zz⟩ := u
  obtain ⟨hP1, hK1, hD1⟩ := hB
  rw [ht] at hP1
  have hK1 := va_K.moved hvm.symm hK1
  try dsimp only at hw
  obtain ⟨hP, hD⟩ := va_join (wr := [(a_keys, .inl (cI, 3360, .inl ks)), (a_vals, .inl (cI, 3360, .inl vl))]) (w1 := [(h0, .inr (9, [.int (nI w), .int (nI b), .int (nI lm), .int (nI cm), .int (nI li), .int (nI ci), .ref a_disk, .int v_isDown, .int v_isArmed, .int v_armedWrites, .int v_armedWords, .int v_writes, .ref a_kind, .ref a_many, .ref a_block, .ref a_keys, .ref a_vals, .ref a_isFresh, .ref a_kindWas, .ref a_manyWas, .ref a_blockWas, .ref a_keysWas, .ref a_valsWas, .ref a_freshWas, .int v_root, .int v_rootWas, .int v_latest, .int v_epoch, .ref a_reached, .ref a_oldKeys, .ref a_oldVals, .ref a_allKeys, .ref a_allVals, .int v_oldMany, .int v_allMany, .ref a_row, .ref a_written, .int v_writtenMany, .ref a_path, .ref a_place, .int v_depth, .ref a_freeRow, .int v_isOther, .int v_moved, .ref a_bothKeys, .ref a_bothVals, .int v_leafDepth, .int v_found, .int v_lastKey, .int v_hasLast])), (a_kind, .inl (cI, 140, .inl kz)), (a_many, .inl (cI, 140, .inl mz)), (a_block, .inl (cI, 140, .inl bz)), (a_isFresh, .inl (cZ, 140, .inl fz))]) hP hD [0, 1, 2, 5, 6] [3, 4] rfl rfl (by decide) (by decide) hk1 hFc hP1 hD1
  have hK := (hK.sub (tys' := []) [] rfl).app hK1
  generalize H1 = H at hP hS ⊢
  have hP : va_P (dC, dI) vwCl [(a_keys, .inl (cI, 3360, .inl ks)), (a_vals, .inl (cI, 3360, .inl vl)), (h0, .inr (9, [.int (nI w), .int (nI b), .int (nI lm), .int (nI cm), .int (nI li), .int (nI ci), .ref a_disk, .int v_isDown, .int v_isArmed, .int v_armedWrites, .int v_armedWords, .int v_writes, .ref a_kind, .ref a_many, .ref a_block, .ref a_keys, .ref a_vals, .ref a_isFresh, .ref a_kindWas, .ref a_manyWas, .ref a_blockWas, .ref a_keysWas, .ref a_valsWas, .ref a_freshWas, .int v_root, .int v_rootWas, .int v_latest, .int v_epoch, .ref a_reached, .ref a_oldKeys, .ref a_oldVals, .ref a_allKeys, .ref a_allVals, .int v_oldMany, .int v_allMany, .ref a_row, .ref a_written, .int v_writtenMany, .ref a_path, .ref a_place, .int v_depth, .ref a_freeRow, .int v_isOther, .int v_moved, .ref a_bothKeys, .ref a_bothVals, .int v_leafDepth, .int v_found, .int v_lastKey, .int v_hasLast])), (a_kind, .inl (cI, 140, .inl kz)), (a_many, .inl (cI, 140, .inl mz)), (a_block, .inl (cI, 140, .inl bz)), (a_isFresh, .inl (cZ, 140, .inl fz))] H := hP
  have hD : va_D A [(a_keys, .inl (cI, 3360, .inl ks)), (a_vals, .inl (cI, 3360, .inl vl)), (h0, .inr (9, [.int (nI w), .int (nI b), .int (nI lm), .int (nI cm), .int (nI li), .int (nI ci), .ref a_disk, .int v_isDown, .int v_isArmed, .int v_armedWrites, .int v_armedWords, .int v_writes, .ref a_kind, .ref a_many, .ref a_block, .ref a_keys, .ref a_vals, .ref a_isFresh, .ref a_kindWas, .ref a_manyWas, .ref a_blockWas, .ref a_keysWas, .ref a_valsWas, .ref a_freshWas, .int v_root, .int v_rootWas, .int v_latest, .int v_epoch, .ref a_reached, .ref a_oldKeys, .ref a_oldVals, .ref a_allKeys, .ref a_allVals, .int v_oldMany, .int v_allMany, .ref a_row, .ref a_written, .int v_writtenMany, .ref a_path, .ref a_place, .int v_depth, .ref a_freeRow, .int v_isOther, .int v_moved, .ref a_bothKeys, .ref a_bothVals, .int v_leafDepth, .int v_found, .int v_lastKey, .int v_hasLast])), (a_kind, .inl (cI, 140, .inl kz)), (a_many, .inl (cI, 140, .inl mz)), (a_block, .inl (cI, 140, .inl bz)), (a_isFresh, .inl (cZ, 140, .inl fz))] := hD
  have hK : va_K (dC, dI) vwCl [(cI, .int), (cZ, .boolean)] s := hK
  have hw_r_2 := hw
  obtain rfl : r_2 = nI zz := hw.1
  have hN := hw.2
  have hzz := hN.1
  have hxz : x0 ≠ zz := fun h9 => hkx (h9 ▸ hN.2.1)
  have hm1 : mz x0 = nI n0 := by rw [hN.2.2.2.1, pk_un hxz]; exact hm0
  refine lv_istore_n (lv' := [(2, .int (nI zz)), (0, .ref h0), (1, .int (nI x0))]) hx hb dX9_part_10 rfl hl (by decide) rfl (fun ls hl => ?_)
  refine lv_aload_n hx hb dX9_part_11 rfl (lv_at hl 1 rfl) ?_
  refine va_get (D := (dC, dI)) (ci := 9) (v := .ref a_many) (C := RX9) (T := TX9) (N := 50) hx hb hts k_1 hown hK hP 2 rfl rfl 13 (by decide) k_3 (fun _ h9 => h9) rfl dX9_part_12 ?_
  refine lv_iload_n hx hb dX9_part_15 rfl (lv_at hl 2 rfl) ?_
  refine va_iald hx hb hK hP 4 0 rfl rfl (show vp_in (nI x0) 140 from vp_in_nI (by omega) (by omega)) dX9_part_16 ?_
  refine lv_topi (fun z_3 ez_3 => ?_)
  obtain rfl : z_3 = nI n0 := ez_3.trans ((congrArg mz (nI_clamp (by omega))).trans (hm1))
  refine lv_iconst (v := 1) hx hb dX9_part_17 (by decide) ?_
  refine lv_iadd hx hb dX9_part_18 ?_
  refine lv_topi (fun z_4 ez_4 => ?_)
  obtain rfl : z_4 = nI (n0 + 1) := ez_4.trans (nI_add n0 1)
  refine lv_iconst (v := 2) hx hb dX9_part_19 (by decide) ?_
  refine lv_idiv hx hb dX9_part_20 (by decide) ?_
  refine lv_topi (fun z_5 ez_5 => ?_)
  obtain rfl : z_5 = nI ((n0 + 1) / 2) := ez_5.trans (pk_div (a := n0 + 1) (d := 2) (by omega) (by decide) (by decide))
  refine lv_istore_n (lv' := [(3, .int (nI ((n0 + 1) / 2))), (2, .int (nI zz)), (0, .ref h0), (1, .int (nI x0))]) hx hb dX9_part_21 rfl hl (by decide) rfl (fun ls hl => ?_)
  refine lv_iload_n hx hb dX9_part_22 rfl (lv_at hl 0 rfl) ?_
  refine lv_istore (lv' := [(4, .int (nI ((n0 + 1) / 2))), (3, .int (nI ((n0 + 1) / 2))), (2, .int (nI zz)), (0, .ref h0), (1, .int (nI x0))]) hx hb dX9_part_23 hl (by decide) rfl (fun ls hl => ?_)
  refine jn_cut (P := fun Q => ∀ (nf i : Nat) (kv : Nat → Int32) (vv : Nat → Int32) (H : Heap) (locs : List Loc) (ls : Array Slot), i ≤ n0 → n0 + 1 ≤ i + nf → ((n0 + 1) / 2 ≤ i) → (PaF vl vv x0 zz ((n0 + 1) / 2) i) → va_P (dC, dI) vwCl [(a_keys, .inl (cI, 3360, .inl kv)), (a_vals, .inl (cI, 3360, .inl vv)), (h0, .inr (9, [.int (nI w), .int (nI b), .int (nI lm), .int (nI cm), .int (nI li), .int (nI ci), .ref a_disk, .int v_isDown, .int v_isArmed, .int v_armedWrites, .int v_armedWords, .int v_writes, .ref a_kind, .ref a_many, .ref a_block, .ref a_keys, .ref a_vals, .ref a_isFresh, .ref a_kindWas, .ref a_manyWas, .ref a_blockWas, .ref a_keysWas, .ref a_valsWas, .ref a_freshWas, .int v_root, .int v_rootWas, .int v_latest, .int v_epoch, .ref a_reached, .ref a_oldKeys, .ref a_oldVals, .ref a_allKeys, .ref a_allVals, .int v_oldMany, .int v_allMany, .ref a_row, .ref a_written, .int v_writtenMany, .ref a_path, .ref a_place, .int v_depth, .ref a_freeRow, .int v_isOther, .int v_moved, .ref a_bothKeys, .ref a_bothVals, .int v_leafDepth, .int v_found, .int v_lastKey, .int v_hasLast])), (a_kind, .inl (cI, 140, .inl kz)), (a_many, .inl (cI, 140, .inl mz)), (a_block, .inl (cI, 140, .inl bz)), (a_isFresh, .inl (cZ, 140, .inl fz))] H → va_D A [(a_keys, .inl (cI, 3360, .inl kv)), (a_vals, .inl (cI, 3360, .inl vv)), (h0, .inr (9, [.int (nI w), .int (nI b), .int (nI lm), .int (nI cm), .int (nI li), .int (nI ci), .ref a_disk, .int v_isDown, .int v_isArmed, .int v_armedWrites, .int v_armedWords, .int v_writes, .ref a_kind, .ref a_many, .ref a_block, .ref a_keys, .ref a_vals, .ref a_isFresh, .ref a_kindWas, .ref a_manyWas, .ref a_blockWas, .ref a_keysWas, .ref a_valsWas, .ref a_freshWas, .int v_root, .int v_rootWas, .int v_latest, .int v_epoch, .ref a_reached, .ref a_oldKeys, .ref a_oldVals, .ref a_allKeys, .ref a_allVals, .int v_oldMany, .int v_allMany, .ref a_row, .ref a_written, .int v_writtenMany, .ref a_path, .ref a_place, .int v_depth, .ref a_freeRow, .int v_isOther, .int v_moved, .ref a_bothKeys, .ref a_bothVals, .int v_leafDepth, .int v_found, .int v_lastKey, .int v_hasLast])), (a_kind, .inl (cI, 140, .inl kz)), (a_many, .inl (cI, 140, .inl mz)), (a_block, .inl (cI, 140, .inl bz)), (a_isFresh, .inl (cZ, 140, .inl fz))] → va_S A s.heap H locs → lv_has ls 5 [(0, .ref h0), (1, .int (nI x0)), (2, .int (nI zz)), (3, .int (nI ((n0 + 1) / 2))), (4, .int (nI i))] → W p l e (headSpec v_X9_part ({ frames := 1, cells := 0, slots := 0, locals := 22 } : Room)).room s m ([.ref h0, .int (nI x0)] : List Value).toArray below meth c H locs 0 0 Q (F0 m 25 ls [])) ?_ (fun loop_25 => ?_)
  · intro nf
    induction nf with
    | zero =>
      intro i kv vv H locs ls h1 h2
      exact absurd h2 (by omega)
    | succ nf ih_25 =>
      intro i kv vv H locs ls hi hn hip hF hP hD hS hl
      refine lv_iload hx hb dX9_part_25 (lv_at hl 4 rfl) ?_
      refine lv_aload_n hx hb dX9_part_27 rfl (lv_at hl 0 rfl) ?_
      refine va_get (D := (dC, dI)) (ci := 9) (v := .ref a_many) (C := RX9) (T := TX9) (N := 50) hx hb hts k_1 hown hK hP 2 rfl rfl 13 (by decide) k_3 (fun _ h9 => h9) rfl dX9_part_28 ?_
      refine lv_iload_n hx hb dX9_part_31 rfl (lv_at hl 1 rfl) ?_
      refine va_iald hx hb hK hP 4 0 rfl rfl (show vp_in (nI x0) 140 from vp_in_nI (by omega) (by omega)) dX9_part_32 ?_
      refine lv_topi (fun z_6 ez_6 => ?_)
      obtain rfl : z_6 = nI n0 := ez_6.trans ((congrArg mz (nI_clamp (by omega))).trans (hm1))
      refine lv_icmp_ge (tgt := 94) hx hb dX9_part_33 (by decide) (fun c_7 => ?_) (fun c_7 => ?_)
      · have n_c_7 : n0 ≤ i := (nI_leI (a := n0) (b := i) (by omega) (by omega)).mp c_7
        refine lv_aload_n hx hb dX9_part_94 rfl (lv_at hl 0 rfl) ?_
        refine va_get (D := (dC, dI)) (ci := 9) (v := .ref a_many) (C := RX9) (T := TX9) (N := 50) hx hb hts k_1 hown hK hP 2 rfl rfl 13 (by decide) k_3 (fun _ h9 => h9) rfl dX9_part_95 ?_
        refine lv_iload_n hx hb dX9_part_98 rfl (lv_at hl 2 rfl) ?_
        refine lv_aload_n hx hb dX9_part_99 rfl (lv_at hl 0 rfl) ?_
        refine va_get (D := (dC, dI)) (ci := 9) (v := .ref a_many) (C := RX9) (T := TX9) (N := 50) hx hb hts k_1 hown hK hP 2 rfl rfl 13 (by decide) k_3 (fun _ h9 => h9) rfl dX9_part_100 ?_
        refine lv_iload_n hx hb dX9_part_103 rfl (lv_at hl 1 rfl) ?_
        refine va_iald hx hb hK hP 4 0 rfl rfl (show vp_in (nI x0) 140 from vp_in_nI (by omega) (by omega)) dX9_part_104 ?_
        refine lv_topi (fun z_8 ez_8 => ?_)
        obtain rfl : z_8 = nI n0 := ez_8.trans ((congrArg mz (nI_clamp (by omega))).trans (hm1))
        refine lv_iload_n hx hb dX9_part_105 rfl (lv_at hl 3 rfl) ?_
        refine lv_isub hx hb dX9_part_106 ?_
        refine lv_topi (fun z_9 ez_9 => ?_)
        obtain rfl : z_9 = nI (n0 - ((n0 + 1) / 2)) := ez_9.trans (pk_sub (a := n0) (b := (n0 + 1) / 2) (by omega))
        refine va_iast hx hb hK hP hD hS 4 0 rfl rfl (show vp_in (nI zz) 140 from vp_in_nI (by omega) (by omega)) dX9_part_107 (fun H locs hP hD hS => ?_)
        have hP : va_P (dC, dI) vwCl [(a_keys, .inl (cI, 3360, .inl kv)), (a_vals, .inl (cI, 3360, .inl vv)), (h0, .inr (9, [.int (nI w), .int (nI b), .int (nI lm), .int (nI cm), .int (nI li), .int (nI ci), .ref a_disk, .int v_isDown, .int v_isArmed, .int v_armedWrites, .int v_armedWords, .int v_writes, .ref a_kind, .ref a_many, .ref a_block, .ref a_keys, .ref a_vals, .ref a_isFresh, .ref a_kindWas, .ref a_manyWas, .ref a_blockWas, .ref a_keysWas, .ref a_valsWas, .ref a_freshWas, .int v_root, .int v_rootWas, .int v_latest, .int v_epoch, .ref a_reached, .ref a_oldKeys, .ref a_oldVals, .ref a_allKeys, .ref a_allVals, .int v_oldMany, .int v_allMany, .ref a_row, .ref a_written, .int v_writtenMany, .ref a_path, .ref a_place, .int v_depth, .ref a_freeRow, .int v_isOther, .int v_moved, .ref a_bothKeys, .ref a_bothVals, .int v_leafDepth, .int v_found, .int v_lastKey, .int v_hasLast])), (a_kind, .inl (cI, 140, .inl kz)), (a_many, .inl (cI, 140, .inl (upd mz ((nI zz).toNatClampNeg) (nI (n0 - ((n0 + 1) / 2)))))), (a_block, .inl (cI, 140, .inl bz)), (a_isFresh, .inl (cZ, 140, .inl fz))] H := hP
        have hD : va_D A [(a_keys, .inl (cI, 3360, .inl kv)), (a_vals, .inl (cI, 3360, .inl vv)), (h0, .inr (9, [.int (nI w), .int (nI b), .int (nI lm), .int (nI cm), .int (nI li), .int (nI ci), .ref a_disk, .int v_isDown, .int v_isArmed, .int v_armedWrites, .int v_armedWords, .int v_writes, .ref a_kind, .ref a_many, .ref a_block, .ref a_keys, .ref a_vals, .ref a_isFresh, .ref a_kindWas, .ref a_manyWas, .ref a_blockWas, .ref a_keysWas, .ref a_valsWas, .ref a_freshWas, .int v_root, .int v_rootWas, .int v_latest, .int v_epoch, .ref a_reached, .ref a_oldKeys, .ref a_oldVals, .ref a_allKeys, .ref a_allVals, .int v_oldMany, .int v_allMany, .ref a_row, .ref a_written, .int v_writtenMany, .ref a_path, .ref a_place, .int v_depth, .ref a_freeRow, .int v_isOther, .int v_moved, .ref a_bothKeys, .ref a_bothVals, .int v_leafDepth, .int v_found, .int v_lastKey, .int v_hasLast])), (a_kind, .inl (cI, 140, .inl kz)), (a_many, .inl (cI, 140, .inl (upd mz ((nI zz).toNatClampNeg) (nI (n0 - ((n0 + 1) / 2)))))), (a_block, .inl (cI, 140, .inl bz)), (a_isFresh, .inl (cZ, 140, .inl fz))] := hD
        rw [show (nI zz).toNatClampNeg = zz from nI_clamp (by omega)] at hP hD
        obtain ⟨f_10, ef_10⟩ : ∃ g9, g9 = upd mz zz (nI (n0 - ((n0 + 1) / 2))) := ⟨_, rfl⟩
        rw [← ef_10] at hP hD
        refine lv_aload_n hx hb dX9_part_108 rfl (lv_at hl 0 rfl) ?_
        refine va_get (D := (dC, dI)) (ci := 9) (v := .ref a_many) (C := RX9) (T := TX9) (N := 50) hx hb hts k_1 hown hK hP 2 rfl rfl 13 (by decide) k_3 (fun _ h9 => h9) rfl dX9_part_109 ?_
        refine lv_iload_n hx hb dX9_part_112 rfl (lv_at hl 1 rfl) ?_
        refine lv_iload_n hx hb dX9_part_113 rfl (lv_at hl 3 rfl) ?_
        refine va_iast hx hb hK hP hD hS 4 0 rfl rfl (show vp_in (nI x0) 140 from vp_in_nI (by omega) (by omega)) dX9_part_114 (fun H locs hP hD hS => ?_)
        have hP : va_P (dC, dI) vwCl [(a_keys, .inl (cI, 3360, .inl kv)), (a_vals, .inl (cI, 3360, .inl vv)), (h0, .inr (9, [.int (nI w), .int (nI b), .int (nI lm), .int (nI cm), .int (nI li), .int (nI ci), .ref a_disk, .int v_isDown, .int v_isArmed, .int v_armedWrites, .int v_armedWords, .int v_writes, .ref a_kind, .ref a_many, .ref a_block, .ref a_keys, .ref a_vals, .ref a_isFresh, .ref a_kindWas, .ref a_manyWas, .ref a_blockWas, .ref a_keysWas, .ref a_valsWas, .ref a_freshWas, .int v_root, .int v_rootWas, .int v_latest, .int v_epoch, .ref a_reached, .ref a_oldKeys, .ref a_oldVals, .ref a_allKeys, .ref a_allVals, .int v_oldMany, .int v_allMany, .ref a_row, .ref a_written, .int v_writtenMany, .ref a_path, .ref a_place, .int v_depth, .ref a_freeRow, .int v_isOther, .int v_moved, .ref a_bothKeys, .ref a_bothVals, .int v_leafDepth, .int v_found, .int v_lastKey, .int v_hasLast])), (a_kind, .inl (cI, 140, .inl kz)), (a_many, .inl (cI, 140, .inl (upd f_10 ((nI x0).toNatClampNeg) (nI ((n0 + 1) / 2))))), (a_block, .inl (cI, 140, .inl bz)), (a_isFresh, .inl (cZ, 140, .inl fz))] H := hP
        have hD : va_D A [(a_keys, .inl (cI, 3360, .inl kv)), (a_vals, .inl (cI, 3360, .inl vv)), (h0, .inr (9, [.int (nI w), .int (nI b), .int (nI lm), .int (nI cm), .int (nI li), .int (nI ci), .ref a_disk, .int v_isDown, .int v_isArmed, .int v_armedWrites, .int v_armedWords, .int v_writes, .ref a_kind, .ref a_many, .ref a_block, .ref a_keys, .ref a_vals, .ref a_isFresh, .ref a_kindWas, .ref a_manyWas, .ref a_blockWas, .ref a_keysWas, .ref a_valsWas, .ref a_freshWas, .int v_root, .int v_rootWas, .int v_latest, .int v_epoch, .ref a_reached, .ref a_oldKeys, .ref a_oldVals, .ref a_allKeys, .ref a_allVals, .int v_oldMany, .int v_allMany, .ref a_row, .ref a_written, .int v_writtenMany, .ref a_path, .ref a_place, .int v_depth, .ref a_freeRow, .int v_isOther, .int v_moved, .ref a_bothKeys, .ref a_bothVals, .int v_leafDepth, .int v_found, .int v_lastKey, .int v_hasLast])), (a_kind, .inl (cI, 140, .inl kz)), (a_many, .inl (cI, 140, .inl (upd f_10 ((nI x0).toNatClampNeg) (nI ((n0 + 1) / 2))))), (a_block, .inl (cI, 140, .inl bz)), (a_isFresh, .inl (cZ, 140, .inl fz))] := hD
        rw [show (nI x0).toNatClampNeg = x0 from nI_clamp (by omega)] at hP hD
        obtain ⟨f_11, ef_11⟩ : ∃ g9, g9 = upd f_10 x0 (nI ((n0 + 1) / 2)) := ⟨_, rfl⟩
        rw [← ef_11] at hP hD
        refine lv_iload_n hx hb dX9_part_115 rfl (lv_at hl 2 rfl) ?_
        have hP9 := hP.sub (ws' := [(h0, .inr (9, [.int (nI w), .int (nI b), .int (nI lm), .int (nI cm), .int (nI li), .int (nI ci), .ref a_disk, .int v_isDown, .int v_isArmed, .int v_armedWrites, .int v_armedWords, .int v_writes, .ref a_kind, .ref a_many, .ref a_block, .ref a_keys, .ref a_vals, .ref a_isFresh, .ref a_kindWas, .ref a_manyWas, .ref a_blockWas, .ref a_keysWas, .ref a_valsWas, .ref a_freshWas, .int v_root, .int v_rootWas, .int v_latest, .int v_epoch, .ref a_reached, .ref a_oldKeys, .ref a_oldVals, .ref a_allKeys, .ref a_allVals, .int v_oldMany, .int v_allMany, .ref a_row, .ref a_written, .int v_writtenMany, .ref a_path, .ref a_place, .int v_depth, .ref a_freeRow, .int v_isOther, .int v_moved, .ref a_bothKeys, .ref a_bothVals, .int v_leafDepth, .int v_found, .int v_lastKey, .int v_hasLast])), (a_kind, .inl (cI, 140, .inl kz)), (a_many, .inl (cI, 140, .inl f_11)), (a_keys, .inl (cI, 3360, .inl kv)), (a_vals, .inl (cI, 3360, .inl vv)), (a_block, .inl (cI, 140, .inl bz)), (a_isFresh, .inl (cZ, 140, .inl fz))]) [2, 3, 4, 0, 1, 5, 6] rfl
        have hD9 := hD.sub (ws' := [(h0, .inr (9, [.int (nI w), .int (nI b), .int (nI lm), .int (nI cm), .int (nI li), .int (nI ci), .ref a_disk, .int v_isDown, .int v_isArmed, .int v_armedWrites, .int v_armedWords, .int v_writes, .ref a_kind, .ref a_many, .ref a_block, .ref a_keys, .ref a_vals, .ref a_isFresh, .ref a_kindWas, .ref a_manyWas, .ref a_blockWas, .ref a_keysWas, .ref a_valsWas, .ref a_freshWas, .int v_root, .int v_rootWas, .int v_latest, .int v_epoch, .ref a_reached, .ref a_oldKeys, .ref a_oldVals, .ref a_allKeys, .ref a_allVals, .int v_oldMany, .int v_allMany, .ref a_row, .ref a_written, .int v_writtenMany, .ref a_path, .ref a_place, .int v_depth, .ref a_freeRow, .int v_isOther, .int v_moved, .ref a_bothKeys, .ref a_bothVals, .int v_leafDepth, .int v_found, .int v_lastKey, .int v_hasLast])), (a_kind, .inl (cI, 140, .inl kz)), (a_many, .inl (cI, 140, .inl f_11)), (a_keys, .inl (cI, 3360, .inl kv)), (a_vals, .inl (cI, 3360, .inl vv)), (a_block, .inl (cI, 140, .inl bz)), (a_isFresh, .inl (cZ, 140, .inl fz))]) [2, 3, 4, 0, 1, 5, 6] (by decide) rfl
        have hK9 := hK.sub (tys' := [(cI, .int), (cZ, .boolean)]) [0, 1] rfl
        exact W.iret (v := (nI zz)) hx hb hr (fun t ht hW => ⟨⟨(nI zz), (kz, f_11, kv, vv, bz, fz, zz), rfl, ⟨rfl, part_end hN hxz hF (by omega) (by assumption) (by assumption)⟩, by rw [ht]; exact hP9, va_K.moved hW.alike hK9, hD9⟩, hS.F ht⟩) hS.2.2 dX9_part_116
      · have n_c_7 : ¬ n0 ≤ i := fun h9 => c_7 ((nI_leI (a := n0) (b := i) (by omega) (by omega)).mpr h9)
        refine lv_aload_n hx hb dX9_part_36 rfl (lv_at hl 0 rfl) ?_
        refine va_get (D := (dC, dI)) (ci := 9) (v := .ref a_keys) (C := RX9) (T := TX9) (N := 50) hx hb hts k_1 hown hK hP 2 rfl rfl 15 (by decide) k_4 (fun _ h9 => h9) rfl dX9_part_37 ?_
        refine lv_bipush (v := 24) hx hb dX9_part_40 (by decide) ?_
        refine lv_iload_n hx hb dX9_part_42 rfl (lv_at hl 2 rfl) ?_
        refine lv_imul hx hb dX9_part_43 ?_
        refine lv_topi (fun z_12 ez_12 => ?_)
        obtain rfl : z_12 = nI (24 * zz) := ez_12.trans (pk_mul 24 zz)
        refine lv_iload hx hb dX9_part_44 (lv_at hl 4 rfl) ?_
        refine lv_iadd hx hb dX9_part_46 ?_
        refine lv_topi (fun z_13 ez_13 => ?_)
        obtain rfl : z_13 = nI (24 * zz + i) := ez_13.trans (nI_add (24 * zz) i)
        refine lv_iload_n hx hb dX9_part_47 rfl (lv_at hl 3 rfl) ?_
        refine lv_isub hx hb dX9_part_48 ?_
        refine lv_topi (fun z_14 ez_14 => ?_)
        obtain rfl : z_14 = nI (24 * zz + i - ((n0 + 1) / 2)) := ez_14.trans (pk_sub (a := 24 * zz + i) (b := (n0 + 1) / 2) (by omega))
        refine lv_aload_n hx hb dX9_part_49 rfl (lv_at hl 0 rfl) ?_
        refine va_get (D := (dC, dI)) (ci := 9) (v := .ref a_keys) (C := RX9) (T := TX9) (N := 50) hx hb hts k_1 hown hK hP 2 rfl rfl 15 (by decide) k_4 (fun _ h9 => h9) rfl dX9_part_50 ?_
        refine lv_bipush (v := 24) hx hb dX9_part_53 (by decide) ?_
        refine lv_iload_n hx hb dX9_part_55 rfl (lv_at hl 1 rfl) ?_
        refine lv_imul hx hb dX9_part_56 ?_
        refine lv_topi (fun z_15 ez_15 => ?_)
        obtain rfl : z_15 = nI (24 * x0) := ez_15.trans (pk_mul 24 x0)
        refine lv_iload hx hb dX9_part_57 (lv_at hl 4 rfl) ?_
        refine lv_iadd hx hb dX9_part_59 ?_
        refine lv_topi (fun z_16 ez_16 => ?_)
        obtain rfl : z_16 = nI (24 * x0 + i) := ez_16.trans (nI_add (24 * x0) i)
        refine va_iald hx hb hK hP 0 0 rfl rfl (show vp_in (nI (24 * x0 + i)) 3360 from vp_in_nI (by omega) (by omega)) dX9_part_60 ?_
        refine lv_topi (fun z_17 ez_17 => ?_)
        obtain rfl : z_17 = kv (24 * x0 + i) := ez_17.trans (congrArg kv (nI_clamp (by omega)))
        refine va_iast hx hb hK hP hD hS 0 0 rfl rfl (show vp_in (nI (24 * zz + i - ((n0 + 1) / 2))) 3360 from vp_in_nI (by omega) (by omega)) dX9_part_61 (fun H locs hP hD hS => ?_)
        have hP : va_P (dC, dI) vwCl [(a_keys, .inl (cI, 3360, .inl (upd kv ((nI (24 * zz + i - ((n0 + 1) / 2))).toNatClampNeg) (kv (24 * x0 + i))))), (a_vals, .inl (cI, 3360, .inl vv)), (h0, .inr (9, [.int (nI w), .int (nI b), .int (nI lm), .int (nI cm), .int (nI li), .int (nI ci), .ref a_disk, .int v_isDown, .int v_isArmed, .int v_armedWrites, .int v_armedWords, .int v_writes, .ref a_kind, .ref a_many, .ref a_block, .ref a_keys, .ref a_vals, .ref a_isFresh, .ref a_kindWas, .ref a_manyWas, .ref a_blockWas, .ref a_keysWas, .ref a_valsWas, .ref a_freshWas, .int v_root, .int v_rootWas, .int v_latest, .int v_epoch, .ref a_reached, .ref a_oldKeys, .ref a_oldVals, .ref a_allKeys, .ref a_allVals, .int v_oldMany, .int v_allMany, .ref a_row, .ref a_written, .int v_writtenMany, .ref a_path, .ref a_place, .int v_depth, .ref a_freeRow, .int v_isOther, .int v_moved, .ref a_bothKeys, .ref a_bothVals, .int v_leafDepth, .int v_found, .int v_lastKey, .int v_hasLast])), (a_kind, .inl (cI, 140, .inl kz)), (a_many, .inl (cI, 140, .inl mz)), (a_block, .inl (cI, 140, .inl bz)), (a_isFresh, .inl (cZ, 140, .inl fz))] H := hP
        have hD : va_D A [(a_keys, .inl (cI, 3360, .inl (upd kv ((nI (24 * zz + i - ((n0 + 1) / 2))).toNatClampNeg) (kv (24 * x0 + i))))), (a_vals, .inl (cI, 3360, .inl vv)), (h0, .inr (9, [.int (nI w), .int (nI b), .int (nI lm), .int (nI cm), .int (nI li), .int (nI ci), .ref a_disk, .int v_isDown, .int v_isArmed, .int v_armedWrites, .int v_armedWords, .int v_writes, .ref a_kind, .ref a_many, .ref a_block, .ref a_keys, .ref a_vals, .ref a_isFresh, .ref a_kindWas, .ref a_manyWas, .ref a_blockWas, .ref a_keysWas, .ref a_valsWas, .ref a_freshWas, .int v_root, .int v_rootWas, .int v_latest, .int v_epoch, .ref a_reached, .ref a_oldKeys, .ref a_oldVals, .ref a_allKeys, .ref a_allVals, .int v_oldMany, .int v_allMany, .ref a_row, .ref a_written, .int v_writtenMany, .ref a_path, .ref a_place, .int v_depth, .ref a_freeRow, .int v_isOther, .int v_moved, .ref a_bothKeys, .ref a_bothVals, .int v_leafDepth, .int v_found, .int v_lastKey, .int v_hasLast])), (a_kind, .inl (cI, 140, .inl kz)), (a_many, .inl (cI, 140, .inl mz)), (a_block, .inl (cI, 140, .inl bz)), (a_isFresh, .inl (cZ, 140, .inl fz))] := hD
        rw [show (nI (24 * zz + i - ((n0 + 1) / 2))).toNatClampNeg = 24 * zz + i - ((n0 + 1) / 2) from nI_clamp (by omega)] at hP hD
        obtain ⟨f_18, ef_18⟩ : ∃ g9, g9 = upd kv (24 * zz + i - ((n0 + 1) / 2)) (kv (24 * x0 + i)) := ⟨_, rfl⟩
        rw [← ef_18] at hP hD
        refine lv_aload_n hx hb dX9_part_62 rfl (lv_at hl 0 rfl) ?_
        refine va_get (D := (dC, dI)) (ci := 9) (v := .ref a_vals) (C := RX9) (T := TX9) (N := 50) hx hb hts k_1 hown hK hP 2 rfl rfl 16 (by decide) k_5 (fun _ h9 => h9) rfl dX9_part_63 ?_
        refine lv_bipush (v := 24) hx hb dX9_part_66 (by decide) ?_
        refine lv_iload_n hx hb dX9_part_68 rfl (lv_at hl 2 rfl) ?_
        refine lv_imul hx hb dX9_part_69 ?_
        refine lv_topi (fun z_19 ez_19 => ?_)
        obtain rfl : z_19 = nI (24 * zz) := ez_19.trans (pk_mul 24 zz)
        refine lv_iload hx hb dX9_part_70 (lv_at hl 4 rfl) ?_
        refine lv_iadd hx hb dX9_part_72 ?_
        refine lv_topi (fun z_20 ez_20 => ?_)
        obtain rfl : z_20 = nI (24 * zz + i) := ez_20.trans (nI_add (24 * zz) i)
        refine lv_iload_n hx hb dX9_part_73 rfl (lv_at hl 3 rfl) ?_
        refine lv_isub hx hb dX9_part_74 ?_
        refine lv_topi (fun z_21 ez_21 => ?_)
        obtain rfl : z_21 = nI (24 * zz + i - ((n0 + 1) / 2)) := ez_21.trans (pk_sub (a := 24 * zz + i) (b := (n0 + 1) / 2) (by omega))
        refine lv_aload_n hx hb dX9_part_75 rfl (lv_at hl 0 rfl) ?_
        refine va_get (D := (dC, dI)) (ci := 9) (v := .ref a_vals) (C := RX9) (T := TX9) (N := 50) hx hb hts k_1 hown hK hP 2 rfl rfl 16 (by decide) k_5 (fun _ h9 => h9) rfl dX9_part_76 ?_
        refine lv_bipush (v := 24) hx hb dX9_part_79 (by decide) ?_
        refine lv_iload_n hx hb dX9_part_81 rfl (lv_at hl 1 rfl) ?_
        refine lv_imul hx hb dX9_part_82 ?_
        refine lv_topi (fun z_22 ez_22 => ?_)
        obtain rfl : z_22 = nI (24 * x0) := ez_22.trans (pk_mul 24 x0)
        refine lv_iload hx hb dX9_part_83 (lv_at hl 4 rfl) ?_
        refine lv_iadd hx hb dX9_part_85 ?_
        refine lv_topi (fun z_23 ez_23 => ?_)
        obtain rfl : z_23 = nI (24 * x0 + i) := ez_23.trans (nI_add (24 * x0) i)
        refine va_iald hx hb hK hP 1 0 rfl rfl (show vp_in (nI (24 * x0 + i)) 3360 from vp_in_nI (by omega) (by omega)) dX9_part_86 ?_
        refine lv_topi (fun z_24 ez_24 => ?_)
        obtain rfl : z_24 = vv (24 * x0 + i) := ez_24.trans (congrArg vv (nI_clamp (by omega)))
        refine va_iast hx hb hK hP hD hS 1 0 rfl rfl (show vp_in (nI (24 * zz + i - ((n0 + 1) / 2))) 3360 from vp_in_nI (by omega) (by omega)) dX9_part_87 (fun H locs hP hD hS => ?_)
        have hP : va_P (dC, dI) vwCl [(a_keys, .inl (cI, 3360, .inl f_18)), (a_vals, .inl (cI, 3360, .inl (upd vv ((nI (24 * zz + i - ((n0 + 1) / 2))).toNatClampNeg) (vv (24 * x0 + i))))), (h0, .inr (9, [.int (nI w), .int (nI b), .int (nI lm), .int (nI cm), .int (nI li), .int (nI ci), .ref a_disk, .int v_isDown, .int v_isArmed, .int v_armedWrites, .int v_armedWords, .int v_writes, .ref a_kind, .ref a_many, .ref a_block, .ref a_keys, .ref a_vals, .ref a_isFresh, .ref a_kindWas, .ref a_manyWas, .ref a_blockWas, .ref a_keysWas, .ref a_valsWas, .ref a_freshWas, .int v_root, .int v_rootWas, .int v_latest, .int v_epoch, .ref a_reached, .ref a_oldKeys, .ref a_oldVals, .ref a_allKeys, .ref a_allVals, .int v_oldMany, .int v_allMany, .ref a_row, .ref a_written, .int v_writtenMany, .ref a_path, .ref a_place, .int v_depth, .ref a_freeRow, .int v_isOther, .int v_moved, .ref a_bothKeys, .ref a_bothVals, .int v_leafDepth, .int v_found, .int v_lastKey, .int v_hasLast])), (a_kind, .inl (cI, 140, .inl kz)), (a_many, .inl (cI, 140, .inl mz)), (a_block, .inl (cI, 140, .inl bz)), (a_isFresh, .inl (cZ, 140, .inl fz))] H := hP
        have hD : va_D A [(a_keys, .inl (cI, 3360, .inl f_18)), (a_vals, .inl (cI, 3360, .inl (upd vv ((nI (24 * zz + i - ((n0 + 1) / 2))).toNatClampNeg) (vv (24 * x0 + i))))), (h0, .inr (9, [.int (nI w), .int (nI b), .int (nI lm), .int (nI cm), .int (nI li), .int (nI ci), .ref a_disk, .int v_isDown, .int v_isArmed, .int v_armedWrites, .int v_armedWords, .int v_writes, .ref a_kind, .ref a_many, .ref a_block, .ref a_keys, .ref a_vals, .ref a_isFresh, .ref a_kindWas, .ref a_manyWas, .ref a_blockWas, .ref a_keysWas, .ref a_valsWas, .ref a_freshWas, .int v_root, .int v_rootWas, .int v_latest, .int v_epoch, .ref a_reached, .ref a_oldKeys, .ref a_oldVals, .ref a_allKeys, .ref a_allVals, .int v_oldMany, .int v_allMany, .ref a_row, .ref a_written, .int v_writtenMany, .ref a_path, .ref a_place, .int v_depth, .ref a_freeRow, .int v_isOther, .int v_moved, .ref a_bothKeys, .ref a_bothVals, .int v_leafDepth, .int v_found, .int v_lastKey, .int v_hasLast])), (a_kind, .inl (cI, 140, .inl kz)), (a_many, .inl (cI, 140, .inl mz)), (a_block, .inl (cI, 140, .inl bz)), (a_isFresh, .inl (cZ, 140, .inl fz))] := hD
        rw [show (nI (24 * zz + i - ((n0 + 1) / 2))).toNatClampNeg = 24 * zz + i - ((n0 + 1) / 2) from nI_clamp (by omega)] at hP hD
        obtain ⟨f_25, ef_25⟩ : ∃ g9, g9 = upd vv (24 * zz + i - ((n0 + 1) / 2)) (vv (24 * x0 + i)) := ⟨_, rfl⟩
        rw [← ef_25] at hP hD
        refine lv_iinc (v := (nI (i + 1))) (lv' := [(4, .int (nI (i + 1))), (0, .ref h0), (1, .int (nI x0)), (2, .int (nI zz)), (3, .int (nI ((n0 + 1) / 2)))]) hx hb dX9_part_88 hl (k := 4) rfl (nI_1 i) (by decide) rfl (fun ls hl => ?_)
        refine lv_goto (tgt := 25) hx hb dX9_part_91 (by decide) ?_
        exact ih_25 (i + 1) f_18 f_25 _ _ _ (by omega) (by omega) (by omega) (paF_step hF hxz (by omega) (by omega) ef_25) hP hD hS (lv_sub hl [1, 2, 3, 4, 0] rfl)
  exact loop_25 (n0 + 1) ((n0 + 1) / 2) ks vl _ _ _ (by omega) (by omega) (by omega) (paF_start _ _ _ _) hP hD hS (lv_sub hl [3, 4, 2, 1, 0] rfl)

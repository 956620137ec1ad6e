theorem dX6_blockAt_0 : decode cX6_blockAt 0 = .ok (.iload_n 1, 1) := by decide +kernel
theorem dX6_blockAt_1 : decode cX6_blockAt 1 = .ok (.ifCond .lt 21, 3) := by decide +kernel
theorem dX6_blockAt_4 : decode cX6_blockAt 4 = .ok (.iload_n 1, 1) := by decide +kernel
theorem dX6_blockAt_5 : decode cX6_blockAt 5 = .ok (.aload_n 0, 1) := by decide +kernel
theorem dX6_blockAt_6 : decode cX6_blockAt 6 = .ok (.getfield 29, 3) := by decide +kernel
theorem dX6_blockAt_9 : decode cX6_blockAt 9 = .ok (.arraylength, 1) := by decide +kernel
theorem dX6_blockAt_10 : decode cX6_blockAt 10 = .ok (.if_icmp .ge 12, 3) := by decide +kernel
theorem dX6_blockAt_13 : decode cX6_blockAt 13 = .ok (.aload_n 0, 1) := by decide +kernel
theorem dX6_blockAt_14 : decode cX6_blockAt 14 = .ok (.getfield 29, 3) := by decide +kernel
theorem dX6_blockAt_17 : decode cX6_blockAt 17 = .ok (.iload_n 1, 1) := by decide +kernel
theorem dX6_blockAt_18 : decode cX6_blockAt 18 = .ok (.iaload, 1) := by decide +kernel
theorem dX6_blockAt_19 : decode cX6_blockAt 19 = .ok (.goto 4, 3) := by decide +kernel
theorem dX6_blockAt_22 : decode cX6_blockAt 22 = .ok (.iconst 0, 1) := by decide +kernel
theorem dX6_blockAt_23 : decode cX6_blockAt 23 = .ok (.ireturn, 1) := by decide +kernel
theorem dX6_ceilingAt_0 : decode cX6_ceilingAt 0 = .ok (.iload_n 1, 1) := by decide +kernel
theorem dX6_ceilingAt_1 : decode cX6_ceilingAt 1 = .ok (.ifCond .lt 21, 3) := by decide +kernel
theorem dX6_ceilingAt_4 : decode cX6_ceilingAt 4 = .ok (.iload_n 1, 1) := by decide +kernel
theorem dX6_ceilingAt_5 : decode cX6_ceilingAt 5 = .ok (.aload_n 0, 1) := by decide +kernel
theorem dX6_ceilingAt_6 : decode cX6_ceilingAt 6 = .ok (.getfield 37, 3) := by decide +kernel
theorem dX6_ceilingAt_9 : decode cX6_ceilingAt 9 = .ok (.arraylength, 1) := by decide +kernel
theorem dX6_ceilingAt_10 : decode cX6_ceilingAt 10 = .ok (.if_icmp .ge 12, 3) := by decide +kernel
theorem dX6_ceilingAt_13 : decode cX6_ceilingAt 13 = .ok (.aload_n 0, 1) := by decide +kernel
theorem dX6_ceilingAt_14 : decode cX6_ceilingAt 14 = .ok (.getfield 37, 3) := by decide +kernel
theorem dX6_ceilingAt_17 : decode cX6_ceilingAt 17 = .ok (.iload_n 1, 1) := by decide +kernel
theorem dX6_ceilingAt_18 : decode cX6_ceilingAt 18 = .ok (.laload, 1) := by decide +kernel
theorem dX6_ceilingAt_19 : decode cX6_ceilingAt 19 = .ok (.goto 6, 3) := by decide +kernel
theorem dX6_ceilingAt_22 : decode cX6_ceilingAt 22 = .ok (.ldc2_w 50, 3) := by decide +kernel
theorem dX6_ceilingAt_25 : decode cX6_ceilingAt 25 = .ok (.lreturn, 1) := by decide +kernel
theorem dX6_childrenAreReached_0 : decode cX6_childrenAreReached 0 = .ok (.iconst 0, 1) := by decide +kernel
theorem dX6_childrenAreReached_1 : decode cX6_childrenAreReached 1 = .ok (.istore_n 3, 1) := by decide +kernel
theorem dX6_childrenAreReached_2 : decode cX6_childrenAreReached 2 = .ok (.iload_n 3, 1) := by decide +kernel
theorem dX6_childrenAreReached_3 : decode cX6_childrenAreReached 3 = .ok (.aload_n 1, 1) := by decide +kernel
theorem dX6_childrenAreReached_4 : decode cX6_childrenAreReached 4 = .ok (.getfield 119, 3) := by decide +kernel
theorem dX6_childrenAreReached_7 : decode cX6_childrenAreReached 7 = .ok (.if_icmp .ge 83, 3) := by decide +kernel
theorem dX6_childrenAreReached_10 : decode cX6_childrenAreReached 10 = .ok (.aload_n 0, 1) := by decide +kernel
theorem dX6_childrenAreReached_11 : decode cX6_childrenAreReached 11 = .ok (.iload_n 2, 1) := by decide +kernel
theorem dX6_childrenAreReached_12 : decode cX6_childrenAreReached 12 = .ok (.invokevirtual 125, 3) := by decide +kernel
theorem dX6_childrenAreReached_15 : decode cX6_childrenAreReached 15 = .ok (.lstore 4, 2) := by decide +kernel
theorem dX6_childrenAreReached_17 : decode cX6_childrenAreReached 17 = .ok (.aload_n 0, 1) := by decide +kernel
theorem dX6_childrenAreReached_18 : decode cX6_childrenAreReached 18 = .ok (.iload_n 2, 1) := by decide +kernel
theorem dX6_childrenAreReached_19 : decode cX6_childrenAreReached 19 = .ok (.invokevirtual 129, 3) := by decide +kernel
theorem dX6_childrenAreReached_22 : decode cX6_childrenAreReached 22 = .ok (.lstore 6, 2) := by decide +kernel
theorem dX6_childrenAreReached_24 : decode cX6_childrenAreReached 24 = .ok (.iload_n 3, 1) := by decide +kernel
theorem dX6_childrenAreReached_25 : decode cX6_childrenAreReached 25 = .ok (.ifCond .le 16, 3) := by decide +kernel
theorem dX6_childrenAreReached_28 : decode cX6_childrenAreReached 28 = .ok (.lload 4, 2) := by decide +kernel
theorem dX6_childrenAreReached_30 : decode cX6_childrenAreReached 30 = .ok (.aload_n 1, 1) := by decide +kernel
theorem dX6_childrenAreReached_31 : decode cX6_childrenAreReached 31 = .ok (.iload_n 3, 1) := by decide +kernel
theorem dX6_childrenAreReached_32 : decode cX6_childrenAreReached 32 = .ok (.invokevirtual 122, 3) := by decide +kernel
theorem dX6_childrenAreReached_35 : decode cX6_childrenAreReached 35 = .ok (.i2l, 1) := by decide +kernel
theorem dX6_childrenAreReached_36 : decode cX6_childrenAreReached 36 = .ok (.invokestatic 132, 3) := by decide +kernel
theorem dX6_childrenAreReached_39 : decode cX6_childrenAreReached 39 = .ok (.lstore 4, 2) := by decide +kernel
theorem dX6_childrenAreReached_41 : decode cX6_childrenAreReached 41 = .ok (.iload_n 3, 1) := by decide +kernel
theorem dX6_childrenAreReached_42 : decode cX6_childrenAreReached 42 = .ok (.iconst 1, 1) := by decide +kernel
theorem dX6_childrenAreReached_43 : decode cX6_childrenAreReached 43 = .ok (.iadd, 1) := by decide +kernel
theorem dX6_childrenAreReached_44 : decode cX6_childrenAreReached 44 = .ok (.aload_n 1, 1) := by decide +kernel
theorem dX6_childrenAreReached_45 : decode cX6_childrenAreReached 45 = .ok (.getfield 119, 3) := by decide +kernel
theorem dX6_childrenAreReached_48 : decode cX6_childrenAreReached 48 = .ok (.if_icmp .ge 18, 3) := by decide +kernel
theorem dX6_childrenAreReached_51 : decode cX6_childrenAreReached 51 = .ok (.lload 6, 2) := by decide +kernel
theorem dX6_childrenAreReached_53 : decode cX6_childrenAreReached 53 = .ok (.aload_n 1, 1) := by decide +kernel
theorem dX6_childrenAreReached_54 : decode cX6_childrenAreReached 54 = .ok (.iload_n 3, 1) := by decide +kernel
theorem dX6_childrenAreReached_55 : decode cX6_childrenAreReached 55 = .ok (.iconst 1, 1) := by decide +kernel
theorem dX6_childrenAreReached_56 : decode cX6_childrenAreReached 56 = .ok (.iadd, 1) := by decide +kernel
theorem dX6_childrenAreReached_57 : decode cX6_childrenAreReached 57 = .ok (.invokevirtual 122, 3) := by decide +kernel
theorem dX6_childrenAreReached_60 : decode cX6_childrenAreReached 60 = .ok (.i2l, 1) := by decide +kernel
theorem dX6_childrenAreReached_61 : decode cX6_childrenAreReached 61 = .ok (.invokestatic 138, 3) := by decide +kernel
theorem dX6_childrenAreReached_64 : decode cX6_childrenAreReached 64 = .ok (.lstore 6, 2) := by decide +kernel
theorem dX6_childrenAreReached_66 : decode cX6_childrenAreReached 66 = .ok (.aload_n 0, 1) := by decide +kernel
theorem dX6_childrenAreReached_67 : decode cX6_childrenAreReached 67 = .ok (.aload_n 1, 1) := by decide +kernel
theorem dX6_childrenAreReached_68 : decode cX6_childrenAreReached 68 = .ok (.iload_n 3, 1) := by decide +kernel
theorem dX6_childrenAreReached_69 : decode cX6_childrenAreReached 69 = .ok (.invokevirtual 141, 3) := by decide +kernel
theorem dX6_childrenAreReached_72 : decode cX6_childrenAreReached 72 = .ok (.lload 4, 2) := by decide +kernel
theorem dX6_childrenAreReached_74 : decode cX6_childrenAreReached 74 = .ok (.lload 6, 2) := by decide +kernel
theorem dX6_childrenAreReached_76 : decode cX6_childrenAreReached 76 = .ok (.invokevirtual 75, 3) := by decide +kernel
theorem dX6_childrenAreReached_79 : decode cX6_childrenAreReached 79 = .ok (.ifCond .ne 5, 3) := by decide +kernel
theorem dX6_childrenAreReached_82 : decode cX6_childrenAreReached 82 = .ok (.iconst 0, 1) := by decide +kernel
theorem dX6_childrenAreReached_83 : decode cX6_childrenAreReached 83 = .ok (.ireturn, 1) := by decide +kernel
theorem dX6_childrenAreReached_84 : decode cX6_childrenAreReached 84 = .ok (.iinc 3 1, 3) := by decide +kernel
theorem dX6_childrenAreReached_87 : decode cX6_childrenAreReached 87 = .ok (.goto (-85), 3) := by decide +kernel
theorem dX6_childrenAreReached_90 : decode cX6_childrenAreReached 90 = .ok (.iconst 1, 1) := by decide +kernel
theorem dX6_childrenAreReached_91 : decode cX6_childrenAreReached 91 = .ok (.ireturn, 1) := by decide +kernel
theorem dX6_keysAreRight_0 : decode cX6_keysAreRight 0 = .ok (.iconst 0, 1) := by decide +kernel
theorem dX6_keysAreRight_1 : decode cX6_keysAreRight 1 = .ok (.istore_n 3, 1) := by decide +kernel
theorem dX6_keysAreRight_2 : decode cX6_keysAreRight 2 = .ok (.iload_n 3, 1) := by decide +kernel
theorem dX6_keysAreRight_3 : decode cX6_keysAreRight 3 = .ok (.aload_n 1, 1) := by decide +kernel
theorem dX6_keysAreRight_4 : decode cX6_keysAreRight 4 = .ok (.getfield 119, 3) := by decide +kernel
theorem dX6_keysAreRight_7 : decode cX6_keysAreRight 7 = .ok (.if_icmp .ge 67, 3) := by decide +kernel
theorem dX6_keysAreRight_10 : decode cX6_keysAreRight 10 = .ok (.aload_n 1, 1) := by decide +kernel
theorem dX6_keysAreRight_11 : decode cX6_keysAreRight 11 = .ok (.iload_n 3, 1) := by decide +kernel
theorem dX6_keysAreRight_12 : decode cX6_keysAreRight 12 = .ok (.invokevirtual 122, 3) := by decide +kernel
theorem dX6_keysAreRight_15 : decode cX6_keysAreRight 15 = .ok (.i2l, 1) := by decide +kernel
theorem dX6_keysAreRight_16 : decode cX6_keysAreRight 16 = .ok (.lstore 4, 2) := by decide +kernel
theorem dX6_keysAreRight_18 : decode cX6_keysAreRight 18 = .ok (.lload 4, 2) := by decide +kernel
theorem dX6_keysAreRight_20 : decode cX6_keysAreRight 20 = .ok (.aload_n 0, 1) := by decide +kernel
theorem dX6_keysAreRight_21 : decode cX6_keysAreRight 21 = .ok (.getfield 52, 3) := by decide +kernel
theorem dX6_keysAreRight_24 : decode cX6_keysAreRight 24 = .ok (.lcmp, 1) := by decide +kernel
theorem dX6_keysAreRight_25 : decode cX6_keysAreRight 25 = .ok (.ifCond .le 25, 3) := by decide +kernel
theorem dX6_keysAreRight_28 : decode cX6_keysAreRight 28 = .ok (.lload 4, 2) := by decide +kernel
theorem dX6_keysAreRight_30 : decode cX6_keysAreRight 30 = .ok (.aload_n 0, 1) := by decide +kernel
theorem dX6_keysAreRight_31 : decode cX6_keysAreRight 31 = .ok (.iload_n 2, 1) := by decide +kernel
theorem dX6_keysAreRight_32 : decode cX6_keysAreRight 32 = .ok (.invokevirtual 125, 3) := by decide +kernel
theorem dX6_keysAreRight_35 : decode cX6_keysAreRight 35 = .ok (.lcmp, 1) := by decide +kernel
theorem dX6_keysAreRight_36 : decode cX6_keysAreRight 36 = .ok (.ifCond .lt 14, 3) := by decide +kernel
theorem dX6_keysAreRight_39 : decode cX6_keysAreRight 39 = .ok (.lload 4, 2) := by decide +kernel
theorem dX6_keysAreRight_41 : decode cX6_keysAreRight 41 = .ok (.aload_n 0, 1) := by decide +kernel
theorem dX6_keysAreRight_42 : decode cX6_keysAreRight 42 = .ok (.iload_n 2, 1) := by decide +kernel
theorem dX6_keysAreRight_43 : decode cX6_keysAreRight 43 = .ok (.invokevirtual 129, 3) := by decide +kernel
theorem dX6_keysAreRight_46 : decode cX6_keysAreRight 46 = .ok (.lcmp, 1) := by decide +kernel
theorem dX6_keysAreRight_47 : decode cX6_keysAreRight 47 = .ok (.ifCond .lt 5, 3) := by decide +kernel
theorem dX6_keysAreRight_50 : decode cX6_keysAreRight 50 = .ok (.iconst 0, 1) := by decide +kernel
theorem dX6_keysAreRight_51 : decode cX6_keysAreRight 51 = .ok (.ireturn, 1) := by decide +kernel
theorem dX6_keysAreRight_52 : decode cX6_keysAreRight 52 = .ok (.aload_n 0, 1) := by decide +kernel
theorem dX6_keysAreRight_53 : decode cX6_keysAreRight 53 = .ok (.lload 4, 2) := by decide +kernel
theorem dX6_keysAreRight_55 : decode cX6_keysAreRight 55 = .ok (.putfield 52, 3) := by decide +kernel
theorem dX6_keysAreRight_58 : decode cX6_keysAreRight 58 = .ok (.aload_n 0, 1) := by decide +kernel
theorem dX6_keysAreRight_59 : decode cX6_keysAreRight 59 = .ok (.dup, 1) := by decide +kernel
theorem dX6_keysAreRight_60 : decode cX6_keysAreRight 60 = .ok (.getfield 47, 3) := by decide +kernel
theorem dX6_keysAreRight_63 : decode cX6_keysAreRight 63 = .ok (.iconst 1, 1) := by decide +kernel
theorem dX6_keysAreRight_64 : decode cX6_keysAreRight 64 = .ok (.iadd, 1) := by decide +kernel
theorem dX6_keysAreRight_65 : decode cX6_keysAreRight 65 = .ok (.putfield 47, 3) := by decide +kernel
theorem dX6_keysAreRight_68 : decode cX6_keysAreRight 68 = .ok (.iinc 3 1, 3) := by decide +kernel
theorem dX6_keysAreRight_71 : decode cX6_keysAreRight 71 = .ok (.goto (-69), 3) := by decide +kernel
theorem dX6_keysAreRight_74 : decode cX6_keysAreRight 74 = .ok (.iconst 1, 1) := by decide +kernel
theorem dX6_keysAreRight_75 : decode cX6_keysAreRight 75 = .ok (.ireturn, 1) := by decide +kernel
theorem dX6_lowestAt_0 : decode cX6_lowestAt 0 = .ok (.iload_n 1, 1) := by decide +kernel
theorem dX6_lowestAt_1 : decode cX6_lowestAt 1 = .ok (.ifCond .lt 21, 3) := by decide +kernel
theorem dX6_lowestAt_4 : decode cX6_lowestAt 4 = .ok (.iload_n 1, 1) := by decide +kernel
theorem dX6_lowestAt_5 : decode cX6_lowestAt 5 = .ok (.aload_n 0, 1) := by decide +kernel
theorem dX6_lowestAt_6 : decode cX6_lowestAt 6 = .ok (.getfield 33, 3) := by decide +kernel
theorem dX6_lowestAt_9 : decode cX6_lowestAt 9 = .ok (.arraylength, 1) := by decide +kernel
theorem dX6_lowestAt_10 : decode cX6_lowestAt 10 = .ok (.if_icmp .ge 12, 3) := by decide +kernel
theorem dX6_lowestAt_13 : decode cX6_lowestAt 13 = .ok (.aload_n 0, 1) := by decide +kernel
theorem dX6_lowestAt_14 : decode cX6_lowestAt 14 = .ok (.getfield 33, 3) := by decide +kernel
theorem dX6_lowestAt_17 : decode cX6_lowestAt 17 = .ok (.iload_n 1, 1) := by decide +kernel
theorem dX6_lowestAt_18 : decode cX6_lowestAt 18 = .ok (.laload, 1) := by decide +kernel
theorem dX6_lowestAt_19 : decode cX6_lowestAt 19 = .ok (.goto 6, 3) := by decide +kernel
theorem dX6_lowestAt_22 : decode cX6_lowestAt 22 = .ok (.ldc2_w 73, 3) := by decide +kernel
theorem dX6_lowestAt_25 : decode cX6_lowestAt 25 = .ok (.lreturn, 1) := by decide +kernel
theorem dX6_reach_0 : decode cX6_reach 0 = .ok (.iload_n 1, 1) := by decide +kernel
theorem dX6_reach_1 : decode cX6_reach 1 = .ok (.iconst 2, 1) := by decide +kernel
theorem dX6_reach_2 : decode cX6_reach 2 = .ok (.if_icmp .lt 18, 3) := by decide +kernel
theorem dX6_reach_5 : decode cX6_reach 5 = .ok (.iload_n 1, 1) := by decide +kernel
theorem dX6_reach_6 : decode cX6_reach 6 = .ok (.aload_n 0, 1) := by decide +kernel
theorem dX6_reach_7 : decode cX6_reach 7 = .ok (.getfield 9, 3) := by decide +kernel
theorem dX6_reach_10 : decode cX6_reach 10 = .ok (.getfield 23, 3) := by decide +kernel
theorem dX6_reach_13 : decode cX6_reach 13 = .ok (.if_icmp .ge 7, 3) := by decide +kernel
theorem dX6_reach_16 : decode cX6_reach 16 = .ok (.iconst 1, 1) := by decide +kernel
theorem dX6_reach_17 : decode cX6_reach 17 = .ok (.goto 4, 3) := by decide +kernel
theorem dX6_reach_20 : decode cX6_reach 20 = .ok (.iconst 0, 1) := by decide +kernel
theorem dX6_reach_21 : decode cX6_reach 21 = .ok (.istore 6, 2) := by decide +kernel
theorem dX6_reach_23 : decode cX6_reach 23 = .ok (.iload 6, 2) := by decide +kernel
theorem dX6_reach_25 : decode cX6_reach 25 = .ok (.ifCond .eq 26, 3) := by decide +kernel
theorem dX6_reach_28 : decode cX6_reach 28 = .ok (.aload_n 0, 1) := by decide +kernel
theorem dX6_reach_29 : decode cX6_reach 29 = .ok (.getfield 43, 3) := by decide +kernel
theorem dX6_reach_32 : decode cX6_reach 32 = .ok (.iload_n 1, 1) := by decide +kernel
theorem dX6_reach_33 : decode cX6_reach 33 = .ok (.invokestatic 144, 3) := by decide +kernel
theorem dX6_reach_36 : decode cX6_reach 36 = .ok (.ifCond .ne 15, 3) := by decide +kernel
theorem dX6_reach_39 : decode cX6_reach 39 = .ok (.aload_n 0, 1) := by decide +kernel
theorem dX6_reach_40 : decode cX6_reach 40 = .ok (.getfield 40, 3) := by decide +kernel
theorem dX6_reach_43 : decode cX6_reach 43 = .ok (.aload_n 0, 1) := by decide +kernel
theorem dX6_reach_44 : decode cX6_reach 44 = .ok (.getfield 29, 3) := by decide +kernel
theorem dX6_reach_47 : decode cX6_reach 47 = .ok (.arraylength, 1) := by decide +kernel
theorem dX6_reach_48 : decode cX6_reach 48 = .ok (.if_icmp .lt 5, 3) := by decide +kernel
theorem dX6_reach_51 : decode cX6_reach 51 = .ok (.iconst 0, 1) := by decide +kernel
theorem dX6_reach_52 : decode cX6_reach 52 = .ok (.ireturn, 1) := by decide +kernel
theorem dX6_reach_53 : decode cX6_reach 53 = .ok (.aload_n 0, 1) := by decide +kernel
theorem dX6_reach_54 : decode cX6_reach 54 = .ok (.dup, 1) := by decide +kernel
theorem dX6_reach_55 : decode cX6_reach 55 = .ok (.getfield 43, 3) := by decide +kernel
theorem dX6_reach_58 : decode cX6_reach 58 = .ok (.iload_n 1, 1) := by decide +kernel
theorem dX6_reach_59 : decode cX6_reach 59 = .ok (.invokestatic 148, 3) := by decide +kernel
theorem dX6_reach_62 : decode cX6_reach 62 = .ok (.lor, 1) := by decide +kernel
theorem dX6_reach_63 : decode cX6_reach 63 = .ok (.putfield 43, 3) := by decide +kernel
theorem dX6_reach_66 : decode cX6_reach 66 = .ok (.aload_n 0, 1) := by decide +kernel
theorem dX6_reach_67 : decode cX6_reach 67 = .ok (.getfield 29, 3) := by decide +kernel
theorem dX6_reach_70 : decode cX6_reach 70 = .ok (.aload_n 0, 1) := by decide +kernel
theorem dX6_reach_71 : decode cX6_reach 71 = .ok (.getfield 40, 3) := by decide +kernel
theorem dX6_reach_74 : decode cX6_reach 74 = .ok (.iload_n 1, 1) := by decide +kernel
theorem dX6_reach_75 : decode cX6_reach 75 = .ok (.iastore, 1) := by decide +kernel
theorem dX6_reach_76 : decode cX6_reach 76 = .ok (.aload_n 0, 1) := by decide +kernel
theorem dX6_reach_77 : decode cX6_reach 77 = .ok (.getfield 33, 3) := by decide +kernel
theorem dX6_reach_80 : decode cX6_reach 80 = .ok (.aload_n 0, 1) := by decide +kernel
theorem dX6_reach_81 : decode cX6_reach 81 = .ok (.getfield 40, 3) := by decide +kernel
theorem dX6_reach_84 : decode cX6_reach 84 = .ok (.lload_n 2, 1) := by decide +kernel
theorem dX6_reach_85 : decode cX6_reach 85 = .ok (.lastore, 1) := by decide +kernel
theorem dX6_reach_86 : decode cX6_reach 86 = .ok (.aload_n 0, 1) := by decide +kernel
theorem dX6_reach_87 : decode cX6_reach 87 = .ok (.getfield 37, 3) := by decide +kernel
theorem dX6_reach_90 : decode cX6_reach 90 = .ok (.aload_n 0, 1) := by decide +kernel
theorem dX6_reach_91 : decode cX6_reach 91 = .ok (.getfield 40, 3) := by decide +kernel
theorem dX6_reach_94 : decode cX6_reach 94 = .ok (.lload 4, 2) := by decide +kernel
theorem dX6_reach_96 : decode cX6_reach 96 = .ok (.lastore, 1) := by decide +kernel
theorem dX6_reach_97 : decode cX6_reach 97 = .ok (.aload_n 0, 1) := by decide +kernel
theorem dX6_reach_98 : decode cX6_reach 98 = .ok (.dup, 1) := by decide +kernel
theorem dX6_reach_99 : decode cX6_reach 99 = .ok (.getfield 40, 3) := by decide +kernel
theorem dX6_reach_102 : decode cX6_reach 102 = .ok (.iconst 1, 1) := by decide +kernel
theorem dX6_reach_103 : decode cX6_reach 103 = .ok (.iadd, 1) := by decide +kernel
theorem dX6_reach_104 : decode cX6_reach 104 = .ok (.putfield 40, 3) := by decide +kernel
theorem dX6_reach_107 : decode cX6_reach 107 = .ok (.iconst 1, 1) := by decide +kernel
theorem dX6_reach_108 : decode cX6_reach 108 = .ok (.ireturn, 1) := by decide +kernel
def v_X6_blockAt : List Cond := .code yX6_blockAt cX6_blockAt 2 (some .int) :: ([.fieldLink RX6 29 "TwinRoots$Survey" "line" "[I"] ++ (wsX60 ++ ([])))
set_option maxHeartbeats 4000000 in
set_option maxRecDepth 100000 in
/-- blockAt: some number -/
theorem c_X6_blockAt (l : Launch) (dC : Nat → ClassId) (dI : Nat → Nat → Nat) (sz : Nat) (hs : Nat) (hd : Nat) (hf : Nat) (hm : Nat) (l1 : Nat) (l2 : Nat) (l3 : Nat) (sl : Nat) (s2 : Int64) (s4 : Int64) (s3 : Int32) (b : Nat) (p0 : Int32) (cI : ClassId) (g1 : Nat → Int32) (zb : b ≤ 64) : Met l yX6_blockAt v_X6_blockAt ({ frames := 0, cells := 0, slots := 0, locals := 0 } : Room) (va_Pc [.ref hs, .int p0] (fun U => U.heap.size = sz ∧ va_P (dC, dI) vwCl [(hs, .inr (6, [.ref hd, .ref hf, .ref hm, .ref l1, .ref l2, .ref l3, .int (nI sl), .long s2, .int s3, .long s4])), (l1, .inl (cI, b, .inl g1))] U.heap ∧ va_K (dC, dI) vwCl [(cI, .int)] U ∧ va_D (fun _ => True) [(hs, .inr (6, [.ref hd, .ref hf, .ref hm, .ref l1, .ref l2, .ref l3, .int (nI sl), .long s2, .int s3, .long s4])), (l1, .inl (cI, b, .inl g1))])) (va_Qi (fun (r : Int32) (_ : Unit) => True) (fun (_ : Unit) (t : State) => va_P (dC, dI) vwCl [(hs, .inr (6, [.ref hd, .ref hf, .ref hm, .ref l1, .ref l2, .ref l3, .int (nI sl), .long s2, .int s3, .long s4])), (l1, .inl (cI, b, .inl g1))] t.heap ∧ va_K (dC, dI) vwCl [(cI, .int)] t ∧ va_D (va_A [(hs, .inr (6, [.ref hd, .ref hf, .ref hm, .ref l1, .ref l2, .ref l3, .int (nI sl), .long s2, .int s3, .long s4])), (l1, .inl (cI, b, .inl g1))] sz) [(hs, .inr (6, [.ref hd, .ref hf, .ref hm, .ref l1, .ref l2, .ref l3, .int (nI sl), .long s2, .int s3, .long s4])), (l1, .inl (cI, b, .inl g1))]) (va_A [(hs, .inr (6, [.ref hd, .ref hf, .ref hm, .ref l1, .ref l2, .ref l3, .int (nI sl), .long s2, .int s3, .long s4])), (l1, .inl (cI, b, .inl g1))] sz)) 0 0 (va_A [(hs, .inr (6, [.ref hd, .ref hf, .ref hm, .ref l1, .ref l2, .ref l3, .int (nI sl), .long s2, .int s3, .long s4])), (l1, .inl (cI, b, .inl g1))] sz) := by
  refine Met.ofW (cc := cX6_blockAt) (maxL := 2) (ret := (some .int)) (by decide) rfl ?_
  intro p e s m args below meth c s₁ B hml hv
  obtain ⟨rfl, hsz, hP, hK, hD0⟩ := hv
  have hx := B.exec
  have hb := B.bytes
  have hr := B.returns
  have hts := atoms_spec (ws := v_X6_blockAt) B.pre
  have hown : s.vm.findClass RX6 = some m.cls := findClass_of_methodNamed B.named
  have hlocks := B.notSynchronized
  subst hsz
  have hD := hD0.self (sz := s.heap.size)
  generalize hAe : va_A [(hs, .inr (6, [.ref hd, .ref hf, .ref hm, .ref l1, .ref l2, .ref l3, .int (nI sl), .long s2, .int s3, .long s4])), (l1, .inl (cI, b, .inl g1))] s.heap.size = A at hD ⊢
  have hA : ∀ q : Nat, s.heap.size ≤ q → A q := fun q h => by rw [← hAe]; exact Or.inr h
  have hS : va_S A s.heap s.heap [] := va_S.rf
  have hP : va_P (dC, dI) vwCl [(hs, .inr (6, [.ref hd, .ref hf, .ref hm, .ref l1, .ref l2, .ref l3, .int (nI sl), .long s2, .int s3, .long s4])), (l1, .inl (cI, b, .inl g1))] s.heap := hP
  have hl := lv_entry ([.ref hs, .int p0]) (n := 2) (Nat.le_of_ble_eq_true rfl)
  rw [lg_entry_eq]
  generalize (lg_sl ([.ref hs, .int p0]) ++ List.replicate (2 - (lg_sl ([.ref hs, .int p0])).length) Slot.unset).toArray = ls at hl ⊢
  have hl : lv_has ls 2 [(0, .ref hs), (1, .int p0)] := hl
  have k_1 := (fun _ h => List.mem_cons_of_mem _ (List.mem_append_right _ (List.mem_append_left _ h)) : ∀ w ∈ wsX60, w ∈ v_X6_blockAt)
  have k_2 := hts (.fieldLink RX6 29 "TwinRoots$Survey" "line" "[I") (List.mem_of_getElem? (i := 1) rfl)
  refine lv_iload_n hx hb dX6_blockAt_0 rfl (lv_at hl 1 rfl) ?_
  refine lv_if_lt (tgt := 22) hx hb dX6_blockAt_1 (by decide) (fun c_1 => ?_) (fun c_1 => ?_)
  · refine lv_iconst (v := 0) hx hb dX6_blockAt_22 (by decide) ?_
    have hP9 := hP.sub (ws' := [(hs, .inr (6, [.ref hd, .ref hf, .ref hm, .ref l1, .ref l2, .ref l3, .int (nI sl), .long s2, .int s3, .long s4])), (l1, .inl (cI, b, .inl g1))]) [0, 1] rfl
    have hD9 := hD.sub (ws' := [(hs, .inr (6, [.ref hd, .ref hf, .ref hm, .ref l1, .ref l2, .ref l3, .int (nI sl), .long s2, .int s3, .long s4])), (l1, .inl (cI, b, .inl g1))]) [0, 1] (by decide) rfl
    have hK9 := hK.sub (tys' := [(cI, .int)]) [0] rfl
    exact W.iret (v := 0) hx hb hr (fun t ht hW => ⟨⟨0, (), rfl, trivial, by rw [ht]; exact hP9, va_K.moved hW.alike hK9, hD9⟩, hS.F ht⟩) hS.2.2 dX6_blockAt_23
  · refine lv_iload_n hx hb dX6_blockAt_4 rfl (lv_at hl 1 rfl) ?_
    refine lv_aload_n hx hb dX6_blockAt_5 rfl (lv_at hl 0 rfl) ?_
    refine va_get (D := (dC, dI)) (ci := 6) (v := .ref l1) (C := RX6) (T := TX6) (N := 10) hx hb hts k_1 hown hK hP 0 rfl rfl 3 (by decide) k_2 (fun _ h9 => h9) rfl dX6_blockAt_6 ?_
    refine va_alen (v := nI b) hx hb hK hP 1 0 rfl rfl rfl dX6_blockAt_9 ?_
    refine lv_icmp_ge (tgt := 22) hx hb dX6_blockAt_10 (by decide) (fun c_2 => ?_) (fun c_2 => ?_)
    · refine lv_iconst (v := 0) hx hb dX6_blockAt_22 (by decide) ?_
      have hP9 := hP.sub (ws' := [(hs, .inr (6, [.ref hd, .ref hf, .ref hm, .ref l1, .ref l2, .ref l3, .int (nI sl), .long s2, .int s3, .long s4])), (l1, .inl (cI, b, .inl g1))]) [0, 1] rfl
      have hD9 := hD.sub (ws' := [(hs, .inr (6, [.ref hd, .ref hf, .ref hm, .ref l1, .ref l2, .ref l3, .int (nI sl), .long s2, .int s3, .long s4])), (l1, .inl (cI, b, .inl g1))]) [0, 1] (by decide) rfl
      have hK9 := hK.sub (tys' := [(cI, .int)]) [0] rfl
      exact W.iret (v := 0) hx hb hr (fun t ht hW => ⟨⟨0, (), rfl, trivial, by rw [ht]; exact hP9, va_K.moved hW.alike hK9, hD9⟩, hS.F ht⟩) hS.2.2 dX6_blockAt_23
    · refine lv_aload_n hx hb dX6_blockAt_13 rfl (lv_at hl 0 rfl) ?_
      refine va_get (D := (dC, dI)) (ci := 6) (v := .ref l1) (C := RX6) (T := TX6) (N := 10) hx hb hts k_1 hown hK hP 0 rfl rfl 3 (by decide) k_2 (fun _ h9 => h9) rfl dX6_blockAt_14 ?_
      refine lv_iload_n hx hb dX6_blockAt_17 rfl (lv_at hl 1 rfl) ?_
      refine va_iald hx hb hK hP 1 0 rfl rfl (in_guard c_1 c_2 (by omega)) dX6_blockAt_18 ?_
      refine lv_topi (fun z_3 _ => ?_)
      refine lv_goto (tgt := 23) hx hb dX6_blockAt_19 (by decide) ?_
      have hP9 := hP.sub (ws' := [(hs, .inr (6, [.ref hd, .ref hf, .ref hm, .ref l1, .ref l2, .ref l3, .int (nI sl), .long s2, .int s3, .long s4])), (l1, .inl (cI, b, .inl g1))]) [0, 1] rfl
      have hD9 := hD.sub (ws' := [(hs, .inr (6, [.ref hd, .ref hf, .ref hm, .ref l1, .ref l2, .ref l3, .int (nI sl), .long s2, .int s3, .long s4])), (l1, .inl (cI, b, .inl g1))]) [0, 1] (by decide) rfl
      have hK9 := hK.sub (tys' := [(cI, .int)]) [0] rfl
      exact W.iret (v := z_3) hx hb hr (fun t ht hW => ⟨⟨z_3, (), rfl, trivial, by rw [ht]; exact hP9, va_K.moved hW.alike hK9, hD9⟩, hS.F ht⟩) hS.2.2 dX6_blockAt_23
def v_X6_lowestAt : List Cond := .code yX6_lowestAt cX6_lowestAt 2 (some .long) :: ([.constantLong RX6 73 (2147483648), .fieldLink RX6 33 "TwinRoots$Survey" "lowest" "[J"] ++ (wsX60 ++ ([])))
set_option maxHeartbeats 4000000 in
set_option maxRecDepth 100000 in
/-- lowestAt: some number -/
theorem c_X6_lowestAt (l : Launch) (dC : Nat → ClassId) (dI : Nat → Nat → Nat) (sz : Nat) (hs : Nat) (hd : Nat) (hf : Nat) (hm : Nat) (l1 : Nat) (l2 : Nat) (l3 : Nat) (sl : Nat) (s2 : Int64) (s4 : Int64) (s3 : Int32) (b : Nat) (p0 : Int32) (cJ : ClassId) (g2 : Nat → Int64) (zb : b ≤ 64) : Met l yX6_lowestAt v_X6_lowestAt ({ frames := 0, cells := 0, slots := 0, locals := 0 } : Room) (va_Pc [.ref hs, .int p0] (fun U => U.heap.size = sz ∧ va_P (dC, dI) vwCl [(hs, .inr (6, [.ref hd, .ref hf, .ref hm, .ref l1, .ref l2, .ref l3, .int (nI sl), .long s2, .int s3, .long s4])), (l2, .inl (cJ, b, .inr (.inl g2)))] U.heap ∧ va_K (dC, dI) vwCl [(cJ, .long)] U ∧ va_D (fun _ => True) [(hs, .inr (6, [.ref hd, .ref hf, .ref hm, .ref l1, .ref l2, .ref l3, .int (nI sl), .long s2, .int s3, .long s4])), (l2, .inl (cJ, b, .inr (.inl g2)))])) (va_Ql (fun (r : Int64) (_ : Unit) => True) (fun (_ : Unit) (t : State) => va_P (dC, dI) vwCl [(hs, .inr (6, [.ref hd, .ref hf, .ref hm, .ref l1, .ref l2, .ref l3, .int (nI sl), .long s2, .int s3, .long s4])), (l2, .inl (cJ, b, .inr (.inl g2)))] t.heap ∧ va_K (dC, dI) vwCl [(cJ, .long)] t ∧ va_D (va_A [(hs, .inr (6, [.ref hd, .ref hf, .ref hm, .ref l1, .ref l2, .ref l3, .int (nI sl), .long s2, .int s3, .long s4])), (l2, .inl (cJ, b, .inr (.inl g2)))] sz) [(hs, .inr (6, [.ref hd, .ref hf, .ref hm, .ref l1, .ref l2, .ref l3, .int (nI sl), .long s2, .int s3, .long s4])), (l2, .inl (cJ, b, .inr (.inl g2)))]) (va_A [(hs, .inr (6, [.ref hd, .ref hf, .ref hm, .ref l1, .ref l2, .ref l3, .int (nI sl), .long s2, .int s3, .long s4])), (l2, .inl (cJ, b, .inr (.inl g2)))] sz)) 0 0 (va_A [(hs, .inr (6, [.ref hd, .ref hf, .ref hm, .ref l1, .ref l2, .ref l3, .int (nI sl), .long s2, .int s3, .long s4])), (l2, .inl (cJ, b, .inr (.inl g2)))] sz) := by
  refine Met.ofW (cc := cX6_lowestAt) (maxL := 2) (ret := (some .long)) (by decide) rfl ?_
  intro p e s m args below meth c s₁ B hml hv
  obtain ⟨rfl, hsz, hP, hK, hD0⟩ := hv
  have hx := B.exec
  have hb := B.bytes
  have hr := B.returns
  have hts := atoms_spec (ws := v_X6_lowestAt) B.pre
  have hown : s.vm.findClass RX6 = some m.cls := findClass_of_methodNamed B.named
  have hlocks := B.notSynchronized
  subst hsz
  have hD := hD0.self (sz := s.heap.size)
  generalize hAe : va_A [(hs, .inr (6, [.ref hd, .ref hf, .ref hm, .ref l1, .ref l2, .ref l3, .int (nI sl), .long s2, .int s3, .long s4])), (l2, .inl (cJ, b, .inr (.inl g2)))] s.heap.size = A at hD ⊢
  have hA : ∀ q : Nat, s.heap.size ≤ q → A q := fun q h => by rw [← hAe]; exact Or.inr h
  have hS : va_S A s.heap s.heap [] := va_S.rf
  have hP : va_P (dC, dI) vwCl [(hs, .inr (6, [.ref hd, .ref hf, .ref hm, .ref l1, .ref l2, .ref l3, .int (nI sl), .long s2, .int s3, .long s4])), (l2, .inl (cJ, b, .inr (.inl g2)))] s.heap := hP
  have hl := lv_entry ([.ref hs, .int p0]) (n := 2) (Nat.le_of_ble_eq_true rfl)
  rw [lg_entry_eq]
  generalize (lg_sl ([.ref hs, .int p0]) ++ List.replicate (2 - (lg_sl ([.ref hs, .int p0])).length) Slot.unset).toArray = ls at hl ⊢
  have hl : lv_has ls 2 [(0, .ref hs), (1, .int p0)] := hl
  have k_1 := hts (.constantLong RX6 73 (2147483648)) (List.mem_of_getElem? (i := 1) rfl)
  have k_2 := (fun _ h => List.mem_cons_of_mem _ (List.mem_append_right _ (List.mem_append_left _ h)) : ∀ w ∈ wsX60, w ∈ v_X6_lowestAt)
  have k_3 := hts (.fieldLink RX6 33 "TwinRoots$Survey" "lowest" "[J") (List.mem_of_getElem? (i := 2) rfl)
  refine lv_iload_n hx hb dX6_lowestAt_0 rfl (lv_at hl 1 rfl) ?_
  refine lv_if_lt (tgt := 22) hx hb dX6_lowestAt_1 (by decide) (fun c_1 => ?_) (fun c_1 => ?_)
  · refine lv_ldc2 (v := (2147483648)) hx hb hown k_1 dX6_lowestAt_22 ?_
    have hP9 := hP.sub (ws' := [(hs, .inr (6, [.ref hd, .ref hf, .ref hm, .ref l1, .ref l2, .ref l3, .int (nI sl), .long s2, .int s3, .long s4])), (l2, .inl (cJ, b, .inr (.inl g2)))]) [0, 1] rfl
    have hD9 := hD.sub (ws' := [(hs, .inr (6, [.ref hd, .ref hf, .ref hm, .ref l1, .ref l2, .ref l3, .int (nI sl), .long s2, .int s3, .long s4])), (l2, .inl (cJ, b, .inr (.inl g2)))]) [0, 1] (by decide) rfl
    have hK9 := hK.sub (tys' := [(cJ, .long)]) [0] rfl
    exact W.lret (v := 2147483648) hx hb hr (fun t ht hW => ⟨⟨2147483648, (), rfl, trivial, by rw [ht]; exact hP9, va_K.moved hW.alike hK9, hD9⟩, hS.F ht⟩) hS.2.2 dX6_lowestAt_25
  · refine lv_iload_n hx hb dX6_lowestAt_4 rfl (lv_at hl 1 rfl) ?_
    refine lv_aload_n hx hb dX6_lowestAt_5 rfl (lv_at hl 0 rfl) ?_
    refine va_get (D := (dC, dI)) (ci := 6) (v := .ref l2) (C := RX6) (T := TX6) (N := 10) hx hb hts k_2 hown hK hP 0 rfl rfl 4 (by decide) k_3 (fun _ h9 => h9) rfl dX6_lowestAt_6 ?_
    refine va_alen (v := nI b) hx hb hK hP 1 0 rfl rfl rfl dX6_lowestAt_9 ?_
    refine lv_icmp_ge (tgt := 22) hx hb dX6_lowestAt_10 (by decide) (fun c_2 => ?_) (fun c_2 => ?_)
    · refine lv_ldc2 (v := (2147483648)) hx hb hown k_1 dX6_lowestAt_22 ?_
      have hP9 := hP.sub (ws' := [(hs, .inr (6, [.ref hd, .ref hf, .ref hm, .ref l1, .ref l2, .ref l3, .int (nI sl), .long s2, .int s3, .long s4])), (l2, .inl (cJ, b, .inr (.inl g2)))]) [0, 1] rfl
      have hD9 := hD.sub (ws' := [(hs, .inr (6, [.ref hd, .ref hf, .ref hm, .ref l1, .ref l2, .ref l3, .int (nI sl), .long s2, .int s3, .long s4])), (l2, .inl (cJ, b, .inr (.inl g2)))]) [0, 1] (by decide) rfl
      have hK9 := hK.sub (tys' := [(cJ, .long)]) [0] rfl
      exact W.lret (v := 2147483648) hx hb hr (fun t ht hW => ⟨⟨2147483648, (), rfl, trivial, by rw [ht]; exact hP9, va_K.moved hW.alike hK9, hD9⟩, hS.F ht⟩) hS.2.2 dX6_lowestAt_25
    · refine lv_aload_n hx hb dX6_lowestAt_13 rfl (lv_at hl 0 rfl) ?_
      refine va_get (D := (dC, dI)) (ci := 6) (v := .ref l2) (C := RX6) (T := TX6) (N := 10) hx hb hts k_2 hown hK hP 0 rfl rfl 4 (by decide) k_3 (fun _ h9 => h9) rfl dX6_lowestAt_14 ?_
      refine lv_iload_n hx hb dX6_lowestAt_17 rfl (lv_at hl 1 rfl) ?_
      refine va_lald hx hb hK hP 1 0 rfl rfl (in_guard c_1 c_2 (by omega)) dX6_lowestAt_18 ?_
      refine lv_topl (fun z_3 _ => ?_)
      refine lv_goto (tgt := 25) hx hb dX6_lowestAt_19 (by decide) ?_
      have hP9 := hP.sub (ws' := [(hs, .inr (6, [.ref hd, .ref hf, .ref hm, .ref l1, .ref l2, .ref l3, .int (nI sl), .long s2, .int s3, .long s4])), (l2, .inl (cJ, b, .inr (.inl g2)))]) [0, 1] rfl
      have hD9 := hD.sub (ws' := [(hs, .inr (6, [.ref hd, .ref hf, .ref hm, .ref l1, .ref l2, .ref l3, .int (nI sl), .long s2, .int s3, .long s4])), (l2, .inl (cJ, b, .inr (.inl g2)))]) [0, 1] (by decide) rfl
      have hK9 := hK.sub (tys' := [(cJ, .long)]) [0] rfl
      exact W.lret (v := z_3) hx hb hr (fun t ht hW => ⟨⟨z_3, (), rfl, trivial, by rw [ht]; exact hP9, va_K.moved hW.alike hK9, hD9⟩, hS.F ht⟩) hS.2.2 dX6_lowestAt_25
def v_X6_ceilingAt : List Cond := .code yX6_ceilingAt cX6_ceilingAt 2 (some .long) :: ([.constantLong RX6 50 (-2147483649), .fieldLink RX6 37 "TwinRoots$Survey" "ceiling" "[J"] ++ (wsX60 ++ ([])))
set_option maxHeartbeats 4000000 in
set_option maxRecDepth 100000 in
/-- ceilingAt: some number -/
theorem c_X6_ceilingAt (l : Launch) (dC : Nat → ClassId) (dI : Nat → Nat → Nat) (sz : Nat) (hs : Nat) (hd : Nat) (hf : Nat) (hm : Nat) (l1 : Nat) (l2 : Nat) (l3 : Nat) (sl : Nat) (s2 : Int64) (s4 : Int64) (s3 : Int32) (b : Nat) (p0 : Int32) (cJ : ClassId) (g3 : Nat → Int64) (zb : b ≤ 64) : Met l yX6_ceilingAt v_X6_ceilingAt ({ frames := 0, cells := 0, slots := 0, locals := 0 } : Room) (va_Pc [.ref hs, .int p0] (fun U => U.heap.size = sz ∧ va_P (dC, dI) vwCl [(hs, .inr (6, [.ref hd, .ref hf, .ref hm, .ref l1, .ref l2, .ref l3, .int (nI sl), .long s2, .int s3, .long s4])), (l3, .inl (cJ, b, .inr (.inl g3)))] U.heap ∧ va_K (dC, dI) vwCl [(cJ, .long)] U ∧ va_D (fun _ => True) [(hs, .inr (6, [.ref hd, .ref hf, .ref hm, .ref l1, .ref l2, .ref l3, .int (nI sl), .long s2, .int s3, .long s4])), (l3, .inl (cJ, b, .inr (.inl g3)))])) (va_Ql (fun (r : Int64) (_ : Unit) => True) (fun (_ : Unit) (t : State) => va_P (dC, dI) vwCl [(hs, .inr (6, [.ref hd, .ref hf, .ref hm, .ref l1, .ref l2, .ref l3, .int (nI sl), .long s2, .int s3, .long s4])), (l3, .inl (cJ, b, .inr (.inl g3)))] t.heap ∧ va_K (dC, dI) vwCl [(cJ, .long)] t ∧ va_D (va_A [(hs, .inr (6, [.ref hd, .ref hf, .ref hm, .ref l1, .ref l2, .ref l3, .int (nI sl), .long s2, .int s3, .long s4])), (l3, .inl (cJ, b, .inr (.inl g3)))] sz) [(hs, .inr (6, [.ref hd, .ref hf, .ref hm, .ref l1, .ref l2, .ref l3, .int (nI sl), .long s2, .int s3, .long s4])), (l3, .inl (cJ, b, .inr (.inl g3)))]) (va_A [(hs, .inr (6, [.ref hd, .ref hf, .ref hm, .ref l1, .ref l2, .ref l3, .int (nI sl), .long s2, .int s3, .long s4])), (l3, .inl (cJ, b, .inr (.inl g3)))] sz)) 0 0 (va_A [(hs, .inr (6, [.ref hd, .ref hf, .ref hm, .ref l1, .ref l2, .ref l3, .int (nI sl), .long s2, .int s3, .long s4])), (l3, .inl (cJ, b, .inr (.inl g3)))] sz) := by
  refine Met.ofW (cc := cX6_ceilingAt) (maxL := 2) (ret := (some .long)) (by decide) rfl ?_
  intro p e s m args below meth c s₁ B hml hv
  obtain ⟨rfl, hsz, hP, hK, hD0⟩ := hv
  have hx := B.exec
  have hb := B.bytes
  have hr := B.returns
  have hts := atoms_spec (ws := v_X6_ceilingAt) B.pre
  have hown : s.vm.findClass RX6 = some m.cls := findClass_of_methodNamed B.named
  have hlocks := B.notSynchronized
  subst hsz
  have hD := hD0.self (sz := s.heap.size)
  generalize hAe : va_A [(hs, .inr (6, [.ref hd, .ref hf, .ref hm, .ref l1, .ref l2, .ref l3, .int (nI sl), .long s2, .int s3, .long s4])), (l3, .inl (cJ, b, .inr (.inl g3)))] s.heap.size = A at hD ⊢
  have hA : ∀ q : Nat, s.heap.size ≤ q → A q := fun q h => by rw [← hAe]; exact Or.inr h
  have hS : va_S A s.heap s.heap [] := va_S.rf
  have hP : va_P (dC, dI) vwCl [(hs, .inr (6, [.ref hd, .ref hf, .ref hm, .ref l1, .ref l2, .ref l3, .int (nI sl), .long s2, .int s3, .long s4])), (l3, .inl (cJ, b, .inr (.inl g3)))] s.heap := hP
  have hl := lv_entry ([.ref hs, .int p0]) (n := 2) (Nat.le_of_ble_eq_true rfl)
  rw [lg_entry_eq]
  generalize (lg_sl ([.ref hs, .int p0]) ++ List.replicate (2 - (lg_sl ([.ref hs, .int p0])).length) Slot.unset).toArray = ls at hl ⊢
  have hl : lv_has ls 2 [(0, .ref hs), (1, .int p0)] := hl
  have k_1 := hts (.constantLong RX6 50 (-2147483649)) (List.mem_of_getElem? (i := 1) rfl)
  have k_2 := (fun _ h => List.mem_cons_of_mem _ (List.mem_append_right _ (List.mem_append_left _ h)) : ∀ w ∈ wsX60, w ∈ v_X6_ceilingAt)
  have k_3 := hts (.fieldLink RX6 37 "TwinRoots$Survey" "ceiling" "[J") (List.mem_of_getElem? (i := 2) rfl)
  refine lv_iload_n hx hb dX6_ceilingAt_0 rfl (lv_at hl 1 rfl) ?_
  refine lv_if_lt (tgt := 22) hx hb dX6_ceilingAt_1 (by decide) (fun c_1 => ?_) (fun c_1 => ?_)
  · refine lv_ldc2 (v := (-2147483649)) hx hb hown k_1 dX6_ceilingAt_22 ?_
    have hP9 := hP.sub (ws' := [(hs, .inr (6, [.ref hd, .ref hf, .ref hm, .ref l1, .ref l2, .ref l3, .int (nI sl), .long s2, .int s3, .long s4])), (l3, .inl (cJ, b, .inr (.inl g3)))]) [0, 1] rfl
    have hD9 := hD.sub (ws' := [(hs, .inr (6, [.ref hd, .ref hf, .ref hm, .ref l1, .ref l2, .ref l3, .int (nI sl), .long s2, .int s3, .long s4])), (l3, .inl (cJ, b, .inr (.inl g3)))]) [0, 1] (by decide) rfl
    have hK9 := hK.sub (tys' := [(cJ, .long)]) [0] rfl
    exact W.lret (v := (-2147483649)) hx hb hr (fun t ht hW => ⟨⟨(-2147483649), (), rfl, trivial, by rw [ht]; exact hP9, va_K.moved hW.alike hK9, hD9⟩, hS.F ht⟩) hS.2.2 dX6_ceilingAt_25
  · refine lv_iload_n hx hb dX6_ceilingAt_4 rfl (lv_at hl 1 rfl) ?_
    refine lv_aload_n hx hb dX6_ceilingAt_5 rfl (lv_at hl 0 rfl) ?_
    refine va_get (D := (dC, dI)) (ci := 6) (v := .ref l3) (C := RX6) (T := TX6) (N := 10) hx hb hts k_2 hown hK hP 0 rfl rfl 5 (by decide) k_3 (fun _ h9 => h9) rfl dX6_ceilingAt_6 ?_
    refine va_alen (v := nI b) hx hb hK hP 1 0 rfl rfl rfl dX6_ceilingAt_9 ?_
    refine lv_icmp_ge (tgt := 22) hx hb dX6_ceilingAt_10 (by decide) (fun c_2 => ?_) (fun c_2 => ?_)
    · refine lv_ldc2 (v := (-2147483649)) hx hb hown k_1 dX6_ceilingAt_22 ?_
      have hP9 := hP.sub (ws' := [(hs, .inr (6, [.ref hd, .ref hf, .ref hm, .ref l1, .ref l2, .ref l3, .int (nI sl), .long s2, .int s3, .long s4])), (l3, .inl (cJ, b, .inr (.inl g3)))]) [0, 1] rfl
      have hD9 := hD.sub (ws' := [(hs, .inr (6, [.ref hd, .ref hf, .ref hm, .ref l1, .ref l2, .ref l3, .int (nI sl), .long s2, .int s3, .long s4])), (l3, .inl (cJ, b, .inr (.inl g3)))]) [0, 1] (by decide) rfl
      have hK9 := hK.sub (tys' := [(cJ, .long)]) [0] rfl
      exact W.lret (v := (-2147483649)) hx hb hr (fun t ht hW => ⟨⟨(-2147483649), (), rfl, trivial, by rw [ht]; exact hP9, va_K.moved hW.alike hK9, hD9⟩, hS.F ht⟩) hS.2.2 dX6_ceilingAt_25
    · refine lv_aload_n hx hb dX6_ceilingAt_13 rfl (lv_at hl 0 rfl) ?_
      refine va_get (D := (dC, dI)) (ci := 6) (v := .ref l3) (C := RX6) (T := TX6) (N := 10) hx hb hts k_2 hown hK hP 0 rfl rfl 5 (by decide) k_3 (fun _ h9 => h9) rfl dX6_ceilingAt_14 ?_
      refine lv_iload_n hx hb dX6_ceilingAt_17 rfl (lv_at hl 1 rfl) ?_
      refine va_lald hx hb hK hP 1 0 rfl rfl (in_guard c_1 c_2 (by omega)) dX6_ceilingAt_18 ?_
      refine lv_topl (fun z_3 _ => ?_)
      refine lv_goto (tgt := 25) hx hb dX6_ceilingAt_19 (by decide) ?_
      have hP9 := hP.sub (ws' := [(hs, .inr (6, [.ref hd, .ref hf, .ref hm, .ref l1, .ref l2, .ref l3, .int (nI sl), .long s2, .int s3, .long s4])), (l3, .inl (cJ, b, .inr (.inl g3)))]) [0, 1] rfl
      have hD9 := hD.sub (ws' := [(hs, .inr (6, [.ref hd, .ref hf, .ref hm, .ref l1, .ref l2, .ref l3, .int (nI sl), .long s2, .int s3, .long s4])), (l3, .inl (cJ, b, .inr (.inl g3)))]) [0, 1] (by decide) rfl
      have hK9 := hK.sub (tys' := [(cJ, .long)]) [0] rfl
      exact W.lret (v := z_3) hx hb hr (fun t ht hW => ⟨⟨z_3, (), rfl, trivial, by rw [ht]; exact hP9, va_K.moved hW.alike hK9, hD9⟩, hS.F ht⟩) hS.2.2 dX6_ceilingAt_25
def v_X6_reach : List Cond := .code yX6_reach cX6_reach 7 (some .boolean) :: ([.fieldLink RX6 9 "TwinRoots$Survey" "disk" "LTwinRoots$Disk;", .fieldLink RX6 23 "TwinRoots$Disk" "blocks" "I", .fieldLink RX6 43 "TwinRoots$Survey" "reached" "J", .code yX8_holds cX8_holds 3 (some .boolean), .code yX8_bit cX8_bit 1 (some .long), .methodLink RX8 227 yX8_bit, .static yX8_bit, .initialized RX8, .static yX8_holds, .fieldLink RX6 40 "TwinRoots$Survey" "lineEnd" "I", .fieldLink RX6 29 "TwinRoots$Survey" "line" "[I", .fieldLink RX6 33 "TwinRoots$Survey" "lowest" "[J", .fieldLink RX6 37 "TwinRoots$Survey" "ceiling" "[J"] ++ (wsX60 ++ (wsX00 ++ ([]))))
set_option maxRecDepth 20000 in
theorem g_X6_reach_X8_holds : GoodIn v_X6_reach v_X8_holds := goodIn_r _ [4, 5, 6, 7, 8] (by decide +kernel) (by decide +kernel)
set_option maxRecDepth 20000 in
theorem g_X6_reach_X8_bit : GoodIn v_X6_reach v_X8_bit := goodIn_r _ [5] (by decide +kernel) (by decide +kernel)
set_option maxHeartbeats 4000000 in
set_option maxRecDepth 100000 in
/-- reach -/
theorem c_X6_reach (l : Launch) (dC : Nat → ClassId) (dI : Nat → Nat → Nat) (sz : Nat) (hs : Nat) (hd : Nat) (hf : Nat) (hm : Nat) (l1 : Nat) (l2 : Nat) (l3 : Nat) (sl : Nat) (s2 : Int64) (s4 : Int64) (s3 : Int32) (w : Nat) (b : Nat) (qc : Nat) (qi : Nat) (wr : Int32) (wa : Int32) (wc : Int32) (p0 : Int32) (p1 : Int64) (p2 : Int64) (cI : ClassId) (cJ : ClassId) (g1 : Nat → Int32) (g2 : Nat → Int64) (g3 : Nat → Int64) (zb : b ≤ 64) (zsl : sl ≤ b) : Met l yX6_reach v_X6_reach ({ frames := 2, cells := 0, slots := 0, locals := 42 } : Room) (va_Pc [.ref hs, .int p0, .long p1, .long p2] (fun U => U.heap.size = sz ∧ va_P (dC, dI) vwCl [(hs, .inr (6, [.ref hd, .ref hf, .ref hm, .ref l1, .ref l2, .ref l3, .int (nI sl), .long s2, .int s3, .long s4])), (hd, .inr (0, [.int (nI w), .int (nI b), .int wr, .ref qc, .ref qi, .int wa, .int wc])), (l1, .inl (cI, b, .inl g1)), (l2, .inl (cJ, b, .inr (.inl g2))), (l3, .inl (cJ, b, .inr (.inl g3)))] U.heap ∧ va_K (dC, dI) vwCl [(cI, .int), (cJ, .long)] U ∧ va_D (fun _ => True) [(hs, .inr (6, [.ref hd, .ref hf, .ref hm, .ref l1, .ref l2, .ref l3, .int (nI sl), .long s2, .int s3, .long s4])), (hd, .inr (0, [.int (nI w), .int (nI b), .int wr, .ref qc, .ref qi, .int wa, .int wc])), (l1, .inl (cI, b, .inl g1)), (l2, .inl (cJ, b, .inr (.inl g2))), (l3, .inl (cJ, b, .inr (.inl g3)))] ∧ va_Nw (.methodLinkNest RX6 144 yX8_holds "TwinRoots") U ∧ va_Nw (.methodLinkNest RX6 148 yX8_bit "TwinRoots") U)) (va_Qi (fun (r : Int32) (u : Nat × Int64 × (Nat → Int32) × (Nat → Int64) × (Nat → Int64)) => match u with | (sl2, r2, k1, k2, k3) => (r = 0 ∨ r = 1) ∧ sl2 ≤ b ∧ sl ≤ sl2) (fun (u : Nat × Int64 × (Nat → Int32) × (Nat → Int64) × (Nat → Int64)) (t : State) => match u with | (sl2, r2, k1, k2, k3) => va_P (dC, dI) vwCl [(hs, .inr (6, [.ref hd, .ref hf, .ref hm, .ref l1, .ref l2, .ref l3, .int (nI sl2), .long r2, .int s3, .long s4])), (hd, .inr (0, [.int (nI w), .int (nI b), .int wr, .ref qc, .ref qi, .int wa, .int wc])), (l1, .inl (cI, b, .inl k1)), (l2, .inl (cJ, b, .inr (.inl k2))), (l3, .inl (cJ, b, .inr (.inl k3)))] t.heap ∧ va_K (dC, dI) vwCl [(cI, .int), (cJ, .long)] t ∧ va_D (va_A [(hs, .inr (6, [.ref hd, .ref hf, .ref hm, .ref l1, .ref l2, .ref l3, .int (nI sl), .long s2, .int s3, .long s4])), (hd, .inr (0, [.int (nI w), .int (nI b), .int wr, .ref qc, .ref qi, .int wa, .int wc])), (l1, .inl (cI, b, .inl g1)), (l2, .inl (cJ, b, .inr (.inl g2))), (l3, .inl (cJ, b, .inr (.inl g3)))] sz) [(hs, .inr (6, [.ref hd, .ref hf, .ref hm, .ref l1, .ref l2, .ref l3, .int (nI sl2), .long r2, .int s3, .long s4])), (hd, .inr (0, [.int (nI w), .int (nI b), .int wr, .ref qc, .ref qi, .int wa, .int wc])), (l1, .inl (cI, b, .inl k1)), (l2, .inl (cJ, b, .inr (.inl k2))), (l3, .inl (cJ, b, .inr (.inl k3)))]) (va_A [(hs, .inr (6, [.ref hd, .ref hf, .ref hm, .ref l1, .ref l2, .ref l3, .int (nI sl), .long s2, .int s3, .long s4])), (hd, .inr (0, [.int (nI w), .int (nI b), .int wr, .ref qc, .ref qi, .int wa, .int wc])), (l1, .inl (cI, b, .inl g1)), (l2, .inl (cJ, b, .inr (.inl g2))), (l3, .inl (cJ, b, .inr (.inl g3)))] sz)) 0 0 (va_A [(hs, .inr (6, [.ref hd, .ref hf, .ref hm, .ref l1, .ref l2, .ref l3, .int (nI sl), .long s2, .int s3, .long s4])), (hd, .inr (0, [.int (nI w), .int (nI b), .int wr, .ref qc, .ref qi, .int wa, .int wc])), (l1, .inl (cI, b, .inl g1)), (l2, .inl (cJ, b, .inr (.inl g2))), (l3, .inl (cJ, b, .inr (.inl g3)))] sz) := by
  refine Met.ofW (cc := cX6_reach) (maxL := 7) (ret := (some .boolean)) (by decide) rfl ?_
  intro p e s m args below meth c s₁ B hml hv
  obtain ⟨rfl, hsz, hP, hK, hD0, hNX6_144, hNX6_148⟩ := hv
  have hx := B.exec
  have hb := B.bytes
  have hr := B.returns
  have hts := atoms_spec (ws := v_X6_reach) B.pre
  have hown : s.vm.findClass RX6 = some m.cls := findClass_of_methodNamed B.named
  have hlocks := B.notSynchronized
  subst hsz
  have hD := hD0.self (sz := s.heap.size)
  generalize hAe : va_A [(hs, .inr (6, [.ref hd, .ref hf, .ref hm, .ref l1, .ref l2, .ref l3, .int (nI sl), .long s2, .int s3, .long s4])), (hd, .inr (0, [.int (nI w), .int (nI b), .int wr, .ref qc, .ref qi, .int wa, .int wc])), (l1, .inl (cI, b, .inl g1)), (l2, .inl (cJ, b, .inr (.inl g2))), (l3, .inl (cJ, b, .inr (.inl g3)))] s.heap.size = A at hD ⊢
  have hA : ∀ q : Nat, s.heap.size ≤ q → A q := fun q h => by rw [← hAe]; exact Or.inr h
  have hS : va_S A s.heap s.heap [] := va_S.rf
  have hP : va_P (dC, dI) vwCl [(hs, .inr (6, [.ref hd, .ref hf, .ref hm, .ref l1, .ref l2, .ref l3, .int (nI sl), .long s2, .int s3, .long s4])), (hd, .inr (0, [.int (nI w), .int (nI b), .int wr, .ref qc, .ref qi, .int wa, .int wc])), (l1, .inl (cI, b, .inl g1)), (l2, .inl (cJ, b, .inr (.inl g2))), (l3, .inl (cJ, b, .inr (.inl g3)))] s.heap := hP
  have hl := lv_entry ([.ref hs, .int p0, .long p1, .long p2]) (n := 7) (Nat.le_of_ble_eq_true rfl)
  rw [lg_entry_eq]
  generalize (lg_sl ([.ref hs, .int p0, .long p1, .long p2]) ++ List.replicate (7 - (lg_sl ([.ref hs, .int p0, .long p1, .long p2])).length) Slot.unset).toArray = ls at hl ⊢
  have hl : lv_has ls 7 [(0, .ref hs), (1, .int p0), (2, .long p1), (4, .long p2)] := hl
  have k_1 := (fun _ h => List.mem_cons_of_mem _ (List.mem_append_right _ (List.mem_append_left _ h)) : ∀ w ∈ wsX60, w ∈ v_X6_reach)
  have k_2 := hts (.fieldLink RX6 9 "TwinRoots$Survey" "disk" "LTwinRoots$Disk;") (List.mem_of_getElem? (i := 1) rfl)
  have k_3 := (fun _ h => List.mem_cons_of_mem _ (List.mem_append_right _ (List.mem_append_right _ (List.mem_append_left _ h))) : ∀ w ∈ wsX00, w ∈ v_X6_reach)
  have k_4 := hts (.fieldLink RX6 23 "TwinRoots$Disk" "blocks" "I") (List.mem_of_getElem? (i := 2) rfl)
  have k_5 := hts (.fieldLink RX6 43 "TwinRoots$Survey" "reached" "J") (List.mem_of_getElem? (i := 3) rfl)
  have k_6 := hts (.initialized RX8) (List.mem_of_getElem? (i := 8) rfl)
  have k_7 := hts (.static yX8_holds) (List.mem_of_getElem? (i := 9) rfl)
  have k_8 := hts (.fieldLink RX6 40 "TwinRoots$Survey" "lineEnd" "I") (List.mem_of_getElem? (i := 10) rfl)
  have k_9 := hts (.fieldLink RX6 29 "TwinRoots$Survey" "line" "[I") (List.mem_of_getElem? (i := 11) rfl)
  have k_10 := hts (.static yX8_bit) (List.mem_of_getElem? (i := 7) rfl)
  have k_11 := hts (.fieldLink RX6 33 "TwinRoots$Survey" "lowest" "[J") (List.mem_of_getElem? (i := 12) rfl)
  have k_12 := hts (.fieldLink RX6 37 "TwinRoots$Survey" "ceiling" "[J") (List.mem_of_getElem? (i := 13) rfl)
  refine lv_iload_n hx hb dX6_reach_0 rfl (lv_at hl 1 rfl) ?_
  refine lv_iconst (v := 2) hx hb dX6_reach_1 (by decide) ?_
  refine lv_icmp_lt (tgt := 20) hx hb dX6_reach_2 (by decide) (fun c_1 => ?_) (fun c_1 => ?_)
  · refine lv_iconst (v := 0) hx hb dX6_reach_20 (by decide) ?_
    refine lv_istore (lv' := [(6, .int 0), (0, .ref hs), (1, .int p0), (2, .long p1), (4, .long p2)]) hx hb dX6_reach_21 hl (by decide) rfl (fun ls hl => ?_)
    refine lv_iload hx hb dX6_reach_23 (lv_at hl 0 rfl) ?_
    refine lv_if_eq (tgt := 51) hx hb dX6_reach_25 (by decide) (fun c_2 => ?_) (fun c_2 => ?_)
    rotate_left
    · exact absurd (by decide) c_2
    refine lv_iconst (v := 0) hx hb dX6_reach_51 (by decide) ?_
    have hP9 := hP.sub (ws' := [(hs, .inr (6, [.ref hd, .ref hf, .ref hm, .ref l1, .ref l2, .ref l3, .int (nI sl), .long s2, .int s3, .long s4])), (hd, .inr (0, [.int (nI w), .int (nI b), .int wr, .ref qc, .ref qi, .int wa, .int wc])), (l1, .inl (cI, b, .inl g1)), (l2, .inl (cJ, b, .inr (.inl g2))), (l3, .inl (cJ, b, .inr (.inl g3)))]) [0, 1, 2, 3, 4] rfl
    have hD9 := hD.sub (ws' := [(hs, .inr (6, [.ref hd, .ref hf, .ref hm, .ref l1, .ref l2, .ref l3, .int (nI sl), .long s2, .int s3, .long s4])), (hd, .inr (0, [.int (nI w), .int (nI b), .int wr, .ref qc, .ref qi, .int wa, .int wc])), (l1, .inl (cI, b, .inl g1)), (l2, .inl (cJ, b, .inr (.inl g2))), (l3, .inl (cJ, b, .inr (.inl g3)))]) [0, 1, 2, 3, 4] (by decide) rfl
    have hK9 := hK.sub (tys' := [(cI, .int), (cJ, .long)]) [0, 1] rfl
    exact W.zret (v := 0) hx hb hr rfl (fun t ht hW => ⟨⟨0, (sl, s2, g1, g2, g3), rfl, ⟨Or.inl rfl, by omega, by omega⟩, by rw [ht]; exact hP9, va_K.moved hW.alike hK9, hD9⟩, hS.F ht⟩) hS.2.2 dX6_reach_52
  · refine lv_iload_n hx hb dX6_reach_5 rfl (lv_at hl 1 rfl) ?_
    refine lv_aload_n hx hb dX6_reach_6 rfl (lv_at hl 0 rfl) ?_
    refine va_get (D := (dC, dI)) (ci := 6) (v := .ref hd) (C := RX6) (T := TX6) (N := 10) hx hb hts k_1 hown hK hP 0 rfl rfl 0 (by decide) k_2 (fun _ h9 => h9) rfl dX6_reach_7 ?_
    refine va_get (D := (dC, dI)) (ci := 0) (v := .int (nI b)) (C := RX0) (T := TX0) (N := 7) hx hb hts k_3 hown hK hP 1 rfl rfl 1 (by decide) k_4 (fun _ h9 => h9) rfl dX6_reach_10 ?_
    refine lv_icmp_ge (tgt := 20) hx hb dX6_reach_13 (by decide) (fun c_3 => ?_) (fun c_3 => ?_)
    · refine lv_iconst (v := 0) hx hb dX6_reach_20 (by decide) ?_
      refine lv_istore (lv' := [(6, .int 0), (0, .ref hs), (1, .int p0), (2, .long p1), (4, .long p2)]) hx hb dX6_reach_21 hl (by decide) rfl (fun ls hl => ?_)
      refine lv_iload hx hb dX6_reach_23 (lv_at hl 0 rfl) ?_
      refine lv_if_eq (tgt := 51) hx hb dX6_reach_25 (by decide) (fun c_4 => ?_) (fun c_4 => ?_)
      rotate_left
      · exact absurd (by decide) c_4
      refine lv_iconst (v := 0) hx hb dX6_reach_51 (by decide) ?_
      have hP9 := hP.sub (ws' := [(hs, .inr (6, [.ref hd, .ref hf, .ref hm, .ref l1, .ref l2, .ref l3, .int (nI sl), .long s2, .int s3, .long s4])), (hd, .inr (0, [.int (nI w), .int (nI b), .int wr, .ref qc, .ref qi, .int wa, .int wc])), (l1, .inl (cI, b, .inl g1)), (l2, .inl (cJ, b, .inr (.inl g2))), (l3, .inl (cJ, b, .inr (.inl g3)))]) [0, 1, 2, 3, 4] rfl
      have hD9 := hD.sub (ws' := [(hs, .inr (6, [.ref hd, .ref hf, .ref hm, .ref l1, .ref l2, .ref l3, .int (nI sl), .long s2, .int s3, .long s4])), (hd, .inr (0, [.int (nI w), .int (nI b), .int wr, .ref qc, .ref qi, .int wa, .int wc])), (l1, .inl (cI, b, .inl g1)), (l2, .inl (cJ, b, .inr (.inl g2))), (l3, .inl (cJ, b, .inr (.inl g3)))]) [0, 1, 2, 3, 4] (by decide) rfl
      have hK9 := hK.sub (tys' := [(cI, .int), (cJ, .long)]) [0, 1] rfl
      exact W.zret (v := 0) hx hb hr rfl (fun t ht hW => ⟨⟨0, (sl, s2, g1, g2, g3), rfl, ⟨Or.inl rfl, by omega, by omega⟩, by rw [ht]; exact hP9, va_K.moved hW.alike hK9, hD9⟩, hS.F ht⟩) hS.2.2 dX6_reach_52
    · refine lv_iconst (v := 1) hx hb dX6_reach_16 (by decide) ?_
      refine lv_goto (tgt := 21) hx hb dX6_reach_17 (by decide) ?_
      refine lv_istore (lv' := [(6, .int 1), (0, .ref hs), (1, .int p0), (2, .long p1), (4, .long p2)]) hx hb dX6_reach_21 hl (by decide) rfl (fun ls hl => ?_)
      refine lv_iload hx hb dX6_reach_23 (lv_at hl 0 rfl) ?_
      refine lv_if_eq (tgt := 51) hx hb dX6_reach_25 (by decide) (fun c_5 => ?_) (fun c_5 => ?_)
      · exact absurd c_5 (by decide)
      refine lv_aload_n hx hb dX6_reach_28 rfl (lv_at hl 1 rfl) ?_
      refine va_get (D := (dC, dI)) (ci := 6) (v := .long s2) (C := RX6) (T := TX6) (N := 10) hx hb hts k_1 hown hK hP 0 rfl rfl 7 (by decide) k_5 (fun _ h9 => h9) rfl dX6_reach_29 ?_
      refine lv_iload_n hx hb dX6_reach_32 rfl (lv_at hl 2 rfl) ?_
      have hPc := hP.sub (ws' := []) [] rfl
      have hDc := hD.sub (ws' := []) [] (by decide) rfl
      have hKc := hK.sub (tys' := []) [] rfl
      have hFc := va_free (wc := []) hD hS hA [] rfl
      refine va_calli (va_runSN (As := [.long s2, .int p0]) (rest := []) ⟨hx, hb, hml, hown, hts⟩ (c_X8_holds l dC dI s.heap.size s2 p0) ⟨va_cnB 2 hts g_X6_reach_X8_holds rfl rfl rfl hNX6_144 k_6 (by decide +kernel) ⟨Nat.le_of_ble_eq_true rfl, Nat.le_of_ble_eq_true rfl⟩, k_7, trivial⟩ ⟨fun a U g mk q => by obtain ⟨q0, q1, qP, qK, qD⟩ := q; exact ⟨q0, q1, qP, va_K.moved (u := U) (U := U.calling g mk a) (Vm.Alike.refl U.vm) qK, qD⟩, fun U hU hW => ⟨rfl, by rw [hU], by rw [hU]; exact hPc, va_K.moved hW.alike hKc, hDc.weaken (fun _ _ _ _ => trivial)⟩⟩ rfl rfl hl.1 rfl (lv_room (Nat.le_of_ble_eq_true rfl)) dX6_reach_33 ⟨(show 0 + 0 ≤ 0 by omega), (show 0 + 0 ≤ 0 by omega)⟩) hS (fun q _ h => hFc q h) hFc (fun r_6 u t H1 locs ht hvm hw hB hz1 hk1 hS => ?_)
      obtain ⟨hP1, hK1, hD1⟩ := hB
      rw [ht] at hP1
      have hK1 := va_K.moved hvm.symm hK1
      try dsimp only at hw
      obtain ⟨hP, hD⟩ := va_join (wr := [(hs, .inr (6, [.ref hd, .ref hf, .ref hm, .ref l1, .ref l2, .ref l3, .int (nI sl), .long s2, .int s3, .long s4])), (hd, .inr (0, [.int (nI w), .int (nI b), .int wr, .ref qc, .ref qi, .int wa, .int wc])), (l1, .inl (cI, b, .inl g1)), (l2, .inl (cJ, b, .inr (.inl g2))), (l3, .inl (cJ, b, .inr (.inl g3)))]) (w1 := []) hP hD [] [0, 1, 2, 3, 4] rfl rfl (by decide) (by decide) hk1 hFc hP1 hD1
      have hK := (hK.sub (tys' := [(cI, .int), (cJ, .long)]) [0, 1] rfl).app hK1
      generalize H1 = H at hP hS ⊢
      have hP : va_P (dC, dI) vwCl [(hs, .inr (6, [.ref hd, .ref hf, .ref hm, .ref l1, .ref l2, .ref l3, .int (nI sl), .long s2, .int s3, .long s4])), (hd, .inr (0, [.int (nI w), .int (nI b), .int wr, .ref qc, .ref qi, .int wa, .int wc])), (l1, .inl (cI, b, .inl g1)), (l2, .inl (cJ, b, .inr (.inl g2))), (l3, .inl (cJ, b, .inr (.inl g3)))] H := hP
      have hD : va_D A [(hs, .inr (6, [.ref hd, .ref hf, .ref hm, .ref l1, .ref l2, .ref l3, .int (nI sl), .long s2, .int s3, .long s4])), (hd, .inr (0, [.int (nI w), .int (nI b), .int wr, .ref qc, .ref qi, .int wa, .int wc])), (l1, .inl (cI, b, .inl g1)), (l2, .inl (cJ, b, .inr (.inl g2))), (l3, .inl (cJ, b, .inr (.inl g3)))] := hD
      have hK : va_K (dC, dI) vwCl [(cI, .int), (cJ, .long)] s := hK
      have hw_r_6 := hw
      refine lv_if_ne (tgt := 51) hx hb dX6_reach_36 (by decide) (fun c_7 => ?_) (fun c_7 => ?_)
      · refine lv_iconst (v := 0) hx hb dX6_reach_51 (by decide) ?_
        have hP9 := hP.sub (ws' := [(hs, .inr (6, [.ref hd, .ref hf, .ref hm, .ref l1, .ref l2, .ref l3, .int (nI sl), .long s2, .int s3, .long s4])), (hd, .inr (0, [.int (nI w), .int (nI b), .int wr, .ref qc, .ref qi, .int wa, .int wc])), (l1, .inl (cI, b, .inl g1)), (l2, .inl (cJ, b, .inr (.inl g2))), (l3, .inl (cJ, b, .inr (.inl g3)))]) [0, 1, 2, 3, 4] rfl
        have hD9 := hD.sub (ws' := [(hs, .inr (6, [.ref hd, .ref hf, .ref hm, .ref l1, .ref l2, .ref l3, .int (nI sl), .long s2, .int s3, .long s4])), (hd, .inr (0, [.int (nI w), .int (nI b), .int wr, .ref qc, .ref qi, .int wa, .int wc])), (l1, .inl (cI, b, .inl g1)), (l2, .inl (cJ, b, .inr (.inl g2))), (l3, .inl (cJ, b, .inr (.inl g3)))]) [0, 1, 2, 3, 4] (by decide) rfl
        have hK9 := hK.sub (tys' := [(cI, .int), (cJ, .long)]) [0, 1] rfl
        exact W.zret (v := 0) hx hb hr rfl (fun t ht hW => ⟨⟨0, (sl, s2, g1, g2, g3), rfl, ⟨Or.inl rfl, by omega, by omega⟩, by rw [ht]; exact hP9, va_K.moved hW.alike hK9, hD9⟩, hS.F ht⟩) hS.2.2 dX6_reach_52
      · refine lv_aload_n hx hb dX6_reach_39 rfl (lv_at hl 1 rfl) ?_
        refine va_get (D := (dC, dI)) (ci := 6) (v := .int (nI sl)) (C := RX6) (T := TX6) (N := 10) hx hb hts k_1 hown hK hP 0 rfl rfl 6 (by decide) k_8 (fun _ h9 => h9) rfl dX6_reach_40 ?_
        refine lv_aload_n hx hb dX6_reach_43 rfl (lv_at hl 1 rfl) ?_
        refine va_get (D := (dC, dI)) (ci := 6) (v := .ref l1) (C := RX6) (T := TX6) (N := 10) hx hb hts k_1 hown hK hP 0 rfl rfl 3 (by decide) k_9 (fun _ h9 => h9) rfl dX6_reach_44 ?_
        refine va_alen (v := nI b) hx hb hK hP 2 0 rfl rfl rfl dX6_reach_47 ?_
        refine lv_icmp_lt (tgt := 53) hx hb dX6_reach_48 (by decide) (fun c_8 => ?_) (fun c_8 => ?_)
        · have hq : sl < b := (nI_ltI (by omega) (by omega)).mp c_8
          refine lv_aload_n hx hb dX6_reach_53 rfl (lv_at hl 1 rfl) ?_
          refine lv_dup hx hb dX6_reach_54 rfl ?_
          refine va_get (D := (dC, dI)) (ci := 6) (v := .long s2) (C := RX6) (T := TX6) (N := 10) hx hb hts k_1 hown hK hP 0 rfl rfl 7 (by decide) k_5 (fun _ h9 => h9) rfl dX6_reach_55 ?_
          refine lv_iload_n hx hb dX6_reach_58 rfl (lv_at hl 2 rfl) ?_
          have hPc := hP.sub (ws' := []) [] rfl
          have hDc := hD.sub (ws' := []) [] (by decide) rfl
          have hKc := hK.sub (tys' := []) [] rfl
          have hFc := va_free (wc := []) hD hS hA [] rfl
          refine va_calll (va_runSN (As := [.int p0]) (rest := [.long s2, .ref hs]) ⟨hx, hb, hml, hown, hts⟩ (c_X8_bit l dC dI H.size p0) ⟨va_cnB 1 hts g_X6_reach_X8_bit rfl rfl rfl hNX6_148 k_6 (by decide +kernel) ⟨Nat.le_of_ble_eq_true rfl, Nat.le_of_ble_eq_true rfl⟩, k_10, trivial⟩ ⟨fun a U g mk q => by obtain ⟨q0, q1, qP, qK, qD⟩ := q; exact ⟨q0, q1, qP, va_K.moved (u := U) (U := U.calling g mk a) (Vm.Alike.refl U.vm) qK, qD⟩, fun U hU hW => ⟨rfl, by rw [hU], by rw [hU]; exact hPc, va_K.moved hW.alike hKc, hDc.weaken (fun _ _ _ _ => trivial)⟩⟩ rfl rfl hl.1 rfl (lv_room (Nat.le_of_ble_eq_true rfl)) dX6_reach_59 ⟨(show 0 + 0 ≤ 0 by omega), (show 0 + 0 ≤ 0 by omega)⟩) hS (fun q _ h => hFc q h) hFc (fun r_9 u t H1 locs ht hvm hw hB hz1 hk1 hS => ?_)
          obtain ⟨hP1, hK1, hD1⟩ := hB
          rw [ht] at hP1
          have hK1 := va_K.moved hvm.symm hK1
          try dsimp only at hw
          obtain ⟨hP, hD⟩ := va_join (wr := [(hs, .inr (6, [.ref hd, .ref hf, .ref hm, .ref l1, .ref l2, .ref l3, .int (nI sl), .long s2, .int s3, .long s4])), (hd, .inr (0, [.int (nI w), .int (nI b), .int wr, .ref qc, .ref qi, .int wa, .int wc])), (l1, .inl (cI, b, .inl g1)), (l2, .inl (cJ, b, .inr (.inl g2))), (l3, .inl (cJ, b, .inr (.inl g3)))]) (w1 := []) hP hD [] [0, 1, 2, 3, 4] rfl rfl (by decide) (by decide) hk1 hFc hP1 hD1
          have hK := (hK.sub (tys' := [(cI, .int), (cJ, .long)]) [0, 1] rfl).app hK1
          generalize H1 = H at hP hS ⊢
          have hP : va_P (dC, dI) vwCl [(hs, .inr (6, [.ref hd, .ref hf, .ref hm, .ref l1, .ref l2, .ref l3, .int (nI sl), .long s2, .int s3, .long s4])), (hd, .inr (0, [.int (nI w), .int (nI b), .int wr, .ref qc, .ref qi, .int wa, .int wc])), (l1, .inl (cI, b, .inl g1)), (l2, .inl (cJ, b, .inr (.inl g2))), (l3, .inl (cJ, b, .inr (.inl g3)))] H := hP
          have hD : va_D A [(hs, .inr (6, [.ref hd, .ref hf, .ref hm, .ref l1, .ref l2, .ref l3, .int (nI sl), .long s2, .int s3, .long s4])), (hd, .inr (0, [.int (nI w), .int (nI b), .int wr, .ref qc, .ref qi, .int wa, .int wc])), (l1, .inl (cI, b, .inl g1)), (l2, .inl (cJ, b, .inr (.inl g2))), (l3, .inl (cJ, b, .inr (.inl g3)))] := hD
          have hK : va_K (dC, dI) vwCl [(cI, .int), (cJ, .long)] s := hK
          have hw_r_9 := hw
          refine lv_lor hx hb dX6_reach_62 ?_
          refine lv_topl (fun z_10 _ => ?_)
          refine va_put (D := (dC, dI)) (ci := 6) (v := .long z_10) (ty := .long) (C := RX6) (T := TX6) (N := 10) hx hb hts k_1 tyX6 tyX6_ok nmX6 hown hK hP hD hS 0 rfl rfl 7 (by decide) k_5 (fun _ h9 => h9) rfl (by decide +kernel) rfl rfl (Nat.le_of_ble_eq_true rfl) dX6_reach_63 (fun H locs hP hD hS => ?_)
          have hP : va_P (dC, dI) vwCl [(hs, .inr (6, [.ref hd, .ref hf, .ref hm, .ref l1, .ref l2, .ref l3, .int (nI sl), .long z_10, .int s3, .long s4])), (hd, .inr (0, [.int (nI w), .int (nI b), .int wr, .ref qc, .ref qi, .int wa, .int wc])), (l1, .inl (cI, b, .inl g1)), (l2, .inl (cJ, b, .inr (.inl g2))), (l3, .inl (cJ, b, .inr (.inl g3)))] H := hP
          have hD : va_D A [(hs, .inr (6, [.ref hd, .ref hf, .ref hm, .ref l1, .ref l2, .ref l3, .int (nI sl), .long z_10, .int s3, .long s4])), (hd, .inr (0, [.int (nI w), .int (nI b), .int wr, .ref qc, .ref qi, .int wa, .int wc])), (l1, .inl (cI, b, .inl g1)), (l2, .inl (cJ, b, .inr (.inl g2))), (l3, .inl (cJ, b, .inr (.inl g3)))] := hD
          refine lv_aload_n hx hb dX6_reach_66 rfl (lv_at hl 1 rfl) ?_
          refine va_get (D := (dC, dI)) (ci := 6) (v := .ref l1) (C := RX6) (T := TX6) (N := 10) hx hb hts k_1 hown hK hP 0 rfl rfl 3 (by decide) k_9 (fun _ h9 => h9) rfl dX6_reach_67 ?_
          refine lv_aload_n hx hb dX6_reach_70 rfl (lv_at hl 1 rfl) ?_
          refine va_get (D := (dC, dI)) (ci := 6) (v := .int (nI sl)) (C := RX6) (T := TX6) (N := 10) hx hb hts k_1 hown hK hP 0 rfl rfl 6 (by decide) k_8 (fun _ h9 => h9) rfl dX6_reach_71 ?_
          refine lv_iload_n hx hb dX6_reach_74 rfl (lv_at hl 2 rfl) ?_
          refine va_iast hx hb hK hP hD hS 2 0 rfl rfl (show vp_in (nI sl) b from vp_in_nI (by omega) (by omega)) dX6_reach_75 (fun H locs hP hD hS => ?_)
          have hP : va_P (dC, dI) vwCl [(hs, .inr (6, [.ref hd, .ref hf, .ref hm, .ref l1, .ref l2, .ref l3, .int (nI sl), .long z_10, .int s3, .long s4])), (hd, .inr (0, [.int (nI w), .int (nI b), .int wr, .ref qc, .ref qi, .int wa, .int wc])), (l1, .inl (cI, b, .inl (upd g1 ((nI sl).toNatClampNeg) p0))), (l2, .inl (cJ, b, .inr (.inl g2))), (l3, .inl (cJ, b, .inr (.inl g3)))] H := hP
          have hD : va_D A [(hs, .inr (6, [.ref hd, .ref hf, .ref hm, .ref l1, .ref l2, .ref l3, .int (nI sl), .long z_10, .int s3, .long s4])), (hd, .inr (0, [.int (nI w), .int (nI b), .int wr, .ref qc, .ref qi, .int wa, .int wc])), (l1, .inl (cI, b, .inl (upd g1 ((nI sl).toNatClampNeg) p0))), (l2, .inl (cJ, b, .inr (.inl g2))), (l3, .inl (cJ, b, .inr (.inl g3)))] := hD
          obtain ⟨f_11, ef_11⟩ : ∃ g9, g9 = upd g1 ((nI sl).toNatClampNeg) p0 := ⟨_, rfl⟩
          rw [← ef_11] at hP hD
          refine lv_aload_n hx hb dX6_reach_76 rfl (lv_at hl 1 rfl) ?_
          refine va_get (D := (dC, dI)) (ci := 6) (v := .ref l2) (C := RX6) (T := TX6) (N := 10) hx hb hts k_1 hown hK hP 0 rfl rfl 4 (by decide) k_11 (fun _ h9 => h9) rfl dX6_reach_77 ?_
          refine lv_aload_n hx hb dX6_reach_80 rfl (lv_at hl 1 rfl) ?_
          refine va_get (D := (dC, dI)) (ci := 6) (v := .int (nI sl)) (C := RX6) (T := TX6) (N := 10) hx hb hts k_1 hown hK hP 0 rfl rfl 6 (by decide) k_8 (fun _ h9 => h9) rfl dX6_reach_81 ?_
          refine lv_lload_n hx hb dX6_reach_84 rfl (lv_at hl 3 rfl) ?_
          refine va_last hx hb hK hP hD hS 3 1 rfl rfl (show vp_in (nI sl) b from vp_in_nI (by omega) (by omega)) dX6_reach_85 (fun H locs hP hD hS => ?_)
          have hP : va_P (dC, dI) vwCl [(hs, .inr (6, [.ref hd, .ref hf, .ref hm, .ref l1, .ref l2, .ref l3, .int (nI sl), .long z_10, .int s3, .long s4])), (hd, .inr (0, [.int (nI w), .int (nI b), .int wr, .ref qc, .ref qi, .int wa, .int wc])), (l1, .inl (cI, b, .inl f_11)), (l2, .inl (cJ, b, .inr (.inl (vp_updL g2 ((nI sl).toNatClampNeg) p1)))), (l3, .inl (cJ, b, .inr (.inl g3)))] H := hP
          have hD : va_D A [(hs, .inr (6, [.ref hd, .ref hf, .ref hm, .ref l1, .ref l2, .ref l3, .int (nI sl), .long z_10, .int s3, .long s4])), (hd, .inr (0, [.int (nI w), .int (nI b), .int wr, .ref qc, .ref qi, .int wa, .int wc])), (l1, .inl (cI, b, .inl f_11)), (l2, .inl (cJ, b, .inr (.inl (vp_updL g2 ((nI sl).toNatClampNeg) p1)))), (l3, .inl (cJ, b, .inr (.inl g3)))] := hD
          obtain ⟨f_12, ef_12⟩ : ∃ g9, g9 = vp_updL g2 ((nI sl).toNatClampNeg) p1 := ⟨_, rfl⟩
          rw [← ef_12] at hP hD
          refine lv_aload_n hx hb dX6_reach_86 rfl (lv_at hl 1 rfl) ?_
          refine va_get (D := (dC, dI)) (ci := 6) (v := .ref l3) (C := RX6) (T := TX6) (N := 10) hx hb hts k_1 hown hK hP 0 rfl rfl 5 (by decide) k_12 (fun _ h9 => h9) rfl dX6_reach_87 ?_
          refine lv_aload_n hx hb dX6_reach_90 rfl (lv_at hl 1 rfl) ?_
          refine va_get (D := (dC, dI)) (ci := 6) (v := .int (nI sl)) (C := RX6) (T := TX6) (N := 10) hx hb hts k_1 hown hK hP 0 rfl rfl 6 (by decide) k_8 (fun _ h9 => h9) rfl dX6_reach_91 ?_
          refine lv_lload hx hb dX6_reach_94 (lv_at hl 4 rfl) ?_
          refine va_last hx hb hK hP hD hS 4 1 rfl rfl (show vp_in (nI sl) b from vp_in_nI (by omega) (by omega)) dX6_reach_96 (fun H locs hP hD hS => ?_)
          have hP : va_P (dC, dI) vwCl [(hs, .inr (6, [.ref hd, .ref hf, .ref hm, .ref l1, .ref l2, .ref l3, .int (nI sl), .long z_10, .int s3, .long s4])), (hd, .inr (0, [.int (nI w), .int (nI b), .int wr, .ref qc, .ref qi, .int wa, .int wc])), (l1, .inl (cI, b, .inl f_11)), (l2, .inl (cJ, b, .inr (.inl f_12))), (l3, .inl (cJ, b, .inr (.inl (vp_updL g3 ((nI sl).toNatClampNeg) p2))))] H := hP
          have hD : va_D A [(hs, .inr (6, [.ref hd, .ref hf, .ref hm, .ref l1, .ref l2, .ref l3, .int (nI sl), .long z_10, .int s3, .long s4])), (hd, .inr (0, [.int (nI w), .int (nI b), .int wr, .ref qc, .ref qi, .int wa, .int wc])), (l1, .inl (cI, b, .inl f_11)), (l2, .inl (cJ, b, .inr (.inl f_12))), (l3, .inl (cJ, b, .inr (.inl (vp_updL g3 ((nI sl).toNatClampNeg) p2))))] := hD
          obtain ⟨f_13, ef_13⟩ : ∃ g9, g9 = vp_updL g3 ((nI sl).toNatClampNeg) p2 := ⟨_, rfl⟩
          rw [← ef_13] at hP hD
          refine lv_aload_n hx hb dX6_reach_97 rfl (lv_at hl 1 rfl) ?_
          refine lv_dup hx hb dX6_reach_98 rfl ?_
          refine va_get (D := (dC, dI)) (ci := 6) (v := .int (nI sl)) (C := RX6) (T := TX6) (N := 10) hx hb hts k_1 hown hK hP 0 rfl rfl 6 (by decide) k_8 (fun _ h9 => h9) rfl dX6_reach_99 ?_
          refine lv_iconst (v := 1) hx hb dX6_reach_102 (by decide) ?_
          refine lv_iadd hx hb dX6_reach_103 ?_
          refine lv_topi (fun z_14 ez_14 => ?_)
          obtain rfl : z_14 = nI (sl + 1) := ez_14.trans (nI_1 sl)
          refine va_put (D := (dC, dI)) (ci := 6) (v := .int (nI (sl + 1))) (ty := .int) (C := RX6) (T := TX6) (N := 10) hx hb hts k_1 tyX6 tyX6_ok nmX6 hown hK hP hD hS 0 rfl rfl 6 (by decide) k_8 (fun _ h9 => h9) rfl (by decide +kernel) rfl rfl (Nat.le_of_ble_eq_true rfl) dX6_reach_104 (fun H locs hP hD hS => ?_)
          have hP : va_P (dC, dI) vwCl [(hs, .inr (6, [.ref hd, .ref hf, .ref hm, .ref l1, .ref l2, .ref l3, .int (nI (sl + 1)), .long z_10, .int s3, .long s4])), (hd, .inr (0, [.int (nI w), .int (nI b), .int wr, .ref qc, .ref qi, .int wa, .int wc])), (l1, .inl (cI, b, .inl f_11)), (l2, .inl (cJ, b, .inr (.inl f_12))), (l3, .inl (cJ, b, .inr (.inl f_13)))] H := hP
          have hD : va_D A [(hs, .inr (6, [.ref hd, .ref hf, .ref hm, .ref l1, .ref l2, .ref l3, .int (nI (sl + 1)), .long z_10, .int s3, .long s4])), (hd, .inr (0, [.int (nI w), .int (nI b), .int wr, .ref qc, .ref qi, .int wa, .int wc])), (l1, .inl (cI, b, .inl f_11)), (l2, .inl (cJ, b, .inr (.inl f_12))), (l3, .inl (cJ, b, .inr (.inl f_13)))] := hD
          refine lv_iconst (v := 1) hx hb dX6_reach_107 (by decide) ?_
          have hP9 := hP.sub (ws' := [(hs, .inr (6, [.ref hd, .ref hf, .ref hm, .ref l1, .ref l2, .ref l3, .int (nI (sl + 1)), .long z_10, .int s3, .long s4])), (hd, .inr (0, [.int (nI w), .int (nI b), .int wr, .ref qc, .ref qi, .int wa, .int wc])), (l1, .inl (cI, b, .inl f_11)), (l2, .inl (cJ, b, .inr (.inl f_12))), (l3, .inl (cJ, b, .inr (.inl f_13)))]) [0, 1, 2, 3, 4] rfl
          have hD9 := hD.sub (ws' := [(hs, .inr (6, [.ref hd, .ref hf, .ref hm, .ref l1, .ref l2, .ref l3, .int (nI (sl + 1)), .long z_10, .int s3, .long s4])), (hd, .inr (0, [.int (nI w), .int (nI b), .int wr, .ref qc, .ref qi, .int wa, .int wc])), (l1, .inl (cI, b, .inl f_11)), (l2, .inl (cJ, b, .inr (.inl f_12))), (l3, .inl (cJ, b, .inr (.inl f_13)))]) [0, 1, 2, 3, 4] (by decide) rfl
          have hK9 := hK.sub (tys' := [(cI, .int), (cJ, .long)]) [0, 1] rfl
          exact W.zret (v := 1) hx hb hr rfl (fun t ht hW => ⟨⟨1, (sl + 1, z_10, f_11, f_12, f_13), rfl, ⟨Or.inr rfl, by omega, by omega⟩, by rw [ht]; exact hP9, va_K.moved hW.alike hK9, hD9⟩, hS.F ht⟩) hS.2.2 dX6_reach_108
        · refine lv_iconst (v := 0) hx hb dX6_reach_51 (by decide) ?_
          have hP9 := hP.sub (ws' := [(hs, .inr (6, [.ref hd, .ref hf, .ref hm, .ref l1, .ref l2, .ref l3, .int (nI sl), .long s2, .int s3, .long s4])), (hd, .inr (0, [.int (nI w), .int (nI b), .int wr, .ref qc, .ref qi, .int wa, .int wc])), (l1, .inl (cI, b, .inl g1)), (l2, .inl (cJ, b, .inr (.inl g2))), (l3, .inl (cJ, b, .inr (.inl g3)))]) [0, 1, 2, 3, 4] rfl
          have hD9 := hD.sub (ws' := [(hs, .inr (6, [.ref hd, .ref hf, .ref hm, .ref l1, .ref l2, .ref l3, .int (nI sl), .long s2, .int s3, .long s4])), (hd, .inr (0, [.int (nI w), .int (nI b), .int wr, .ref qc, .ref qi, .int wa, .int wc])), (l1, .inl (cI, b, .inl g1)), (l2, .inl (cJ, b, .inr (.inl g2))), (l3, .inl (cJ, b, .inr (.inl g3)))]) [0, 1, 2, 3, 4] (by decide) rfl
          have hK9 := hK.sub (tys' := [(cI, .int), (cJ, .long)]) [0, 1] rfl
          exact W.zret (v := 0) hx hb hr rfl (fun t ht hW => ⟨⟨0, (sl, s2, g1, g2, g3), rfl, ⟨Or.inl rfl, by omega, by omega⟩, by rw [ht]; exact hP9, va_K.moved hW.alike hK9, hD9⟩, hS.F ht⟩) hS.2.2 dX6_reach_52
def v_X6_keysAreRight : List Cond := .code yX6_keysAreRight cX6_keysAreRight 6 (some .boolean) :: ([.fieldLink RX6 119 "TwinRoots$Page" "many" "I", .code yX4_keyAt cX4_keyAt 2 (some .int), .fieldLink RX4 22 "TwinRoots$Page" "many" "I", .fieldLink RX4 15 "TwinRoots$Page" "keys" "[I", .methodLink RX6 122 yX4_keyAt, .instanceMethod yX4_keyAt, .selects RX4 yX4_keyAt yX4_keyAt, .initialized RX4, .fieldLink RX6 52 "TwinRoots$Survey" "lastKey" "J", .code yX6_lowestAt cX6_lowestAt 2 (some .long), .constantLong RX6 73 (2147483648), .fieldLink RX6 33 "TwinRoots$Survey" "lowest" "[J", .methodLink RX6 125 yX6_lowestAt, .instanceMethod yX6_lowestAt, .selects RX6 yX6_lowestAt yX6_lowestAt, .initialized RX6, .code yX6_ceilingAt cX6_ceilingAt 2 (some .long), .constantLong RX6 50 (-2147483649), .fieldLink RX6 37 "TwinRoots$Survey" "ceiling" "[J", .methodLink RX6 129 yX6_ceilingAt, .instanceMethod yX6_ceilingAt, .selects RX6 yX6_ceilingAt yX6_ceilingAt, .fieldLink RX6 47 "TwinRoots$Survey" "keysFound" "I"] ++ (wsX40 ++ (wsX60 ++ ([]))))
set_option maxRecDepth 20000 in
theorem g_X6_keysAreRight_X4_keyAt : GoodIn v_X6_keysAreRight (wsV RX6 122 RX4 yX4_keyAt v_X4_keyAt) := goodIn_r _ [5, 6, 7, 8, 2, 3, 4, 24, 25, 26, 27] (by decide +kernel) (by decide +kernel)
set_option maxRecDepth 20000 in
theorem g_X6_keysAreRight_X6_lowestAt : GoodIn v_X6_keysAreRight (wsV RX6 125 RX6 yX6_lowestAt v_X6_lowestAt) := goodIn_r _ [13, 14, 15, 16, 10, 11, 12, 28, 29, 30, 31, 32, 33, 34, 35, 36, 37] (by decide +kernel) (by decide +kernel)
set_option maxRecDepth 20000 in
theorem g_X6_keysAreRight_X6_ceilingAt : GoodIn v_X6_keysAreRight (wsV RX6 129 RX6 yX6_ceilingAt v_X6_ceilingAt) := goodIn_r _ [20, 21, 22, 16, 17, 18, 19, 28, 29, 30, 31, 32, 33, 34, 35, 36, 37] (by decide +kernel) (by decide +kernel)
set_option maxHeartbeats 4000000 in
set_option maxRecDepth 100000 in
/-- keysAreRight -/
theorem c_X6_keysAreRight (l : Launch) (dC : Nat → ClassId) (dI : Nat → Nat → Nat) (sz : Nat) (hs : Nat) (hd : Nat) (hf : Nat) (hm : Nat) (l1 : Nat) (l2 : Nat) (l3 : Nat) (sl : Nat) (s2 : Int64) (s4 : Int64) (s3 : Int32) (b : Nat) (a0 : Nat) (p1 : Int32) (cJ : ClassId) (g2 : Nat → Int64) (g3 : Nat → Int64) (G : pgG) (Pg : List Nat) (cI : ClassId) (S : pgS) (zb : b ≤ 64) (hI : pgI G Pg S) (hm_a0 : a0 ∈ Pg) : Met l yX6_keysAreRight v_X6_keysAreRight ({ frames := 1, cells := 0, slots := 0, locals := 21 } : Room) (va_Pc [.ref hs, .ref a0, .int p1] (fun U => U.heap.size = sz ∧ va_P (dC, dI) vwCl ([(hs, .inr (6, [.ref hd, .ref hf, .ref hm, .ref l1, .ref l2, .ref l3, .int (nI sl), .long s2, .int s3, .long s4])), (l2, .inl (cJ, b, .inr (.inl g2))), (l3, .inl (cJ, b, .inr (.inl g3)))] ++ pool G cI Pg S) U.heap ∧ va_K (dC, dI) vwCl [(cI, .int), (cJ, .long)] U ∧ va_D (fun _ => True) ([(hs, .inr (6, [.ref hd, .ref hf, .ref hm, .ref l1, .ref l2, .ref l3, .int (nI sl), .long s2, .int s3, .long s4])), (l2, .inl (cJ, b, .inr (.inl g2))), (l3, .inl (cJ, b, .inr (.inl g3)))] ++ pool G cI Pg S))) (va_Qi (fun (r : Int32) (u : Int32 × Int64) => match u with | (t3, t4) => r = 0 ∨ r = 1) (fun (u : Int32 × Int64) (t : State) => match u with | (t3, t4) => va_P (dC, dI) vwCl ([(hs, .inr (6, [.ref hd, .ref hf, .ref hm, .ref l1, .ref l2, .ref l3, .int (nI sl), .long s2, .int t3, .long t4])), (l2, .inl (cJ, b, .inr (.inl g2))), (l3, .inl (cJ, b, .inr (.inl g3)))] ++ pool G cI Pg S) t.heap ∧ va_K (dC, dI) vwCl [(cI, .int), (cJ, .long)] t ∧ va_D (va_A ([(hs, .inr (6, [.ref hd, .ref hf, .ref hm, .ref l1, .ref l2, .ref l3, .int (nI sl), .long s2, .int s3, .long s4])), (l2, .inl (cJ, b, .inr (.inl g2))), (l3, .inl (cJ, b, .inr (.inl g3)))] ++ pool G cI Pg S) sz) ([(hs, .inr (6, [.ref hd, .ref hf, .ref hm, .ref l1, .ref l2, .ref l3, .int (nI sl), .long s2, .int t3, .long t4])), (l2, .inl (cJ, b, .inr (.inl g2))), (l3, .inl (cJ, b, .inr (.inl g3)))] ++ pool G cI Pg S)) (va_A ([(hs, .inr (6, [.ref hd, .ref hf, .ref hm, .ref l1, .ref l2, .ref l3, .int (nI sl), .long s2, .int s3, .long s4])), (l2, .inl (cJ, b, .inr (.inl g2))), (l3, .inl (cJ, b, .inr (.inl g3)))] ++ pool G cI Pg S) sz)) 0 0 (va_A ([(hs, .inr (6, [.ref hd, .ref hf, .ref hm, .ref l1, .ref l2, .ref l3, .int (nI sl), .long s2, .int s3, .long s4])), (l2, .inl (cJ, b, .inr (.inl g2))), (l3, .inl (cJ, b, .inr (.inl g3)))] ++ pool G cI Pg S) sz) := by
  refine Met.ofW (cc := cX6_keysAreRight) (maxL := 6) (ret := (some .boolean)) (by decide) rfl ?_
  intro p e s m args below meth c s₁ B hml hv
  obtain ⟨rfl, hsz, hP, hK, hD0⟩ := hv
  have hx := B.exec
  have hb := B.bytes
  have hr := B.returns
  have hts := atoms_spec (ws := v_X6_keysAreRight) B.pre
  have hown : s.vm.findClass RX6 = some m.cls := findClass_of_methodNamed B.named
  have hlocks := B.notSynchronized
  subst hsz
  have hD := hD0.self (sz := s.heap.size)
  generalize hAe : va_A ([(hs, .inr (6, [.ref hd, .ref hf, .ref hm, .ref l1, .ref l2, .ref l3, .int (nI sl), .long s2, .int s3, .long s4])), (l2, .inl (cJ, b, .inr (.inl g2))), (l3, .inl (cJ, b, .inr (.inl g3)))] ++ pool G cI Pg S) s.heap.size = A at hD ⊢
  have hA : ∀ q : Nat, s.heap.size ≤ q → A q := fun q h => by rw [← hAe]; exact Or.inr h
  have hS : va_S A s.heap s.heap [] := va_S.rf
  have hP : va_P (dC, dI) vwCl ([(hs, .inr (6, [.ref hd, .ref hf, .ref hm, .ref l1, .ref l2, .ref l3, .int (nI sl), .long s2, .int s3, .long s4])), (l2, .inl (cJ, b, .inr (.inl g2))), (l3, .inl (cJ, b, .inr (.inl g3)))] ++ pool G cI Pg S) s.heap := hP
  have hl := lv_entry ([.ref hs, .ref a0, .int p1]) (n := 6) (Nat.le_of_ble_eq_true rfl)
  rw [lg_entry_eq]
  generalize (lg_sl ([.ref hs, .ref a0, .int p1]) ++ List.replicate (6 - (lg_sl ([.ref hs, .ref a0, .int p1])).length) Slot.unset).toArray = ls at hl ⊢
  have hl : lv_has ls 6 [(0, .ref hs), (1, .ref a0), (2, .int p1)] := hl
  have k_1 := (fun _ h => List.mem_cons_of_mem _ (List.mem_append_right _ (List.mem_append_left _ h)) : ∀ w ∈ wsX40, w ∈ v_X6_keysAreRight)
  have k_2 := hts (.fieldLink RX6 119 "TwinRoots$Page" "many" "I") (List.mem_of_getElem? (i := 1) rfl)
  have k_3 := (fun _ h => List.mem_cons_of_mem _ (List.mem_append_right _ (List.mem_append_right _ (List.mem_append_left _ h))) : ∀ w ∈ wsX60, w ∈ v_X6_keysAreRight)
  have k_4 := hts (.fieldLink RX6 52 "TwinRoots$Survey" "lastKey" "J") (List.mem_of_getElem? (i := 9) rfl)
  have k_5 := hts (.fieldLink RX6 47 "TwinRoots$Survey" "keysFound" "I") (List.mem_of_getElem? (i := 23) rfl)
  have hz2 := (hI a0 hm_a0).2.1
  have hz3 := (hI a0 hm_a0).2.2
  refine lv_iconst (v := 0) hx hb dX6_keysAreRight_0 (by decide) ?_
  refine lv_istore_n (lv' := [(3, .int 0), (0, .ref hs), (1, .ref a0), (2, .int p1)]) hx hb dX6_keysAreRight_1 rfl hl (by decide) rfl (fun ls hl => ?_)
  refine jn_cut (P := fun Q => ∀ (nf i : Nat) (u3 : Int32) (u4 : Int64) (H : Heap) (locs : List Loc) (ls : Array Slot), i ≤ (S a0).2.1 → (S a0).2.1 + 1 ≤ i + nf → va_P (dC, dI) vwCl ([(hs, .inr (6, [.ref hd, .ref hf, .ref hm, .ref l1, .ref l2, .ref l3, .int (nI sl), .long s2, .int u3, .long u4])), (l2, .inl (cJ, b, .inr (.inl g2))), (l3, .inl (cJ, b, .inr (.inl g3)))] ++ pool G cI Pg S) H → va_D A ([(hs, .inr (6, [.ref hd, .ref hf, .ref hm, .ref l1, .ref l2, .ref l3, .int (nI sl), .long s2, .int u3, .long u4])), (l2, .inl (cJ, b, .inr (.inl g2))), (l3, .inl (cJ, b, .inr (.inl g3)))] ++ pool G cI Pg S) → va_S A s.heap H locs → lv_has ls 6 [(0, .ref hs), (1, .ref a0), (2, .int p1), (3, .int (nI i))] → W p l e (headSpec v_X6_keysAreRight ({ frames := 1, cells := 0, slots := 0, locals := 21 } : Room)).room s m ([.ref hs, .ref a0, .int p1] : List Value).toArray below meth c H locs 0 0 Q (F0 m 2 ls [])) ?_ (fun loop_2 => ?_)
  · intro nf
    induction nf with
    | zero =>
      intro i u3 u4 H locs ls h1 h2
      exact absurd h2 (by omega)
    | succ nf ih_2 =>
      intro i u3 u4 H locs ls hi hn hP hD hS hl
      refine lv_iload_n hx hb dX6_keysAreRight_2 rfl (lv_at hl 3 rfl) ?_
      refine lv_aload_n hx hb dX6_keysAreRight_3 rfl (lv_at hl 1 rfl) ?_
      obtain ⟨k9, hk9⟩ := pool_at (G := G) (cI := cI) (S := S) [(hs, .inr (6, [.ref hd, .ref hf, .ref hm, .ref l1, .ref l2, .ref l3, .int (nI sl), .long s2, .int u3, .long u4])), (l2, .inl (cJ, b, .inr (.inl g2))), (l3, .inl (cJ, b, .inr (.inl g3)))] hm_a0
      refine va_get (D := (dC, dI)) (ci := 4) (v := .int (nI (S a0).2.1)) (C := RX4) (T := TX4) (N := 4) hx hb hts k_1 hown hK hP k9 hk9 rfl 1 (by decide) k_2 (fun _ h9 => h9) rfl dX6_keysAreRight_4 ?_
      refine lv_icmp_ge (tgt := 74) hx hb dX6_keysAreRight_7 (by decide) (fun c_1 => ?_) (fun c_1 => ?_)
      · refine lv_iconst (v := 1) hx hb dX6_keysAreRight_74 (by decide) ?_
        have hP9 := hP.part (cx := [(hs, .inr (6, [.ref hd, .ref hf, .ref hm, .ref l1, .ref l2, .ref l3, .int (nI sl), .long s2, .int u3, .long u4])), (l2, .inl (cJ, b, .inr (.inl g2))), (l3, .inl (cJ, b, .inr (.inl g3)))]) [0, 1, 2] rfl
        have hD9 := hD.part (cx := [(hs, .inr (6, [.ref hd, .ref hf, .ref hm, .ref l1, .ref l2, .ref l3, .int (nI sl), .long s2, .int u3, .long u4])), (l2, .inl (cJ, b, .inr (.inl g2))), (l3, .inl (cJ, b, .inr (.inl g3)))]) [0, 1, 2] (by decide) rfl
        have hK9 := hK.sub (tys' := [(cI, .int), (cJ, .long)]) [0, 1] rfl
        exact W.zret (v := 1) hx hb hr rfl (fun t ht hW => ⟨⟨1, (u3, u4), rfl, Or.inr rfl, by rw [ht]; exact hP9, va_K.moved hW.alike hK9, hD9⟩, hS.F ht⟩) hS.2.2 dX6_keysAreRight_75
      · have hlt : i < (S a0).2.1 := Nat.lt_of_not_le (fun h => c_1 (nI_le h (by omega)))
        refine lv_aload_n hx hb dX6_keysAreRight_10 rfl (lv_at hl 1 rfl) ?_
        refine lv_iload_n hx hb dX6_keysAreRight_11 rfl (lv_at hl 3 rfl) ?_
        have hz1_a0 := (hI a0 hm_a0).1
        have hz2_a0 := (hI a0 hm_a0).2.1
        have hz3_a0 := (hI a0 hm_a0).2.2
        have hT9 := in1 hm_a0
        have hPc : va_P (dC, dI) vwCl [(a0, .inr (4, [.int (S a0).1, .int (nI (S a0).2.1), .ref (G a0).1, .ref (G a0).2.1])), ((G a0).1, .inl (cI, (G a0).2.2.1, .inl (S a0).2.2.1)), ((G a0).2.1, .inl (cI, (G a0).2.2.1, .inl (S a0).2.2.2))] H := pool_cut (T := [a0]) (cx := []) hP hT9 [] rfl
        have hDc : va_D A [(a0, .inr (4, [.int (S a0).1, .int (nI (S a0).2.1), .ref (G a0).1, .ref (G a0).2.1])), ((G a0).1, .inl (cI, (G a0).2.2.1, .inl (S a0).2.2.1)), ((G a0).2.1, .inl (cI, (G a0).2.2.1, .inl (S a0).2.2.2))] := pool_cutD (T := [a0]) (cx := []) hD hT9 (nd1) [] (by decide) rfl
        have hFc : ∀ q, va_A [(a0, .inr (4, [.int (S a0).1, .int (nI (S a0).2.1), .ref (G a0).1, .ref (G a0).2.1])), ((G a0).1, .inl (cI, (G a0).2.2.1, .inl (S a0).2.2.1)), ((G a0).2.1, .inl (cI, (G a0).2.2.1, .inl (S a0).2.2.2))] (H).size q → A q := pool_free (T := [a0]) (cx := []) hD hS hA hT9 [] rfl
        have hKc := hK.sub (tys' := [(cI, .int), (cI, .int)]) [0, 0] rfl
        refine va_calli (va_runV (As := [.int (nI i)]) (rest := []) ⟨hx, hb, hml, hown, hts⟩ (c_X4_keyAt l dC dI H.size a0 (G a0).1 (G a0).2.1 (G a0).2.2.1 (S a0).2.1 (S a0).1 cI cI (S a0).2.2.1 (S a0).2.2.2 (nI i) (by first | assumption | omega | decide) (by first | assumption | omega | decide)) (cwV 1 hts g_X6_keysAreRight_X4_keyAt rfl rfl rfl (by decide +kernel) ⟨Nat.le_of_ble_eq_true rfl, Nat.le_of_ble_eq_true rfl⟩) ⟨fun a U g mk q => by obtain ⟨q0, q1, qP, qK, qD⟩ := q; exact ⟨q0, q1, qP, va_K.moved (u := U) (U := U.calling g mk a) (Vm.Alike.refl U.vm) qK, qD⟩, va_recv hKc hPc (ci := 4) (q0 := 0) rfl rfl, fun U hU hW => ⟨rfl, by rw [hU], by rw [hU]; exact hPc, va_K.moved hW.alike hKc, hDc.weaken (fun _ _ _ _ => trivial)⟩⟩ rfl rfl hl.1 rfl (lv_room (Nat.le_of_ble_eq_true rfl)) dX6_keysAreRight_12 ⟨(show 0 + 0 ≤ 0 by omega), (show 0 + 0 ≤ 0 by omega)⟩) hS (fun q _ h => hFc q h) hFc (fun r_2 u t H1 locs ht hvm hw hB hz1 hk1 hS => ?_)
        obtain ⟨hP1, hK1, hD1⟩ := hB
        rw [ht] at hP1
        have hK1 := va_K.moved hvm.symm hK1
        try dsimp only at hw
        obtain ⟨hP, hD⟩ := pool_join (S := S) (S1 := S) (T := [a0]) (cx := []) (wr := [(hs, .inr (6, [.ref hd, .ref hf, .ref hm, .ref l1, .ref l2, .ref l3, .int (nI sl), .long s2, .int u3, .long u4])), (l2, .inl (cJ, b, .inr (.inl g2))), (l3, .inl (cJ, b, .inr (.inl g3)))]) (rx := []) hP hD hT9 [] [0, 1, 2] rfl rfl (by decide) (by decide) hk1 hFc hP1 hD1
        rw [pgJ_same] at hP hD
        have hK := (hK.sub (tys' := [(cI, .int), (cJ, .long)]) [0, 1] rfl).app hK1
        have hK : va_K (dC, dI) vwCl [(cI, .int), (cJ, .long)] s := hK.sub [0, 1] rfl
        generalize H1 = H at hP hS ⊢
        have hP : va_P (dC, dI) vwCl ([(hs, .inr (6, [.ref hd, .ref hf, .ref hm, .ref l1, .ref l2, .ref l3, .int (nI sl), .long s2, .int u3, .long u4])), (l2, .inl (cJ, b, .inr (.inl g2))), (l3, .inl (cJ, b, .inr (.inl g3)))] ++ pool G cI Pg S) H := hP
        have hD : va_D A ([(hs, .inr (6, [.ref hd, .ref hf, .ref hm, .ref l1, .ref l2, .ref l3, .int (nI sl), .long s2, .int u3, .long u4])), (l2, .inl (cJ, b, .inr (.inl g2))), (l3, .inl (cJ, b, .inr (.inl g3)))] ++ pool G cI Pg S) := hD
        have hK : va_K (dC, dI) vwCl [(cI, .int), (cJ, .long)] s := hK
        have hw_r_2 := hw
        refine lv_i2l hx hb dX6_keysAreRight_15 rfl ?_
        refine lv_topl (fun z_3 _ => ?_)
        refine lv_lstore (lv' := [(4, .long z_3), (0, .ref hs), (1, .ref a0), (2, .int p1), (3, .int (nI i))]) hx hb dX6_keysAreRight_16 hl (by decide) rfl (fun ls hl => ?_)
        refine lv_lload hx hb dX6_keysAreRight_18 (lv_at hl 0 rfl) ?_
        refine lv_aload_n hx hb dX6_keysAreRight_20 rfl (lv_at hl 1 rfl) ?_
        refine va_get (D := (dC, dI)) (ci := 6) (v := .long u4) (C := RX6) (T := TX6) (N := 10) hx hb hts k_3 hown hK hP 0 rfl rfl 9 (by decide) k_4 (fun _ h9 => h9) rfl dX6_keysAreRight_21 ?_
        refine W.lcmp hx hb dX6_keysAreRight_24 ?_
        refine lv_topi (fun z_4 _ => ?_)
        refine lv_if_le (tgt := 50) hx hb dX6_keysAreRight_25 (by decide) (fun c_5 => ?_) (fun c_5 => ?_)
        · refine lv_iconst (v := 0) hx hb dX6_keysAreRight_50 (by decide) ?_
          have hP9 := hP.part (cx := [(hs, .inr (6, [.ref hd, .ref hf, .ref hm, .ref l1, .ref l2, .ref l3, .int (nI sl), .long s2, .int u3, .long u4])), (l2, .inl (cJ, b, .inr (.inl g2))), (l3, .inl (cJ, b, .inr (.inl g3)))]) [0, 1, 2] rfl
          have hD9 := hD.part (cx := [(hs, .inr (6, [.ref hd, .ref hf, .ref hm, .ref l1, .ref l2, .ref l3, .int (nI sl), .long s2, .int u3, .long u4])), (l2, .inl (cJ, b, .inr (.inl g2))), (l3, .inl (cJ, b, .inr (.inl g3)))]) [0, 1, 2] (by decide) rfl
          have hK9 := hK.sub (tys' := [(cI, .int), (cJ, .long)]) [0, 1] rfl
          exact W.zret (v := 0) hx hb hr rfl (fun t ht hW => ⟨⟨0, (u3, u4), rfl, Or.inl rfl, by rw [ht]; exact hP9, va_K.moved hW.alike hK9, hD9⟩, hS.F ht⟩) hS.2.2 dX6_keysAreRight_51
        · refine lv_lload hx hb dX6_keysAreRight_28 (lv_at hl 0 rfl) ?_
          refine lv_aload_n hx hb dX6_keysAreRight_30 rfl (lv_at hl 1 rfl) ?_
          refine lv_iload_n hx hb dX6_keysAreRight_31 rfl (lv_at hl 3 rfl) ?_
          have hPc := hP.sub (ws' := [(hs, .inr (6, [.ref hd, .ref hf, .ref hm, .ref l1, .ref l2, .ref l3, .int (nI sl), .long s2, .int u3, .long u4])), (l2, .inl (cJ, b, .inr (.inl g2)))]) [0, 1] rfl
          have hDc := hD.sub (ws' := [(hs, .inr (6, [.ref hd, .ref hf, .ref hm, .ref l1, .ref l2, .ref l3, .int (nI sl), .long s2, .int u3, .long u4])), (l2, .inl (cJ, b, .inr (.inl g2)))]) [0, 1] (by decide) rfl
          have hKc := hK.sub (tys' := [(cJ, .long)]) [1] rfl
          have hFc := va_free (wc := [(hs, .inr (6, [.ref hd, .ref hf, .ref hm, .ref l1, .ref l2, .ref l3, .int (nI sl), .long s2, .int u3, .long u4])), (l2, .inl (cJ, b, .inr (.inl g2)))]) hD hS hA [0, 1] rfl
          refine va_calll (va_runV (As := [.int p1]) (rest := [.long z_3]) ⟨hx, hb, hml, hown, hts⟩ (c_X6_lowestAt l dC dI H.size hs hd hf hm l1 l2 l3 sl s2 u4 u3 b p1 cJ g2 (by first | assumption | omega | decide)) (cwV 1 hts g_X6_keysAreRight_X6_lowestAt rfl rfl rfl (by decide +kernel) ⟨Nat.le_of_ble_eq_true rfl, Nat.le_of_ble_eq_true rfl⟩) ⟨fun a U g mk q => by obtain ⟨q0, q1, qP, qK, qD⟩ := q; exact ⟨q0, q1, qP, va_K.moved (u := U) (U := U.calling g mk a) (Vm.Alike.refl U.vm) qK, qD⟩, va_recv hKc hPc (ci := 6) (q0 := 0) rfl rfl, fun U hU hW => ⟨rfl, by rw [hU], by rw [hU]; exact hPc, va_K.moved hW.alike hKc, hDc.weaken (fun _ _ _ _ => trivial)⟩⟩ rfl rfl hl.1 rfl (lv_room (Nat.le_of_ble_eq_true rfl)) dX6_keysAreRight_32 ⟨(show 0 + 0 ≤ 0 by omega), (show 0 + 0 ≤ 0 by omega)⟩) hS (fun q _ h => hFc q h) hFc (fun r_6 u t H1 locs ht hvm hw hB hz1 hk1 hS => ?_)
          obtain ⟨hP1, hK1, hD1⟩ := hB
          rw [ht] at hP1
          have hK1 := va_K.moved hvm.symm hK1
          try dsimp only at hw
          obtain ⟨hP, hD⟩ := va_joinQ (wr := [(l3, .inl (cJ, b, .inr (.inl g3)))]) (w1 := [(hs, .inr (6, [.ref hd, .ref hf, .ref hm, .ref l1, .ref l2, .ref l3, .int (nI sl), .long s2, .int u3, .long u4])), (l2, .inl (cJ, b, .inr (.inl g2)))]) hP hD [0, 1] [2] rfl rfl (by decide) (by decide) hk1 hFc hP1 hD1
          have hK := (hK.sub (tys' := [(cI, .int), (cJ, .long)]) [0, 1] rfl).app hK1
          have hK : va_K (dC, dI) vwCl [(cI, .int), (cJ, .long)] s := hK.sub [0, 1] rfl
          generalize H1 = H at hP hS ⊢
          have hP : va_P (dC, dI) vwCl ([(l3, .inl (cJ, b, .inr (.inl g3))), (hs, .inr (6, [.ref hd, .ref hf, .ref hm, .ref l1, .ref l2, .ref l3, .int (nI sl), .long s2, .int u3, .long u4])), (l2, .inl (cJ, b, .inr (.inl g2)))] ++ pool G cI Pg S) H := hP
          have hD : va_D A ([(l3, .inl (cJ, b, .inr (.inl g3))), (hs, .inr (6, [.ref hd, .ref hf, .ref hm, .ref l1, .ref l2, .ref l3, .int (nI sl), .long s2, .int u3, .long u4])), (l2, .inl (cJ, b, .inr (.inl g2)))] ++ pool G cI Pg S) := hD
          have hK : va_K (dC, dI) vwCl [(cI, .int), (cJ, .long)] s := hK
          have hw_r_6 := hw
          refine W.lcmp hx hb dX6_keysAreRight_35 ?_
          refine lv_topi (fun z_7 _ => ?_)
          refine lv_if_lt (tgt := 50) hx hb dX6_keysAreRight_36 (by decide) (fun c_8 => ?_) (fun c_8 => ?_)
          · refine lv_iconst (v := 0) hx hb dX6_keysAreRight_50 (by decide) ?_
            have hP9 := hP.part (cx := [(hs, .inr (6, [.ref hd, .ref hf, .ref hm, .ref l1, .ref l2, .ref l3, .int (nI sl), .long s2, .int u3, .long u4])), (l2, .inl (cJ, b, .inr (.inl g2))), (l3, .inl (cJ, b, .inr (.inl g3)))]) [1, 2, 0] rfl
            have hD9 := hD.part (cx := [(hs, .inr (6, [.ref hd, .ref hf, .ref hm, .ref l1, .ref l2, .ref l3, .int (nI sl), .long s2, .int u3, .long u4])), (l2, .inl (cJ, b, .inr (.inl g2))), (l3, .inl (cJ, b, .inr (.inl g3)))]) [1, 2, 0] (by decide) rfl
            have hK9 := hK.sub (tys' := [(cI, .int), (cJ, .long)]) [0, 1] rfl
            exact W.zret (v := 0) hx hb hr rfl (fun t ht hW => ⟨⟨0, (u3, u4), rfl, Or.inl rfl, by rw [ht]; exact hP9, va_K.moved hW.alike hK9, hD9⟩, hS.F ht⟩) hS.2.2 dX6_keysAreRight_51
          · refine lv_lload hx hb dX6_keysAreRight_39 (lv_at hl 0 rfl) ?_
            refine lv_aload_n hx hb dX6_keysAreRight_41 rfl (lv_at hl 1 rfl) ?_
            refine lv_iload_n hx hb dX6_keysAreRight_42 rfl (lv_at hl 3 rfl) ?_
            have hPc := hP.sub (ws' := [(hs, .inr (6, [.ref hd, .ref hf, .ref hm, .ref l1, .ref l2, .ref l3, .int (nI sl), .long s2, .int u3, .long u4])), (l3, .inl (cJ, b, .inr (.inl g3)))]) [1, 0] rfl
            have hDc := hD.sub (ws' := [(hs, .inr (6, [.ref hd, .ref hf, .ref hm, .ref l1, .ref l2, .ref l3, .int (nI sl), .long s2, .int u3, .long u4])), (l3, .inl (cJ, b, .inr (.inl g3)))]) [1, 0] (by decide) rfl
            have hKc := hK.sub (tys' := [(cJ, .long)]) [1] rfl
            have hFc := va_free (wc := [(hs, .inr (6, [.ref hd, .ref hf, .ref hm, .ref l1, .ref l2, .ref l3, .int (nI sl), .long s2, .int u3, .long u4])), (l3, .inl (cJ, b, .inr (.inl g3)))]) hD hS hA [1, 0] rfl
            refine va_calll (va_runV (As := [.int p1]) (rest := [.long z_3]) ⟨hx, hb, hml, hown, hts⟩ (c_X6_ceilingAt l dC dI H.size hs hd hf hm l1 l2 l3 sl s2 u4 u3 b p1 cJ g3 (by first | assumption | omega | decide)) (cwV 1 hts g_X6_keysAreRight_X6_ceilingAt rfl rfl rfl (by decide +kernel) ⟨Nat.le_of_ble_eq_true rfl, Nat.le_of_ble_eq_true rfl⟩) ⟨fun a U g mk q => by obtain ⟨q0, q1, qP, qK, qD⟩ := q; exact ⟨q0, q1, qP, va_K.moved (u := U) (U := U.calling g mk a) (Vm.Alike.refl U.vm) qK, qD⟩, va_recv hKc hPc (ci := 6) (q0 := 0) rfl rfl, fun U hU hW => ⟨rfl, by rw [hU], by rw [hU]; exact hPc, va_K.moved hW.alike hKc, hDc.weaken (fun _ _ _ _ => trivial)⟩⟩ rfl rfl hl.1 rfl (lv_room (Nat.le_of_ble_eq_true rfl)) dX6_keysAreRight_43 ⟨(show 0 + 0 ≤ 0 by omega), (show 0 + 0 ≤ 0 by omega)⟩) hS (fun q _ h => hFc q h) hFc (fun r_9 u t H1 locs ht hvm hw hB hz1 hk1 hS => ?_)
            obtain ⟨hP1, hK1, hD1⟩ := hB
            rw [ht] at hP1
            have hK1 := va_K.moved hvm.symm hK1
            try dsimp only at hw
            obtain ⟨hP, hD⟩ := va_joinQ (wr := [(l2, .inl (cJ, b, .inr (.inl g2)))]) (w1 := [(hs, .inr (6, [.ref hd, .ref hf, .ref hm, .ref l1, .ref l2, .ref l3, .int (nI sl), .long s2, .int u3, .long u4])), (l3, .inl (cJ, b, .inr (.inl g3)))]) hP hD [1, 0] [2] rfl rfl (by decide) (by decide) hk1 hFc hP1 hD1
            have hK := (hK.sub (tys' := [(cI, .int), (cJ, .long)]) [0, 1] rfl).app hK1
            have hK : va_K (dC, dI) vwCl [(cI, .int), (cJ, .long)] s := hK.sub [0, 1] rfl
            generalize H1 = H at hP hS ⊢
            have hP : va_P (dC, dI) vwCl ([(l2, .inl (cJ, b, .inr (.inl g2))), (hs, .inr (6, [.ref hd, .ref hf, .ref hm, .ref l1, .ref l2, .ref l3, .int (nI sl), .long s2, .int u3, .long u4])), (l3, .inl (cJ, b, .inr (.inl g3)))] ++ pool G cI Pg S) H := hP
            have hD : va_D A ([(l2, .inl (cJ, b, .inr (.inl g2))), (hs, .inr (6, [.ref hd, .ref hf, .ref hm, .ref l1, .ref l2, .ref l3, .int (nI sl), .long s2, .int u3, .long u4])), (l3, .inl (cJ, b, .inr (.inl g3)))] ++ pool G cI Pg S) := hD
            have hK : va_K (dC, dI) vwCl [(cI, .int), (cJ, .long)] s := hK
            have hw_r_9 := hw
            refine W.lcmp hx hb dX6_keysAreRight_46 ?_
            refine lv_topi (fun z_10 _ => ?_)
            refine lv_if_lt (tgt := 52) hx hb dX6_keysAreRight_47 (by decide) (fun c_11 => ?_) (fun c_11 => ?_)
            · refine lv_aload_n hx hb dX6_keysAreRight_52 rfl (lv_at hl 1 rfl) ?_
              refine lv_lload hx hb dX6_keysAreRight_53 (lv_at hl 0 rfl) ?_
              refine va_put (D := (dC, dI)) (ci := 6) (v := .long z_3) (ty := .long) (C := RX6) (T := TX6) (N := 10) hx hb hts k_3 tyX6 tyX6_ok nmX6 hown hK hP hD hS 1 rfl rfl 9 (by decide) k_4 (fun _ h9 => h9) rfl (by decide +kernel) rfl rfl (Nat.le_of_ble_eq_true rfl) dX6_keysAreRight_55 (fun H locs hP hD hS => ?_)
              have hP : va_P (dC, dI) vwCl ([(l2, .inl (cJ, b, .inr (.inl g2))), (hs, .inr (6, [.ref hd, .ref hf, .ref hm, .ref l1, .ref l2, .ref l3, .int (nI sl), .long s2, .int u3, .long z_3])), (l3, .inl (cJ, b, .inr (.inl g3)))] ++ pool G cI Pg S) H := hP
              have hD : va_D A ([(l2, .inl (cJ, b, .inr (.inl g2))), (hs, .inr (6, [.ref hd, .ref hf, .ref hm, .ref l1, .ref l2, .ref l3, .int (nI sl), .long s2, .int u3, .long z_3])), (l3, .inl (cJ, b, .inr (.inl g3)))] ++ pool G cI Pg S) := hD
              refine lv_aload_n hx hb dX6_keysAreRight_58 rfl (lv_at hl 1 rfl) ?_
              refine lv_dup hx hb dX6_keysAreRight_59 rfl ?_
              refine va_get (D := (dC, dI)) (ci := 6) (v := .int u3) (C := RX6) (T := TX6) (N := 10) hx hb hts k_3 hown hK hP 1 rfl rfl 8 (by decide) k_5 (fun _ h9 => h9) rfl dX6_keysAreRight_60 ?_
              refine lv_iconst (v := 1) hx hb dX6_keysAreRight_63 (by decide) ?_
              refine lv_iadd hx hb dX6_keysAreRight_64 ?_
              refine lv_topi (fun z_12 _ => ?_)
              refine va_put (D := (dC, dI)) (ci := 6) (v := .int z_12) (ty := .int) (C := RX6) (T := TX6) (N := 10) hx hb hts k_3 tyX6 tyX6_ok nmX6 hown hK hP hD hS 1 rfl rfl 8 (by decide) k_5 (fun _ h9 => h9) rfl (by decide +kernel) rfl rfl (Nat.le_of_ble_eq_true rfl) dX6_keysAreRight_65 (fun H locs hP hD hS => ?_)
              have hP : va_P (dC, dI) vwCl ([(l2, .inl (cJ, b, .inr (.inl g2))), (hs, .inr (6, [.ref hd, .ref hf, .ref hm, .ref l1, .ref l2, .ref l3, .int (nI sl), .long s2, .int z_12, .long z_3])), (l3, .inl (cJ, b, .inr (.inl g3)))] ++ pool G cI Pg S) H := hP
              have hD : va_D A ([(l2, .inl (cJ, b, .inr (.inl g2))), (hs, .inr (6, [.ref hd, .ref hf, .ref hm, .ref l1, .ref l2, .ref l3, .int (nI sl), .long s2, .int z_12, .long z_3])), (l3, .inl (cJ, b, .inr (.inl g3)))] ++ pool G cI Pg S) := hD
              refine lv_iinc (v := (nI (i + 1))) (lv' := [(3, .int (nI (i + 1))), (4, .long z_3), (0, .ref hs), (1, .ref a0), (2, .int p1)]) hx hb dX6_keysAreRight_68 hl (k := 4) rfl (nI_1 i) (by decide) rfl (fun ls hl => ?_)
              refine lv_goto (tgt := 2) hx hb dX6_keysAreRight_71 (by decide) ?_
              exact ih_2 (i + 1) z_12 z_3 _ _ _ (by omega) (by omega) (hP.part (cx := [(hs, .inr (6, [.ref hd, .ref hf, .ref hm, .ref l1, .ref l2, .ref l3, .int (nI sl), .long s2, .int z_12, .long z_3])), (l2, .inl (cJ, b, .inr (.inl g2))), (l3, .inl (cJ, b, .inr (.inl g3)))]) [1, 0, 2] rfl) (hD.part (cx := [(hs, .inr (6, [.ref hd, .ref hf, .ref hm, .ref l1, .ref l2, .ref l3, .int (nI sl), .long s2, .int z_12, .long z_3])), (l2, .inl (cJ, b, .inr (.inl g2))), (l3, .inl (cJ, b, .inr (.inl g3)))]) [1, 0, 2] (by decide) rfl) hS (lv_sub hl [2, 3, 4, 0] rfl)
            · refine lv_iconst (v := 0) hx hb dX6_keysAreRight_50 (by decide) ?_
              have hP9 := hP.part (cx := [(hs, .inr (6, [.ref hd, .ref hf, .ref hm, .ref l1, .ref l2, .ref l3, .int (nI sl), .long s2, .int u3, .long u4])), (l2, .inl (cJ, b, .inr (.inl g2))), (l3, .inl (cJ, b, .inr (.inl g3)))]) [1, 0, 2] rfl
              have hD9 := hD.part (cx := [(hs, .inr (6, [.ref hd, .ref hf, .ref hm, .ref l1, .ref l2, .ref l3, .int (nI sl), .long s2, .int u3, .long u4])), (l2, .inl (cJ, b, .inr (.inl g2))), (l3, .inl (cJ, b, .inr (.inl g3)))]) [1, 0, 2] (by decide) rfl
              have hK9 := hK.sub (tys' := [(cI, .int), (cJ, .long)]) [0, 1] rfl
              exact W.zret (v := 0) hx hb hr rfl (fun t ht hW => ⟨⟨0, (u3, u4), rfl, Or.inl rfl, by rw [ht]; exact hP9, va_K.moved hW.alike hK9, hD9⟩, hS.F ht⟩) hS.2.2 dX6_keysAreRight_51
  exact loop_2 ((S a0).2.1 + 1) 0 s3 s4 _ _ _ (by omega) (by omega) hP hD hS (lv_sub hl [1, 2, 3, 0] rfl)
def v_X6_childrenAreReached : List Cond := .code yX6_childrenAreReached cX6_childrenAreReached 8 (some .boolean) :: ([.fieldLink RX6 119 "TwinRoots$Page" "many" "I", .code yX6_lowestAt cX6_lowestAt 2 (some .long), .constantLong RX6 73 (2147483648), .fieldLink RX6 33 "TwinRoots$Survey" "lowest" "[J", .methodLink RX6 125 yX6_lowestAt, .instanceMethod yX6_lowestAt, .selects RX6 yX6_lowestAt yX6_lowestAt, .initialized RX6, .code yX6_ceilingAt cX6_ceilingAt 2 (some .long), .constantLong RX6 50 (-2147483649), .fieldLink RX6 37 "TwinRoots$Survey" "ceiling" "[J", .methodLink RX6 129 yX6_ceilingAt, .instanceMethod yX6_ceilingAt, .selects RX6 yX6_ceilingAt yX6_ceilingAt, .code yX4_refAt cX4_refAt 2 (some .int), .fieldLink RX4 22 "TwinRoots$Page" "many" "I", .fieldLink RX4 19 "TwinRoots$Page" "refs" "[I", .methodLink RX6 141 yX4_refAt, .instanceMethod yX4_refAt, .selects RX4 yX4_refAt yX4_refAt, .initialized RX4, .code yX6_reach cX6_reach 7 (some .boolean), .fieldLink RX6 9 "TwinRoots$Survey" "disk" "LTwinRoots$Disk;", .fieldLink RX6 23 "TwinRoots$Disk" "blocks" "I", .fieldLink RX6 43 "TwinRoots$Survey" "reached" "J", .code yX8_holds cX8_holds 3 (some .boolean), .code yX8_bit cX8_bit 1 (some .long), .methodLink RX8 227 yX8_bit, .static yX8_bit, .initialized RX8, .static yX8_holds, .fieldLink RX6 40 "TwinRoots$Survey" "lineEnd" "I", .fieldLink RX6 29 "TwinRoots$Survey" "line" "[I", .methodLink RX6 75 yX6_reach, .instanceMethod yX6_reach, .selects RX6 yX6_reach yX6_reach, .code yX4_keyAt cX4_keyAt 2 (some .int), .fieldLink RX4 15 "TwinRoots$Page" "keys" "[I", .methodLink RX6 122 yX4_keyAt, .instanceMethod yX4_keyAt, .selects RX4 yX4_keyAt yX4_keyAt, .code Lib.MathLoose.min_long.x Lib.MathLoose.min_long.code 4 (some .long), .methodLink RX6 138 Lib.MathLoose.min_long.x, .static Lib.MathLoose.min_long.x, .initialized "java/lang/Math", .code Lib.MathLoose.max_long.x Lib.MathLoose.max_long.code 4 (some .long), .methodLink RX6 132 Lib.MathLoose.max_long.x, .static Lib.MathLoose.max_long.x] ++ (wsX40 ++ (wsX60 ++ (wsX00 ++ ([])))))
set_option maxRecDepth 20000 in
theorem g_X6_childrenAreReached_X6_lowestAt : GoodIn v_X6_childrenAreReached (wsV RX6 125 RX6 yX6_lowestAt v_X6_lowestAt) := goodIn_r _ [5, 6, 7, 8, 2, 3, 4, 53, 54, 55, 56, 57, 58, 59, 60, 61, 62] (by decide +kernel) (by decide +kernel)
set_option maxRecDepth 20000 in
theorem g_X6_childrenAreReached_X6_ceilingAt : GoodIn v_X6_childrenAreReached (wsV RX6 129 RX6 yX6_ceilingAt v_X6_ceilingAt) := goodIn_r _ [12, 13, 14, 8, 9, 10, 11, 53, 54, 55, 56, 57, 58, 59, 60, 61, 62] (by decide +kernel) (by decide +kernel)
set_option maxRecDepth 20000 in
theorem g_X6_childrenAreReached_X4_refAt : GoodIn v_X6_childrenAreReached (wsV RX6 141 RX4 yX4_refAt v_X4_refAt) := goodIn_r _ [18, 19, 20, 21, 15, 16, 17, 49, 50, 51, 52] (by decide +kernel) (by decide +kernel)
set_option maxRecDepth 20000 in
theorem g_X6_childrenAreReached_X6_reach : GoodIn v_X6_childrenAreReached (wsV RX6 75 RX6 yX6_reach v_X6_reach) := goodIn_r _ [34, 35, 36, 8, 22, 23, 24, 25, 26, 27, 28, 29, 30, 31, 32, 33, 4, 11, 53, 54, 55, 56, 57, 58, 59, 60, 61, 62, 63, 64, 65, 66, 67, 68, 69] (by decide +kernel) (by decide +kernel)
set_option maxRecDepth 20000 in
theorem g_X6_childrenAreReached_X4_keyAt : GoodIn v_X6_childrenAreReached (wsV RX6 122 RX4 yX4_keyAt v_X4_keyAt) := goodIn_r _ [39, 40, 41, 21, 37, 16, 38, 49, 50, 51, 52] (by decide +kernel) (by decide +kernel)
set_option maxHeartbeats 4000000 in
set_option maxRecDepth 100000 in
/-- childrenAreReached -/
theorem c_X6_childrenAreReached (l : Launch) (dC : Nat → ClassId) (dI : Nat → Nat → Nat) (sz : Nat) (hs : Nat) (hd : Nat) (hf : Nat) (hm : Nat) (l1 : Nat) (l2 : Nat) (l3 : Nat) (sl : Nat) (s2 : Int64) (s4 : Int64) (s3 : Int32) (w : Nat) (b : Nat) (qc : Nat) (qi : Nat) (wr : Int32) (wa : Int32) (wc : Int32) (a0 : Nat) (p1 : Int32) (cJ : ClassId) (g1 : Nat → Int32) (g2 : Nat → Int64) (g3 : Nat → Int64) (G : pgG) (Pg : List Nat) (cI : ClassId) (S : pgS) (zb : b ≤ 64) (zsl : sl ≤ b) (hI : pgI G Pg S) (hm_a0 : a0 ∈ Pg) : Met l yX6_childrenAreReached v_X6_childrenAreReached ({ frames := 3, cells := 0, slots := 0, locals := 68 } : Room) (va_Pc [.ref hs, .ref a0, .int p1] (fun U => U.heap.size = sz ∧ va_P (dC, dI) vwCl ([(hs, .inr (6, [.ref hd, .ref hf, .ref hm, .ref l1, .ref l2, .ref l3, .int (nI sl), .long s2, .int s3, .long s4])), (hd, .inr (0, [.int (nI w), .int (nI b), .int wr, .ref qc, .ref qi, .int wa, .int wc])), (l1, .inl (cI, b, .inl g1)), (l2, .inl (cJ, b, .inr (.inl g2))), (l3, .inl (cJ, b, .inr (.inl g3)))] ++ pool G cI Pg S) U.heap ∧ va_K (dC, dI) vwCl [(cI, .int), (cJ, .long)] U ∧ va_D (fun _ => True) ([(hs, .inr (6, [.ref hd, .ref hf, .ref hm, .ref l1, .ref l2, .ref l3, .int (nI sl), .long s2, .int s3, .long s4])), (hd, .inr (0, [.int (nI w), .int (nI b), .int wr, .ref qc, .ref qi, .int wa, .int wc])), (l1, .inl (cI, b, .inl g1)), (l2, .inl (cJ, b, .inr (.inl g2))), (l3, .inl (cJ, b, .inr (.inl g3)))] ++ pool G cI Pg S) ∧ va_Nw (.methodLinkNest RX6 144 yX8_holds "TwinRoots") U ∧ va_Nw (.methodLinkNest RX6 148 yX8_bit "TwinRoots") U)) (va_Qi (fun (r : Int32) (u : Nat × Int64 × (Nat → Int32) × (Nat → Int64) × (Nat → Int64)) => match u with | (sl2, r2, k1, k2, k3) => (r = 0 ∨ r = 1) ∧ sl2 ≤ b ∧ sl ≤ sl2) (fun (u : Nat × Int64 × (Nat → Int32) × (Nat → Int64) × (Nat → Int64)) (t : State) => match u with | (sl2, r2, k1, k2, k3) => va_P (dC, dI) vwCl ([(hs, .inr (6, [.ref hd, .ref hf, .ref hm, .ref l1, .ref l2, .ref l3, .int (nI sl2), .long r2, .int s3, .long s4])), (hd, .inr (0, [.int (nI w), .int (nI b), .int wr, .ref qc, .ref qi, .int wa, .int wc])), (l1, .inl (cI, b, .inl k1)), (l2, .inl (cJ, b, .inr (.inl k2))), (l3, .inl (cJ, b, .inr (.inl k3)))] ++ pool G cI Pg S) t.heap ∧ va_K (dC, dI) vwCl [(cI, .int), (cJ, .long)] t ∧ va_D (va_A ([(hs, .inr (6, [.ref hd, .ref hf, .ref hm, .ref l1, .ref l2, .ref l3, .int (nI sl), .long s2, .int s3, .long s4])), (hd, .inr (0, [.int (nI w), .int (nI b), .int wr, .ref qc, .ref qi, .int wa, .int wc])), (l1, .inl (cI, b, .inl g1)), (l2, .inl (cJ, b, .inr (.inl g2))), (l3, .inl (cJ, b, .inr (.inl g3)))] ++ pool G cI Pg S) sz) ([(hs, .inr (6, [.ref hd, .ref hf, .ref hm, .ref l1, .ref l2, .ref l3, .int (nI sl2), .long r2, .int s3, .long s4])), (hd, .inr (0, [.int (nI w), .int (nI b), .int wr, .ref qc, .ref qi, .int wa, .int wc])), (l1, .inl (cI, b, .inl k1)), (l2, .inl (cJ, b, .inr (.inl k2))), (l3, .inl (cJ, b, .inr (.inl k3)))] ++ pool G cI Pg S)) (va_A ([(hs, .inr (6, [.ref hd, .ref hf, .ref hm, .ref l1, .ref l2, .ref l3, .int (nI sl), .long s2, .int s3, .long s4])), (hd, .inr (0, [.int (nI w), .int (nI b), .int wr, .ref qc, .ref qi, .int wa, .int wc])), (l1, .inl (cI, b, .inl g1)), (l2, .inl (cJ, b, .inr (.inl g2))), (l3, .inl (cJ, b, .inr (.inl g3)))] ++ pool G cI Pg S) sz)) 0 0 (va_A ([(hs, .inr (6, [.ref hd, .ref hf, .ref hm, .ref l1, .ref l2, .ref l3, .int (nI sl), .long s2, .int s3, .long s4])), (hd, .inr (0, [.int (nI w), .int (nI b), .int wr, .ref qc, .ref qi, .int wa, .int wc])), (l1, .inl (cI, b, .inl g1)), (l2, .inl (cJ, b, .inr (.inl g2))), (l3, .inl (cJ, b, .inr (.inl g3)))] ++ pool G cI Pg S) sz) := by
  refine Met.ofW (cc := cX6_childrenAreReached) (maxL := 8) (ret := (some .boolean)) (by decide) rfl ?_
  intro p e s m args below meth c s₁ B hml hv
  obtain ⟨rfl, hsz, hP, hK, hD0, hNX6_144, hNX6_148⟩ := hv
  have hx := B.exec
  have hb := B.bytes
  have hr := B.returns
  have hts := atoms_spec (ws := v_X6_childrenAreReached) B.pre
  have hown : s.vm.findClass RX6 = some m.cls := findClass_of_methodNamed B.named
  have hlocks := B.notSynchronized
  subst hsz
  have hD := hD0.self (sz := s.heap.size)
  generalize hAe : va_A ([(hs, .inr (6, [.ref hd, .ref hf, .ref hm, .ref l1, .ref l2, .ref l3, .int (nI sl), .long s2, .int s3, .long s4])), (hd, .inr (0, [.int (nI w), .int (nI b), .int wr, .ref qc, .ref qi, .int wa, .int wc])), (l1, .inl (cI, b, .inl g1)), (l2, .inl (cJ, b, .inr (.inl g2))), (l3, .inl (cJ, b, .inr (.inl g3)))] ++ pool G cI Pg S) s.heap.size = A at hD ⊢
  have hA : ∀ q : Nat, s.heap.size ≤ q → A q := fun q h => by rw [← hAe]; exact Or.inr h
  have hS : va_S A s.heap s.heap [] := va_S.rf
  have hP : va_P (dC, dI) vwCl ([(hs, .inr (6, [.ref hd, .ref hf, .ref hm, .ref l1, .ref l2, .ref l3, .int (nI sl), .long s2, .int s3, .long s4])), (hd, .inr (0, [.int (nI w), .int (nI b), .int wr, .ref qc, .ref qi, .int wa, .int wc])), (l1, .inl (cI, b, .inl g1)), (l2, .inl (cJ, b, .inr (.inl g2))), (l3, .inl (cJ, b, .inr (.inl g3)))] ++ pool G cI Pg S) s.heap := hP
  have hl := lv_entry ([.ref hs, .ref a0, .int p1]) (n := 8) (Nat.le_of_ble_eq_true rfl)
  rw [lg_entry_eq]
  generalize (lg_sl ([.ref hs, .ref a0, .int p1]) ++ List.replicate (8 - (lg_sl ([.ref hs, .ref a0, .int p1])).length) Slot.unset).toArray = ls at hl ⊢
  have hl : lv_has ls 8 [(0, .ref hs), (1, .ref a0), (2, .int p1)] := hl
  have k_1 := (fun _ h => List.mem_cons_of_mem _ (List.mem_append_right _ (List.mem_append_left _ h)) : ∀ w ∈ wsX40, w ∈ v_X6_childrenAreReached)
  have k_2 := hts (.fieldLink RX6 119 "TwinRoots$Page" "many" "I") (List.mem_of_getElem? (i := 1) rfl)
  have k_3 := hts (.code Lib.MathLoose.min_long.x Lib.MathLoose.min_long.code 4 (some .long)) (List.mem_of_getElem? (i := 42) rfl)
  have k_4 := hts (.methodLink RX6 138 Lib.MathLoose.min_long.x) (List.mem_of_getElem? (i := 43) rfl)
  have k_5 := hts (.static Lib.MathLoose.min_long.x) (List.mem_of_getElem? (i := 44) rfl)
  have k_6 := hts (.initialized "java/lang/Math") (List.mem_of_getElem? (i := 45) rfl)
  have k_7 := hts (.code Lib.MathLoose.max_long.x Lib.MathLoose.max_long.code 4 (some .long)) (List.mem_of_getElem? (i := 46) rfl)
  have k_8 := hts (.methodLink RX6 132 Lib.MathLoose.max_long.x) (List.mem_of_getElem? (i := 47) rfl)
  have k_9 := hts (.static Lib.MathLoose.max_long.x) (List.mem_of_getElem? (i := 48) rfl)
  have hz2 := (hI a0 hm_a0).2.1
  have hz3 := (hI a0 hm_a0).2.2
  refine lv_iconst (v := 0) hx hb dX6_childrenAreReached_0 (by decide) ?_
  refine lv_istore_n (lv' := [(3, .int 0), (0, .ref hs), (1, .ref a0), (2, .int p1)]) hx hb dX6_childrenAreReached_1 rfl hl (by decide) rfl (fun ls hl => ?_)
  refine jn_cut (P := fun Q => ∀ (nf i : Nat) (sv9 : Nat) (rv9 : Int64) (v1 : Nat → Int32) (v2 : Nat → Int64) (v3 : Nat → Int64) (H : Heap) (locs : List Loc) (ls : Array Slot), i ≤ (S a0).2.1 → (S a0).2.1 + 1 ≤ i + nf → (sv9 ≤ b) → (sl ≤ sv9) → va_P (dC, dI) vwCl ([(hs, .inr (6, [.ref hd, .ref hf, .ref hm, .ref l1, .ref l2, .ref l3, .int (nI sv9), .long rv9, .int s3, .long s4])), (hd, .inr (0, [.int (nI w), .int (nI b), .int wr, .ref qc, .ref qi, .int wa, .int wc])), (l1, .inl (cI, b, .inl v1)), (l2, .inl (cJ, b, .inr (.inl v2))), (l3, .inl (cJ, b, .inr (.inl v3)))] ++ pool G cI Pg S) H → va_D A ([(hs, .inr (6, [.ref hd, .ref hf, .ref hm, .ref l1, .ref l2, .ref l3, .int (nI sv9), .long rv9, .int s3, .long s4])), (hd, .inr (0, [.int (nI w), .int (nI b), .int wr, .ref qc, .ref qi, .int wa, .int wc])), (l1, .inl (cI, b, .inl v1)), (l2, .inl (cJ, b, .inr (.inl v2))), (l3, .inl (cJ, b, .inr (.inl v3)))] ++ pool G cI Pg S) → va_S A s.heap H locs → lv_has ls 8 [(0, .ref hs), (1, .ref a0), (2, .int p1), (3, .int (nI i))] → W p l e (headSpec v_X6_childrenAreReached ({ frames := 3, cells := 0, slots := 0, locals := 68 } : Room)).room s m ([.ref hs, .ref a0, .int p1] : List Value).toArray below meth c H locs 0 0 Q (F0 m 2 ls [])) ?_ (fun loop_2 => ?_)
  · intro nf
    induction nf with
    | zero =>
      intro i sv9 rv9 v1 v2 v3 H locs ls h1 h2
      exact absurd h2 (by omega)
    | succ nf ih_2 =>
      intro i sv9 rv9 v1 v2 v3 H locs ls hi hn h_a h_b hP hD hS hl
      refine lv_iload_n hx hb dX6_childrenAreReached_2 rfl (lv_at hl 3 rfl) ?_
      refine lv_aload_n hx hb dX6_childrenAreReached_3 rfl (lv_at hl 1 rfl) ?_
      obtain ⟨k9, hk9⟩ := pool_at (G := G) (cI := cI) (S := S) [(hs, .inr (6, [.ref hd, .ref hf, .ref hm, .ref l1, .ref l2, .ref l3, .int (nI sv9), .long rv9, .int s3, .long s4])), (hd, .inr (0, [.int (nI w), .int (nI b), .int wr, .ref qc, .ref qi, .int wa, .int wc])), (l1, .inl (cI, b, .inl v1)), (l2, .inl (cJ, b, .inr (.inl v2))), (l3, .inl (cJ, b, .inr (.inl v3)))] hm_a0
      refine va_get (D := (dC, dI)) (ci := 4) (v := .int (nI (S a0).2.1)) (C := RX4) (T := TX4) (N := 4) hx hb hts k_1 hown hK hP k9 hk9 rfl 1 (by decide) k_2 (fun _ h9 => h9) rfl dX6_childrenAreReached_4 ?_
      refine lv_icmp_ge (tgt := 90) hx hb dX6_childrenAreReached_7 (by decide) (fun c_1 => ?_) (fun c_1 => ?_)
      · refine lv_iconst (v := 1) hx hb dX6_childrenAreReached_90 (by decide) ?_
        have hP9 := hP.part (cx := [(hs, .inr (6, [.ref hd, .ref hf, .ref hm, .ref l1, .ref l2, .ref l3, .int (nI sv9), .long rv9, .int s3, .long s4])), (hd, .inr (0, [.int (nI w), .int (nI b), .int wr, .ref qc, .ref qi, .int wa, .int wc])), (l1, .inl (cI, b, .inl v1)), (l2, .inl (cJ, b, .inr (.inl v2))), (l3, .inl (cJ, b, .inr (.inl v3)))]) [0, 1, 2, 3, 4] rfl
        have hD9 := hD.part (cx := [(hs, .inr (6, [.ref hd, .ref hf, .ref hm, .ref l1, .ref l2, .ref l3, .int (nI sv9), .long rv9, .int s3, .long s4])), (hd, .inr (0, [.int (nI w), .int (nI b), .int wr, .ref qc, .ref qi, .int wa, .int wc])), (l1, .inl (cI, b, .inl v1)), (l2, .inl (cJ, b, .inr (.inl v2))), (l3, .inl (cJ, b, .inr (.inl v3)))]) [0, 1, 2, 3, 4] (by decide) rfl
        have hK9 := hK.sub (tys' := [(cI, .int), (cJ, .long)]) [0, 1] rfl
        exact W.zret (v := 1) hx hb hr rfl (fun t ht hW => ⟨⟨1, (sv9, rv9, v1, v2, v3), rfl, ⟨Or.inr rfl, by omega, by omega⟩, by rw [ht]; exact hP9, va_K.moved hW.alike hK9, hD9⟩, hS.F ht⟩) hS.2.2 dX6_childrenAreReached_91
      · have hlt : i < (S a0).2.1 := Nat.lt_of_not_le (fun h => c_1 (nI_le h (by omega)))
        refine lv_aload_n hx hb dX6_childrenAreReached_10 rfl (lv_at hl 0 rfl) ?_
        refine lv_iload_n hx hb dX6_childrenAreReached_11 rfl (lv_at hl 2 rfl) ?_
        have hPc := hP.sub (ws' := [(hs, .inr (6, [.ref hd, .ref hf, .ref hm, .ref l1, .ref l2, .ref l3, .int (nI sv9), .long rv9, .int s3, .long s4])), (l2, .inl (cJ, b, .inr (.inl v2)))]) [0, 3] rfl
        have hDc := hD.sub (ws' := [(hs, .inr (6, [.ref hd, .ref hf, .ref hm, .ref l1, .ref l2, .ref l3, .int (nI sv9), .long rv9, .int s3, .long s4])), (l2, .inl (cJ, b, .inr (.inl v2)))]) [0, 3] (by decide) rfl
        have hKc := hK.sub (tys' := [(cJ, .long)]) [1] rfl
        have hFc := va_free (wc := [(hs, .inr (6, [.ref hd, .ref hf, .ref hm, .ref l1, .ref l2, .ref l3, .int (nI sv9), .long rv9, .int s3, .long s4])), (l2, .inl (cJ, b, .inr (.inl v2)))]) hD hS hA [0, 3] rfl
        refine va_calll (va_runV (As := [.int p1]) (rest := []) ⟨hx, hb, hml, hown, hts⟩ (c_X6_lowestAt l dC dI H.size hs hd hf hm l1 l2 l3 sv9 rv9 s4 s3 b p1 cJ v2 (by first | assumption | omega | decide)) (cwV 1 hts g_X6_childrenAreReached_X6_lowestAt rfl rfl rfl (by decide +kernel) ⟨Nat.le_of_ble_eq_true rfl, Nat.le_of_ble_eq_true rfl⟩) ⟨fun a U g mk q => by obtain ⟨q0, q1, qP, qK, qD⟩ := q; exact ⟨q0, q1, qP, va_K.moved (u := U) (U := U.calling g mk a) (Vm.Alike.refl U.vm) qK, qD⟩, va_recv hKc hPc (ci := 6) (q0 := 0) rfl rfl, fun U hU hW => ⟨rfl, by rw [hU], by rw [hU]; exact hPc, va_K.moved hW.alike hKc, hDc.weaken (fun _ _ _ _ => trivial)⟩⟩ rfl rfl hl.1 rfl (lv_room (Nat.le_of_ble_eq_true rfl)) dX6_childrenAreReached_12 ⟨(show 0 + 0 ≤ 0 by omega), (show 0 + 0 ≤ 0 by omega)⟩) hS (fun q _ h => hFc q h) hFc (fun r_2 u t H1 locs ht hvm hw hB hz1 hk1 hS => ?_)
        obtain ⟨hP1, hK1, hD1⟩ := hB
        rw [ht] at hP1
        have hK1 := va_K.moved hvm.symm hK1
        try dsimp only at hw
        obtain ⟨hP, hD⟩ := va_joinQ (wr := [(hd, .inr (0, [.int (nI w), .int (nI b), .int wr, .ref qc, .ref qi, .int wa, .int wc])), (l1, .inl (cI, b, .inl v1)), (l3, .inl (cJ, b, .inr (.inl v3)))]) (w1 := [(hs, .inr (6, [.ref hd, .ref hf, .ref hm, .ref l1, .ref l2, .ref l3, .int (nI sv9), .long rv9, .int s3, .long s4])), (l2, .inl (cJ, b, .inr (.inl v2)))]) hP hD [0, 3] [1, 2, 4] rfl rfl (by decide) (by decide) hk1 hFc hP1 hD1
        have hK := (hK.sub (tys' := [(cI, .int), (cJ, .long)]) [0, 1] rfl).app hK1
        have hK : va_K (dC, dI) vwCl [(cI, .int), (cJ, .long)] s := hK.sub [0, 1] rfl
        generalize H1 = H at hP hS ⊢
        have hP : va_P (dC, dI) vwCl ([(hd, .inr (0, [.int (nI w), .int (nI b), .int wr, .ref qc, .ref qi, .int wa, .int wc])), (l1, .inl (cI, b, .inl v1)), (l3, .inl (cJ, b, .inr (.inl v3))), (hs, .inr (6, [.ref hd, .ref hf, .ref hm, .ref l1, .ref l2, .ref l3, .int (nI sv9), .long rv9, .int s3, .long s4])), (l2, .inl (cJ, b, .inr (.inl v2)))] ++ pool G cI Pg S) H := hP
        have hD : va_D A ([(hd, .inr (0, [.int (nI w), .int (nI b), .int wr, .ref qc, .ref qi, .int wa, .int wc])), (l1, .inl (cI, b, .inl v1)), (l3, .inl (cJ, b, .inr (.inl v3))), (hs, .inr (6, [.ref hd, .ref hf, .ref hm, .ref l1, .ref l2, .ref l3, .int (nI sv9), .long rv9, .int s3, .long s4])), (l2, .inl (cJ, b, .inr (.inl v2)))] ++ pool G cI Pg S) := hD
        have hK : va_K (dC, dI) vwCl [(cI, .int), (cJ, .long)] s := hK
        have hw_r_2 := hw
        refine lv_lstore (lv' := [(4, .long r_2), (0, .ref hs), (1, .ref a0), (2, .int p1), (3, .int (nI i))]) hx hb dX6_childrenAreReached_15 hl (by decide) rfl (fun ls hl => ?_)
        refine lv_aload_n hx hb dX6_childrenAreReached_17 rfl (lv_at hl 1 rfl) ?_
        refine lv_iload_n hx hb dX6_childrenAreReached_18 rfl (lv_at hl 3 rfl) ?_
        have hPc := hP.sub (ws' := [(hs, .inr (6, [.ref hd, .ref hf, .ref hm, .ref l1, .ref l2, .ref l3, .int (nI sv9), .long rv9, .int s3, .long s4])), (l3, .inl (cJ, b, .inr (.inl v3)))]) [3, 2] rfl
        have hDc := hD.sub (ws' := [(hs, .inr (6, [.ref hd, .ref hf, .ref hm, .ref l1, .ref l2, .ref l3, .int (nI sv9), .long rv9, .int s3, .long s4])), (l3, .inl (cJ, b, .inr (.inl v3)))]) [3, 2] (by decide) rfl
        have hKc := hK.sub (tys' := [(cJ, .long)]) [1] rfl
        have hFc := va_free (wc := [(hs, .inr (6, [.ref hd, .ref hf, .ref hm, .ref l1, .ref l2, .ref l3, .int (nI sv9), .long rv9, .int s3, .long s4])), (l3, .inl (cJ, b, .inr (.inl v3)))]) hD hS hA [3, 2] rfl
        refine va_calll (va_runV (As := [.int p1]) (rest := []) ⟨hx, hb, hml, hown, hts⟩ (c_X6_ceilingAt l dC dI H.size hs hd hf hm l1 l2 l3 sv9 rv9 s4 s3 b p1 cJ v3 (by first | assumption | omega | decide)) (cwV 1 hts g_X6_childrenAreReached_X6_ceilingAt rfl rfl rfl (by decide +kernel) ⟨Nat.le_of_ble_eq_true rfl, Nat.le_of_ble_eq_true rfl⟩) ⟨fun a U g mk q => by obtain ⟨q0, q1, qP, qK, qD⟩ := q; exact ⟨q0, q1, qP, va_K.moved (u := U) (U := U.calling g mk a) (Vm.Alike.refl U.vm) qK, qD⟩, va_recv hKc hPc (ci := 6) (q0 := 0) rfl rfl, fun U hU hW => ⟨rfl, by rw [hU], by rw [hU]; exact hPc, va_K.moved hW.alike hKc, hDc.weaken (fun _ _ _ _ => trivial)⟩⟩ rfl rfl hl.1 rfl (lv_room (Nat.le_of_ble_eq_true rfl)) dX6_childrenAreReached_19 ⟨(show 0 + 0 ≤ 0 by omega), (show 0 + 0 ≤ 0 by omega)⟩) hS (fun q _ h => hFc q h) hFc (fun r_3 u t H1 locs ht hvm hw hB hz1 hk1 hS => ?_)
        obtain ⟨hP1, hK1, hD1⟩ := hB
        rw [ht] at hP1
        have hK1 := va_K.moved hvm.symm hK1
        try dsimp only at hw
        obtain ⟨hP, hD⟩ := va_joinQ (wr := [(hd, .inr (0, [.int (nI w), .int (nI b), .int wr, .ref qc, .ref qi, .int wa, .int wc])), (l1, .inl (cI, b, .inl v1)), (l2, .inl (cJ, b, .inr (.inl v2)))]) (w1 := [(hs, .inr (6, [.ref hd, .ref hf, .ref hm, .ref l1, .ref l2, .ref l3, .int (nI sv9), .long rv9, .int s3, .long s4])), (l3, .inl (cJ, b, .inr (.inl v3)))]) hP hD [3, 2] [0, 1, 4] rfl rfl (by decide) (by decide) hk1 hFc hP1 hD1
        have hK := (hK.sub (tys' := [(cI, .int), (cJ, .long)]) [0, 1] rfl).app hK1
        have hK : va_K (dC, dI) vwCl [(cI, .int), (cJ, .long)] s := hK.sub [0, 1] rfl
        generalize H1 = H at hP hS ⊢
        have hP : va_P (dC, dI) vwCl ([(hd, .inr (0, [.int (nI w), .int (nI b), .int wr, .ref qc, .ref qi, .int wa, .int wc])), (l1, .inl (cI, b, .inl v1)), (l2, .inl (cJ, b, .inr (.inl v2))), (hs, .inr (6, [.ref hd, .ref hf, .ref hm, .ref l1, .ref l2, .ref l3, .int (nI sv9), .long rv9, .int s3, .long s4])), (l3, .inl (cJ, b, .inr (.inl v3)))] ++ pool G cI Pg S) H := hP
        have hD : va_D A ([(hd, .inr (0, [.int (nI w), .int (nI b), .int wr, .ref qc, .ref qi, .int wa, .int wc])), (l1, .inl (cI, b, .inl v1)), (l2, .inl (cJ, b, .inr (.inl v2))), (hs, .inr (6, [.ref hd, .ref hf, .ref hm, .ref l1, .ref l2, .ref l3, .int (nI sv9), .long rv9, .int s3, .long s4])), (l3, .inl (cJ, b, .inr (.inl v3)))] ++ pool G cI Pg S) := hD
        have hK : va_K (dC, dI) vwCl [(cI, .int), (cJ, .long)] s := hK
        have hw_r_3 := hw
        refine lv_lstore (lv' := [(6, .long r_3), (4, .long r_2), (0, .ref hs), (1, .ref a0), (2, .int p1), (3, .int (nI i))]) hx hb dX6_childrenAreReached_22 hl (by decide) rfl (fun ls hl => ?_)
        refine lv_iload_n hx hb dX6_childrenAreReached_24 rfl (lv_at hl 5 rfl) ?_
        refine lv_if_le (tgt := 41) hx hb dX6_childrenAreReached_25 (by decide) (fun c_4 => ?_) (fun c_4 => ?_)
        · refine lv_iload_n hx hb dX6_childrenAreReached_41 rfl (lv_at hl 5 rfl) ?_
          refine lv_iconst (v := 1) hx hb dX6_childrenAreReached_42 (by decide) ?_
          refine lv_iadd hx hb dX6_childrenAreReached_43 ?_
          refine lv_topi (fun z_5 _ => ?_)
          refine lv_aload_n hx hb dX6_childrenAreReached_44 rfl (lv_at hl 3 rfl) ?_
          obtain ⟨k9, hk9⟩ := pool_at (G := G) (cI := cI) (S := S) [(hd, .inr (0, [.int (nI w), .int (nI b), .int wr, .ref qc, .ref qi, .int wa, .int wc])), (l1, .inl (cI, b, .inl v1)), (l2, .inl (cJ, b, .inr (.inl v2))), (hs, .inr (6, [.ref hd, .ref hf, .ref hm, .ref l1, .ref l2, .ref l3, .int (nI sv9), .long rv9, .int s3, .long s4])), (l3, .inl (cJ, b, .inr (.inl v3)))] hm_a0
          refine va_get (D := (dC, dI)) (ci := 4) (v := .int (nI (S a0).2.1)) (C := RX4) (T := TX4) (N := 4) hx hb hts k_1 hown hK hP k9 hk9 rfl 1 (by decide) k_2 (fun _ h9 => h9) rfl dX6_childrenAreReached_45 ?_
          refine lv_icmp_ge (tgt := 66) hx hb dX6_childrenAreReached_48 (by decide) (fun c_6 => ?_) (fun c_6 => ?_)
          · refine lv_aload_n hx hb dX6_childrenAreReached_66 rfl (lv_at hl 2 rfl) ?_
            refine lv_aload_n hx hb dX6_childrenAreReached_67 rfl (lv_at hl 3 rfl) ?_
            refine lv_iload_n hx hb dX6_childrenAreReached_68 rfl (lv_at hl 5 rfl) ?_
            have hz1_a0 := (hI a0 hm_a0).1
            have hz2_a0 := (hI a0 hm_a0).2.1
            have hz3_a0 := (hI a0 hm_a0).2.2
            have hT9 := in1 hm_a0
            have hPc : va_P (dC, dI) vwCl [(a0, .inr (4, [.int (S a0).1, .int (nI (S a0).2.1), .ref (G a0).1, .ref (G a0).2.1])), ((G a0).1, .inl (cI, (G a0).2.2.1, .inl (S a0).2.2.1)), ((G a0).2.1, .inl (cI, (G a0).2.2.1, .inl (S a0).2.2.2))] H := pool_cut (T := [a0]) (cx := []) hP hT9 [] rfl
            have hDc : va_D A [(a0, .inr (4, [.int (S a0).1, .int (nI (S a0).2.1), .ref (G a0).1, .ref (G a0).2.1])), ((G a0).1, .inl (cI, (G a0).2.2.1, .inl (S a0).2.2.1)), ((G a0).2.1, .inl (cI, (G a0).2.2.1, .inl (S a0).2.2.2))] := pool_cutD (T := [a0]) (cx := []) hD hT9 (nd1) [] (by decide) rfl
            have hFc : ∀ q, va_A [(a0, .inr (4, [.int (S a0).1, .int (nI (S a0).2.1), .ref (G a0).1, .ref (G a0).2.1])), ((G a0).1, .inl (cI, (G a0).2.2.1, .inl (S a0).2.2.1)), ((G a0).2.1, .inl (cI, (G a0).2.2.1, .inl (S a0).2.2.2))] (H).size q → A q := pool_free (T := [a0]) (cx := []) hD hS hA hT9 [] rfl
            have hKc := hK.sub (tys' := [(cI, .int), (cI, .int)]) [0, 0] rfl
            refine va_calli (va_runV (As := [.int (nI i)]) (rest := [.ref hs]) ⟨hx, hb, hml, hown, hts⟩ (c_X4_refAt l dC dI H.size a0 (G a0).1 (G a0).2.1 (G a0).2.2.1 (S a0).2.1 (S a0).1 cI cI (S a0).2.2.1 (S a0).2.2.2 (nI i) (by first | assumption | omega | decide) (by first | assumption | omega | decide)) (cwV 1 hts g_X6_childrenAreReached_X4_refAt rfl rfl rfl (by decide +kernel) ⟨Nat.le_of_ble_eq_true rfl, Nat.le_of_ble_eq_true rfl⟩) ⟨fun a U g mk q => by obtain ⟨q0, q1, qP, qK, qD⟩ := q; exact ⟨q0, q1, qP, va_K.moved (u := U) (U := U.calling g mk a) (Vm.Alike.refl U.vm) qK, qD⟩, va_recv hKc hPc (ci := 4) (q0 := 0) rfl rfl, fun U hU hW => ⟨rfl, by rw [hU], by rw [hU]; exact hPc, va_K.moved hW.alike hKc, hDc.weaken (fun _ _ _ _ => trivial)⟩⟩ rfl rfl hl.1 rfl (lv_room (Nat.le_of_ble_eq_true rfl)) dX6_childrenAreReached_69 ⟨(show 0 + 0 ≤ 0 by omega), (show 0 + 0 ≤ 0 by omega)⟩) hS (fun q _ h => hFc q h) hFc (fun r_7 u t H1 locs ht hvm hw hB hz1 hk1 hS => ?_)
            obtain ⟨hP1, hK1, hD1⟩ := hB
            rw [ht] at hP1
            have hK1 := va_K.moved hvm.symm hK1
            try dsimp only at hw
            obtain ⟨hP, hD⟩ := pool_join (S := S) (S1 := S) (T := [a0]) (cx := []) (wr := [(hd, .inr (0, [.int (nI w), .int (nI b), .int wr, .ref qc, .ref qi, .int wa, .int wc])), (l1, .inl (cI, b, .inl v1)), (l2, .inl (cJ, b, .inr (.inl v2))), (hs, .inr (6, [.ref hd, .ref hf, .ref hm, .ref l1, .ref l2, .ref l3, .int (nI sv9), .long rv9, .int s3, .long s4])), (l3, .inl (cJ, b, .inr (.inl v3)))]) (rx := []) hP hD hT9 [] [0, 1, 2, 3, 4] rfl rfl (by decide) (by decide) hk1 hFc hP1 hD1
            rw [pgJ_same] at hP hD
            have hK := (hK.sub (tys' := [(cI, .int), (cJ, .long)]) [0, 1] rfl).app hK1
            have hK : va_K (dC, dI) vwCl [(cI, .int), (cJ, .long)] s := hK.sub [0, 1] rfl
            generalize H1 = H at hP hS ⊢
            have hP : va_P (dC, dI) vwCl ([(hd, .inr (0, [.int (nI w), .int (nI b), .int wr, .ref qc, .ref qi, .int wa, .int wc])), (l1, .inl (cI, b, .inl v1)), (l2, .inl (cJ, b, .inr (.inl v2))), (hs, .inr (6, [.ref hd, .ref hf, .ref hm, .ref l1, .ref l2, .ref l3, .int (nI sv9), .long rv9, .int s3, .long s4])), (l3, .inl (cJ, b, .inr (.inl v3)))] ++ pool G cI Pg S) H := hP
            have hD : va_D A ([(hd, .inr (0, [.int (nI w), .int (nI b), .int wr, .ref qc, .ref qi, .int wa, .int wc])), (l1, .inl (cI, b, .inl v1)), (l2, .inl (cJ, b, .inr (.inl v2))), (hs, .inr (6, [.ref hd, .ref hf, .ref hm, .ref l1, .ref l2, .ref l3, .int (nI sv9), .long rv9, .int s3, .long s4])), (l3, .inl (cJ, b, .inr (.inl v3)))] ++ pool G cI Pg S) := hD
            have hK : va_K (dC, dI) vwCl [(cI, .int), (cJ, .long)] s := hK
            have hw_r_7 := hw
            refine lv_lload hx hb dX6_childrenAreReached_72 (lv_at hl 1 rfl) ?_
            refine lv_lload hx hb dX6_childrenAreReached_74 (lv_at hl 0 rfl) ?_
            have hPc := hP.sub (ws' := [(hs, .inr (6, [.ref hd, .ref hf, .ref hm, .ref l1, .ref l2, .ref l3, .int (nI sv9), .long rv9, .int s3, .long s4])), (hd, .inr (0, [.int (nI w), .int (nI b), .int wr, .ref qc, .ref qi, .int wa, .int wc])), (l1, .inl (cI, b, .inl v1)), (l2, .inl (cJ, b, .inr (.inl v2))), (l3, .inl (cJ, b, .inr (.inl v3)))]) [3, 0, 1, 2, 4] rfl
            have hDc := hD.sub (ws' := [(hs, .inr (6, [.ref hd, .ref hf, .ref hm, .ref l1, .ref l2, .ref l3, .int (nI sv9), .long rv9, .int s3, .long s4])), (hd, .inr (0, [.int (nI w), .int (nI b), .int wr, .ref qc, .ref qi, .int wa, .int wc])), (l1, .inl (cI, b, .inl v1)), (l2, .inl (cJ, b, .inr (.inl v2))), (l3, .inl (cJ, b, .inr (.inl v3)))]) [3, 0, 1, 2, 4] (by decide) rfl
            have hKc := hK.sub (tys' := [(cI, .int), (cJ, .long)]) [0, 1] rfl
            have hFc := va_free (wc := [(hs, .inr (6, [.ref hd, .ref hf, .ref hm, .ref l1, .ref l2, .ref l3, .int (nI sv9), .long rv9, .int s3, .long s4])), (hd, .inr (0, [.int (nI w), .int (nI b), .int wr, .ref qc, .ref qi, .int wa, .int wc])), (l1, .inl (cI, b, .inl v1)), (l2, .inl (cJ, b, .inr (.inl v2))), (l3, .inl (cJ, b, .inr (.inl v3)))]) hD hS hA [3, 0, 1, 2, 4] rfl
            refine va_calli (va_runV (As := [.int r_7, .long r_2, .long r_3]) (rest := []) ⟨hx, hb, hml, hown, hts⟩ (c_X6_reach l dC dI H.size hs hd hf hm l1 l2 l3 sv9 rv9 s4 s3 w b qc qi wr wa wc r_7 r_2 r_3 cI cJ v1 v2 v3 (by first | assumption | omega | decide) (by first | assumption | omega | decide)) (cwV 3 hts g_X6_childrenAreReached_X6_reach rfl rfl rfl (by decide +kernel) ⟨Nat.le_of_ble_eq_true rfl, Nat.le_of_ble_eq_true rfl⟩) ⟨fun a U g mk q => by obtain ⟨q0, q1, qP, qK, qD, qX0, qX1⟩ := q; exact ⟨q0, q1, qP, va_K.moved (u := U) (U := U.calling g mk a) (Vm.Alike.refl U.vm) qK, qD, va_Nw.same (u := U) (U := U.calling g mk a) rfl rfl qX0, va_Nw.same (u := U) (U := U.calling g mk a) rfl rfl qX1⟩, va_recv hKc hPc (ci := 6) (q0 := 0) rfl rfl, fun U hU hW => ⟨rfl, by rw [hU], by rw [hU]; exact hPc, va_K.moved hW.alike hKc, hDc.weaken (fun _ _ _ _ => trivial), va_Nw.warmM hW hNX6_144, va_Nw.warmM hW hNX6_148⟩⟩ rfl rfl hl.1 rfl (lv_room (Nat.le_of_ble_eq_true rfl)) dX6_childrenAreReached_76 ⟨(show 0 + 0 ≤ 0 by omega), (show 0 + 0 ≤ 0 by omega)⟩) hS (fun q _ h => hFc q h) hFc (fun r_8 u t H1 locs ht hvm hw hB hz1 hk1 hS => ?_)
            obtain ⟨sl2_9, r2_10, k1_11, k2_12, k3_13⟩ := u
            obtain ⟨hP1, hK1, hD1⟩ := hB
            rw [ht] at hP1
            have hK1 := va_K.moved hvm.symm hK1
            try dsimp only at hw
            obtain ⟨hP, hD⟩ := va_joinQ (wr := []) (w1 := [(hs, .inr (6, [.ref hd, .ref hf, .ref hm, .ref l1, .ref l2, .ref l3, .int (nI sl2_9), .long r2_10, .int s3, .long s4])), (hd, .inr (0, [.int (nI w), .int (nI b), .int wr, .ref qc, .ref qi, .int wa, .int wc])), (l1, .inl (cI, b, .inl k1_11)), (l2, .inl (cJ, b, .inr (.inl k2_12))), (l3, .inl (cJ, b, .inr (.inl k3_13)))]) hP hD [3, 0, 1, 2, 4] [] rfl rfl (by decide) (by decide) hk1 hFc hP1 hD1
            have hK := (hK.sub (tys' := [(cI, .int), (cJ, .long)]) [0, 1] rfl).app hK1
            have hK : va_K (dC, dI) vwCl [(cI, .int), (cJ, .long)] s := hK.sub [0, 1] rfl
            generalize H1 = H at hP hS ⊢
            have hP : va_P (dC, dI) vwCl ([(hs, .inr (6, [.ref hd, .ref hf, .ref hm, .ref l1, .ref l2, .ref l3, .int (nI sl2_9), .long r2_10, .int s3, .long s4])), (hd, .inr (0, [.int (nI w), .int (nI b), .int wr, .ref qc, .ref qi, .int wa, .int wc])), (l1, .inl (cI, b, .inl k1_11)), (l2, .inl (cJ, b, .inr (.inl k2_12))), (l3, .inl (cJ, b, .inr (.inl k3_13)))] ++ pool G cI Pg S) H := hP
            have hD : va_D A ([(hs, .inr (6, [.ref hd, .ref hf, .ref hm, .ref l1, .ref l2, .ref l3, .int (nI sl2_9), .long r2_10, .int s3, .long s4])), (hd, .inr (0, [.int (nI w), .int (nI b), .int wr, .ref qc, .ref qi, .int wa, .int wc])), (l1, .inl (cI, b, .inl k1_11)), (l2, .inl (cJ, b, .inr (.inl k2_12))), (l3, .inl (cJ, b, .inr (.inl k3_13)))] ++ pool G cI Pg S) := hD
            have hK : va_K (dC, dI) vwCl [(cI, .int), (cJ, .long)] s := hK
            have hw_r_8 := hw
            refine lv_if_ne (tgt := 84) hx hb dX6_childrenAreReached_79 (by decide) (fun c_14 => ?_) (fun c_14 => ?_)
            · refine lv_iinc (v := (nI (i + 1))) (lv' := [(3, .int (nI (i + 1))), (6, .long r_3), (4, .long r_2), (0, .ref hs), (1, .ref a0), (2, .int p1)]) hx hb dX6_childrenAreReached_84 hl (k := 5) rfl (nI_1 i) (by decide) rfl (fun ls hl => ?_)
              refine lv_goto (tgt := 2) hx hb dX6_childrenAreReached_87 (by decide) ?_
              exact ih_2 (i + 1) sl2_9 r2_10 k1_11 k2_12 k3_13 _ _ _ (by omega) (by omega) (by omega) (by omega) hP hD hS (lv_sub hl [3, 4, 5, 0] rfl)
            · refine lv_iconst (v := 0) hx hb dX6_childrenAreReached_82 (by decide) ?_
              have hP9 := hP.part (cx := [(hs, .inr (6, [.ref hd, .ref hf, .ref hm, .ref l1, .ref l2, .ref l3, .int (nI sl2_9), .long r2_10, .int s3, .long s4])), (hd, .inr (0, [.int (nI w), .int (nI b), .int wr, .ref qc, .ref qi, .int wa, .int wc])), (l1, .inl (cI, b, .inl k1_11)), (l2, .inl (cJ, b, .inr (.inl k2_12))), (l3, .inl (cJ, b, .inr (.inl k3_13)))]) [0, 1, 2, 3, 4] rfl
              have hD9 := hD.part (cx := [(hs, .inr (6, [.ref hd, .ref hf, .ref hm, .ref l1, .ref l2, .ref l3, .int (nI sl2_9), .long r2_10, .int s3, .long s4])), (hd, .inr (0, [.int (nI w), .int (nI b), .int wr, .ref qc, .ref qi, .int wa, .int wc])), (l1, .inl (cI, b, .inl k1_11)), (l2, .inl (cJ, b, .inr (.inl k2_12))), (l3, .inl (cJ, b, .inr (.inl k3_13)))]) [0, 1, 2, 3, 4] (by decide) rfl
              have hK9 := hK.sub (tys' := [(cI, .int), (cJ, .long)]) [0, 1] rfl
              exact W.zret (v := 0) hx hb hr rfl (fun t ht hW => ⟨⟨0, (sl2_9, r2_10, k1_11, k2_12, k3_13), rfl, ⟨Or.inl rfl, by omega, by omega⟩, by rw [ht]; exact hP9, va_K.moved hW.alike hK9, hD9⟩, hS.F ht⟩) hS.2.2 dX6_childrenAreReached_83
          · refine lv_lload hx hb dX6_childrenAreReached_51 (lv_at hl 0 rfl) ?_
            refine lv_aload_n hx hb dX6_childrenAreReached_53 rfl (lv_at hl 3 rfl) ?_
            refine lv_iload_n hx hb dX6_childrenAreReached_54 rfl (lv_at hl 5 rfl) ?_
            refine lv_iconst (v := 1) hx hb dX6_childrenAreReached_55 (by decide) ?_
            refine lv_iadd hx hb dX6_childrenAreReached_56 ?_
            refine lv_topi (fun z_15 _ => ?_)
            have hz1_a0 := (hI a0 hm_a0).1
            have hz2_a0 := (hI a0 hm_a0).2.1
            have hz3_a0 := (hI a0 hm_a0).2.2
            have hT9 := in1 hm_a0
            have hPc : va_P (dC, dI) vwCl [(a0, .inr (4, [.int (S a0).1, .int (nI (S a0).2.1), .ref (G a0).1, .ref (G a0).2.1])), ((G a0).1, .inl (cI, (G a0).2.2.1, .inl (S a0).2.2.1)), ((G a0).2.1, .inl (cI, (G a0).2.2.1, .inl (S a0).2.2.2))] H := pool_cut (T := [a0]) (cx := []) hP hT9 [] rfl
            have hDc : va_D A [(a0, .inr (4, [.int (S a0).1, .int (nI (S a0).2.1), .ref (G a0).1, .ref (G a0).2.1])), ((G a0).1, .inl (cI, (G a0).2.2.1, .inl (S a0).2.2.1)), ((G a0).2.1, .inl (cI, (G a0).2.2.1, .inl (S a0).2.2.2))] := pool_cutD (T := [a0]) (cx := []) hD hT9 (nd1) [] (by decide) rfl
            have hFc : ∀ q, va_A [(a0, .inr (4, [.int (S a0).1, .int (nI (S a0).2.1), .ref (G a0).1, .ref (G a0).2.1])), ((G a0).1, .inl (cI, (G a0).2.2.1, .inl (S a0).2.2.1)), ((G a0).2.1, .inl (cI, (G a0).2.2.1, .inl (S a0).2.2.2))] (H).size q → A q := pool_free (T := [a0]) (cx := []) hD hS hA hT9 [] rfl
            have hKc := hK.sub (tys' := [(cI, .int), (cI, .int)]) [0, 0] rfl
            refine va_calli (va_runV (As := [.int z_15]) (rest := [.long r_3]) ⟨hx, hb, hml, hown, hts⟩ (c_X4_keyAt l dC dI H.size a0 (G a0).1 (G a0).2.1 (G a0).2.2.1 (S a0).2.1 (S a0).1 cI cI (S a0).2.2.1 (S a0).2.2.2 z_15 (by first | assumption | omega | decide) (by first | assumption | omega | decide)) (cwV 1 hts g_X6_childrenAreReached_X4_keyAt rfl rfl rfl (by decide +kernel) ⟨Nat.le_of_ble_eq_true rfl, Nat.le_of_ble_eq_true rfl⟩) ⟨fun a U g mk q => by obtain ⟨q0, q1, qP, qK, qD⟩ := q; exact ⟨q0, q1, qP, va_K.moved (u := U) (U := U.calling g mk a) (Vm.Alike.refl U.vm) qK, qD⟩, va_recv hKc hPc (ci := 4) (q0 := 0) rfl rfl, fun U hU hW => ⟨rfl, by rw [hU], by rw [hU]; exact hPc, va_K.moved hW.alike hKc, hDc.weaken (fun _ _ _ _ => trivial)⟩⟩ rfl rfl hl.1 rfl (lv_room (Nat.le_of_ble_eq_true rfl)) dX6_childrenAreReached_57 ⟨(show 0 + 0 ≤ 0 by omega), (show 0 + 0 ≤ 0 by omega)⟩) hS (fun q _ h => hFc q h) hFc (fun r_16 u t H1 locs ht hvm hw hB hz1 hk1 hS => ?_)
            obtain ⟨hP1, hK1, hD1⟩ := hB
            rw [ht] at hP1
            have hK1 := va_K.moved hvm.symm hK1
            try dsimp only at hw
            obtain ⟨hP, hD⟩ := pool_join (S := S) (S1 := S) (T := [a0]) (cx := []) (wr := [(hd, .inr (0, [.int (nI w), .int (nI b), .int wr, .ref qc, .ref qi, .int wa, .int wc])), (l1, .inl (cI, b, .inl v1)), (l2, .inl (cJ, b, .inr (.inl v2))), (hs, .inr (6, [.ref hd, .ref hf, .ref hm, .ref l1, .ref l2, .ref l3, .int (nI sv9), .long rv9, .int s3, .long s4])), (l3, .inl (cJ, b, .inr (.inl v3)))]) (rx := []) hP hD hT9 [] [0, 1, 2, 3, 4] rfl rfl (by decide) (by decide) hk1 hFc hP1 hD1
            rw [pgJ_same] at hP hD
            have hK := (hK.sub (tys' := [(cI, .int), (cJ, .long)]) [0, 1] rfl).app hK1
            have hK : va_K (dC, dI) vwCl [(cI, .int), (cJ, .long)] s := hK.sub [0, 1] rfl
            generalize H1 = H at hP hS ⊢
            have hP : va_P (dC, dI) vwCl ([(hd, .inr (0, [.int (nI w), .int (nI b), .int wr, .ref qc, .ref qi, .int wa, .int wc])), (l1, .inl (cI, b, .inl v1)), (l2, .inl (cJ, b, .inr (.inl v2))), (hs, .inr (6, [.ref hd, .ref hf, .ref hm, .ref l1, .ref l2, .ref l3, .int (nI sv9), .long rv9, .int s3, .long s4])), (l3, .inl (cJ, b, .inr (.inl v3)))] ++ pool G cI Pg S) H := hP
            have hD : va_D A ([(hd, .inr (0, [.int (nI w), .int (nI b), .int wr, .ref qc, .ref qi, .int wa, .int wc])), (l1, .inl (cI, b, .inl v1)), (l2, .inl (cJ, b, .inr (.inl v2))), (hs, .inr (6, [.ref hd, .ref hf, .ref hm, .ref l1, .ref l2, .ref l3, .int (nI sv9), .long rv9, .int s3, .long s4])), (l3, .inl (cJ, b, .inr (.inl v3)))] ++ pool G cI Pg S) := hD
            have hK : va_K (dC, dI) vwCl [(cI, .int), (cJ, .long)] s := hK
            have hw_r_16 := hw
            refine lv_i2l hx hb dX6_childrenAreReached_60 rfl ?_
            refine lv_topl (fun z_17 _ => ?_)
            refine va_mmin_long hx hb (by rw [hml]; exact hl.1.symm) hown k_4 k_5 k_6 k_3 (Nat.le_of_ble_eq_true rfl) (Nat.le_of_ble_eq_true rfl) (show 0 ≤ 0 by omega) (show 0 ≤ 0 by omega) dX6_childrenAreReached_61 ?_
            refine lv_topl (fun z_18 _ => ?_)
            refine lv_lstore (lv' := [(6, .long z_18), (4, .long r_2), (0, .ref hs), (1, .ref a0), (2, .int p1), (3, .int (nI i))]) hx hb dX6_childrenAreReached_64 hl (by decide) rfl (fun ls hl => ?_)
            refine lv_aload_n hx hb dX6_childrenAreReached_66 rfl (lv_at hl 2 rfl) ?_
            refine lv_aload_n hx hb dX6_childrenAreReached_67 rfl (lv_at hl 3 rfl) ?_
            refine lv_iload_n hx hb dX6_childrenAreReached_68 rfl (lv_at hl 5 rfl) ?_
            have hz1_a0 := (hI a0 hm_a0).1
            have hz2_a0 := (hI a0 hm_a0).2.1
            have hz3_a0 := (hI a0 hm_a0).2.2
            have hT9 := in1 hm_a0
            have hPc : va_P (dC, dI) vwCl [(a0, .inr (4, [.int (S a0).1, .int (nI (S a0).2.1), .ref (G a0).1, .ref (G a0).2.1])), ((G a0).1, .inl (cI, (G a0).2.2.1, .inl (S a0).2.2.1)), ((G a0).2.1, .inl (cI, (G a0).2.2.1, .inl (S a0).2.2.2))] H := pool_cut (T := [a0]) (cx := []) hP hT9 [] rfl
            have hDc : va_D A [(a0, .inr (4, [.int (S a0).1, .int (nI (S a0).2.1), .ref (G a0).1, .ref (G a0).2.1])), ((G a0).1, .inl (cI, (G a0).2.2.1, .inl (S a0).2.2.1)), ((G a0).2.1, .inl (cI, (G a0).2.2.1, .inl (S a0).2.2.2))] := pool_cutD (T := [a0]) (cx := []) hD hT9 (nd1) [] (by decide) rfl
            have hFc : ∀ q, va_A [(a0, .inr (4, [.int (S a0).1, .int (nI (S a0).2.1), .ref (G a0).1, .ref (G a0).2.1])), ((G a0).1, .inl (cI, (G a0).2.2.1, .inl (S a0).2.2.1)), ((G a0).2.1, .inl (cI, (G a0).2.2.1, .inl (S a0).2.2.2))] (H).size q → A q := pool_free (T := [a0]) (cx := []) hD hS hA hT9 [] rfl
            have hKc := hK.sub (tys' := [(cI, .int), (cI, .int)]) [0, 0] rfl
            refine va_calli (va_runV (As := [.int (nI i)]) (rest := [.ref hs]) ⟨hx, hb, hml, hown, hts⟩ (c_X4_refAt l dC dI H.size a0 (G a0).1 (G a0).2.1 (G a0).2.2.1 (S a0).2.1 (S a0).1 cI cI (S a0).2.2.1 (S a0).2.2.2 (nI i) (by first | assumption | omega | decide) (by first | assumption | omega | decide)) (cwV 1 hts g_X6_childrenAreReached_X4_refAt rfl rfl rfl (by decide +kernel) ⟨Nat.le_of_ble_eq_true rfl, Nat.le_of_ble_eq_true rfl⟩) ⟨fun a U g mk q => by obtain ⟨q0, q1, qP, qK, qD⟩ := q; exact ⟨q0, q1, qP, va_K.moved (u := U) (U := U.calling g mk a) (Vm.Alike.refl U.vm) qK, qD⟩, va_recv hKc hPc (ci := 4) (q0 := 0) rfl rfl, fun U hU hW => ⟨rfl, by rw [hU], by rw [hU]; exact hPc, va_K.moved hW.alike hKc, hDc.weaken (fun _ _ _ _ => trivial)⟩⟩ rfl rfl hl.1 rfl (lv_room (Nat.le_of_ble_eq_true rfl)) dX6_childrenAreReached_69 ⟨(show 0 + 0 ≤ 0 by omega), (show 0 + 0 ≤ 0 by omega)⟩) hS (fun q _ h => hFc q h) hFc (fun r_19 u t H1 locs ht hvm hw hB hz1 hk1 hS => ?_)
            obtain ⟨hP1, hK1, hD1⟩ := hB
            rw [ht] at hP1
            have hK1 := va_K.moved hvm.symm hK1
            try dsimp only at hw
            obtain ⟨hP, hD⟩ := pool_join (S := S) (S1 := S) (T := [a0]) (cx := []) (wr := [(hd, .inr (0, [.int (nI w), .int (nI b), .int wr, .ref qc, .ref qi, .int wa, .int wc])), (l1, .inl (cI, b, .inl v1)), (l2, .inl (cJ, b, .inr (.inl v2))), (hs, .inr (6, [.ref hd, .ref hf, .ref hm, .ref l1, .ref l2, .ref l3, .int (nI sv9), .long rv9, .int s3, .long s4])), (l3, .inl (cJ, b, .inr (.inl v3)))]) (rx := []) hP hD hT9 [] [0, 1, 2, 3, 4] rfl rfl (by decide) (by decide) hk1 hFc hP1 hD1
            rw [pgJ_same] at hP hD
            have hK := (hK.sub (tys' := [(cI, .int), (cJ, .long)]) [0, 1] rfl).app hK1
            have hK : va_K (dC, dI) vwCl [(cI, .int), (cJ, .long)] s := hK.sub [0, 1] rfl
            generalize H1 = H at hP hS ⊢
            have hP : va_P (dC, dI) vwCl ([(hd, .inr (0, [.int (nI w), .int (nI b), .int wr, .ref qc, .ref qi, .int wa, .int wc])), (l1, .inl (cI, b, .inl v1)), (l2, .inl (cJ, b, .inr (.inl v2))), (hs, .inr (6, [.ref hd, .ref hf, .ref hm, .ref l1, .ref l2, .ref l3, .int (nI sv9), .long rv9, .int s3, .long s4])), (l3, .inl (cJ, b, .inr (.inl v3)))] ++ pool G cI Pg S) H := hP
            have hD : va_D A ([(hd, .inr (0, [.int (nI w), .int (nI b), .int wr, .ref qc, .ref qi, .int wa, .int wc])), (l1, .inl (cI, b, .inl v1)), (l2, .inl (cJ, b, .inr (.inl v2))), (hs, .inr (6, [.ref hd, .ref hf, .ref hm, .ref l1, .ref l2, .ref l3, .int (nI sv9), .long rv9, .int s3, .long s4])), (l3, .inl (cJ, b, .inr (.inl v3)))] ++ pool G cI Pg S) := hD
            have hK : va_K (dC, dI) vwCl [(cI, .int), (cJ, .long)] s := hK
            have hw_r_19 := hw
            refine lv_lload hx hb dX6_childrenAreReached_72 (lv_at hl 1 rfl) ?_
            refine lv_lload hx hb dX6_childrenAreReached_74 (lv_at hl 0 rfl) ?_
            have hPc := hP.sub (ws' := [(hs, .inr (6, [.ref hd, .ref hf, .ref hm, .ref l1, .ref l2, .ref l3, .int (nI sv9), .long rv9, .int s3, .long s4])), (hd, .inr (0, [.int (nI w), .int (nI b), .int wr, .ref qc, .ref qi, .int wa, .int wc])), (l1, .inl (cI, b, .inl v1)), (l2, .inl (cJ, b, .inr (.inl v2))), (l3, .inl (cJ, b, .inr (.inl v3)))]) [3, 0, 1, 2, 4] rfl
            have hDc := hD.sub (ws' := [(hs, .inr (6, [.ref hd, .ref hf, .ref hm, .ref l1, .ref l2, .ref l3, .int (nI sv9), .long rv9, .int s3, .long s4])), (hd, .inr (0, [.int (nI w), .int (nI b), .int wr, .ref qc, .ref qi, .int wa, .int wc])), (l1, .inl (cI, b, .inl v1)), (l2, .inl (cJ, b, .inr (.inl v2))), (l3, .inl (cJ, b, .inr (.inl v3)))]) [3, 0, 1, 2, 4] (by decide) rfl
            have hKc := hK.sub (tys' := [(cI, .int), (cJ, .long)]) [0, 1] rfl
            have hFc := va_free (wc := [(hs, .inr (6, [.ref hd, .ref hf, .ref hm, .ref l1, .ref l2, .ref l3, .int (nI sv9), .long rv9, .int s3, .long s4])), (hd, .inr (0, [.int (nI w), .int (nI b), .int wr, .ref qc, .ref qi, .int wa, .int wc])), (l1, .inl (cI, b, .inl v1)), (l2, .inl (cJ, b, .inr (.inl v2))), (l3, .inl (cJ, b, .inr (.inl v3)))]) hD hS hA [3, 0, 1, 2, 4] rfl
            refine va_calli (va_runV (As := [.int r_19, .long r_2, .long z_18]) (rest := []) ⟨hx, hb, hml, hown, hts⟩ (c_X6_reach l dC dI H.size hs hd hf hm l1 l2 l3 sv9 rv9 s4 s3 w b qc qi wr wa wc r_19 r_2 z_18 cI cJ v1 v2 v3 (by first | assumption | omega | decide) (by first | assumption | omega | decide)) (cwV 3 hts g_X6_childrenAreReached_X6_reach rfl rfl rfl (by decide +kernel) ⟨Nat.le_of_ble_eq_true rfl, Nat.le_of_ble_eq_true rfl⟩) ⟨fun a U g mk q => by obtain ⟨q0, q1, qP, qK, qD, qX0, qX1⟩ := q; exact ⟨q0, q1, qP, va_K.moved (u := U) (U := U.calling g mk a) (Vm.Alike.refl U.vm) qK, qD, va_Nw.same (u := U) (U := U.calling g mk a) rfl rfl qX0, va_Nw.same (u := U) (U := U.calling g mk a) rfl rfl qX1⟩, va_recv hKc hPc (ci := 6) (q0 := 0) rfl rfl, fun U hU hW => ⟨rfl, by rw [hU], by rw [hU]; exact hPc, va_K.moved hW.alike hKc, hDc.weaken (fun _ _ _ _ => trivial), va_Nw.warmM hW hNX6_144, va_Nw.warmM hW hNX6_148⟩⟩ rfl rfl hl.1 rfl (lv_room (Nat.le_of_ble_eq_true rfl)) dX6_childrenAreReached_76 ⟨(show 0 + 0 ≤ 0 by omega), (show 0 + 0 ≤ 0 by omega)⟩) hS (fun q _ h => hFc q h) hFc (fun r_20 u t H1 locs ht hvm hw hB hz1 hk1 hS => ?_)
            obtain ⟨sl2_21, r2_22, k1_23, k2_24, k3_25⟩ := u
            obtain ⟨hP1, hK1, hD1⟩ := hB
            rw [ht] at hP1
            have hK1 := va_K.moved hvm.symm hK1
            try dsimp only at hw
            obtain ⟨hP, hD⟩ := va_joinQ (wr := []) (w1 := [(hs, .inr (6, [.ref hd, .ref hf, .ref hm, .ref l1, .ref l2, .ref l3, .int (nI sl2_21), .long r2_22, .int s3, .long s4])), (hd, .inr (0, [.int (nI w), .int (nI b), .int wr, .ref qc, .ref qi, .int wa, .int wc])), (l1, .inl (cI, b, .inl k1_23)), (l2, .inl (cJ, b, .inr (.inl k2_24))), (l3, .inl (cJ, b, .inr (.inl k3_25)))]) hP hD [3, 0, 1, 2, 4] [] rfl rfl (by decide) (by decide) hk1 hFc hP1 hD1
            have hK := (hK.sub (tys' := [(cI, .int), (cJ, .long)]) [0, 1] rfl).app hK1
            have hK : va_K (dC, dI) vwCl [(cI, .int), (cJ, .long)] s := hK.sub [0, 1] rfl
            generalize H1 = H at hP hS ⊢
            have hP : va_P (dC, dI) vwCl ([(hs, .inr (6, [.ref hd, .ref hf, .ref hm, .ref l1, .ref l2, .ref l3, .int (nI sl2_21), .long r2_22, .int s3, .long s4])), (hd, .inr (0, [.int (nI w), .int (nI b), .int wr, .ref qc, .ref qi, .int wa, .int wc])), (l1, .inl (cI, b, .inl k1_23)), (l2, .inl (cJ, b, .inr (.inl k2_24))), (l3, .inl (cJ, b, .inr (.inl k3_25)))] ++ pool G cI Pg S) H := hP
            have hD : va_D A ([(hs, .inr (6, [.ref hd, .ref hf, .ref hm, .ref l1, .ref l2, .ref l3, .int (nI sl2_21), .long r2_22, .int s3, .long s4])), (hd, .inr (0, [.int (nI w), .int (nI b), .int wr, .ref qc, .ref qi, .int wa, .int wc])), (l1, .inl (cI, b, .inl k1_23)), (l2, .inl (cJ, b, .inr (.inl k2_24))), (l3, .inl (cJ, b, .inr (.inl k3_25)))] ++ pool G cI Pg S) := hD
            have hK : va_K (dC, dI) vwCl [(cI, .int), (cJ, .long)] s := hK
            have hw_r_20 := hw
            refine lv_if_ne (tgt := 84) hx hb dX6_childrenAreReached_79 (by decide) (fun c_26 => ?_) (fun c_26 => ?_)
            · refine lv_iinc (v := (nI (i + 1))) (lv' := [(3, .int (nI (i + 1))), (6, .long z_18), (4, .long r_2), (0, .ref hs), (1, .ref a0), (2, .int p1)]) hx hb dX6_childrenAreReached_84 hl (k := 5) rfl (nI_1 i) (by decide) rfl (fun ls hl => ?_)
              refine lv_goto (tgt := 2) hx hb dX6_childrenAreReached_87 (by decide) ?_
              exact ih_2 (i + 1) sl2_21 r2_22 k1_23 k2_24 k3_25 _ _ _ (by omega) (by omega) (by omega) (by omega) hP hD hS (lv_sub hl [3, 4, 5, 0] rfl)
            · refine lv_iconst (v := 0) hx hb dX6_childrenAreReached_82 (by decide) ?_
              have hP9 := hP.part (cx := [(hs, .inr (6, [.ref hd, .ref hf, .ref hm, .ref l1, .ref l2, .ref l3, .int (nI sl2_21), .long r2_22, .int s3, .long s4])), (hd, .inr (0, [.int (nI w), .int (nI b), .int wr, .ref qc, .ref qi, .int wa, .int wc])), (l1, .inl (cI, b, .inl k1_23)), (l2, .inl (cJ, b, .inr (.inl k2_24))), (l3, .inl (cJ, b, .inr (.inl k3_25)))]) [0, 1, 2, 3, 4] rfl
              have hD9 := hD.part (cx := [(hs, .inr (6, [.ref hd, .ref hf, .ref hm, .ref l1, .ref l2, .ref l3, .int (nI sl2_21), .long r2_22, .int s3, .long s4])), (hd, .inr (0, [.int (nI w), .int (nI b), .int wr, .ref qc, .ref qi, .int wa, .int wc])), (l1, .inl (cI, b, .inl k1_23)), (l2, .inl (cJ, b, .inr (.inl k2_24))), (l3, .inl (cJ, b, .inr (.inl k3_25)))]) [0, 1, 2, 3, 4] (by decide) rfl
              have hK9 := hK.sub (tys' := [(cI, .int), (cJ, .long)]) [0, 1] rfl
              exact W.zret (v := 0) hx hb hr rfl (fun t ht hW => ⟨⟨0, (sl2_21, r2_22, k1_23, k2_24, k3_25), rfl, ⟨Or.inl rfl, by omega, by omega⟩, by rw [ht]; exact hP9, va_K.moved hW.alike hK9, hD9⟩, hS.F ht⟩) hS.2.2 dX6_childrenAreReached_83
        · refine lv_lload hx hb dX6_childrenAreReached_28 (lv_at hl 1 rfl) ?_
          refine lv_aload_n hx hb dX6_childrenAreReached_30 rfl (lv_at hl 3 rfl) ?_
          refine lv_iload_n hx hb dX6_childrenAreReached_31 rfl (lv_at hl 5 rfl) ?_
          have hz1_a0 := (hI a0 hm_a0).1
          have hz2_a0 := (hI a0 hm_a0).2.1
          have hz3_a0 := (hI a0 hm_a0).2.2
          have hT9 := in1 hm_a0
          have hPc : va_P (dC, dI) vwCl [(a0, .inr (4, [.int (S a0).1, .int (nI (S a0).2.1), .ref (G a0).1, .ref (G a0).2.1])), ((G a0).1, .inl (cI, (G a0).2.2.1, .inl (S a0).2.2.1)), ((G a0).2.1, .inl (cI, (G a0).2.2.1, .inl (S a0).2.2.2))] H := pool_cut (T := [a0]) (cx := []) hP hT9 [] rfl
          have hDc : va_D A [(a0, .inr (4, [.int (S a0).1, .int (nI (S a0).2.1), .ref (G a0).1, .ref (G a0).2.1])), ((G a0).1, .inl (cI, (G a0).2.2.1, .inl (S a0).2.2.1)), ((G a0).2.1, .inl (cI, (G a0).2.2.1, .inl (S a0).2.2.2))] := pool_cutD (T := [a0]) (cx := []) hD hT9 (nd1) [] (by decide) rfl
          have hFc : ∀ q, va_A [(a0, .inr (4, [.int (S a0).1, .int (nI (S a0).2.1), .ref (G a0).1, .ref (G a0).2.1])), ((G a0).1, .inl (cI, (G a0).2.2.1, .inl (S a0).2.2.1)), ((G a0).2.1, .inl (cI, (G a0).2.2.1, .inl (S a0).2.2.2))] (H).size q → A q := pool_free (T := [a0]) (cx := []) hD hS hA hT9 [] rfl
          have hKc := hK.sub (tys' := [(cI, .int), (cI, .int)]) [0, 0] rfl
          refine va_calli (va_runV (As := [.int (nI i)]) (rest := [.long r_2]) ⟨hx, hb, hml, hown, hts⟩ (c_X4_keyAt l dC dI H.size a0 (G a0).1 (G a0).2.1 (G a0).2.2.1 (S a0).2.1 (S a0).1 cI cI (S a0).2.2.1 (S a0).2.2.2 (nI i) (by first | assumption | omega | decide) (by first | assumption | omega | decide)) (cwV 1 hts g_X6_childrenAreReached_X4_keyAt rfl rfl rfl (by decide +kernel) ⟨Nat.le_of_ble_eq_true rfl, Nat.le_of_ble_eq_true rfl⟩) ⟨fun a U g mk q => by obtain ⟨q0, q1, qP, qK, qD⟩ := q; exact ⟨q0, q1, qP, va_K.moved (u := U) (U := U.calling g mk a) (Vm.Alike.refl U.vm) qK, qD⟩, va_recv hKc hPc (ci := 4) (q0 := 0) rfl rfl, fun U hU hW => ⟨rfl, by rw [hU], by rw [hU]; exact hPc, va_K.moved hW.alike hKc, hDc.weaken (fun _ _ _ _ => trivial)⟩⟩ rfl rfl hl.1 rfl (lv_room (Nat.le_of_ble_eq_true rfl)) dX6_childrenAreReached_32 ⟨(show 0 + 0 ≤ 0 by omega), (show 0 + 0 ≤ 0 by omega)⟩) hS (fun q _ h => hFc q h) hFc (fun r_27 u t H1 locs ht hvm hw hB hz1 hk1 hS => ?_)
          obtain ⟨hP1, hK1, hD1⟩ := hB
          rw [ht] at hP1
          have hK1 := va_K.moved hvm.symm hK1
          try dsimp only at hw
          obtain ⟨hP, hD⟩ := pool_join (S := S) (S1 := S) (T := [a0]) (cx := []) (wr := [(hd, .inr (0, [.int (nI w), .int (nI b), .int wr, .ref qc, .ref qi, .int wa, .int wc])), (l1, .inl (cI, b, .inl v1)), (l2, .inl (cJ, b, .inr (.inl v2))), (hs, .inr (6, [.ref hd, .ref hf, .ref hm, .ref l1, .ref l2, .ref l3, .int (nI sv9), .long rv9, .int s3, .long s4])), (l3, .inl (cJ, b, .inr (.inl v3)))]) (rx := []) hP hD hT9 [] [0, 1, 2, 3, 4] rfl rfl (by decide) (by decide) hk1 hFc hP1 hD1
          rw [pgJ_same] at hP hD
          have hK := (hK.sub (tys' := [(cI, .int), (cJ, .long)]) [0, 1] rfl).app hK1
          have hK : va_K (dC, dI) vwCl [(cI, .int), (cJ, .long)] s := hK.sub [0, 1] rfl
          generalize H1 = H at hP hS ⊢
          have hP : va_P (dC, dI) vwCl ([(hd, .inr (0, [.int (nI w), .int (nI b), .int wr, .ref qc, .ref qi, .int wa, .int wc])), (l1, .inl (cI, b, .inl v1)), (l2, .inl (cJ, b, .inr (.inl v2))), (hs, .inr (6, [.ref hd, .ref hf, .ref hm, .ref l1, .ref l2, .ref l3, .int (nI sv9), .long rv9, .int s3, .long s4])), (l3, .inl (cJ, b, .inr (.inl v3)))] ++ pool G cI Pg S) H := hP
          have hD : va_D A ([(hd, .inr (0, [.int (nI w), .int (nI b), .int wr, .ref qc, .ref qi, .int wa, .int wc])), (l1, .inl (cI, b, .inl v1)), (l2, .inl (cJ, b, .inr (.inl v2))), (hs, .inr (6, [.ref hd, .ref hf, .ref hm, .ref l1, .ref l2, .ref l3, .int (nI sv9), .long rv9, .int s3, .long s4])), (l3, .inl (cJ, b, .inr (.inl v3)))] ++ pool G cI Pg S) := hD
          have hK : va_K (dC, dI) vwCl [(cI, .int), (cJ, .long)] s := hK
          have hw_r_27 := hw
          refine lv_i2l hx hb dX6_childrenAreReached_35 rfl ?_
          refine lv_topl (fun z_28 _ => ?_)
          refine va_mmax_long hx hb (by rw [hml]; exact hl.1.symm) hown k_8 k_9 k_6 k_7 (Nat.le_of_ble_eq_true rfl) (Nat.le_of_ble_eq_true rfl) (show 0 ≤ 0 by omega) (show 0 ≤ 0 by omega) dX6_childrenAreReached_36 ?_
          refine lv_topl (fun z_29 _ => ?_)
          refine lv_lstore (lv' := [(4, .long z_29), (6, .long r_3), (0, .ref hs), (1, .ref a0), (2, .int p1), (3, .int (nI i))]) hx hb dX6_childrenAreReached_39 hl (by decide) rfl (fun ls hl => ?_)
          refine lv_iload_n hx hb dX6_childrenAreReached_41 rfl (lv_at hl 5 rfl) ?_
          refine lv_iconst (v := 1) hx hb dX6_childrenAreReached_42 (by decide) ?_
          refine lv_iadd hx hb dX6_childrenAreReached_43 ?_
          refine lv_topi (fun z_30 _ => ?_)
          refine lv_aload_n hx hb dX6_childrenAreReached_44 rfl (lv_at hl 3 rfl) ?_
          obtain ⟨k9, hk9⟩ := pool_at (G := G) (cI := cI) (S := S) [(hd, .inr (0, [.int (nI w), .int (nI b), .int wr, .ref qc, .ref qi, .int wa, .int wc])), (l1, .inl (cI, b, .inl v1)), (l2, .inl (cJ, b, .inr (.inl v2))), (hs, .inr (6, [.ref hd, .ref hf, .ref hm, .ref l1, .ref l2, .ref l3, .int (nI sv9), .long rv9, .int s3, .long s4])), (l3, .inl (cJ, b, .inr (.inl v3)))] hm_a0
          refine va_get (D := (dC, dI)) (ci := 4) (v := .int (nI (S a0).2.1)) (C := RX4) (T := TX4) (N := 4) hx hb hts k_1 hown hK hP k9 hk9 rfl 1 (by decide) k_2 (fun _ h9 => h9) rfl dX6_childrenAreReached_45 ?_
          refine lv_icmp_ge (tgt := 66) hx hb dX6_childrenAreReached_48 (by decide) (fun c_31 => ?_) (fun c_31 => ?_)
          · refine lv_aload_n hx hb dX6_childrenAreReached_66 rfl (lv_at hl 2 rfl) ?_
            refine lv_aload_n hx hb dX6_childrenAreReached_67 rfl (lv_at hl 3 rfl) ?_
            refine lv_iload_n hx hb dX6_childrenAreReached_68 rfl (lv_at hl 5 rfl) ?_
            have hz1_a0 := (hI a0 hm_a0).1
            have hz2_a0 := (hI a0 hm_a0).2.1
            have hz3_a0 := (hI a0 hm_a0).2.2
            have hT9 := in1 hm_a0
            have hPc : va_P (dC, dI) vwCl [(a0, .inr (4, [.int (S a0).1, .int (nI (S a0).2.1), .ref (G a0).1, .ref (G a0).2.1])), ((G a0).1, .inl (cI, (G a0).2.2.1, .inl (S a0).2.2.1)), ((G a0).2.1, .inl (cI, (G a0).2.2.1, .inl (S a0).2.2.2))] H := pool_cut (T := [a0]) (cx := []) hP hT9 [] rfl
            have hDc : va_D A [(a0, .inr (4, [.int (S a0).1, .int (nI (S a0).2.1), .ref (G a0).1, .ref (G a0).2.1])), ((G a0).1, .inl (cI, (G a0).2.2.1, .inl (S a0).2.2.1)), ((G a0).2.1, .inl (cI, (G a0).2.2.1, .inl (S a0).2.2.2))] := pool_cutD (T := [a0]) (cx := []) hD hT9 (nd1) [] (by decide) rfl
            have hFc : ∀ q, va_A [(a0, .inr (4, [.int (S a0).1, .int (nI (S a0).2.1), .ref (G a0).1, .ref (G a0).2.1])), ((G a0).1, .inl (cI, (G a0).2.2.1, .inl (S a0).2.2.1)), ((G a0).2.1, .inl (cI, (G a0).2.2.1, .inl (S a0).2.2.2))] (H).size q → A q := pool_free (T := [a0]) (cx := []) hD hS hA hT9 [] rfl
            have hKc := hK.sub (tys' := [(cI, .int), (cI, .int)]) [0, 0] rfl
            refine va_calli (va_runV (As := [.int (nI i)]) (rest := [.ref hs]) ⟨hx, hb, hml, hown, hts⟩ (c_X4_refAt l dC dI H.size a0 (G a0).1 (G a0).2.1 (G a0).2.2.1 (S a0).2.1 (S a0).1 cI cI (S a0).2.2.1 (S a0).2.2.2 (nI i) (by first | assumption | omega | decide) (by first | assumption | omega | decide)) (cwV 1 hts g_X6_childrenAreReached_X4_refAt rfl rfl rfl (by decide +kernel) ⟨Nat.le_of_ble_eq_true rfl, Nat.le_of_ble_eq_true rfl⟩) ⟨fun a U g mk q => by obtain ⟨q0, q1, qP, qK, qD⟩ := q; exact ⟨q0, q1, qP, va_K.moved (u := U) (U := U.calling g mk a) (Vm.Alike.refl U.vm) qK, qD⟩, va_recv hKc hPc (ci := 4) (q0 := 0) rfl rfl, fun U hU hW => ⟨rfl, by rw [hU], by rw [hU]; exact hPc, va_K.moved hW.alike hKc, hDc.weaken (fun _ _ _ _ => trivial)⟩⟩ rfl rfl hl.1 rfl (lv_room (Nat.le_of_ble_eq_true rfl)) dX6_childrenAreReached_69 ⟨(show 0 + 0 ≤ 0 by omega), (show 0 + 0 ≤ 0 by omega)⟩) hS (fun q _ h => hFc q h) hFc (fun r_32 u t H1 locs ht hvm hw hB hz1 hk1 hS => ?_)
            obtain ⟨hP1, hK1, hD1⟩ := hB
            rw [ht] at hP1
            have hK1 := va_K.moved hvm.symm hK1
            try dsimp only at hw
            obtain ⟨hP, hD⟩ := pool_join (S := S) (S1 := S) (T := [a0]) (cx := []) (wr := [(hd, .inr (0, [.int (nI w), .int (nI b), .int wr, .ref qc, .ref qi, .int wa, .int wc])), (l1, .inl (cI, b, .inl v1)), (l2, .inl (cJ, b, .inr (.inl v2))), (hs, .inr (6, [.ref hd, .ref hf, .ref hm, .ref l1, .ref l2, .ref l3, .int (nI sv9), .long rv9, .int s3, .long s4])), (l3, .inl (cJ, b, .inr (.inl v3)))]) (rx := []) hP hD hT9 [] [0, 1, 2, 3, 4] rfl rfl (by decide) (by decide) hk1 hFc hP1 hD1
            rw [pgJ_same] at hP hD
            have hK := (hK.sub (tys' := [(cI, .int), (cJ, .long)]) [0, 1] rfl).app hK1
            have hK : va_K (dC, dI) vwCl [(cI, .int), (cJ, .long)] s := hK.sub [0, 1] rfl
            generalize H1 = H at hP hS ⊢
            have hP : va_P (dC, dI) vwCl ([(hd, .inr (0, [.int (nI w), .int (nI b), .int wr, .ref qc, .ref qi, .int wa, .int wc])), (l1, .inl (cI, b, .inl v1)), (l2, .inl (cJ, b, .inr (.inl v2))), (hs, .inr (6, [.ref hd, .ref hf, .ref hm, .ref l1, .ref l2, .ref l3, .int (nI sv9), .long rv9, .int s3, .long s4])), (l3, .inl (cJ, b, .inr (.inl v3)))] ++ pool G cI Pg S) H := hP
            have hD : va_D A ([(hd, .inr (0, [.int (nI w), .int (nI b), .int wr, .ref qc, .ref qi, .int wa, .int wc])), (l1, .inl (cI, b, .inl v1)), (l2, .inl (cJ, b, .inr (.inl v2))), (hs, .inr (6, [.ref hd, .ref hf, .ref hm, .ref l1, .ref l2, .ref l3, .int (nI sv9), .long rv9, .int s3, .long s4])), (l3, .inl (cJ, b, .inr (.inl v3)))] ++ pool G cI Pg S) := hD
            have hK : va_K (dC, dI) vwCl [(cI, .int), (cJ, .long)] s := hK
            have hw_r_32 := hw
            refine lv_lload hx hb dX6_childrenAreReached_72 (lv_at hl 0 rfl) ?_
            refine lv_lload hx hb dX6_childrenAreReached_74 (lv_at hl 1 rfl) ?_
            have hPc := hP.sub (ws' := [(hs, .inr (6, [.ref hd, .ref hf, .ref hm, .ref l1, .ref l2, .ref l3, .int (nI sv9), .long rv9, .int s3, .long s4])), (hd, .inr (0, [.int (nI w), .int (nI b), .int wr, .ref qc, .ref qi, .int wa, .int wc])), (l1, .inl (cI, b, .inl v1)), (l2, .inl (cJ, b, .inr (.inl v2))), (l3, .inl (cJ, b, .inr (.inl v3)))]) [3, 0, 1, 2, 4] rfl
            have hDc := hD.sub (ws' := [(hs, .inr (6, [.ref hd, .ref hf, .ref hm, .ref l1, .ref l2, .ref l3, .int (nI sv9), .long rv9, .int s3, .long s4])), (hd, .inr (0, [.int (nI w), .int (nI b), .int wr, .ref qc, .ref qi, .int wa, .int wc])), (l1, .inl (cI, b, .inl v1)), (l2, .inl (cJ, b, .inr (.inl v2))), (l3, .inl (cJ, b, .inr (.inl v3)))]) [3, 0, 1, 2, 4] (by decide) rfl
            have hKc := hK.sub (tys' := [(cI, .int), (cJ, .long)]) [0, 1] rfl
            have hFc := va_free (wc := [(hs, .inr (6, [.ref hd, .ref hf, .ref hm, .ref l1, .ref l2, .ref l3, .int (nI sv9), .long rv9, .int s3, .long s4])), (hd, .inr (0, [.int (nI w), .int (nI b), .int wr, .ref qc, .ref qi, .int wa, .int wc])), (l1, .inl (cI, b, .inl v1)), (l2, .inl (cJ, b, .inr (.inl v2))), (l3, .inl (cJ, b, .inr (.inl v3)))]) hD hS hA [3, 0, 1, 2, 4] rfl
            refine va_calli (va_runV (As := [.int r_32, .long z_29, .long r_3]) (rest := []) ⟨hx, hb, hml, hown, hts⟩ (c_X6_reach l dC dI H.size hs hd hf hm l1 l2 l3 sv9 rv9 s4 s3 w b qc qi wr wa wc r_32 z_29 r_3 cI cJ v1 v2 v3 (by first | assumption | omega | decide) (by first | assumption | omega | decide)) (cwV 3 hts g_X6_childrenAreReached_X6_reach rfl rfl rfl (by decide +kernel) ⟨Nat.le_of_ble_eq_true rfl, Nat.le_of_ble_eq_true rfl⟩) ⟨fun a U g mk q => by obtain ⟨q0, q1, qP, qK, qD, qX0, qX1⟩ := q; exact ⟨q0, q1, qP, va_K.moved (u := U) (U := U.calling g mk a) (Vm.Alike.refl U.vm) qK, qD, va_Nw.same (u := U) (U := U.calling g mk a) rfl rfl qX0, va_Nw.same (u := U) (U := U.calling g mk a) rfl rfl qX1⟩, va_recv hKc hPc (ci := 6) (q0 := 0) rfl rfl, fun U hU hW => ⟨rfl, by rw [hU], by rw [hU]; exact hPc, va_K.moved hW.alike hKc, hDc.weaken (fun _ _ _ _ => trivial), va_Nw.warmM hW hNX6_144, va_Nw.warmM hW hNX6_148⟩⟩ rfl rfl hl.1 rfl (lv_room (Nat.le_of_ble_eq_true rfl)) dX6_childrenAreReached_76 ⟨(show 0 + 0 ≤ 0 by omega), (show 0 + 0 ≤ 0 by omega)⟩) hS (fun q _ h => hFc q h) hFc (fun r_33 u t H1 locs ht hvm hw hB hz1 hk1 hS => ?_)
            obtain ⟨sl2_34, r2_35, k1_36, k2_37, k3_38⟩ := u
            obtain ⟨hP1, hK1, hD1⟩ := hB
            rw [ht] at hP1
            have hK1 := va_K.moved hvm.symm hK1
            try dsimp only at hw
            obtain ⟨hP, hD⟩ := va_joinQ (wr := []) (w1 := [(hs, .inr (6, [.ref hd, .ref hf, .ref hm, .ref l1, .ref l2, .ref l3, .int (nI sl2_34), .long r2_35, .int s3, .long s4])), (hd, .inr (0, [.int (nI w), .int (nI b), .int wr, .ref qc, .ref qi, .int wa, .int wc])), (l1, .inl (cI, b, .inl k1_36)), (l2, .inl (cJ, b, .inr (.inl k2_37))), (l3, .inl (cJ, b, .inr (.inl k3_38)))]) hP hD [3, 0, 1, 2, 4] [] rfl rfl (by decide) (by decide) hk1 hFc hP1 hD1
            have hK := (hK.sub (tys' := [(cI, .int), (cJ, .long)]) [0, 1] rfl).app hK1
            have hK : va_K (dC, dI) vwCl [(cI, .int), (cJ, .long)] s := hK.sub [0, 1] rfl
            generalize H1 = H at hP hS ⊢
            have hP : va_P (dC, dI) vwCl ([(hs, .inr (6, [.ref hd, .ref hf, .ref hm, .ref l1, .ref l2, .ref l3, .int (nI sl2_34), .long r2_35, .int s3, .long s4])), (hd, .inr (0, [.int (nI w), .int (nI b), .int wr, .ref qc, .ref qi, .int wa, .int wc])), (l1, .inl (cI, b, .inl k1_36)), (l2, .inl (cJ, b, .inr (.inl k2_37))), (l3, .inl (cJ, b, .inr (.inl k3_38)))] ++ pool G cI Pg S) H := hP
            have hD : va_D A ([(hs, .inr (6, [.ref hd, .ref hf, .ref hm, .ref l1, .ref l2, .ref l3, .int (nI sl2_34), .long r2_35, .int s3, .long s4])), (hd, .inr (0, [.int (nI w), .int (nI b), .int wr, .ref qc, .ref qi, .int wa, .int wc])), (l1, .inl (cI, b, .inl k1_36)), (l2, .inl (cJ, b, .inr (.inl k2_37))), (l3, .inl (cJ, b, .inr (.inl k3_38)))] ++ pool G cI Pg S) := hD
            have hK : va_K (dC, dI) vwCl [(cI, .int), (cJ, .long)] s := hK
            have hw_r_33 := hw
            refine lv_if_ne (tgt := 84) hx hb dX6_childrenAreReached_79 (by decide) (fun c_39 => ?_) (fun c_39 => ?_)
            · refine lv_iinc (v := (nI (i + 1))) (lv' := [(3, .int (nI (i + 1))), (4, .long z_29), (6, .long r_3), (0, .ref hs), (1, .ref a0), (2, .int p1)]) hx hb dX6_childrenAreReached_84 hl (k := 5) rfl (nI_1 i) (by decide) rfl (fun ls hl => ?_)
              refine lv_goto (tgt := 2) hx hb dX6_childrenAreReached_87 (by decide) ?_
              exact ih_2 (i + 1) sl2_34 r2_35 k1_36 k2_37 k3_38 _ _ _ (by omega) (by omega) (by omega) (by omega) hP hD hS (lv_sub hl [3, 4, 5, 0] rfl)
            · refine lv_iconst (v := 0) hx hb dX6_childrenAreReached_82 (by decide) ?_
              have hP9 := hP.part (cx := [(hs, .inr (6, [.ref hd, .ref hf, .ref hm, .ref l1, .ref l2, .ref l3, .int (nI sl2_34), .long r2_35, .int s3, .long s4])), (hd, .inr (0, [.int (nI w), .int (nI b), .int wr, .ref qc, .ref qi, .int wa, .int wc])), (l1, .inl (cI, b, .inl k1_36)), (l2, .inl (cJ, b, .inr (.inl k2_37))), (l3, .inl (cJ, b, .inr (.inl k3_38)))]) [0, 1, 2, 3, 4] rfl
              have hD9 := hD.part (cx := [(hs, .inr (6, [.ref hd, .ref hf, .ref hm, .ref l1, .ref l2, .ref l3, .int (nI sl2_34), .long r2_35, .int s3, .long s4])), (hd, .inr (0, [.int (nI w), .int (nI b), .int wr, .ref qc, .ref qi, .int wa, .int wc])), (l1, .inl (cI, b, .inl k1_36)), (l2, .inl (cJ, b, .inr (.inl k2_37))), (l3, .inl (cJ, b, .inr (.inl k3_38)))]) [0, 1, 2, 3, 4] (by decide) rfl
              have hK9 := hK.sub (tys' := [(cI, .int), (cJ, .long)]) [0, 1] rfl
              exact W.zret (v := 0) hx hb hr rfl (fun t ht hW => ⟨⟨0, (sl2_34, r2_35, k1_36, k2_37, k3_38), rfl, ⟨Or.inl rfl, by omega, by omega⟩, by rw [ht]; exact hP9, va_K.moved hW.alike hK9, hD9⟩, hS.F ht⟩) hS.2.2 dX6_childrenAreReached_83
          · refine lv_lload hx hb dX6_childrenAreReached_51 (lv_at hl 1 rfl) ?_
            refine lv_aload_n hx hb dX6_childrenAreReached_53 rfl (lv_at hl 3 rfl) ?_
            refine lv_iload_n hx hb dX6_childrenAreReached_54 rfl (lv_at hl 5 rfl) ?_
            refine lv_iconst (v := 1) hx hb dX6_childrenAreReached_55 (by decide) ?_
            refine lv_iadd hx hb dX6_childrenAreReached_56 ?_
            refine lv_topi (fun z_40 _ => ?_)
            have hz1_a0 := (hI a0 hm_a0).1
            have hz2_a0 := (hI a0 hm_a0).2.1
            have hz3_a0 := (hI a0 hm_a0).2.2
            have hT9 := in1 hm_a0
            have hPc : va_P (dC, dI) vwCl [(a0, .inr (4, [.int (S a0).1, .int (nI (S a0).2.1), .ref (G a0).1, .ref (G a0).2.1])), ((G a0).1, .inl (cI, (G a0).2.2.1, .inl (S a0).2.2.1)), ((G a0).2.1, .inl (cI, (G a0).2.2.1, .inl (S a0).2.2.2))] H := pool_cut (T := [a0]) (cx := []) hP hT9 [] rfl
            have hDc : va_D A [(a0, .inr (4, [.int (S a0).1, .int (nI (S a0).2.1), .ref (G a0).1, .ref (G a0).2.1])), ((G a0).1, .inl (cI, (G a0).2.2.1, .inl (S a0).2.2.1)), ((G a0).2.1, .inl (cI, (G a0).2.2.1, .inl (S a0).2.2.2))] := pool_cutD (T := [a0]) (cx := []) hD hT9 (nd1) [] (by decide) rfl
            have hFc : ∀ q, va_A [(a0, .inr (4, [.int (S a0).1, .int (nI (S a0).2.1), .ref (G a0).1, .ref (G a0).2.1])), ((G a0).1, .inl (cI, (G a0).2.2.1, .inl (S a0).2.2.1)), ((G a0).2.1, .inl (cI, (G a0).2.2.1, .inl (S a0).2.2.2))] (H).size q → A q := pool_free (T := [a0]) (cx := []) hD hS hA hT9 [] rfl
            have hKc := hK.sub (tys' := [(cI, .int), (cI, .int)]) [0, 0] rfl
            refine va_calli (va_runV (As := [.int z_40]) (rest := [.long r_3]) ⟨hx, hb, hml, hown, hts⟩ (c_X4_keyAt l dC dI H.size a0 (G a0).1 (G a0).2.1 (G a0).2.2.1 (S a0).2.1 (S a0).1 cI cI (S a0).2.2.1 (S a0).2.2.2 z_40 (by first | assumption | omega | decide) (by first | assumption | omega | decide)) (cwV 1 hts g_X6_childrenAreReached_X4_keyAt rfl rfl rfl (by decide +kernel) ⟨Nat.le_of_ble_eq_true rfl, Nat.le_of_ble_eq_true rfl⟩) ⟨fun a U g mk q => by obtain ⟨q0, q1, qP, qK, qD⟩ := q; exact ⟨q0, q1, qP, va_K.moved (u := U) (U := U.calling g mk a) (Vm.Alike.refl U.vm) qK, qD⟩, va_recv hKc hPc (ci := 4) (q0 := 0) rfl rfl, fun U hU hW => ⟨rfl, by rw [hU], by rw [hU]; exact hPc, va_K.moved hW.alike hKc, hDc.weaken (fun _ _ _ _ => trivial)⟩⟩ rfl rfl hl.1 rfl (lv_room (Nat.le_of_ble_eq_true rfl)) dX6_childrenAreReached_57 ⟨(show 0 + 0 ≤ 0 by omega), (show 0 + 0 ≤ 0 by omega)⟩) hS (fun q _ h => hFc q h) hFc (fun r_41 u t H1 locs ht hvm hw hB hz1 hk1 hS => ?_)
            obtain ⟨hP1, hK1, hD1⟩ := hB
            rw [ht] at hP1
            have hK1 := va_K.moved hvm.symm hK1
            try dsimp only at hw
            obtain ⟨hP, hD⟩ := pool_join (S := S) (S1 := S) (T := [a0]) (cx := []) (wr := [(hd, .inr (0, [.int (nI w), .int (nI b), .int wr, .ref qc, .ref qi, .int wa, .int wc])), (l1, .inl (cI, b, .inl v1)), (l2, .inl (cJ, b, .inr (.inl v2))), (hs, .inr (6, [.ref hd, .ref hf, .ref hm, .ref l1, .ref l2, .ref l3, .int (nI sv9), .long rv9, .int s3, .long s4])), (l3, .inl (cJ, b, .inr (.inl v3)))]) (rx := []) hP hD hT9 [] [0, 1, 2, 3, 4] rfl rfl (by decide) (by decide) hk1 hFc hP1 hD1
            rw [pgJ_same] at hP hD
            have hK := (hK.sub (tys' := [(cI, .int), (cJ, .long)]) [0, 1] rfl).app hK1
            have hK : va_K (dC, dI) vwCl [(cI, .int), (cJ, .long)] s := hK.sub [0, 1] rfl
            generalize H1 = H at hP hS ⊢
            have hP : va_P (dC, dI) vwCl ([(hd, .inr (0, [.int (nI w), .int (nI b), .int wr, .ref qc, .ref qi, .int wa, .int wc])), (l1, .inl (cI, b, .inl v1)), (l2, .inl (cJ, b, .inr (.inl v2))), (hs, .inr (6, [.ref hd, .ref hf, .ref hm, .ref l1, .ref l2, .ref l3, .int (nI sv9), .long rv9, .int s3, .long s4])), (l3, .inl (cJ, b, .inr (.inl v3)))] ++ pool G cI Pg S) H := hP
            have hD : va_D A ([(hd, .inr (0, [.int (nI w), .int (nI b), .int wr, .ref qc, .ref qi, .int wa, .int wc])), (l1, .inl (cI, b, .inl v1)), (l2, .inl (cJ, b, .inr (.inl v2))), (hs, .inr (6, [.ref hd, .ref hf, .ref hm, .ref l1, .ref l2, .ref l3, .int (nI sv9), .long rv9, .int s3, .long s4])), (l3, .inl (cJ, b, .inr (.inl v3)))] ++ pool G cI Pg S) := hD
            have hK : va_K (dC, dI) vwCl [(cI, .int), (cJ, .long)] s := hK
            have hw_r_41 := hw
            refine lv_i2l hx hb dX6_childrenAreReached_60 rfl ?_
            refine lv_topl (fun z_42 _ => ?_)
            refine va_mmin_long hx hb (by rw [hml]; exact hl.1.symm) hown k_4 k_5 k_6 k_3 (Nat.le_of_ble_eq_true rfl) (Nat.le_of_ble_eq_true rfl) (show 0 ≤ 0 by omega) (show 0 ≤ 0 by omega) dX6_childrenAreReached_61 ?_
            refine lv_topl (fun z_43 _ => ?_)
            refine lv_lstore (lv' := [(6, .long z_43), (4, .long z_29), (0, .ref hs), (1, .ref a0), (2, .int p1), (3, .int (nI i))]) hx hb dX6_childrenAreReached_64 hl (by decide) rfl (fun ls hl => ?_)
            refine lv_aload_n hx hb dX6_childrenAreReached_66 rfl (lv_at hl 2 rfl) ?_
            refine lv_aload_n hx hb dX6_childrenAreReached_67 rfl (lv_at hl 3 rfl) ?_
            refine lv_iload_n hx hb dX6_childrenAreReached_68 rfl (lv_at hl 5 rfl) ?_
            have hz1_a0 := (hI a0 hm_a0).1
            have hz2_a0 := (hI a0 hm_a0).2.1
            have hz3_a0 := (hI a0 hm_a0).2.2
            have hT9 := in1 hm_a0
            have hPc : va_P (dC, dI) vwCl [(a0, .inr (4, [.int (S a0).1, .int (nI (S a0).2.1), .ref (G a0).1, .ref (G a0).2.1])), ((G a0).1, .inl (cI, (G a0).2.2.1, .inl (S a0).2.2.1)), ((G a0).2.1, .inl (cI, (G a0).2.2.1, .inl (S a0).2.2.2))] H := pool_cut (T := [a0]) (cx := []) hP hT9 [] rfl
            have hDc : va_D A [(a0, .inr (4, [.int (S a0).1, .int (nI (S a0).2.1), .ref (G a0).1, .ref (G a0).2.1])), ((G a0).1, .inl (cI, (G a0).2.2.1, .inl (S a0).2.2.1)), ((G a0).2.1, .inl (cI, (G a0).2.2.1, .inl (S a0).2.2.2))] := pool_cutD (T := [a0]) (cx := []) hD hT9 (nd1) [] (by decide) rfl
            have hFc : ∀ q, va_A [(a0, .inr (4, [.int (S a0).1, .int (nI (S a0).2.1), .ref (G a0).1, .ref (G a0).2.1])), ((G a0).1, .inl (cI, (G a0).2.2.1, .inl (S a0).2.2.1)), ((G a0).2.1, .inl (cI, (G a0).2.2.1, .inl (S a0).2.2.2))] (H).size q → A q := pool_free (T := [a0]) (cx := []) hD hS hA hT9 [] rfl
            have hKc := hK.sub (tys' := [(cI, .int), (cI, .int)]) [0, 0] rfl
            refine va_calli (va_runV (As := [.int (nI i)]) (rest := [.ref hs]) ⟨hx, hb, hml, hown, hts⟩ (c_X4_refAt l dC dI H.size a0 (G a0).1 (G a0).2.1 (G a0).2.2.1 (S a0).2.1 (S a0).1 cI cI (S a0).2.2.1 (S a0).2.2.2 (nI i) (by first | assumption | omega | decide) (by first | assumption | omega | decide)) (cwV 1 hts g_X6_childrenAreReached_X4_refAt rfl rfl rfl (by decide +kernel) ⟨Nat.le_of_ble_eq_true rfl, Nat.le_of_ble_eq_true rfl⟩) ⟨fun a U g mk q => by obtain ⟨q0, q1, qP, qK, qD⟩ := q; exact ⟨q0, q1, qP, va_K.moved (u := U) (U := U.calling g mk a) (Vm.Alike.refl U.vm) qK, qD⟩, va_recv hKc hPc (ci := 4) (q0 := 0) rfl rfl, fun U hU hW => ⟨rfl, by rw [hU], by rw [hU]; exact hPc, va_K.moved hW.alike hKc, hDc.weaken (fun _ _ _ _ => trivial)⟩⟩ rfl rfl hl.1 rfl (lv_room (Nat.le_of_ble_eq_true rfl)) dX6_childrenAreReached_69 ⟨(show 0 + 0 ≤ 0 by omega), (show 0 + 0 ≤ 0 by omega)⟩) hS (fun q _ h => hFc q h) hFc (fun r_44 u t H1 locs ht hvm hw hB hz1 hk1 hS => ?_)
            obtain ⟨hP1, hK1, hD1⟩ := hB
            rw [ht] at hP1
            have hK1 := va_K.moved hvm.symm hK1
            try dsimp only at hw
            obtain ⟨hP, hD⟩ := pool_join (S := S) (S1 := S) (T := [a0]) (cx := []) (wr := [(hd, .inr (0, [.int (nI w), .int (nI b), .int wr, .ref qc, .ref qi, .int wa, .int wc])), (l1, .inl (cI, b, .inl v1)), (l2, .inl (cJ, b, .inr (.inl v2))), (hs, .inr (6, [.ref hd, .ref hf, .ref hm, .ref l1, .ref l2, .ref l3, .int (nI sv9), .long rv9, .int s3, .long s4])), (l3, .inl (cJ, b, .inr (.inl v3)))]) (rx := []) hP hD hT9 [] [0, 1, 2, 3, 4] rfl rfl (by decide) (by decide) hk1 hFc hP1 hD1
            rw [pgJ_same] at hP hD
            have hK := (hK.sub (tys' := [(cI, .int), (cJ, .long)]) [0, 1] rfl).app hK1
            have hK : va_K (dC, dI) vwCl [(cI, .int), (cJ, .long)] s := hK.sub [0, 1] rfl
            generalize H1 = H at hP hS ⊢
            have hP : va_P (dC, dI) vwCl ([(hd, .inr (0, [.int (nI w), .int (nI b), .int wr, .ref qc, .ref qi, .int wa, .int wc])), (l1, .inl (cI, b, .inl v1)), (l2, .inl (cJ, b, .inr (.inl v2))), (hs, .inr (6, [.ref hd, .ref hf, .ref hm, .ref l1, .ref l2, .ref l3, .int (nI sv9), .long rv9, .int s3, .long s4])), (l3, .inl (cJ, b, .inr (.inl v3)))] ++ pool G cI Pg S) H := hP
            have hD : va_D A ([(hd, .inr (0, [.int (nI w), .int (nI b), .int wr, .ref qc, .ref qi, .int wa, .int wc])), (l1, .inl (cI, b, .inl v1)), (l2, .inl (cJ, b, .inr (.inl v2))), (hs, .inr (6, [.ref hd, .ref hf, .ref hm, .ref l1, .ref l2, .ref l3, .int (nI sv9), .long rv9, .int s3, .long s4])), (l3, .inl (cJ, b, .inr (.inl v3)))] ++ pool G cI Pg S) := hD
            have hK : va_K (dC, dI) vwCl [(cI, .int), (cJ, .long)] s := hK
            have hw_r_44 := hw
            refine lv_lload hx hb dX6_childrenAreReached_72 (lv_at hl 1 rfl) ?_
            refine lv_lload hx hb dX6_childrenAreReached_74 (lv_at hl 0 rfl) ?_
            have hPc := hP.sub (ws' := [(hs, .inr (6, [.ref hd, .ref hf, .ref hm, .ref l1, .ref l2, .ref l3, .int (nI sv9), .long rv9, .int s3, .long s4])), (hd, .inr (0, [.int (nI w), .int (nI b), .int wr, .ref qc, .ref qi, .int wa, .int wc])), (l1, .inl (cI, b, .inl v1)), (l2, .inl (cJ, b, .inr (.inl v2))), (l3, .inl (cJ, b, .inr (.inl v3)))]) [3, 0, 1, 2, 4] rfl
            have hDc := hD.sub (ws' := [(hs, .inr (6, [.ref hd, .ref hf, .ref hm, .ref l1, .ref l2, .ref l3, .int (nI sv9), .long rv9, .int s3, .long s4])), (hd, .inr (0, [.int (nI w), .int (nI b), .int wr, .ref qc, .ref qi, .int wa, .int wc])), (l1, .inl (cI, b, .inl v1)), (l2, .inl (cJ, b, .inr (.inl v2))), (l3, .inl (cJ, b, .inr (.inl v3)))]) [3, 0, 1, 2, 4] (by decide) rfl
            have hKc := hK.sub (tys' := [(cI, .int), (cJ, .long)]) [0, 1] rfl
            have hFc := va_free (wc := [(hs, .inr (6, [.ref hd, .ref hf, .ref hm, .ref l1, .ref l2, .ref l3, .int (nI sv9), .long rv9, .int s3, .long s4])), (hd, .inr (0, [.int (nI w), .int (nI b), .int wr, .ref qc, .ref qi, .int wa, .int wc])), (l1, .inl (cI, b, .inl v1)), (l2, .inl (cJ, b, .inr (.inl v2))), (l3, .inl (cJ, b, .inr (.inl v3)))]) hD hS hA [3, 0, 1, 2, 4] rfl
            refine va_calli (va_runV (As := [.int r_44, .long z_29, .long z_43]) (rest := []) ⟨hx, hb, hml, hown, hts⟩ (c_X6_reach l dC dI H.size hs hd hf hm l1 l2 l3 sv9 rv9 s4 s3 w b qc qi wr wa wc r_44 z_29 z_43 cI cJ v1 v2 v3 (by first | assumption | omega | decide) (by first | assumption | omega | decide)) (cwV 3 hts g_X6_childrenAreReached_X6_reach rfl rfl rfl (by decide +kernel) ⟨Nat.le_of_ble_eq_true rfl, Nat.le_of_ble_eq_true rfl⟩) ⟨fun a U g mk q => by obtain ⟨q0, q1, qP, qK, qD, qX0, qX1⟩ := q; exact ⟨q0, q1, qP, va_K.moved (u := U) (U := U.calling g mk a) (Vm.Alike.refl U.vm) qK, qD, va_Nw.same (u := U) (U := U.calling g mk a) rfl rfl qX0, va_Nw.same (u := U) (U := U.calling g mk a) rfl rfl qX1⟩, va_recv hKc hPc (ci := 6) (q0 := 0) rfl rfl, fun U hU hW => ⟨rfl, by rw [hU], by rw [hU]; exact hPc, va_K.moved hW.alike hKc, hDc.weaken (fun _ _ _ _ => trivial), va_Nw.warmM hW hNX6_144, va_Nw.warmM hW hNX6_148⟩⟩ rfl rfl hl.1 rfl (lv_room (Nat.le_of_ble_eq_true rfl)) dX6_childrenAreReached_76 ⟨(show 0 + 0 ≤ 0 by omega), (show 0 + 0 ≤ 0 by omega)⟩) hS (fun q _ h => hFc q h) hFc (fun r_45 u t H1 locs ht hvm hw hB hz1 hk1 hS => ?_)
            obtain ⟨sl2_46, r2_47, k1_48, k2_49, k3_50⟩ := u
            obtain ⟨hP1, hK1, hD1⟩ := hB
            rw [ht] at hP1
            have hK1 := va_K.moved hvm.symm hK1
            try dsimp only at hw
            obtain ⟨hP, hD⟩ := va_joinQ (wr := []) (w1 := [(hs, .inr (6, [.ref hd, .ref hf, .ref hm, .ref l1, .ref l2, .ref l3, .int (nI sl2_46), .long r2_47, .int s3, .long s4])), (hd, .inr (0, [.int (nI w), .int (nI b), .int wr, .ref qc, .ref qi, .int wa, .int wc])), (l1, .inl (cI, b, .inl k1_48)), (l2, .inl (cJ, b, .inr (.inl k2_49))), (l3, .inl (cJ, b, .inr (.inl k3_50)))]) hP hD [3, 0, 1, 2, 4] [] rfl rfl (by decide) (by decide) hk1 hFc hP1 hD1
            have hK := (hK.sub (tys' := [(cI, .int), (cJ, .long)]) [0, 1] rfl).app hK1
            have hK : va_K (dC, dI) vwCl [(cI, .int), (cJ, .long)] s := hK.sub [0, 1] rfl
            generalize H1 = H at hP hS ⊢
            have hP : va_P (dC, dI) vwCl ([(hs, .inr (6, [.ref hd, .ref hf, .ref hm, .ref l1, .ref l2, .ref l3, .int (nI sl2_46), .long r2_47, .int s3, .long s4])), (hd, .inr (0, [.int (nI w), .int (nI b), .int wr, .ref qc, .ref qi, .int wa, .int wc])), (l1, .inl (cI, b, .inl k1_48)), (l2, .inl (cJ, b, .inr (.inl k2_49))), (l3, .inl (cJ, b, .inr (.inl k3_50)))] ++ pool G cI Pg S) H := hP
            have hD : va_D A ([(hs, .inr (6, [.ref hd, .ref hf, .ref hm, .ref l1, .ref l2, .ref l3, .int (nI sl2_46), .long r2_47, .int s3, .long s4])), (hd, .inr (0, [.int (nI w), .int (nI b), .int wr, .ref qc, .ref qi, .int wa, .int wc])), (l1, .inl (cI, b, .inl k1_48)), (l2, .inl (cJ, b, .inr (.inl k2_49))), (l3, .inl (cJ, b, .inr (.inl k3_50)))] ++ pool G cI Pg S) := hD
            have hK : va_K (dC, dI) vwCl [(cI, .int), (cJ, .long)] s := hK
            have hw_r_45 := hw
            refine lv_if_ne (tgt := 84) hx hb dX6_childrenAreReached_79 (by decide) (fun c_51 => ?_) (fun c_51 => ?_)
            · refine lv_iinc (v := (nI (i + 1))) (lv' := [(3, .int (nI (i + 1))), (6, .long z_43), (4, .long z_29), (0, .ref hs), (1, .ref a0), (2, .int p1)]) hx hb dX6_childrenAreReached_84 hl (k := 5) rfl (nI_1 i) (by decide) rfl (fun ls hl => ?_)
              refine lv_goto (tgt := 2) hx hb dX6_childrenAreReached_87 (by decide) ?_
              exact ih_2 (i + 1) sl2_46 r2_47 k1_48 k2_49 k3_50 _ _ _ (by omega) (by omega) (by omega) (by omega) hP hD hS (lv_sub hl [3, 4, 5, 0] rfl)
            · refine lv_iconst (v := 0) hx hb dX6_childrenAreReached_82 (by decide) ?_
              have hP9 := hP.part (cx := [(hs, .inr (6, [.ref hd, .ref hf, .ref hm, .ref l1, .ref l2, .ref l3, .int (nI sl2_46), .long r2_47, .int s3, .long s4])), (hd, .inr (0, [.int (nI w), .int (nI b), .int wr, .ref qc, .ref qi, .int wa, .int wc])), (l1, .inl (cI, b, .inl k1_48)), (l2, .inl (cJ, b, .inr (.inl k2_49))), (l3, .inl (cJ, b, .inr (.inl k3_50)))]) [0, 1, 2, 3, 4] rfl
              have hD9 := hD.part (cx := [(hs, .inr (6, [.ref hd, .ref hf, .ref hm, .ref l1, .ref l2, .ref l3, .int (nI sl2_46), .long r2_47, .int s3, .long s4])), (hd, .inr (0, [.int (nI w), .int (nI b), .int wr, .ref qc, .ref qi, .int wa, .int wc])), (l1, .inl (cI, b, .inl k1_48)), (l2, .inl (cJ, b, .inr (.inl k2_49))), (l3, .inl (cJ, b, .inr (.inl k3_50)))]) [0, 1, 2, 3, 4] (by decide) rfl
              have hK9 := hK.sub (tys' := [(cI, .int), (cJ, .long)]) [0, 1] rfl
              exact W.zret (v := 0) hx hb hr rfl (fun t ht hW => ⟨⟨0, (sl2_46, r2_47, k1_48, k2_49, k3_50), rfl, ⟨Or.inl rfl, by omega, by omega⟩, by rw [ht]; exact hP9, va_K.moved hW.alike hK9, hD9⟩, hS.F ht⟩) hS.2.2 dX6_childrenAreReached_83
  exact loop_2 ((S a0).2.1 + 1) 0 sl s2 g1 g2 g3 _ _ _ (by omega) (by omega) (by omega) (by omega) hP hD hS (lv_sub hl [1, 2, 3, 0] rfl)

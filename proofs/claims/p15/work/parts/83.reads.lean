theorem dX8_arm_0 : decode cX8_arm 0 = .ok (.aload_n 0, 1) := by decide +kernel
theorem dX8_arm_1 : decode cX8_arm 1 = .ok (.getfield 28, 3) := by decide +kernel
theorem dX8_arm_4 : decode cX8_arm 4 = .ok (.iload_n 1, 1) := by decide +kernel
theorem dX8_arm_5 : decode cX8_arm 5 = .ok (.iload_n 2, 1) := by decide +kernel
theorem dX8_arm_6 : decode cX8_arm 6 = .ok (.invokevirtual 81, 3) := by decide +kernel
theorem dX8_arm_9 : decode cX8_arm 9 = .ok (.return_, 1) := by decide +kernel
theorem dX8_block_0 : decode cX8_block 0 = .ok (.aload_n 0, 1) := by decide +kernel
theorem dX8_block_1 : decode cX8_block 1 = .ok (.getfield 77, 3) := by decide +kernel
theorem dX8_block_4 : decode cX8_block 4 = .ok (.ifCond .ne 18, 3) := by decide +kernel
theorem dX8_block_7 : decode cX8_block 7 = .ok (.iload_n 1, 1) := by decide +kernel
theorem dX8_block_8 : decode cX8_block 8 = .ok (.ifCond .lt 14, 3) := by decide +kernel
theorem dX8_block_11 : decode cX8_block 11 = .ok (.iload_n 1, 1) := by decide +kernel
theorem dX8_block_12 : decode cX8_block 12 = .ok (.aload_n 0, 1) := by decide +kernel
theorem dX8_block_13 : decode cX8_block 13 = .ok (.getfield 28, 3) := by decide +kernel
theorem dX8_block_16 : decode cX8_block 16 = .ok (.getfield 195, 3) := by decide +kernel
theorem dX8_block_19 : decode cX8_block 19 = .ok (.if_icmp .lt 5, 3) := by decide +kernel
theorem dX8_block_22 : decode cX8_block 22 = .ok (.iconst (-1), 1) := by decide +kernel
theorem dX8_block_23 : decode cX8_block 23 = .ok (.ireturn, 1) := by decide +kernel
theorem dX8_block_24 : decode cX8_block 24 = .ok (.iload_n 1, 1) := by decide +kernel
theorem dX8_block_25 : decode cX8_block 25 = .ok (.iconst 2, 1) := by decide +kernel
theorem dX8_block_26 : decode cX8_block 26 = .ok (.if_icmp .ge 5, 3) := by decide +kernel
theorem dX8_block_29 : decode cX8_block 29 = .ok (.iconst 0, 1) := by decide +kernel
theorem dX8_block_30 : decode cX8_block 30 = .ok (.ireturn, 1) := by decide +kernel
theorem dX8_block_31 : decode cX8_block 31 = .ok (.aload_n 0, 1) := by decide +kernel
theorem dX8_block_32 : decode cX8_block 32 = .ok (.getfield 74, 3) := by decide +kernel
theorem dX8_block_35 : decode cX8_block 35 = .ok (.getfield 103, 3) := by decide +kernel
theorem dX8_block_38 : decode cX8_block 38 = .ok (.iload_n 1, 1) := by decide +kernel
theorem dX8_block_39 : decode cX8_block 39 = .ok (.invokestatic 198, 3) := by decide +kernel
theorem dX8_block_42 : decode cX8_block 42 = .ok (.ifCond .eq 20, 3) := by decide +kernel
theorem dX8_block_45 : decode cX8_block 45 = .ok (.aload_n 0, 1) := by decide +kernel
theorem dX8_block_46 : decode cX8_block 46 = .ok (.getfield 99, 3) := by decide +kernel
theorem dX8_block_49 : decode cX8_block 49 = .ok (.iload_n 1, 1) := by decide +kernel
theorem dX8_block_50 : decode cX8_block 50 = .ok (.invokestatic 198, 3) := by decide +kernel
theorem dX8_block_53 : decode cX8_block 53 = .ok (.ifCond .eq 7, 3) := by decide +kernel
theorem dX8_block_56 : decode cX8_block 56 = .ok (.iconst 2, 1) := by decide +kernel
theorem dX8_block_57 : decode cX8_block 57 = .ok (.goto 4, 3) := by decide +kernel
theorem dX8_block_60 : decode cX8_block 60 = .ok (.iconst 3, 1) := by decide +kernel
theorem dX8_block_61 : decode cX8_block 61 = .ok (.ireturn, 1) := by decide +kernel
theorem dX8_block_62 : decode cX8_block 62 = .ok (.aload_n 0, 1) := by decide +kernel
theorem dX8_block_63 : decode cX8_block 63 = .ok (.invokevirtual 95, 3) := by decide +kernel
theorem dX8_block_66 : decode cX8_block 66 = .ok (.iload_n 1, 1) := by decide +kernel
theorem dX8_block_67 : decode cX8_block 67 = .ok (.invokestatic 198, 3) := by decide +kernel
theorem dX8_block_70 : decode cX8_block 70 = .ok (.ifCond .eq 7, 3) := by decide +kernel
theorem dX8_block_73 : decode cX8_block 73 = .ok (.iconst 1, 1) := by decide +kernel
theorem dX8_block_74 : decode cX8_block 74 = .ok (.goto 4, 3) := by decide +kernel
theorem dX8_block_77 : decode cX8_block 77 = .ok (.iconst 4, 1) := by decide +kernel
theorem dX8_block_78 : decode cX8_block 78 = .ok (.ireturn, 1) := by decide +kernel
theorem dX8_commit_0 : decode cX8_commit 0 = .ok (.aload_n 0, 1) := by decide +kernel
theorem dX8_commit_1 : decode cX8_commit 1 = .ok (.getfield 77, 3) := by decide +kernel
theorem dX8_commit_4 : decode cX8_commit 4 = .ok (.ifCond .eq 5, 3) := by decide +kernel
theorem dX8_commit_7 : decode cX8_commit 7 = .ok (.iconst 3, 1) := by decide +kernel
theorem dX8_commit_8 : decode cX8_commit 8 = .ok (.ireturn, 1) := by decide +kernel
theorem dX8_commit_9 : decode cX8_commit 9 = .ok (.iconst 1, 1) := by decide +kernel
theorem dX8_commit_10 : decode cX8_commit 10 = .ok (.aload_n 0, 1) := by decide +kernel
theorem dX8_commit_11 : decode cX8_commit 11 = .ok (.getfield 140, 3) := by decide +kernel
theorem dX8_commit_14 : decode cX8_commit 14 = .ok (.isub, 1) := by decide +kernel
theorem dX8_commit_15 : decode cX8_commit 15 = .ok (.istore_n 1, 1) := by decide +kernel
theorem dX8_commit_16 : decode cX8_commit 16 = .ok (.aload_n 0, 1) := by decide +kernel
theorem dX8_commit_17 : decode cX8_commit 17 = .ok (.iload_n 1, 1) := by decide +kernel
theorem dX8_commit_18 : decode cX8_commit 18 = .ok (.invokevirtual 143, 3) := by decide +kernel
theorem dX8_commit_21 : decode cX8_commit 21 = .ok (.aload_n 0, 1) := by decide +kernel
theorem dX8_commit_22 : decode cX8_commit 22 = .ok (.aload_n 0, 1) := by decide +kernel
theorem dX8_commit_23 : decode cX8_commit 23 = .ok (.getfield 140, 3) := by decide +kernel
theorem dX8_commit_26 : decode cX8_commit 26 = .ok (.invokevirtual 143, 3) := by decide +kernel
theorem dX8_commit_29 : decode cX8_commit 29 = .ok (.getfield 170, 3) := by decide +kernel
theorem dX8_commit_32 : decode cX8_commit 32 = .ok (.iconst 1, 1) := by decide +kernel
theorem dX8_commit_33 : decode cX8_commit 33 = .ok (.iadd, 1) := by decide +kernel
theorem dX8_commit_34 : decode cX8_commit 34 = .ok (.aload_n 0, 1) := by decide +kernel
theorem dX8_commit_35 : decode cX8_commit 35 = .ok (.getfield 74, 3) := by decide +kernel
theorem dX8_commit_38 : decode cX8_commit 38 = .ok (.getfield 110, 3) := by decide +kernel
theorem dX8_commit_41 : decode cX8_commit 41 = .ok (.aload_n 0, 1) := by decide +kernel
theorem dX8_commit_42 : decode cX8_commit 42 = .ok (.getfield 74, 3) := by decide +kernel
theorem dX8_commit_45 : decode cX8_commit 45 = .ok (.getfield 127, 3) := by decide +kernel
theorem dX8_commit_48 : decode cX8_commit 48 = .ok (.aload_n 0, 1) := by decide +kernel
theorem dX8_commit_49 : decode cX8_commit 49 = .ok (.getfield 74, 3) := by decide +kernel
theorem dX8_commit_52 : decode cX8_commit 52 = .ok (.getfield 103, 3) := by decide +kernel
theorem dX8_commit_55 : decode cX8_commit 55 = .ok (.invokevirtual 84, 3) := by decide +kernel
theorem dX8_commit_58 : decode cX8_commit 58 = .ok (.aload_n 0, 1) := by decide +kernel
theorem dX8_commit_59 : decode cX8_commit 59 = .ok (.iload_n 1, 1) := by decide +kernel
theorem dX8_commit_60 : decode cX8_commit 60 = .ok (.invokevirtual 88, 3) := by decide +kernel
theorem dX8_commit_63 : decode cX8_commit 63 = .ok (.ifCond .ne 8, 3) := by decide +kernel
theorem dX8_commit_66 : decode cX8_commit 66 = .ok (.aload_n 0, 1) := by decide +kernel
theorem dX8_commit_67 : decode cX8_commit 67 = .ok (.invokevirtual 173, 3) := by decide +kernel
theorem dX8_commit_70 : decode cX8_commit 70 = .ok (.ireturn, 1) := by decide +kernel
theorem dX8_commit_71 : decode cX8_commit 71 = .ok (.aload_n 0, 1) := by decide +kernel
theorem dX8_commit_72 : decode cX8_commit 72 = .ok (.iload_n 1, 1) := by decide +kernel
theorem dX8_commit_73 : decode cX8_commit 73 = .ok (.putfield 140, 3) := by decide +kernel
theorem dX8_commit_76 : decode cX8_commit 76 = .ok (.aload_n 0, 1) := by decide +kernel
theorem dX8_commit_77 : decode cX8_commit 77 = .ok (.lconst 0, 1) := by decide +kernel
theorem dX8_commit_78 : decode cX8_commit 78 = .ok (.putfield 99, 3) := by decide +kernel
theorem dX8_commit_81 : decode cX8_commit 81 = .ok (.iconst 0, 1) := by decide +kernel
theorem dX8_commit_82 : decode cX8_commit 82 = .ok (.ireturn, 1) := by decide +kernel
theorem dX8_contains_0 : decode cX8_contains 0 = .ok (.aload_n 0, 1) := by decide +kernel
theorem dX8_contains_1 : decode cX8_contains 1 = .ok (.getfield 77, 3) := by decide +kernel
theorem dX8_contains_4 : decode cX8_contains 4 = .ok (.ifCond .ne 29, 3) := by decide +kernel
theorem dX8_contains_7 : decode cX8_contains 7 = .ok (.aload_n 0, 1) := by decide +kernel
theorem dX8_contains_8 : decode cX8_contains 8 = .ok (.getfield 35, 3) := by decide +kernel
theorem dX8_contains_11 : decode cX8_contains 11 = .ok (.aload_n 0, 1) := by decide +kernel
theorem dX8_contains_12 : decode cX8_contains 12 = .ok (.getfield 74, 3) := by decide +kernel
theorem dX8_contains_15 : decode cX8_contains 15 = .ok (.getfield 110, 3) := by decide +kernel
theorem dX8_contains_18 : decode cX8_contains 18 = .ok (.iload_n 1, 1) := by decide +kernel
theorem dX8_contains_19 : decode cX8_contains 19 = .ok (.invokevirtual 114, 3) := by decide +kernel
theorem dX8_contains_22 : decode cX8_contains 22 = .ok (.iload_n 1, 1) := by decide +kernel
theorem dX8_contains_23 : decode cX8_contains 23 = .ok (.invokevirtual 118, 3) := by decide +kernel
theorem dX8_contains_26 : decode cX8_contains 26 = .ok (.ifCond .eq 7, 3) := by decide +kernel
theorem dX8_contains_29 : decode cX8_contains 29 = .ok (.iconst 1, 1) := by decide +kernel
theorem dX8_contains_30 : decode cX8_contains 30 = .ok (.goto 4, 3) := by decide +kernel
theorem dX8_contains_33 : decode cX8_contains 33 = .ok (.iconst 0, 1) := by decide +kernel
theorem dX8_contains_34 : decode cX8_contains 34 = .ok (.ireturn, 1) := by decide +kernel
theorem dX8_count_0 : decode cX8_count 0 = .ok (.iload_n 1, 1) := by decide +kernel
theorem dX8_count_1 : decode cX8_count 1 = .ok (.tableswitch 95 0 4 #[35, 43, 51, 59, 72], 35) := by decide +kernel
theorem dX8_count_36 : decode cX8_count 36 = .ok (.aload_n 0, 1) := by decide +kernel
theorem dX8_count_37 : decode cX8_count 37 = .ok (.getfield 28, 3) := by decide +kernel
theorem dX8_count_40 : decode cX8_count 40 = .ok (.getfield 195, 3) := by decide +kernel
theorem dX8_count_43 : decode cX8_count 43 = .ok (.ireturn, 1) := by decide +kernel
theorem dX8_count_44 : decode cX8_count 44 = .ok (.aload_n 0, 1) := by decide +kernel
theorem dX8_count_45 : decode cX8_count 45 = .ok (.getfield 28, 3) := by decide +kernel
theorem dX8_count_48 : decode cX8_count 48 = .ok (.getfield 202, 3) := by decide +kernel
theorem dX8_count_51 : decode cX8_count 51 = .ok (.ireturn, 1) := by decide +kernel
theorem dX8_count_52 : decode cX8_count 52 = .ok (.aload_n 0, 1) := by decide +kernel
theorem dX8_count_53 : decode cX8_count 53 = .ok (.getfield 28, 3) := by decide +kernel
theorem dX8_count_56 : decode cX8_count 56 = .ok (.getfield 205, 3) := by decide +kernel
theorem dX8_count_59 : decode cX8_count 59 = .ok (.ireturn, 1) := by decide +kernel
theorem dX8_count_60 : decode cX8_count 60 = .ok (.aload_n 0, 1) := by decide +kernel
theorem dX8_count_61 : decode cX8_count 61 = .ok (.getfield 77, 3) := by decide +kernel
theorem dX8_count_64 : decode cX8_count 64 = .ok (.ifCond .eq 7, 3) := by decide +kernel
theorem dX8_count_67 : decode cX8_count 67 = .ok (.iconst 1, 1) := by decide +kernel
theorem dX8_count_68 : decode cX8_count 68 = .ok (.goto 4, 3) := by decide +kernel
theorem dX8_count_71 : decode cX8_count 71 = .ok (.iconst 0, 1) := by decide +kernel
theorem dX8_count_72 : decode cX8_count 72 = .ok (.ireturn, 1) := by decide +kernel
theorem dX8_count_73 : decode cX8_count 73 = .ok (.aload_n 0, 1) := by decide +kernel
theorem dX8_count_74 : decode cX8_count 74 = .ok (.getfield 77, 3) := by decide +kernel
theorem dX8_count_77 : decode cX8_count 77 = .ok (.ifCond .eq 7, 3) := by decide +kernel
theorem dX8_count_80 : decode cX8_count 80 = .ok (.iconst (-1), 1) := by decide +kernel
theorem dX8_count_81 : decode cX8_count 81 = .ok (.goto 14, 3) := by decide +kernel
theorem dX8_count_84 : decode cX8_count 84 = .ok (.aload_n 0, 1) := by decide +kernel
theorem dX8_count_85 : decode cX8_count 85 = .ok (.aload_n 0, 1) := by decide +kernel
theorem dX8_count_86 : decode cX8_count 86 = .ok (.getfield 140, 3) := by decide +kernel
theorem dX8_count_89 : decode cX8_count 89 = .ok (.invokevirtual 143, 3) := by decide +kernel
theorem dX8_count_92 : decode cX8_count 92 = .ok (.getfield 170, 3) := by decide +kernel
theorem dX8_count_95 : decode cX8_count 95 = .ok (.ireturn, 1) := by decide +kernel
theorem dX8_count_96 : decode cX8_count 96 = .ok (.aload_n 0, 1) := by decide +kernel
theorem dX8_count_97 : decode cX8_count 97 = .ok (.getfield 77, 3) := by decide +kernel
theorem dX8_count_100 : decode cX8_count 100 = .ok (.ifCond .eq 7, 3) := by decide +kernel
theorem dX8_count_103 : decode cX8_count 103 = .ok (.iconst 0, 1) := by decide +kernel
theorem dX8_count_104 : decode cX8_count 104 = .ok (.goto 8, 3) := by decide +kernel
theorem dX8_count_107 : decode cX8_count 107 = .ok (.aload_n 0, 1) := by decide +kernel
theorem dX8_count_108 : decode cX8_count 108 = .ok (.iload_n 1, 1) := by decide +kernel
theorem dX8_count_109 : decode cX8_count 109 = .ok (.invokevirtual 208, 3) := by decide +kernel
theorem dX8_count_112 : decode cX8_count 112 = .ok (.ireturn, 1) := by decide +kernel
theorem dX8_countWhenUp_0 : decode cX8_countWhenUp 0 = .ok (.iload_n 1, 1) := by decide +kernel
theorem dX8_countWhenUp_1 : decode cX8_countWhenUp 1 = .ok (.tableswitch 96 5 9 #[35, 43, 65, 73, 84], 35) := by decide +kernel
theorem dX8_countWhenUp_36 : decode cX8_countWhenUp 36 = .ok (.aload_n 0, 1) := by decide +kernel
theorem dX8_countWhenUp_37 : decode cX8_countWhenUp 37 = .ok (.invokevirtual 95, 3) := by decide +kernel
theorem dX8_countWhenUp_40 : decode cX8_countWhenUp 40 = .ok (.invokestatic 211, 3) := by decide +kernel
theorem dX8_countWhenUp_43 : decode cX8_countWhenUp 43 = .ok (.ireturn, 1) := by decide +kernel
theorem dX8_countWhenUp_44 : decode cX8_countWhenUp 44 = .ok (.aload_n 0, 1) := by decide +kernel
theorem dX8_countWhenUp_45 : decode cX8_countWhenUp 45 = .ok (.getfield 35, 3) := by decide +kernel
theorem dX8_countWhenUp_48 : decode cX8_countWhenUp 48 = .ok (.aload_n 0, 1) := by decide +kernel
theorem dX8_countWhenUp_49 : decode cX8_countWhenUp 49 = .ok (.getfield 74, 3) := by decide +kernel
theorem dX8_countWhenUp_52 : decode cX8_countWhenUp 52 = .ok (.getfield 110, 3) := by decide +kernel
theorem dX8_countWhenUp_55 : decode cX8_countWhenUp 55 = .ok (.invokevirtual 147, 3) := by decide +kernel
theorem dX8_countWhenUp_58 : decode cX8_countWhenUp 58 = .ok (.aload_n 0, 1) := by decide +kernel
theorem dX8_countWhenUp_59 : decode cX8_countWhenUp 59 = .ok (.getfield 35, 3) := by decide +kernel
theorem dX8_countWhenUp_62 : decode cX8_countWhenUp 62 = .ok (.getfield 217, 3) := by decide +kernel
theorem dX8_countWhenUp_65 : decode cX8_countWhenUp 65 = .ok (.ireturn, 1) := by decide +kernel
theorem dX8_countWhenUp_66 : decode cX8_countWhenUp 66 = .ok (.aload_n 0, 1) := by decide +kernel
theorem dX8_countWhenUp_67 : decode cX8_countWhenUp 67 = .ok (.getfield 74, 3) := by decide +kernel
theorem dX8_countWhenUp_70 : decode cX8_countWhenUp 70 = .ok (.getfield 110, 3) := by decide +kernel
theorem dX8_countWhenUp_73 : decode cX8_countWhenUp 73 = .ok (.ireturn, 1) := by decide +kernel
theorem dX8_countWhenUp_74 : decode cX8_countWhenUp 74 = .ok (.aload_n 0, 1) := by decide +kernel
theorem dX8_countWhenUp_75 : decode cX8_countWhenUp 75 = .ok (.getfield 74, 3) := by decide +kernel
theorem dX8_countWhenUp_78 : decode cX8_countWhenUp 78 = .ok (.getfield 103, 3) := by decide +kernel
theorem dX8_countWhenUp_81 : decode cX8_countWhenUp 81 = .ok (.invokestatic 211, 3) := by decide +kernel
theorem dX8_countWhenUp_84 : decode cX8_countWhenUp 84 = .ok (.ireturn, 1) := by decide +kernel
theorem dX8_countWhenUp_85 : decode cX8_countWhenUp 85 = .ok (.aload_n 0, 1) := by decide +kernel
theorem dX8_countWhenUp_86 : decode cX8_countWhenUp 86 = .ok (.aload_n 0, 1) := by decide +kernel
theorem dX8_countWhenUp_87 : decode cX8_countWhenUp 87 = .ok (.getfield 140, 3) := by decide +kernel
theorem dX8_countWhenUp_90 : decode cX8_countWhenUp 90 = .ok (.invokevirtual 143, 3) := by decide +kernel
theorem dX8_countWhenUp_93 : decode cX8_countWhenUp 93 = .ok (.getfield 127, 3) := by decide +kernel
theorem dX8_countWhenUp_96 : decode cX8_countWhenUp 96 = .ok (.ireturn, 1) := by decide +kernel
theorem dX8_countWhenUp_97 : decode cX8_countWhenUp 97 = .ok (.iconst 0, 1) := by decide +kernel
theorem dX8_countWhenUp_98 : decode cX8_countWhenUp 98 = .ok (.ireturn, 1) := by decide +kernel
theorem dX8_decay_0 : decode cX8_decay 0 = .ok (.aload_n 0, 1) := by decide +kernel
theorem dX8_decay_1 : decode cX8_decay 1 = .ok (.getfield 28, 3) := by decide +kernel
theorem dX8_decay_4 : decode cX8_decay 4 = .ok (.iload_n 1, 1) := by decide +kernel
theorem dX8_decay_5 : decode cX8_decay 5 = .ok (.iload_n 2, 1) := by decide +kernel
theorem dX8_decay_6 : decode cX8_decay 6 = .ok (.iload_n 3, 1) := by decide +kernel
theorem dX8_decay_7 : decode cX8_decay 7 = .ok (.invokevirtual 188, 3) := by decide +kernel
theorem dX8_decay_10 : decode cX8_decay 10 = .ok (.ireturn, 1) := by decide +kernel
theorem dX8_get_0 : decode cX8_get 0 = .ok (.aload_n 0, 1) := by decide +kernel
theorem dX8_get_1 : decode cX8_get 1 = .ok (.getfield 77, 3) := by decide +kernel
theorem dX8_get_4 : decode cX8_get 4 = .ok (.ifCond .eq 7, 3) := by decide +kernel
theorem dX8_get_7 : decode cX8_get 7 = .ok (.iconst 0, 1) := by decide +kernel
theorem dX8_get_8 : decode cX8_get 8 = .ok (.goto 22, 3) := by decide +kernel
theorem dX8_get_11 : decode cX8_get 11 = .ok (.aload_n 0, 1) := by decide +kernel
theorem dX8_get_12 : decode cX8_get 12 = .ok (.getfield 35, 3) := by decide +kernel
theorem dX8_get_15 : decode cX8_get 15 = .ok (.aload_n 0, 1) := by decide +kernel
theorem dX8_get_16 : decode cX8_get 16 = .ok (.getfield 74, 3) := by decide +kernel
theorem dX8_get_19 : decode cX8_get 19 = .ok (.getfield 110, 3) := by decide +kernel
theorem dX8_get_22 : decode cX8_get 22 = .ok (.iload_n 1, 1) := by decide +kernel
theorem dX8_get_23 : decode cX8_get 23 = .ok (.invokevirtual 114, 3) := by decide +kernel
theorem dX8_get_26 : decode cX8_get 26 = .ok (.iload_n 1, 1) := by decide +kernel
theorem dX8_get_27 : decode cX8_get 27 = .ok (.invokevirtual 136, 3) := by decide +kernel
theorem dX8_get_30 : decode cX8_get 30 = .ok (.ireturn, 1) := by decide +kernel
theorem dX8_key_0 : decode cX8_key 0 = .ok (.aload_n 0, 1) := by decide +kernel
theorem dX8_key_1 : decode cX8_key 1 = .ok (.getfield 77, 3) := by decide +kernel
theorem dX8_key_4 : decode cX8_key 4 = .ok (.ifCond .ne 7, 3) := by decide +kernel
theorem dX8_key_7 : decode cX8_key 7 = .ok (.iload_n 1, 1) := by decide +kernel
theorem dX8_key_8 : decode cX8_key 8 = .ok (.ifCond .ge 5, 3) := by decide +kernel
theorem dX8_key_11 : decode cX8_key 11 = .ok (.iconst 0, 1) := by decide +kernel
theorem dX8_key_12 : decode cX8_key 12 = .ok (.ireturn, 1) := by decide +kernel
theorem dX8_key_13 : decode cX8_key 13 = .ok (.aload_n 0, 1) := by decide +kernel
theorem dX8_key_14 : decode cX8_key 14 = .ok (.getfield 35, 3) := by decide +kernel
theorem dX8_key_17 : decode cX8_key 17 = .ok (.aload_n 0, 1) := by decide +kernel
theorem dX8_key_18 : decode cX8_key 18 = .ok (.getfield 74, 3) := by decide +kernel
theorem dX8_key_21 : decode cX8_key 21 = .ok (.getfield 110, 3) := by decide +kernel
theorem dX8_key_24 : decode cX8_key 24 = .ok (.invokevirtual 147, 3) := by decide +kernel
theorem dX8_key_27 : decode cX8_key 27 = .ok (.iload_n 1, 1) := by decide +kernel
theorem dX8_key_28 : decode cX8_key 28 = .ok (.istore_n 2, 1) := by decide +kernel
theorem dX8_key_29 : decode cX8_key 29 = .ok (.iconst 0, 1) := by decide +kernel
theorem dX8_key_30 : decode cX8_key 30 = .ok (.istore_n 3, 1) := by decide +kernel
theorem dX8_key_31 : decode cX8_key 31 = .ok (.iload_n 3, 1) := by decide +kernel
theorem dX8_key_32 : decode cX8_key 32 = .ok (.aload_n 0, 1) := by decide +kernel
theorem dX8_key_33 : decode cX8_key 33 = .ok (.getfield 35, 3) := by decide +kernel
theorem dX8_key_36 : decode cX8_key 36 = .ok (.invokevirtual 150, 3) := by decide +kernel
theorem dX8_key_39 : decode cX8_key 39 = .ok (.if_icmp .ge 43, 3) := by decide +kernel
theorem dX8_key_42 : decode cX8_key 42 = .ok (.aload_n 0, 1) := by decide +kernel
theorem dX8_key_43 : decode cX8_key 43 = .ok (.getfield 35, 3) := by decide +kernel
theorem dX8_key_46 : decode cX8_key 46 = .ok (.iload_n 3, 1) := by decide +kernel
theorem dX8_key_47 : decode cX8_key 47 = .ok (.invokevirtual 154, 3) := by decide +kernel
theorem dX8_key_50 : decode cX8_key 50 = .ok (.astore 4, 2) := by decide +kernel
theorem dX8_key_52 : decode cX8_key 52 = .ok (.iload_n 2, 1) := by decide +kernel
theorem dX8_key_53 : decode cX8_key 53 = .ok (.aload 4, 2) := by decide +kernel
theorem dX8_key_55 : decode cX8_key 55 = .ok (.getfield 161, 3) := by decide +kernel
theorem dX8_key_58 : decode cX8_key 58 = .ok (.if_icmp .ge 10, 3) := by decide +kernel
theorem dX8_key_61 : decode cX8_key 61 = .ok (.aload 4, 2) := by decide +kernel
theorem dX8_key_63 : decode cX8_key 63 = .ok (.iload_n 2, 1) := by decide +kernel
theorem dX8_key_64 : decode cX8_key 64 = .ok (.invokevirtual 164, 3) := by decide +kernel
theorem dX8_key_67 : decode cX8_key 67 = .ok (.ireturn, 1) := by decide +kernel
theorem dX8_key_68 : decode cX8_key 68 = .ok (.iload_n 2, 1) := by decide +kernel
theorem dX8_key_69 : decode cX8_key 69 = .ok (.aload 4, 2) := by decide +kernel
theorem dX8_key_71 : decode cX8_key 71 = .ok (.getfield 161, 3) := by decide +kernel
theorem dX8_key_74 : decode cX8_key 74 = .ok (.isub, 1) := by decide +kernel
theorem dX8_key_75 : decode cX8_key 75 = .ok (.istore_n 2, 1) := by decide +kernel
theorem dX8_key_76 : decode cX8_key 76 = .ok (.iinc 3 1, 3) := by decide +kernel
theorem dX8_key_79 : decode cX8_key 79 = .ok (.goto (-48), 3) := by decide +kernel
theorem dX8_key_82 : decode cX8_key 82 = .ok (.iconst 0, 1) := by decide +kernel
theorem dX8_key_83 : decode cX8_key 83 = .ok (.ireturn, 1) := by decide +kernel
theorem dX8_rank_0 : decode cX8_rank 0 = .ok (.aload_n 0, 1) := by decide +kernel
theorem dX8_rank_1 : decode cX8_rank 1 = .ok (.getfield 77, 3) := by decide +kernel
theorem dX8_rank_4 : decode cX8_rank 4 = .ok (.ifCond .eq 5, 3) := by decide +kernel
theorem dX8_rank_7 : decode cX8_rank 7 = .ok (.iconst (-1), 1) := by decide +kernel
theorem dX8_rank_8 : decode cX8_rank 8 = .ok (.ireturn, 1) := by decide +kernel
theorem dX8_rank_9 : decode cX8_rank 9 = .ok (.aload_n 0, 1) := by decide +kernel
theorem dX8_rank_10 : decode cX8_rank 10 = .ok (.getfield 35, 3) := by decide +kernel
theorem dX8_rank_13 : decode cX8_rank 13 = .ok (.aload_n 0, 1) := by decide +kernel
theorem dX8_rank_14 : decode cX8_rank 14 = .ok (.getfield 74, 3) := by decide +kernel
theorem dX8_rank_17 : decode cX8_rank 17 = .ok (.getfield 110, 3) := by decide +kernel
theorem dX8_rank_20 : decode cX8_rank 20 = .ok (.invokevirtual 147, 3) := by decide +kernel
theorem dX8_rank_23 : decode cX8_rank 23 = .ok (.iconst 0, 1) := by decide +kernel
theorem dX8_rank_24 : decode cX8_rank 24 = .ok (.istore_n 2, 1) := by decide +kernel
theorem dX8_rank_25 : decode cX8_rank 25 = .ok (.iconst 0, 1) := by decide +kernel
theorem dX8_rank_26 : decode cX8_rank 26 = .ok (.istore_n 3, 1) := by decide +kernel
theorem dX8_rank_27 : decode cX8_rank 27 = .ok (.iload_n 3, 1) := by decide +kernel
theorem dX8_rank_28 : decode cX8_rank 28 = .ok (.aload_n 0, 1) := by decide +kernel
theorem dX8_rank_29 : decode cX8_rank 29 = .ok (.getfield 35, 3) := by decide +kernel
theorem dX8_rank_32 : decode cX8_rank 32 = .ok (.invokevirtual 150, 3) := by decide +kernel
theorem dX8_rank_35 : decode cX8_rank 35 = .ok (.if_icmp .ge 24, 3) := by decide +kernel
theorem dX8_rank_38 : decode cX8_rank 38 = .ok (.iload_n 2, 1) := by decide +kernel
theorem dX8_rank_39 : decode cX8_rank 39 = .ok (.aload_n 0, 1) := by decide +kernel
theorem dX8_rank_40 : decode cX8_rank 40 = .ok (.getfield 35, 3) := by decide +kernel
theorem dX8_rank_43 : decode cX8_rank 43 = .ok (.iload_n 3, 1) := by decide +kernel
theorem dX8_rank_44 : decode cX8_rank 44 = .ok (.invokevirtual 154, 3) := by decide +kernel
theorem dX8_rank_47 : decode cX8_rank 47 = .ok (.iload_n 1, 1) := by decide +kernel
theorem dX8_rank_48 : decode cX8_rank 48 = .ok (.invokevirtual 158, 3) := by decide +kernel
theorem dX8_rank_51 : decode cX8_rank 51 = .ok (.iadd, 1) := by decide +kernel
theorem dX8_rank_52 : decode cX8_rank 52 = .ok (.istore_n 2, 1) := by decide +kernel
theorem dX8_rank_53 : decode cX8_rank 53 = .ok (.iinc 3 1, 3) := by decide +kernel
theorem dX8_rank_56 : decode cX8_rank 56 = .ok (.goto (-29), 3) := by decide +kernel
theorem dX8_rank_59 : decode cX8_rank 59 = .ok (.iload_n 2, 1) := by decide +kernel
theorem dX8_rank_60 : decode cX8_rank 60 = .ok (.ireturn, 1) := by decide +kernel
theorem dX8_size_0 : decode cX8_size 0 = .ok (.aload_n 0, 1) := by decide +kernel
theorem dX8_size_1 : decode cX8_size 1 = .ok (.getfield 77, 3) := by decide +kernel
theorem dX8_size_4 : decode cX8_size 4 = .ok (.ifCond .eq 7, 3) := by decide +kernel
theorem dX8_size_7 : decode cX8_size 7 = .ok (.iconst (-1), 1) := by decide +kernel
theorem dX8_size_8 : decode cX8_size 8 = .ok (.goto 10, 3) := by decide +kernel
theorem dX8_size_11 : decode cX8_size 11 = .ok (.aload_n 0, 1) := by decide +kernel
theorem dX8_size_12 : decode cX8_size 12 = .ok (.getfield 74, 3) := by decide +kernel
theorem dX8_size_15 : decode cX8_size 15 = .ok (.getfield 127, 3) := by decide +kernel
theorem dX8_size_18 : decode cX8_size 18 = .ok (.ireturn, 1) := by decide +kernel
theorem dX8_sum_0 : decode cX8_sum 0 = .ok (.aload_n 0, 1) := by decide +kernel
theorem dX8_sum_1 : decode cX8_sum 1 = .ok (.getfield 77, 3) := by decide +kernel
theorem dX8_sum_4 : decode cX8_sum 4 = .ok (.ifCond .ne 8, 3) := by decide +kernel
theorem dX8_sum_7 : decode cX8_sum 7 = .ok (.iload_n 1, 1) := by decide +kernel
theorem dX8_sum_8 : decode cX8_sum 8 = .ok (.iload_n 2, 1) := by decide +kernel
theorem dX8_sum_9 : decode cX8_sum 9 = .ok (.if_icmp .le 5, 3) := by decide +kernel
theorem dX8_sum_12 : decode cX8_sum 12 = .ok (.iconst 0, 1) := by decide +kernel
theorem dX8_sum_13 : decode cX8_sum 13 = .ok (.ireturn, 1) := by decide +kernel
theorem dX8_sum_14 : decode cX8_sum 14 = .ok (.aload_n 0, 1) := by decide +kernel
theorem dX8_sum_15 : decode cX8_sum 15 = .ok (.getfield 35, 3) := by decide +kernel
theorem dX8_sum_18 : decode cX8_sum 18 = .ok (.aload_n 0, 1) := by decide +kernel
theorem dX8_sum_19 : decode cX8_sum 19 = .ok (.getfield 74, 3) := by decide +kernel
theorem dX8_sum_22 : decode cX8_sum 22 = .ok (.getfield 110, 3) := by decide +kernel
theorem dX8_sum_25 : decode cX8_sum 25 = .ok (.invokevirtual 147, 3) := by decide +kernel
theorem dX8_sum_28 : decode cX8_sum 28 = .ok (.iconst 0, 1) := by decide +kernel
theorem dX8_sum_29 : decode cX8_sum 29 = .ok (.istore_n 3, 1) := by decide +kernel
theorem dX8_sum_30 : decode cX8_sum 30 = .ok (.iconst 0, 1) := by decide +kernel
theorem dX8_sum_31 : decode cX8_sum 31 = .ok (.istore 4, 2) := by decide +kernel
theorem dX8_sum_33 : decode cX8_sum 33 = .ok (.iload 4, 2) := by decide +kernel
theorem dX8_sum_35 : decode cX8_sum 35 = .ok (.aload_n 0, 1) := by decide +kernel
theorem dX8_sum_36 : decode cX8_sum 36 = .ok (.getfield 35, 3) := by decide +kernel
theorem dX8_sum_39 : decode cX8_sum 39 = .ok (.invokevirtual 150, 3) := by decide +kernel
theorem dX8_sum_42 : decode cX8_sum 42 = .ok (.if_icmp .ge 26, 3) := by decide +kernel
theorem dX8_sum_45 : decode cX8_sum 45 = .ok (.iload_n 3, 1) := by decide +kernel
theorem dX8_sum_46 : decode cX8_sum 46 = .ok (.aload_n 0, 1) := by decide +kernel
theorem dX8_sum_47 : decode cX8_sum 47 = .ok (.getfield 35, 3) := by decide +kernel
theorem dX8_sum_50 : decode cX8_sum 50 = .ok (.iload 4, 2) := by decide +kernel
theorem dX8_sum_52 : decode cX8_sum 52 = .ok (.invokevirtual 154, 3) := by decide +kernel
theorem dX8_sum_55 : decode cX8_sum 55 = .ok (.iload_n 1, 1) := by decide +kernel
theorem dX8_sum_56 : decode cX8_sum 56 = .ok (.iload_n 2, 1) := by decide +kernel
theorem dX8_sum_57 : decode cX8_sum 57 = .ok (.invokevirtual 167, 3) := by decide +kernel
theorem dX8_sum_60 : decode cX8_sum 60 = .ok (.iadd, 1) := by decide +kernel
theorem dX8_sum_61 : decode cX8_sum 61 = .ok (.istore_n 3, 1) := by decide +kernel
theorem dX8_sum_62 : decode cX8_sum 62 = .ok (.iinc 4 1, 3) := by decide +kernel
theorem dX8_sum_65 : decode cX8_sum 65 = .ok (.goto (-32), 3) := by decide +kernel
theorem dX8_sum_68 : decode cX8_sum 68 = .ok (.iload_n 3, 1) := by decide +kernel
theorem dX8_sum_69 : decode cX8_sum 69 = .ok (.ireturn, 1) := by decide +kernel
theorem dX8_was_0 : decode cX8_was 0 = .ok (.aload_n 0, 1) := by decide +kernel
theorem dX8_was_1 : decode cX8_was 1 = .ok (.getfield 77, 3) := by decide +kernel
theorem dX8_was_4 : decode cX8_was 4 = .ok (.ifCond .eq 7, 3) := by decide +kernel
theorem dX8_was_7 : decode cX8_was 7 = .ok (.iconst 0, 1) := by decide +kernel
theorem dX8_was_8 : decode cX8_was 8 = .ok (.goto 26, 3) := by decide +kernel
theorem dX8_was_11 : decode cX8_was 11 = .ok (.aload_n 0, 1) := by decide +kernel
theorem dX8_was_12 : decode cX8_was 12 = .ok (.getfield 35, 3) := by decide +kernel
theorem dX8_was_15 : decode cX8_was 15 = .ok (.aload_n 0, 1) := by decide +kernel
theorem dX8_was_16 : decode cX8_was 16 = .ok (.aload_n 0, 1) := by decide +kernel
theorem dX8_was_17 : decode cX8_was 17 = .ok (.getfield 140, 3) := by decide +kernel
theorem dX8_was_20 : decode cX8_was 20 = .ok (.invokevirtual 143, 3) := by decide +kernel
theorem dX8_was_23 : decode cX8_was 23 = .ok (.getfield 110, 3) := by decide +kernel
theorem dX8_was_26 : decode cX8_was 26 = .ok (.iload_n 1, 1) := by decide +kernel
theorem dX8_was_27 : decode cX8_was 27 = .ok (.invokevirtual 114, 3) := by decide +kernel
theorem dX8_was_30 : decode cX8_was 30 = .ok (.iload_n 1, 1) := by decide +kernel
theorem dX8_was_31 : decode cX8_was 31 = .ok (.invokevirtual 136, 3) := by decide +kernel
theorem dX8_was_34 : decode cX8_was 34 = .ok (.ireturn, 1) := by decide +kernel
theorem dX8_word_0 : decode cX8_word 0 = .ok (.aload_n 0, 1) := by decide +kernel
theorem dX8_word_1 : decode cX8_word 1 = .ok (.getfield 28, 3) := by decide +kernel
theorem dX8_word_4 : decode cX8_word 4 = .ok (.iload_n 1, 1) := by decide +kernel
theorem dX8_word_5 : decode cX8_word 5 = .ok (.iload_n 2, 1) := by decide +kernel
theorem dX8_word_6 : decode cX8_word 6 = .ok (.invokevirtual 192, 3) := by decide +kernel
theorem dX8_word_9 : decode cX8_word 9 = .ok (.ireturn, 1) := by decide +kernel
def v_X8_get : List Cond := .code yX8_get cX8_get 2 (some .int) :: ([.fieldLink RX8 77 "TwinRoots" "down" "Z", .fieldLink RX8 35 "TwinRoots" "forest" "LTwinRoots$Forest;", .fieldLink RX8 74 "TwinRoots" "working" "LTwinRoots$Told;", .fieldLink RX8 110 "TwinRoots$Told" "top" "I", .code yX2_leafFor cX2_leafFor 5 (some (.object "TwinRoots$Page")), .code yX2_page cX2_page 2 (some (.object "TwinRoots$Page")), .fieldLink RX2 20 "TwinRoots$Forest" "empty" "LTwinRoots$Page;", .fieldLink RX2 11 "TwinRoots$Forest" "pages" "[LTwinRoots$Page;", .methodLink RX2 28 yX2_page, .instanceMethod yX2_page, .selects RX2 yX2_page yX2_page, .initialized RX2, .fieldLink RX2 32 "TwinRoots$Page" "leaf" "Z", .code yX4_childFor cX4_childFor 3 (some .int), .fieldLink RX4 22 "TwinRoots$Page" "many" "I", .code yX4_keyAt cX4_keyAt 2 (some .int), .fieldLink RX4 15 "TwinRoots$Page" "keys" "[I", .methodLink RX4 34 yX4_keyAt, .instanceMethod yX4_keyAt, .selects RX4 yX4_keyAt yX4_keyAt, .initialized RX4, .methodLink RX2 36 yX4_childFor, .instanceMethod yX4_childFor, .selects RX4 yX4_childFor yX4_childFor, .code yX4_refAt cX4_refAt 2 (some .int), .fieldLink RX4 19 "TwinRoots$Page" "refs" "[I", .methodLink RX2 40 yX4_refAt, .instanceMethod yX4_refAt, .selects RX4 yX4_refAt yX4_refAt, .methodLink RX8 114 yX2_leafFor, .instanceMethod yX2_leafFor, .selects RX2 yX2_leafFor yX2_leafFor, .code yX4_valueOf cX4_valueOf 2 (some .int), .code yX4_has cX4_has 3 (some .boolean), .code yX4_placeOf cX4_placeOf 3 (some .int), .methodLink RX4 48 yX4_placeOf, .instanceMethod yX4_placeOf, .selects RX4 yX4_placeOf yX4_placeOf, .methodLink RX4 51 yX4_has, .instanceMethod yX4_has, .selects RX4 yX4_has yX4_has, .methodLink RX4 38 yX4_refAt, .methodLink RX8 136 yX4_valueOf, .instanceMethod yX4_valueOf, .selects RX4 yX4_valueOf yX4_valueOf] ++ (wsX80 ++ (wsX70 ++ (wsX20 ++ (wsX40 ++ ([]))))))
set_option maxRecDepth 20000 in
theorem g_X8_get_X2_leafFor : GoodIn v_X8_get (wsV RX8 114 RX2 yX2_leafFor v_X2_leafFor) := goodIn_r _ [30, 31, 32, 12, 5, 6, 7, 8, 9, 10, 11, 12, 13, 14, 15, 16, 17, 18, 19, 20, 21, 22, 23, 24, 25, 26, 27, 28, 29, 61, 62, 63, 64, 65, 66, 67, 68, 69, 70] (by decide +kernel) (by decide +kernel)
set_option maxRecDepth 20000 in
theorem g_X8_get_X4_valueOf : GoodIn v_X8_get (wsV RX8 136 RX4 yX4_valueOf v_X4_valueOf) := goodIn_r _ [43, 44, 45, 21, 33, 34, 35, 15, 16, 17, 18, 19, 20, 21, 36, 37, 38, 39, 40, 41, 25, 26, 42, 28, 29, 67, 68, 69, 70] (by decide +kernel) (by decide +kernel)
set_option maxHeartbeats 4000000 in
set_option maxRecDepth 100000 in
/-- X8_get -/
theorem c_X8_get (l : Launch) (dC : Nat → ClassId) (dI : Nat → Nat → Nat) (sz : Nat) (ax : Nat) (hd : Nat) (hf : Nat) (hs : Nat) (hp : Nat) (he : Nat) (q0 : Nat) (q1 : Nat) (qk : Nat) (qp : Nat) (qe : Nat) (ql : Nat) (b : Nat) (lo : Nat) (le : Nat) (lt : Int32) (dn : Int32) (dp : Int32) (c1 : Int32) (c2 : Int32) (c3 : Int32) (fx : Int64) (c4 : Int64) (fp : Nat → Option Nat) (cI : ClassId) (cO : ClassId) (G : pgG) (Pg : List Nat) (S : pgS) (p0 : Int32) (zb : b ≤ 64) (hI : pgI G Pg S) (hpg : ∀ i, i < b → ∃ a, a ∈ Pg ∧ (G a).2.2.2 = 0 ∧ fp i = some a) (hm_qe : qe ∈ Pg) (ht_qe : (G qe).2.2.2 = 0) : Met l yX8_get v_X8_get ({ frames := 4, cells := 0, slots := 0, locals := 86 } : Room) (va_Pc [.ref ax, .int p0] (fun U => U.heap.size = sz ∧ va_P (dC, dI) vwCl ([(ax, .inr (8, [.ref hd, .ref hf, .ref hs, .ref hp, .ref he, .ref q0, .ref q1, .ref qk, .int lt, .long fx, .int dn])), (hf, .inr (2, [.int dp, .ref qp, .ref qe, .ref ql, .int (nI lo), .int (nI le)])), (qp, .inl (cO, b, .inr (.inr (.inr (.inr fp))))), (qk, .inr (7, [.int c1, .int c2, .int c3, .long c4]))] ++ pool G cI Pg S) U.heap ∧ va_K (dC, dI) vwCl [(cO, .object RX4), (cI, .int)] U ∧ va_D (fun _ => True) ([(ax, .inr (8, [.ref hd, .ref hf, .ref hs, .ref hp, .ref he, .ref q0, .ref q1, .ref qk, .int lt, .long fx, .int dn])), (hf, .inr (2, [.int dp, .ref qp, .ref qe, .ref ql, .int (nI lo), .int (nI le)])), (qp, .inl (cO, b, .inr (.inr (.inr (.inr fp))))), (qk, .inr (7, [.int c1, .int c2, .int c3, .long c4]))] ++ pool G cI Pg S))) (va_Qi (fun (r : Int32) (_ : Unit) => True) (fun (_ : Unit) (t : State) => va_P (dC, dI) vwCl ([(ax, .inr (8, [.ref hd, .ref hf, .ref hs, .ref hp, .ref he, .ref q0, .ref q1, .ref qk, .int lt, .long fx, .int dn])), (hf, .inr (2, [.int dp, .ref qp, .ref qe, .ref ql, .int (nI lo), .int (nI le)])), (qp, .inl (cO, b, .inr (.inr (.inr (.inr fp))))), (qk, .inr (7, [.int c1, .int c2, .int c3, .long c4]))] ++ pool G cI Pg S) t.heap ∧ va_K (dC, dI) vwCl [(cO, .object RX4), (cI, .int)] t ∧ va_D (va_A ([(ax, .inr (8, [.ref hd, .ref hf, .ref hs, .ref hp, .ref he, .ref q0, .ref q1, .ref qk, .int lt, .long fx, .int dn])), (hf, .inr (2, [.int dp, .ref qp, .ref qe, .ref ql, .int (nI lo), .int (nI le)])), (qp, .inl (cO, b, .inr (.inr (.inr (.inr fp))))), (qk, .inr (7, [.int c1, .int c2, .int c3, .long c4]))] ++ pool G cI Pg S) sz) ([(ax, .inr (8, [.ref hd, .ref hf, .ref hs, .ref hp, .ref he, .ref q0, .ref q1, .ref qk, .int lt, .long fx, .int dn])), (hf, .inr (2, [.int dp, .ref qp, .ref qe, .ref ql, .int (nI lo), .int (nI le)])), (qp, .inl (cO, b, .inr (.inr (.inr (.inr fp))))), (qk, .inr (7, [.int c1, .int c2, .int c3, .long c4]))] ++ pool G cI Pg S)) (va_A ([(ax, .inr (8, [.ref hd, .ref hf, .ref hs, .ref hp, .ref he, .ref q0, .ref q1, .ref qk, .int lt, .long fx, .int dn])), (hf, .inr (2, [.int dp, .ref qp, .ref qe, .ref ql, .int (nI lo), .int (nI le)])), (qp, .inl (cO, b, .inr (.inr (.inr (.inr fp))))), (qk, .inr (7, [.int c1, .int c2, .int c3, .long c4]))] ++ pool G cI Pg S) sz)) 0 0 (va_A ([(ax, .inr (8, [.ref hd, .ref hf, .ref hs, .ref hp, .ref he, .ref q0, .ref q1, .ref qk, .int lt, .long fx, .int dn])), (hf, .inr (2, [.int dp, .ref qp, .ref qe, .ref ql, .int (nI lo), .int (nI le)])), (qp, .inl (cO, b, .inr (.inr (.inr (.inr fp))))), (qk, .inr (7, [.int c1, .int c2, .int c3, .long c4]))] ++ pool G cI Pg S) sz) := by
  refine Met.ofW (cc := cX8_get) (maxL := 2) (ret := (some .int)) (by decide) rfl ?_
  intro p e s m args below meth c s₁ B hml hv
  obtain ⟨rfl, hsz, hP, hK, hD0⟩ := hv
  have hx := B.exec
  have hb := B.bytes
  have hr := B.returns
  have hts := atoms_spec (ws := v_X8_get) B.pre
  have hown : s.vm.findClass RX8 = some m.cls := findClass_of_methodNamed B.named
  have hlocks := B.notSynchronized
  subst hsz
  have hD := hD0.self (sz := s.heap.size)
  generalize hAe : va_A ([(ax, .inr (8, [.ref hd, .ref hf, .ref hs, .ref hp, .ref he, .ref q0, .ref q1, .ref qk, .int lt, .long fx, .int dn])), (hf, .inr (2, [.int dp, .ref qp, .ref qe, .ref ql, .int (nI lo), .int (nI le)])), (qp, .inl (cO, b, .inr (.inr (.inr (.inr fp))))), (qk, .inr (7, [.int c1, .int c2, .int c3, .long c4]))] ++ pool G cI Pg S) s.heap.size = A at hD ⊢
  have hA : ∀ q : Nat, s.heap.size ≤ q → A q := fun q h => by rw [← hAe]; exact Or.inr h
  have hS : va_S A s.heap s.heap [] := va_S.rf
  have hP : va_P (dC, dI) vwCl ([(ax, .inr (8, [.ref hd, .ref hf, .ref hs, .ref hp, .ref he, .ref q0, .ref q1, .ref qk, .int lt, .long fx, .int dn])), (hf, .inr (2, [.int dp, .ref qp, .ref qe, .ref ql, .int (nI lo), .int (nI le)])), (qp, .inl (cO, b, .inr (.inr (.inr (.inr fp))))), (qk, .inr (7, [.int c1, .int c2, .int c3, .long c4]))] ++ pool G cI Pg S) s.heap := hP
  have hl := lv_entry ([.ref ax, .int p0]) (n := 2) (Nat.le_of_ble_eq_true rfl)
  rw [lg_entry_eq]
  generalize (lg_sl ([.ref ax, .int p0]) ++ List.replicate (2 - (lg_sl ([.ref ax, .int p0])).length) Slot.unset).toArray = ls at hl ⊢
  have hl : lv_has ls 2 [(0, .ref ax), (1, .int p0)] := hl
  have k_1 := (fun _ h => List.mem_cons_of_mem _ (List.mem_append_right _ (List.mem_append_left _ h)) : ∀ w ∈ wsX80, w ∈ v_X8_get)
  have k_2 := hts (.fieldLink RX8 77 "TwinRoots" "down" "Z") (List.mem_of_getElem? (i := 1) rfl)
  have k_3 := hts (.fieldLink RX8 35 "TwinRoots" "forest" "LTwinRoots$Forest;") (List.mem_of_getElem? (i := 2) rfl)
  have k_4 := hts (.fieldLink RX8 74 "TwinRoots" "working" "LTwinRoots$Told;") (List.mem_of_getElem? (i := 3) rfl)
  have k_5 := (fun _ h => List.mem_cons_of_mem _ (List.mem_append_right _ (List.mem_append_right _ (List.mem_append_left _ h))) : ∀ w ∈ wsX70, w ∈ v_X8_get)
  have k_6 := hts (.fieldLink RX8 110 "TwinRoots$Told" "top" "I") (List.mem_of_getElem? (i := 4) rfl)
  refine lv_aload_n hx hb dX8_get_0 rfl (lv_at hl 0 rfl) ?_
  refine va_get (D := (dC, dI)) (ci := 8) (v := .int dn) (C := RX8) (T := TX8) (N := 11) hx hb hts k_1 hown hK hP 0 rfl rfl 10 (by decide) k_2 (fun _ h9 => h9) rfl dX8_get_1 ?_
  refine lv_if_eq (tgt := 11) hx hb dX8_get_4 (by decide) (fun c_1 => ?_) (fun c_1 => ?_)
  · refine lv_aload_n hx hb dX8_get_11 rfl (lv_at hl 0 rfl) ?_
    refine va_get (D := (dC, dI)) (ci := 8) (v := .ref hf) (C := RX8) (T := TX8) (N := 11) hx hb hts k_1 hown hK hP 0 rfl rfl 1 (by decide) k_3 (fun _ h9 => h9) rfl dX8_get_12 ?_
    refine lv_aload_n hx hb dX8_get_15 rfl (lv_at hl 0 rfl) ?_
    refine va_get (D := (dC, dI)) (ci := 8) (v := .ref qk) (C := RX8) (T := TX8) (N := 11) hx hb hts k_1 hown hK hP 0 rfl rfl 7 (by decide) k_4 (fun _ h9 => h9) rfl dX8_get_16 ?_
    refine va_get (D := (dC, dI)) (ci := 7) (v := .int c2) (C := RX7) (T := TX7) (N := 4) hx hb hts k_5 hown hK hP 3 rfl rfl 1 (by decide) k_6 (fun _ h9 => h9) rfl dX8_get_19 ?_
    refine lv_iload_n hx hb dX8_get_22 rfl (lv_at hl 1 rfl) ?_
    have hPc := hP.part (cx := [(hf, .inr (2, [.int dp, .ref qp, .ref qe, .ref ql, .int (nI lo), .int (nI le)])), (qp, .inl (cO, b, .inr (.inr (.inr (.inr fp)))))]) [1, 2] rfl
    have hDc := hD.part (cx := [(hf, .inr (2, [.int dp, .ref qp, .ref qe, .ref ql, .int (nI lo), .int (nI le)])), (qp, .inl (cO, b, .inr (.inr (.inr (.inr fp)))))]) [1, 2] (by decide) rfl
    have hFc := va_freeP (cx := [(hf, .inr (2, [.int dp, .ref qp, .ref qe, .ref ql, .int (nI lo), .int (nI le)])), (qp, .inl (cO, b, .inr (.inr (.inr (.inr fp)))))]) hD hS hA [1, 2] rfl
    have hKc := hK.sub (tys' := [(cO, .object RX4), (cI, .int)]) [0, 1] rfl
    refine va_callr (va_runV (As := [.int c2, .int p0]) (rest := []) ⟨hx, hb, hml, hown, hts⟩ (c_X2_leafFor l dC dI s.heap.size hf qp qe ql b lo le dp cO fp G Pg cI S c2 p0 (by first | assumption | omega | decide) (by first | assumption | omega | decide) (by first | assumption | omega | decide) (by first | assumption | omega | decide) (by first | assumption | omega | decide)) (cwV 2 hts g_X8_get_X2_leafFor rfl rfl rfl (by decide +kernel) ⟨Nat.le_of_ble_eq_true rfl, Nat.le_of_ble_eq_true rfl⟩) ⟨fun a U g mk q => by obtain ⟨q0, q1, qP, qK, qD⟩ := q; exact ⟨q0, q1, qP, va_K.moved (u := U) (U := U.calling g mk a) (Vm.Alike.refl U.vm) qK, qD⟩, va_recv hKc hPc (ci := 2) (q0 := 0) rfl rfl, fun U hU hW => ⟨rfl, by rw [hU], by rw [hU]; exact hPc, va_K.moved hW.alike hKc, hDc.weaken (fun _ _ _ _ => trivial)⟩⟩ rfl rfl hl.1 rfl (lv_room (Nat.le_of_ble_eq_true rfl)) dX8_get_23 ⟨(show 0 + 0 ≤ 0 by omega), (show 0 + 0 ≤ 0 by omega)⟩) hS (fun q _ h => hFc q h) hFc (fun u r_2 t H1 locs ht hvm hw hB hz1 hk1 hS9 => ?_)
    replace hS := hS9
    clear hS9
    obtain ⟨a_3, rfl⟩ : ∃ z, z = u := ⟨_, rfl⟩
    obtain ⟨hra, hP1, hK1, hD1⟩ := hB
    have hra := hra.symm
    subst hra
    rw [ht] at hP1
    replace hK1 := va_K.moved hvm.symm hK1
    try dsimp only at hw
    obtain ⟨hP9, hD9⟩ := va_joinP (wr := [(ax, .inr (8, [.ref hd, .ref hf, .ref hs, .ref hp, .ref he, .ref q0, .ref q1, .ref qk, .int lt, .long fx, .int dn])), (qk, .inr (7, [.int c1, .int c2, .int c3, .long c4]))]) (rx := [(hf, .inr (2, [.int dp, .ref qp, .ref qe, .ref ql, .int (nI lo), .int (nI le)])), (qp, .inl (cO, b, .inr (.inr (.inr (.inr fp)))))]) (pl1 := pool G cI Pg S) hP hD [1, 2] [0, 3] rfl rfl (by decide) (by decide) hk1 hFc hP1 hD1
    replace hP := hP9
    replace hD := hD9
    clear hP9 hD9
    replace hK := (hK.sub (tys' := [(cO, .object RX4), (cI, .int)]) [0, 1] rfl).app hK1
    replace hK : va_K (dC, dI) vwCl [(cO, .object RX4), (cI, .int)] s := hK.sub [0, 1] rfl
    clear hP1 hD1 hK1 hPc hDc hKc hFc hk1 hz1 hvm ht
    generalize H1 = H at hP hS ⊢
    replace hP : va_P (dC, dI) vwCl ([(ax, .inr (8, [.ref hd, .ref hf, .ref hs, .ref hp, .ref he, .ref q0, .ref q1, .ref qk, .int lt, .long fx, .int dn])), (qk, .inr (7, [.int c1, .int c2, .int c3, .long c4])), (hf, .inr (2, [.int dp, .ref qp, .ref qe, .ref ql, .int (nI lo), .int (nI le)])), (qp, .inl (cO, b, .inr (.inr (.inr (.inr fp)))))] ++ pool G cI Pg S) H := hP
    replace hD : va_D A ([(ax, .inr (8, [.ref hd, .ref hf, .ref hs, .ref hp, .ref he, .ref q0, .ref q1, .ref qk, .int lt, .long fx, .int dn])), (qk, .inr (7, [.int c1, .int c2, .int c3, .long c4])), (hf, .inr (2, [.int dp, .ref qp, .ref qe, .ref ql, .int (nI lo), .int (nI le)])), (qp, .inl (cO, b, .inr (.inr (.inr (.inr fp)))))] ++ pool G cI Pg S) := hD
    replace hK : va_K (dC, dI) vwCl [(cO, .object RX4), (cI, .int)] s := hK
    have hm_a_3 := hw.1
    have ht_a_3 := hw.2
    refine lv_iload_n hx hb dX8_get_26 rfl (lv_at hl 1 rfl) ?_
    have hz1_a_3 := (hI a_3 hm_a_3).1
    have hz2_a_3 := (hI a_3 hm_a_3).2.1
    have hz3_a_3 := (hI a_3 hm_a_3).2.2
    have hT9 := in1 hm_a_3
    have hPc : va_P (dC, dI) vwCl [(a_3, .inr (4, [.int (S a_3).1, .int (nI (S a_3).2.1), .ref (G a_3).1, .ref (G a_3).2.1])), MA9 (G a_3).1 cI (G a_3).2.2.1 (S a_3).2.2.1, MA9 (G a_3).2.1 cI (G a_3).2.2.1 (S a_3).2.2.2] H := pool_cut (T := [a_3]) (cx := []) hP hT9 [] rfl
    have hDc : va_D A [(a_3, .inr (4, [.int (S a_3).1, .int (nI (S a_3).2.1), .ref (G a_3).1, .ref (G a_3).2.1])), MA9 (G a_3).1 cI (G a_3).2.2.1 (S a_3).2.2.1, MA9 (G a_3).2.1 cI (G a_3).2.2.1 (S a_3).2.2.2] := pool_cutD (T := [a_3]) (cx := []) hD hT9 (nd1) [] (by decide) rfl
    have hFc : ∀ q, va_A [(a_3, .inr (4, [.int (S a_3).1, .int (nI (S a_3).2.1), .ref (G a_3).1, .ref (G a_3).2.1])), MA9 (G a_3).1 cI (G a_3).2.2.1 (S a_3).2.2.1, MA9 (G a_3).2.1 cI (G a_3).2.2.1 (S a_3).2.2.2] (H).size q → A q := pool_free (T := [a_3]) (cx := []) hD hS hA hT9 [] rfl
    have hKc := hK.sub (tys' := [(cI, .int), (cI, .int)]) [1, 1] rfl
    refine va_calli (va_runV (As := [.int p0]) (rest := []) ⟨hx, hb, hml, hown, hts⟩ (c_X4_valueOf l dC dI H.size a_3 (G a_3).1 (G a_3).2.1 (G a_3).2.2.1 (S a_3).2.1 (S a_3).1 cI cI (S a_3).2.2.1 (S a_3).2.2.2 p0 (by first | assumption | omega | decide) (by first | assumption | omega | decide)) (cwV 1 hts g_X8_get_X4_valueOf rfl rfl rfl (by decide +kernel) ⟨Nat.le_of_ble_eq_true rfl, Nat.le_of_ble_eq_true rfl⟩) ⟨fun a U g mk q => by obtain ⟨q0, q1, qP, qK, qD⟩ := q; exact ⟨q0, q1, qP, va_K.moved (u := U) (U := U.calling g mk a) (Vm.Alike.refl U.vm) qK, qD⟩, va_recv hKc hPc (ci := 4) (q0 := 0) rfl rfl, fun U hU hW => ⟨rfl, by rw [hU], by rw [hU]; exact hPc, va_K.moved hW.alike hKc, hDc.weaken (fun _ _ _ _ => trivial)⟩⟩ rfl rfl hl.1 rfl (lv_room (Nat.le_of_ble_eq_true rfl)) dX8_get_27 ⟨(show 0 + 0 ≤ 0 by omega), (show 0 + 0 ≤ 0 by omega)⟩) hS (fun q _ h => hFc q h) hFc (fun r_4 u t H1 locs ht hvm hw hB hz1 hk1 hS9 => ?_)
    replace hS := hS9
    clear hS9
    obtain ⟨hP1, hK1, hD1⟩ := hB
    rw [ht] at hP1
    replace hK1 := va_K.moved hvm.symm hK1
    try dsimp only at hw
    obtain ⟨hP9, hD9⟩ := pool_join (S := S) (S1 := S) (T := [a_3]) (cx := []) (wr := [(ax, .inr (8, [.ref hd, .ref hf, .ref hs, .ref hp, .ref he, .ref q0, .ref q1, .ref qk, .int lt, .long fx, .int dn])), (qk, .inr (7, [.int c1, .int c2, .int c3, .long c4])), (hf, .inr (2, [.int dp, .ref qp, .ref qe, .ref ql, .int (nI lo), .int (nI le)])), (qp, .inl (cO, b, .inr (.inr (.inr (.inr fp)))))]) (rx := []) hP hD hT9 [] [0, 1, 2, 3] rfl rfl (by decide) (by decide) hk1 hFc hP1 hD1
    replace hP := hP9
    replace hD := hD9
    clear hP9 hD9
    rw [pgJ_same] at hP hD
    replace hK := (hK.sub (tys' := [(cO, .object RX4), (cI, .int)]) [0, 1] rfl).app hK1
    replace hK : va_K (dC, dI) vwCl [(cO, .object RX4), (cI, .int)] s := hK.sub [0, 1] rfl
    clear hP1 hD1 hK1 hPc hDc hKc hFc hk1 hz1 hvm ht
    generalize H1 = H at hP hS ⊢
    replace hP : va_P (dC, dI) vwCl ([(ax, .inr (8, [.ref hd, .ref hf, .ref hs, .ref hp, .ref he, .ref q0, .ref q1, .ref qk, .int lt, .long fx, .int dn])), (qk, .inr (7, [.int c1, .int c2, .int c3, .long c4])), (hf, .inr (2, [.int dp, .ref qp, .ref qe, .ref ql, .int (nI lo), .int (nI le)])), (qp, .inl (cO, b, .inr (.inr (.inr (.inr fp)))))] ++ pool G cI Pg S) H := hP
    replace hD : va_D A ([(ax, .inr (8, [.ref hd, .ref hf, .ref hs, .ref hp, .ref he, .ref q0, .ref q1, .ref qk, .int lt, .long fx, .int dn])), (qk, .inr (7, [.int c1, .int c2, .int c3, .long c4])), (hf, .inr (2, [.int dp, .ref qp, .ref qe, .ref ql, .int (nI lo), .int (nI le)])), (qp, .inl (cO, b, .inr (.inr (.inr (.inr fp)))))] ++ pool G cI Pg S) := hD
    replace hK : va_K (dC, dI) vwCl [(cO, .object RX4), (cI, .int)] s := hK
    have hw_r_4 := hw
    have hP9 := hP.part (cx := [(ax, .inr (8, [.ref hd, .ref hf, .ref hs, .ref hp, .ref he, .ref q0, .ref q1, .ref qk, .int lt, .long fx, .int dn])), (hf, .inr (2, [.int dp, .ref qp, .ref qe, .ref ql, .int (nI lo), .int (nI le)])), (qp, .inl (cO, b, .inr (.inr (.inr (.inr fp))))), (qk, .inr (7, [.int c1, .int c2, .int c3, .long c4]))]) [0, 2, 3, 1] rfl
    have hD9 := hD.part (cx := [(ax, .inr (8, [.ref hd, .ref hf, .ref hs, .ref hp, .ref he, .ref q0, .ref q1, .ref qk, .int lt, .long fx, .int dn])), (hf, .inr (2, [.int dp, .ref qp, .ref qe, .ref ql, .int (nI lo), .int (nI le)])), (qp, .inl (cO, b, .inr (.inr (.inr (.inr fp))))), (qk, .inr (7, [.int c1, .int c2, .int c3, .long c4]))]) [0, 2, 3, 1] (by decide) rfl
    have hK9 := hK.sub (tys' := [(cO, .object RX4), (cI, .int)]) [0, 1] rfl
    exact W.iret (v := r_4) hx hb hr (fun t ht hW => ⟨⟨r_4, (), rfl, trivial, by rw [ht]; exact hP9, va_K.moved hW.alike hK9, hD9⟩, hS.F ht⟩) hS.2.2 dX8_get_30
  · refine lv_iconst (v := 0) hx hb dX8_get_7 (by decide) ?_
    refine lv_goto (tgt := 30) hx hb dX8_get_8 (by decide) ?_
    have hP9 := hP.part (cx := [(ax, .inr (8, [.ref hd, .ref hf, .ref hs, .ref hp, .ref he, .ref q0, .ref q1, .ref qk, .int lt, .long fx, .int dn])), (hf, .inr (2, [.int dp, .ref qp, .ref qe, .ref ql, .int (nI lo), .int (nI le)])), (qp, .inl (cO, b, .inr (.inr (.inr (.inr fp))))), (qk, .inr (7, [.int c1, .int c2, .int c3, .long c4]))]) [0, 1, 2, 3] rfl
    have hD9 := hD.part (cx := [(ax, .inr (8, [.ref hd, .ref hf, .ref hs, .ref hp, .ref he, .ref q0, .ref q1, .ref qk, .int lt, .long fx, .int dn])), (hf, .inr (2, [.int dp, .ref qp, .ref qe, .ref ql, .int (nI lo), .int (nI le)])), (qp, .inl (cO, b, .inr (.inr (.inr (.inr fp))))), (qk, .inr (7, [.int c1, .int c2, .int c3, .long c4]))]) [0, 1, 2, 3] (by decide) rfl
    have hK9 := hK.sub (tys' := [(cO, .object RX4), (cI, .int)]) [0, 1] rfl
    exact W.iret (v := 0) hx hb hr (fun t ht hW => ⟨⟨0, (), rfl, trivial, by rw [ht]; exact hP9, va_K.moved hW.alike hK9, hD9⟩, hS.F ht⟩) hS.2.2 dX8_get_30
def v_X8_contains : List Cond := .code yX8_contains cX8_contains 2 (some .boolean) :: ([.fieldLink RX8 77 "TwinRoots" "down" "Z", .fieldLink RX8 35 "TwinRoots" "forest" "LTwinRoots$Forest;", .fieldLink RX8 74 "TwinRoots" "working" "LTwinRoots$Told;", .fieldLink RX8 110 "TwinRoots$Told" "top" "I", .code yX2_leafFor cX2_leafFor 5 (some (.object "TwinRoots$Page")), .code yX2_page cX2_page 2 (some (.object "TwinRoots$Page")), .fieldLink RX2 20 "TwinRoots$Forest" "empty" "LTwinRoots$Page;", .fieldLink RX2 11 "TwinRoots$Forest" "pages" "[LTwinRoots$Page;", .methodLink RX2 28 yX2_page, .instanceMethod yX2_page, .selects RX2 yX2_page yX2_page, .initialized RX2, .fieldLink RX2 32 "TwinRoots$Page" "leaf" "Z", .code yX4_childFor cX4_childFor 3 (some .int), .fieldLink RX4 22 "TwinRoots$Page" "many" "I", .code yX4_keyAt cX4_keyAt 2 (some .int), .fieldLink RX4 15 "TwinRoots$Page" "keys" "[I", .methodLink RX4 34 yX4_keyAt, .instanceMethod yX4_keyAt, .selects RX4 yX4_keyAt yX4_keyAt, .initialized RX4, .methodLink RX2 36 yX4_childFor, .instanceMethod yX4_childFor, .selects RX4 yX4_childFor yX4_childFor, .code yX4_refAt cX4_refAt 2 (some .int), .fieldLink RX4 19 "TwinRoots$Page" "refs" "[I", .methodLink RX2 40 yX4_refAt, .instanceMethod yX4_refAt, .selects RX4 yX4_refAt yX4_refAt, .methodLink RX8 114 yX2_leafFor, .instanceMethod yX2_leafFor, .selects RX2 yX2_leafFor yX2_leafFor, .code yX4_has cX4_has 3 (some .boolean), .code yX4_placeOf cX4_placeOf 3 (some .int), .methodLink RX4 48 yX4_placeOf, .instanceMethod yX4_placeOf, .selects RX4 yX4_placeOf yX4_placeOf, .methodLink RX8 118 yX4_has, .instanceMethod yX4_has, .selects RX4 yX4_has yX4_has] ++ (wsX80 ++ (wsX70 ++ (wsX20 ++ (wsX40 ++ ([]))))))
set_option maxRecDepth 20000 in
theorem g_X8_contains_X2_leafFor : GoodIn v_X8_contains (wsV RX8 114 RX2 yX2_leafFor v_X2_leafFor) := goodIn_r _ [30, 31, 32, 12, 5, 6, 7, 8, 9, 10, 11, 12, 13, 14, 15, 16, 17, 18, 19, 20, 21, 22, 23, 24, 25, 26, 27, 28, 29, 56, 57, 58, 59, 60, 61, 62, 63, 64, 65] (by decide +kernel) (by decide +kernel)
set_option maxRecDepth 20000 in
theorem g_X8_contains_X4_has : GoodIn v_X8_contains (wsV RX8 118 RX4 yX4_has v_X4_has) := goodIn_r _ [38, 39, 40, 21, 33, 34, 15, 16, 17, 18, 19, 20, 21, 35, 36, 37, 62, 63, 64, 65] (by decide +kernel) (by decide +kernel)
set_option maxHeartbeats 4000000 in
set_option maxRecDepth 100000 in
/-- X8_contains -/
theorem c_X8_contains (l : Launch) (dC : Nat → ClassId) (dI : Nat → Nat → Nat) (sz : Nat) (ax : Nat) (hd : Nat) (hf : Nat) (hs : Nat) (hp : Nat) (he : Nat) (q0 : Nat) (q1 : Nat) (qk : Nat) (qp : Nat) (qe : Nat) (ql : Nat) (b : Nat) (lo : Nat) (le : Nat) (lt : Int32) (dn : Int32) (dp : Int32) (c1 : Int32) (c2 : Int32) (c3 : Int32) (fx : Int64) (c4 : Int64) (fp : Nat → Option Nat) (cI : ClassId) (cO : ClassId) (G : pgG) (Pg : List Nat) (S : pgS) (p0 : Int32) (zb : b ≤ 64) (hI : pgI G Pg S) (hpg : ∀ i, i < b → ∃ a, a ∈ Pg ∧ (G a).2.2.2 = 0 ∧ fp i = some a) (hm_qe : qe ∈ Pg) (ht_qe : (G qe).2.2.2 = 0) : Met l yX8_contains v_X8_contains ({ frames := 3, cells := 0, slots := 0, locals := 67 } : Room) (va_Pc [.ref ax, .int p0] (fun U => U.heap.size = sz ∧ va_P (dC, dI) vwCl ([(ax, .inr (8, [.ref hd, .ref hf, .ref hs, .ref hp, .ref he, .ref q0, .ref q1, .ref qk, .int lt, .long fx, .int dn])), (hf, .inr (2, [.int dp, .ref qp, .ref qe, .ref ql, .int (nI lo), .int (nI le)])), (qp, .inl (cO, b, .inr (.inr (.inr (.inr fp))))), (qk, .inr (7, [.int c1, .int c2, .int c3, .long c4]))] ++ pool G cI Pg S) U.heap ∧ va_K (dC, dI) vwCl [(cO, .object RX4), (cI, .int)] U ∧ va_D (fun _ => True) ([(ax, .inr (8, [.ref hd, .ref hf, .ref hs, .ref hp, .ref he, .ref q0, .ref q1, .ref qk, .int lt, .long fx, .int dn])), (hf, .inr (2, [.int dp, .ref qp, .ref qe, .ref ql, .int (nI lo), .int (nI le)])), (qp, .inl (cO, b, .inr (.inr (.inr (.inr fp))))), (qk, .inr (7, [.int c1, .int c2, .int c3, .long c4]))] ++ pool G cI Pg S))) (va_Qi (fun (r : Int32) (_ : Unit) => True) (fun (_ : Unit) (t : State) => va_P (dC, dI) vwCl ([(ax, .inr (8, [.ref hd, .ref hf, .ref hs, .ref hp, .ref he, .ref q0, .ref q1, .ref qk, .int lt, .long fx, .int dn])), (hf, .inr (2, [.int dp, .ref qp, .ref qe, .ref ql, .int (nI lo), .int (nI le)])), (qp, .inl (cO, b, .inr (.inr (.inr (.inr fp))))), (qk, .inr (7, [.int c1, .int c2, .int c3, .long c4]))] ++ pool G cI Pg S) t.heap ∧ va_K (dC, dI) vwCl [(cO, .object RX4), (cI, .int)] t ∧ va_D (va_A ([(ax, .inr (8, [.ref hd, .ref hf, .ref hs, .ref hp, .ref he, .ref q0, .ref q1, .ref qk, .int lt, .long fx, .int dn])), (hf, .inr (2, [.int dp, .ref qp, .ref qe, .ref ql, .int (nI lo), .int (nI le)])), (qp, .inl (cO, b, .inr (.inr (.inr (.inr fp))))), (qk, .inr (7, [.int c1, .int c2, .int c3, .long c4]))] ++ pool G cI Pg S) sz) ([(ax, .inr (8, [.ref hd, .ref hf, .ref hs, .ref hp, .ref he, .ref q0, .ref q1, .ref qk, .int lt, .long fx, .int dn])), (hf, .inr (2, [.int dp, .ref qp, .ref qe, .ref ql, .int (nI lo), .int (nI le)])), (qp, .inl (cO, b, .inr (.inr (.inr (.inr fp))))), (qk, .inr (7, [.int c1, .int c2, .int c3, .long c4]))] ++ pool G cI Pg S)) (va_A ([(ax, .inr (8, [.ref hd, .ref hf, .ref hs, .ref hp, .ref he, .ref q0, .ref q1, .ref qk, .int lt, .long fx, .int dn])), (hf, .inr (2, [.int dp, .ref qp, .ref qe, .ref ql, .int (nI lo), .int (nI le)])), (qp, .inl (cO, b, .inr (.inr (.inr (.inr fp))))), (qk, .inr (7, [.int c1, .int c2, .int c3, .long c4]))] ++ pool G cI Pg S) sz)) 0 0 (va_A ([(ax, .inr (8, [.ref hd, .ref hf, .ref hs, .ref hp, .ref he, .ref q0, .ref q1, .ref qk, .int lt, .long fx, .int dn])), (hf, .inr (2, [.int dp, .ref qp, .ref qe, .ref ql, .int (nI lo), .int (nI le)])), (qp, .inl (cO, b, .inr (.inr (.inr (.inr fp))))), (qk, .inr (7, [.int c1, .int c2, .int c3, .long c4]))] ++ pool G cI Pg S) sz) := by
  refine Met.ofW (cc := cX8_contains) (maxL := 2) (ret := (some .boolean)) (by decide) rfl ?_
  intro p e s m args below meth c s₁ B hml hv
  obtain ⟨rfl, hsz, hP, hK, hD0⟩ := hv
  have hx := B.exec
  have hb := B.bytes
  have hr := B.returns
  have hts := atoms_spec (ws := v_X8_contains) B.pre
  have hown : s.vm.findClass RX8 = some m.cls := findClass_of_methodNamed B.named
  have hlocks := B.notSynchronized
  subst hsz
  have hD := hD0.self (sz := s.heap.size)
  generalize hAe : va_A ([(ax, .inr (8, [.ref hd, .ref hf, .ref hs, .ref hp, .ref he, .ref q0, .ref q1, .ref qk, .int lt, .long fx, .int dn])), (hf, .inr (2, [.int dp, .ref qp, .ref qe, .ref ql, .int (nI lo), .int (nI le)])), (qp, .inl (cO, b, .inr (.inr (.inr (.inr fp))))), (qk, .inr (7, [.int c1, .int c2, .int c3, .long c4]))] ++ pool G cI Pg S) s.heap.size = A at hD ⊢
  have hA : ∀ q : Nat, s.heap.size ≤ q → A q := fun q h => by rw [← hAe]; exact Or.inr h
  have hS : va_S A s.heap s.heap [] := va_S.rf
  have hP : va_P (dC, dI) vwCl ([(ax, .inr (8, [.ref hd, .ref hf, .ref hs, .ref hp, .ref he, .ref q0, .ref q1, .ref qk, .int lt, .long fx, .int dn])), (hf, .inr (2, [.int dp, .ref qp, .ref qe, .ref ql, .int (nI lo), .int (nI le)])), (qp, .inl (cO, b, .inr (.inr (.inr (.inr fp))))), (qk, .inr (7, [.int c1, .int c2, .int c3, .long c4]))] ++ pool G cI Pg S) s.heap := hP
  have hl := lv_entry ([.ref ax, .int p0]) (n := 2) (Nat.le_of_ble_eq_true rfl)
  rw [lg_entry_eq]
  generalize (lg_sl ([.ref ax, .int p0]) ++ List.replicate (2 - (lg_sl ([.ref ax, .int p0])).length) Slot.unset).toArray = ls at hl ⊢
  have hl : lv_has ls 2 [(0, .ref ax), (1, .int p0)] := hl
  have k_1 := (fun _ h => List.mem_cons_of_mem _ (List.mem_append_right _ (List.mem_append_left _ h)) : ∀ w ∈ wsX80, w ∈ v_X8_contains)
  have k_2 := hts (.fieldLink RX8 77 "TwinRoots" "down" "Z") (List.mem_of_getElem? (i := 1) rfl)
  have k_3 := hts (.fieldLink RX8 35 "TwinRoots" "forest" "LTwinRoots$Forest;") (List.mem_of_getElem? (i := 2) rfl)
  have k_4 := hts (.fieldLink RX8 74 "TwinRoots" "working" "LTwinRoots$Told;") (List.mem_of_getElem? (i := 3) rfl)
  have k_5 := (fun _ h => List.mem_cons_of_mem _ (List.mem_append_right _ (List.mem_append_right _ (List.mem_append_left _ h))) : ∀ w ∈ wsX70, w ∈ v_X8_contains)
  have k_6 := hts (.fieldLink RX8 110 "TwinRoots$Told" "top" "I") (List.mem_of_getElem? (i := 4) rfl)
  refine lv_aload_n hx hb dX8_contains_0 rfl (lv_at hl 0 rfl) ?_
  refine va_get (D := (dC, dI)) (ci := 8) (v := .int dn) (C := RX8) (T := TX8) (N := 11) hx hb hts k_1 hown hK hP 0 rfl rfl 10 (by decide) k_2 (fun _ h9 => h9) rfl dX8_contains_1 ?_
  refine lv_if_ne (tgt := 33) hx hb dX8_contains_4 (by decide) (fun c_1 => ?_) (fun c_1 => ?_)
  · refine lv_iconst (v := 0) hx hb dX8_contains_33 (by decide) ?_
    have hP9 := hP.part (cx := [(ax, .inr (8, [.ref hd, .ref hf, .ref hs, .ref hp, .ref he, .ref q0, .ref q1, .ref qk, .int lt, .long fx, .int dn])), (hf, .inr (2, [.int dp, .ref qp, .ref qe, .ref ql, .int (nI lo), .int (nI le)])), (qp, .inl (cO, b, .inr (.inr (.inr (.inr fp))))), (qk, .inr (7, [.int c1, .int c2, .int c3, .long c4]))]) [0, 1, 2, 3] rfl
    have hD9 := hD.part (cx := [(ax, .inr (8, [.ref hd, .ref hf, .ref hs, .ref hp, .ref he, .ref q0, .ref q1, .ref qk, .int lt, .long fx, .int dn])), (hf, .inr (2, [.int dp, .ref qp, .ref qe, .ref ql, .int (nI lo), .int (nI le)])), (qp, .inl (cO, b, .inr (.inr (.inr (.inr fp))))), (qk, .inr (7, [.int c1, .int c2, .int c3, .long c4]))]) [0, 1, 2, 3] (by decide) rfl
    have hK9 := hK.sub (tys' := [(cO, .object RX4), (cI, .int)]) [0, 1] rfl
    exact W.zret (v := 0) hx hb hr rfl (fun t ht hW => ⟨⟨0, (), rfl, trivial, by rw [ht]; exact hP9, va_K.moved hW.alike hK9, hD9⟩, hS.F ht⟩) hS.2.2 dX8_contains_34
  · refine lv_aload_n hx hb dX8_contains_7 rfl (lv_at hl 0 rfl) ?_
    refine va_get (D := (dC, dI)) (ci := 8) (v := .ref hf) (C := RX8) (T := TX8) (N := 11) hx hb hts k_1 hown hK hP 0 rfl rfl 1 (by decide) k_3 (fun _ h9 => h9) rfl dX8_contains_8 ?_
    refine lv_aload_n hx hb dX8_contains_11 rfl (lv_at hl 0 rfl) ?_
    refine va_get (D := (dC, dI)) (ci := 8) (v := .ref qk) (C := RX8) (T := TX8) (N := 11) hx hb hts k_1 hown hK hP 0 rfl rfl 7 (by decide) k_4 (fun _ h9 => h9) rfl dX8_contains_12 ?_
    refine va_get (D := (dC, dI)) (ci := 7) (v := .int c2) (C := RX7) (T := TX7) (N := 4) hx hb hts k_5 hown hK hP 3 rfl rfl 1 (by decide) k_6 (fun _ h9 => h9) rfl dX8_contains_15 ?_
    refine lv_iload_n hx hb dX8_contains_18 rfl (lv_at hl 1 rfl) ?_
    have hPc := hP.part (cx := [(hf, .inr (2, [.int dp, .ref qp, .ref qe, .ref ql, .int (nI lo), .int (nI le)])), (qp, .inl (cO, b, .inr (.inr (.inr (.inr fp)))))]) [1, 2] rfl
    have hDc := hD.part (cx := [(hf, .inr (2, [.int dp, .ref qp, .ref qe, .ref ql, .int (nI lo), .int (nI le)])), (qp, .inl (cO, b, .inr (.inr (.inr (.inr fp)))))]) [1, 2] (by decide) rfl
    have hFc := va_freeP (cx := [(hf, .inr (2, [.int dp, .ref qp, .ref qe, .ref ql, .int (nI lo), .int (nI le)])), (qp, .inl (cO, b, .inr (.inr (.inr (.inr fp)))))]) hD hS hA [1, 2] rfl
    have hKc := hK.sub (tys' := [(cO, .object RX4), (cI, .int)]) [0, 1] rfl
    refine va_callr (va_runV (As := [.int c2, .int p0]) (rest := []) ⟨hx, hb, hml, hown, hts⟩ (c_X2_leafFor l dC dI s.heap.size hf qp qe ql b lo le dp cO fp G Pg cI S c2 p0 (by first | assumption | omega | decide) (by first | assumption | omega | decide) (by first | assumption | omega | decide) (by first | assumption | omega | decide) (by first | assumption | omega | decide)) (cwV 2 hts g_X8_contains_X2_leafFor rfl rfl rfl (by decide +kernel) ⟨Nat.le_of_ble_eq_true rfl, Nat.le_of_ble_eq_true rfl⟩) ⟨fun a U g mk q => by obtain ⟨q0, q1, qP, qK, qD⟩ := q; exact ⟨q0, q1, qP, va_K.moved (u := U) (U := U.calling g mk a) (Vm.Alike.refl U.vm) qK, qD⟩, va_recv hKc hPc (ci := 2) (q0 := 0) rfl rfl, fun U hU hW => ⟨rfl, by rw [hU], by rw [hU]; exact hPc, va_K.moved hW.alike hKc, hDc.weaken (fun _ _ _ _ => trivial)⟩⟩ rfl rfl hl.1 rfl (lv_room (Nat.le_of_ble_eq_true rfl)) dX8_contains_19 ⟨(show 0 + 0 ≤ 0 by omega), (show 0 + 0 ≤ 0 by omega)⟩) hS (fun q _ h => hFc q h) hFc (fun u r_2 t H1 locs ht hvm hw hB hz1 hk1 hS9 => ?_)
    replace hS := hS9
    clear hS9
    obtain ⟨a_3, rfl⟩ : ∃ z, z = u := ⟨_, rfl⟩
    obtain ⟨hra, hP1, hK1, hD1⟩ := hB
    have hra := hra.symm
    subst hra
    rw [ht] at hP1
    replace hK1 := va_K.moved hvm.symm hK1
    try dsimp only at hw
    obtain ⟨hP9, hD9⟩ := va_joinP (wr := [(ax, .inr (8, [.ref hd, .ref hf, .ref hs, .ref hp, .ref he, .ref q0, .ref q1, .ref qk, .int lt, .long fx, .int dn])), (qk, .inr (7, [.int c1, .int c2, .int c3, .long c4]))]) (rx := [(hf, .inr (2, [.int dp, .ref qp, .ref qe, .ref ql, .int (nI lo), .int (nI le)])), (qp, .inl (cO, b, .inr (.inr (.inr (.inr fp)))))]) (pl1 := pool G cI Pg S) hP hD [1, 2] [0, 3] rfl rfl (by decide) (by decide) hk1 hFc hP1 hD1
    replace hP := hP9
    replace hD := hD9
    clear hP9 hD9
    replace hK := (hK.sub (tys' := [(cO, .object RX4), (cI, .int)]) [0, 1] rfl).app hK1
    replace hK : va_K (dC, dI) vwCl [(cO, .object RX4), (cI, .int)] s := hK.sub [0, 1] rfl
    clear hP1 hD1 hK1 hPc hDc hKc hFc hk1 hz1 hvm ht
    generalize H1 = H at hP hS ⊢
    replace hP : va_P (dC, dI) vwCl ([(ax, .inr (8, [.ref hd, .ref hf, .ref hs, .ref hp, .ref he, .ref q0, .ref q1, .ref qk, .int lt, .long fx, .int dn])), (qk, .inr (7, [.int c1, .int c2, .int c3, .long c4])), (hf, .inr (2, [.int dp, .ref qp, .ref qe, .ref ql, .int (nI lo), .int (nI le)])), (qp, .inl (cO, b, .inr (.inr (.inr (.inr fp)))))] ++ pool G cI Pg S) H := hP
    replace hD : va_D A ([(ax, .inr (8, [.ref hd, .ref hf, .ref hs, .ref hp, .ref he, .ref q0, .ref q1, .ref qk, .int lt, .long fx, .int dn])), (qk, .inr (7, [.int c1, .int c2, .int c3, .long c4])), (hf, .inr (2, [.int dp, .ref qp, .ref qe, .ref ql, .int (nI lo), .int (nI le)])), (qp, .inl (cO, b, .inr (.inr (.inr (.inr fp)))))] ++ pool G cI Pg S) := hD
    replace hK : va_K (dC, dI) vwCl [(cO, .object RX4), (cI, .int)] s := hK
    have hm_a_3 := hw.1
    have ht_a_3 := hw.2
    refine lv_iload_n hx hb dX8_contains_22 rfl (lv_at hl 1 rfl) ?_
    have hz1_a_3 := (hI a_3 hm_a_3).1
    have hz2_a_3 := (hI a_3 hm_a_3).2.1
    have hz3_a_3 := (hI a_3 hm_a_3).2.2
    have hT9 := in1 hm_a_3
    have hPc : va_P (dC, dI) vwCl [(a_3, .inr (4, [.int (S a_3).1, .int (nI (S a_3).2.1), .ref (G a_3).1, .ref (G a_3).2.1])), MA9 (G a_3).1 cI (G a_3).2.2.1 (S a_3).2.2.1, MA9 (G a_3).2.1 cI (G a_3).2.2.1 (S a_3).2.2.2] H := pool_cut (T := [a_3]) (cx := []) hP hT9 [] rfl
    have hDc : va_D A [(a_3, .inr (4, [.int (S a_3).1, .int (nI (S a_3).2.1), .ref (G a_3).1, .ref (G a_3).2.1])), MA9 (G a_3).1 cI (G a_3).2.2.1 (S a_3).2.2.1, MA9 (G a_3).2.1 cI (G a_3).2.2.1 (S a_3).2.2.2] := pool_cutD (T := [a_3]) (cx := []) hD hT9 (nd1) [] (by decide) rfl
    have hFc : ∀ q, va_A [(a_3, .inr (4, [.int (S a_3).1, .int (nI (S a_3).2.1), .ref (G a_3).1, .ref (G a_3).2.1])), MA9 (G a_3).1 cI (G a_3).2.2.1 (S a_3).2.2.1, MA9 (G a_3).2.1 cI (G a_3).2.2.1 (S a_3).2.2.2] (H).size q → A q := pool_free (T := [a_3]) (cx := []) hD hS hA hT9 [] rfl
    have hKc := hK.sub (tys' := [(cI, .int), (cI, .int)]) [1, 1] rfl
    refine va_calli (va_runV (As := [.int p0]) (rest := []) ⟨hx, hb, hml, hown, hts⟩ (c_X4_has l dC dI H.size a_3 (G a_3).1 (G a_3).2.1 (G a_3).2.2.1 (S a_3).2.1 (S a_3).1 cI cI (S a_3).2.2.1 (S a_3).2.2.2 p0 (by first | assumption | omega | decide) (by first | assumption | omega | decide)) (cwV 1 hts g_X8_contains_X4_has rfl rfl rfl (by decide +kernel) ⟨Nat.le_of_ble_eq_true rfl, Nat.le_of_ble_eq_true rfl⟩) ⟨fun a U g mk q => by obtain ⟨q0, q1, qP, qK, qD⟩ := q; exact ⟨q0, q1, qP, va_K.moved (u := U) (U := U.calling g mk a) (Vm.Alike.refl U.vm) qK, qD⟩, va_recv hKc hPc (ci := 4) (q0 := 0) rfl rfl, fun U hU hW => ⟨rfl, by rw [hU], by rw [hU]; exact hPc, va_K.moved hW.alike hKc, hDc.weaken (fun _ _ _ _ => trivial)⟩⟩ rfl rfl hl.1 rfl (lv_room (Nat.le_of_ble_eq_true rfl)) dX8_contains_23 ⟨(show 0 + 0 ≤ 0 by omega), (show 0 + 0 ≤ 0 by omega)⟩) hS (fun q _ h => hFc q h) hFc (fun r_4 u t H1 locs ht hvm hw hB hz1 hk1 hS9 => ?_)
    replace hS := hS9
    clear hS9
    obtain ⟨hP1, hK1, hD1⟩ := hB
    rw [ht] at hP1
    replace hK1 := va_K.moved hvm.symm hK1
    try dsimp only at hw
    obtain ⟨hP9, hD9⟩ := pool_join (S := S) (S1 := S) (T := [a_3]) (cx := []) (wr := [(ax, .inr (8, [.ref hd, .ref hf, .ref hs, .ref hp, .ref he, .ref q0, .ref q1, .ref qk, .int lt, .long fx, .int dn])), (qk, .inr (7, [.int c1, .int c2, .int c3, .long c4])), (hf, .inr (2, [.int dp, .ref qp, .ref qe, .ref ql, .int (nI lo), .int (nI le)])), (qp, .inl (cO, b, .inr (.inr (.inr (.inr fp)))))]) (rx := []) hP hD hT9 [] [0, 1, 2, 3] rfl rfl (by decide) (by decide) hk1 hFc hP1 hD1
    replace hP := hP9
    replace hD := hD9
    clear hP9 hD9
    rw [pgJ_same] at hP hD
    replace hK := (hK.sub (tys' := [(cO, .object RX4), (cI, .int)]) [0, 1] rfl).app hK1
    replace hK : va_K (dC, dI) vwCl [(cO, .object RX4), (cI, .int)] s := hK.sub [0, 1] rfl
    clear hP1 hD1 hK1 hPc hDc hKc hFc hk1 hz1 hvm ht
    generalize H1 = H at hP hS ⊢
    replace hP : va_P (dC, dI) vwCl ([(ax, .inr (8, [.ref hd, .ref hf, .ref hs, .ref hp, .ref he, .ref q0, .ref q1, .ref qk, .int lt, .long fx, .int dn])), (qk, .inr (7, [.int c1, .int c2, .int c3, .long c4])), (hf, .inr (2, [.int dp, .ref qp, .ref qe, .ref ql, .int (nI lo), .int (nI le)])), (qp, .inl (cO, b, .inr (.inr (.inr (.inr fp)))))] ++ pool G cI Pg S) H := hP
    replace hD : va_D A ([(ax, .inr (8, [.ref hd, .ref hf, .ref hs, .ref hp, .ref he, .ref q0, .ref q1, .ref qk, .int lt, .long fx, .int dn])), (qk, .inr (7, [.int c1, .int c2, .int c3, .long c4])), (hf, .inr (2, [.int dp, .ref qp, .ref qe, .ref ql, .int (nI lo), .int (nI le)])), (qp, .inl (cO, b, .inr (.inr (.inr (.inr fp)))))] ++ pool G cI Pg S) := hD
    replace hK : va_K (dC, dI) vwCl [(cO, .object RX4), (cI, .int)] s := hK
    have hw_r_4 := hw
    refine lv_if_eq (tgt := 33) hx hb dX8_contains_26 (by decide) (fun c_5 => ?_) (fun c_5 => ?_)
    · refine lv_iconst (v := 0) hx hb dX8_contains_33 (by decide) ?_
      have hP9 := hP.part (cx := [(ax, .inr (8, [.ref hd, .ref hf, .ref hs, .ref hp, .ref he, .ref q0, .ref q1, .ref qk, .int lt, .long fx, .int dn])), (hf, .inr (2, [.int dp, .ref qp, .ref qe, .ref ql, .int (nI lo), .int (nI le)])), (qp, .inl (cO, b, .inr (.inr (.inr (.inr fp))))), (qk, .inr (7, [.int c1, .int c2, .int c3, .long c4]))]) [0, 2, 3, 1] rfl
      have hD9 := hD.part (cx := [(ax, .inr (8, [.ref hd, .ref hf, .ref hs, .ref hp, .ref he, .ref q0, .ref q1, .ref qk, .int lt, .long fx, .int dn])), (hf, .inr (2, [.int dp, .ref qp, .ref qe, .ref ql, .int (nI lo), .int (nI le)])), (qp, .inl (cO, b, .inr (.inr (.inr (.inr fp))))), (qk, .inr (7, [.int c1, .int c2, .int c3, .long c4]))]) [0, 2, 3, 1] (by decide) rfl
      have hK9 := hK.sub (tys' := [(cO, .object RX4), (cI, .int)]) [0, 1] rfl
      exact W.zret (v := 0) hx hb hr rfl (fun t ht hW => ⟨⟨0, (), rfl, trivial, by rw [ht]; exact hP9, va_K.moved hW.alike hK9, hD9⟩, hS.F ht⟩) hS.2.2 dX8_contains_34
    · refine lv_iconst (v := 1) hx hb dX8_contains_29 (by decide) ?_
      refine lv_goto (tgt := 34) hx hb dX8_contains_30 (by decide) ?_
      have hP9 := hP.part (cx := [(ax, .inr (8, [.ref hd, .ref hf, .ref hs, .ref hp, .ref he, .ref q0, .ref q1, .ref qk, .int lt, .long fx, .int dn])), (hf, .inr (2, [.int dp, .ref qp, .ref qe, .ref ql, .int (nI lo), .int (nI le)])), (qp, .inl (cO, b, .inr (.inr (.inr (.inr fp))))), (qk, .inr (7, [.int c1, .int c2, .int c3, .long c4]))]) [0, 2, 3, 1] rfl
      have hD9 := hD.part (cx := [(ax, .inr (8, [.ref hd, .ref hf, .ref hs, .ref hp, .ref he, .ref q0, .ref q1, .ref qk, .int lt, .long fx, .int dn])), (hf, .inr (2, [.int dp, .ref qp, .ref qe, .ref ql, .int (nI lo), .int (nI le)])), (qp, .inl (cO, b, .inr (.inr (.inr (.inr fp))))), (qk, .inr (7, [.int c1, .int c2, .int c3, .long c4]))]) [0, 2, 3, 1] (by decide) rfl
      have hK9 := hK.sub (tys' := [(cO, .object RX4), (cI, .int)]) [0, 1] rfl
      exact W.zret (v := 1) hx hb hr rfl (fun t ht hW => ⟨⟨1, (), rfl, trivial, by rw [ht]; exact hP9, va_K.moved hW.alike hK9, hD9⟩, hS.F ht⟩) hS.2.2 dX8_contains_34
def v_X8_was : List Cond := .code yX8_was cX8_was 2 (some .int) :: ([.fieldLink RX8 77 "TwinRoots" "down" "Z", .fieldLink RX8 35 "TwinRoots" "forest" "LTwinRoots$Forest;", .fieldLink RX8 140 "TwinRoots" "latest" "I", .code yX8_told cX8_told 2 (some (.object "TwinRoots$Told")), .fieldLink RX8 67 "TwinRoots" "rootZero" "LTwinRoots$Told;", .methodLink RX8 143 yX8_told, .instanceMethod yX8_told, .selects RX8 yX8_told yX8_told, .initialized RX8, .fieldLink RX8 110 "TwinRoots$Told" "top" "I", .code yX2_leafFor cX2_leafFor 5 (some (.object "TwinRoots$Page")), .code yX2_page cX2_page 2 (some (.object "TwinRoots$Page")), .fieldLink RX2 20 "TwinRoots$Forest" "empty" "LTwinRoots$Page;", .fieldLink RX2 11 "TwinRoots$Forest" "pages" "[LTwinRoots$Page;", .methodLink RX2 28 yX2_page, .instanceMethod yX2_page, .selects RX2 yX2_page yX2_page, .initialized RX2, .fieldLink RX2 32 "TwinRoots$Page" "leaf" "Z", .code yX4_childFor cX4_childFor 3 (some .int), .fieldLink RX4 22 "TwinRoots$Page" "many" "I", .code yX4_keyAt cX4_keyAt 2 (some .int), .fieldLink RX4 15 "TwinRoots$Page" "keys" "[I", .methodLink RX4 34 yX4_keyAt, .instanceMethod yX4_keyAt, .selects RX4 yX4_keyAt yX4_keyAt, .initialized RX4, .methodLink RX2 36 yX4_childFor, .instanceMethod yX4_childFor, .selects RX4 yX4_childFor yX4_childFor, .code yX4_refAt cX4_refAt 2 (some .int), .fieldLink RX4 19 "TwinRoots$Page" "refs" "[I", .methodLink RX2 40 yX4_refAt, .instanceMethod yX4_refAt, .selects RX4 yX4_refAt yX4_refAt, .methodLink RX8 114 yX2_leafFor, .instanceMethod yX2_leafFor, .selects RX2 yX2_leafFor yX2_leafFor, .code yX4_valueOf cX4_valueOf 2 (some .int), .code yX4_has cX4_has 3 (some .boolean), .code yX4_placeOf cX4_placeOf 3 (some .int), .methodLink RX4 48 yX4_placeOf, .instanceMethod yX4_placeOf, .selects RX4 yX4_placeOf yX4_placeOf, .methodLink RX4 51 yX4_has, .instanceMethod yX4_has, .selects RX4 yX4_has yX4_has, .methodLink RX4 38 yX4_refAt, .methodLink RX8 136 yX4_valueOf, .instanceMethod yX4_valueOf, .selects RX4 yX4_valueOf yX4_valueOf, .fieldLink RX8 71 "TwinRoots" "rootOne" "LTwinRoots$Told;"] ++ (wsX80 ++ (wsX70 ++ (wsX20 ++ (wsX40 ++ ([]))))))
set_option maxRecDepth 20000 in
theorem g_X8_was_X8_told_0 : GoodIn v_X8_was (wsV RX8 143 RX8 yX8_told v_X8_told_0) := goodIn_r _ [6, 7, 8, 9, 4, 5, 53, 54, 55, 56, 57, 58, 59, 60, 61, 62, 63] (by decide +kernel) (by decide +kernel)
set_option maxRecDepth 20000 in
theorem g_X8_was_X2_leafFor : GoodIn v_X8_was (wsV RX8 114 RX2 yX2_leafFor v_X2_leafFor) := goodIn_r _ [36, 37, 38, 18, 11, 12, 13, 14, 15, 16, 17, 18, 19, 20, 21, 22, 23, 24, 25, 26, 27, 28, 29, 30, 31, 32, 33, 34, 35, 68, 69, 70, 71, 72, 73, 74, 75, 76, 77] (by decide +kernel) (by decide +kernel)
set_option maxRecDepth 20000 in
theorem g_X8_was_X4_valueOf : GoodIn v_X8_was (wsV RX8 136 RX4 yX4_valueOf v_X4_valueOf) := goodIn_r _ [49, 50, 51, 27, 39, 40, 41, 21, 22, 23, 24, 25, 26, 27, 42, 43, 44, 45, 46, 47, 31, 32, 48, 34, 35, 74, 75, 76, 77] (by decide +kernel) (by decide +kernel)
set_option maxRecDepth 20000 in
theorem g_X8_was_X8_told_1 : GoodIn v_X8_was (wsV RX8 143 RX8 yX8_told v_X8_told_1) := goodIn_r _ [6, 7, 8, 9, 4, 52, 53, 54, 55, 56, 57, 58, 59, 60, 61, 62, 63] (by decide +kernel) (by decide +kernel)
set_option maxHeartbeats 4000000 in
set_option maxRecDepth 100000 in
/-- X8_was -/
theorem c_X8_was (l : Launch) (dC : Nat → ClassId) (dI : Nat → Nat → Nat) (sz : Nat) (ax : Nat) (hd : Nat) (hf : Nat) (hs : Nat) (hp : Nat) (he : Nat) (q0 : Nat) (q1 : Nat) (qk : Nat) (qp : Nat) (qe : Nat) (ql : Nat) (b : Nat) (lo : Nat) (le : Nat) (lt : Int32) (dn : Int32) (dp : Int32) (a1 : Int32) (a2 : Int32) (a3 : Int32) (b1 : Int32) (b2 : Int32) (b3 : Int32) (fx : Int64) (a4 : Int64) (b4 : Int64) (fp : Nat → Option Nat) (cI : ClassId) (cO : ClassId) (G : pgG) (Pg : List Nat) (S : pgS) (p0 : Int32) (zb : b ≤ 64) (hI : pgI G Pg S) (hpg : ∀ i, i < b → ∃ a, a ∈ Pg ∧ (G a).2.2.2 = 0 ∧ fp i = some a) (hm_qe : qe ∈ Pg) (ht_qe : (G qe).2.2.2 = 0) (zlt : lt = 0 ∨ lt = 1) : Met l yX8_was v_X8_was ({ frames := 4, cells := 0, slots := 0, locals := 86 } : Room) (va_Pc [.ref ax, .int p0] (fun U => U.heap.size = sz ∧ va_P (dC, dI) vwCl ([(ax, .inr (8, [.ref hd, .ref hf, .ref hs, .ref hp, .ref he, .ref q0, .ref q1, .ref qk, .int lt, .long fx, .int dn])), (hf, .inr (2, [.int dp, .ref qp, .ref qe, .ref ql, .int (nI lo), .int (nI le)])), (qp, .inl (cO, b, .inr (.inr (.inr (.inr fp))))), (q0, .inr (7, [.int a1, .int a2, .int a3, .long a4])), (q1, .inr (7, [.int b1, .int b2, .int b3, .long b4]))] ++ pool G cI Pg S) U.heap ∧ va_K (dC, dI) vwCl [(cO, .object RX4), (cI, .int)] U ∧ va_D (fun _ => True) ([(ax, .inr (8, [.ref hd, .ref hf, .ref hs, .ref hp, .ref he, .ref q0, .ref q1, .ref qk, .int lt, .long fx, .int dn])), (hf, .inr (2, [.int dp, .ref qp, .ref qe, .ref ql, .int (nI lo), .int (nI le)])), (qp, .inl (cO, b, .inr (.inr (.inr (.inr fp))))), (q0, .inr (7, [.int a1, .int a2, .int a3, .long a4])), (q1, .inr (7, [.int b1, .int b2, .int b3, .long b4]))] ++ pool G cI Pg S))) (va_Qi (fun (r : Int32) (u : Int32 × Int64 × Int32) => match u with | (lt2, fx2, dn2) => (lt2 = 0 ∨ lt2 = 1)) (fun (u : Int32 × Int64 × Int32) (t : State) => match u with | (lt2, fx2, dn2) => va_P (dC, dI) vwCl ([(ax, .inr (8, [.ref hd, .ref hf, .ref hs, .ref hp, .ref he, .ref q0, .ref q1, .ref qk, .int lt2, .long fx2, .int dn2])), (hf, .inr (2, [.int dp, .ref qp, .ref qe, .ref ql, .int (nI lo), .int (nI le)])), (qp, .inl (cO, b, .inr (.inr (.inr (.inr fp))))), (q0, .inr (7, [.int a1, .int a2, .int a3, .long a4])), (q1, .inr (7, [.int b1, .int b2, .int b3, .long b4]))] ++ pool G cI Pg S) t.heap ∧ va_K (dC, dI) vwCl [(cO, .object RX4), (cI, .int)] t ∧ va_D (va_A ([(ax, .inr (8, [.ref hd, .ref hf, .ref hs, .ref hp, .ref he, .ref q0, .ref q1, .ref qk, .int lt, .long fx, .int dn])), (hf, .inr (2, [.int dp, .ref qp, .ref qe, .ref ql, .int (nI lo), .int (nI le)])), (qp, .inl (cO, b, .inr (.inr (.inr (.inr fp))))), (q0, .inr (7, [.int a1, .int a2, .int a3, .long a4])), (q1, .inr (7, [.int b1, .int b2, .int b3, .long b4]))] ++ pool G cI Pg S) sz) ([(ax, .inr (8, [.ref hd, .ref hf, .ref hs, .ref hp, .ref he, .ref q0, .ref q1, .ref qk, .int lt2, .long fx2, .int dn2])), (hf, .inr (2, [.int dp, .ref qp, .ref qe, .ref ql, .int (nI lo), .int (nI le)])), (qp, .inl (cO, b, .inr (.inr (.inr (.inr fp))))), (q0, .inr (7, [.int a1, .int a2, .int a3, .long a4])), (q1, .inr (7, [.int b1, .int b2, .int b3, .long b4]))] ++ pool G cI Pg S)) (va_A ([(ax, .inr (8, [.ref hd, .ref hf, .ref hs, .ref hp, .ref he, .ref q0, .ref q1, .ref qk, .int lt, .long fx, .int dn])), (hf, .inr (2, [.int dp, .ref qp, .ref qe, .ref ql, .int (nI lo), .int (nI le)])), (qp, .inl (cO, b, .inr (.inr (.inr (.inr fp))))), (q0, .inr (7, [.int a1, .int a2, .int a3, .long a4])), (q1, .inr (7, [.int b1, .int b2, .int b3, .long b4]))] ++ pool G cI Pg S) sz)) 0 0 (va_A ([(ax, .inr (8, [.ref hd, .ref hf, .ref hs, .ref hp, .ref he, .ref q0, .ref q1, .ref qk, .int lt, .long fx, .int dn])), (hf, .inr (2, [.int dp, .ref qp, .ref qe, .ref ql, .int (nI lo), .int (nI le)])), (qp, .inl (cO, b, .inr (.inr (.inr (.inr fp))))), (q0, .inr (7, [.int a1, .int a2, .int a3, .long a4])), (q1, .inr (7, [.int b1, .int b2, .int b3, .long b4]))] ++ pool G cI Pg S) sz) := by
  refine Met.ofW (cc := cX8_was) (maxL := 2) (ret := (some .int)) (by decide) rfl ?_
  intro p e s m args below meth c s₁ B hml hv
  obtain ⟨rfl, hsz, hP, hK, hD0⟩ := hv
  have hx := B.exec
  have hb := B.bytes
  have hr := B.returns
  have hts := atoms_spec (ws := v_X8_was) B.pre
  have hown : s.vm.findClass RX8 = some m.cls := findClass_of_methodNamed B.named
  have hlocks := B.notSynchronized
  subst hsz
  have hD := hD0.self (sz := s.heap.size)
  generalize hAe : va_A ([(ax, .inr (8, [.ref hd, .ref hf, .ref hs, .ref hp, .ref he, .ref q0, .ref q1, .ref qk, .int lt, .long fx, .int dn])), (hf, .inr (2, [.int dp, .ref qp, .ref qe, .ref ql, .int (nI lo), .int (nI le)])), (qp, .inl (cO, b, .inr (.inr (.inr (.inr fp))))), (q0, .inr (7, [.int a1, .int a2, .int a3, .long a4])), (q1, .inr (7, [.int b1, .int b2, .int b3, .long b4]))] ++ pool G cI Pg S) s.heap.size = A at hD ⊢
  have hA : ∀ q : Nat, s.heap.size ≤ q → A q := fun q h => by rw [← hAe]; exact Or.inr h
  have hS : va_S A s.heap s.heap [] := va_S.rf
  have hP : va_P (dC, dI) vwCl ([(ax, .inr (8, [.ref hd, .ref hf, .ref hs, .ref hp, .ref he, .ref q0, .ref q1, .ref qk, .int lt, .long fx, .int dn])), (hf, .inr (2, [.int dp, .ref qp, .ref qe, .ref ql, .int (nI lo), .int (nI le)])), (qp, .inl (cO, b, .inr (.inr (.inr (.inr fp))))), (q0, .inr (7, [.int a1, .int a2, .int a3, .long a4])), (q1, .inr (7, [.int b1, .int b2, .int b3, .long b4]))] ++ pool G cI Pg S) s.heap := hP
  have hl := lv_entry ([.ref ax, .int p0]) (n := 2) (Nat.le_of_ble_eq_true rfl)
  rw [lg_entry_eq]
  generalize (lg_sl ([.ref ax, .int p0]) ++ List.replicate (2 - (lg_sl ([.ref ax, .int p0])).length) Slot.unset).toArray = ls at hl ⊢
  have hl : lv_has ls 2 [(0, .ref ax), (1, .int p0)] := hl
  have k_1 := (fun _ h => List.mem_cons_of_mem _ (List.mem_append_right _ (List.mem_append_left _ h)) : ∀ w ∈ wsX80, w ∈ v_X8_was)
  have k_2 := hts (.fieldLink RX8 77 "TwinRoots" "down" "Z") (List.mem_of_getElem? (i := 1) rfl)
  have k_3 := hts (.fieldLink RX8 35 "TwinRoots" "forest" "LTwinRoots$Forest;") (List.mem_of_getElem? (i := 2) rfl)
  have k_4 := hts (.fieldLink RX8 140 "TwinRoots" "latest" "I") (List.mem_of_getElem? (i := 3) rfl)
  have k_5 := (fun _ h => List.mem_cons_of_mem _ (List.mem_append_right _ (List.mem_append_right _ (List.mem_append_left _ h))) : ∀ w ∈ wsX70, w ∈ v_X8_was)
  have k_6 := hts (.fieldLink RX8 110 "TwinRoots$Told" "top" "I") (List.mem_of_getElem? (i := 10) rfl)
  rcases zlt with rfl | rfl
  · replace hP : va_P (dC, dI) vwCl ([(ax, .inr (8, [.ref hd, .ref hf, .ref hs, .ref hp, .ref he, .ref q0, .ref q1, .ref qk, .int 0, .long fx, .int dn])), (hf, .inr (2, [.int dp, .ref qp, .ref qe, .ref ql, .int (nI lo), .int (nI le)])), (qp, .inl (cO, b, .inr (.inr (.inr (.inr fp))))), (q0, .inr (7, [.int a1, .int a2, .int a3, .long a4])), (q1, .inr (7, [.int b1, .int b2, .int b3, .long b4]))] ++ pool G cI Pg S) s.heap := hP
    replace hD : va_D A ([(ax, .inr (8, [.ref hd, .ref hf, .ref hs, .ref hp, .ref he, .ref q0, .ref q1, .ref qk, .int 0, .long fx, .int dn])), (hf, .inr (2, [.int dp, .ref qp, .ref qe, .ref ql, .int (nI lo), .int (nI le)])), (qp, .inl (cO, b, .inr (.inr (.inr (.inr fp))))), (q0, .inr (7, [.int a1, .int a2, .int a3, .long a4])), (q1, .inr (7, [.int b1, .int b2, .int b3, .long b4]))] ++ pool G cI Pg S) := hD
    refine lv_aload_n hx hb dX8_was_0 rfl (lv_at hl 0 rfl) ?_
    refine va_get (D := (dC, dI)) (ci := 8) (v := .int dn) (C := RX8) (T := TX8) (N := 11) hx hb hts k_1 hown hK hP 0 rfl rfl 10 (by decide) k_2 (fun _ h9 => h9) rfl dX8_was_1 ?_
    refine lv_if_eq (tgt := 11) hx hb dX8_was_4 (by decide) (fun c_1 => ?_) (fun c_1 => ?_)
    · refine lv_aload_n hx hb dX8_was_11 rfl (lv_at hl 0 rfl) ?_
      refine va_get (D := (dC, dI)) (ci := 8) (v := .ref hf) (C := RX8) (T := TX8) (N := 11) hx hb hts k_1 hown hK hP 0 rfl rfl 1 (by decide) k_3 (fun _ h9 => h9) rfl dX8_was_12 ?_
      refine lv_aload_n hx hb dX8_was_15 rfl (lv_at hl 0 rfl) ?_
      refine lv_aload_n hx hb dX8_was_16 rfl (lv_at hl 0 rfl) ?_
      refine va_get (D := (dC, dI)) (ci := 8) (v := .int 0) (C := RX8) (T := TX8) (N := 11) hx hb hts k_1 hown hK hP 0 rfl rfl 8 (by decide) k_4 (fun _ h9 => h9) rfl dX8_was_17 ?_
      have hPc := hP.sub (ws' := [(ax, .inr (8, [.ref hd, .ref hf, .ref hs, .ref hp, .ref he, .ref q0, .ref q1, .ref qk, .int 0, .long fx, .int dn]))]) [0] rfl
      have hDc := hD.sub (ws' := [(ax, .inr (8, [.ref hd, .ref hf, .ref hs, .ref hp, .ref he, .ref q0, .ref q1, .ref qk, .int 0, .long fx, .int dn]))]) [0] (by decide) rfl
      have hKc := hK.sub (tys' := []) [] rfl
      have hFc := va_free (wc := [(ax, .inr (8, [.ref hd, .ref hf, .ref hs, .ref hp, .ref he, .ref q0, .ref q1, .ref qk, .int 0, .long fx, .int dn]))]) hD hS hA [0] rfl
      refine va_callr (va_runV (As := [.int 0]) (rest := [.ref hf]) ⟨hx, hb, hml, hown, hts⟩ (c_X8_told_0 l dC dI s.heap.size ax hd hf hs hp he q0 q1 qk 0 dn fx) (cwV 1 hts g_X8_was_X8_told_0 rfl rfl rfl (by decide +kernel) ⟨Nat.le_of_ble_eq_true rfl, Nat.le_of_ble_eq_true rfl⟩) ⟨fun a U g mk q => by obtain ⟨q0, q1, qP, qK, qD⟩ := q; exact ⟨q0, q1, qP, va_K.moved (u := U) (U := U.calling g mk a) (Vm.Alike.refl U.vm) qK, qD⟩, va_recv hKc hPc (ci := 8) (q0 := 0) rfl rfl, fun U hU hW => ⟨rfl, by rw [hU], by rw [hU]; exact hPc, va_K.moved hW.alike hKc, hDc.weaken (fun _ _ _ _ => trivial)⟩⟩ rfl rfl hl.1 rfl (lv_room (Nat.le_of_ble_eq_true rfl)) dX8_was_20 ⟨(show 0 + 0 ≤ 0 by omega), (show 0 + 0 ≤ 0 by omega)⟩) hS (fun q _ h => hFc q h) hFc (fun u r_2 t H1 locs ht hvm hw hB hz1 hk1 hS9 => ?_)
      replace hS := hS9
      clear hS9
      obtain ⟨hra, hP1, hK1, hD1⟩ := hB
      have hra := hra.symm
      subst hra
      rw [ht] at hP1
      replace hK1 := va_K.moved hvm.symm hK1
      try dsimp only at hw
      obtain ⟨hP9, hD9⟩ := va_joinQ (wr := [(hf, .inr (2, [.int dp, .ref qp, .ref qe, .ref ql, .int (nI lo), .int (nI le)])), (qp, .inl (cO, b, .inr (.inr (.inr (.inr fp))))), (q0, .inr (7, [.int a1, .int a2, .int a3, .long a4])), (q1, .inr (7, [.int b1, .int b2, .int b3, .long b4]))]) (w1 := [(ax, .inr (8, [.ref hd, .ref hf, .ref hs, .ref hp, .ref he, .ref q0, .ref q1, .ref qk, .int 0, .long fx, .int dn]))]) hP hD [0] [1, 2, 3, 4] rfl rfl (by decide) (by decide) hk1 hFc hP1 hD1
      replace hP := hP9
      replace hD := hD9
      clear hP9 hD9
      replace hK := (hK.sub (tys' := [(cO, .object RX4), (cI, .int)]) [0, 1] rfl).app hK1
      replace hK : va_K (dC, dI) vwCl [(cO, .object RX4), (cI, .int)] s := hK.sub [0, 1] rfl
      clear hP1 hD1 hK1 hPc hDc hKc hFc hk1 hz1 hvm ht
      generalize H1 = H at hP hS ⊢
      replace hP : va_P (dC, dI) vwCl ([(hf, .inr (2, [.int dp, .ref qp, .ref qe, .ref ql, .int (nI lo), .int (nI le)])), (qp, .inl (cO, b, .inr (.inr (.inr (.inr fp))))), (q0, .inr (7, [.int a1, .int a2, .int a3, .long a4])), (q1, .inr (7, [.int b1, .int b2, .int b3, .long b4])), (ax, .inr (8, [.ref hd, .ref hf, .ref hs, .ref hp, .ref he, .ref q0, .ref q1, .ref qk, .int 0, .long fx, .int dn]))] ++ pool G cI Pg S) H := hP
      replace hD : va_D A ([(hf, .inr (2, [.int dp, .ref qp, .ref qe, .ref ql, .int (nI lo), .int (nI le)])), (qp, .inl (cO, b, .inr (.inr (.inr (.inr fp))))), (q0, .inr (7, [.int a1, .int a2, .int a3, .long a4])), (q1, .inr (7, [.int b1, .int b2, .int b3, .long b4])), (ax, .inr (8, [.ref hd, .ref hf, .ref hs, .ref hp, .ref he, .ref q0, .ref q1, .ref qk, .int 0, .long fx, .int dn]))] ++ pool G cI Pg S) := hD
      replace hK : va_K (dC, dI) vwCl [(cO, .object RX4), (cI, .int)] s := hK
      refine va_get (D := (dC, dI)) (ci := 7) (v := .int a2) (C := RX7) (T := TX7) (N := 4) hx hb hts k_5 hown hK hP 2 rfl rfl 1 (by decide) k_6 (fun _ h9 => h9) rfl dX8_was_23 ?_
      refine lv_iload_n hx hb dX8_was_26 rfl (lv_at hl 1 rfl) ?_
      have hPc := hP.part (cx := [(hf, .inr (2, [.int dp, .ref qp, .ref qe, .ref ql, .int (nI lo), .int (nI le)])), (qp, .inl (cO, b, .inr (.inr (.inr (.inr fp)))))]) [0, 1] rfl
      have hDc := hD.part (cx := [(hf, .inr (2, [.int dp, .ref qp, .ref qe, .ref ql, .int (nI lo), .int (nI le)])), (qp, .inl (cO, b, .inr (.inr (.inr (.inr fp)))))]) [0, 1] (by decide) rfl
      have hFc := va_freeP (cx := [(hf, .inr (2, [.int dp, .ref qp, .ref qe, .ref ql, .int (nI lo), .int (nI le)])), (qp, .inl (cO, b, .inr (.inr (.inr (.inr fp)))))]) hD hS hA [0, 1] rfl
      have hKc := hK.sub (tys' := [(cO, .object RX4), (cI, .int)]) [0, 1] rfl
      refine va_callr (va_runV (As := [.int a2, .int p0]) (rest := []) ⟨hx, hb, hml, hown, hts⟩ (c_X2_leafFor l dC dI H.size hf qp qe ql b lo le dp cO fp G Pg cI S a2 p0 (by first | assumption | omega | decide) (by first | assumption | omega | decide) (by first | assumption | omega | decide) (by first | assumption | omega | decide) (by first | assumption | omega | decide)) (cwV 2 hts g_X8_was_X2_leafFor rfl rfl rfl (by decide +kernel) ⟨Nat.le_of_ble_eq_true rfl, Nat.le_of_ble_eq_true rfl⟩) ⟨fun a U g mk q => by obtain ⟨q0, q1, qP, qK, qD⟩ := q; exact ⟨q0, q1, qP, va_K.moved (u := U) (U := U.calling g mk a) (Vm.Alike.refl U.vm) qK, qD⟩, va_recv hKc hPc (ci := 2) (q0 := 0) rfl rfl, fun U hU hW => ⟨rfl, by rw [hU], by rw [hU]; exact hPc, va_K.moved hW.alike hKc, hDc.weaken (fun _ _ _ _ => trivial)⟩⟩ rfl rfl hl.1 rfl (lv_room (Nat.le_of_ble_eq_true rfl)) dX8_was_27 ⟨(show 0 + 0 ≤ 0 by omega), (show 0 + 0 ≤ 0 by omega)⟩) hS (fun q _ h => hFc q h) hFc (fun u r_3 t H1 locs ht hvm hw hB hz1 hk1 hS9 => ?_)
      replace hS := hS9
      clear hS9
      obtain ⟨a_4, rfl⟩ : ∃ z, z = u := ⟨_, rfl⟩
      obtain ⟨hra, hP1, hK1, hD1⟩ := hB
      have hra := hra.symm
      subst hra
      rw [ht] at hP1
      replace hK1 := va_K.moved hvm.symm hK1
      try dsimp only at hw
      obtain ⟨hP9, hD9⟩ := va_joinP (wr := [(q0, .inr (7, [.int a1, .int a2, .int a3, .long a4])), (q1, .inr (7, [.int b1, .int b2, .int b3, .long b4])), (ax, .inr (8, [.ref hd, .ref hf, .ref hs, .ref hp, .ref he, .ref q0, .ref q1, .ref qk, .int 0, .long fx, .int dn]))]) (rx := [(hf, .inr (2, [.int dp, .ref qp, .ref qe, .ref ql, .int (nI lo), .int (nI le)])), (qp, .inl (cO, b, .inr (.inr (.inr (.inr fp)))))]) (pl1 := pool G cI Pg S) hP hD [0, 1] [2, 3, 4] rfl rfl (by decide) (by decide) hk1 hFc hP1 hD1
      replace hP := hP9
      replace hD := hD9
      clear hP9 hD9
      replace hK := (hK.sub (tys' := [(cO, .object RX4), (cI, .int)]) [0, 1] rfl).app hK1
      replace hK : va_K (dC, dI) vwCl [(cO, .object RX4), (cI, .int)] s := hK.sub [0, 1] rfl
      clear hP1 hD1 hK1 hPc hDc hKc hFc hk1 hz1 hvm ht
      generalize H1 = H at hP hS ⊢
      replace hP : va_P (dC, dI) vwCl ([(q0, .inr (7, [.int a1, .int a2, .int a3, .long a4])), (q1, .inr (7, [.int b1, .int b2, .int b3, .long b4])), (ax, .inr (8, [.ref hd, .ref hf, .ref hs, .ref hp, .ref he, .ref q0, .ref q1, .ref qk, .int 0, .long fx, .int dn])), (hf, .inr (2, [.int dp, .ref qp, .ref qe, .ref ql, .int (nI lo), .int (nI le)])), (qp, .inl (cO, b, .inr (.inr (.inr (.inr fp)))))] ++ pool G cI Pg S) H := hP
      replace hD : va_D A ([(q0, .inr (7, [.int a1, .int a2, .int a3, .long a4])), (q1, .inr (7, [.int b1, .int b2, .int b3, .long b4])), (ax, .inr (8, [.ref hd, .ref hf, .ref hs, .ref hp, .ref he, .ref q0, .ref q1, .ref qk, .int 0, .long fx, .int dn])), (hf, .inr (2, [.int dp, .ref qp, .ref qe, .ref ql, .int (nI lo), .int (nI le)])), (qp, .inl (cO, b, .inr (.inr (.inr (.inr fp)))))] ++ pool G cI Pg S) := hD
      replace hK : va_K (dC, dI) vwCl [(cO, .object RX4), (cI, .int)] s := hK
      have hm_a_4 := hw.1
      have ht_a_4 := hw.2
      refine lv_iload_n hx hb dX8_was_30 rfl (lv_at hl 1 rfl) ?_
      have hz1_a_4 := (hI a_4 hm_a_4).1
      have hz2_a_4 := (hI a_4 hm_a_4).2.1
      have hz3_a_4 := (hI a_4 hm_a_4).2.2
      have hT9 := in1 hm_a_4
      have hPc : va_P (dC, dI) vwCl [(a_4, .inr (4, [.int (S a_4).1, .int (nI (S a_4).2.1), .ref (G a_4).1, .ref (G a_4).2.1])), MA9 (G a_4).1 cI (G a_4).2.2.1 (S a_4).2.2.1, MA9 (G a_4).2.1 cI (G a_4).2.2.1 (S a_4).2.2.2] H := pool_cut (T := [a_4]) (cx := []) hP hT9 [] rfl
      have hDc : va_D A [(a_4, .inr (4, [.int (S a_4).1, .int (nI (S a_4).2.1), .ref (G a_4).1, .ref (G a_4).2.1])), MA9 (G a_4).1 cI (G a_4).2.2.1 (S a_4).2.2.1, MA9 (G a_4).2.1 cI (G a_4).2.2.1 (S a_4).2.2.2] := pool_cutD (T := [a_4]) (cx := []) hD hT9 (nd1) [] (by decide) rfl
      have hFc : ∀ q, va_A [(a_4, .inr (4, [.int (S a_4).1, .int (nI (S a_4).2.1), .ref (G a_4).1, .ref (G a_4).2.1])), MA9 (G a_4).1 cI (G a_4).2.2.1 (S a_4).2.2.1, MA9 (G a_4).2.1 cI (G a_4).2.2.1 (S a_4).2.2.2] (H).size q → A q := pool_free (T := [a_4]) (cx := []) hD hS hA hT9 [] rfl
      have hKc := hK.sub (tys' := [(cI, .int), (cI, .int)]) [1, 1] rfl
      refine va_calli (va_runV (As := [.int p0]) (rest := []) ⟨hx, hb, hml, hown, hts⟩ (c_X4_valueOf l dC dI H.size a_4 (G a_4).1 (G a_4).2.1 (G a_4).2.2.1 (S a_4).2.1 (S a_4).1 cI cI (S a_4).2.2.1 (S a_4).2.2.2 p0 (by first | assumption | omega | decide) (by first | assumption | omega | decide)) (cwV 1 hts g_X8_was_X4_valueOf rfl rfl rfl (by decide +kernel) ⟨Nat.le_of_ble_eq_true rfl, Nat.le_of_ble_eq_true rfl⟩) ⟨fun a U g mk q => by obtain ⟨q0, q1, qP, qK, qD⟩ := q; exact ⟨q0, q1, qP, va_K.moved (u := U) (U := U.calling g mk a) (Vm.Alike.refl U.vm) qK, qD⟩, va_recv hKc hPc (ci := 4) (q0 := 0) rfl rfl, fun U hU hW => ⟨rfl, by rw [hU], by rw [hU]; exact hPc, va_K.moved hW.alike hKc, hDc.weaken (fun _ _ _ _ => trivial)⟩⟩ rfl rfl hl.1 rfl (lv_room (Nat.le_of_ble_eq_true rfl)) dX8_was_31 ⟨(show 0 + 0 ≤ 0 by omega), (show 0 + 0 ≤ 0 by omega)⟩) hS (fun q _ h => hFc q h) hFc (fun r_5 u t H1 locs ht hvm hw hB hz1 hk1 hS9 => ?_)
      replace hS := hS9
      clear hS9
      obtain ⟨hP1, hK1, hD1⟩ := hB
      rw [ht] at hP1
      replace hK1 := va_K.moved hvm.symm hK1
      try dsimp only at hw
      obtain ⟨hP9, hD9⟩ := pool_join (S := S) (S1 := S) (T := [a_4]) (cx := []) (wr := [(q0, .inr (7, [.int a1, .int a2, .int a3, .long a4])), (q1, .inr (7, [.int b1, .int b2, .int b3, .long b4])), (ax, .inr (8, [.ref hd, .ref hf, .ref hs, .ref hp, .ref he, .ref q0, .ref q1, .ref qk, .int 0, .long fx, .int dn])), (hf, .inr (2, [.int dp, .ref qp, .ref qe, .ref ql, .int (nI lo), .int (nI le)])), (qp, .inl (cO, b, .inr (.inr (.inr (.inr fp)))))]) (rx := []) hP hD hT9 [] [0, 1, 2, 3, 4] rfl rfl (by decide) (by decide) hk1 hFc hP1 hD1
      replace hP := hP9
      replace hD := hD9
      clear hP9 hD9
      rw [pgJ_same] at hP hD
      replace hK := (hK.sub (tys' := [(cO, .object RX4), (cI, .int)]) [0, 1] rfl).app hK1
      replace hK : va_K (dC, dI) vwCl [(cO, .object RX4), (cI, .int)] s := hK.sub [0, 1] rfl
      clear hP1 hD1 hK1 hPc hDc hKc hFc hk1 hz1 hvm ht
      generalize H1 = H at hP hS ⊢
      replace hP : va_P (dC, dI) vwCl ([(q0, .inr (7, [.int a1, .int a2, .int a3, .long a4])), (q1, .inr (7, [.int b1, .int b2, .int b3, .long b4])), (ax, .inr (8, [.ref hd, .ref hf, .ref hs, .ref hp, .ref he, .ref q0, .ref q1, .ref qk, .int 0, .long fx, .int dn])), (hf, .inr (2, [.int dp, .ref qp, .ref qe, .ref ql, .int (nI lo), .int (nI le)])), (qp, .inl (cO, b, .inr (.inr (.inr (.inr fp)))))] ++ pool G cI Pg S) H := hP
      replace hD : va_D A ([(q0, .inr (7, [.int a1, .int a2, .int a3, .long a4])), (q1, .inr (7, [.int b1, .int b2, .int b3, .long b4])), (ax, .inr (8, [.ref hd, .ref hf, .ref hs, .ref hp, .ref he, .ref q0, .ref q1, .ref qk, .int 0, .long fx, .int dn])), (hf, .inr (2, [.int dp, .ref qp, .ref qe, .ref ql, .int (nI lo), .int (nI le)])), (qp, .inl (cO, b, .inr (.inr (.inr (.inr fp)))))] ++ pool G cI Pg S) := hD
      replace hK : va_K (dC, dI) vwCl [(cO, .object RX4), (cI, .int)] s := hK
      have hw_r_5 := hw
      have hP9 := hP.part (cx := [(ax, .inr (8, [.ref hd, .ref hf, .ref hs, .ref hp, .ref he, .ref q0, .ref q1, .ref qk, .int 0, .long fx, .int dn])), (hf, .inr (2, [.int dp, .ref qp, .ref qe, .ref ql, .int (nI lo), .int (nI le)])), (qp, .inl (cO, b, .inr (.inr (.inr (.inr fp))))), (q0, .inr (7, [.int a1, .int a2, .int a3, .long a4])), (q1, .inr (7, [.int b1, .int b2, .int b3, .long b4]))]) [2, 3, 4, 0, 1] rfl
      have hD9 := hD.part (cx := [(ax, .inr (8, [.ref hd, .ref hf, .ref hs, .ref hp, .ref he, .ref q0, .ref q1, .ref qk, .int 0, .long fx, .int dn])), (hf, .inr (2, [.int dp, .ref qp, .ref qe, .ref ql, .int (nI lo), .int (nI le)])), (qp, .inl (cO, b, .inr (.inr (.inr (.inr fp))))), (q0, .inr (7, [.int a1, .int a2, .int a3, .long a4])), (q1, .inr (7, [.int b1, .int b2, .int b3, .long b4]))]) [2, 3, 4, 0, 1] (by decide) rfl
      have hK9 := hK.sub (tys' := [(cO, .object RX4), (cI, .int)]) [0, 1] rfl
      exact W.iret (v := r_5) hx hb hr (fun t ht hW => ⟨⟨r_5, (0, fx, dn), rfl, (by first | assumption | exact hw.2 | exact hw.2.1 | exact hw | exact Or.inl rfl | exact Or.inr rfl), by rw [ht]; exact hP9, va_K.moved hW.alike hK9, hD9⟩, hS.F ht⟩) hS.2.2 dX8_was_34
    · refine lv_iconst (v := 0) hx hb dX8_was_7 (by decide) ?_
      refine lv_goto (tgt := 34) hx hb dX8_was_8 (by decide) ?_
      have hP9 := hP.part (cx := [(ax, .inr (8, [.ref hd, .ref hf, .ref hs, .ref hp, .ref he, .ref q0, .ref q1, .ref qk, .int 0, .long fx, .int dn])), (hf, .inr (2, [.int dp, .ref qp, .ref qe, .ref ql, .int (nI lo), .int (nI le)])), (qp, .inl (cO, b, .inr (.inr (.inr (.inr fp))))), (q0, .inr (7, [.int a1, .int a2, .int a3, .long a4])), (q1, .inr (7, [.int b1, .int b2, .int b3, .long b4]))]) [0, 1, 2, 3, 4] rfl
      have hD9 := hD.part (cx := [(ax, .inr (8, [.ref hd, .ref hf, .ref hs, .ref hp, .ref he, .ref q0, .ref q1, .ref qk, .int 0, .long fx, .int dn])), (hf, .inr (2, [.int dp, .ref qp, .ref qe, .ref ql, .int (nI lo), .int (nI le)])), (qp, .inl (cO, b, .inr (.inr (.inr (.inr fp))))), (q0, .inr (7, [.int a1, .int a2, .int a3, .long a4])), (q1, .inr (7, [.int b1, .int b2, .int b3, .long b4]))]) [0, 1, 2, 3, 4] (by decide) rfl
      have hK9 := hK.sub (tys' := [(cO, .object RX4), (cI, .int)]) [0, 1] rfl
      exact W.iret (v := 0) hx hb hr (fun t ht hW => ⟨⟨0, (0, fx, dn), rfl, (by first | assumption | exact hw.2 | exact hw.2.1 | exact hw | exact Or.inl rfl | exact Or.inr rfl), by rw [ht]; exact hP9, va_K.moved hW.alike hK9, hD9⟩, hS.F ht⟩) hS.2.2 dX8_was_34
  · replace hP : va_P (dC, dI) vwCl ([(ax, .inr (8, [.ref hd, .ref hf, .ref hs, .ref hp, .ref he, .ref q0, .ref q1, .ref qk, .int 1, .long fx, .int dn])), (hf, .inr (2, [.int dp, .ref qp, .ref qe, .ref ql, .int (nI lo), .int (nI le)])), (qp, .inl (cO, b, .inr (.inr (.inr (.inr fp))))), (q0, .inr (7, [.int a1, .int a2, .int a3, .long a4])), (q1, .inr (7, [.int b1, .int b2, .int b3, .long b4]))] ++ pool G cI Pg S) s.heap := hP
    replace hD : va_D A ([(ax, .inr (8, [.ref hd, .ref hf, .ref hs, .ref hp, .ref he, .ref q0, .ref q1, .ref qk, .int 1, .long fx, .int dn])), (hf, .inr (2, [.int dp, .ref qp, .ref qe, .ref ql, .int (nI lo), .int (nI le)])), (qp, .inl (cO, b, .inr (.inr (.inr (.inr fp))))), (q0, .inr (7, [.int a1, .int a2, .int a3, .long a4])), (q1, .inr (7, [.int b1, .int b2, .int b3, .long b4]))] ++ pool G cI Pg S) := hD
    refine lv_aload_n hx hb dX8_was_0 rfl (lv_at hl 0 rfl) ?_
    refine va_get (D := (dC, dI)) (ci := 8) (v := .int dn) (C := RX8) (T := TX8) (N := 11) hx hb hts k_1 hown hK hP 0 rfl rfl 10 (by decide) k_2 (fun _ h9 => h9) rfl dX8_was_1 ?_
    refine lv_if_eq (tgt := 11) hx hb dX8_was_4 (by decide) (fun c_6 => ?_) (fun c_6 => ?_)
    · refine lv_aload_n hx hb dX8_was_11 rfl (lv_at hl 0 rfl) ?_
      refine va_get (D := (dC, dI)) (ci := 8) (v := .ref hf) (C := RX8) (T := TX8) (N := 11) hx hb hts k_1 hown hK hP 0 rfl rfl 1 (by decide) k_3 (fun _ h9 => h9) rfl dX8_was_12 ?_
      refine lv_aload_n hx hb dX8_was_15 rfl (lv_at hl 0 rfl) ?_
      refine lv_aload_n hx hb dX8_was_16 rfl (lv_at hl 0 rfl) ?_
      refine va_get (D := (dC, dI)) (ci := 8) (v := .int 1) (C := RX8) (T := TX8) (N := 11) hx hb hts k_1 hown hK hP 0 rfl rfl 8 (by decide) k_4 (fun _ h9 => h9) rfl dX8_was_17 ?_
      have hPc := hP.sub (ws' := [(ax, .inr (8, [.ref hd, .ref hf, .ref hs, .ref hp, .ref he, .ref q0, .ref q1, .ref qk, .int 1, .long fx, .int dn]))]) [0] rfl
      have hDc := hD.sub (ws' := [(ax, .inr (8, [.ref hd, .ref hf, .ref hs, .ref hp, .ref he, .ref q0, .ref q1, .ref qk, .int 1, .long fx, .int dn]))]) [0] (by decide) rfl
      have hKc := hK.sub (tys' := []) [] rfl
      have hFc := va_free (wc := [(ax, .inr (8, [.ref hd, .ref hf, .ref hs, .ref hp, .ref he, .ref q0, .ref q1, .ref qk, .int 1, .long fx, .int dn]))]) hD hS hA [0] rfl
      refine va_callr (va_runV (As := [.int 1]) (rest := [.ref hf]) ⟨hx, hb, hml, hown, hts⟩ (c_X8_told_1 l dC dI s.heap.size ax hd hf hs hp he q0 q1 qk 1 dn fx) (cwV 1 hts g_X8_was_X8_told_1 rfl rfl rfl (by decide +kernel) ⟨Nat.le_of_ble_eq_true rfl, Nat.le_of_ble_eq_true rfl⟩) ⟨fun a U g mk q => by obtain ⟨q0, q1, qP, qK, qD⟩ := q; exact ⟨q0, q1, qP, va_K.moved (u := U) (U := U.calling g mk a) (Vm.Alike.refl U.vm) qK, qD⟩, va_recv hKc hPc (ci := 8) (q0 := 0) rfl rfl, fun U hU hW => ⟨rfl, by rw [hU], by rw [hU]; exact hPc, va_K.moved hW.alike hKc, hDc.weaken (fun _ _ _ _ => trivial)⟩⟩ rfl rfl hl.1 rfl (lv_room (Nat.le_of_ble_eq_true rfl)) dX8_was_20 ⟨(show 0 + 0 ≤ 0 by omega), (show 0 + 0 ≤ 0 by omega)⟩) hS (fun q _ h => hFc q h) hFc (fun u r_7 t H1 locs ht hvm hw hB hz1 hk1 hS9 => ?_)
      replace hS := hS9
      clear hS9
      obtain ⟨hra, hP1, hK1, hD1⟩ := hB
      have hra := hra.symm
      subst hra
      rw [ht] at hP1
      replace hK1 := va_K.moved hvm.symm hK1
      try dsimp only at hw
      obtain ⟨hP9, hD9⟩ := va_joinQ (wr := [(hf, .inr (2, [.int dp, .ref qp, .ref qe, .ref ql, .int (nI lo), .int (nI le)])), (qp, .inl (cO, b, .inr (.inr (.inr (.inr fp))))), (q0, .inr (7, [.int a1, .int a2, .int a3, .long a4])), (q1, .inr (7, [.int b1, .int b2, .int b3, .long b4]))]) (w1 := [(ax, .inr (8, [.ref hd, .ref hf, .ref hs, .ref hp, .ref he, .ref q0, .ref q1, .ref qk, .int 1, .long fx, .int dn]))]) hP hD [0] [1, 2, 3, 4] rfl rfl (by decide) (by decide) hk1 hFc hP1 hD1
      replace hP := hP9
      replace hD := hD9
      clear hP9 hD9
      replace hK := (hK.sub (tys' := [(cO, .object RX4), (cI, .int)]) [0, 1] rfl).app hK1
      replace hK : va_K (dC, dI) vwCl [(cO, .object RX4), (cI, .int)] s := hK.sub [0, 1] rfl
      clear hP1 hD1 hK1 hPc hDc hKc hFc hk1 hz1 hvm ht
      generalize H1 = H at hP hS ⊢
      replace hP : va_P (dC, dI) vwCl ([(hf, .inr (2, [.int dp, .ref qp, .ref qe, .ref ql, .int (nI lo), .int (nI le)])), (qp, .inl (cO, b, .inr (.inr (.inr (.inr fp))))), (q0, .inr (7, [.int a1, .int a2, .int a3, .long a4])), (q1, .inr (7, [.int b1, .int b2, .int b3, .long b4])), (ax, .inr (8, [.ref hd, .ref hf, .ref hs, .ref hp, .ref he, .ref q0, .ref q1, .ref qk, .int 1, .long fx, .int dn]))] ++ pool G cI Pg S) H := hP
      replace hD : va_D A ([(hf, .inr (2, [.int dp, .ref qp, .ref qe, .ref ql, .int (nI lo), .int (nI le)])), (qp, .inl (cO, b, .inr (.inr (.inr (.inr fp))))), (q0, .inr (7, [.int a1, .int a2, .int a3, .long a4])), (q1, .inr (7, [.int b1, .int b2, .int b3, .long b4])), (ax, .inr (8, [.ref hd, .ref hf, .ref hs, .ref hp, .ref he, .ref q0, .ref q1, .ref qk, .int 1, .long fx, .int dn]))] ++ pool G cI Pg S) := hD
      replace hK : va_K (dC, dI) vwCl [(cO, .object RX4), (cI, .int)] s := hK
      refine va_get (D := (dC, dI)) (ci := 7) (v := .int b2) (C := RX7) (T := TX7) (N := 4) hx hb hts k_5 hown hK hP 3 rfl rfl 1 (by decide) k_6 (fun _ h9 => h9) rfl dX8_was_23 ?_
      refine lv_iload_n hx hb dX8_was_26 rfl (lv_at hl 1 rfl) ?_
      have hPc := hP.part (cx := [(hf, .inr (2, [.int dp, .ref qp, .ref qe, .ref ql, .int (nI lo), .int (nI le)])), (qp, .inl (cO, b, .inr (.inr (.inr (.inr fp)))))]) [0, 1] rfl
      have hDc := hD.part (cx := [(hf, .inr (2, [.int dp, .ref qp, .ref qe, .ref ql, .int (nI lo), .int (nI le)])), (qp, .inl (cO, b, .inr (.inr (.inr (.inr fp)))))]) [0, 1] (by decide) rfl
      have hFc := va_freeP (cx := [(hf, .inr (2, [.int dp, .ref qp, .ref qe, .ref ql, .int (nI lo), .int (nI le)])), (qp, .inl (cO, b, .inr (.inr (.inr (.inr fp)))))]) hD hS hA [0, 1] rfl
      have hKc := hK.sub (tys' := [(cO, .object RX4), (cI, .int)]) [0, 1] rfl
      refine va_callr (va_runV (As := [.int b2, .int p0]) (rest := []) ⟨hx, hb, hml, hown, hts⟩ (c_X2_leafFor l dC dI H.size hf qp qe ql b lo le dp cO fp G Pg cI S b2 p0 (by first | assumption | omega | decide) (by first | assumption | omega | decide) (by first | assumption | omega | decide) (by first | assumption | omega | decide) (by first | assumption | omega | decide)) (cwV 2 hts g_X8_was_X2_leafFor rfl rfl rfl (by decide +kernel) ⟨Nat.le_of_ble_eq_true rfl, Nat.le_of_ble_eq_true rfl⟩) ⟨fun a U g mk q => by obtain ⟨q0, q1, qP, qK, qD⟩ := q; exact ⟨q0, q1, qP, va_K.moved (u := U) (U := U.calling g mk a) (Vm.Alike.refl U.vm) qK, qD⟩, va_recv hKc hPc (ci := 2) (q0 := 0) rfl rfl, fun U hU hW => ⟨rfl, by rw [hU], by rw [hU]; exact hPc, va_K.moved hW.alike hKc, hDc.weaken (fun _ _ _ _ => trivial)⟩⟩ rfl rfl hl.1 rfl (lv_room (Nat.le_of_ble_eq_true rfl)) dX8_was_27 ⟨(show 0 + 0 ≤ 0 by omega), (show 0 + 0 ≤ 0 by omega)⟩) hS (fun q _ h => hFc q h) hFc (fun u r_8 t H1 locs ht hvm hw hB hz1 hk1 hS9 => ?_)
      replace hS := hS9
      clear hS9
      obtain ⟨a_9, rfl⟩ : ∃ z, z = u := ⟨_, rfl⟩
      obtain ⟨hra, hP1, hK1, hD1⟩ := hB
      have hra := hra.symm
      subst hra
      rw [ht] at hP1
      replace hK1 := va_K.moved hvm.symm hK1
      try dsimp only at hw
      obtain ⟨hP9, hD9⟩ := va_joinP (wr := [(q0, .inr (7, [.int a1, .int a2, .int a3, .long a4])), (q1, .inr (7, [.int b1, .int b2, .int b3, .long b4])), (ax, .inr (8, [.ref hd, .ref hf, .ref hs, .ref hp, .ref he, .ref q0, .ref q1, .ref qk, .int 1, .long fx, .int dn]))]) (rx := [(hf, .inr (2, [.int dp, .ref qp, .ref qe, .ref ql, .int (nI lo), .int (nI le)])), (qp, .inl (cO, b, .inr (.inr (.inr (.inr fp)))))]) (pl1 := pool G cI Pg S) hP hD [0, 1] [2, 3, 4] rfl rfl (by decide) (by decide) hk1 hFc hP1 hD1
      replace hP := hP9
      replace hD := hD9
      clear hP9 hD9
      replace hK := (hK.sub (tys' := [(cO, .object RX4), (cI, .int)]) [0, 1] rfl).app hK1
      replace hK : va_K (dC, dI) vwCl [(cO, .object RX4), (cI, .int)] s := hK.sub [0, 1] rfl
      clear hP1 hD1 hK1 hPc hDc hKc hFc hk1 hz1 hvm ht
      generalize H1 = H at hP hS ⊢
      replace hP : va_P (dC, dI) vwCl ([(q0, .inr (7, [.int a1, .int a2, .int a3, .long a4])), (q1, .inr (7, [.int b1, .int b2, .int b3, .long b4])), (ax, .inr (8, [.ref hd, .ref hf, .ref hs, .ref hp, .ref he, .ref q0, .ref q1, .ref qk, .int 1, .long fx, .int dn])), (hf, .inr (2, [.int dp, .ref qp, .ref qe, .ref ql, .int (nI lo), .int (nI le)])), (qp, .inl (cO, b, .inr (.inr (.inr (.inr fp)))))] ++ pool G cI Pg S) H := hP
      replace hD : va_D A ([(q0, .inr (7, [.int a1, .int a2, .int a3, .long a4])), (q1, .inr (7, [.int b1, .int b2, .int b3, .long b4])), (ax, .inr (8, [.ref hd, .ref hf, .ref hs, .ref hp, .ref he, .ref q0, .ref q1, .ref qk, .int 1, .long fx, .int dn])), (hf, .inr (2, [.int dp, .ref qp, .ref qe, .ref ql, .int (nI lo), .int (nI le)])), (qp, .inl (cO, b, .inr (.inr (.inr (.inr fp)))))] ++ pool G cI Pg S) := hD
      replace hK : va_K (dC, dI) vwCl [(cO, .object RX4), (cI, .int)] s := hK
      have hm_a_9 := hw.1
      have ht_a_9 := hw.2
      refine lv_iload_n hx hb dX8_was_30 rfl (lv_at hl 1 rfl) ?_
      have hz1_a_9 := (hI a_9 hm_a_9).1
      have hz2_a_9 := (hI a_9 hm_a_9).2.1
      have hz3_a_9 := (hI a_9 hm_a_9).2.2
      have hT9 := in1 hm_a_9
      have hPc : va_P (dC, dI) vwCl [(a_9, .inr (4, [.int (S a_9).1, .int (nI (S a_9).2.1), .ref (G a_9).1, .ref (G a_9).2.1])), MA9 (G a_9).1 cI (G a_9).2.2.1 (S a_9).2.2.1, MA9 (G a_9).2.1 cI (G a_9).2.2.1 (S a_9).2.2.2] H := pool_cut (T := [a_9]) (cx := []) hP hT9 [] rfl
      have hDc : va_D A [(a_9, .inr (4, [.int (S a_9).1, .int (nI (S a_9).2.1), .ref (G a_9).1, .ref (G a_9).2.1])), MA9 (G a_9).1 cI (G a_9).2.2.1 (S a_9).2.2.1, MA9 (G a_9).2.1 cI (G a_9).2.2.1 (S a_9).2.2.2] := pool_cutD (T := [a_9]) (cx := []) hD hT9 (nd1) [] (by decide) rfl
      have hFc : ∀ q, va_A [(a_9, .inr (4, [.int (S a_9).1, .int (nI (S a_9).2.1), .ref (G a_9).1, .ref (G a_9).2.1])), MA9 (G a_9).1 cI (G a_9).2.2.1 (S a_9).2.2.1, MA9 (G a_9).2.1 cI (G a_9).2.2.1 (S a_9).2.2.2] (H).size q → A q := pool_free (T := [a_9]) (cx := []) hD hS hA hT9 [] rfl
      have hKc := hK.sub (tys' := [(cI, .int), (cI, .int)]) [1, 1] rfl
      refine va_calli (va_runV (As := [.int p0]) (rest := []) ⟨hx, hb, hml, hown, hts⟩ (c_X4_valueOf l dC dI H.size a_9 (G a_9).1 (G a_9).2.1 (G a_9).2.2.1 (S a_9).2.1 (S a_9).1 cI cI (S a_9).2.2.1 (S a_9).2.2.2 p0 (by first | assumption | omega | decide) (by first | assumption | omega | decide)) (cwV 1 hts g_X8_was_X4_valueOf rfl rfl rfl (by decide +kernel) ⟨Nat.le_of_ble_eq_true rfl, Nat.le_of_ble_eq_true rfl⟩) ⟨fun a U g mk q => by obtain ⟨q0, q1, qP, qK, qD⟩ := q; exact ⟨q0, q1, qP, va_K.moved (u := U) (U := U.calling g mk a) (Vm.Alike.refl U.vm) qK, qD⟩, va_recv hKc hPc (ci := 4) (q0 := 0) rfl rfl, fun U hU hW => ⟨rfl, by rw [hU], by rw [hU]; exact hPc, va_K.moved hW.alike hKc, hDc.weaken (fun _ _ _ _ => trivial)⟩⟩ rfl rfl hl.1 rfl (lv_room (Nat.le_of_ble_eq_true rfl)) dX8_was_31 ⟨(show 0 + 0 ≤ 0 by omega), (show 0 + 0 ≤ 0 by omega)⟩) hS (fun q _ h => hFc q h) hFc (fun r_10 u t H1 locs ht hvm hw hB hz1 hk1 hS9 => ?_)
      replace hS := hS9
      clear hS9
      obtain ⟨hP1, hK1, hD1⟩ := hB
      rw [ht] at hP1
      replace hK1 := va_K.moved hvm.symm hK1
      try dsimp only at hw
      obtain ⟨hP9, hD9⟩ := pool_join (S := S) (S1 := S) (T := [a_9]) (cx := []) (wr := [(q0, .inr (7, [.int a1, .int a2, .int a3, .long a4])), (q1, .inr (7, [.int b1, .int b2, .int b3, .long b4])), (ax, .inr (8, [.ref hd, .ref hf, .ref hs, .ref hp, .ref he, .ref q0, .ref q1, .ref qk, .int 1, .long fx, .int dn])), (hf, .inr (2, [.int dp, .ref qp, .ref qe, .ref ql, .int (nI lo), .int (nI le)])), (qp, .inl (cO, b, .inr (.inr (.inr (.inr fp)))))]) (rx := []) hP hD hT9 [] [0, 1, 2, 3, 4] rfl rfl (by decide) (by decide) hk1 hFc hP1 hD1
      replace hP := hP9
      replace hD := hD9
      clear hP9 hD9
      rw [pgJ_same] at hP hD
      replace hK := (hK.sub (tys' := [(cO, .object RX4), (cI, .int)]) [0, 1] rfl).app hK1
      replace hK : va_K (dC, dI) vwCl [(cO, .object RX4), (cI, .int)] s := hK.sub [0, 1] rfl
      clear hP1 hD1 hK1 hPc hDc hKc hFc hk1 hz1 hvm ht
      generalize H1 = H at hP hS ⊢
      replace hP : va_P (dC, dI) vwCl ([(q0, .inr (7, [.int a1, .int a2, .int a3, .long a4])), (q1, .inr (7, [.int b1, .int b2, .int b3, .long b4])), (ax, .inr (8, [.ref hd, .ref hf, .ref hs, .ref hp, .ref he, .ref q0, .ref q1, .ref qk, .int 1, .long fx, .int dn])), (hf, .inr (2, [.int dp, .ref qp, .ref qe, .ref ql, .int (nI lo), .int (nI le)])), (qp, .inl (cO, b, .inr (.inr (.inr (.inr fp)))))] ++ pool G cI Pg S) H := hP
      replace hD : va_D A ([(q0, .inr (7, [.int a1, .int a2, .int a3, .long a4])), (q1, .inr (7, [.int b1, .int b2, .int b3, .long b4])), (ax, .inr (8, [.ref hd, .ref hf, .ref hs, .ref hp, .ref he, .ref q0, .ref q1, .ref qk, .int 1, .long fx, .int dn])), (hf, .inr (2, [.int dp, .ref qp, .ref qe, .ref ql, .int (nI lo), .int (nI le)])), (qp, .inl (cO, b, .inr (.inr (.inr (.inr fp)))))] ++ pool G cI Pg S) := hD
      replace hK : va_K (dC, dI) vwCl [(cO, .object RX4), (cI, .int)] s := hK
      have hw_r_10 := hw
      have hP9 := hP.part (cx := [(ax, .inr (8, [.ref hd, .ref hf, .ref hs, .ref hp, .ref he, .ref q0, .ref q1, .ref qk, .int 1, .long fx, .int dn])), (hf, .inr (2, [.int dp, .ref qp, .ref qe, .ref ql, .int (nI lo), .int (nI le)])), (qp, .inl (cO, b, .inr (.inr (.inr (.inr fp))))), (q0, .inr (7, [.int a1, .int a2, .int a3, .long a4])), (q1, .inr (7, [.int b1, .int b2, .int b3, .long b4]))]) [2, 3, 4, 0, 1] rfl
      have hD9 := hD.part (cx := [(ax, .inr (8, [.ref hd, .ref hf, .ref hs, .ref hp, .ref he, .ref q0, .ref q1, .ref qk, .int 1, .long fx, .int dn])), (hf, .inr (2, [.int dp, .ref qp, .ref qe, .ref ql, .int (nI lo), .int (nI le)])), (qp, .inl (cO, b, .inr (.inr (.inr (.inr fp))))), (q0, .inr (7, [.int a1, .int a2, .int a3, .long a4])), (q1, .inr (7, [.int b1, .int b2, .int b3, .long b4]))]) [2, 3, 4, 0, 1] (by decide) rfl
      have hK9 := hK.sub (tys' := [(cO, .object RX4), (cI, .int)]) [0, 1] rfl
      exact W.iret (v := r_10) hx hb hr (fun t ht hW => ⟨⟨r_10, (1, fx, dn), rfl, (by first | assumption | exact hw.2 | exact hw.2.1 | exact hw | exact Or.inl rfl | exact Or.inr rfl), by rw [ht]; exact hP9, va_K.moved hW.alike hK9, hD9⟩, hS.F ht⟩) hS.2.2 dX8_was_34
    · refine lv_iconst (v := 0) hx hb dX8_was_7 (by decide) ?_
      refine lv_goto (tgt := 34) hx hb dX8_was_8 (by decide) ?_
      have hP9 := hP.part (cx := [(ax, .inr (8, [.ref hd, .ref hf, .ref hs, .ref hp, .ref he, .ref q0, .ref q1, .ref qk, .int 1, .long fx, .int dn])), (hf, .inr (2, [.int dp, .ref qp, .ref qe, .ref ql, .int (nI lo), .int (nI le)])), (qp, .inl (cO, b, .inr (.inr (.inr (.inr fp))))), (q0, .inr (7, [.int a1, .int a2, .int a3, .long a4])), (q1, .inr (7, [.int b1, .int b2, .int b3, .long b4]))]) [0, 1, 2, 3, 4] rfl
      have hD9 := hD.part (cx := [(ax, .inr (8, [.ref hd, .ref hf, .ref hs, .ref hp, .ref he, .ref q0, .ref q1, .ref qk, .int 1, .long fx, .int dn])), (hf, .inr (2, [.int dp, .ref qp, .ref qe, .ref ql, .int (nI lo), .int (nI le)])), (qp, .inl (cO, b, .inr (.inr (.inr (.inr fp))))), (q0, .inr (7, [.int a1, .int a2, .int a3, .long a4])), (q1, .inr (7, [.int b1, .int b2, .int b3, .long b4]))]) [0, 1, 2, 3, 4] (by decide) rfl
      have hK9 := hK.sub (tys' := [(cO, .object RX4), (cI, .int)]) [0, 1] rfl
      exact W.iret (v := 0) hx hb hr (fun t ht hW => ⟨⟨0, (1, fx, dn), rfl, (by first | assumption | exact hw.2 | exact hw.2.1 | exact hw | exact Or.inl rfl | exact Or.inr rfl), by rw [ht]; exact hP9, va_K.moved hW.alike hK9, hD9⟩, hS.F ht⟩) hS.2.2 dX8_was_34
def v_X8_size : List Cond := .code yX8_size cX8_size 1 (some .int) :: ([.fieldLink RX8 77 "TwinRoots" "down" "Z", .fieldLink RX8 74 "TwinRoots" "working" "LTwinRoots$Told;", .fieldLink RX8 127 "TwinRoots$Told" "keys" "I"] ++ (wsX80 ++ (wsX70 ++ ([]))))
set_option maxHeartbeats 4000000 in
set_option maxRecDepth 100000 in
/-- X8_size -/
theorem c_X8_size (l : Launch) (dC : Nat → ClassId) (dI : Nat → Nat → Nat) (sz : Nat) (ax : Nat) (hd : Nat) (hf : Nat) (hs : Nat) (hp : Nat) (he : Nat) (q0 : Nat) (q1 : Nat) (qk : Nat) (lt : Int32) (dn : Int32) (c1 : Int32) (c2 : Int32) (c3 : Int32) (fx : Int64) (c4 : Int64) : Met l yX8_size v_X8_size ({ frames := 0, cells := 0, slots := 0, locals := 0 } : Room) (va_Pc [.ref ax] (fun U => U.heap.size = sz ∧ va_P (dC, dI) vwCl [(ax, .inr (8, [.ref hd, .ref hf, .ref hs, .ref hp, .ref he, .ref q0, .ref q1, .ref qk, .int lt, .long fx, .int dn])), (qk, .inr (7, [.int c1, .int c2, .int c3, .long c4]))] U.heap ∧ va_K (dC, dI) vwCl [] U ∧ va_D (fun _ => True) [(ax, .inr (8, [.ref hd, .ref hf, .ref hs, .ref hp, .ref he, .ref q0, .ref q1, .ref qk, .int lt, .long fx, .int dn])), (qk, .inr (7, [.int c1, .int c2, .int c3, .long c4]))])) (va_Qi (fun (r : Int32) (_ : Unit) => True) (fun (_ : Unit) (t : State) => va_P (dC, dI) vwCl [(ax, .inr (8, [.ref hd, .ref hf, .ref hs, .ref hp, .ref he, .ref q0, .ref q1, .ref qk, .int lt, .long fx, .int dn])), (qk, .inr (7, [.int c1, .int c2, .int c3, .long c4]))] t.heap ∧ va_K (dC, dI) vwCl [] t ∧ va_D (va_A [(ax, .inr (8, [.ref hd, .ref hf, .ref hs, .ref hp, .ref he, .ref q0, .ref q1, .ref qk, .int lt, .long fx, .int dn])), (qk, .inr (7, [.int c1, .int c2, .int c3, .long c4]))] sz) [(ax, .inr (8, [.ref hd, .ref hf, .ref hs, .ref hp, .ref he, .ref q0, .ref q1, .ref qk, .int lt, .long fx, .int dn])), (qk, .inr (7, [.int c1, .int c2, .int c3, .long c4]))]) (va_A [(ax, .inr (8, [.ref hd, .ref hf, .ref hs, .ref hp, .ref he, .ref q0, .ref q1, .ref qk, .int lt, .long fx, .int dn])), (qk, .inr (7, [.int c1, .int c2, .int c3, .long c4]))] sz)) 0 0 (va_A [(ax, .inr (8, [.ref hd, .ref hf, .ref hs, .ref hp, .ref he, .ref q0, .ref q1, .ref qk, .int lt, .long fx, .int dn])), (qk, .inr (7, [.int c1, .int c2, .int c3, .long c4]))] sz) := by
  refine Met.ofW (cc := cX8_size) (maxL := 1) (ret := (some .int)) (by decide) rfl ?_
  intro p e s m args below meth c s₁ B hml hv
  obtain ⟨rfl, hsz, hP, hK, hD0⟩ := hv
  have hx := B.exec
  have hb := B.bytes
  have hr := B.returns
  have hts := atoms_spec (ws := v_X8_size) B.pre
  have hown : s.vm.findClass RX8 = some m.cls := findClass_of_methodNamed B.named
  have hlocks := B.notSynchronized
  subst hsz
  have hD := hD0.self (sz := s.heap.size)
  generalize hAe : va_A [(ax, .inr (8, [.ref hd, .ref hf, .ref hs, .ref hp, .ref he, .ref q0, .ref q1, .ref qk, .int lt, .long fx, .int dn])), (qk, .inr (7, [.int c1, .int c2, .int c3, .long c4]))] s.heap.size = A at hD ⊢
  have hA : ∀ q : Nat, s.heap.size ≤ q → A q := fun q h => by rw [← hAe]; exact Or.inr h
  have hS : va_S A s.heap s.heap [] := va_S.rf
  have hP : va_P (dC, dI) vwCl [(ax, .inr (8, [.ref hd, .ref hf, .ref hs, .ref hp, .ref he, .ref q0, .ref q1, .ref qk, .int lt, .long fx, .int dn])), (qk, .inr (7, [.int c1, .int c2, .int c3, .long c4]))] s.heap := hP
  have hl := lv_entry ([.ref ax]) (n := 1) (Nat.le_of_ble_eq_true rfl)
  rw [lg_entry_eq]
  generalize (lg_sl ([.ref ax]) ++ List.replicate (1 - (lg_sl ([.ref ax])).length) Slot.unset).toArray = ls at hl ⊢
  have hl : lv_has ls 1 [(0, .ref ax)] := hl
  have k_1 := (fun _ h => List.mem_cons_of_mem _ (List.mem_append_right _ (List.mem_append_left _ h)) : ∀ w ∈ wsX80, w ∈ v_X8_size)
  have k_2 := hts (.fieldLink RX8 77 "TwinRoots" "down" "Z") (List.mem_of_getElem? (i := 1) rfl)
  have k_3 := hts (.fieldLink RX8 74 "TwinRoots" "working" "LTwinRoots$Told;") (List.mem_of_getElem? (i := 2) rfl)
  have k_4 := (fun _ h => List.mem_cons_of_mem _ (List.mem_append_right _ (List.mem_append_right _ (List.mem_append_left _ h))) : ∀ w ∈ wsX70, w ∈ v_X8_size)
  have k_5 := hts (.fieldLink RX8 127 "TwinRoots$Told" "keys" "I") (List.mem_of_getElem? (i := 3) rfl)
  refine lv_aload_n hx hb dX8_size_0 rfl (lv_at hl 0 rfl) ?_
  refine va_get (D := (dC, dI)) (ci := 8) (v := .int dn) (C := RX8) (T := TX8) (N := 11) hx hb hts k_1 hown hK hP 0 rfl rfl 10 (by decide) k_2 (fun _ h9 => h9) rfl dX8_size_1 ?_
  refine lv_if_eq (tgt := 11) hx hb dX8_size_4 (by decide) (fun c_1 => ?_) (fun c_1 => ?_)
  · refine lv_aload_n hx hb dX8_size_11 rfl (lv_at hl 0 rfl) ?_
    refine va_get (D := (dC, dI)) (ci := 8) (v := .ref qk) (C := RX8) (T := TX8) (N := 11) hx hb hts k_1 hown hK hP 0 rfl rfl 7 (by decide) k_3 (fun _ h9 => h9) rfl dX8_size_12 ?_
    refine va_get (D := (dC, dI)) (ci := 7) (v := .int c3) (C := RX7) (T := TX7) (N := 4) hx hb hts k_4 hown hK hP 1 rfl rfl 2 (by decide) k_5 (fun _ h9 => h9) rfl dX8_size_15 ?_
    have hP9 := hP.sub (ws' := [(ax, .inr (8, [.ref hd, .ref hf, .ref hs, .ref hp, .ref he, .ref q0, .ref q1, .ref qk, .int lt, .long fx, .int dn])), (qk, .inr (7, [.int c1, .int c2, .int c3, .long c4]))]) [0, 1] rfl
    have hD9 := hD.sub (ws' := [(ax, .inr (8, [.ref hd, .ref hf, .ref hs, .ref hp, .ref he, .ref q0, .ref q1, .ref qk, .int lt, .long fx, .int dn])), (qk, .inr (7, [.int c1, .int c2, .int c3, .long c4]))]) [0, 1] (by decide) rfl
    have hK9 := hK.sub (tys' := []) [] rfl
    exact W.iret (v := c3) hx hb hr (fun t ht hW => ⟨⟨c3, (), rfl, trivial, by rw [ht]; exact hP9, va_K.moved hW.alike hK9, hD9⟩, hS.F ht⟩) hS.2.2 dX8_size_18
  · refine lv_iconst (v := -1) hx hb dX8_size_7 (by decide) ?_
    refine lv_goto (tgt := 18) hx hb dX8_size_8 (by decide) ?_
    have hP9 := hP.sub (ws' := [(ax, .inr (8, [.ref hd, .ref hf, .ref hs, .ref hp, .ref he, .ref q0, .ref q1, .ref qk, .int lt, .long fx, .int dn])), (qk, .inr (7, [.int c1, .int c2, .int c3, .long c4]))]) [0, 1] rfl
    have hD9 := hD.sub (ws' := [(ax, .inr (8, [.ref hd, .ref hf, .ref hs, .ref hp, .ref he, .ref q0, .ref q1, .ref qk, .int lt, .long fx, .int dn])), (qk, .inr (7, [.int c1, .int c2, .int c3, .long c4]))]) [0, 1] (by decide) rfl
    have hK9 := hK.sub (tys' := []) [] rfl
    exact W.iret (v := (-1)) hx hb hr (fun t ht hW => ⟨⟨(-1), (), rfl, trivial, by rw [ht]; exact hP9, va_K.moved hW.alike hK9, hD9⟩, hS.F ht⟩) hS.2.2 dX8_size_18
def v_X8_rank : List Cond := .code yX8_rank cX8_rank 4 (some .int) :: ([.fieldLink RX8 77 "TwinRoots" "down" "Z", .fieldLink RX8 35 "TwinRoots" "forest" "LTwinRoots$Forest;", .fieldLink RX8 74 "TwinRoots" "working" "LTwinRoots$Told;", .fieldLink RX8 110 "TwinRoots$Told" "top" "I", .code yX2_walk cX2_walk 4 none, .fieldLink RX2 43 "TwinRoots$Forest" "depth" "I", .fieldLink RX2 47 "TwinRoots$Forest" "lowestLevel" "I", .fieldLink RX2 50 "TwinRoots$Forest" "lineEnd" "I", .code yX2_lineUp cX2_lineUp 2 none, .fieldLink RX2 24 "TwinRoots$Forest" "line" "[I", .methodLink RX2 53 yX2_lineUp, .instanceMethod yX2_lineUp, .selects RX2 yX2_lineUp yX2_lineUp, .initialized RX2, .code yX2_inLine cX2_inLine 2 (some (.object "TwinRoots$Page")), .fieldLink RX2 20 "TwinRoots$Forest" "empty" "LTwinRoots$Page;", .code yX2_page cX2_page 2 (some (.object "TwinRoots$Page")), .fieldLink RX2 11 "TwinRoots$Forest" "pages" "[LTwinRoots$Page;", .methodLink RX2 28 yX2_page, .instanceMethod yX2_page, .selects RX2 yX2_page yX2_page, .methodLink RX2 56 yX2_inLine, .instanceMethod yX2_inLine, .selects RX2 yX2_inLine yX2_inLine, .fieldLink RX2 32 "TwinRoots$Page" "leaf" "Z", .code yX2_lineUpChildren cX2_lineUpChildren 3 none, .fieldLink RX2 63 "TwinRoots$Page" "many" "I", .code yX4_refAt cX4_refAt 2 (some .int), .fieldLink RX4 22 "TwinRoots$Page" "many" "I", .fieldLink RX4 19 "TwinRoots$Page" "refs" "[I", .methodLink RX2 40 yX4_refAt, .instanceMethod yX4_refAt, .selects RX4 yX4_refAt yX4_refAt, .initialized RX4, .methodLink RX2 59 yX2_lineUpChildren, .instanceMethod yX2_lineUpChildren, .selects RX2 yX2_lineUpChildren yX2_lineUpChildren, .methodLink RX8 147 yX2_walk, .instanceMethod yX2_walk, .selects RX2 yX2_walk yX2_walk, .code yX2_leaves cX2_leaves 1 (some .int), .methodLink RX8 150 yX2_leaves, .instanceMethod yX2_leaves, .selects RX2 yX2_leaves yX2_leaves, .code yX2_leaf cX2_leaf 2 (some (.object "TwinRoots$Page")), .methodLink RX8 154 yX2_leaf, .instanceMethod yX2_leaf, .selects RX2 yX2_leaf yX2_leaf, .code yX4_placeOf cX4_placeOf 3 (some .int), .code yX4_keyAt cX4_keyAt 2 (some .int), .fieldLink RX4 15 "TwinRoots$Page" "keys" "[I", .methodLink RX4 34 yX4_keyAt, .instanceMethod yX4_keyAt, .selects RX4 yX4_keyAt yX4_keyAt, .methodLink RX8 158 yX4_placeOf, .instanceMethod yX4_placeOf, .selects RX4 yX4_placeOf yX4_placeOf] ++ (wsX80 ++ (wsX70 ++ (wsX20 ++ (wsX40 ++ ([]))))))
set_option maxRecDepth 20000 in
theorem g_X8_rank_X2_walk : GoodIn v_X8_rank (wsV RX8 147 RX2 yX2_walk v_X2_walk) := goodIn_r _ [38, 39, 40, 14, 5, 6, 7, 8, 9, 10, 11, 12, 13, 14, 15, 16, 17, 18, 19, 20, 21, 22, 23, 24, 25, 26, 27, 28, 29, 30, 31, 32, 33, 34, 35, 36, 37, 73, 74, 75, 76, 77, 78, 79, 80, 81, 82] (by decide +kernel) (by decide +kernel)
set_option maxRecDepth 20000 in
theorem g_X8_rank_X2_leaves : GoodIn v_X8_rank (wsV RX8 150 RX2 yX2_leaves v_X2_leaves) := goodIn_r _ [42, 43, 44, 14, 41, 8, 7, 73, 74, 75, 76, 77, 78] (by decide +kernel) (by decide +kernel)
set_option maxRecDepth 20000 in
theorem g_X8_rank_X2_leaf : GoodIn v_X8_rank (wsV RX8 154 RX2 yX2_leaf v_X2_leaf) := goodIn_r _ [46, 47, 48, 14, 45, 7, 15, 16, 8, 10, 17, 18, 19, 20, 21, 14, 22, 23, 24, 73, 74, 75, 76, 77, 78] (by decide +kernel) (by decide +kernel)
set_option maxRecDepth 20000 in
theorem g_X8_rank_X4_placeOf : GoodIn v_X8_rank (wsV RX8 158 RX4 yX4_placeOf v_X4_placeOf) := goodIn_r _ [55, 56, 57, 34, 49, 29, 50, 51, 52, 53, 54, 34, 79, 80, 81, 82] (by decide +kernel) (by decide +kernel)
set_option maxHeartbeats 4000000 in
set_option maxRecDepth 100000 in
/-- X8_rank -/
theorem c_X8_rank (l : Launch) (dC : Nat → ClassId) (dI : Nat → Nat → Nat) (sz : Nat) (ax : Nat) (hd : Nat) (hf : Nat) (hs : Nat) (hp : Nat) (he : Nat) (q0 : Nat) (q1 : Nat) (qk : Nat) (qp : Nat) (qe : Nat) (ql : Nat) (b : Nat) (lo : Nat) (le : Nat) (lt : Int32) (dn : Int32) (dp : Int32) (c1 : Int32) (c2 : Int32) (c3 : Int32) (fx : Int64) (c4 : Int64) (fl : Nat → Int32) (fp : Nat → Option Nat) (cI : ClassId) (cO : ClassId) (G : pgG) (Pg : List Nat) (S : pgS) (p0 : Int32) (zb : b ≤ 64) (hI : pgI G Pg S) (hpg : ∀ i, i < b → ∃ a, a ∈ Pg ∧ (G a).2.2.2 = 0 ∧ fp i = some a) (hm_qe : qe ∈ Pg) (ht_qe : (G qe).2.2.2 = 0) : Met l yX8_rank v_X8_rank ({ frames := 3, cells := 0, slots := 0, locals := 66 } : Room) (va_Pc [.ref ax, .int p0] (fun U => U.heap.size = sz ∧ va_P (dC, dI) vwCl ([(ax, .inr (8, [.ref hd, .ref hf, .ref hs, .ref hp, .ref he, .ref q0, .ref q1, .ref qk, .int lt, .long fx, .int dn])), (hf, .inr (2, [.int dp, .ref qp, .ref qe, .ref ql, .int (nI lo), .int (nI le)])), (qp, .inl (cO, b, .inr (.inr (.inr (.inr fp))))), MA9 ql cI b fl, (qk, .inr (7, [.int c1, .int c2, .int c3, .long c4]))] ++ pool G cI Pg S) U.heap ∧ va_K (dC, dI) vwCl [(cO, .object RX4), (cI, .int)] U ∧ va_D (fun _ => True) ([(ax, .inr (8, [.ref hd, .ref hf, .ref hs, .ref hp, .ref he, .ref q0, .ref q1, .ref qk, .int lt, .long fx, .int dn])), (hf, .inr (2, [.int dp, .ref qp, .ref qe, .ref ql, .int (nI lo), .int (nI le)])), (qp, .inl (cO, b, .inr (.inr (.inr (.inr fp))))), MA9 ql cI b fl, (qk, .inr (7, [.int c1, .int c2, .int c3, .long c4]))] ++ pool G cI Pg S))) (va_Qi (fun (r : Int32) (u : Int32 × Nat × Nat × (Nat → Int32)) => match u with | (dp2, lo2, le2, fl2) => True) (fun (u : Int32 × Nat × Nat × (Nat → Int32)) (t : State) => match u with | (dp2, lo2, le2, fl2) => va_P (dC, dI) vwCl ([(ax, .inr (8, [.ref hd, .ref hf, .ref hs, .ref hp, .ref he, .ref q0, .ref q1, .ref qk, .int lt, .long fx, .int dn])), (hf, .inr (2, [.int dp2, .ref qp, .ref qe, .ref ql, .int (nI lo2), .int (nI le2)])), (qp, .inl (cO, b, .inr (.inr (.inr (.inr fp))))), MA9 ql cI b fl2, (qk, .inr (7, [.int c1, .int c2, .int c3, .long c4]))] ++ pool G cI Pg S) t.heap ∧ va_K (dC, dI) vwCl [(cO, .object RX4), (cI, .int)] t ∧ va_D (va_A ([(ax, .inr (8, [.ref hd, .ref hf, .ref hs, .ref hp, .ref he, .ref q0, .ref q1, .ref qk, .int lt, .long fx, .int dn])), (hf, .inr (2, [.int dp, .ref qp, .ref qe, .ref ql, .int (nI lo), .int (nI le)])), (qp, .inl (cO, b, .inr (.inr (.inr (.inr fp))))), MA9 ql cI b fl, (qk, .inr (7, [.int c1, .int c2, .int c3, .long c4]))] ++ pool G cI Pg S) sz) ([(ax, .inr (8, [.ref hd, .ref hf, .ref hs, .ref hp, .ref he, .ref q0, .ref q1, .ref qk, .int lt, .long fx, .int dn])), (hf, .inr (2, [.int dp2, .ref qp, .ref qe, .ref ql, .int (nI lo2), .int (nI le2)])), (qp, .inl (cO, b, .inr (.inr (.inr (.inr fp))))), MA9 ql cI b fl2, (qk, .inr (7, [.int c1, .int c2, .int c3, .long c4]))] ++ pool G cI Pg S)) (va_A ([(ax, .inr (8, [.ref hd, .ref hf, .ref hs, .ref hp, .ref he, .ref q0, .ref q1, .ref qk, .int lt, .long fx, .int dn])), (hf, .inr (2, [.int dp, .ref qp, .ref qe, .ref ql, .int (nI lo), .int (nI le)])), (qp, .inl (cO, b, .inr (.inr (.inr (.inr fp))))), MA9 ql cI b fl, (qk, .inr (7, [.int c1, .int c2, .int c3, .long c4]))] ++ pool G cI Pg S) sz)) 0 0 (va_A ([(ax, .inr (8, [.ref hd, .ref hf, .ref hs, .ref hp, .ref he, .ref q0, .ref q1, .ref qk, .int lt, .long fx, .int dn])), (hf, .inr (2, [.int dp, .ref qp, .ref qe, .ref ql, .int (nI lo), .int (nI le)])), (qp, .inl (cO, b, .inr (.inr (.inr (.inr fp))))), MA9 ql cI b fl, (qk, .inr (7, [.int c1, .int c2, .int c3, .long c4]))] ++ pool G cI Pg S) sz) := by
  refine Met.ofW (cc := cX8_rank) (maxL := 4) (ret := (some .int)) (by decide) rfl ?_
  intro p e s m args below meth c s₁ B hml hv
  obtain ⟨rfl, hsz, hP, hK, hD0⟩ := hv
  have hx := B.exec
  have hb := B.bytes
  have hr := B.returns
  have hts := atoms_spec (ws := v_X8_rank) B.pre
  have hown : s.vm.findClass RX8 = some m.cls := findClass_of_methodNamed B.named
  have hlocks := B.notSynchronized
  subst hsz
  have hD := hD0.self (sz := s.heap.size)
  generalize hAe : va_A ([(ax, .inr (8, [.ref hd, .ref hf, .ref hs, .ref hp, .ref he, .ref q0, .ref q1, .ref qk, .int lt, .long fx, .int dn])), (hf, .inr (2, [.int dp, .ref qp, .ref qe, .ref ql, .int (nI lo), .int (nI le)])), (qp, .inl (cO, b, .inr (.inr (.inr (.inr fp))))), MA9 ql cI b fl, (qk, .inr (7, [.int c1, .int c2, .int c3, .long c4]))] ++ pool G cI Pg S) s.heap.size = A at hD ⊢
  have hA : ∀ q : Nat, s.heap.size ≤ q → A q := fun q h => by rw [← hAe]; exact Or.inr h
  have hS : va_S A s.heap s.heap [] := va_S.rf
  have hP : va_P (dC, dI) vwCl ([(ax, .inr (8, [.ref hd, .ref hf, .ref hs, .ref hp, .ref he, .ref q0, .ref q1, .ref qk, .int lt, .long fx, .int dn])), (hf, .inr (2, [.int dp, .ref qp, .ref qe, .ref ql, .int (nI lo), .int (nI le)])), (qp, .inl (cO, b, .inr (.inr (.inr (.inr fp))))), MA9 ql cI b fl, (qk, .inr (7, [.int c1, .int c2, .int c3, .long c4]))] ++ pool G cI Pg S) s.heap := hP
  have hl := lv_entry ([.ref ax, .int p0]) (n := 4) (Nat.le_of_ble_eq_true rfl)
  rw [lg_entry_eq]
  generalize (lg_sl ([.ref ax, .int p0]) ++ List.replicate (4 - (lg_sl ([.ref ax, .int p0])).length) Slot.unset).toArray = ls at hl ⊢
  have hl : lv_has ls 4 [(0, .ref ax), (1, .int p0)] := hl
  have k_1 := (fun _ h => List.mem_cons_of_mem _ (List.mem_append_right _ (List.mem_append_left _ h)) : ∀ w ∈ wsX80, w ∈ v_X8_rank)
  have k_2 := hts (.fieldLink RX8 77 "TwinRoots" "down" "Z") (List.mem_of_getElem? (i := 1) rfl)
  have k_3 := hts (.fieldLink RX8 35 "TwinRoots" "forest" "LTwinRoots$Forest;") (List.mem_of_getElem? (i := 2) rfl)
  have k_4 := hts (.fieldLink RX8 74 "TwinRoots" "working" "LTwinRoots$Told;") (List.mem_of_getElem? (i := 3) rfl)
  have k_5 := (fun _ h => List.mem_cons_of_mem _ (List.mem_append_right _ (List.mem_append_right _ (List.mem_append_left _ h))) : ∀ w ∈ wsX70, w ∈ v_X8_rank)
  have k_6 := hts (.fieldLink RX8 110 "TwinRoots$Told" "top" "I") (List.mem_of_getElem? (i := 4) rfl)
  refine lv_aload_n hx hb dX8_rank_0 rfl (lv_at hl 0 rfl) ?_
  refine va_get (D := (dC, dI)) (ci := 8) (v := .int dn) (C := RX8) (T := TX8) (N := 11) hx hb hts k_1 hown hK hP 0 rfl rfl 10 (by decide) k_2 (fun _ h9 => h9) rfl dX8_rank_1 ?_
  refine lv_if_eq (tgt := 9) hx hb dX8_rank_4 (by decide) (fun c_1 => ?_) (fun c_1 => ?_)
  · refine lv_aload_n hx hb dX8_rank_9 rfl (lv_at hl 0 rfl) ?_
    refine va_get (D := (dC, dI)) (ci := 8) (v := .ref hf) (C := RX8) (T := TX8) (N := 11) hx hb hts k_1 hown hK hP 0 rfl rfl 1 (by decide) k_3 (fun _ h9 => h9) rfl dX8_rank_10 ?_
    refine lv_aload_n hx hb dX8_rank_13 rfl (lv_at hl 0 rfl) ?_
    refine va_get (D := (dC, dI)) (ci := 8) (v := .ref qk) (C := RX8) (T := TX8) (N := 11) hx hb hts k_1 hown hK hP 0 rfl rfl 7 (by decide) k_4 (fun _ h9 => h9) rfl dX8_rank_14 ?_
    refine va_get (D := (dC, dI)) (ci := 7) (v := .int c2) (C := RX7) (T := TX7) (N := 4) hx hb hts k_5 hown hK hP 4 rfl rfl 1 (by decide) k_6 (fun _ h9 => h9) rfl dX8_rank_17 ?_
    have hPc := hP.part (cx := [(hf, .inr (2, [.int dp, .ref qp, .ref qe, .ref ql, .int (nI lo), .int (nI le)])), (qp, .inl (cO, b, .inr (.inr (.inr (.inr fp))))), MA9 ql cI b fl]) [1, 2, 3] rfl
    have hDc := hD.part (cx := [(hf, .inr (2, [.int dp, .ref qp, .ref qe, .ref ql, .int (nI lo), .int (nI le)])), (qp, .inl (cO, b, .inr (.inr (.inr (.inr fp))))), MA9 ql cI b fl]) [1, 2, 3] (by decide) rfl
    have hFc := va_freeP (cx := [(hf, .inr (2, [.int dp, .ref qp, .ref qe, .ref ql, .int (nI lo), .int (nI le)])), (qp, .inl (cO, b, .inr (.inr (.inr (.inr fp))))), MA9 ql cI b fl]) hD hS hA [1, 2, 3] rfl
    have hKc := hK.sub (tys' := [(cO, .object RX4), (cI, .int)]) [0, 1] rfl
    refine va_callv (va_runV (As := [.int c2]) (rest := []) ⟨hx, hb, hml, hown, hts⟩ (c_X2_walk l dC dI s.heap.size hf qp qe ql b dp (nI lo) (nI le) c2 cO fp G Pg cI S fl (by first | assumption | omega | decide) (by first | assumption | omega | decide) (by first | assumption | omega | decide) (by first | assumption | omega | decide) (by first | assumption | omega | decide)) (cwV 1 hts g_X8_rank_X2_walk rfl rfl rfl (by decide +kernel) ⟨Nat.le_of_ble_eq_true rfl, Nat.le_of_ble_eq_true rfl⟩) ⟨fun a U g mk q => by obtain ⟨q0, q1, qP, qK, qD⟩ := q; exact ⟨q0, q1, qP, va_K.moved (u := U) (U := U.calling g mk a) (Vm.Alike.refl U.vm) qK, qD⟩, va_recv hKc hPc (ci := 2) (q0 := 0) rfl rfl, fun U hU hW => ⟨rfl, by rw [hU], by rw [hU]; exact hPc, va_K.moved hW.alike hKc, hDc.weaken (fun _ _ _ _ => trivial)⟩⟩ rfl rfl hl.1 rfl (lv_room (Nat.le_of_ble_eq_true rfl)) dX8_rank_20 ⟨(show 0 + 0 ≤ 0 by omega), (show 0 + 0 ≤ 0 by omega)⟩) hS (fun q _ h => hFc q h) hFc (fun u t H1 locs ht hvm hw hB hz1 hk1 hS9 => ?_)
    replace hS := hS9
    clear hS9
    obtain ⟨dp9, lo9, le9, fl9⟩ := u
    obtain ⟨hP1, hK1, hD1⟩ := hB
    rw [ht] at hP1
    replace hK1 := va_K.moved hvm.symm hK1
    try dsimp only at hw
    obtain ⟨hP9, hD9⟩ := va_joinP (wr := [(ax, .inr (8, [.ref hd, .ref hf, .ref hs, .ref hp, .ref he, .ref q0, .ref q1, .ref qk, .int lt, .long fx, .int dn])), (qk, .inr (7, [.int c1, .int c2, .int c3, .long c4]))]) (rx := [(hf, .inr (2, [.int dp9, .ref qp, .ref qe, .ref ql, .int (nI lo9), .int (nI le9)])), (qp, .inl (cO, b, .inr (.inr (.inr (.inr fp))))), MA9 ql cI b fl9]) (pl1 := pool G cI Pg S) hP hD [1, 2, 3] [0, 4] rfl rfl (by decide) (by decide) hk1 hFc hP1 hD1
    replace hP := hP9
    replace hD := hD9
    clear hP9 hD9
    replace hK := (hK.sub (tys' := [(cO, .object RX4), (cI, .int)]) [0, 1] rfl).app hK1
    replace hK : va_K (dC, dI) vwCl [(cO, .object RX4), (cI, .int)] s := hK.sub [0, 1] rfl
    clear hP1 hD1 hK1 hPc hDc hKc hFc hk1 hz1 hvm ht
    generalize H1 = H at hP hS ⊢
    replace hP : va_P (dC, dI) vwCl ([(ax, .inr (8, [.ref hd, .ref hf, .ref hs, .ref hp, .ref he, .ref q0, .ref q1, .ref qk, .int lt, .long fx, .int dn])), (qk, .inr (7, [.int c1, .int c2, .int c3, .long c4])), (hf, .inr (2, [.int dp9, .ref qp, .ref qe, .ref ql, .int (nI lo9), .int (nI le9)])), (qp, .inl (cO, b, .inr (.inr (.inr (.inr fp))))), MA9 ql cI b fl9] ++ pool G cI Pg S) H := hP
    replace hD : va_D A ([(ax, .inr (8, [.ref hd, .ref hf, .ref hs, .ref hp, .ref he, .ref q0, .ref q1, .ref qk, .int lt, .long fx, .int dn])), (qk, .inr (7, [.int c1, .int c2, .int c3, .long c4])), (hf, .inr (2, [.int dp9, .ref qp, .ref qe, .ref ql, .int (nI lo9), .int (nI le9)])), (qp, .inl (cO, b, .inr (.inr (.inr (.inr fp))))), MA9 ql cI b fl9] ++ pool G cI Pg S) := hD
    replace hK : va_K (dC, dI) vwCl [(cO, .object RX4), (cI, .int)] s := hK
    have hw_r_2 := hw
    refine lv_iconst (v := 0) hx hb dX8_rank_23 (by decide) ?_
    refine lv_istore_n (lv' := [(2, .int 0), (0, .ref ax), (1, .int p0)]) hx hb dX8_rank_24 rfl hl (by decide) rfl (fun ls hl9 => ?_)
    replace hl := hl9
    clear hl9
    refine lv_iconst (v := 0) hx hb dX8_rank_25 (by decide) ?_
    refine lv_istore_n (lv' := [(3, .int 0), (2, .int 0), (0, .ref ax), (1, .int p0)]) hx hb dX8_rank_26 rfl hl (by decide) rfl (fun ls hl9 => ?_)
    replace hl := hl9
    clear hl9
    have loop_27 : ∀ (Q : State → Prop), (∀ (i : Nat) (sv : Int32) (H : Heap) (locs : List Loc) (ls : Array Slot), i ≤ le9 - lo9 → va_P (dC, dI) vwCl ([(ax, .inr (8, [.ref hd, .ref hf, .ref hs, .ref hp, .ref he, .ref q0, .ref q1, .ref qk, .int lt, .long fx, .int dn])), (qk, .inr (7, [.int c1, .int c2, .int c3, .long c4])), (hf, .inr (2, [.int dp9, .ref qp, .ref qe, .ref ql, .int (nI lo9), .int (nI le9)])), (qp, .inl (cO, b, .inr (.inr (.inr (.inr fp))))), MA9 ql cI b fl9] ++ pool G cI Pg S) H → va_D A ([(ax, .inr (8, [.ref hd, .ref hf, .ref hs, .ref hp, .ref he, .ref q0, .ref q1, .ref qk, .int lt, .long fx, .int dn])), (qk, .inr (7, [.int c1, .int c2, .int c3, .long c4])), (hf, .inr (2, [.int dp9, .ref qp, .ref qe, .ref ql, .int (nI lo9), .int (nI le9)])), (qp, .inl (cO, b, .inr (.inr (.inr (.inr fp))))), MA9 ql cI b fl9] ++ pool G cI Pg S) → va_S A s.heap H locs → lv_has ls 4 [(0, .ref ax), (1, .int p0), (2, .int sv), (3, .int (nI i))] → W p l e (headSpec v_X8_rank ({ frames := 3, cells := 0, slots := 0, locals := 66 } : Room)).room s m ([.ref ax, .int p0] : List Value).toArray below meth c H locs 0 0 Q (F0 m 59 ls [])) → ∀ (nf i : Nat) (sv : Int32) (H : Heap) (locs : List Loc) (ls : Array Slot), i ≤ le9 - lo9 → le9 - lo9 + 1 ≤ i + nf → va_P (dC, dI) vwCl ([(ax, .inr (8, [.ref hd, .ref hf, .ref hs, .ref hp, .ref he, .ref q0, .ref q1, .ref qk, .int lt, .long fx, .int dn])), (qk, .inr (7, [.int c1, .int c2, .int c3, .long c4])), (hf, .inr (2, [.int dp9, .ref qp, .ref qe, .ref ql, .int (nI lo9), .int (nI le9)])), (qp, .inl (cO, b, .inr (.inr (.inr (.inr fp))))), MA9 ql cI b fl9] ++ pool G cI Pg S) H → va_D A ([(ax, .inr (8, [.ref hd, .ref hf, .ref hs, .ref hp, .ref he, .ref q0, .ref q1, .ref qk, .int lt, .long fx, .int dn])), (qk, .inr (7, [.int c1, .int c2, .int c3, .long c4])), (hf, .inr (2, [.int dp9, .ref qp, .ref qe, .ref ql, .int (nI lo9), .int (nI le9)])), (qp, .inl (cO, b, .inr (.inr (.inr (.inr fp))))), MA9 ql cI b fl9] ++ pool G cI Pg S) → va_S A s.heap H locs → lv_has ls 4 [(0, .ref ax), (1, .int p0), (2, .int sv), (3, .int (nI i))] → W p l e (headSpec v_X8_rank ({ frames := 3, cells := 0, slots := 0, locals := 66 } : Room)).room s m ([.ref ax, .int p0] : List Value).toArray below meth c H locs 0 0 Q (F0 m 27 ls []) := by
      intro Q kx nf
      induction nf with
      | zero =>
        intro i sv H locs ls h1 h2
        exact absurd h2 (by omega)
      | succ nf ih =>
        intro i sv H locs ls hi hn hP hD hS hl
        refine lv_iload_n hx hb dX8_rank_27 rfl (lv_at hl 3 rfl) ?_
        refine lv_aload_n hx hb dX8_rank_28 rfl (lv_at hl 0 rfl) ?_
        refine va_get (D := (dC, dI)) (ci := 8) (v := .ref hf) (C := RX8) (T := TX8) (N := 11) hx hb hts k_1 hown hK hP 0 rfl rfl 1 (by decide) k_3 (fun _ h9 => h9) rfl dX8_rank_29 ?_
        have hPc := hP.sub (ws' := [(hf, .inr (2, [.int dp9, .ref qp, .ref qe, .ref ql, .int (nI lo9), .int (nI le9)]))]) [2] rfl
        have hDc := hD.sub (ws' := [(hf, .inr (2, [.int dp9, .ref qp, .ref qe, .ref ql, .int (nI lo9), .int (nI le9)]))]) [2] (by decide) rfl
        have hKc := hK.sub (tys' := []) [] rfl
        have hFc := va_free (wc := [(hf, .inr (2, [.int dp9, .ref qp, .ref qe, .ref ql, .int (nI lo9), .int (nI le9)]))]) hD hS hA [2] rfl
        refine va_calli (va_runV (As := []) (rest := [.int (nI i)]) ⟨hx, hb, hml, hown, hts⟩ (c_X2_leaves l dC dI H.size hf qp qe ql lo9 le9 dp9 (by first | assumption | omega | decide) (by first | assumption | omega | decide)) (cwV 0 hts g_X8_rank_X2_leaves rfl rfl rfl (by decide +kernel) ⟨Nat.le_of_ble_eq_true rfl, Nat.le_of_ble_eq_true rfl⟩) ⟨fun a U g mk q => by obtain ⟨q0, q1, qP, qK, qD⟩ := q; exact ⟨q0, q1, qP, va_K.moved (u := U) (U := U.calling g mk a) (Vm.Alike.refl U.vm) qK, qD⟩, va_recv hKc hPc (ci := 2) (q0 := 0) rfl rfl, fun U hU hW => ⟨rfl, by rw [hU], by rw [hU]; exact hPc, va_K.moved hW.alike hKc, hDc.weaken (fun _ _ _ _ => trivial)⟩⟩ rfl rfl hl.1 rfl (lv_room (Nat.le_of_ble_eq_true rfl)) dX8_rank_32 ⟨(show 0 + 0 ≤ 0 by omega), (show 0 + 0 ≤ 0 by omega)⟩) hS (fun q _ h => hFc q h) hFc (fun r_3 u t H1 locs ht hvm hw hB hz1 hk1 hS9 => ?_)
        replace hS := hS9
        clear hS9
        obtain ⟨hP1, hK1, hD1⟩ := hB
        rw [ht] at hP1
        replace hK1 := va_K.moved hvm.symm hK1
        try dsimp only at hw
        obtain ⟨hP9, hD9⟩ := va_joinQ (wr := [(ax, .inr (8, [.ref hd, .ref hf, .ref hs, .ref hp, .ref he, .ref q0, .ref q1, .ref qk, .int lt, .long fx, .int dn])), (qk, .inr (7, [.int c1, .int c2, .int c3, .long c4])), (qp, .inl (cO, b, .inr (.inr (.inr (.inr fp))))), MA9 ql cI b fl9]) (w1 := [(hf, .inr (2, [.int dp9, .ref qp, .ref qe, .ref ql, .int (nI lo9), .int (nI le9)]))]) hP hD [2] [0, 1, 3, 4] rfl rfl (by decide) (by decide) hk1 hFc hP1 hD1
        replace hP := hP9
        replace hD := hD9
        clear hP9 hD9
        replace hK := (hK.sub (tys' := [(cO, .object RX4), (cI, .int)]) [0, 1] rfl).app hK1
        replace hK : va_K (dC, dI) vwCl [(cO, .object RX4), (cI, .int)] s := hK.sub [0, 1] rfl
        clear hP1 hD1 hK1 hPc hDc hKc hFc hk1 hz1 hvm ht
        generalize H1 = H at hP hS ⊢
        replace hP : va_P (dC, dI) vwCl ([(ax, .inr (8, [.ref hd, .ref hf, .ref hs, .ref hp, .ref he, .ref q0, .ref q1, .ref qk, .int lt, .long fx, .int dn])), (qk, .inr (7, [.int c1, .int c2, .int c3, .long c4])), (qp, .inl (cO, b, .inr (.inr (.inr (.inr fp))))), MA9 ql cI b fl9, (hf, .inr (2, [.int dp9, .ref qp, .ref qe, .ref ql, .int (nI lo9), .int (nI le9)]))] ++ pool G cI Pg S) H := hP
        replace hD : va_D A ([(ax, .inr (8, [.ref hd, .ref hf, .ref hs, .ref hp, .ref he, .ref q0, .ref q1, .ref qk, .int lt, .long fx, .int dn])), (qk, .inr (7, [.int c1, .int c2, .int c3, .long c4])), (qp, .inl (cO, b, .inr (.inr (.inr (.inr fp))))), MA9 ql cI b fl9, (hf, .inr (2, [.int dp9, .ref qp, .ref qe, .ref ql, .int (nI lo9), .int (nI le9)]))] ++ pool G cI Pg S) := hD
        replace hK : va_K (dC, dI) vwCl [(cO, .object RX4), (cI, .int)] s := hK
        obtain rfl : r_3 = nI (le9 - lo9) := hw
        refine lv_icmp_ge (tgt := 59) hx hb dX8_rank_35 (by decide) (fun c_4 => ?_) (fun c_4 => ?_)
        · exact kx i sv _ _ _ (by omega) (hP.part (cx := [(ax, .inr (8, [.ref hd, .ref hf, .ref hs, .ref hp, .ref he, .ref q0, .ref q1, .ref qk, .int lt, .long fx, .int dn])), (qk, .inr (7, [.int c1, .int c2, .int c3, .long c4])), (hf, .inr (2, [.int dp9, .ref qp, .ref qe, .ref ql, .int (nI lo9), .int (nI le9)])), (qp, .inl (cO, b, .inr (.inr (.inr (.inr fp))))), MA9 ql cI b fl9]) [0, 1, 4, 2, 3] rfl) (hD.part (cx := [(ax, .inr (8, [.ref hd, .ref hf, .ref hs, .ref hp, .ref he, .ref q0, .ref q1, .ref qk, .int lt, .long fx, .int dn])), (qk, .inr (7, [.int c1, .int c2, .int c3, .long c4])), (hf, .inr (2, [.int dp9, .ref qp, .ref qe, .ref ql, .int (nI lo9), .int (nI le9)])), (qp, .inl (cO, b, .inr (.inr (.inr (.inr fp))))), MA9 ql cI b fl9]) [0, 1, 4, 2, 3] (by decide) rfl) hS (lv_sub hl [0, 1, 2, 3] rfl)
        · have hlt : i < le9 - lo9 := Nat.lt_of_not_le (fun h => c_4 (nI_le h (by omega)))
          refine lv_iload_n hx hb dX8_rank_38 rfl (lv_at hl 2 rfl) ?_
          refine lv_aload_n hx hb dX8_rank_39 rfl (lv_at hl 0 rfl) ?_
          refine va_get (D := (dC, dI)) (ci := 8) (v := .ref hf) (C := RX8) (T := TX8) (N := 11) hx hb hts k_1 hown hK hP 0 rfl rfl 1 (by decide) k_3 (fun _ h9 => h9) rfl dX8_rank_40 ?_
          refine lv_iload_n hx hb dX8_rank_43 rfl (lv_at hl 3 rfl) ?_
          have hPc := hP.part (cx := [(hf, .inr (2, [.int dp9, .ref qp, .ref qe, .ref ql, .int (nI lo9), .int (nI le9)])), (qp, .inl (cO, b, .inr (.inr (.inr (.inr fp))))), MA9 ql cI b fl9]) [4, 2, 3] rfl
          have hDc := hD.part (cx := [(hf, .inr (2, [.int dp9, .ref qp, .ref qe, .ref ql, .int (nI lo9), .int (nI le9)])), (qp, .inl (cO, b, .inr (.inr (.inr (.inr fp))))), MA9 ql cI b fl9]) [4, 2, 3] (by decide) rfl
          have hFc := va_freeP (cx := [(hf, .inr (2, [.int dp9, .ref qp, .ref qe, .ref ql, .int (nI lo9), .int (nI le9)])), (qp, .inl (cO, b, .inr (.inr (.inr (.inr fp))))), MA9 ql cI b fl9]) hD hS hA [4, 2, 3] rfl
          have hKc := hK.sub (tys' := [(cO, .object RX4), (cI, .int)]) [0, 1] rfl
          refine va_callr (va_runV (As := [.int (nI i)]) (rest := [.int sv]) ⟨hx, hb, hml, hown, hts⟩ (c_X2_leaf l dC dI H.size hf qp qe ql b lo9 le9 dp9 cO fp G Pg cI S (nI i) fl9 (by first | assumption | omega | decide) (by first | assumption | omega | decide) (by first | assumption | omega | decide) (by first | assumption | omega | decide) (by first | assumption | omega | decide) (by first | assumption | omega | decide) (by first | assumption | omega | decide)) (cwV 1 hts g_X8_rank_X2_leaf rfl rfl rfl (by decide +kernel) ⟨Nat.le_of_ble_eq_true rfl, Nat.le_of_ble_eq_true rfl⟩) ⟨fun a U g mk q => by obtain ⟨q0, q1, qP, qK, qD⟩ := q; exact ⟨q0, q1, qP, va_K.moved (u := U) (U := U.calling g mk a) (Vm.Alike.refl U.vm) qK, qD⟩, va_recv hKc hPc (ci := 2) (q0 := 0) rfl rfl, fun U hU hW => ⟨rfl, by rw [hU], by rw [hU]; exact hPc, va_K.moved hW.alike hKc, hDc.weaken (fun _ _ _ _ => trivial)⟩⟩ rfl rfl hl.1 rfl (lv_room (Nat.le_of_ble_eq_true rfl)) dX8_rank_44 ⟨(show 0 + 0 ≤ 0 by omega), (show 0 + 0 ≤ 0 by omega)⟩) hS (fun q _ h => hFc q h) hFc (fun u r_5 t H1 locs ht hvm hw hB hz1 hk1 hS9 => ?_)
          replace hS := hS9
          clear hS9
          obtain ⟨a_6, rfl⟩ : ∃ z, z = u := ⟨_, rfl⟩
          obtain ⟨hra, hP1, hK1, hD1⟩ := hB
          have hra := hra.symm
          subst hra
          rw [ht] at hP1
          replace hK1 := va_K.moved hvm.symm hK1
          try dsimp only at hw
          obtain ⟨hP9, hD9⟩ := va_joinP (wr := [(ax, .inr (8, [.ref hd, .ref hf, .ref hs, .ref hp, .ref he, .ref q0, .ref q1, .ref qk, .int lt, .long fx, .int dn])), (qk, .inr (7, [.int c1, .int c2, .int c3, .long c4]))]) (rx := [(hf, .inr (2, [.int dp9, .ref qp, .ref qe, .ref ql, .int (nI lo9), .int (nI le9)])), (qp, .inl (cO, b, .inr (.inr (.inr (.inr fp))))), MA9 ql cI b fl9]) (pl1 := pool G cI Pg S) hP hD [4, 2, 3] [0, 1] rfl rfl (by decide) (by decide) hk1 hFc hP1 hD1
          replace hP := hP9
          replace hD := hD9
          clear hP9 hD9
          replace hK := (hK.sub (tys' := [(cO, .object RX4), (cI, .int)]) [0, 1] rfl).app hK1
          replace hK : va_K (dC, dI) vwCl [(cO, .object RX4), (cI, .int)] s := hK.sub [0, 1] rfl
          clear hP1 hD1 hK1 hPc hDc hKc hFc hk1 hz1 hvm ht
          generalize H1 = H at hP hS ⊢
          replace hP : va_P (dC, dI) vwCl ([(ax, .inr (8, [.ref hd, .ref hf, .ref hs, .ref hp, .ref he, .ref q0, .ref q1, .ref qk, .int lt, .long fx, .int dn])), (qk, .inr (7, [.int c1, .int c2, .int c3, .long c4])), (hf, .inr (2, [.int dp9, .ref qp, .ref qe, .ref ql, .int (nI lo9), .int (nI le9)])), (qp, .inl (cO, b, .inr (.inr (.inr (.inr fp))))), MA9 ql cI b fl9] ++ pool G cI Pg S) H := hP
          replace hD : va_D A ([(ax, .inr (8, [.ref hd, .ref hf, .ref hs, .ref hp, .ref he, .ref q0, .ref q1, .ref qk, .int lt, .long fx, .int dn])), (qk, .inr (7, [.int c1, .int c2, .int c3, .long c4])), (hf, .inr (2, [.int dp9, .ref qp, .ref qe, .ref ql, .int (nI lo9), .int (nI le9)])), (qp, .inl (cO, b, .inr (.inr (.inr (.inr fp))))), MA9 ql cI b fl9] ++ pool G cI Pg S) := hD
          replace hK : va_K (dC, dI) vwCl [(cO, .object RX4), (cI, .int)] s := hK
          have hm_a_6 := hw.1
          have ht_a_6 := hw.2
          refine lv_iload_n hx hb dX8_rank_47 rfl (lv_at hl 1 rfl) ?_
          have hz1_a_6 := (hI a_6 hm_a_6).1
          have hz2_a_6 := (hI a_6 hm_a_6).2.1
          have hz3_a_6 := (hI a_6 hm_a_6).2.2
          have hT9 := in1 hm_a_6
          have hPc : va_P (dC, dI) vwCl [(a_6, .inr (4, [.int (S a_6).1, .int (nI (S a_6).2.1), .ref (G a_6).1, .ref (G a_6).2.1])), MA9 (G a_6).1 cI (G a_6).2.2.1 (S a_6).2.2.1, MA9 (G a_6).2.1 cI (G a_6).2.2.1 (S a_6).2.2.2] H := pool_cut (T := [a_6]) (cx := []) hP hT9 [] rfl
          have hDc : va_D A [(a_6, .inr (4, [.int (S a_6).1, .int (nI (S a_6).2.1), .ref (G a_6).1, .ref (G a_6).2.1])), MA9 (G a_6).1 cI (G a_6).2.2.1 (S a_6).2.2.1, MA9 (G a_6).2.1 cI (G a_6).2.2.1 (S a_6).2.2.2] := pool_cutD (T := [a_6]) (cx := []) hD hT9 (nd1) [] (by decide) rfl
          have hFc : ∀ q, va_A [(a_6, .inr (4, [.int (S a_6).1, .int (nI (S a_6).2.1), .ref (G a_6).1, .ref (G a_6).2.1])), MA9 (G a_6).1 cI (G a_6).2.2.1 (S a_6).2.2.1, MA9 (G a_6).2.1 cI (G a_6).2.2.1 (S a_6).2.2.2] (H).size q → A q := pool_free (T := [a_6]) (cx := []) hD hS hA hT9 [] rfl
          have hKc := hK.sub (tys' := [(cI, .int), (cI, .int)]) [1, 1] rfl
          refine va_calli (va_runV (As := [.int p0]) (rest := [.int sv]) ⟨hx, hb, hml, hown, hts⟩ (c_X4_placeOf l dC dI H.size a_6 (G a_6).1 (G a_6).2.1 (G a_6).2.2.1 (S a_6).2.1 (S a_6).1 cI cI (S a_6).2.2.1 (S a_6).2.2.2 p0 (by first | assumption | omega | decide) (by first | assumption | omega | decide)) (cwV 1 hts g_X8_rank_X4_placeOf rfl rfl rfl (by decide +kernel) ⟨Nat.le_of_ble_eq_true rfl, Nat.le_of_ble_eq_true rfl⟩) ⟨fun a U g mk q => by obtain ⟨q0, q1, qP, qK, qD⟩ := q; exact ⟨q0, q1, qP, va_K.moved (u := U) (U := U.calling g mk a) (Vm.Alike.refl U.vm) qK, qD⟩, va_recv hKc hPc (ci := 4) (q0 := 0) rfl rfl, fun U hU hW => ⟨rfl, by rw [hU], by rw [hU]; exact hPc, va_K.moved hW.alike hKc, hDc.weaken (fun _ _ _ _ => trivial)⟩⟩ rfl rfl hl.1 rfl (lv_room (Nat.le_of_ble_eq_true rfl)) dX8_rank_48 ⟨(show 0 + 0 ≤ 0 by omega), (show 0 + 0 ≤ 0 by omega)⟩) hS (fun q _ h => hFc q h) hFc (fun r_7 u t H1 locs ht hvm hw hB hz1 hk1 hS9 => ?_)
          replace hS := hS9
          clear hS9
          obtain ⟨j_8, rfl⟩ : ∃ z, z = u := ⟨_, rfl⟩
          obtain ⟨hP1, hK1, hD1⟩ := hB
          rw [ht] at hP1
          replace hK1 := va_K.moved hvm.symm hK1
          try dsimp only at hw
          obtain ⟨hP9, hD9⟩ := pool_join (S := S) (S1 := S) (T := [a_6]) (cx := []) (wr := [(ax, .inr (8, [.ref hd, .ref hf, .ref hs, .ref hp, .ref he, .ref q0, .ref q1, .ref qk, .int lt, .long fx, .int dn])), (qk, .inr (7, [.int c1, .int c2, .int c3, .long c4])), (hf, .inr (2, [.int dp9, .ref qp, .ref qe, .ref ql, .int (nI lo9), .int (nI le9)])), (qp, .inl (cO, b, .inr (.inr (.inr (.inr fp))))), MA9 ql cI b fl9]) (rx := []) hP hD hT9 [] [0, 1, 2, 3, 4] rfl rfl (by decide) (by decide) hk1 hFc hP1 hD1
          replace hP := hP9
          replace hD := hD9
          clear hP9 hD9
          rw [pgJ_same] at hP hD
          replace hK := (hK.sub (tys' := [(cO, .object RX4), (cI, .int)]) [0, 1] rfl).app hK1
          replace hK : va_K (dC, dI) vwCl [(cO, .object RX4), (cI, .int)] s := hK.sub [0, 1] rfl
          clear hP1 hD1 hK1 hPc hDc hKc hFc hk1 hz1 hvm ht
          generalize H1 = H at hP hS ⊢
          replace hP : va_P (dC, dI) vwCl ([(ax, .inr (8, [.ref hd, .ref hf, .ref hs, .ref hp, .ref he, .ref q0, .ref q1, .ref qk, .int lt, .long fx, .int dn])), (qk, .inr (7, [.int c1, .int c2, .int c3, .long c4])), (hf, .inr (2, [.int dp9, .ref qp, .ref qe, .ref ql, .int (nI lo9), .int (nI le9)])), (qp, .inl (cO, b, .inr (.inr (.inr (.inr fp))))), MA9 ql cI b fl9] ++ pool G cI Pg S) H := hP
          replace hD : va_D A ([(ax, .inr (8, [.ref hd, .ref hf, .ref hs, .ref hp, .ref he, .ref q0, .ref q1, .ref qk, .int lt, .long fx, .int dn])), (qk, .inr (7, [.int c1, .int c2, .int c3, .long c4])), (hf, .inr (2, [.int dp9, .ref qp, .ref qe, .ref ql, .int (nI lo9), .int (nI le9)])), (qp, .inl (cO, b, .inr (.inr (.inr (.inr fp))))), MA9 ql cI b fl9] ++ pool G cI Pg S) := hD
          replace hK : va_K (dC, dI) vwCl [(cO, .object RX4), (cI, .int)] s := hK
          have hw_r_7 := hw
          obtain rfl : r_7 = nI j_8 := hw.1
          refine lv_iadd hx hb dX8_rank_51 ?_
          refine lv_topi (fun z_9 _ => ?_)
          refine lv_istore_n (lv' := [(2, .int z_9), (0, .ref ax), (1, .int p0), (3, .int (nI i))]) hx hb dX8_rank_52 rfl hl (by decide) rfl (fun ls hl9 => ?_)
          replace hl := hl9
          clear hl9
          refine lv_iinc (v := (nI (i + 1))) (lv' := [(3, .int (nI (i + 1))), (2, .int z_9), (0, .ref ax), (1, .int p0)]) hx hb dX8_rank_53 hl (k := 3) rfl (nI_1 i) (by decide) rfl (fun ls hl9 => ?_)
          replace hl := hl9
          clear hl9
          refine lv_goto (tgt := 27) hx hb dX8_rank_56 (by decide) ?_
          exact ih (i + 1) z_9 _ _ _ (by omega) (by omega) hP hD hS (lv_sub hl [2, 3, 1, 0] rfl)
    refine loop_27 _ (fun i sv H locs ls hi hP hD hS hl => ?_) ((le9 - lo9) + 1) 0 0 _ _ _ (by omega) (by omega) hP hD hS (lv_sub hl [2, 3, 1, 0] rfl)
    refine lv_iload_n hx hb dX8_rank_59 rfl (lv_at hl 2 rfl) ?_
    have hP9 := hP.part (cx := [(ax, .inr (8, [.ref hd, .ref hf, .ref hs, .ref hp, .ref he, .ref q0, .ref q1, .ref qk, .int lt, .long fx, .int dn])), (hf, .inr (2, [.int dp9, .ref qp, .ref qe, .ref ql, .int (nI lo9), .int (nI le9)])), (qp, .inl (cO, b, .inr (.inr (.inr (.inr fp))))), MA9 ql cI b fl9, (qk, .inr (7, [.int c1, .int c2, .int c3, .long c4]))]) [0, 2, 3, 4, 1] rfl
    have hD9 := hD.part (cx := [(ax, .inr (8, [.ref hd, .ref hf, .ref hs, .ref hp, .ref he, .ref q0, .ref q1, .ref qk, .int lt, .long fx, .int dn])), (hf, .inr (2, [.int dp9, .ref qp, .ref qe, .ref ql, .int (nI lo9), .int (nI le9)])), (qp, .inl (cO, b, .inr (.inr (.inr (.inr fp))))), MA9 ql cI b fl9, (qk, .inr (7, [.int c1, .int c2, .int c3, .long c4]))]) [0, 2, 3, 4, 1] (by decide) rfl
    have hK9 := hK.sub (tys' := [(cO, .object RX4), (cI, .int)]) [0, 1] rfl
    exact W.iret (v := sv) hx hb hr (fun t ht hW => ⟨⟨sv, (dp9, lo9, le9, fl9), rfl, trivial, by rw [ht]; exact hP9, va_K.moved hW.alike hK9, hD9⟩, hS.F ht⟩) hS.2.2 dX8_rank_60
  · refine lv_iconst (v := -1) hx hb dX8_rank_7 (by decide) ?_
    have hP9 := hP.part (cx := [(ax, .inr (8, [.ref hd, .ref hf, .ref hs, .ref hp, .ref he, .ref q0, .ref q1, .ref qk, .int lt, .long fx, .int dn])), (hf, .inr (2, [.int dp, .ref qp, .ref qe, .ref ql, .int (nI lo), .int (nI le)])), (qp, .inl (cO, b, .inr (.inr (.inr (.inr fp))))), MA9 ql cI b fl, (qk, .inr (7, [.int c1, .int c2, .int c3, .long c4]))]) [0, 1, 2, 3, 4] rfl
    have hD9 := hD.part (cx := [(ax, .inr (8, [.ref hd, .ref hf, .ref hs, .ref hp, .ref he, .ref q0, .ref q1, .ref qk, .int lt, .long fx, .int dn])), (hf, .inr (2, [.int dp, .ref qp, .ref qe, .ref ql, .int (nI lo), .int (nI le)])), (qp, .inl (cO, b, .inr (.inr (.inr (.inr fp))))), MA9 ql cI b fl, (qk, .inr (7, [.int c1, .int c2, .int c3, .long c4]))]) [0, 1, 2, 3, 4] (by decide) rfl
    have hK9 := hK.sub (tys' := [(cO, .object RX4), (cI, .int)]) [0, 1] rfl
    exact W.iret (v := (-1)) hx hb hr (fun t ht hW => ⟨⟨(-1), (dp, lo, le, fl), rfl, trivial, by rw [ht]; exact hP9, va_K.moved hW.alike hK9, hD9⟩, hS.F ht⟩) hS.2.2 dX8_rank_8
def v_X8_key : List Cond := .code yX8_key cX8_key 5 (some .int) :: ([.fieldLink RX8 77 "TwinRoots" "down" "Z", .fieldLink RX8 35 "TwinRoots" "forest" "LTwinRoots$Forest;", .fieldLink RX8 74 "TwinRoots" "working" "LTwinRoots$Told;", .fieldLink RX8 110 "TwinRoots$Told" "top" "I", .code yX2_walk cX2_walk 4 none, .fieldLink RX2 43 "TwinRoots$Forest" "depth" "I", .fieldLink RX2 47 "TwinRoots$Forest" "lowestLevel" "I", .fieldLink RX2 50 "TwinRoots$Forest" "lineEnd" "I", .code yX2_lineUp cX2_lineUp 2 none, .fieldLink RX2 24 "TwinRoots$Forest" "line" "[I", .methodLink RX2 53 yX2_lineUp, .instanceMethod yX2_lineUp, .selects RX2 yX2_lineUp yX2_lineUp, .initialized RX2, .code yX2_inLine cX2_inLine 2 (some (.object "TwinRoots$Page")), .fieldLink RX2 20 "TwinRoots$Forest" "empty" "LTwinRoots$Page;", .code yX2_page cX2_page 2 (some (.object "TwinRoots$Page")), .fieldLink RX2 11 "TwinRoots$Forest" "pages" "[LTwinRoots$Page;", .methodLink RX2 28 yX2_page, .instanceMethod yX2_page, .selects RX2 yX2_page yX2_page, .methodLink RX2 56 yX2_inLine, .instanceMethod yX2_inLine, .selects RX2 yX2_inLine yX2_inLine, .fieldLink RX2 32 "TwinRoots$Page" "leaf" "Z", .code yX2_lineUpChildren cX2_lineUpChildren 3 none, .fieldLink RX2 63 "TwinRoots$Page" "many" "I", .code yX4_refAt cX4_refAt 2 (some .int), .fieldLink RX4 22 "TwinRoots$Page" "many" "I", .fieldLink RX4 19 "TwinRoots$Page" "refs" "[I", .methodLink RX2 40 yX4_refAt, .instanceMethod yX4_refAt, .selects RX4 yX4_refAt yX4_refAt, .initialized RX4, .methodLink RX2 59 yX2_lineUpChildren, .instanceMethod yX2_lineUpChildren, .selects RX2 yX2_lineUpChildren yX2_lineUpChildren, .methodLink RX8 147 yX2_walk, .instanceMethod yX2_walk, .selects RX2 yX2_walk yX2_walk, .code yX2_leaves cX2_leaves 1 (some .int), .methodLink RX8 150 yX2_leaves, .instanceMethod yX2_leaves, .selects RX2 yX2_leaves yX2_leaves, .code yX2_leaf cX2_leaf 2 (some (.object "TwinRoots$Page")), .methodLink RX8 154 yX2_leaf, .instanceMethod yX2_leaf, .selects RX2 yX2_leaf yX2_leaf, .fieldLink RX8 161 "TwinRoots$Page" "many" "I", .code yX4_keyAt cX4_keyAt 2 (some .int), .fieldLink RX4 15 "TwinRoots$Page" "keys" "[I", .methodLink RX8 164 yX4_keyAt, .instanceMethod yX4_keyAt, .selects RX4 yX4_keyAt yX4_keyAt] ++ (wsX80 ++ (wsX70 ++ (wsX20 ++ (wsX40 ++ ([]))))))
set_option maxRecDepth 20000 in
theorem g_X8_key_X2_walk : GoodIn v_X8_key (wsV RX8 147 RX2 yX2_walk v_X2_walk) := goodIn_r _ [38, 39, 40, 14, 5, 6, 7, 8, 9, 10, 11, 12, 13, 14, 15, 16, 17, 18, 19, 20, 21, 22, 23, 24, 25, 26, 27, 28, 29, 30, 31, 32, 33, 34, 35, 36, 37, 70, 71, 72, 73, 74, 75, 76, 77, 78, 79] (by decide +kernel) (by decide +kernel)
set_option maxRecDepth 20000 in
theorem g_X8_key_X2_leaves : GoodIn v_X8_key (wsV RX8 150 RX2 yX2_leaves v_X2_leaves) := goodIn_r _ [42, 43, 44, 14, 41, 8, 7, 70, 71, 72, 73, 74, 75] (by decide +kernel) (by decide +kernel)
set_option maxRecDepth 20000 in
theorem g_X8_key_X2_leaf : GoodIn v_X8_key (wsV RX8 154 RX2 yX2_leaf v_X2_leaf) := goodIn_r _ [46, 47, 48, 14, 45, 7, 15, 16, 8, 10, 17, 18, 19, 20, 21, 14, 22, 23, 24, 70, 71, 72, 73, 74, 75] (by decide +kernel) (by decide +kernel)
set_option maxRecDepth 20000 in
theorem g_X8_key_X4_keyAt : GoodIn v_X8_key (wsV RX8 164 RX4 yX4_keyAt v_X4_keyAt) := goodIn_r _ [52, 53, 54, 34, 50, 29, 51, 76, 77, 78, 79] (by decide +kernel) (by decide +kernel)
set_option maxHeartbeats 4000000 in
set_option maxRecDepth 100000 in
/-- X8_key -/
theorem c_X8_key (l : Launch) (dC : Nat → ClassId) (dI : Nat → Nat → Nat) (sz : Nat) (ax : Nat) (hd : Nat) (hf : Nat) (hs : Nat) (hp : Nat) (he : Nat) (q0 : Nat) (q1 : Nat) (qk : Nat) (qp : Nat) (qe : Nat) (ql : Nat) (b : Nat) (lo : Nat) (le : Nat) (lt : Int32) (dn : Int32) (dp : Int32) (c1 : Int32) (c2 : Int32) (c3 : Int32) (fx : Int64) (c4 : Int64) (fl : Nat → Int32) (fp : Nat → Option Nat) (cI : ClassId) (cO : ClassId) (G : pgG) (Pg : List Nat) (S : pgS) (p0 : Int32) (zb : b ≤ 64) (hI : pgI G Pg S) (hpg : ∀ i, i < b → ∃ a, a ∈ Pg ∧ (G a).2.2.2 = 0 ∧ fp i = some a) (hm_qe : qe ∈ Pg) (ht_qe : (G qe).2.2.2 = 0) : Met l yX8_key v_X8_key ({ frames := 3, cells := 0, slots := 0, locals := 66 } : Room) (va_Pc [.ref ax, .int p0] (fun U => U.heap.size = sz ∧ va_P (dC, dI) vwCl ([(ax, .inr (8, [.ref hd, .ref hf, .ref hs, .ref hp, .ref he, .ref q0, .ref q1, .ref qk, .int lt, .long fx, .int dn])), (hf, .inr (2, [.int dp, .ref qp, .ref qe, .ref ql, .int (nI lo), .int (nI le)])), (qp, .inl (cO, b, .inr (.inr (.inr (.inr fp))))), MA9 ql cI b fl, (qk, .inr (7, [.int c1, .int c2, .int c3, .long c4]))] ++ pool G cI Pg S) U.heap ∧ va_K (dC, dI) vwCl [(cO, .object RX4), (cI, .int)] U ∧ va_D (fun _ => True) ([(ax, .inr (8, [.ref hd, .ref hf, .ref hs, .ref hp, .ref he, .ref q0, .ref q1, .ref qk, .int lt, .long fx, .int dn])), (hf, .inr (2, [.int dp, .ref qp, .ref qe, .ref ql, .int (nI lo), .int (nI le)])), (qp, .inl (cO, b, .inr (.inr (.inr (.inr fp))))), MA9 ql cI b fl, (qk, .inr (7, [.int c1, .int c2, .int c3, .long c4]))] ++ pool G cI Pg S))) (va_Qi (fun (r : Int32) (u : Int32 × Nat × Nat × (Nat → Int32)) => match u with | (dp2, lo2, le2, fl2) => True) (fun (u : Int32 × Nat × Nat × (Nat → Int32)) (t : State) => match u with | (dp2, lo2, le2, fl2) => va_P (dC, dI) vwCl ([(ax, .inr (8, [.ref hd, .ref hf, .ref hs, .ref hp, .ref he, .ref q0, .ref q1, .ref qk, .int lt, .long fx, .int dn])), (hf, .inr (2, [.int dp2, .ref qp, .ref qe, .ref ql, .int (nI lo2), .int (nI le2)])), (qp, .inl (cO, b, .inr (.inr (.inr (.inr fp))))), MA9 ql cI b fl2, (qk, .inr (7, [.int c1, .int c2, .int c3, .long c4]))] ++ pool G cI Pg S) t.heap ∧ va_K (dC, dI) vwCl [(cO, .object RX4), (cI, .int)] t ∧ va_D (va_A ([(ax, .inr (8, [.ref hd, .ref hf, .ref hs, .ref hp, .ref he, .ref q0, .ref q1, .ref qk, .int lt, .long fx, .int dn])), (hf, .inr (2, [.int dp, .ref qp, .ref qe, .ref ql, .int (nI lo), .int (nI le)])), (qp, .inl (cO, b, .inr (.inr (.inr (.inr fp))))), MA9 ql cI b fl, (qk, .inr (7, [.int c1, .int c2, .int c3, .long c4]))] ++ pool G cI Pg S) sz) ([(ax, .inr (8, [.ref hd, .ref hf, .ref hs, .ref hp, .ref he, .ref q0, .ref q1, .ref qk, .int lt, .long fx, .int dn])), (hf, .inr (2, [.int dp2, .ref qp, .ref qe, .ref ql, .int (nI lo2), .int (nI le2)])), (qp, .inl (cO, b, .inr (.inr (.inr (.inr fp))))), MA9 ql cI b fl2, (qk, .inr (7, [.int c1, .int c2, .int c3, .long c4]))] ++ pool G cI Pg S)) (va_A ([(ax, .inr (8, [.ref hd, .ref hf, .ref hs, .ref hp, .ref he, .ref q0, .ref q1, .ref qk, .int lt, .long fx, .int dn])), (hf, .inr (2, [.int dp, .ref qp, .ref qe, .ref ql, .int (nI lo), .int (nI le)])), (qp, .inl (cO, b, .inr (.inr (.inr (.inr fp))))), MA9 ql cI b fl, (qk, .inr (7, [.int c1, .int c2, .int c3, .long c4]))] ++ pool G cI Pg S) sz)) 0 0 (va_A ([(ax, .inr (8, [.ref hd, .ref hf, .ref hs, .ref hp, .ref he, .ref q0, .ref q1, .ref qk, .int lt, .long fx, .int dn])), (hf, .inr (2, [.int dp, .ref qp, .ref qe, .ref ql, .int (nI lo), .int (nI le)])), (qp, .inl (cO, b, .inr (.inr (.inr (.inr fp))))), MA9 ql cI b fl, (qk, .inr (7, [.int c1, .int c2, .int c3, .long c4]))] ++ pool G cI Pg S) sz) := by
  refine Met.ofW (cc := cX8_key) (maxL := 5) (ret := (some .int)) (by decide) rfl ?_
  intro p e s m args below meth c s₁ B hml hv
  obtain ⟨rfl, hsz, hP, hK, hD0⟩ := hv
  have hx := B.exec
  have hb := B.bytes
  have hr := B.returns
  have hts := atoms_spec (ws := v_X8_key) B.pre
  have hown : s.vm.findClass RX8 = some m.cls := findClass_of_methodNamed B.named
  have hlocks := B.notSynchronized
  subst hsz
  have hD := hD0.self (sz := s.heap.size)
  generalize hAe : va_A ([(ax, .inr (8, [.ref hd, .ref hf, .ref hs, .ref hp, .ref he, .ref q0, .ref q1, .ref qk, .int lt, .long fx, .int dn])), (hf, .inr (2, [.int dp, .ref qp, .ref qe, .ref ql, .int (nI lo), .int (nI le)])), (qp, .inl (cO, b, .inr (.inr (.inr (.inr fp))))), MA9 ql cI b fl, (qk, .inr (7, [.int c1, .int c2, .int c3, .long c4]))] ++ pool G cI Pg S) s.heap.size = A at hD ⊢
  have hA : ∀ q : Nat, s.heap.size ≤ q → A q := fun q h => by rw [← hAe]; exact Or.inr h
  have hS : va_S A s.heap s.heap [] := va_S.rf
  have hP : va_P (dC, dI) vwCl ([(ax, .inr (8, [.ref hd, .ref hf, .ref hs, .ref hp, .ref he, .ref q0, .ref q1, .ref qk, .int lt, .long fx, .int dn])), (hf, .inr (2, [.int dp, .ref qp, .ref qe, .ref ql, .int (nI lo), .int (nI le)])), (qp, .inl (cO, b, .inr (.inr (.inr (.inr fp))))), MA9 ql cI b fl, (qk, .inr (7, [.int c1, .int c2, .int c3, .long c4]))] ++ pool G cI Pg S) s.heap := hP
  have hl := lv_entry ([.ref ax, .int p0]) (n := 5) (Nat.le_of_ble_eq_true rfl)
  rw [lg_entry_eq]
  generalize (lg_sl ([.ref ax, .int p0]) ++ List.replicate (5 - (lg_sl ([.ref ax, .int p0])).length) Slot.unset).toArray = ls at hl ⊢
  have hl : lv_has ls 5 [(0, .ref ax), (1, .int p0)] := hl
  have k_1 := (fun _ h => List.mem_cons_of_mem _ (List.mem_append_right _ (List.mem_append_left _ h)) : ∀ w ∈ wsX80, w ∈ v_X8_key)
  have k_2 := hts (.fieldLink RX8 77 "TwinRoots" "down" "Z") (List.mem_of_getElem? (i := 1) rfl)
  have k_3 := hts (.fieldLink RX8 35 "TwinRoots" "forest" "LTwinRoots$Forest;") (List.mem_of_getElem? (i := 2) rfl)
  have k_4 := hts (.fieldLink RX8 74 "TwinRoots" "working" "LTwinRoots$Told;") (List.mem_of_getElem? (i := 3) rfl)
  have k_5 := (fun _ h => List.mem_cons_of_mem _ (List.mem_append_right _ (List.mem_append_right _ (List.mem_append_left _ h))) : ∀ w ∈ wsX70, w ∈ v_X8_key)
  have k_6 := hts (.fieldLink RX8 110 "TwinRoots$Told" "top" "I") (List.mem_of_getElem? (i := 4) rfl)
  have k_7 := (fun _ h => List.mem_cons_of_mem _ (List.mem_append_right _ (List.mem_append_right _ (List.mem_append_right _ (List.mem_append_right _ (List.mem_append_left _ h))))) : ∀ w ∈ wsX40, w ∈ v_X8_key)
  have k_8 := hts (.fieldLink RX8 161 "TwinRoots$Page" "many" "I") (List.mem_of_getElem? (i := 49) rfl)
  refine lv_aload_n hx hb dX8_key_0 rfl (lv_at hl 0 rfl) ?_
  refine va_get (D := (dC, dI)) (ci := 8) (v := .int dn) (C := RX8) (T := TX8) (N := 11) hx hb hts k_1 hown hK hP 0 rfl rfl 10 (by decide) k_2 (fun _ h9 => h9) rfl dX8_key_1 ?_
  refine lv_if_ne (tgt := 11) hx hb dX8_key_4 (by decide) (fun c_1 => ?_) (fun c_1 => ?_)
  · refine lv_iconst (v := 0) hx hb dX8_key_11 (by decide) ?_
    have hP9 := hP.part (cx := [(ax, .inr (8, [.ref hd, .ref hf, .ref hs, .ref hp, .ref he, .ref q0, .ref q1, .ref qk, .int lt, .long fx, .int dn])), (hf, .inr (2, [.int dp, .ref qp, .ref qe, .ref ql, .int (nI lo), .int (nI le)])), (qp, .inl (cO, b, .inr (.inr (.inr (.inr fp))))), MA9 ql cI b fl, (qk, .inr (7, [.int c1, .int c2, .int c3, .long c4]))]) [0, 1, 2, 3, 4] rfl
    have hD9 := hD.part (cx := [(ax, .inr (8, [.ref hd, .ref hf, .ref hs, .ref hp, .ref he, .ref q0, .ref q1, .ref qk, .int lt, .long fx, .int dn])), (hf, .inr (2, [.int dp, .ref qp, .ref qe, .ref ql, .int (nI lo), .int (nI le)])), (qp, .inl (cO, b, .inr (.inr (.inr (.inr fp))))), MA9 ql cI b fl, (qk, .inr (7, [.int c1, .int c2, .int c3, .long c4]))]) [0, 1, 2, 3, 4] (by decide) rfl
    have hK9 := hK.sub (tys' := [(cO, .object RX4), (cI, .int)]) [0, 1] rfl
    exact W.iret (v := 0) hx hb hr (fun t ht hW => ⟨⟨0, (dp, lo, le, fl), rfl, trivial, by rw [ht]; exact hP9, va_K.moved hW.alike hK9, hD9⟩, hS.F ht⟩) hS.2.2 dX8_key_12
  · refine lv_iload_n hx hb dX8_key_7 rfl (lv_at hl 1 rfl) ?_
    refine lv_if_ge (tgt := 13) hx hb dX8_key_8 (by decide) (fun c_2 => ?_) (fun c_2 => ?_)
    · refine lv_aload_n hx hb dX8_key_13 rfl (lv_at hl 0 rfl) ?_
      refine va_get (D := (dC, dI)) (ci := 8) (v := .ref hf) (C := RX8) (T := TX8) (N := 11) hx hb hts k_1 hown hK hP 0 rfl rfl 1 (by decide) k_3 (fun _ h9 => h9) rfl dX8_key_14 ?_
      refine lv_aload_n hx hb dX8_key_17 rfl (lv_at hl 0 rfl) ?_
      refine va_get (D := (dC, dI)) (ci := 8) (v := .ref qk) (C := RX8) (T := TX8) (N := 11) hx hb hts k_1 hown hK hP 0 rfl rfl 7 (by decide) k_4 (fun _ h9 => h9) rfl dX8_key_18 ?_
      refine va_get (D := (dC, dI)) (ci := 7) (v := .int c2) (C := RX7) (T := TX7) (N := 4) hx hb hts k_5 hown hK hP 4 rfl rfl 1 (by decide) k_6 (fun _ h9 => h9) rfl dX8_key_21 ?_
      have hPc := hP.part (cx := [(hf, .inr (2, [.int dp, .ref qp, .ref qe, .ref ql, .int (nI lo), .int (nI le)])), (qp, .inl (cO, b, .inr (.inr (.inr (.inr fp))))), MA9 ql cI b fl]) [1, 2, 3] rfl
      have hDc := hD.part (cx := [(hf, .inr (2, [.int dp, .ref qp, .ref qe, .ref ql, .int (nI lo), .int (nI le)])), (qp, .inl (cO, b, .inr (.inr (.inr (.inr fp))))), MA9 ql cI b fl]) [1, 2, 3] (by decide) rfl
      have hFc := va_freeP (cx := [(hf, .inr (2, [.int dp, .ref qp, .ref qe, .ref ql, .int (nI lo), .int (nI le)])), (qp, .inl (cO, b, .inr (.inr (.inr (.inr fp))))), MA9 ql cI b fl]) hD hS hA [1, 2, 3] rfl
      have hKc := hK.sub (tys' := [(cO, .object RX4), (cI, .int)]) [0, 1] rfl
      refine va_callv (va_runV (As := [.int c2]) (rest := []) ⟨hx, hb, hml, hown, hts⟩ (c_X2_walk l dC dI s.heap.size hf qp qe ql b dp (nI lo) (nI le) c2 cO fp G Pg cI S fl (by first | assumption | omega | decide) (by first | assumption | omega | decide) (by first | assumption | omega | decide) (by first | assumption | omega | decide) (by first | assumption | omega | decide)) (cwV 1 hts g_X8_key_X2_walk rfl rfl rfl (by decide +kernel) ⟨Nat.le_of_ble_eq_true rfl, Nat.le_of_ble_eq_true rfl⟩) ⟨fun a U g mk q => by obtain ⟨q0, q1, qP, qK, qD⟩ := q; exact ⟨q0, q1, qP, va_K.moved (u := U) (U := U.calling g mk a) (Vm.Alike.refl U.vm) qK, qD⟩, va_recv hKc hPc (ci := 2) (q0 := 0) rfl rfl, fun U hU hW => ⟨rfl, by rw [hU], by rw [hU]; exact hPc, va_K.moved hW.alike hKc, hDc.weaken (fun _ _ _ _ => trivial)⟩⟩ rfl rfl hl.1 rfl (lv_room (Nat.le_of_ble_eq_true rfl)) dX8_key_24 ⟨(show 0 + 0 ≤ 0 by omega), (show 0 + 0 ≤ 0 by omega)⟩) hS (fun q _ h => hFc q h) hFc (fun u t H1 locs ht hvm hw hB hz1 hk1 hS9 => ?_)
      replace hS := hS9
      clear hS9
      obtain ⟨dp9, lo9, le9, fl9⟩ := u
      obtain ⟨hP1, hK1, hD1⟩ := hB
      rw [ht] at hP1
      replace hK1 := va_K.moved hvm.symm hK1
      try dsimp only at hw
      obtain ⟨hP9, hD9⟩ := va_joinP (wr := [(ax, .inr (8, [.ref hd, .ref hf, .ref hs, .ref hp, .ref he, .ref q0, .ref q1, .ref qk, .int lt, .long fx, .int dn])), (qk, .inr (7, [.int c1, .int c2, .int c3, .long c4]))]) (rx := [(hf, .inr (2, [.int dp9, .ref qp, .ref qe, .ref ql, .int (nI lo9), .int (nI le9)])), (qp, .inl (cO, b, .inr (.inr (.inr (.inr fp))))), MA9 ql cI b fl9]) (pl1 := pool G cI Pg S) hP hD [1, 2, 3] [0, 4] rfl rfl (by decide) (by decide) hk1 hFc hP1 hD1
      replace hP := hP9
      replace hD := hD9
      clear hP9 hD9
      replace hK := (hK.sub (tys' := [(cO, .object RX4), (cI, .int)]) [0, 1] rfl).app hK1
      replace hK : va_K (dC, dI) vwCl [(cO, .object RX4), (cI, .int)] s := hK.sub [0, 1] rfl
      clear hP1 hD1 hK1 hPc hDc hKc hFc hk1 hz1 hvm ht
      generalize H1 = H at hP hS ⊢
      replace hP : va_P (dC, dI) vwCl ([(ax, .inr (8, [.ref hd, .ref hf, .ref hs, .ref hp, .ref he, .ref q0, .ref q1, .ref qk, .int lt, .long fx, .int dn])), (qk, .inr (7, [.int c1, .int c2, .int c3, .long c4])), (hf, .inr (2, [.int dp9, .ref qp, .ref qe, .ref ql, .int (nI lo9), .int (nI le9)])), (qp, .inl (cO, b, .inr (.inr (.inr (.inr fp))))), MA9 ql cI b fl9] ++ pool G cI Pg S) H := hP
      replace hD : va_D A ([(ax, .inr (8, [.ref hd, .ref hf, .ref hs, .ref hp, .ref he, .ref q0, .ref q1, .ref qk, .int lt, .long fx, .int dn])), (qk, .inr (7, [.int c1, .int c2, .int c3, .long c4])), (hf, .inr (2, [.int dp9, .ref qp, .ref qe, .ref ql, .int (nI lo9), .int (nI le9)])), (qp, .inl (cO, b, .inr (.inr (.inr (.inr fp))))), MA9 ql cI b fl9] ++ pool G cI Pg S) := hD
      replace hK : va_K (dC, dI) vwCl [(cO, .object RX4), (cI, .int)] s := hK
      have hw_r_3 := hw
      refine lv_iload_n hx hb dX8_key_27 rfl (lv_at hl 1 rfl) ?_
      refine lv_istore_n (lv' := [(2, .int p0), (0, .ref ax), (1, .int p0)]) hx hb dX8_key_28 rfl hl (by decide) rfl (fun ls hl9 => ?_)
      replace hl := hl9
      clear hl9
      refine lv_iconst (v := 0) hx hb dX8_key_29 (by decide) ?_
      refine lv_istore_n (lv' := [(3, .int 0), (2, .int p0), (0, .ref ax), (1, .int p0)]) hx hb dX8_key_30 rfl hl (by decide) rfl (fun ls hl9 => ?_)
      replace hl := hl9
      clear hl9
      refine jn_cut (P := fun Q => ∀ (nf i : Nat) (sv : Int32) (H : Heap) (locs : List Loc) (ls : Array Slot), i ≤ le9 - lo9 → le9 - lo9 + 1 ≤ i + nf → va_P (dC, dI) vwCl ([(ax, .inr (8, [.ref hd, .ref hf, .ref hs, .ref hp, .ref he, .ref q0, .ref q1, .ref qk, .int lt, .long fx, .int dn])), (qk, .inr (7, [.int c1, .int c2, .int c3, .long c4])), (hf, .inr (2, [.int dp9, .ref qp, .ref qe, .ref ql, .int (nI lo9), .int (nI le9)])), (qp, .inl (cO, b, .inr (.inr (.inr (.inr fp))))), MA9 ql cI b fl9] ++ pool G cI Pg S) H → va_D A ([(ax, .inr (8, [.ref hd, .ref hf, .ref hs, .ref hp, .ref he, .ref q0, .ref q1, .ref qk, .int lt, .long fx, .int dn])), (qk, .inr (7, [.int c1, .int c2, .int c3, .long c4])), (hf, .inr (2, [.int dp9, .ref qp, .ref qe, .ref ql, .int (nI lo9), .int (nI le9)])), (qp, .inl (cO, b, .inr (.inr (.inr (.inr fp))))), MA9 ql cI b fl9] ++ pool G cI Pg S) → va_S A s.heap H locs → lv_has ls 5 [(0, .ref ax), (1, .int p0), (2, .int sv), (3, .int (nI i))] → W p l e (headSpec v_X8_key ({ frames := 3, cells := 0, slots := 0, locals := 66 } : Room)).room s m ([.ref ax, .int p0] : List Value).toArray below meth c H locs 0 0 Q (F0 m 31 ls [])) ?_ (fun loop_31 => ?_)
      · intro nf
        induction nf with
        | zero =>
          intro i sv H locs ls h1 h2
          exact absurd h2 (by omega)
        | succ nf ih_31 =>
          intro i sv H locs ls hi hn hP hD hS hl
          refine lv_iload_n hx hb dX8_key_31 rfl (lv_at hl 3 rfl) ?_
          refine lv_aload_n hx hb dX8_key_32 rfl (lv_at hl 0 rfl) ?_
          refine va_get (D := (dC, dI)) (ci := 8) (v := .ref hf) (C := RX8) (T := TX8) (N := 11) hx hb hts k_1 hown hK hP 0 rfl rfl 1 (by decide) k_3 (fun _ h9 => h9) rfl dX8_key_33 ?_
          have hPc := hP.sub (ws' := [(hf, .inr (2, [.int dp9, .ref qp, .ref qe, .ref ql, .int (nI lo9), .int (nI le9)]))]) [2] rfl
          have hDc := hD.sub (ws' := [(hf, .inr (2, [.int dp9, .ref qp, .ref qe, .ref ql, .int (nI lo9), .int (nI le9)]))]) [2] (by decide) rfl
          have hKc := hK.sub (tys' := []) [] rfl
          have hFc := va_free (wc := [(hf, .inr (2, [.int dp9, .ref qp, .ref qe, .ref ql, .int (nI lo9), .int (nI le9)]))]) hD hS hA [2] rfl
          refine va_calli (va_runV (As := []) (rest := [.int (nI i)]) ⟨hx, hb, hml, hown, hts⟩ (c_X2_leaves l dC dI H.size hf qp qe ql lo9 le9 dp9 (by first | assumption | omega | decide) (by first | assumption | omega | decide)) (cwV 0 hts g_X8_key_X2_leaves rfl rfl rfl (by decide +kernel) ⟨Nat.le_of_ble_eq_true rfl, Nat.le_of_ble_eq_true rfl⟩) ⟨fun a U g mk q => by obtain ⟨q0, q1, qP, qK, qD⟩ := q; exact ⟨q0, q1, qP, va_K.moved (u := U) (U := U.calling g mk a) (Vm.Alike.refl U.vm) qK, qD⟩, va_recv hKc hPc (ci := 2) (q0 := 0) rfl rfl, fun U hU hW => ⟨rfl, by rw [hU], by rw [hU]; exact hPc, va_K.moved hW.alike hKc, hDc.weaken (fun _ _ _ _ => trivial)⟩⟩ rfl rfl hl.1 rfl (lv_room (Nat.le_of_ble_eq_true rfl)) dX8_key_36 ⟨(show 0 + 0 ≤ 0 by omega), (show 0 + 0 ≤ 0 by omega)⟩) hS (fun q _ h => hFc q h) hFc (fun r_4 u t H1 locs ht hvm hw hB hz1 hk1 hS9 => ?_)
          replace hS := hS9
          clear hS9
          obtain ⟨hP1, hK1, hD1⟩ := hB
          rw [ht] at hP1
          replace hK1 := va_K.moved hvm.symm hK1
          try dsimp only at hw
          obtain ⟨hP9, hD9⟩ := va_joinQ (wr := [(ax, .inr (8, [.ref hd, .ref hf, .ref hs, .ref hp, .ref he, .ref q0, .ref q1, .ref qk, .int lt, .long fx, .int dn])), (qk, .inr (7, [.int c1, .int c2, .int c3, .long c4])), (qp, .inl (cO, b, .inr (.inr (.inr (.inr fp))))), MA9 ql cI b fl9]) (w1 := [(hf, .inr (2, [.int dp9, .ref qp, .ref qe, .ref ql, .int (nI lo9), .int (nI le9)]))]) hP hD [2] [0, 1, 3, 4] rfl rfl (by decide) (by decide) hk1 hFc hP1 hD1
          replace hP := hP9
          replace hD := hD9
          clear hP9 hD9
          replace hK := (hK.sub (tys' := [(cO, .object RX4), (cI, .int)]) [0, 1] rfl).app hK1
          replace hK : va_K (dC, dI) vwCl [(cO, .object RX4), (cI, .int)] s := hK.sub [0, 1] rfl
          clear hP1 hD1 hK1 hPc hDc hKc hFc hk1 hz1 hvm ht
          generalize H1 = H at hP hS ⊢
          replace hP : va_P (dC, dI) vwCl ([(ax, .inr (8, [.ref hd, .ref hf, .ref hs, .ref hp, .ref he, .ref q0, .ref q1, .ref qk, .int lt, .long fx, .int dn])), (qk, .inr (7, [.int c1, .int c2, .int c3, .long c4])), (qp, .inl (cO, b, .inr (.inr (.inr (.inr fp))))), MA9 ql cI b fl9, (hf, .inr (2, [.int dp9, .ref qp, .ref qe, .ref ql, .int (nI lo9), .int (nI le9)]))] ++ pool G cI Pg S) H := hP
          replace hD : va_D A ([(ax, .inr (8, [.ref hd, .ref hf, .ref hs, .ref hp, .ref he, .ref q0, .ref q1, .ref qk, .int lt, .long fx, .int dn])), (qk, .inr (7, [.int c1, .int c2, .int c3, .long c4])), (qp, .inl (cO, b, .inr (.inr (.inr (.inr fp))))), MA9 ql cI b fl9, (hf, .inr (2, [.int dp9, .ref qp, .ref qe, .ref ql, .int (nI lo9), .int (nI le9)]))] ++ pool G cI Pg S) := hD
          replace hK : va_K (dC, dI) vwCl [(cO, .object RX4), (cI, .int)] s := hK
          obtain rfl : r_4 = nI (le9 - lo9) := hw
          refine lv_icmp_ge (tgt := 82) hx hb dX8_key_39 (by decide) (fun c_5 => ?_) (fun c_5 => ?_)
          · refine lv_iconst (v := 0) hx hb dX8_key_82 (by decide) ?_
            have hP9 := hP.part (cx := [(ax, .inr (8, [.ref hd, .ref hf, .ref hs, .ref hp, .ref he, .ref q0, .ref q1, .ref qk, .int lt, .long fx, .int dn])), (hf, .inr (2, [.int dp9, .ref qp, .ref qe, .ref ql, .int (nI lo9), .int (nI le9)])), (qp, .inl (cO, b, .inr (.inr (.inr (.inr fp))))), MA9 ql cI b fl9, (qk, .inr (7, [.int c1, .int c2, .int c3, .long c4]))]) [0, 4, 2, 3, 1] rfl
            have hD9 := hD.part (cx := [(ax, .inr (8, [.ref hd, .ref hf, .ref hs, .ref hp, .ref he, .ref q0, .ref q1, .ref qk, .int lt, .long fx, .int dn])), (hf, .inr (2, [.int dp9, .ref qp, .ref qe, .ref ql, .int (nI lo9), .int (nI le9)])), (qp, .inl (cO, b, .inr (.inr (.inr (.inr fp))))), MA9 ql cI b fl9, (qk, .inr (7, [.int c1, .int c2, .int c3, .long c4]))]) [0, 4, 2, 3, 1] (by decide) rfl
            have hK9 := hK.sub (tys' := [(cO, .object RX4), (cI, .int)]) [0, 1] rfl
            exact W.iret (v := 0) hx hb hr (fun t ht hW => ⟨⟨0, (dp9, lo9, le9, fl9), rfl, trivial, by rw [ht]; exact hP9, va_K.moved hW.alike hK9, hD9⟩, hS.F ht⟩) hS.2.2 dX8_key_83
          · have hlt : i < le9 - lo9 := Nat.lt_of_not_le (fun h => c_5 (nI_le h (by omega)))
            refine lv_aload_n hx hb dX8_key_42 rfl (lv_at hl 0 rfl) ?_
            refine va_get (D := (dC, dI)) (ci := 8) (v := .ref hf) (C := RX8) (T := TX8) (N := 11) hx hb hts k_1 hown hK hP 0 rfl rfl 1 (by decide) k_3 (fun _ h9 => h9) rfl dX8_key_43 ?_
            refine lv_iload_n hx hb dX8_key_46 rfl (lv_at hl 3 rfl) ?_
            have hPc := hP.part (cx := [(hf, .inr (2, [.int dp9, .ref qp, .ref qe, .ref ql, .int (nI lo9), .int (nI le9)])), (qp, .inl (cO, b, .inr (.inr (.inr (.inr fp))))), MA9 ql cI b fl9]) [4, 2, 3] rfl
            have hDc := hD.part (cx := [(hf, .inr (2, [.int dp9, .ref qp, .ref qe, .ref ql, .int (nI lo9), .int (nI le9)])), (qp, .inl (cO, b, .inr (.inr (.inr (.inr fp))))), MA9 ql cI b fl9]) [4, 2, 3] (by decide) rfl
            have hFc := va_freeP (cx := [(hf, .inr (2, [.int dp9, .ref qp, .ref qe, .ref ql, .int (nI lo9), .int (nI le9)])), (qp, .inl (cO, b, .inr (.inr (.inr (.inr fp))))), MA9 ql cI b fl9]) hD hS hA [4, 2, 3] rfl
            have hKc := hK.sub (tys' := [(cO, .object RX4), (cI, .int)]) [0, 1] rfl
            refine va_callr (va_runV (As := [.int (nI i)]) (rest := []) ⟨hx, hb, hml, hown, hts⟩ (c_X2_leaf l dC dI H.size hf qp qe ql b lo9 le9 dp9 cO fp G Pg cI S (nI i) fl9 (by first | assumption | omega | decide) (by first | assumption | omega | decide) (by first | assumption | omega | decide) (by first | assumption | omega | decide) (by first | assumption | omega | decide) (by first | assumption | omega | decide) (by first | assumption | omega | decide)) (cwV 1 hts g_X8_key_X2_leaf rfl rfl rfl (by decide +kernel) ⟨Nat.le_of_ble_eq_true rfl, Nat.le_of_ble_eq_true rfl⟩) ⟨fun a U g mk q => by obtain ⟨q0, q1, qP, qK, qD⟩ := q; exact ⟨q0, q1, qP, va_K.moved (u := U) (U := U.calling g mk a) (Vm.Alike.refl U.vm) qK, qD⟩, va_recv hKc hPc (ci := 2) (q0 := 0) rfl rfl, fun U hU hW => ⟨rfl, by rw [hU], by rw [hU]; exact hPc, va_K.moved hW.alike hKc, hDc.weaken (fun _ _ _ _ => trivial)⟩⟩ rfl rfl hl.1 rfl (lv_room (Nat.le_of_ble_eq_true rfl)) dX8_key_47 ⟨(show 0 + 0 ≤ 0 by omega), (show 0 + 0 ≤ 0 by omega)⟩) hS (fun q _ h => hFc q h) hFc (fun u r_6 t H1 locs ht hvm hw hB hz1 hk1 hS9 => ?_)
            replace hS := hS9
            clear hS9
            obtain ⟨a_7, rfl⟩ : ∃ z, z = u := ⟨_, rfl⟩
            obtain ⟨hra, hP1, hK1, hD1⟩ := hB
            have hra := hra.symm
            subst hra
            rw [ht] at hP1
            replace hK1 := va_K.moved hvm.symm hK1
            try dsimp only at hw
            obtain ⟨hP9, hD9⟩ := va_joinP (wr := [(ax, .inr (8, [.ref hd, .ref hf, .ref hs, .ref hp, .ref he, .ref q0, .ref q1, .ref qk, .int lt, .long fx, .int dn])), (qk, .inr (7, [.int c1, .int c2, .int c3, .long c4]))]) (rx := [(hf, .inr (2, [.int dp9, .ref qp, .ref qe, .ref ql, .int (nI lo9), .int (nI le9)])), (qp, .inl (cO, b, .inr (.inr (.inr (.inr fp))))), MA9 ql cI b fl9]) (pl1 := pool G cI Pg S) hP hD [4, 2, 3] [0, 1] rfl rfl (by decide) (by decide) hk1 hFc hP1 hD1
            replace hP := hP9
            replace hD := hD9
            clear hP9 hD9
            replace hK := (hK.sub (tys' := [(cO, .object RX4), (cI, .int)]) [0, 1] rfl).app hK1
            replace hK : va_K (dC, dI) vwCl [(cO, .object RX4), (cI, .int)] s := hK.sub [0, 1] rfl
            clear hP1 hD1 hK1 hPc hDc hKc hFc hk1 hz1 hvm ht
            generalize H1 = H at hP hS ⊢
            replace hP : va_P (dC, dI) vwCl ([(ax, .inr (8, [.ref hd, .ref hf, .ref hs, .ref hp, .ref he, .ref q0, .ref q1, .ref qk, .int lt, .long fx, .int dn])), (qk, .inr (7, [.int c1, .int c2, .int c3, .long c4])), (hf, .inr (2, [.int dp9, .ref qp, .ref qe, .ref ql, .int (nI lo9), .int (nI le9)])), (qp, .inl (cO, b, .inr (.inr (.inr (.inr fp))))), MA9 ql cI b fl9] ++ pool G cI Pg S) H := hP
            replace hD : va_D A ([(ax, .inr (8, [.ref hd, .ref hf, .ref hs, .ref hp, .ref he, .ref q0, .ref q1, .ref qk, .int lt, .long fx, .int dn])), (qk, .inr (7, [.int c1, .int c2, .int c3, .long c4])), (hf, .inr (2, [.int dp9, .ref qp, .ref qe, .ref ql, .int (nI lo9), .int (nI le9)])), (qp, .inl (cO, b, .inr (.inr (.inr (.inr fp))))), MA9 ql cI b fl9] ++ pool G cI Pg S) := hD
            replace hK : va_K (dC, dI) vwCl [(cO, .object RX4), (cI, .int)] s := hK
            have hm_a_7 := hw.1
            have ht_a_7 := hw.2
            refine lv_astore (lv' := [(4, .ref a_7), (0, .ref ax), (1, .int p0), (2, .int sv), (3, .int (nI i))]) hx hb dX8_key_50 hl (by decide) rfl (fun ls hl9 => ?_)
            replace hl := hl9
            clear hl9
            refine lv_iload_n hx hb dX8_key_52 rfl (lv_at hl 3 rfl) ?_
            refine lv_aload hx hb dX8_key_53 (lv_at hl 0 rfl) ?_
            obtain ⟨k9, hk9⟩ := pool_at (G := G) (cI := cI) (S := S) [(ax, .inr (8, [.ref hd, .ref hf, .ref hs, .ref hp, .ref he, .ref q0, .ref q1, .ref qk, .int lt, .long fx, .int dn])), (qk, .inr (7, [.int c1, .int c2, .int c3, .long c4])), (hf, .inr (2, [.int dp9, .ref qp, .ref qe, .ref ql, .int (nI lo9), .int (nI le9)])), (qp, .inl (cO, b, .inr (.inr (.inr (.inr fp))))), MA9 ql cI b fl9] hm_a_7
            refine va_get (D := (dC, dI)) (ci := 4) (v := .int (nI (S a_7).2.1)) (C := RX4) (T := TX4) (N := 4) hx hb hts k_7 hown hK hP k9 hk9 rfl 1 (by decide) k_8 (fun _ h9 => h9) rfl dX8_key_55 ?_
            refine lv_icmp_ge (tgt := 68) hx hb dX8_key_58 (by decide) (fun c_8 => ?_) (fun c_8 => ?_)
            · refine lv_iload_n hx hb dX8_key_68 rfl (lv_at hl 3 rfl) ?_
              refine lv_aload hx hb dX8_key_69 (lv_at hl 0 rfl) ?_
              obtain ⟨k9, hk9⟩ := pool_at (G := G) (cI := cI) (S := S) [(ax, .inr (8, [.ref hd, .ref hf, .ref hs, .ref hp, .ref he, .ref q0, .ref q1, .ref qk, .int lt, .long fx, .int dn])), (qk, .inr (7, [.int c1, .int c2, .int c3, .long c4])), (hf, .inr (2, [.int dp9, .ref qp, .ref qe, .ref ql, .int (nI lo9), .int (nI le9)])), (qp, .inl (cO, b, .inr (.inr (.inr (.inr fp))))), MA9 ql cI b fl9] hm_a_7
              refine va_get (D := (dC, dI)) (ci := 4) (v := .int (nI (S a_7).2.1)) (C := RX4) (T := TX4) (N := 4) hx hb hts k_7 hown hK hP k9 hk9 rfl 1 (by decide) k_8 (fun _ h9 => h9) rfl dX8_key_71 ?_
              refine lv_isub hx hb dX8_key_74 ?_
              refine lv_topi (fun z_9 _ => ?_)
              refine lv_istore_n (lv' := [(2, .int z_9), (4, .ref a_7), (0, .ref ax), (1, .int p0), (3, .int (nI i))]) hx hb dX8_key_75 rfl hl (by decide) rfl (fun ls hl9 => ?_)
              replace hl := hl9
              clear hl9
              refine lv_iinc (v := (nI (i + 1))) (lv' := [(3, .int (nI (i + 1))), (2, .int z_9), (4, .ref a_7), (0, .ref ax), (1, .int p0)]) hx hb dX8_key_76 hl (k := 4) rfl (nI_1 i) (by decide) rfl (fun ls hl9 => ?_)
              replace hl := hl9
              clear hl9
              refine lv_goto (tgt := 31) hx hb dX8_key_79 (by decide) ?_
              exact ih_31 (i + 1) z_9 _ _ _ (by omega) (by omega) hP hD hS (lv_sub hl [3, 4, 1, 0] rfl)
            · refine lv_aload hx hb dX8_key_61 (lv_at hl 0 rfl) ?_
              refine lv_iload_n hx hb dX8_key_63 rfl (lv_at hl 3 rfl) ?_
              have hz1_a_7 := (hI a_7 hm_a_7).1
              have hz2_a_7 := (hI a_7 hm_a_7).2.1
              have hz3_a_7 := (hI a_7 hm_a_7).2.2
              have hT9 := in1 hm_a_7
              have hPc : va_P (dC, dI) vwCl [(a_7, .inr (4, [.int (S a_7).1, .int (nI (S a_7).2.1), .ref (G a_7).1, .ref (G a_7).2.1])), MA9 (G a_7).1 cI (G a_7).2.2.1 (S a_7).2.2.1, MA9 (G a_7).2.1 cI (G a_7).2.2.1 (S a_7).2.2.2] H := pool_cut (T := [a_7]) (cx := []) hP hT9 [] rfl
              have hDc : va_D A [(a_7, .inr (4, [.int (S a_7).1, .int (nI (S a_7).2.1), .ref (G a_7).1, .ref (G a_7).2.1])), MA9 (G a_7).1 cI (G a_7).2.2.1 (S a_7).2.2.1, MA9 (G a_7).2.1 cI (G a_7).2.2.1 (S a_7).2.2.2] := pool_cutD (T := [a_7]) (cx := []) hD hT9 (nd1) [] (by decide) rfl
              have hFc : ∀ q, va_A [(a_7, .inr (4, [.int (S a_7).1, .int (nI (S a_7).2.1), .ref (G a_7).1, .ref (G a_7).2.1])), MA9 (G a_7).1 cI (G a_7).2.2.1 (S a_7).2.2.1, MA9 (G a_7).2.1 cI (G a_7).2.2.1 (S a_7).2.2.2] (H).size q → A q := pool_free (T := [a_7]) (cx := []) hD hS hA hT9 [] rfl
              have hKc := hK.sub (tys' := [(cI, .int), (cI, .int)]) [1, 1] rfl
              refine va_calli (va_runV (As := [.int sv]) (rest := []) ⟨hx, hb, hml, hown, hts⟩ (c_X4_keyAt l dC dI H.size a_7 (G a_7).1 (G a_7).2.1 (G a_7).2.2.1 (S a_7).2.1 (S a_7).1 cI cI (S a_7).2.2.1 (S a_7).2.2.2 sv (by first | assumption | omega | decide) (by first | assumption | omega | decide)) (cwV 1 hts g_X8_key_X4_keyAt rfl rfl rfl (by decide +kernel) ⟨Nat.le_of_ble_eq_true rfl, Nat.le_of_ble_eq_true rfl⟩) ⟨fun a U g mk q => by obtain ⟨q0, q1, qP, qK, qD⟩ := q; exact ⟨q0, q1, qP, va_K.moved (u := U) (U := U.calling g mk a) (Vm.Alike.refl U.vm) qK, qD⟩, va_recv hKc hPc (ci := 4) (q0 := 0) rfl rfl, fun U hU hW => ⟨rfl, by rw [hU], by rw [hU]; exact hPc, va_K.moved hW.alike hKc, hDc.weaken (fun _ _ _ _ => trivial)⟩⟩ rfl rfl hl.1 rfl (lv_room (Nat.le_of_ble_eq_true rfl)) dX8_key_64 ⟨(show 0 + 0 ≤ 0 by omega), (show 0 + 0 ≤ 0 by omega)⟩) hS (fun q _ h => hFc q h) hFc (fun r_10 u t H1 locs ht hvm hw hB hz1 hk1 hS9 => ?_)
              replace hS := hS9
              clear hS9
              obtain ⟨hP1, hK1, hD1⟩ := hB
              rw [ht] at hP1
              replace hK1 := va_K.moved hvm.symm hK1
              try dsimp only at hw
              obtain ⟨hP9, hD9⟩ := pool_join (S := S) (S1 := S) (T := [a_7]) (cx := []) (wr := [(ax, .inr (8, [.ref hd, .ref hf, .ref hs, .ref hp, .ref he, .ref q0, .ref q1, .ref qk, .int lt, .long fx, .int dn])), (qk, .inr (7, [.int c1, .int c2, .int c3, .long c4])), (hf, .inr (2, [.int dp9, .ref qp, .ref qe, .ref ql, .int (nI lo9), .int (nI le9)])), (qp, .inl (cO, b, .inr (.inr (.inr (.inr fp))))), MA9 ql cI b fl9]) (rx := []) hP hD hT9 [] [0, 1, 2, 3, 4] rfl rfl (by decide) (by decide) hk1 hFc hP1 hD1
              replace hP := hP9
              replace hD := hD9
              clear hP9 hD9
              rw [pgJ_same] at hP hD
              replace hK := (hK.sub (tys' := [(cO, .object RX4), (cI, .int)]) [0, 1] rfl).app hK1
              replace hK : va_K (dC, dI) vwCl [(cO, .object RX4), (cI, .int)] s := hK.sub [0, 1] rfl
              clear hP1 hD1 hK1 hPc hDc hKc hFc hk1 hz1 hvm ht
              generalize H1 = H at hP hS ⊢
              replace hP : va_P (dC, dI) vwCl ([(ax, .inr (8, [.ref hd, .ref hf, .ref hs, .ref hp, .ref he, .ref q0, .ref q1, .ref qk, .int lt, .long fx, .int dn])), (qk, .inr (7, [.int c1, .int c2, .int c3, .long c4])), (hf, .inr (2, [.int dp9, .ref qp, .ref qe, .ref ql, .int (nI lo9), .int (nI le9)])), (qp, .inl (cO, b, .inr (.inr (.inr (.inr fp))))), MA9 ql cI b fl9] ++ pool G cI Pg S) H := hP
              replace hD : va_D A ([(ax, .inr (8, [.ref hd, .ref hf, .ref hs, .ref hp, .ref he, .ref q0, .ref q1, .ref qk, .int lt, .long fx, .int dn])), (qk, .inr (7, [.int c1, .int c2, .int c3, .long c4])), (hf, .inr (2, [.int dp9, .ref qp, .ref qe, .ref ql, .int (nI lo9), .int (nI le9)])), (qp, .inl (cO, b, .inr (.inr (.inr (.inr fp))))), MA9 ql cI b fl9] ++ pool G cI Pg S) := hD
              replace hK : va_K (dC, dI) vwCl [(cO, .object RX4), (cI, .int)] s := hK
              have hw_r_10 := hw
              have hP9 := hP.part (cx := [(ax, .inr (8, [.ref hd, .ref hf, .ref hs, .ref hp, .ref he, .ref q0, .ref q1, .ref qk, .int lt, .long fx, .int dn])), (hf, .inr (2, [.int dp9, .ref qp, .ref qe, .ref ql, .int (nI lo9), .int (nI le9)])), (qp, .inl (cO, b, .inr (.inr (.inr (.inr fp))))), MA9 ql cI b fl9, (qk, .inr (7, [.int c1, .int c2, .int c3, .long c4]))]) [0, 2, 3, 4, 1] rfl
              have hD9 := hD.part (cx := [(ax, .inr (8, [.ref hd, .ref hf, .ref hs, .ref hp, .ref he, .ref q0, .ref q1, .ref qk, .int lt, .long fx, .int dn])), (hf, .inr (2, [.int dp9, .ref qp, .ref qe, .ref ql, .int (nI lo9), .int (nI le9)])), (qp, .inl (cO, b, .inr (.inr (.inr (.inr fp))))), MA9 ql cI b fl9, (qk, .inr (7, [.int c1, .int c2, .int c3, .long c4]))]) [0, 2, 3, 4, 1] (by decide) rfl
              have hK9 := hK.sub (tys' := [(cO, .object RX4), (cI, .int)]) [0, 1] rfl
              exact W.iret (v := r_10) hx hb hr (fun t ht hW => ⟨⟨r_10, (dp9, lo9, le9, fl9), rfl, trivial, by rw [ht]; exact hP9, va_K.moved hW.alike hK9, hD9⟩, hS.F ht⟩) hS.2.2 dX8_key_67
      exact loop_31 ((le9 - lo9) + 1) 0 p0 _ _ _ (by omega) (by omega) hP hD hS (lv_sub hl [2, 3, 1, 0] rfl)
    · refine lv_iconst (v := 0) hx hb dX8_key_11 (by decide) ?_
      have hP9 := hP.part (cx := [(ax, .inr (8, [.ref hd, .ref hf, .ref hs, .ref hp, .ref he, .ref q0, .ref q1, .ref qk, .int lt, .long fx, .int dn])), (hf, .inr (2, [.int dp, .ref qp, .ref qe, .ref ql, .int (nI lo), .int (nI le)])), (qp, .inl (cO, b, .inr (.inr (.inr (.inr fp))))), MA9 ql cI b fl, (qk, .inr (7, [.int c1, .int c2, .int c3, .long c4]))]) [0, 1, 2, 3, 4] rfl
      have hD9 := hD.part (cx := [(ax, .inr (8, [.ref hd, .ref hf, .ref hs, .ref hp, .ref he, .ref q0, .ref q1, .ref qk, .int lt, .long fx, .int dn])), (hf, .inr (2, [.int dp, .ref qp, .ref qe, .ref ql, .int (nI lo), .int (nI le)])), (qp, .inl (cO, b, .inr (.inr (.inr (.inr fp))))), MA9 ql cI b fl, (qk, .inr (7, [.int c1, .int c2, .int c3, .long c4]))]) [0, 1, 2, 3, 4] (by decide) rfl
      have hK9 := hK.sub (tys' := [(cO, .object RX4), (cI, .int)]) [0, 1] rfl
      exact W.iret (v := 0) hx hb hr (fun t ht hW => ⟨⟨0, (dp, lo, le, fl), rfl, trivial, by rw [ht]; exact hP9, va_K.moved hW.alike hK9, hD9⟩, hS.F ht⟩) hS.2.2 dX8_key_12
def v_X8_sum : List Cond := .code yX8_sum cX8_sum 5 (some .int) :: ([.fieldLink RX8 77 "TwinRoots" "down" "Z", .fieldLink RX8 35 "TwinRoots" "forest" "LTwinRoots$Forest;", .fieldLink RX8 74 "TwinRoots" "working" "LTwinRoots$Told;", .fieldLink RX8 110 "TwinRoots$Told" "top" "I", .code yX2_walk cX2_walk 4 none, .fieldLink RX2 43 "TwinRoots$Forest" "depth" "I", .fieldLink RX2 47 "TwinRoots$Forest" "lowestLevel" "I", .fieldLink RX2 50 "TwinRoots$Forest" "lineEnd" "I", .code yX2_lineUp cX2_lineUp 2 none, .fieldLink RX2 24 "TwinRoots$Forest" "line" "[I", .methodLink RX2 53 yX2_lineUp, .instanceMethod yX2_lineUp, .selects RX2 yX2_lineUp yX2_lineUp, .initialized RX2, .code yX2_inLine cX2_inLine 2 (some (.object "TwinRoots$Page")), .fieldLink RX2 20 "TwinRoots$Forest" "empty" "LTwinRoots$Page;", .code yX2_page cX2_page 2 (some (.object "TwinRoots$Page")), .fieldLink RX2 11 "TwinRoots$Forest" "pages" "[LTwinRoots$Page;", .methodLink RX2 28 yX2_page, .instanceMethod yX2_page, .selects RX2 yX2_page yX2_page, .methodLink RX2 56 yX2_inLine, .instanceMethod yX2_inLine, .selects RX2 yX2_inLine yX2_inLine, .fieldLink RX2 32 "TwinRoots$Page" "leaf" "Z", .code yX2_lineUpChildren cX2_lineUpChildren 3 none, .fieldLink RX2 63 "TwinRoots$Page" "many" "I", .code yX4_refAt cX4_refAt 2 (some .int), .fieldLink RX4 22 "TwinRoots$Page" "many" "I", .fieldLink RX4 19 "TwinRoots$Page" "refs" "[I", .methodLink RX2 40 yX4_refAt, .instanceMethod yX4_refAt, .selects RX4 yX4_refAt yX4_refAt, .initialized RX4, .methodLink RX2 59 yX2_lineUpChildren, .instanceMethod yX2_lineUpChildren, .selects RX2 yX2_lineUpChildren yX2_lineUpChildren, .methodLink RX8 147 yX2_walk, .instanceMethod yX2_walk, .selects RX2 yX2_walk yX2_walk, .code yX2_leaves cX2_leaves 1 (some .int), .methodLink RX8 150 yX2_leaves, .instanceMethod yX2_leaves, .selects RX2 yX2_leaves yX2_leaves, .code yX2_leaf cX2_leaf 2 (some (.object "TwinRoots$Page")), .methodLink RX8 154 yX2_leaf, .instanceMethod yX2_leaf, .selects RX2 yX2_leaf yX2_leaf, .code yX4_valuesBetween cX4_valuesBetween 5 (some .int), .code yX4_keyAt cX4_keyAt 2 (some .int), .fieldLink RX4 15 "TwinRoots$Page" "keys" "[I", .methodLink RX4 34 yX4_keyAt, .instanceMethod yX4_keyAt, .selects RX4 yX4_keyAt yX4_keyAt, .methodLink RX4 38 yX4_refAt, .methodLink RX8 167 yX4_valuesBetween, .instanceMethod yX4_valuesBetween, .selects RX4 yX4_valuesBetween yX4_valuesBetween] ++ (wsX80 ++ (wsX70 ++ (wsX20 ++ (wsX40 ++ ([]))))))
set_option maxRecDepth 20000 in
theorem g_X8_sum_X2_walk : GoodIn v_X8_sum (wsV RX8 147 RX2 yX2_walk v_X2_walk) := goodIn_r _ [38, 39, 40, 14, 5, 6, 7, 8, 9, 10, 11, 12, 13, 14, 15, 16, 17, 18, 19, 20, 21, 22, 23, 24, 25, 26, 27, 28, 29, 30, 31, 32, 33, 34, 35, 36, 37, 74, 75, 76, 77, 78, 79, 80, 81, 82, 83] (by decide +kernel) (by decide +kernel)
set_option maxRecDepth 20000 in
theorem g_X8_sum_X2_leaves : GoodIn v_X8_sum (wsV RX8 150 RX2 yX2_leaves v_X2_leaves) := goodIn_r _ [42, 43, 44, 14, 41, 8, 7, 74, 75, 76, 77, 78, 79] (by decide +kernel) (by decide +kernel)
set_option maxRecDepth 20000 in
theorem g_X8_sum_X2_leaf : GoodIn v_X8_sum (wsV RX8 154 RX2 yX2_leaf v_X2_leaf) := goodIn_r _ [46, 47, 48, 14, 45, 7, 15, 16, 8, 10, 17, 18, 19, 20, 21, 14, 22, 23, 24, 74, 75, 76, 77, 78, 79] (by decide +kernel) (by decide +kernel)
set_option maxRecDepth 20000 in
theorem g_X8_sum_X4_valuesBetween : GoodIn v_X8_sum (wsV RX8 167 RX4 yX4_valuesBetween v_X4_valuesBetween) := goodIn_r _ [56, 57, 58, 34, 49, 29, 50, 51, 52, 53, 54, 34, 28, 30, 55, 32, 33, 80, 81, 82, 83] (by decide +kernel) (by decide +kernel)
set_option maxHeartbeats 4000000 in
set_option maxRecDepth 100000 in
/-- X8_sum -/
theorem c_X8_sum (l : Launch) (dC : Nat → ClassId) (dI : Nat → Nat → Nat) (sz : Nat) (ax : Nat) (hd : Nat) (hf : Nat) (hs : Nat) (hp : Nat) (he : Nat) (q0 : Nat) (q1 : Nat) (qk : Nat) (qp : Nat) (qe : Nat) (ql : Nat) (b : Nat) (lo : Nat) (le : Nat) (lt : Int32) (dn : Int32) (dp : Int32) (c1 : Int32) (c2 : Int32) (c3 : Int32) (fx : Int64) (c4 : Int64) (fl : Nat → Int32) (fp : Nat → Option Nat) (cI : ClassId) (cO : ClassId) (G : pgG) (Pg : List Nat) (S : pgS) (p0 : Int32) (p1 : Int32) (zb : b ≤ 64) (hI : pgI G Pg S) (hpg : ∀ i, i < b → ∃ a, a ∈ Pg ∧ (G a).2.2.2 = 0 ∧ fp i = some a) (hm_qe : qe ∈ Pg) (ht_qe : (G qe).2.2.2 = 0) : Met l yX8_sum v_X8_sum ({ frames := 3, cells := 0, slots := 0, locals := 66 } : Room) (va_Pc [.ref ax, .int p0, .int p1] (fun U => U.heap.size = sz ∧ va_P (dC, dI) vwCl ([(ax, .inr (8, [.ref hd, .ref hf, .ref hs, .ref hp, .ref he, .ref q0, .ref q1, .ref qk, .int lt, .long fx, .int dn])), (hf, .inr (2, [.int dp, .ref qp, .ref qe, .ref ql, .int (nI lo), .int (nI le)])), (qp, .inl (cO, b, .inr (.inr (.inr (.inr fp))))), MA9 ql cI b fl, (qk, .inr (7, [.int c1, .int c2, .int c3, .long c4]))] ++ pool G cI Pg S) U.heap ∧ va_K (dC, dI) vwCl [(cO, .object RX4), (cI, .int)] U ∧ va_D (fun _ => True) ([(ax, .inr (8, [.ref hd, .ref hf, .ref hs, .ref hp, .ref he, .ref q0, .ref q1, .ref qk, .int lt, .long fx, .int dn])), (hf, .inr (2, [.int dp, .ref qp, .ref qe, .ref ql, .int (nI lo), .int (nI le)])), (qp, .inl (cO, b, .inr (.inr (.inr (.inr fp))))), MA9 ql cI b fl, (qk, .inr (7, [.int c1, .int c2, .int c3, .long c4]))] ++ pool G cI Pg S))) (va_Qi (fun (r : Int32) (u : Int32 × Nat × Nat × (Nat → Int32)) => match u with | (dp2, lo2, le2, fl2) => True) (fun (u : Int32 × Nat × Nat × (Nat → Int32)) (t : State) => match u with | (dp2, lo2, le2, fl2) => va_P (dC, dI) vwCl ([(ax, .inr (8, [.ref hd, .ref hf, .ref hs, .ref hp, .ref he, .ref q0, .ref q1, .ref qk, .int lt, .long fx, .int dn])), (hf, .inr (2, [.int dp2, .ref qp, .ref qe, .ref ql, .int (nI lo2), .int (nI le2)])), (qp, .inl (cO, b, .inr (.inr (.inr (.inr fp))))), MA9 ql cI b fl2, (qk, .inr (7, [.int c1, .int c2, .int c3, .long c4]))] ++ pool G cI Pg S) t.heap ∧ va_K (dC, dI) vwCl [(cO, .object RX4), (cI, .int)] t ∧ va_D (va_A ([(ax, .inr (8, [.ref hd, .ref hf, .ref hs, .ref hp, .ref he, .ref q0, .ref q1, .ref qk, .int lt, .long fx, .int dn])), (hf, .inr (2, [.int dp, .ref qp, .ref qe, .ref ql, .int (nI lo), .int (nI le)])), (qp, .inl (cO, b, .inr (.inr (.inr (.inr fp))))), MA9 ql cI b fl, (qk, .inr (7, [.int c1, .int c2, .int c3, .long c4]))] ++ pool G cI Pg S) sz) ([(ax, .inr (8, [.ref hd, .ref hf, .ref hs, .ref hp, .ref he, .ref q0, .ref q1, .ref qk, .int lt, .long fx, .int dn])), (hf, .inr (2, [.int dp2, .ref qp, .ref qe, .ref ql, .int (nI lo2), .int (nI le2)])), (qp, .inl (cO, b, .inr (.inr (.inr (.inr fp))))), MA9 ql cI b fl2, (qk, .inr (7, [.int c1, .int c2, .int c3, .long c4]))] ++ pool G cI Pg S)) (va_A ([(ax, .inr (8, [.ref hd, .ref hf, .ref hs, .ref hp, .ref he, .ref q0, .ref q1, .ref qk, .int lt, .long fx, .int dn])), (hf, .inr (2, [.int dp, .ref qp, .ref qe, .ref ql, .int (nI lo), .int (nI le)])), (qp, .inl (cO, b, .inr (.inr (.inr (.inr fp))))), MA9 ql cI b fl, (qk, .inr (7, [.int c1, .int c2, .int c3, .long c4]))] ++ pool G cI Pg S) sz)) 0 0 (va_A ([(ax, .inr (8, [.ref hd, .ref hf, .ref hs, .ref hp, .ref he, .ref q0, .ref q1, .ref qk, .int lt, .long fx, .int dn])), (hf, .inr (2, [.int dp, .ref qp, .ref qe, .ref ql, .int (nI lo), .int (nI le)])), (qp, .inl (cO, b, .inr (.inr (.inr (.inr fp))))), MA9 ql cI b fl, (qk, .inr (7, [.int c1, .int c2, .int c3, .long c4]))] ++ pool G cI Pg S) sz) := by
  refine Met.ofW (cc := cX8_sum) (maxL := 5) (ret := (some .int)) (by decide) rfl ?_
  intro p e s m args below meth c s₁ B hml hv
  obtain ⟨rfl, hsz, hP, hK, hD0⟩ := hv
  have hx := B.exec
  have hb := B.bytes
  have hr := B.returns
  have hts := atoms_spec (ws := v_X8_sum) B.pre
  have hown : s.vm.findClass RX8 = some m.cls := findClass_of_methodNamed B.named
  have hlocks := B.notSynchronized
  subst hsz
  have hD := hD0.self (sz := s.heap.size)
  generalize hAe : va_A ([(ax, .inr (8, [.ref hd, .ref hf, .ref hs, .ref hp, .ref he, .ref q0, .ref q1, .ref qk, .int lt, .long fx, .int dn])), (hf, .inr (2, [.int dp, .ref qp, .ref qe, .ref ql, .int (nI lo), .int (nI le)])), (qp, .inl (cO, b, .inr (.inr (.inr (.inr fp))))), MA9 ql cI b fl, (qk, .inr (7, [.int c1, .int c2, .int c3, .long c4]))] ++ pool G cI Pg S) s.heap.size = A at hD ⊢
  have hA : ∀ q : Nat, s.heap.size ≤ q → A q := fun q h => by rw [← hAe]; exact Or.inr h
  have hS : va_S A s.heap s.heap [] := va_S.rf
  have hP : va_P (dC, dI) vwCl ([(ax, .inr (8, [.ref hd, .ref hf, .ref hs, .ref hp, .ref he, .ref q0, .ref q1, .ref qk, .int lt, .long fx, .int dn])), (hf, .inr (2, [.int dp, .ref qp, .ref qe, .ref ql, .int (nI lo), .int (nI le)])), (qp, .inl (cO, b, .inr (.inr (.inr (.inr fp))))), MA9 ql cI b fl, (qk, .inr (7, [.int c1, .int c2, .int c3, .long c4]))] ++ pool G cI Pg S) s.heap := hP
  have hl := lv_entry ([.ref ax, .int p0, .int p1]) (n := 5) (Nat.le_of_ble_eq_true rfl)
  rw [lg_entry_eq]
  generalize (lg_sl ([.ref ax, .int p0, .int p1]) ++ List.replicate (5 - (lg_sl ([.ref ax, .int p0, .int p1])).length) Slot.unset).toArray = ls at hl ⊢
  have hl : lv_has ls 5 [(0, .ref ax), (1, .int p0), (2, .int p1)] := hl
  have k_1 := (fun _ h => List.mem_cons_of_mem _ (List.mem_append_right _ (List.mem_append_left _ h)) : ∀ w ∈ wsX80, w ∈ v_X8_sum)
  have k_2 := hts (.fieldLink RX8 77 "TwinRoots" "down" "Z") (List.mem_of_getElem? (i := 1) rfl)
  have k_3 := hts (.fieldLink RX8 35 "TwinRoots" "forest" "LTwinRoots$Forest;") (List.mem_of_getElem? (i := 2) rfl)
  have k_4 := hts (.fieldLink RX8 74 "TwinRoots" "working" "LTwinRoots$Told;") (List.mem_of_getElem? (i := 3) rfl)
  have k_5 := (fun _ h => List.mem_cons_of_mem _ (List.mem_append_right _ (List.mem_append_right _ (List.mem_append_left _ h))) : ∀ w ∈ wsX70, w ∈ v_X8_sum)
  have k_6 := hts (.fieldLink RX8 110 "TwinRoots$Told" "top" "I") (List.mem_of_getElem? (i := 4) rfl)
  refine lv_aload_n hx hb dX8_sum_0 rfl (lv_at hl 0 rfl) ?_
  refine va_get (D := (dC, dI)) (ci := 8) (v := .int dn) (C := RX8) (T := TX8) (N := 11) hx hb hts k_1 hown hK hP 0 rfl rfl 10 (by decide) k_2 (fun _ h9 => h9) rfl dX8_sum_1 ?_
  refine lv_if_ne (tgt := 12) hx hb dX8_sum_4 (by decide) (fun c_1 => ?_) (fun c_1 => ?_)
  · refine lv_iconst (v := 0) hx hb dX8_sum_12 (by decide) ?_
    have hP9 := hP.part (cx := [(ax, .inr (8, [.ref hd, .ref hf, .ref hs, .ref hp, .ref he, .ref q0, .ref q1, .ref qk, .int lt, .long fx, .int dn])), (hf, .inr (2, [.int dp, .ref qp, .ref qe, .ref ql, .int (nI lo), .int (nI le)])), (qp, .inl (cO, b, .inr (.inr (.inr (.inr fp))))), MA9 ql cI b fl, (qk, .inr (7, [.int c1, .int c2, .int c3, .long c4]))]) [0, 1, 2, 3, 4] rfl
    have hD9 := hD.part (cx := [(ax, .inr (8, [.ref hd, .ref hf, .ref hs, .ref hp, .ref he, .ref q0, .ref q1, .ref qk, .int lt, .long fx, .int dn])), (hf, .inr (2, [.int dp, .ref qp, .ref qe, .ref ql, .int (nI lo), .int (nI le)])), (qp, .inl (cO, b, .inr (.inr (.inr (.inr fp))))), MA9 ql cI b fl, (qk, .inr (7, [.int c1, .int c2, .int c3, .long c4]))]) [0, 1, 2, 3, 4] (by decide) rfl
    have hK9 := hK.sub (tys' := [(cO, .object RX4), (cI, .int)]) [0, 1] rfl
    exact W.iret (v := 0) hx hb hr (fun t ht hW => ⟨⟨0, (dp, lo, le, fl), rfl, trivial, by rw [ht]; exact hP9, va_K.moved hW.alike hK9, hD9⟩, hS.F ht⟩) hS.2.2 dX8_sum_13
  · refine lv_iload_n hx hb dX8_sum_7 rfl (lv_at hl 1 rfl) ?_
    refine lv_iload_n hx hb dX8_sum_8 rfl (lv_at hl 2 rfl) ?_
    refine lv_icmp_le (tgt := 14) hx hb dX8_sum_9 (by decide) (fun c_2 => ?_) (fun c_2 => ?_)
    · refine lv_aload_n hx hb dX8_sum_14 rfl (lv_at hl 0 rfl) ?_
      refine va_get (D := (dC, dI)) (ci := 8) (v := .ref hf) (C := RX8) (T := TX8) (N := 11) hx hb hts k_1 hown hK hP 0 rfl rfl 1 (by decide) k_3 (fun _ h9 => h9) rfl dX8_sum_15 ?_
      refine lv_aload_n hx hb dX8_sum_18 rfl (lv_at hl 0 rfl) ?_
      refine va_get (D := (dC, dI)) (ci := 8) (v := .ref qk) (C := RX8) (T := TX8) (N := 11) hx hb hts k_1 hown hK hP 0 rfl rfl 7 (by decide) k_4 (fun _ h9 => h9) rfl dX8_sum_19 ?_
      refine va_get (D := (dC, dI)) (ci := 7) (v := .int c2) (C := RX7) (T := TX7) (N := 4) hx hb hts k_5 hown hK hP 4 rfl rfl 1 (by decide) k_6 (fun _ h9 => h9) rfl dX8_sum_22 ?_
      have hPc := hP.part (cx := [(hf, .inr (2, [.int dp, .ref qp, .ref qe, .ref ql, .int (nI lo), .int (nI le)])), (qp, .inl (cO, b, .inr (.inr (.inr (.inr fp))))), MA9 ql cI b fl]) [1, 2, 3] rfl
      have hDc := hD.part (cx := [(hf, .inr (2, [.int dp, .ref qp, .ref qe, .ref ql, .int (nI lo), .int (nI le)])), (qp, .inl (cO, b, .inr (.inr (.inr (.inr fp))))), MA9 ql cI b fl]) [1, 2, 3] (by decide) rfl
      have hFc := va_freeP (cx := [(hf, .inr (2, [.int dp, .ref qp, .ref qe, .ref ql, .int (nI lo), .int (nI le)])), (qp, .inl (cO, b, .inr (.inr (.inr (.inr fp))))), MA9 ql cI b fl]) hD hS hA [1, 2, 3] rfl
      have hKc := hK.sub (tys' := [(cO, .object RX4), (cI, .int)]) [0, 1] rfl
      refine va_callv (va_runV (As := [.int c2]) (rest := []) ⟨hx, hb, hml, hown, hts⟩ (c_X2_walk l dC dI s.heap.size hf qp qe ql b dp (nI lo) (nI le) c2 cO fp G Pg cI S fl (by first | assumption | omega | decide) (by first | assumption | omega | decide) (by first | assumption | omega | decide) (by first | assumption | omega | decide) (by first | assumption | omega | decide)) (cwV 1 hts g_X8_sum_X2_walk rfl rfl rfl (by decide +kernel) ⟨Nat.le_of_ble_eq_true rfl, Nat.le_of_ble_eq_true rfl⟩) ⟨fun a U g mk q => by obtain ⟨q0, q1, qP, qK, qD⟩ := q; exact ⟨q0, q1, qP, va_K.moved (u := U) (U := U.calling g mk a) (Vm.Alike.refl U.vm) qK, qD⟩, va_recv hKc hPc (ci := 2) (q0 := 0) rfl rfl, fun U hU hW => ⟨rfl, by rw [hU], by rw [hU]; exact hPc, va_K.moved hW.alike hKc, hDc.weaken (fun _ _ _ _ => trivial)⟩⟩ rfl rfl hl.1 rfl (lv_room (Nat.le_of_ble_eq_true rfl)) dX8_sum_25 ⟨(show 0 + 0 ≤ 0 by omega), (show 0 + 0 ≤ 0 by omega)⟩) hS (fun q _ h => hFc q h) hFc (fun u t H1 locs ht hvm hw hB hz1 hk1 hS9 => ?_)
      replace hS := hS9
      clear hS9
      obtain ⟨dp9, lo9, le9, fl9⟩ := u
      obtain ⟨hP1, hK1, hD1⟩ := hB
      rw [ht] at hP1
      replace hK1 := va_K.moved hvm.symm hK1
      try dsimp only at hw
      obtain ⟨hP9, hD9⟩ := va_joinP (wr := [(ax, .inr (8, [.ref hd, .ref hf, .ref hs, .ref hp, .ref he, .ref q0, .ref q1, .ref qk, .int lt, .long fx, .int dn])), (qk, .inr (7, [.int c1, .int c2, .int c3, .long c4]))]) (rx := [(hf, .inr (2, [.int dp9, .ref qp, .ref qe, .ref ql, .int (nI lo9), .int (nI le9)])), (qp, .inl (cO, b, .inr (.inr (.inr (.inr fp))))), MA9 ql cI b fl9]) (pl1 := pool G cI Pg S) hP hD [1, 2, 3] [0, 4] rfl rfl (by decide) (by decide) hk1 hFc hP1 hD1
      replace hP := hP9
      replace hD := hD9
      clear hP9 hD9
      replace hK := (hK.sub (tys' := [(cO, .object RX4), (cI, .int)]) [0, 1] rfl).app hK1
      replace hK : va_K (dC, dI) vwCl [(cO, .object RX4), (cI, .int)] s := hK.sub [0, 1] rfl
      clear hP1 hD1 hK1 hPc hDc hKc hFc hk1 hz1 hvm ht
      generalize H1 = H at hP hS ⊢
      replace hP : va_P (dC, dI) vwCl ([(ax, .inr (8, [.ref hd, .ref hf, .ref hs, .ref hp, .ref he, .ref q0, .ref q1, .ref qk, .int lt, .long fx, .int dn])), (qk, .inr (7, [.int c1, .int c2, .int c3, .long c4])), (hf, .inr (2, [.int dp9, .ref qp, .ref qe, .ref ql, .int (nI lo9), .int (nI le9)])), (qp, .inl (cO, b, .inr (.inr (.inr (.inr fp))))), MA9 ql cI b fl9] ++ pool G cI Pg S) H := hP
      replace hD : va_D A ([(ax, .inr (8, [.ref hd, .ref hf, .ref hs, .ref hp, .ref he, .ref q0, .ref q1, .ref qk, .int lt, .long fx, .int dn])), (qk, .inr (7, [.int c1, .int c2, .int c3, .long c4])), (hf, .inr (2, [.int dp9, .ref qp, .ref qe, .ref ql, .int (nI lo9), .int (nI le9)])), (qp, .inl (cO, b, .inr (.inr (.inr (.inr fp))))), MA9 ql cI b fl9] ++ pool G cI Pg S) := hD
      replace hK : va_K (dC, dI) vwCl [(cO, .object RX4), (cI, .int)] s := hK
      have hw_r_3 := hw
      refine lv_iconst (v := 0) hx hb dX8_sum_28 (by decide) ?_
      refine lv_istore_n (lv' := [(3, .int 0), (0, .ref ax), (1, .int p0), (2, .int p1)]) hx hb dX8_sum_29 rfl hl (by decide) rfl (fun ls hl9 => ?_)
      replace hl := hl9
      clear hl9
      refine lv_iconst (v := 0) hx hb dX8_sum_30 (by decide) ?_
      refine lv_istore (lv' := [(4, .int 0), (3, .int 0), (0, .ref ax), (1, .int p0), (2, .int p1)]) hx hb dX8_sum_31 hl (by decide) rfl (fun ls hl9 => ?_)
      replace hl := hl9
      clear hl9
      have loop_33 : ∀ (Q : State → Prop), (∀ (i : Nat) (sv : Int32) (H : Heap) (locs : List Loc) (ls : Array Slot), i ≤ le9 - lo9 → va_P (dC, dI) vwCl ([(ax, .inr (8, [.ref hd, .ref hf, .ref hs, .ref hp, .ref he, .ref q0, .ref q1, .ref qk, .int lt, .long fx, .int dn])), (qk, .inr (7, [.int c1, .int c2, .int c3, .long c4])), (hf, .inr (2, [.int dp9, .ref qp, .ref qe, .ref ql, .int (nI lo9), .int (nI le9)])), (qp, .inl (cO, b, .inr (.inr (.inr (.inr fp))))), MA9 ql cI b fl9] ++ pool G cI Pg S) H → va_D A ([(ax, .inr (8, [.ref hd, .ref hf, .ref hs, .ref hp, .ref he, .ref q0, .ref q1, .ref qk, .int lt, .long fx, .int dn])), (qk, .inr (7, [.int c1, .int c2, .int c3, .long c4])), (hf, .inr (2, [.int dp9, .ref qp, .ref qe, .ref ql, .int (nI lo9), .int (nI le9)])), (qp, .inl (cO, b, .inr (.inr (.inr (.inr fp))))), MA9 ql cI b fl9] ++ pool G cI Pg S) → va_S A s.heap H locs → lv_has ls 5 [(0, .ref ax), (1, .int p0), (2, .int p1), (3, .int sv), (4, .int (nI i))] → W p l e (headSpec v_X8_sum ({ frames := 3, cells := 0, slots := 0, locals := 66 } : Room)).room s m ([.ref ax, .int p0, .int p1] : List Value).toArray below meth c H locs 0 0 Q (F0 m 68 ls [])) → ∀ (nf i : Nat) (sv : Int32) (H : Heap) (locs : List Loc) (ls : Array Slot), i ≤ le9 - lo9 → le9 - lo9 + 1 ≤ i + nf → va_P (dC, dI) vwCl ([(ax, .inr (8, [.ref hd, .ref hf, .ref hs, .ref hp, .ref he, .ref q0, .ref q1, .ref qk, .int lt, .long fx, .int dn])), (qk, .inr (7, [.int c1, .int c2, .int c3, .long c4])), (hf, .inr (2, [.int dp9, .ref qp, .ref qe, .ref ql, .int (nI lo9), .int (nI le9)])), (qp, .inl (cO, b, .inr (.inr (.inr (.inr fp))))), MA9 ql cI b fl9] ++ pool G cI Pg S) H → va_D A ([(ax, .inr (8, [.ref hd, .ref hf, .ref hs, .ref hp, .ref he, .ref q0, .ref q1, .ref qk, .int lt, .long fx, .int dn])), (qk, .inr (7, [.int c1, .int c2, .int c3, .long c4])), (hf, .inr (2, [.int dp9, .ref qp, .ref qe, .ref ql, .int (nI lo9), .int (nI le9)])), (qp, .inl (cO, b, .inr (.inr (.inr (.inr fp))))), MA9 ql cI b fl9] ++ pool G cI Pg S) → va_S A s.heap H locs → lv_has ls 5 [(0, .ref ax), (1, .int p0), (2, .int p1), (3, .int sv), (4, .int (nI i))] → W p l e (headSpec v_X8_sum ({ frames := 3, cells := 0, slots := 0, locals := 66 } : Room)).room s m ([.ref ax, .int p0, .int p1] : List Value).toArray below meth c H locs 0 0 Q (F0 m 33 ls []) := by
        intro Q kx nf
        induction nf with
        | zero =>
          intro i sv H locs ls h1 h2
          exact absurd h2 (by omega)
        | succ nf ih =>
          intro i sv H locs ls hi hn hP hD hS hl
          refine lv_iload hx hb dX8_sum_33 (lv_at hl 4 rfl) ?_
          refine lv_aload_n hx hb dX8_sum_35 rfl (lv_at hl 0 rfl) ?_
          refine va_get (D := (dC, dI)) (ci := 8) (v := .ref hf) (C := RX8) (T := TX8) (N := 11) hx hb hts k_1 hown hK hP 0 rfl rfl 1 (by decide) k_3 (fun _ h9 => h9) rfl dX8_sum_36 ?_
          have hPc := hP.sub (ws' := [(hf, .inr (2, [.int dp9, .ref qp, .ref qe, .ref ql, .int (nI lo9), .int (nI le9)]))]) [2] rfl
          have hDc := hD.sub (ws' := [(hf, .inr (2, [.int dp9, .ref qp, .ref qe, .ref ql, .int (nI lo9), .int (nI le9)]))]) [2] (by decide) rfl
          have hKc := hK.sub (tys' := []) [] rfl
          have hFc := va_free (wc := [(hf, .inr (2, [.int dp9, .ref qp, .ref qe, .ref ql, .int (nI lo9), .int (nI le9)]))]) hD hS hA [2] rfl
          refine va_calli (va_runV (As := []) (rest := [.int (nI i)]) ⟨hx, hb, hml, hown, hts⟩ (c_X2_leaves l dC dI H.size hf qp qe ql lo9 le9 dp9 (by first | assumption | omega | decide) (by first | assumption | omega | decide)) (cwV 0 hts g_X8_sum_X2_leaves rfl rfl rfl (by decide +kernel) ⟨Nat.le_of_ble_eq_true rfl, Nat.le_of_ble_eq_true rfl⟩) ⟨fun a U g mk q => by obtain ⟨q0, q1, qP, qK, qD⟩ := q; exact ⟨q0, q1, qP, va_K.moved (u := U) (U := U.calling g mk a) (Vm.Alike.refl U.vm) qK, qD⟩, va_recv hKc hPc (ci := 2) (q0 := 0) rfl rfl, fun U hU hW => ⟨rfl, by rw [hU], by rw [hU]; exact hPc, va_K.moved hW.alike hKc, hDc.weaken (fun _ _ _ _ => trivial)⟩⟩ rfl rfl hl.1 rfl (lv_room (Nat.le_of_ble_eq_true rfl)) dX8_sum_39 ⟨(show 0 + 0 ≤ 0 by omega), (show 0 + 0 ≤ 0 by omega)⟩) hS (fun q _ h => hFc q h) hFc (fun r_4 u t H1 locs ht hvm hw hB hz1 hk1 hS9 => ?_)
          replace hS := hS9
          clear hS9
          obtain ⟨hP1, hK1, hD1⟩ := hB
          rw [ht] at hP1
          replace hK1 := va_K.moved hvm.symm hK1
          try dsimp only at hw
          obtain ⟨hP9, hD9⟩ := va_joinQ (wr := [(ax, .inr (8, [.ref hd, .ref hf, .ref hs, .ref hp, .ref he, .ref q0, .ref q1, .ref qk, .int lt, .long fx, .int dn])), (qk, .inr (7, [.int c1, .int c2, .int c3, .long c4])), (qp, .inl (cO, b, .inr (.inr (.inr (.inr fp))))), MA9 ql cI b fl9]) (w1 := [(hf, .inr (2, [.int dp9, .ref qp, .ref qe, .ref ql, .int (nI lo9), .int (nI le9)]))]) hP hD [2] [0, 1, 3, 4] rfl rfl (by decide) (by decide) hk1 hFc hP1 hD1
          replace hP := hP9
          replace hD := hD9
          clear hP9 hD9
          replace hK := (hK.sub (tys' := [(cO, .object RX4), (cI, .int)]) [0, 1] rfl).app hK1
          replace hK : va_K (dC, dI) vwCl [(cO, .object RX4), (cI, .int)] s := hK.sub [0, 1] rfl
          clear hP1 hD1 hK1 hPc hDc hKc hFc hk1 hz1 hvm ht
          generalize H1 = H at hP hS ⊢
          replace hP : va_P (dC, dI) vwCl ([(ax, .inr (8, [.ref hd, .ref hf, .ref hs, .ref hp, .ref he, .ref q0, .ref q1, .ref qk, .int lt, .long fx, .int dn])), (qk, .inr (7, [.int c1, .int c2, .int c3, .long c4])), (qp, .inl (cO, b, .inr (.inr (.inr (.inr fp))))), MA9 ql cI b fl9, (hf, .inr (2, [.int dp9, .ref qp, .ref qe, .ref ql, .int (nI lo9), .int (nI le9)]))] ++ pool G cI Pg S) H := hP
          replace hD : va_D A ([(ax, .inr (8, [.ref hd, .ref hf, .ref hs, .ref hp, .ref he, .ref q0, .ref q1, .ref qk, .int lt, .long fx, .int dn])), (qk, .inr (7, [.int c1, .int c2, .int c3, .long c4])), (qp, .inl (cO, b, .inr (.inr (.inr (.inr fp))))), MA9 ql cI b fl9, (hf, .inr (2, [.int dp9, .ref qp, .ref qe, .ref ql, .int (nI lo9), .int (nI le9)]))] ++ pool G cI Pg S) := hD
          replace hK : va_K (dC, dI) vwCl [(cO, .object RX4), (cI, .int)] s := hK
          obtain rfl : r_4 = nI (le9 - lo9) := hw
          refine lv_icmp_ge (tgt := 68) hx hb dX8_sum_42 (by decide) (fun c_5 => ?_) (fun c_5 => ?_)
          · exact kx i sv _ _ _ (by omega) (hP.part (cx := [(ax, .inr (8, [.ref hd, .ref hf, .ref hs, .ref hp, .ref he, .ref q0, .ref q1, .ref qk, .int lt, .long fx, .int dn])), (qk, .inr (7, [.int c1, .int c2, .int c3, .long c4])), (hf, .inr (2, [.int dp9, .ref qp, .ref qe, .ref ql, .int (nI lo9), .int (nI le9)])), (qp, .inl (cO, b, .inr (.inr (.inr (.inr fp))))), MA9 ql cI b fl9]) [0, 1, 4, 2, 3] rfl) (hD.part (cx := [(ax, .inr (8, [.ref hd, .ref hf, .ref hs, .ref hp, .ref he, .ref q0, .ref q1, .ref qk, .int lt, .long fx, .int dn])), (qk, .inr (7, [.int c1, .int c2, .int c3, .long c4])), (hf, .inr (2, [.int dp9, .ref qp, .ref qe, .ref ql, .int (nI lo9), .int (nI le9)])), (qp, .inl (cO, b, .inr (.inr (.inr (.inr fp))))), MA9 ql cI b fl9]) [0, 1, 4, 2, 3] (by decide) rfl) hS (lv_sub hl [0, 1, 2, 3, 4] rfl)
          · have hlt : i < le9 - lo9 := Nat.lt_of_not_le (fun h => c_5 (nI_le h (by omega)))
            refine lv_iload_n hx hb dX8_sum_45 rfl (lv_at hl 3 rfl) ?_
            refine lv_aload_n hx hb dX8_sum_46 rfl (lv_at hl 0 rfl) ?_
            refine va_get (D := (dC, dI)) (ci := 8) (v := .ref hf) (C := RX8) (T := TX8) (N := 11) hx hb hts k_1 hown hK hP 0 rfl rfl 1 (by decide) k_3 (fun _ h9 => h9) rfl dX8_sum_47 ?_
            refine lv_iload hx hb dX8_sum_50 (lv_at hl 4 rfl) ?_
            have hPc := hP.part (cx := [(hf, .inr (2, [.int dp9, .ref qp, .ref qe, .ref ql, .int (nI lo9), .int (nI le9)])), (qp, .inl (cO, b, .inr (.inr (.inr (.inr fp))))), MA9 ql cI b fl9]) [4, 2, 3] rfl
            have hDc := hD.part (cx := [(hf, .inr (2, [.int dp9, .ref qp, .ref qe, .ref ql, .int (nI lo9), .int (nI le9)])), (qp, .inl (cO, b, .inr (.inr (.inr (.inr fp))))), MA9 ql cI b fl9]) [4, 2, 3] (by decide) rfl
            have hFc := va_freeP (cx := [(hf, .inr (2, [.int dp9, .ref qp, .ref qe, .ref ql, .int (nI lo9), .int (nI le9)])), (qp, .inl (cO, b, .inr (.inr (.inr (.inr fp))))), MA9 ql cI b fl9]) hD hS hA [4, 2, 3] rfl
            have hKc := hK.sub (tys' := [(cO, .object RX4), (cI, .int)]) [0, 1] rfl
            refine va_callr (va_runV (As := [.int (nI i)]) (rest := [.int sv]) ⟨hx, hb, hml, hown, hts⟩ (c_X2_leaf l dC dI H.size hf qp qe ql b lo9 le9 dp9 cO fp G Pg cI S (nI i) fl9 (by first | assumption | omega | decide) (by first | assumption | omega | decide) (by first | assumption | omega | decide) (by first | assumption | omega | decide) (by first | assumption | omega | decide) (by first | assumption | omega | decide) (by first | assumption | omega | decide)) (cwV 1 hts g_X8_sum_X2_leaf rfl rfl rfl (by decide +kernel) ⟨Nat.le_of_ble_eq_true rfl, Nat.le_of_ble_eq_true rfl⟩) ⟨fun a U g mk q => by obtain ⟨q0, q1, qP, qK, qD⟩ := q; exact ⟨q0, q1, qP, va_K.moved (u := U) (U := U.calling g mk a) (Vm.Alike.refl U.vm) qK, qD⟩, va_recv hKc hPc (ci := 2) (q0 := 0) rfl rfl, fun U hU hW => ⟨rfl, by rw [hU], by rw [hU]; exact hPc, va_K.moved hW.alike hKc, hDc.weaken (fun _ _ _ _ => trivial)⟩⟩ rfl rfl hl.1 rfl (lv_room (Nat.le_of_ble_eq_true rfl)) dX8_sum_52 ⟨(show 0 + 0 ≤ 0 by omega), (show 0 + 0 ≤ 0 by omega)⟩) hS (fun q _ h => hFc q h) hFc (fun u r_6 t H1 locs ht hvm hw hB hz1 hk1 hS9 => ?_)
            replace hS := hS9
            clear hS9
            obtain ⟨a_7, rfl⟩ : ∃ z, z = u := ⟨_, rfl⟩
            obtain ⟨hra, hP1, hK1, hD1⟩ := hB
            have hra := hra.symm
            subst hra
            rw [ht] at hP1
            replace hK1 := va_K.moved hvm.symm hK1
            try dsimp only at hw
            obtain ⟨hP9, hD9⟩ := va_joinP (wr := [(ax, .inr (8, [.ref hd, .ref hf, .ref hs, .ref hp, .ref he, .ref q0, .ref q1, .ref qk, .int lt, .long fx, .int dn])), (qk, .inr (7, [.int c1, .int c2, .int c3, .long c4]))]) (rx := [(hf, .inr (2, [.int dp9, .ref qp, .ref qe, .ref ql, .int (nI lo9), .int (nI le9)])), (qp, .inl (cO, b, .inr (.inr (.inr (.inr fp))))), MA9 ql cI b fl9]) (pl1 := pool G cI Pg S) hP hD [4, 2, 3] [0, 1] rfl rfl (by decide) (by decide) hk1 hFc hP1 hD1
            replace hP := hP9
            replace hD := hD9
            clear hP9 hD9
            replace hK := (hK.sub (tys' := [(cO, .object RX4), (cI, .int)]) [0, 1] rfl).app hK1
            replace hK : va_K (dC, dI) vwCl [(cO, .object RX4), (cI, .int)] s := hK.sub [0, 1] rfl
            clear hP1 hD1 hK1 hPc hDc hKc hFc hk1 hz1 hvm ht
            generalize H1 = H at hP hS ⊢
            replace hP : va_P (dC, dI) vwCl ([(ax, .inr (8, [.ref hd, .ref hf, .ref hs, .ref hp, .ref he, .ref q0, .ref q1, .ref qk, .int lt, .long fx, .int dn])), (qk, .inr (7, [.int c1, .int c2, .int c3, .long c4])), (hf, .inr (2, [.int dp9, .ref qp, .ref qe, .ref ql, .int (nI lo9), .int (nI le9)])), (qp, .inl (cO, b, .inr (.inr (.inr (.inr fp))))), MA9 ql cI b fl9] ++ pool G cI Pg S) H := hP
            replace hD : va_D A ([(ax, .inr (8, [.ref hd, .ref hf, .ref hs, .ref hp, .ref he, .ref q0, .ref q1, .ref qk, .int lt, .long fx, .int dn])), (qk, .inr (7, [.int c1, .int c2, .int c3, .long c4])), (hf, .inr (2, [.int dp9, .ref qp, .ref qe, .ref ql, .int (nI lo9), .int (nI le9)])), (qp, .inl (cO, b, .inr (.inr (.inr (.inr fp))))), MA9 ql cI b fl9] ++ pool G cI Pg S) := hD
            replace hK : va_K (dC, dI) vwCl [(cO, .object RX4), (cI, .int)] s := hK
            have hm_a_7 := hw.1
            have ht_a_7 := hw.2
            refine lv_iload_n hx hb dX8_sum_55 rfl (lv_at hl 1 rfl) ?_
            refine lv_iload_n hx hb dX8_sum_56 rfl (lv_at hl 2 rfl) ?_
            have hz1_a_7 := (hI a_7 hm_a_7).1
            have hz2_a_7 := (hI a_7 hm_a_7).2.1
            have hz3_a_7 := (hI a_7 hm_a_7).2.2
            have hT9 := in1 hm_a_7
            have hPc : va_P (dC, dI) vwCl [(a_7, .inr (4, [.int (S a_7).1, .int (nI (S a_7).2.1), .ref (G a_7).1, .ref (G a_7).2.1])), MA9 (G a_7).1 cI (G a_7).2.2.1 (S a_7).2.2.1, MA9 (G a_7).2.1 cI (G a_7).2.2.1 (S a_7).2.2.2] H := pool_cut (T := [a_7]) (cx := []) hP hT9 [] rfl
            have hDc : va_D A [(a_7, .inr (4, [.int (S a_7).1, .int (nI (S a_7).2.1), .ref (G a_7).1, .ref (G a_7).2.1])), MA9 (G a_7).1 cI (G a_7).2.2.1 (S a_7).2.2.1, MA9 (G a_7).2.1 cI (G a_7).2.2.1 (S a_7).2.2.2] := pool_cutD (T := [a_7]) (cx := []) hD hT9 (nd1) [] (by decide) rfl
            have hFc : ∀ q, va_A [(a_7, .inr (4, [.int (S a_7).1, .int (nI (S a_7).2.1), .ref (G a_7).1, .ref (G a_7).2.1])), MA9 (G a_7).1 cI (G a_7).2.2.1 (S a_7).2.2.1, MA9 (G a_7).2.1 cI (G a_7).2.2.1 (S a_7).2.2.2] (H).size q → A q := pool_free (T := [a_7]) (cx := []) hD hS hA hT9 [] rfl
            have hKc := hK.sub (tys' := [(cI, .int), (cI, .int)]) [1, 1] rfl
            refine va_calli (va_runV (As := [.int p0, .int p1]) (rest := [.int sv]) ⟨hx, hb, hml, hown, hts⟩ (c_X4_valuesBetween l dC dI H.size a_7 (G a_7).1 (G a_7).2.1 (G a_7).2.2.1 (S a_7).2.1 (S a_7).1 cI cI (S a_7).2.2.1 (S a_7).2.2.2 p0 p1 (by first | assumption | omega | decide) (by first | assumption | omega | decide)) (cwV 2 hts g_X8_sum_X4_valuesBetween rfl rfl rfl (by decide +kernel) ⟨Nat.le_of_ble_eq_true rfl, Nat.le_of_ble_eq_true rfl⟩) ⟨fun a U g mk q => by obtain ⟨q0, q1, qP, qK, qD⟩ := q; exact ⟨q0, q1, qP, va_K.moved (u := U) (U := U.calling g mk a) (Vm.Alike.refl U.vm) qK, qD⟩, va_recv hKc hPc (ci := 4) (q0 := 0) rfl rfl, fun U hU hW => ⟨rfl, by rw [hU], by rw [hU]; exact hPc, va_K.moved hW.alike hKc, hDc.weaken (fun _ _ _ _ => trivial)⟩⟩ rfl rfl hl.1 rfl (lv_room (Nat.le_of_ble_eq_true rfl)) dX8_sum_57 ⟨(show 0 + 0 ≤ 0 by omega), (show 0 + 0 ≤ 0 by omega)⟩) hS (fun q _ h => hFc q h) hFc (fun r_8 u t H1 locs ht hvm hw hB hz1 hk1 hS9 => ?_)
            replace hS := hS9
            clear hS9
            obtain ⟨hP1, hK1, hD1⟩ := hB
            rw [ht] at hP1
            replace hK1 := va_K.moved hvm.symm hK1
            try dsimp only at hw
            obtain ⟨hP9, hD9⟩ := pool_join (S := S) (S1 := S) (T := [a_7]) (cx := []) (wr := [(ax, .inr (8, [.ref hd, .ref hf, .ref hs, .ref hp, .ref he, .ref q0, .ref q1, .ref qk, .int lt, .long fx, .int dn])), (qk, .inr (7, [.int c1, .int c2, .int c3, .long c4])), (hf, .inr (2, [.int dp9, .ref qp, .ref qe, .ref ql, .int (nI lo9), .int (nI le9)])), (qp, .inl (cO, b, .inr (.inr (.inr (.inr fp))))), MA9 ql cI b fl9]) (rx := []) hP hD hT9 [] [0, 1, 2, 3, 4] rfl rfl (by decide) (by decide) hk1 hFc hP1 hD1
            replace hP := hP9
            replace hD := hD9
            clear hP9 hD9
            rw [pgJ_same] at hP hD
            replace hK := (hK.sub (tys' := [(cO, .object RX4), (cI, .int)]) [0, 1] rfl).app hK1
            replace hK : va_K (dC, dI) vwCl [(cO, .object RX4), (cI, .int)] s := hK.sub [0, 1] rfl
            clear hP1 hD1 hK1 hPc hDc hKc hFc hk1 hz1 hvm ht
            generalize H1 = H at hP hS ⊢
            replace hP : va_P (dC, dI) vwCl ([(ax, .inr (8, [.ref hd, .ref hf, .ref hs, .ref hp, .ref he, .ref q0, .ref q1, .ref qk, .int lt, .long fx, .int dn])), (qk, .inr (7, [.int c1, .int c2, .int c3, .long c4])), (hf, .inr (2, [.int dp9, .ref qp, .ref qe, .ref ql, .int (nI lo9), .int (nI le9)])), (qp, .inl (cO, b, .inr (.inr (.inr (.inr fp))))), MA9 ql cI b fl9] ++ pool G cI Pg S) H := hP
            replace hD : va_D A ([(ax, .inr (8, [.ref hd, .ref hf, .ref hs, .ref hp, .ref he, .ref q0, .ref q1, .ref qk, .int lt, .long fx, .int dn])), (qk, .inr (7, [.int c1, .int c2, .int c3, .long c4])), (hf, .inr (2, [.int dp9, .ref qp, .ref qe, .ref ql, .int (nI lo9), .int (nI le9)])), (qp, .inl (cO, b, .inr (.inr (.inr (.inr fp))))), MA9 ql cI b fl9] ++ pool G cI Pg S) := hD
            replace hK : va_K (dC, dI) vwCl [(cO, .object RX4), (cI, .int)] s := hK
            have hw_r_8 := hw
            refine lv_iadd hx hb dX8_sum_60 ?_
            refine lv_topi (fun z_9 _ => ?_)
            refine lv_istore_n (lv' := [(3, .int z_9), (0, .ref ax), (1, .int p0), (2, .int p1), (4, .int (nI i))]) hx hb dX8_sum_61 rfl hl (by decide) rfl (fun ls hl9 => ?_)
            replace hl := hl9
            clear hl9
            refine lv_iinc (v := (nI (i + 1))) (lv' := [(4, .int (nI (i + 1))), (3, .int z_9), (0, .ref ax), (1, .int p0), (2, .int p1)]) hx hb dX8_sum_62 hl (k := 4) rfl (nI_1 i) (by decide) rfl (fun ls hl9 => ?_)
            replace hl := hl9
            clear hl9
            refine lv_goto (tgt := 33) hx hb dX8_sum_65 (by decide) ?_
            exact ih (i + 1) z_9 _ _ _ (by omega) (by omega) hP hD hS (lv_sub hl [2, 3, 4, 1, 0] rfl)
      refine loop_33 _ (fun i sv H locs ls hi hP hD hS hl => ?_) ((le9 - lo9) + 1) 0 0 _ _ _ (by omega) (by omega) hP hD hS (lv_sub hl [2, 3, 4, 1, 0] rfl)
      refine lv_iload_n hx hb dX8_sum_68 rfl (lv_at hl 3 rfl) ?_
      have hP9 := hP.part (cx := [(ax, .inr (8, [.ref hd, .ref hf, .ref hs, .ref hp, .ref he, .ref q0, .ref q1, .ref qk, .int lt, .long fx, .int dn])), (hf, .inr (2, [.int dp9, .ref qp, .ref qe, .ref ql, .int (nI lo9), .int (nI le9)])), (qp, .inl (cO, b, .inr (.inr (.inr (.inr fp))))), MA9 ql cI b fl9, (qk, .inr (7, [.int c1, .int c2, .int c3, .long c4]))]) [0, 2, 3, 4, 1] rfl
      have hD9 := hD.part (cx := [(ax, .inr (8, [.ref hd, .ref hf, .ref hs, .ref hp, .ref he, .ref q0, .ref q1, .ref qk, .int lt, .long fx, .int dn])), (hf, .inr (2, [.int dp9, .ref qp, .ref qe, .ref ql, .int (nI lo9), .int (nI le9)])), (qp, .inl (cO, b, .inr (.inr (.inr (.inr fp))))), MA9 ql cI b fl9, (qk, .inr (7, [.int c1, .int c2, .int c3, .long c4]))]) [0, 2, 3, 4, 1] (by decide) rfl
      have hK9 := hK.sub (tys' := [(cO, .object RX4), (cI, .int)]) [0, 1] rfl
      exact W.iret (v := sv) hx hb hr (fun t ht hW => ⟨⟨sv, (dp9, lo9, le9, fl9), rfl, trivial, by rw [ht]; exact hP9, va_K.moved hW.alike hK9, hD9⟩, hS.F ht⟩) hS.2.2 dX8_sum_69
    · refine lv_iconst (v := 0) hx hb dX8_sum_12 (by decide) ?_
      have hP9 := hP.part (cx := [(ax, .inr (8, [.ref hd, .ref hf, .ref hs, .ref hp, .ref he, .ref q0, .ref q1, .ref qk, .int lt, .long fx, .int dn])), (hf, .inr (2, [.int dp, .ref qp, .ref qe, .ref ql, .int (nI lo), .int (nI le)])), (qp, .inl (cO, b, .inr (.inr (.inr (.inr fp))))), MA9 ql cI b fl, (qk, .inr (7, [.int c1, .int c2, .int c3, .long c4]))]) [0, 1, 2, 3, 4] rfl
      have hD9 := hD.part (cx := [(ax, .inr (8, [.ref hd, .ref hf, .ref hs, .ref hp, .ref he, .ref q0, .ref q1, .ref qk, .int lt, .long fx, .int dn])), (hf, .inr (2, [.int dp, .ref qp, .ref qe, .ref ql, .int (nI lo), .int (nI le)])), (qp, .inl (cO, b, .inr (.inr (.inr (.inr fp))))), MA9 ql cI b fl, (qk, .inr (7, [.int c1, .int c2, .int c3, .long c4]))]) [0, 1, 2, 3, 4] (by decide) rfl
      have hK9 := hK.sub (tys' := [(cO, .object RX4), (cI, .int)]) [0, 1] rfl
      exact W.iret (v := 0) hx hb hr (fun t ht hW => ⟨⟨0, (dp, lo, le, fl), rfl, trivial, by rw [ht]; exact hP9, va_K.moved hW.alike hK9, hD9⟩, hS.F ht⟩) hS.2.2 dX8_sum_13
def v_X8_commit : List Cond := .code yX8_commit cX8_commit 2 (some .int) :: ([.fieldLink RX8 77 "TwinRoots" "down" "Z", .fieldLink RX8 140 "TwinRoots" "latest" "I", .code yX8_told cX8_told 2 (some (.object "TwinRoots$Told")), .fieldLink RX8 71 "TwinRoots" "rootOne" "LTwinRoots$Told;", .methodLink RX8 143 yX8_told, .instanceMethod yX8_told, .selects RX8 yX8_told yX8_told, .initialized RX8, .fieldLink RX8 67 "TwinRoots" "rootZero" "LTwinRoots$Told;", .fieldLink RX8 170 "TwinRoots$Told" "epoch" "I", .fieldLink RX8 74 "TwinRoots" "working" "LTwinRoots$Told;", .fieldLink RX8 110 "TwinRoots$Told" "top" "I", .fieldLink RX8 127 "TwinRoots$Told" "keys" "I", .fieldLink RX8 103 "TwinRoots$Told" "reach" "J", .code yX7_tell cX7_tell 6 none, .fieldLink RX7 9 "TwinRoots$Told" "epoch" "I", .fieldLink RX7 15 "TwinRoots$Told" "top" "I", .fieldLink RX7 18 "TwinRoots$Told" "keys" "I", .fieldLink RX7 21 "TwinRoots$Told" "reach" "J", .methodLink RX8 84 yX7_tell, .instanceMethod yX7_tell, .selects RX7 yX7_tell yX7_tell, .initialized RX7, .code yX8_writeRoot cX8_writeRoot 2 (some .boolean), .fieldLink RX8 28 "TwinRoots" "disk" "LTwinRoots$Disk;", .code yX7_layOut cX7_layOut 2 none, .code yX0_startImage cX0_startImage 2 none, .fieldLink RX0 20 "TwinRoots$Disk" "image" "[I", .methodLink RX7 29 yX0_startImage, .instanceMethod yX0_startImage, .selects RX0 yX0_startImage yX0_startImage, .initialized RX0, .constant RX7 34 (1414677326), .code yX0_lay cX0_lay 3 none, .methodLink RX7 35 yX0_lay, .instanceMethod yX0_lay, .selects RX0 yX0_lay yX0_lay, .methodLink RX8 220 yX7_layOut, .instanceMethod yX7_layOut, .selects RX7 yX7_layOut yX7_layOut, .code yX0_write cX0_write 6 (some .boolean), .fieldLink RX0 7 "TwinRoots$Disk" "words" "I", .code yX0_sealOf cX0_sealOf 5 (some .int), .code Lib.Math.max.name Lib.Math.max.code 2 (some .int), .methodLink RX0 26 Lib.Math.max.name, .static Lib.Math.max.name, .initialized "java/lang/Math", .methodLink RX0 41 yX0_sealOf, .static yX0_sealOf, .methodLink RX0 45 yX0_lay, .fieldLink RX0 23 "TwinRoots$Disk" "writesAhead" "I", .code yX0_cellOf cX0_cellOf 4 (some .int), .fieldLink RX0 13 "TwinRoots$Disk" "blocks" "I", .methodLink RX0 38 yX0_cellOf, .instanceMethod yX0_cellOf, .selects RX0 yX0_cellOf yX0_cellOf, .fieldLink RX0 16 "TwinRoots$Disk" "cells" "[I", .fieldLink RX0 49 "TwinRoots$Disk" "writes" "I", .fieldLink RX0 35 "TwinRoots$Disk" "wordsOfCut" "I", .methodLink RX8 224 yX0_write, .instanceMethod yX0_write, .selects RX0 yX0_write yX0_write, .methodLink RX8 88 yX8_writeRoot, .instanceMethod yX8_writeRoot, .selects RX8 yX8_writeRoot yX8_writeRoot, .fieldLink RX8 99 "TwinRoots" "fresh" "J", .code yX8_goDown cX8_goDown 1 (some .int), .methodLink RX8 173 yX8_goDown, .instanceMethod yX8_goDown, .selects RX8 yX8_goDown yX8_goDown] ++ (wsX80 ++ (wsX70 ++ (wsX00 ++ ([])))))
set_option maxRecDepth 20000 in
theorem g_X8_commit_X8_told_1 : GoodIn v_X8_commit (wsV RX8 143 RX8 yX8_told v_X8_told_1) := goodIn_r _ [5, 6, 7, 8, 3, 4, 71, 72, 73, 74, 75, 76, 77, 78, 79, 80, 81] (by decide +kernel) (by decide +kernel)
set_option maxRecDepth 20000 in
theorem g_X8_commit_X8_told_0 : GoodIn v_X8_commit (wsV RX8 143 RX8 yX8_told v_X8_told_0) := goodIn_r _ [5, 6, 7, 8, 3, 9, 71, 72, 73, 74, 75, 76, 77, 78, 79, 80, 81] (by decide +kernel) (by decide +kernel)
set_option maxRecDepth 20000 in
theorem g_X8_commit_X7_tell : GoodIn v_X8_commit (wsV RX8 84 RX7 yX7_tell v_X7_tell) := goodIn_r _ [20, 21, 22, 23, 15, 16, 17, 18, 19, 82, 83, 84, 85] (by decide +kernel) (by decide +kernel)
set_option maxRecDepth 20000 in
theorem g_X8_commit_X8_writeRoot_1 : GoodIn v_X8_commit (wsV RX8 88 RX8 yX8_writeRoot v_X8_writeRoot_1) := goodIn_r _ [63, 64, 65, 8, 24, 3, 4, 5, 6, 7, 8, 25, 26, 27, 28, 29, 30, 31, 32, 33, 34, 35, 36, 37, 16, 17, 18, 38, 39, 40, 23, 41, 42, 43, 44, 45, 46, 47, 48, 49, 50, 51, 52, 53, 54, 55, 56, 57, 58, 59, 60, 61, 62, 71, 72, 73, 74, 75, 76, 77, 78, 79, 80, 81, 86, 87, 88, 89, 90, 91, 92, 82, 83, 84, 85] (by decide +kernel) (by decide +kernel)
set_option maxRecDepth 20000 in
theorem g_X8_commit_X8_goDown : GoodIn v_X8_commit (wsV RX8 173 RX8 yX8_goDown v_X8_goDown) := goodIn_r _ [68, 69, 70, 8, 67, 1, 71, 72, 73, 74, 75, 76, 77, 78, 79, 80, 81] (by decide +kernel) (by decide +kernel)
set_option maxRecDepth 20000 in
theorem g_X8_commit_X8_writeRoot_0 : GoodIn v_X8_commit (wsV RX8 88 RX8 yX8_writeRoot v_X8_writeRoot_0) := goodIn_r _ [63, 64, 65, 8, 24, 3, 9, 5, 6, 7, 8, 25, 26, 27, 28, 29, 30, 31, 32, 33, 34, 35, 36, 37, 16, 17, 18, 38, 39, 40, 23, 41, 42, 43, 44, 45, 46, 47, 48, 49, 50, 51, 52, 53, 54, 55, 56, 57, 58, 59, 60, 61, 62, 71, 72, 73, 74, 75, 76, 77, 78, 79, 80, 81, 86, 87, 88, 89, 90, 91, 92, 82, 83, 84, 85] (by decide +kernel) (by decide +kernel)
set_option maxHeartbeats 4000000 in
set_option maxRecDepth 100000 in
/-- X8_commit -/
theorem c_X8_commit (l : Launch) (dC : Nat → ClassId) (dI : Nat → Nat → Nat) (sz : Nat) (ax : Nat) (hd : Nat) (hf : Nat) (hs : Nat) (hp : Nat) (he : Nat) (q0 : Nat) (q1 : Nat) (qk : Nat) (qc : Nat) (qi : Nat) (w : Nat) (b : Nat) (lt : Int32) (dn : Int32) (wr : Int32) (wa : Int32) (wc : Int32) (a1 : Int32) (a2 : Int32) (a3 : Int32) (b1 : Int32) (b2 : Int32) (b3 : Int32) (c1 : Int32) (c2 : Int32) (c3 : Int32) (fx : Int64) (a4 : Int64) (b4 : Int64) (c4 : Int64) (fc : Nat → Int32) (gi : Nat → Int32) (cI : ClassId) (zw0 : 12 ≤ w) (zw : w ≤ 40) (zb0 : 4 ≤ b) (zb : b ≤ 64) (zwb : w * b ≤ 2560) (zlt : lt = 0 ∨ lt = 1) : Met l yX8_commit v_X8_commit ({ frames := 4, cells := 0, slots := 0, locals := 83 } : Room) (va_Pc [.ref ax] (fun U => U.heap.size = sz ∧ va_P (dC, dI) vwCl [(ax, .inr (8, [.ref hd, .ref hf, .ref hs, .ref hp, .ref he, .ref q0, .ref q1, .ref qk, .int lt, .long fx, .int dn])), (hd, .inr (0, [.int (nI w), .int (nI b), .int wr, .ref qc, .ref qi, .int wa, .int wc])), MA9 qc cI (w * b) fc, MA9 qi cI w gi, (q0, .inr (7, [.int a1, .int a2, .int a3, .long a4])), (q1, .inr (7, [.int b1, .int b2, .int b3, .long b4])), (qk, .inr (7, [.int c1, .int c2, .int c3, .long c4]))] U.heap ∧ va_K (dC, dI) vwCl [(cI, .int)] U ∧ va_D (fun _ => True) [(ax, .inr (8, [.ref hd, .ref hf, .ref hs, .ref hp, .ref he, .ref q0, .ref q1, .ref qk, .int lt, .long fx, .int dn])), (hd, .inr (0, [.int (nI w), .int (nI b), .int wr, .ref qc, .ref qi, .int wa, .int wc])), MA9 qc cI (w * b) fc, MA9 qi cI w gi, (q0, .inr (7, [.int a1, .int a2, .int a3, .long a4])), (q1, .inr (7, [.int b1, .int b2, .int b3, .long b4])), (qk, .inr (7, [.int c1, .int c2, .int c3, .long c4]))])) (va_Qi (fun (r : Int32) (u : Int32 × Int64 × Int32 × Int32 × Int32 × Int32 × (Nat → Int32) × (Nat → Int32) × Int32 × Int32 × Int32 × Int64 × Int32 × Int32 × Int32 × Int64) => match u with | (lt2, fx2, dn2, wr2, wa2, wc2, fc2, gi2, a12, a22, a32, a42, b12, b22, b32, b42) => (lt2 = 0 ∨ lt2 = 1)) (fun (u : Int32 × Int64 × Int32 × Int32 × Int32 × Int32 × (Nat → Int32) × (Nat → Int32) × Int32 × Int32 × Int32 × Int64 × Int32 × Int32 × Int32 × Int64) (t : State) => match u with | (lt2, fx2, dn2, wr2, wa2, wc2, fc2, gi2, a12, a22, a32, a42, b12, b22, b32, b42) => va_P (dC, dI) vwCl [(ax, .inr (8, [.ref hd, .ref hf, .ref hs, .ref hp, .ref he, .ref q0, .ref q1, .ref qk, .int lt2, .long fx2, .int dn2])), (hd, .inr (0, [.int (nI w), .int (nI b), .int wr2, .ref qc, .ref qi, .int wa2, .int wc2])), MA9 qc cI (w * b) fc2, MA9 qi cI w gi2, (q0, .inr (7, [.int a12, .int a22, .int a32, .long a42])), (q1, .inr (7, [.int b12, .int b22, .int b32, .long b42])), (qk, .inr (7, [.int c1, .int c2, .int c3, .long c4]))] t.heap ∧ va_K (dC, dI) vwCl [(cI, .int)] t ∧ va_D (va_A [(ax, .inr (8, [.ref hd, .ref hf, .ref hs, .ref hp, .ref he, .ref q0, .ref q1, .ref qk, .int lt, .long fx, .int dn])), (hd, .inr (0, [.int (nI w), .int (nI b), .int wr, .ref qc, .ref qi, .int wa, .int wc])), MA9 qc cI (w * b) fc, MA9 qi cI w gi, (q0, .inr (7, [.int a1, .int a2, .int a3, .long a4])), (q1, .inr (7, [.int b1, .int b2, .int b3, .long b4])), (qk, .inr (7, [.int c1, .int c2, .int c3, .long c4]))] sz) [(ax, .inr (8, [.ref hd, .ref hf, .ref hs, .ref hp, .ref he, .ref q0, .ref q1, .ref qk, .int lt2, .long fx2, .int dn2])), (hd, .inr (0, [.int (nI w), .int (nI b), .int wr2, .ref qc, .ref qi, .int wa2, .int wc2])), MA9 qc cI (w * b) fc2, MA9 qi cI w gi2, (q0, .inr (7, [.int a12, .int a22, .int a32, .long a42])), (q1, .inr (7, [.int b12, .int b22, .int b32, .long b42])), (qk, .inr (7, [.int c1, .int c2, .int c3, .long c4]))]) (va_A [(ax, .inr (8, [.ref hd, .ref hf, .ref hs, .ref hp, .ref he, .ref q0, .ref q1, .ref qk, .int lt, .long fx, .int dn])), (hd, .inr (0, [.int (nI w), .int (nI b), .int wr, .ref qc, .ref qi, .int wa, .int wc])), MA9 qc cI (w * b) fc, MA9 qi cI w gi, (q0, .inr (7, [.int a1, .int a2, .int a3, .long a4])), (q1, .inr (7, [.int b1, .int b2, .int b3, .long b4])), (qk, .inr (7, [.int c1, .int c2, .int c3, .long c4]))] sz)) 0 0 (va_A [(ax, .inr (8, [.ref hd, .ref hf, .ref hs, .ref hp, .ref he, .ref q0, .ref q1, .ref qk, .int lt, .long fx, .int dn])), (hd, .inr (0, [.int (nI w), .int (nI b), .int wr, .ref qc, .ref qi, .int wa, .int wc])), MA9 qc cI (w * b) fc, MA9 qi cI w gi, (q0, .inr (7, [.int a1, .int a2, .int a3, .long a4])), (q1, .inr (7, [.int b1, .int b2, .int b3, .long b4])), (qk, .inr (7, [.int c1, .int c2, .int c3, .long c4]))] sz) := by
  refine Met.ofW (cc := cX8_commit) (maxL := 2) (ret := (some .int)) (by decide) rfl ?_
  intro p e s m args below meth c s₁ B hml hv
  obtain ⟨rfl, hsz, hP, hK, hD0⟩ := hv
  have hx := B.exec
  have hb := B.bytes
  have hr := B.returns
  have hts := atoms_spec (ws := v_X8_commit) B.pre
  have hown : s.vm.findClass RX8 = some m.cls := findClass_of_methodNamed B.named
  have hlocks := B.notSynchronized
  subst hsz
  have hD := hD0.self (sz := s.heap.size)
  generalize hAe : va_A [(ax, .inr (8, [.ref hd, .ref hf, .ref hs, .ref hp, .ref he, .ref q0, .ref q1, .ref qk, .int lt, .long fx, .int dn])), (hd, .inr (0, [.int (nI w), .int (nI b), .int wr, .ref qc, .ref qi, .int wa, .int wc])), MA9 qc cI (w * b) fc, MA9 qi cI w gi, (q0, .inr (7, [.int a1, .int a2, .int a3, .long a4])), (q1, .inr (7, [.int b1, .int b2, .int b3, .long b4])), (qk, .inr (7, [.int c1, .int c2, .int c3, .long c4]))] s.heap.size = A at hD ⊢
  have hA : ∀ q : Nat, s.heap.size ≤ q → A q := fun q h => by rw [← hAe]; exact Or.inr h
  have hS : va_S A s.heap s.heap [] := va_S.rf
  have hP : va_P (dC, dI) vwCl [(ax, .inr (8, [.ref hd, .ref hf, .ref hs, .ref hp, .ref he, .ref q0, .ref q1, .ref qk, .int lt, .long fx, .int dn])), (hd, .inr (0, [.int (nI w), .int (nI b), .int wr, .ref qc, .ref qi, .int wa, .int wc])), MA9 qc cI (w * b) fc, MA9 qi cI w gi, (q0, .inr (7, [.int a1, .int a2, .int a3, .long a4])), (q1, .inr (7, [.int b1, .int b2, .int b3, .long b4])), (qk, .inr (7, [.int c1, .int c2, .int c3, .long c4]))] s.heap := hP
  have hl := lv_entry ([.ref ax]) (n := 2) (Nat.le_of_ble_eq_true rfl)
  rw [lg_entry_eq]
  generalize (lg_sl ([.ref ax]) ++ List.replicate (2 - (lg_sl ([.ref ax])).length) Slot.unset).toArray = ls at hl ⊢
  have hl : lv_has ls 2 [(0, .ref ax)] := hl
  have k_1 := (fun _ h => List.mem_cons_of_mem _ (List.mem_append_right _ (List.mem_append_left _ h)) : ∀ w ∈ wsX80, w ∈ v_X8_commit)
  have k_2 := hts (.fieldLink RX8 77 "TwinRoots" "down" "Z") (List.mem_of_getElem? (i := 1) rfl)
  have k_3 := hts (.fieldLink RX8 140 "TwinRoots" "latest" "I") (List.mem_of_getElem? (i := 2) rfl)
  have k_4 := (fun _ h => List.mem_cons_of_mem _ (List.mem_append_right _ (List.mem_append_right _ (List.mem_append_left _ h))) : ∀ w ∈ wsX70, w ∈ v_X8_commit)
  have k_5 := hts (.fieldLink RX8 170 "TwinRoots$Told" "epoch" "I") (List.mem_of_getElem? (i := 10) rfl)
  have k_6 := hts (.fieldLink RX8 74 "TwinRoots" "working" "LTwinRoots$Told;") (List.mem_of_getElem? (i := 11) rfl)
  have k_7 := hts (.fieldLink RX8 110 "TwinRoots$Told" "top" "I") (List.mem_of_getElem? (i := 12) rfl)
  have k_8 := hts (.fieldLink RX8 127 "TwinRoots$Told" "keys" "I") (List.mem_of_getElem? (i := 13) rfl)
  have k_9 := hts (.fieldLink RX8 103 "TwinRoots$Told" "reach" "J") (List.mem_of_getElem? (i := 14) rfl)
  have k_10 := hts (.fieldLink RX8 99 "TwinRoots" "fresh" "J") (List.mem_of_getElem? (i := 66) rfl)
  rcases zlt with rfl | rfl
  · replace hP : va_P (dC, dI) vwCl [(ax, .inr (8, [.ref hd, .ref hf, .ref hs, .ref hp, .ref he, .ref q0, .ref q1, .ref qk, .int 0, .long fx, .int dn])), (hd, .inr (0, [.int (nI w), .int (nI b), .int wr, .ref qc, .ref qi, .int wa, .int wc])), MA9 qc cI (w * b) fc, MA9 qi cI w gi, (q0, .inr (7, [.int a1, .int a2, .int a3, .long a4])), (q1, .inr (7, [.int b1, .int b2, .int b3, .long b4])), (qk, .inr (7, [.int c1, .int c2, .int c3, .long c4]))] s.heap := hP
    replace hD : va_D A [(ax, .inr (8, [.ref hd, .ref hf, .ref hs, .ref hp, .ref he, .ref q0, .ref q1, .ref qk, .int 0, .long fx, .int dn])), (hd, .inr (0, [.int (nI w), .int (nI b), .int wr, .ref qc, .ref qi, .int wa, .int wc])), MA9 qc cI (w * b) fc, MA9 qi cI w gi, (q0, .inr (7, [.int a1, .int a2, .int a3, .long a4])), (q1, .inr (7, [.int b1, .int b2, .int b3, .long b4])), (qk, .inr (7, [.int c1, .int c2, .int c3, .long c4]))] := hD
    refine lv_aload_n hx hb dX8_commit_0 rfl (lv_at hl 0 rfl) ?_
    refine va_get (D := (dC, dI)) (ci := 8) (v := .int dn) (C := RX8) (T := TX8) (N := 11) hx hb hts k_1 hown hK hP 0 rfl rfl 10 (by decide) k_2 (fun _ h9 => h9) rfl dX8_commit_1 ?_
    refine lv_if_eq (tgt := 9) hx hb dX8_commit_4 (by decide) (fun c_1 => ?_) (fun c_1 => ?_)
    · refine lv_iconst (v := 1) hx hb dX8_commit_9 (by decide) ?_
      refine lv_aload_n hx hb dX8_commit_10 rfl (lv_at hl 0 rfl) ?_
      refine va_get (D := (dC, dI)) (ci := 8) (v := .int 0) (C := RX8) (T := TX8) (N := 11) hx hb hts k_1 hown hK hP 0 rfl rfl 8 (by decide) k_3 (fun _ h9 => h9) rfl dX8_commit_11 ?_
      refine lv_isub hx hb dX8_commit_14 ?_
      refine lv_topi (fun z_2 ez_2 => ?_)
      obtain rfl : z_2 = 1 := ez_2.trans (by decide)
      refine lv_istore_n (lv' := [(1, .int 1), (0, .ref ax)]) hx hb dX8_commit_15 rfl hl (by decide) rfl (fun ls hl9 => ?_)
      replace hl := hl9
      clear hl9
      refine lv_aload_n hx hb dX8_commit_16 rfl (lv_at hl 1 rfl) ?_
      refine lv_iload_n hx hb dX8_commit_17 rfl (lv_at hl 0 rfl) ?_
      have hPc := hP.sub (ws' := [(ax, .inr (8, [.ref hd, .ref hf, .ref hs, .ref hp, .ref he, .ref q0, .ref q1, .ref qk, .int 0, .long fx, .int dn]))]) [0] rfl
      have hDc := hD.sub (ws' := [(ax, .inr (8, [.ref hd, .ref hf, .ref hs, .ref hp, .ref he, .ref q0, .ref q1, .ref qk, .int 0, .long fx, .int dn]))]) [0] (by decide) rfl
      have hKc := hK.sub (tys' := []) [] rfl
      have hFc := va_free (wc := [(ax, .inr (8, [.ref hd, .ref hf, .ref hs, .ref hp, .ref he, .ref q0, .ref q1, .ref qk, .int 0, .long fx, .int dn]))]) hD hS hA [0] rfl
      refine va_callr (va_runV (As := [.int 1]) (rest := []) ⟨hx, hb, hml, hown, hts⟩ (c_X8_told_1 l dC dI s.heap.size ax hd hf hs hp he q0 q1 qk 0 dn fx) (cwV 1 hts g_X8_commit_X8_told_1 rfl rfl rfl (by decide +kernel) ⟨Nat.le_of_ble_eq_true rfl, Nat.le_of_ble_eq_true rfl⟩) ⟨fun a U g mk q => by obtain ⟨q0, q1, qP, qK, qD⟩ := q; exact ⟨q0, q1, qP, va_K.moved (u := U) (U := U.calling g mk a) (Vm.Alike.refl U.vm) qK, qD⟩, va_recv hKc hPc (ci := 8) (q0 := 0) rfl rfl, fun U hU hW => ⟨rfl, by rw [hU], by rw [hU]; exact hPc, va_K.moved hW.alike hKc, hDc.weaken (fun _ _ _ _ => trivial)⟩⟩ rfl rfl hl.1 rfl (lv_room (Nat.le_of_ble_eq_true rfl)) dX8_commit_18 ⟨(show 0 + 0 ≤ 0 by omega), (show 0 + 0 ≤ 0 by omega)⟩) hS (fun q _ h => hFc q h) hFc (fun u r_3 t H1 locs ht hvm hw hB hz1 hk1 hS9 => ?_)
      replace hS := hS9
      clear hS9
      obtain ⟨hra, hP1, hK1, hD1⟩ := hB
      have hra := hra.symm
      subst hra
      rw [ht] at hP1
      replace hK1 := va_K.moved hvm.symm hK1
      try dsimp only at hw
      obtain ⟨hP9, hD9⟩ := va_join (wr := [(hd, .inr (0, [.int (nI w), .int (nI b), .int wr, .ref qc, .ref qi, .int wa, .int wc])), MA9 qc cI (w * b) fc, MA9 qi cI w gi, (q0, .inr (7, [.int a1, .int a2, .int a3, .long a4])), (q1, .inr (7, [.int b1, .int b2, .int b3, .long b4])), (qk, .inr (7, [.int c1, .int c2, .int c3, .long c4]))]) (w1 := [(ax, .inr (8, [.ref hd, .ref hf, .ref hs, .ref hp, .ref he, .ref q0, .ref q1, .ref qk, .int 0, .long fx, .int dn]))]) hP hD [0] [1, 2, 3, 4, 5, 6] rfl rfl (by decide) (by decide) hk1 hFc hP1 hD1
      replace hP := hP9
      replace hD := hD9
      clear hP9 hD9
      replace hK := (hK.sub (tys' := [(cI, .int)]) [0] rfl).app hK1
      clear hP1 hD1 hK1 hPc hDc hKc hFc hk1 hz1 hvm ht
      generalize H1 = H at hP hS ⊢
      replace hP : va_P (dC, dI) vwCl [(hd, .inr (0, [.int (nI w), .int (nI b), .int wr, .ref qc, .ref qi, .int wa, .int wc])), MA9 qc cI (w * b) fc, MA9 qi cI w gi, (q0, .inr (7, [.int a1, .int a2, .int a3, .long a4])), (q1, .inr (7, [.int b1, .int b2, .int b3, .long b4])), (qk, .inr (7, [.int c1, .int c2, .int c3, .long c4])), (ax, .inr (8, [.ref hd, .ref hf, .ref hs, .ref hp, .ref he, .ref q0, .ref q1, .ref qk, .int 0, .long fx, .int dn]))] H := hP
      replace hD : va_D A [(hd, .inr (0, [.int (nI w), .int (nI b), .int wr, .ref qc, .ref qi, .int wa, .int wc])), MA9 qc cI (w * b) fc, MA9 qi cI w gi, (q0, .inr (7, [.int a1, .int a2, .int a3, .long a4])), (q1, .inr (7, [.int b1, .int b2, .int b3, .long b4])), (qk, .inr (7, [.int c1, .int c2, .int c3, .long c4])), (ax, .inr (8, [.ref hd, .ref hf, .ref hs, .ref hp, .ref he, .ref q0, .ref q1, .ref qk, .int 0, .long fx, .int dn]))] := hD
      replace hK : va_K (dC, dI) vwCl [(cI, .int)] s := hK
      refine lv_aload_n hx hb dX8_commit_21 rfl (lv_at hl 1 rfl) ?_
      refine lv_aload_n hx hb dX8_commit_22 rfl (lv_at hl 1 rfl) ?_
      refine va_get (D := (dC, dI)) (ci := 8) (v := .int 0) (C := RX8) (T := TX8) (N := 11) hx hb hts k_1 hown hK hP 6 rfl rfl 8 (by decide) k_3 (fun _ h9 => h9) rfl dX8_commit_23 ?_
      have hPc := hP.sub (ws' := [(ax, .inr (8, [.ref hd, .ref hf, .ref hs, .ref hp, .ref he, .ref q0, .ref q1, .ref qk, .int 0, .long fx, .int dn]))]) [6] rfl
      have hDc := hD.sub (ws' := [(ax, .inr (8, [.ref hd, .ref hf, .ref hs, .ref hp, .ref he, .ref q0, .ref q1, .ref qk, .int 0, .long fx, .int dn]))]) [6] (by decide) rfl
      have hKc := hK.sub (tys' := []) [] rfl
      have hFc := va_free (wc := [(ax, .inr (8, [.ref hd, .ref hf, .ref hs, .ref hp, .ref he, .ref q0, .ref q1, .ref qk, .int 0, .long fx, .int dn]))]) hD hS hA [6] rfl
      refine va_callr (va_runV (As := [.int 0]) (rest := [.ref q1]) ⟨hx, hb, hml, hown, hts⟩ (c_X8_told_0 l dC dI H.size ax hd hf hs hp he q0 q1 qk 0 dn fx) (cwV 1 hts g_X8_commit_X8_told_0 rfl rfl rfl (by decide +kernel) ⟨Nat.le_of_ble_eq_true rfl, Nat.le_of_ble_eq_true rfl⟩) ⟨fun a U g mk q => by obtain ⟨q0, q1, qP, qK, qD⟩ := q; exact ⟨q0, q1, qP, va_K.moved (u := U) (U := U.calling g mk a) (Vm.Alike.refl U.vm) qK, qD⟩, va_recv hKc hPc (ci := 8) (q0 := 0) rfl rfl, fun U hU hW => ⟨rfl, by rw [hU], by rw [hU]; exact hPc, va_K.moved hW.alike hKc, hDc.weaken (fun _ _ _ _ => trivial)⟩⟩ rfl rfl hl.1 rfl (lv_room (Nat.le_of_ble_eq_true rfl)) dX8_commit_26 ⟨(show 0 + 0 ≤ 0 by omega), (show 0 + 0 ≤ 0 by omega)⟩) hS (fun q _ h => hFc q h) hFc (fun u r_4 t H1 locs ht hvm hw hB hz1 hk1 hS9 => ?_)
      replace hS := hS9
      clear hS9
      obtain ⟨hra, hP1, hK1, hD1⟩ := hB
      have hra := hra.symm
      subst hra
      rw [ht] at hP1
      replace hK1 := va_K.moved hvm.symm hK1
      try dsimp only at hw
      obtain ⟨hP9, hD9⟩ := va_join (wr := [(hd, .inr (0, [.int (nI w), .int (nI b), .int wr, .ref qc, .ref qi, .int wa, .int wc])), MA9 qc cI (w * b) fc, MA9 qi cI w gi, (q0, .inr (7, [.int a1, .int a2, .int a3, .long a4])), (q1, .inr (7, [.int b1, .int b2, .int b3, .long b4])), (qk, .inr (7, [.int c1, .int c2, .int c3, .long c4]))]) (w1 := [(ax, .inr (8, [.ref hd, .ref hf, .ref hs, .ref hp, .ref he, .ref q0, .ref q1, .ref qk, .int 0, .long fx, .int dn]))]) hP hD [6] [0, 1, 2, 3, 4, 5] rfl rfl (by decide) (by decide) hk1 hFc hP1 hD1
      replace hP := hP9
      replace hD := hD9
      clear hP9 hD9
      replace hK := (hK.sub (tys' := [(cI, .int)]) [0] rfl).app hK1
      clear hP1 hD1 hK1 hPc hDc hKc hFc hk1 hz1 hvm ht
      generalize H1 = H at hP hS ⊢
      replace hP : va_P (dC, dI) vwCl [(hd, .inr (0, [.int (nI w), .int (nI b), .int wr, .ref qc, .ref qi, .int wa, .int wc])), MA9 qc cI (w * b) fc, MA9 qi cI w gi, (q0, .inr (7, [.int a1, .int a2, .int a3, .long a4])), (q1, .inr (7, [.int b1, .int b2, .int b3, .long b4])), (qk, .inr (7, [.int c1, .int c2, .int c3, .long c4])), (ax, .inr (8, [.ref hd, .ref hf, .ref hs, .ref hp, .ref he, .ref q0, .ref q1, .ref qk, .int 0, .long fx, .int dn]))] H := hP
      replace hD : va_D A [(hd, .inr (0, [.int (nI w), .int (nI b), .int wr, .ref qc, .ref qi, .int wa, .int wc])), MA9 qc cI (w * b) fc, MA9 qi cI w gi, (q0, .inr (7, [.int a1, .int a2, .int a3, .long a4])), (q1, .inr (7, [.int b1, .int b2, .int b3, .long b4])), (qk, .inr (7, [.int c1, .int c2, .int c3, .long c4])), (ax, .inr (8, [.ref hd, .ref hf, .ref hs, .ref hp, .ref he, .ref q0, .ref q1, .ref qk, .int 0, .long fx, .int dn]))] := hD
      replace hK : va_K (dC, dI) vwCl [(cI, .int)] s := hK
      refine va_get (D := (dC, dI)) (ci := 7) (v := .int a1) (C := RX7) (T := TX7) (N := 4) hx hb hts k_4 hown hK hP 3 rfl rfl 0 (by decide) k_5 (fun _ h9 => h9) rfl dX8_commit_29 ?_
      refine lv_iconst (v := 1) hx hb dX8_commit_32 (by decide) ?_
      refine lv_iadd hx hb dX8_commit_33 ?_
      refine lv_topi (fun z_5 _ => ?_)
      refine lv_aload_n hx hb dX8_commit_34 rfl (lv_at hl 1 rfl) ?_
      refine va_get (D := (dC, dI)) (ci := 8) (v := .ref qk) (C := RX8) (T := TX8) (N := 11) hx hb hts k_1 hown hK hP 6 rfl rfl 7 (by decide) k_6 (fun _ h9 => h9) rfl dX8_commit_35 ?_
      refine va_get (D := (dC, dI)) (ci := 7) (v := .int c2) (C := RX7) (T := TX7) (N := 4) hx hb hts k_4 hown hK hP 5 rfl rfl 1 (by decide) k_7 (fun _ h9 => h9) rfl dX8_commit_38 ?_
      refine lv_aload_n hx hb dX8_commit_41 rfl (lv_at hl 1 rfl) ?_
      refine va_get (D := (dC, dI)) (ci := 8) (v := .ref qk) (C := RX8) (T := TX8) (N := 11) hx hb hts k_1 hown hK hP 6 rfl rfl 7 (by decide) k_6 (fun _ h9 => h9) rfl dX8_commit_42 ?_
      refine va_get (D := (dC, dI)) (ci := 7) (v := .int c3) (C := RX7) (T := TX7) (N := 4) hx hb hts k_4 hown hK hP 5 rfl rfl 2 (by decide) k_8 (fun _ h9 => h9) rfl dX8_commit_45 ?_
      refine lv_aload_n hx hb dX8_commit_48 rfl (lv_at hl 1 rfl) ?_
      refine va_get (D := (dC, dI)) (ci := 8) (v := .ref qk) (C := RX8) (T := TX8) (N := 11) hx hb hts k_1 hown hK hP 6 rfl rfl 7 (by decide) k_6 (fun _ h9 => h9) rfl dX8_commit_49 ?_
      refine va_get (D := (dC, dI)) (ci := 7) (v := .long c4) (C := RX7) (T := TX7) (N := 4) hx hb hts k_4 hown hK hP 5 rfl rfl 3 (by decide) k_9 (fun _ h9 => h9) rfl dX8_commit_52 ?_
      have hPc := hP.sub (ws' := [(q1, .inr (7, [.int b1, .int b2, .int b3, .long b4]))]) [4] rfl
      have hDc := hD.sub (ws' := [(q1, .inr (7, [.int b1, .int b2, .int b3, .long b4]))]) [4] (by decide) rfl
      have hKc := hK.sub (tys' := []) [] rfl
      have hFc := va_free (wc := [(q1, .inr (7, [.int b1, .int b2, .int b3, .long b4]))]) hD hS hA [4] rfl
      refine va_callv (va_runV (As := [.int z_5, .int c2, .int c3, .long c4]) (rest := []) ⟨hx, hb, hml, hown, hts⟩ (c_X7_tell l dC dI H.size q1 b1 b2 b3 b4 z_5 c2 c3 c4) (cwV 4 hts g_X8_commit_X7_tell rfl rfl rfl (by decide +kernel) ⟨Nat.le_of_ble_eq_true rfl, Nat.le_of_ble_eq_true rfl⟩) ⟨fun a U g mk q => by obtain ⟨q0, q1, qP, qK, qD⟩ := q; exact ⟨q0, q1, qP, va_K.moved (u := U) (U := U.calling g mk a) (Vm.Alike.refl U.vm) qK, qD⟩, va_recv hKc hPc (ci := 7) (q0 := 0) rfl rfl, fun U hU hW => ⟨rfl, by rw [hU], by rw [hU]; exact hPc, va_K.moved hW.alike hKc, hDc.weaken (fun _ _ _ _ => trivial)⟩⟩ rfl rfl hl.1 rfl (lv_room (Nat.le_of_ble_eq_true rfl)) dX8_commit_55 ⟨(show 0 + 0 ≤ 0 by omega), (show 0 + 0 ≤ 0 by omega)⟩) hS (fun q _ h => hFc q h) hFc (fun u t H1 locs ht hvm hw hB hz1 hk1 hS9 => ?_)
      replace hS := hS9
      clear hS9
      obtain ⟨hP1, hK1, hD1⟩ := hB
      rw [ht] at hP1
      replace hK1 := va_K.moved hvm.symm hK1
      try dsimp only at hw
      obtain ⟨hP9, hD9⟩ := va_join (wr := [(hd, .inr (0, [.int (nI w), .int (nI b), .int wr, .ref qc, .ref qi, .int wa, .int wc])), MA9 qc cI (w * b) fc, MA9 qi cI w gi, (q0, .inr (7, [.int a1, .int a2, .int a3, .long a4])), (qk, .inr (7, [.int c1, .int c2, .int c3, .long c4])), (ax, .inr (8, [.ref hd, .ref hf, .ref hs, .ref hp, .ref he, .ref q0, .ref q1, .ref qk, .int 0, .long fx, .int dn]))]) (w1 := [(q1, .inr (7, [.int z_5, .int c2, .int c3, .long c4]))]) hP hD [4] [0, 1, 2, 3, 5, 6] rfl rfl (by decide) (by decide) hk1 hFc hP1 hD1
      replace hP := hP9
      replace hD := hD9
      clear hP9 hD9
      replace hK := (hK.sub (tys' := [(cI, .int)]) [0] rfl).app hK1
      clear hP1 hD1 hK1 hPc hDc hKc hFc hk1 hz1 hvm ht
      generalize H1 = H at hP hS ⊢
      replace hP : va_P (dC, dI) vwCl [(hd, .inr (0, [.int (nI w), .int (nI b), .int wr, .ref qc, .ref qi, .int wa, .int wc])), MA9 qc cI (w * b) fc, MA9 qi cI w gi, (q0, .inr (7, [.int a1, .int a2, .int a3, .long a4])), (qk, .inr (7, [.int c1, .int c2, .int c3, .long c4])), (ax, .inr (8, [.ref hd, .ref hf, .ref hs, .ref hp, .ref he, .ref q0, .ref q1, .ref qk, .int 0, .long fx, .int dn])), (q1, .inr (7, [.int z_5, .int c2, .int c3, .long c4]))] H := hP
      replace hD : va_D A [(hd, .inr (0, [.int (nI w), .int (nI b), .int wr, .ref qc, .ref qi, .int wa, .int wc])), MA9 qc cI (w * b) fc, MA9 qi cI w gi, (q0, .inr (7, [.int a1, .int a2, .int a3, .long a4])), (qk, .inr (7, [.int c1, .int c2, .int c3, .long c4])), (ax, .inr (8, [.ref hd, .ref hf, .ref hs, .ref hp, .ref he, .ref q0, .ref q1, .ref qk, .int 0, .long fx, .int dn])), (q1, .inr (7, [.int z_5, .int c2, .int c3, .long c4]))] := hD
      replace hK : va_K (dC, dI) vwCl [(cI, .int)] s := hK
      refine lv_aload_n hx hb dX8_commit_58 rfl (lv_at hl 1 rfl) ?_
      refine lv_iload_n hx hb dX8_commit_59 rfl (lv_at hl 0 rfl) ?_
      have hPc := hP.sub (ws' := [(ax, .inr (8, [.ref hd, .ref hf, .ref hs, .ref hp, .ref he, .ref q0, .ref q1, .ref qk, .int 0, .long fx, .int dn])), (hd, .inr (0, [.int (nI w), .int (nI b), .int wr, .ref qc, .ref qi, .int wa, .int wc])), MA9 qc cI (w * b) fc, MA9 qi cI w gi, (q1, .inr (7, [.int z_5, .int c2, .int c3, .long c4]))]) [5, 0, 1, 2, 6] rfl
      have hDc := hD.sub (ws' := [(ax, .inr (8, [.ref hd, .ref hf, .ref hs, .ref hp, .ref he, .ref q0, .ref q1, .ref qk, .int 0, .long fx, .int dn])), (hd, .inr (0, [.int (nI w), .int (nI b), .int wr, .ref qc, .ref qi, .int wa, .int wc])), MA9 qc cI (w * b) fc, MA9 qi cI w gi, (q1, .inr (7, [.int z_5, .int c2, .int c3, .long c4]))]) [5, 0, 1, 2, 6] (by decide) rfl
      have hKc := hK.sub (tys' := [(cI, .int)]) [0] rfl
      have hFc := va_free (wc := [(ax, .inr (8, [.ref hd, .ref hf, .ref hs, .ref hp, .ref he, .ref q0, .ref q1, .ref qk, .int 0, .long fx, .int dn])), (hd, .inr (0, [.int (nI w), .int (nI b), .int wr, .ref qc, .ref qi, .int wa, .int wc])), MA9 qc cI (w * b) fc, MA9 qi cI w gi, (q1, .inr (7, [.int z_5, .int c2, .int c3, .long c4]))]) hD hS hA [5, 0, 1, 2, 6] rfl
      refine va_calli (va_runV (As := [.int 1]) (rest := []) ⟨hx, hb, hml, hown, hts⟩ (c_X8_writeRoot_1 l dC dI H.size ax hd hf hs hp he q0 q1 qk qc qi w b 0 dn wr wa wc z_5 c2 c3 fx c4 fc gi cI (by first | assumption | omega | decide) (by first | assumption | omega | decide) (by first | assumption | omega | decide) (by first | assumption | omega | decide) (by first | assumption | omega | decide)) (cwV 1 hts g_X8_commit_X8_writeRoot_1 rfl rfl rfl (by decide +kernel) ⟨Nat.le_of_ble_eq_true rfl, Nat.le_of_ble_eq_true rfl⟩) ⟨fun a U g mk q => by obtain ⟨q0, q1, qP, qK, qD⟩ := q; exact ⟨q0, q1, qP, va_K.moved (u := U) (U := U.calling g mk a) (Vm.Alike.refl U.vm) qK, qD⟩, va_recv hKc hPc (ci := 8) (q0 := 0) rfl rfl, fun U hU hW => ⟨rfl, by rw [hU], by rw [hU]; exact hPc, va_K.moved hW.alike hKc, hDc.weaken (fun _ _ _ _ => trivial)⟩⟩ rfl rfl hl.1 rfl (lv_room (Nat.le_of_ble_eq_true rfl)) dX8_commit_60 ⟨(show 0 + 0 ≤ 0 by omega), (show 0 + 0 ≤ 0 by omega)⟩) hS (fun q _ h => hFc q h) hFc (fun r_7 u t H1 locs ht hvm hw hB hz1 hk1 hS9 => ?_)
      replace hS := hS9
      clear hS9
      obtain ⟨wr2_8, wa2_9, wc2_10, fc2_11, gi2_12⟩ := u
      obtain ⟨hP1, hK1, hD1⟩ := hB
      rw [ht] at hP1
      replace hK1 := va_K.moved hvm.symm hK1
      try dsimp only at hw
      obtain ⟨hP9, hD9⟩ := va_join (wr := [(q0, .inr (7, [.int a1, .int a2, .int a3, .long a4])), (qk, .inr (7, [.int c1, .int c2, .int c3, .long c4]))]) (w1 := [(ax, .inr (8, [.ref hd, .ref hf, .ref hs, .ref hp, .ref he, .ref q0, .ref q1, .ref qk, .int 0, .long fx, .int dn])), (hd, .inr (0, [.int (nI w), .int (nI b), .int wr2_8, .ref qc, .ref qi, .int wa2_9, .int wc2_10])), MA9 qc cI (w * b) fc2_11, MA9 qi cI w gi2_12, (q1, .inr (7, [.int z_5, .int c2, .int c3, .long c4]))]) hP hD [5, 0, 1, 2, 6] [3, 4] rfl rfl (by decide) (by decide) hk1 hFc hP1 hD1
      replace hP := hP9
      replace hD := hD9
      clear hP9 hD9
      replace hK := (hK.sub (tys' := []) [] rfl).app hK1
      clear hP1 hD1 hK1 hPc hDc hKc hFc hk1 hz1 hvm ht
      generalize H1 = H at hP hS ⊢
      replace hP : va_P (dC, dI) vwCl [(q0, .inr (7, [.int a1, .int a2, .int a3, .long a4])), (qk, .inr (7, [.int c1, .int c2, .int c3, .long c4])), (ax, .inr (8, [.ref hd, .ref hf, .ref hs, .ref hp, .ref he, .ref q0, .ref q1, .ref qk, .int 0, .long fx, .int dn])), (hd, .inr (0, [.int (nI w), .int (nI b), .int wr2_8, .ref qc, .ref qi, .int wa2_9, .int wc2_10])), MA9 qc cI (w * b) fc2_11, MA9 qi cI w gi2_12, (q1, .inr (7, [.int z_5, .int c2, .int c3, .long c4]))] H := hP
      replace hD : va_D A [(q0, .inr (7, [.int a1, .int a2, .int a3, .long a4])), (qk, .inr (7, [.int c1, .int c2, .int c3, .long c4])), (ax, .inr (8, [.ref hd, .ref hf, .ref hs, .ref hp, .ref he, .ref q0, .ref q1, .ref qk, .int 0, .long fx, .int dn])), (hd, .inr (0, [.int (nI w), .int (nI b), .int wr2_8, .ref qc, .ref qi, .int wa2_9, .int wc2_10])), MA9 qc cI (w * b) fc2_11, MA9 qi cI w gi2_12, (q1, .inr (7, [.int z_5, .int c2, .int c3, .long c4]))] := hD
      replace hK : va_K (dC, dI) vwCl [(cI, .int)] s := hK
      have hw_r_7 := hw
      refine lv_if_ne (tgt := 71) hx hb dX8_commit_63 (by decide) (fun c_13 => ?_) (fun c_13 => ?_)
      · refine lv_aload_n hx hb dX8_commit_71 rfl (lv_at hl 1 rfl) ?_
        refine lv_iload_n hx hb dX8_commit_72 rfl (lv_at hl 0 rfl) ?_
        refine va_put (D := (dC, dI)) (ci := 8) (v := .int 1) (ty := .int) (C := RX8) (T := TX8) (N := 11) hx hb hts k_1 tyX8 tyX8_ok nmX8 hown hK hP hD hS 2 rfl rfl 8 (by decide) k_3 (fun _ h9 => h9) rfl (by decide +kernel) rfl rfl (Nat.le_of_ble_eq_true rfl) dX8_commit_73 (fun H locs hP9 hD9 hS9 => ?_)
        replace hP := hP9
        replace hD := hD9
        replace hS := hS9
        clear hP9 hD9 hS9
        replace hP : va_P (dC, dI) vwCl [(q0, .inr (7, [.int a1, .int a2, .int a3, .long a4])), (qk, .inr (7, [.int c1, .int c2, .int c3, .long c4])), (ax, .inr (8, [.ref hd, .ref hf, .ref hs, .ref hp, .ref he, .ref q0, .ref q1, .ref qk, .int 1, .long fx, .int dn])), (hd, .inr (0, [.int (nI w), .int (nI b), .int wr2_8, .ref qc, .ref qi, .int wa2_9, .int wc2_10])), MA9 qc cI (w * b) fc2_11, MA9 qi cI w gi2_12, (q1, .inr (7, [.int z_5, .int c2, .int c3, .long c4]))] H := hP
        replace hD : va_D A [(q0, .inr (7, [.int a1, .int a2, .int a3, .long a4])), (qk, .inr (7, [.int c1, .int c2, .int c3, .long c4])), (ax, .inr (8, [.ref hd, .ref hf, .ref hs, .ref hp, .ref he, .ref q0, .ref q1, .ref qk, .int 1, .long fx, .int dn])), (hd, .inr (0, [.int (nI w), .int (nI b), .int wr2_8, .ref qc, .ref qi, .int wa2_9, .int wc2_10])), MA9 qc cI (w * b) fc2_11, MA9 qi cI w gi2_12, (q1, .inr (7, [.int z_5, .int c2, .int c3, .long c4]))] := hD
        refine lv_aload_n hx hb dX8_commit_76 rfl (lv_at hl 1 rfl) ?_
        refine lv_lconst (v := 0) hx hb dX8_commit_77 (by decide) ?_
        refine va_put (D := (dC, dI)) (ci := 8) (v := .long 0) (ty := .long) (C := RX8) (T := TX8) (N := 11) hx hb hts k_1 tyX8 tyX8_ok nmX8 hown hK hP hD hS 2 rfl rfl 9 (by decide) k_10 (fun _ h9 => h9) rfl (by decide +kernel) rfl rfl (Nat.le_of_ble_eq_true rfl) dX8_commit_78 (fun H locs hP9 hD9 hS9 => ?_)
        replace hP := hP9
        replace hD := hD9
        replace hS := hS9
        clear hP9 hD9 hS9
        replace hP : va_P (dC, dI) vwCl [(q0, .inr (7, [.int a1, .int a2, .int a3, .long a4])), (qk, .inr (7, [.int c1, .int c2, .int c3, .long c4])), (ax, .inr (8, [.ref hd, .ref hf, .ref hs, .ref hp, .ref he, .ref q0, .ref q1, .ref qk, .int 1, .long 0, .int dn])), (hd, .inr (0, [.int (nI w), .int (nI b), .int wr2_8, .ref qc, .ref qi, .int wa2_9, .int wc2_10])), MA9 qc cI (w * b) fc2_11, MA9 qi cI w gi2_12, (q1, .inr (7, [.int z_5, .int c2, .int c3, .long c4]))] H := hP
        replace hD : va_D A [(q0, .inr (7, [.int a1, .int a2, .int a3, .long a4])), (qk, .inr (7, [.int c1, .int c2, .int c3, .long c4])), (ax, .inr (8, [.ref hd, .ref hf, .ref hs, .ref hp, .ref he, .ref q0, .ref q1, .ref qk, .int 1, .long 0, .int dn])), (hd, .inr (0, [.int (nI w), .int (nI b), .int wr2_8, .ref qc, .ref qi, .int wa2_9, .int wc2_10])), MA9 qc cI (w * b) fc2_11, MA9 qi cI w gi2_12, (q1, .inr (7, [.int z_5, .int c2, .int c3, .long c4]))] := hD
        refine lv_iconst (v := 0) hx hb dX8_commit_81 (by decide) ?_
        have hP9 := hP.sub (ws' := [(ax, .inr (8, [.ref hd, .ref hf, .ref hs, .ref hp, .ref he, .ref q0, .ref q1, .ref qk, .int 1, .long 0, .int dn])), (hd, .inr (0, [.int (nI w), .int (nI b), .int wr2_8, .ref qc, .ref qi, .int wa2_9, .int wc2_10])), MA9 qc cI (w * b) fc2_11, MA9 qi cI w gi2_12, (q0, .inr (7, [.int a1, .int a2, .int a3, .long a4])), (q1, .inr (7, [.int z_5, .int c2, .int c3, .long c4])), (qk, .inr (7, [.int c1, .int c2, .int c3, .long c4]))]) [2, 3, 4, 5, 0, 6, 1] rfl
        have hD9 := hD.sub (ws' := [(ax, .inr (8, [.ref hd, .ref hf, .ref hs, .ref hp, .ref he, .ref q0, .ref q1, .ref qk, .int 1, .long 0, .int dn])), (hd, .inr (0, [.int (nI w), .int (nI b), .int wr2_8, .ref qc, .ref qi, .int wa2_9, .int wc2_10])), MA9 qc cI (w * b) fc2_11, MA9 qi cI w gi2_12, (q0, .inr (7, [.int a1, .int a2, .int a3, .long a4])), (q1, .inr (7, [.int z_5, .int c2, .int c3, .long c4])), (qk, .inr (7, [.int c1, .int c2, .int c3, .long c4]))]) [2, 3, 4, 5, 0, 6, 1] (by decide) rfl
        have hK9 := hK.sub (tys' := [(cI, .int)]) [0] rfl
        exact W.iret (v := 0) hx hb hr (fun t ht hW => ⟨⟨0, (1, 0, dn, wr2_8, wa2_9, wc2_10, fc2_11, gi2_12, a1, a2, a3, a4, z_5, c2, c3, c4), rfl, (by first | assumption | exact hw.2 | exact hw.2.1 | exact hw | exact Or.inl rfl | exact Or.inr rfl), by rw [ht]; exact hP9, va_K.moved hW.alike hK9, hD9⟩, hS.F ht⟩) hS.2.2 dX8_commit_82
      · refine lv_aload_n hx hb dX8_commit_66 rfl (lv_at hl 1 rfl) ?_
        have hPc := hP.sub (ws' := [(ax, .inr (8, [.ref hd, .ref hf, .ref hs, .ref hp, .ref he, .ref q0, .ref q1, .ref qk, .int 0, .long fx, .int dn]))]) [2] rfl
        have hDc := hD.sub (ws' := [(ax, .inr (8, [.ref hd, .ref hf, .ref hs, .ref hp, .ref he, .ref q0, .ref q1, .ref qk, .int 0, .long fx, .int dn]))]) [2] (by decide) rfl
        have hKc := hK.sub (tys' := []) [] rfl
        have hFc := va_free (wc := [(ax, .inr (8, [.ref hd, .ref hf, .ref hs, .ref hp, .ref he, .ref q0, .ref q1, .ref qk, .int 0, .long fx, .int dn]))]) hD hS hA [2] rfl
        refine va_calli (va_runV (As := []) (rest := []) ⟨hx, hb, hml, hown, hts⟩ (c_X8_goDown l dC dI H.size ax hd hf hs hp he q0 q1 qk 0 dn fx (by first | assumption | omega | decide)) (cwV 0 hts g_X8_commit_X8_goDown rfl rfl rfl (by decide +kernel) ⟨Nat.le_of_ble_eq_true rfl, Nat.le_of_ble_eq_true rfl⟩) ⟨fun a U g mk q => by obtain ⟨q0, q1, qP, qK, qD⟩ := q; exact ⟨q0, q1, qP, va_K.moved (u := U) (U := U.calling g mk a) (Vm.Alike.refl U.vm) qK, qD⟩, va_recv hKc hPc (ci := 8) (q0 := 0) rfl rfl, fun U hU hW => ⟨rfl, by rw [hU], by rw [hU]; exact hPc, va_K.moved hW.alike hKc, hDc.weaken (fun _ _ _ _ => trivial)⟩⟩ rfl rfl hl.1 rfl (lv_room (Nat.le_of_ble_eq_true rfl)) dX8_commit_67 ⟨(show 0 + 0 ≤ 0 by omega), (show 0 + 0 ≤ 0 by omega)⟩) hS (fun q _ h => hFc q h) hFc (fun r_14 u t H1 locs ht hvm hw hB hz1 hk1 hS9 => ?_)
        replace hS := hS9
        clear hS9
        obtain ⟨lt2_15, fx2_16, dn2_17⟩ := u
        obtain ⟨hP1, hK1, hD1⟩ := hB
        rw [ht] at hP1
        replace hK1 := va_K.moved hvm.symm hK1
        try dsimp only at hw
        obtain ⟨hP9, hD9⟩ := va_join (wr := [(q0, .inr (7, [.int a1, .int a2, .int a3, .long a4])), (qk, .inr (7, [.int c1, .int c2, .int c3, .long c4])), (hd, .inr (0, [.int (nI w), .int (nI b), .int wr2_8, .ref qc, .ref qi, .int wa2_9, .int wc2_10])), MA9 qc cI (w * b) fc2_11, MA9 qi cI w gi2_12, (q1, .inr (7, [.int z_5, .int c2, .int c3, .long c4]))]) (w1 := [(ax, .inr (8, [.ref hd, .ref hf, .ref hs, .ref hp, .ref he, .ref q0, .ref q1, .ref qk, .int lt2_15, .long fx2_16, .int dn2_17]))]) hP hD [2] [0, 1, 3, 4, 5, 6] rfl rfl (by decide) (by decide) hk1 hFc hP1 hD1
        replace hP := hP9
        replace hD := hD9
        clear hP9 hD9
        replace hK := (hK.sub (tys' := [(cI, .int)]) [0] rfl).app hK1
        clear hP1 hD1 hK1 hPc hDc hKc hFc hk1 hz1 hvm ht
        generalize H1 = H at hP hS ⊢
        replace hP : va_P (dC, dI) vwCl [(q0, .inr (7, [.int a1, .int a2, .int a3, .long a4])), (qk, .inr (7, [.int c1, .int c2, .int c3, .long c4])), (hd, .inr (0, [.int (nI w), .int (nI b), .int wr2_8, .ref qc, .ref qi, .int wa2_9, .int wc2_10])), MA9 qc cI (w * b) fc2_11, MA9 qi cI w gi2_12, (q1, .inr (7, [.int z_5, .int c2, .int c3, .long c4])), (ax, .inr (8, [.ref hd, .ref hf, .ref hs, .ref hp, .ref he, .ref q0, .ref q1, .ref qk, .int lt2_15, .long fx2_16, .int dn2_17]))] H := hP
        replace hD : va_D A [(q0, .inr (7, [.int a1, .int a2, .int a3, .long a4])), (qk, .inr (7, [.int c1, .int c2, .int c3, .long c4])), (hd, .inr (0, [.int (nI w), .int (nI b), .int wr2_8, .ref qc, .ref qi, .int wa2_9, .int wc2_10])), MA9 qc cI (w * b) fc2_11, MA9 qi cI w gi2_12, (q1, .inr (7, [.int z_5, .int c2, .int c3, .long c4])), (ax, .inr (8, [.ref hd, .ref hf, .ref hs, .ref hp, .ref he, .ref q0, .ref q1, .ref qk, .int lt2_15, .long fx2_16, .int dn2_17]))] := hD
        replace hK : va_K (dC, dI) vwCl [(cI, .int)] s := hK
        have hw_r_14 := hw
        have hP9 := hP.sub (ws' := [(ax, .inr (8, [.ref hd, .ref hf, .ref hs, .ref hp, .ref he, .ref q0, .ref q1, .ref qk, .int lt2_15, .long fx2_16, .int dn2_17])), (hd, .inr (0, [.int (nI w), .int (nI b), .int wr2_8, .ref qc, .ref qi, .int wa2_9, .int wc2_10])), MA9 qc cI (w * b) fc2_11, MA9 qi cI w gi2_12, (q0, .inr (7, [.int a1, .int a2, .int a3, .long a4])), (q1, .inr (7, [.int z_5, .int c2, .int c3, .long c4])), (qk, .inr (7, [.int c1, .int c2, .int c3, .long c4]))]) [6, 2, 3, 4, 0, 5, 1] rfl
        have hD9 := hD.sub (ws' := [(ax, .inr (8, [.ref hd, .ref hf, .ref hs, .ref hp, .ref he, .ref q0, .ref q1, .ref qk, .int lt2_15, .long fx2_16, .int dn2_17])), (hd, .inr (0, [.int (nI w), .int (nI b), .int wr2_8, .ref qc, .ref qi, .int wa2_9, .int wc2_10])), MA9 qc cI (w * b) fc2_11, MA9 qi cI w gi2_12, (q0, .inr (7, [.int a1, .int a2, .int a3, .long a4])), (q1, .inr (7, [.int z_5, .int c2, .int c3, .long c4])), (qk, .inr (7, [.int c1, .int c2, .int c3, .long c4]))]) [6, 2, 3, 4, 0, 5, 1] (by decide) rfl
        have hK9 := hK.sub (tys' := [(cI, .int)]) [0] rfl
        exact W.iret (v := r_14) hx hb hr (fun t ht hW => ⟨⟨r_14, (lt2_15, fx2_16, dn2_17, wr2_8, wa2_9, wc2_10, fc2_11, gi2_12, a1, a2, a3, a4, z_5, c2, c3, c4), rfl, (by first | assumption | exact hw.2 | exact hw.2.1 | exact hw | exact Or.inl rfl | exact Or.inr rfl), by rw [ht]; exact hP9, va_K.moved hW.alike hK9, hD9⟩, hS.F ht⟩) hS.2.2 dX8_commit_70
    · refine lv_iconst (v := 3) hx hb dX8_commit_7 (by decide) ?_
      have hP9 := hP.sub (ws' := [(ax, .inr (8, [.ref hd, .ref hf, .ref hs, .ref hp, .ref he, .ref q0, .ref q1, .ref qk, .int 0, .long fx, .int dn])), (hd, .inr (0, [.int (nI w), .int (nI b), .int wr, .ref qc, .ref qi, .int wa, .int wc])), MA9 qc cI (w * b) fc, MA9 qi cI w gi, (q0, .inr (7, [.int a1, .int a2, .int a3, .long a4])), (q1, .inr (7, [.int b1, .int b2, .int b3, .long b4])), (qk, .inr (7, [.int c1, .int c2, .int c3, .long c4]))]) [0, 1, 2, 3, 4, 5, 6] rfl
      have hD9 := hD.sub (ws' := [(ax, .inr (8, [.ref hd, .ref hf, .ref hs, .ref hp, .ref he, .ref q0, .ref q1, .ref qk, .int 0, .long fx, .int dn])), (hd, .inr (0, [.int (nI w), .int (nI b), .int wr, .ref qc, .ref qi, .int wa, .int wc])), MA9 qc cI (w * b) fc, MA9 qi cI w gi, (q0, .inr (7, [.int a1, .int a2, .int a3, .long a4])), (q1, .inr (7, [.int b1, .int b2, .int b3, .long b4])), (qk, .inr (7, [.int c1, .int c2, .int c3, .long c4]))]) [0, 1, 2, 3, 4, 5, 6] (by decide) rfl
      have hK9 := hK.sub (tys' := [(cI, .int)]) [0] rfl
      exact W.iret (v := 3) hx hb hr (fun t ht hW => ⟨⟨3, (0, fx, dn, wr, wa, wc, fc, gi, a1, a2, a3, a4, b1, b2, b3, b4), rfl, (by first | assumption | exact hw.2 | exact hw.2.1 | exact hw | exact Or.inl rfl | exact Or.inr rfl), by rw [ht]; exact hP9, va_K.moved hW.alike hK9, hD9⟩, hS.F ht⟩) hS.2.2 dX8_commit_8
  · replace hP : va_P (dC, dI) vwCl [(ax, .inr (8, [.ref hd, .ref hf, .ref hs, .ref hp, .ref he, .ref q0, .ref q1, .ref qk, .int 1, .long fx, .int dn])), (hd, .inr (0, [.int (nI w), .int (nI b), .int wr, .ref qc, .ref qi, .int wa, .int wc])), MA9 qc cI (w * b) fc, MA9 qi cI w gi, (q0, .inr (7, [.int a1, .int a2, .int a3, .long a4])), (q1, .inr (7, [.int b1, .int b2, .int b3, .long b4])), (qk, .inr (7, [.int c1, .int c2, .int c3, .long c4]))] s.heap := hP
    replace hD : va_D A [(ax, .inr (8, [.ref hd, .ref hf, .ref hs, .ref hp, .ref he, .ref q0, .ref q1, .ref qk, .int 1, .long fx, .int dn])), (hd, .inr (0, [.int (nI w), .int (nI b), .int wr, .ref qc, .ref qi, .int wa, .int wc])), MA9 qc cI (w * b) fc, MA9 qi cI w gi, (q0, .inr (7, [.int a1, .int a2, .int a3, .long a4])), (q1, .inr (7, [.int b1, .int b2, .int b3, .long b4])), (qk, .inr (7, [.int c1, .int c2, .int c3, .long c4]))] := hD
    refine lv_aload_n hx hb dX8_commit_0 rfl (lv_at hl 0 rfl) ?_
    refine va_get (D := (dC, dI)) (ci := 8) (v := .int dn) (C := RX8) (T := TX8) (N := 11) hx hb hts k_1 hown hK hP 0 rfl rfl 10 (by decide) k_2 (fun _ h9 => h9) rfl dX8_commit_1 ?_
    refine lv_if_eq (tgt := 9) hx hb dX8_commit_4 (by decide) (fun c_18 => ?_) (fun c_18 => ?_)
    · refine lv_iconst (v := 1) hx hb dX8_commit_9 (by decide) ?_
      refine lv_aload_n hx hb dX8_commit_10 rfl (lv_at hl 0 rfl) ?_
      refine va_get (D := (dC, dI)) (ci := 8) (v := .int 1) (C := RX8) (T := TX8) (N := 11) hx hb hts k_1 hown hK hP 0 rfl rfl 8 (by decide) k_3 (fun _ h9 => h9) rfl dX8_commit_11 ?_
      refine lv_isub hx hb dX8_commit_14 ?_
      refine lv_topi (fun z_19 ez_19 => ?_)
      obtain rfl : z_19 = 0 := ez_19.trans (by decide)
      refine lv_istore_n (lv' := [(1, .int 0), (0, .ref ax)]) hx hb dX8_commit_15 rfl hl (by decide) rfl (fun ls hl9 => ?_)
      replace hl := hl9
      clear hl9
      refine lv_aload_n hx hb dX8_commit_16 rfl (lv_at hl 1 rfl) ?_
      refine lv_iload_n hx hb dX8_commit_17 rfl (lv_at hl 0 rfl) ?_
      have hPc := hP.sub (ws' := [(ax, .inr (8, [.ref hd, .ref hf, .ref hs, .ref hp, .ref he, .ref q0, .ref q1, .ref qk, .int 1, .long fx, .int dn]))]) [0] rfl
      have hDc := hD.sub (ws' := [(ax, .inr (8, [.ref hd, .ref hf, .ref hs, .ref hp, .ref he, .ref q0, .ref q1, .ref qk, .int 1, .long fx, .int dn]))]) [0] (by decide) rfl
      have hKc := hK.sub (tys' := []) [] rfl
      have hFc := va_free (wc := [(ax, .inr (8, [.ref hd, .ref hf, .ref hs, .ref hp, .ref he, .ref q0, .ref q1, .ref qk, .int 1, .long fx, .int dn]))]) hD hS hA [0] rfl
      refine va_callr (va_runV (As := [.int 0]) (rest := []) ⟨hx, hb, hml, hown, hts⟩ (c_X8_told_0 l dC dI s.heap.size ax hd hf hs hp he q0 q1 qk 1 dn fx) (cwV 1 hts g_X8_commit_X8_told_0 rfl rfl rfl (by decide +kernel) ⟨Nat.le_of_ble_eq_true rfl, Nat.le_of_ble_eq_true rfl⟩) ⟨fun a U g mk q => by obtain ⟨q0, q1, qP, qK, qD⟩ := q; exact ⟨q0, q1, qP, va_K.moved (u := U) (U := U.calling g mk a) (Vm.Alike.refl U.vm) qK, qD⟩, va_recv hKc hPc (ci := 8) (q0 := 0) rfl rfl, fun U hU hW => ⟨rfl, by rw [hU], by rw [hU]; exact hPc, va_K.moved hW.alike hKc, hDc.weaken (fun _ _ _ _ => trivial)⟩⟩ rfl rfl hl.1 rfl (lv_room (Nat.le_of_ble_eq_true rfl)) dX8_commit_18 ⟨(show 0 + 0 ≤ 0 by omega), (show 0 + 0 ≤ 0 by omega)⟩) hS (fun q _ h => hFc q h) hFc (fun u r_20 t H1 locs ht hvm hw hB hz1 hk1 hS9 => ?_)
      replace hS := hS9
      clear hS9
      obtain ⟨hra, hP1, hK1, hD1⟩ := hB
      have hra := hra.symm
      subst hra
      rw [ht] at hP1
      replace hK1 := va_K.moved hvm.symm hK1
      try dsimp only at hw
      obtain ⟨hP9, hD9⟩ := va_join (wr := [(hd, .inr (0, [.int (nI w), .int (nI b), .int wr, .ref qc, .ref qi, .int wa, .int wc])), MA9 qc cI (w * b) fc, MA9 qi cI w gi, (q0, .inr (7, [.int a1, .int a2, .int a3, .long a4])), (q1, .inr (7, [.int b1, .int b2, .int b3, .long b4])), (qk, .inr (7, [.int c1, .int c2, .int c3, .long c4]))]) (w1 := [(ax, .inr (8, [.ref hd, .ref hf, .ref hs, .ref hp, .ref he, .ref q0, .ref q1, .ref qk, .int 1, .long fx, .int dn]))]) hP hD [0] [1, 2, 3, 4, 5, 6] rfl rfl (by decide) (by decide) hk1 hFc hP1 hD1
      replace hP := hP9
      replace hD := hD9
      clear hP9 hD9
      replace hK := (hK.sub (tys' := [(cI, .int)]) [0] rfl).app hK1
      clear hP1 hD1 hK1 hPc hDc hKc hFc hk1 hz1 hvm ht
      generalize H1 = H at hP hS ⊢
      replace hP : va_P (dC, dI) vwCl [(hd, .inr (0, [.int (nI w), .int (nI b), .int wr, .ref qc, .ref qi, .int wa, .int wc])), MA9 qc cI (w * b) fc, MA9 qi cI w gi, (q0, .inr (7, [.int a1, .int a2, .int a3, .long a4])), (q1, .inr (7, [.int b1, .int b2, .int b3, .long b4])), (qk, .inr (7, [.int c1, .int c2, .int c3, .long c4])), (ax, .inr (8, [.ref hd, .ref hf, .ref hs, .ref hp, .ref he, .ref q0, .ref q1, .ref qk, .int 1, .long fx, .int dn]))] H := hP
      replace hD : va_D A [(hd, .inr (0, [.int (nI w), .int (nI b), .int wr, .ref qc, .ref qi, .int wa, .int wc])), MA9 qc cI (w * b) fc, MA9 qi cI w gi, (q0, .inr (7, [.int a1, .int a2, .int a3, .long a4])), (q1, .inr (7, [.int b1, .int b2, .int b3, .long b4])), (qk, .inr (7, [.int c1, .int c2, .int c3, .long c4])), (ax, .inr (8, [.ref hd, .ref hf, .ref hs, .ref hp, .ref he, .ref q0, .ref q1, .ref qk, .int 1, .long fx, .int dn]))] := hD
      replace hK : va_K (dC, dI) vwCl [(cI, .int)] s := hK
      refine lv_aload_n hx hb dX8_commit_21 rfl (lv_at hl 1 rfl) ?_
      refine lv_aload_n hx hb dX8_commit_22 rfl (lv_at hl 1 rfl) ?_
      refine va_get (D := (dC, dI)) (ci := 8) (v := .int 1) (C := RX8) (T := TX8) (N := 11) hx hb hts k_1 hown hK hP 6 rfl rfl 8 (by decide) k_3 (fun _ h9 => h9) rfl dX8_commit_23 ?_
      have hPc := hP.sub (ws' := [(ax, .inr (8, [.ref hd, .ref hf, .ref hs, .ref hp, .ref he, .ref q0, .ref q1, .ref qk, .int 1, .long fx, .int dn]))]) [6] rfl
      have hDc := hD.sub (ws' := [(ax, .inr (8, [.ref hd, .ref hf, .ref hs, .ref hp, .ref he, .ref q0, .ref q1, .ref qk, .int 1, .long fx, .int dn]))]) [6] (by decide) rfl
      have hKc := hK.sub (tys' := []) [] rfl
      have hFc := va_free (wc := [(ax, .inr (8, [.ref hd, .ref hf, .ref hs, .ref hp, .ref he, .ref q0, .ref q1, .ref qk, .int 1, .long fx, .int dn]))]) hD hS hA [6] rfl
      refine va_callr (va_runV (As := [.int 1]) (rest := [.ref q0]) ⟨hx, hb, hml, hown, hts⟩ (c_X8_told_1 l dC dI H.size ax hd hf hs hp he q0 q1 qk 1 dn fx) (cwV 1 hts g_X8_commit_X8_told_1 rfl rfl rfl (by decide +kernel) ⟨Nat.le_of_ble_eq_true rfl, Nat.le_of_ble_eq_true rfl⟩) ⟨fun a U g mk q => by obtain ⟨q0, q1, qP, qK, qD⟩ := q; exact ⟨q0, q1, qP, va_K.moved (u := U) (U := U.calling g mk a) (Vm.Alike.refl U.vm) qK, qD⟩, va_recv hKc hPc (ci := 8) (q0 := 0) rfl rfl, fun U hU hW => ⟨rfl, by rw [hU], by rw [hU]; exact hPc, va_K.moved hW.alike hKc, hDc.weaken (fun _ _ _ _ => trivial)⟩⟩ rfl rfl hl.1 rfl (lv_room (Nat.le_of_ble_eq_true rfl)) dX8_commit_26 ⟨(show 0 + 0 ≤ 0 by omega), (show 0 + 0 ≤ 0 by omega)⟩) hS (fun q _ h => hFc q h) hFc (fun u r_21 t H1 locs ht hvm hw hB hz1 hk1 hS9 => ?_)
      replace hS := hS9
      clear hS9
      obtain ⟨hra, hP1, hK1, hD1⟩ := hB
      have hra := hra.symm
      subst hra
      rw [ht] at hP1
      replace hK1 := va_K.moved hvm.symm hK1
      try dsimp only at hw
      obtain ⟨hP9, hD9⟩ := va_join (wr := [(hd, .inr (0, [.int (nI w), .int (nI b), .int wr, .ref qc, .ref qi, .int wa, .int wc])), MA9 qc cI (w * b) fc, MA9 qi cI w gi, (q0, .inr (7, [.int a1, .int a2, .int a3, .long a4])), (q1, .inr (7, [.int b1, .int b2, .int b3, .long b4])), (qk, .inr (7, [.int c1, .int c2, .int c3, .long c4]))]) (w1 := [(ax, .inr (8, [.ref hd, .ref hf, .ref hs, .ref hp, .ref he, .ref q0, .ref q1, .ref qk, .int 1, .long fx, .int dn]))]) hP hD [6] [0, 1, 2, 3, 4, 5] rfl rfl (by decide) (by decide) hk1 hFc hP1 hD1
      replace hP := hP9
      replace hD := hD9
      clear hP9 hD9
      replace hK := (hK.sub (tys' := [(cI, .int)]) [0] rfl).app hK1
      clear hP1 hD1 hK1 hPc hDc hKc hFc hk1 hz1 hvm ht
      generalize H1 = H at hP hS ⊢
      replace hP : va_P (dC, dI) vwCl [(hd, .inr (0, [.int (nI w), .int (nI b), .int wr, .ref qc, .ref qi, .int wa, .int wc])), MA9 qc cI (w * b) fc, MA9 qi cI w gi, (q0, .inr (7, [.int a1, .int a2, .int a3, .long a4])), (q1, .inr (7, [.int b1, .int b2, .int b3, .long b4])), (qk, .inr (7, [.int c1, .int c2, .int c3, .long c4])), (ax, .inr (8, [.ref hd, .ref hf, .ref hs, .ref hp, .ref he, .ref q0, .ref q1, .ref qk, .int 1, .long fx, .int dn]))] H := hP
      replace hD : va_D A [(hd, .inr (0, [.int (nI w), .int (nI b), .int wr, .ref qc, .ref qi, .int wa, .int wc])), MA9 qc cI (w * b) fc, MA9 qi cI w gi, (q0, .inr (7, [.int a1, .int a2, .int a3, .long a4])), (q1, .inr (7, [.int b1, .int b2, .int b3, .long b4])), (qk, .inr (7, [.int c1, .int c2, .int c3, .long c4])), (ax, .inr (8, [.ref hd, .ref hf, .ref hs, .ref hp, .ref he, .ref q0, .ref q1, .ref qk, .int 1, .long fx, .int dn]))] := hD
      replace hK : va_K (dC, dI) vwCl [(cI, .int)] s := hK
      refine va_get (D := (dC, dI)) (ci := 7) (v := .int b1) (C := RX7) (T := TX7) (N := 4) hx hb hts k_4 hown hK hP 4 rfl rfl 0 (by decide) k_5 (fun _ h9 => h9) rfl dX8_commit_29 ?_
      refine lv_iconst (v := 1) hx hb dX8_commit_32 (by decide) ?_
      refine lv_iadd hx hb dX8_commit_33 ?_
      refine lv_topi (fun z_22 _ => ?_)
      refine lv_aload_n hx hb dX8_commit_34 rfl (lv_at hl 1 rfl) ?_
      refine va_get (D := (dC, dI)) (ci := 8) (v := .ref qk) (C := RX8) (T := TX8) (N := 11) hx hb hts k_1 hown hK hP 6 rfl rfl 7 (by decide) k_6 (fun _ h9 => h9) rfl dX8_commit_35 ?_
      refine va_get (D := (dC, dI)) (ci := 7) (v := .int c2) (C := RX7) (T := TX7) (N := 4) hx hb hts k_4 hown hK hP 5 rfl rfl 1 (by decide) k_7 (fun _ h9 => h9) rfl dX8_commit_38 ?_
      refine lv_aload_n hx hb dX8_commit_41 rfl (lv_at hl 1 rfl) ?_
      refine va_get (D := (dC, dI)) (ci := 8) (v := .ref qk) (C := RX8) (T := TX8) (N := 11) hx hb hts k_1 hown hK hP 6 rfl rfl 7 (by decide) k_6 (fun _ h9 => h9) rfl dX8_commit_42 ?_
      refine va_get (D := (dC, dI)) (ci := 7) (v := .int c3) (C := RX7) (T := TX7) (N := 4) hx hb hts k_4 hown hK hP 5 rfl rfl 2 (by decide) k_8 (fun _ h9 => h9) rfl dX8_commit_45 ?_
      refine lv_aload_n hx hb dX8_commit_48 rfl (lv_at hl 1 rfl) ?_
      refine va_get (D := (dC, dI)) (ci := 8) (v := .ref qk) (C := RX8) (T := TX8) (N := 11) hx hb hts k_1 hown hK hP 6 rfl rfl 7 (by decide) k_6 (fun _ h9 => h9) rfl dX8_commit_49 ?_
      refine va_get (D := (dC, dI)) (ci := 7) (v := .long c4) (C := RX7) (T := TX7) (N := 4) hx hb hts k_4 hown hK hP 5 rfl rfl 3 (by decide) k_9 (fun _ h9 => h9) rfl dX8_commit_52 ?_
      have hPc := hP.sub (ws' := [(q0, .inr (7, [.int a1, .int a2, .int a3, .long a4]))]) [3] rfl
      have hDc := hD.sub (ws' := [(q0, .inr (7, [.int a1, .int a2, .int a3, .long a4]))]) [3] (by decide) rfl
      have hKc := hK.sub (tys' := []) [] rfl
      have hFc := va_free (wc := [(q0, .inr (7, [.int a1, .int a2, .int a3, .long a4]))]) hD hS hA [3] rfl
      refine va_callv (va_runV (As := [.int z_22, .int c2, .int c3, .long c4]) (rest := []) ⟨hx, hb, hml, hown, hts⟩ (c_X7_tell l dC dI H.size q0 a1 a2 a3 a4 z_22 c2 c3 c4) (cwV 4 hts g_X8_commit_X7_tell rfl rfl rfl (by decide +kernel) ⟨Nat.le_of_ble_eq_true rfl, Nat.le_of_ble_eq_true rfl⟩) ⟨fun a U g mk q => by obtain ⟨q0, q1, qP, qK, qD⟩ := q; exact ⟨q0, q1, qP, va_K.moved (u := U) (U := U.calling g mk a) (Vm.Alike.refl U.vm) qK, qD⟩, va_recv hKc hPc (ci := 7) (q0 := 0) rfl rfl, fun U hU hW => ⟨rfl, by rw [hU], by rw [hU]; exact hPc, va_K.moved hW.alike hKc, hDc.weaken (fun _ _ _ _ => trivial)⟩⟩ rfl rfl hl.1 rfl (lv_room (Nat.le_of_ble_eq_true rfl)) dX8_commit_55 ⟨(show 0 + 0 ≤ 0 by omega), (show 0 + 0 ≤ 0 by omega)⟩) hS (fun q _ h => hFc q h) hFc (fun u t H1 locs ht hvm hw hB hz1 hk1 hS9 => ?_)
      replace hS := hS9
      clear hS9
      obtain ⟨hP1, hK1, hD1⟩ := hB
      rw [ht] at hP1
      replace hK1 := va_K.moved hvm.symm hK1
      try dsimp only at hw
      obtain ⟨hP9, hD9⟩ := va_join (wr := [(hd, .inr (0, [.int (nI w), .int (nI b), .int wr, .ref qc, .ref qi, .int wa, .int wc])), MA9 qc cI (w * b) fc, MA9 qi cI w gi, (q1, .inr (7, [.int b1, .int b2, .int b3, .long b4])), (qk, .inr (7, [.int c1, .int c2, .int c3, .long c4])), (ax, .inr (8, [.ref hd, .ref hf, .ref hs, .ref hp, .ref he, .ref q0, .ref q1, .ref qk, .int 1, .long fx, .int dn]))]) (w1 := [(q0, .inr (7, [.int z_22, .int c2, .int c3, .long c4]))]) hP hD [3] [0, 1, 2, 4, 5, 6] rfl rfl (by decide) (by decide) hk1 hFc hP1 hD1
      replace hP := hP9
      replace hD := hD9
      clear hP9 hD9
      replace hK := (hK.sub (tys' := [(cI, .int)]) [0] rfl).app hK1
      clear hP1 hD1 hK1 hPc hDc hKc hFc hk1 hz1 hvm ht
      generalize H1 = H at hP hS ⊢
      replace hP : va_P (dC, dI) vwCl [(hd, .inr (0, [.int (nI w), .int (nI b), .int wr, .ref qc, .ref qi, .int wa, .int wc])), MA9 qc cI (w * b) fc, MA9 qi cI w gi, (q1, .inr (7, [.int b1, .int b2, .int b3, .long b4])), (qk, .inr (7, [.int c1, .int c2, .int c3, .long c4])), (ax, .inr (8, [.ref hd, .ref hf, .ref hs, .ref hp, .ref he, .ref q0, .ref q1, .ref qk, .int 1, .long fx, .int dn])), (q0, .inr (7, [.int z_22, .int c2, .int c3, .long c4]))] H := hP
      replace hD : va_D A [(hd, .inr (0, [.int (nI w), .int (nI b), .int wr, .ref qc, .ref qi, .int wa, .int wc])), MA9 qc cI (w * b) fc, MA9 qi cI w gi, (q1, .inr (7, [.int b1, .int b2, .int b3, .long b4])), (qk, .inr (7, [.int c1, .int c2, .int c3, .long c4])), (ax, .inr (8, [.ref hd, .ref hf, .ref hs, .ref hp, .ref he, .ref q0, .ref q1, .ref qk, .int 1, .long fx, .int dn])), (q0, .inr (7, [.int z_22, .int c2, .int c3, .long c4]))] := hD
      replace hK : va_K (dC, dI) vwCl [(cI, .int)] s := hK
      refine lv_aload_n hx hb dX8_commit_58 rfl (lv_at hl 1 rfl) ?_
      refine lv_iload_n hx hb dX8_commit_59 rfl (lv_at hl 0 rfl) ?_
      have hPc := hP.sub (ws' := [(ax, .inr (8, [.ref hd, .ref hf, .ref hs, .ref hp, .ref he, .ref q0, .ref q1, .ref qk, .int 1, .long fx, .int dn])), (hd, .inr (0, [.int (nI w), .int (nI b), .int wr, .ref qc, .ref qi, .int wa, .int wc])), MA9 qc cI (w * b) fc, MA9 qi cI w gi, (q0, .inr (7, [.int z_22, .int c2, .int c3, .long c4]))]) [5, 0, 1, 2, 6] rfl
      have hDc := hD.sub (ws' := [(ax, .inr (8, [.ref hd, .ref hf, .ref hs, .ref hp, .ref he, .ref q0, .ref q1, .ref qk, .int 1, .long fx, .int dn])), (hd, .inr (0, [.int (nI w), .int (nI b), .int wr, .ref qc, .ref qi, .int wa, .int wc])), MA9 qc cI (w * b) fc, MA9 qi cI w gi, (q0, .inr (7, [.int z_22, .int c2, .int c3, .long c4]))]) [5, 0, 1, 2, 6] (by decide) rfl
      have hKc := hK.sub (tys' := [(cI, .int)]) [0] rfl
      have hFc := va_free (wc := [(ax, .inr (8, [.ref hd, .ref hf, .ref hs, .ref hp, .ref he, .ref q0, .ref q1, .ref qk, .int 1, .long fx, .int dn])), (hd, .inr (0, [.int (nI w), .int (nI b), .int wr, .ref qc, .ref qi, .int wa, .int wc])), MA9 qc cI (w * b) fc, MA9 qi cI w gi, (q0, .inr (7, [.int z_22, .int c2, .int c3, .long c4]))]) hD hS hA [5, 0, 1, 2, 6] rfl
      refine va_calli (va_runV (As := [.int 0]) (rest := []) ⟨hx, hb, hml, hown, hts⟩ (c_X8_writeRoot_0 l dC dI H.size ax hd hf hs hp he q0 q1 qk qc qi w b 1 dn wr wa wc z_22 c2 c3 fx c4 fc gi cI (by first | assumption | omega | decide) (by first | assumption | omega | decide) (by first | assumption | omega | decide) (by first | assumption | omega | decide) (by first | assumption | omega | decide)) (cwV 1 hts g_X8_commit_X8_writeRoot_0 rfl rfl rfl (by decide +kernel) ⟨Nat.le_of_ble_eq_true rfl, Nat.le_of_ble_eq_true rfl⟩) ⟨fun a U g mk q => by obtain ⟨q0, q1, qP, qK, qD⟩ := q; exact ⟨q0, q1, qP, va_K.moved (u := U) (U := U.calling g mk a) (Vm.Alike.refl U.vm) qK, qD⟩, va_recv hKc hPc (ci := 8) (q0 := 0) rfl rfl, fun U hU hW => ⟨rfl, by rw [hU], by rw [hU]; exact hPc, va_K.moved hW.alike hKc, hDc.weaken (fun _ _ _ _ => trivial)⟩⟩ rfl rfl hl.1 rfl (lv_room (Nat.le_of_ble_eq_true rfl)) dX8_commit_60 ⟨(show 0 + 0 ≤ 0 by omega), (show 0 + 0 ≤ 0 by omega)⟩) hS (fun q _ h => hFc q h) hFc (fun r_24 u t H1 locs ht hvm hw hB hz1 hk1 hS9 => ?_)
      replace hS := hS9
      clear hS9
      obtain ⟨wr2_25, wa2_26, wc2_27, fc2_28, gi2_29⟩ := u
      obtain ⟨hP1, hK1, hD1⟩ := hB
      rw [ht] at hP1
      replace hK1 := va_K.moved hvm.symm hK1
      try dsimp only at hw
      obtain ⟨hP9, hD9⟩ := va_join (wr := [(q1, .inr (7, [.int b1, .int b2, .int b3, .long b4])), (qk, .inr (7, [.int c1, .int c2, .int c3, .long c4]))]) (w1 := [(ax, .inr (8, [.ref hd, .ref hf, .ref hs, .ref hp, .ref he, .ref q0, .ref q1, .ref qk, .int 1, .long fx, .int dn])), (hd, .inr (0, [.int (nI w), .int (nI b), .int wr2_25, .ref qc, .ref qi, .int wa2_26, .int wc2_27])), MA9 qc cI (w * b) fc2_28, MA9 qi cI w gi2_29, (q0, .inr (7, [.int z_22, .int c2, .int c3, .long c4]))]) hP hD [5, 0, 1, 2, 6] [3, 4] rfl rfl (by decide) (by decide) hk1 hFc hP1 hD1
      replace hP := hP9
      replace hD := hD9
      clear hP9 hD9
      replace hK := (hK.sub (tys' := []) [] rfl).app hK1
      clear hP1 hD1 hK1 hPc hDc hKc hFc hk1 hz1 hvm ht
      generalize H1 = H at hP hS ⊢
      replace hP : va_P (dC, dI) vwCl [(q1, .inr (7, [.int b1, .int b2, .int b3, .long b4])), (qk, .inr (7, [.int c1, .int c2, .int c3, .long c4])), (ax, .inr (8, [.ref hd, .ref hf, .ref hs, .ref hp, .ref he, .ref q0, .ref q1, .ref qk, .int 1, .long fx, .int dn])), (hd, .inr (0, [.int (nI w), .int (nI b), .int wr2_25, .ref qc, .ref qi, .int wa2_26, .int wc2_27])), MA9 qc cI (w * b) fc2_28, MA9 qi cI w gi2_29, (q0, .inr (7, [.int z_22, .int c2, .int c3, .long c4]))] H := hP
      replace hD : va_D A [(q1, .inr (7, [.int b1, .int b2, .int b3, .long b4])), (qk, .inr (7, [.int c1, .int c2, .int c3, .long c4])), (ax, .inr (8, [.ref hd, .ref hf, .ref hs, .ref hp, .ref he, .ref q0, .ref q1, .ref qk, .int 1, .long fx, .int dn])), (hd, .inr (0, [.int (nI w), .int (nI b), .int wr2_25, .ref qc, .ref qi, .int wa2_26, .int wc2_27])), MA9 qc cI (w * b) fc2_28, MA9 qi cI w gi2_29, (q0, .inr (7, [.int z_22, .int c2, .int c3, .long c4]))] := hD
      replace hK : va_K (dC, dI) vwCl [(cI, .int)] s := hK
      have hw_r_24 := hw
      refine lv_if_ne (tgt := 71) hx hb dX8_commit_63 (by decide) (fun c_30 => ?_) (fun c_30 => ?_)
      · refine lv_aload_n hx hb dX8_commit_71 rfl (lv_at hl 1 rfl) ?_
        refine lv_iload_n hx hb dX8_commit_72 rfl (lv_at hl 0 rfl) ?_
        refine va_put (D := (dC, dI)) (ci := 8) (v := .int 0) (ty := .int) (C := RX8) (T := TX8) (N := 11) hx hb hts k_1 tyX8 tyX8_ok nmX8 hown hK hP hD hS 2 rfl rfl 8 (by decide) k_3 (fun _ h9 => h9) rfl (by decide +kernel) rfl rfl (Nat.le_of_ble_eq_true rfl) dX8_commit_73 (fun H locs hP9 hD9 hS9 => ?_)
        replace hP := hP9
        replace hD := hD9
        replace hS := hS9
        clear hP9 hD9 hS9
        replace hP : va_P (dC, dI) vwCl [(q1, .inr (7, [.int b1, .int b2, .int b3, .long b4])), (qk, .inr (7, [.int c1, .int c2, .int c3, .long c4])), (ax, .inr (8, [.ref hd, .ref hf, .ref hs, .ref hp, .ref he, .ref q0, .ref q1, .ref qk, .int 0, .long fx, .int dn])), (hd, .inr (0, [.int (nI w), .int (nI b), .int wr2_25, .ref qc, .ref qi, .int wa2_26, .int wc2_27])), MA9 qc cI (w * b) fc2_28, MA9 qi cI w gi2_29, (q0, .inr (7, [.int z_22, .int c2, .int c3, .long c4]))] H := hP
        replace hD : va_D A [(q1, .inr (7, [.int b1, .int b2, .int b3, .long b4])), (qk, .inr (7, [.int c1, .int c2, .int c3, .long c4])), (ax, .inr (8, [.ref hd, .ref hf, .ref hs, .ref hp, .ref he, .ref q0, .ref q1, .ref qk, .int 0, .long fx, .int dn])), (hd, .inr (0, [.int (nI w), .int (nI b), .int wr2_25, .ref qc, .ref qi, .int wa2_26, .int wc2_27])), MA9 qc cI (w * b) fc2_28, MA9 qi cI w gi2_29, (q0, .inr (7, [.int z_22, .int c2, .int c3, .long c4]))] := hD
        refine lv_aload_n hx hb dX8_commit_76 rfl (lv_at hl 1 rfl) ?_
        refine lv_lconst (v := 0) hx hb dX8_commit_77 (by decide) ?_
        refine va_put (D := (dC, dI)) (ci := 8) (v := .long 0) (ty := .long) (C := RX8) (T := TX8) (N := 11) hx hb hts k_1 tyX8 tyX8_ok nmX8 hown hK hP hD hS 2 rfl rfl 9 (by decide) k_10 (fun _ h9 => h9) rfl (by decide +kernel) rfl rfl (Nat.le_of_ble_eq_true rfl) dX8_commit_78 (fun H locs hP9 hD9 hS9 => ?_)
        replace hP := hP9
        replace hD := hD9
        replace hS := hS9
        clear hP9 hD9 hS9
        replace hP : va_P (dC, dI) vwCl [(q1, .inr (7, [.int b1, .int b2, .int b3, .long b4])), (qk, .inr (7, [.int c1, .int c2, .int c3, .long c4])), (ax, .inr (8, [.ref hd, .ref hf, .ref hs, .ref hp, .ref he, .ref q0, .ref q1, .ref qk, .int 0, .long 0, .int dn])), (hd, .inr (0, [.int (nI w), .int (nI b), .int wr2_25, .ref qc, .ref qi, .int wa2_26, .int wc2_27])), MA9 qc cI (w * b) fc2_28, MA9 qi cI w gi2_29, (q0, .inr (7, [.int z_22, .int c2, .int c3, .long c4]))] H := hP
        replace hD : va_D A [(q1, .inr (7, [.int b1, .int b2, .int b3, .long b4])), (qk, .inr (7, [.int c1, .int c2, .int c3, .long c4])), (ax, .inr (8, [.ref hd, .ref hf, .ref hs, .ref hp, .ref he, .ref q0, .ref q1, .ref qk, .int 0, .long 0, .int dn])), (hd, .inr (0, [.int (nI w), .int (nI b), .int wr2_25, .ref qc, .ref qi, .int wa2_26, .int wc2_27])), MA9 qc cI (w * b) fc2_28, MA9 qi cI w gi2_29, (q0, .inr (7, [.int z_22, .int c2, .int c3, .long c4]))] := hD
        refine lv_iconst (v := 0) hx hb dX8_commit_81 (by decide) ?_
        have hP9 := hP.sub (ws' := [(ax, .inr (8, [.ref hd, .ref hf, .ref hs, .ref hp, .ref he, .ref q0, .ref q1, .ref qk, .int 0, .long 0, .int dn])), (hd, .inr (0, [.int (nI w), .int (nI b), .int wr2_25, .ref qc, .ref qi, .int wa2_26, .int wc2_27])), MA9 qc cI (w * b) fc2_28, MA9 qi cI w gi2_29, (q0, .inr (7, [.int z_22, .int c2, .int c3, .long c4])), (q1, .inr (7, [.int b1, .int b2, .int b3, .long b4])), (qk, .inr (7, [.int c1, .int c2, .int c3, .long c4]))]) [2, 3, 4, 5, 6, 0, 1] rfl
        have hD9 := hD.sub (ws' := [(ax, .inr (8, [.ref hd, .ref hf, .ref hs, .ref hp, .ref he, .ref q0, .ref q1, .ref qk, .int 0, .long 0, .int dn])), (hd, .inr (0, [.int (nI w), .int (nI b), .int wr2_25, .ref qc, .ref qi, .int wa2_26, .int wc2_27])), MA9 qc cI (w * b) fc2_28, MA9 qi cI w gi2_29, (q0, .inr (7, [.int z_22, .int c2, .int c3, .long c4])), (q1, .inr (7, [.int b1, .int b2, .int b3, .long b4])), (qk, .inr (7, [.int c1, .int c2, .int c3, .long c4]))]) [2, 3, 4, 5, 6, 0, 1] (by decide) rfl
        have hK9 := hK.sub (tys' := [(cI, .int)]) [0] rfl
        exact W.iret (v := 0) hx hb hr (fun t ht hW => ⟨⟨0, (0, 0, dn, wr2_25, wa2_26, wc2_27, fc2_28, gi2_29, z_22, c2, c3, c4, b1, b2, b3, b4), rfl, (by first | assumption | exact hw.2 | exact hw.2.1 | exact hw | exact Or.inl rfl | exact Or.inr rfl), by rw [ht]; exact hP9, va_K.moved hW.alike hK9, hD9⟩, hS.F ht⟩) hS.2.2 dX8_commit_82
      · refine lv_aload_n hx hb dX8_commit_66 rfl (lv_at hl 1 rfl) ?_
        have hPc := hP.sub (ws' := [(ax, .inr (8, [.ref hd, .ref hf, .ref hs, .ref hp, .ref he, .ref q0, .ref q1, .ref qk, .int 1, .long fx, .int dn]))]) [2] rfl
        have hDc := hD.sub (ws' := [(ax, .inr (8, [.ref hd, .ref hf, .ref hs, .ref hp, .ref he, .ref q0, .ref q1, .ref qk, .int 1, .long fx, .int dn]))]) [2] (by decide) rfl
        have hKc := hK.sub (tys' := []) [] rfl
        have hFc := va_free (wc := [(ax, .inr (8, [.ref hd, .ref hf, .ref hs, .ref hp, .ref he, .ref q0, .ref q1, .ref qk, .int 1, .long fx, .int dn]))]) hD hS hA [2] rfl
        refine va_calli (va_runV (As := []) (rest := []) ⟨hx, hb, hml, hown, hts⟩ (c_X8_goDown l dC dI H.size ax hd hf hs hp he q0 q1 qk 1 dn fx (by first | assumption | omega | decide)) (cwV 0 hts g_X8_commit_X8_goDown rfl rfl rfl (by decide +kernel) ⟨Nat.le_of_ble_eq_true rfl, Nat.le_of_ble_eq_true rfl⟩) ⟨fun a U g mk q => by obtain ⟨q0, q1, qP, qK, qD⟩ := q; exact ⟨q0, q1, qP, va_K.moved (u := U) (U := U.calling g mk a) (Vm.Alike.refl U.vm) qK, qD⟩, va_recv hKc hPc (ci := 8) (q0 := 0) rfl rfl, fun U hU hW => ⟨rfl, by rw [hU], by rw [hU]; exact hPc, va_K.moved hW.alike hKc, hDc.weaken (fun _ _ _ _ => trivial)⟩⟩ rfl rfl hl.1 rfl (lv_room (Nat.le_of_ble_eq_true rfl)) dX8_commit_67 ⟨(show 0 + 0 ≤ 0 by omega), (show 0 + 0 ≤ 0 by omega)⟩) hS (fun q _ h => hFc q h) hFc (fun r_31 u t H1 locs ht hvm hw hB hz1 hk1 hS9 => ?_)
        replace hS := hS9
        clear hS9
        obtain ⟨lt2_32, fx2_33, dn2_34⟩ := u
        obtain ⟨hP1, hK1, hD1⟩ := hB
        rw [ht] at hP1
        replace hK1 := va_K.moved hvm.symm hK1
        try dsimp only at hw
        obtain ⟨hP9, hD9⟩ := va_join (wr := [(q1, .inr (7, [.int b1, .int b2, .int b3, .long b4])), (qk, .inr (7, [.int c1, .int c2, .int c3, .long c4])), (hd, .inr (0, [.int (nI w), .int (nI b), .int wr2_25, .ref qc, .ref qi, .int wa2_26, .int wc2_27])), MA9 qc cI (w * b) fc2_28, MA9 qi cI w gi2_29, (q0, .inr (7, [.int z_22, .int c2, .int c3, .long c4]))]) (w1 := [(ax, .inr (8, [.ref hd, .ref hf, .ref hs, .ref hp, .ref he, .ref q0, .ref q1, .ref qk, .int lt2_32, .long fx2_33, .int dn2_34]))]) hP hD [2] [0, 1, 3, 4, 5, 6] rfl rfl (by decide) (by decide) hk1 hFc hP1 hD1
        replace hP := hP9
        replace hD := hD9
        clear hP9 hD9
        replace hK := (hK.sub (tys' := [(cI, .int)]) [0] rfl).app hK1
        clear hP1 hD1 hK1 hPc hDc hKc hFc hk1 hz1 hvm ht
        generalize H1 = H at hP hS ⊢
        replace hP : va_P (dC, dI) vwCl [(q1, .inr (7, [.int b1, .int b2, .int b3, .long b4])), (qk, .inr (7, [.int c1, .int c2, .int c3, .long c4])), (hd, .inr (0, [.int (nI w), .int (nI b), .int wr2_25, .ref qc, .ref qi, .int wa2_26, .int wc2_27])), MA9 qc cI (w * b) fc2_28, MA9 qi cI w gi2_29, (q0, .inr (7, [.int z_22, .int c2, .int c3, .long c4])), (ax, .inr (8, [.ref hd, .ref hf, .ref hs, .ref hp, .ref he, .ref q0, .ref q1, .ref qk, .int lt2_32, .long fx2_33, .int dn2_34]))] H := hP
        replace hD : va_D A [(q1, .inr (7, [.int b1, .int b2, .int b3, .long b4])), (qk, .inr (7, [.int c1, .int c2, .int c3, .long c4])), (hd, .inr (0, [.int (nI w), .int (nI b), .int wr2_25, .ref qc, .ref qi, .int wa2_26, .int wc2_27])), MA9 qc cI (w * b) fc2_28, MA9 qi cI w gi2_29, (q0, .inr (7, [.int z_22, .int c2, .int c3, .long c4])), (ax, .inr (8, [.ref hd, .ref hf, .ref hs, .ref hp, .ref he, .ref q0, .ref q1, .ref qk, .int lt2_32, .long fx2_33, .int dn2_34]))] := hD
        replace hK : va_K (dC, dI) vwCl [(cI, .int)] s := hK
        have hw_r_31 := hw
        have hP9 := hP.sub (ws' := [(ax, .inr (8, [.ref hd, .ref hf, .ref hs, .ref hp, .ref he, .ref q0, .ref q1, .ref qk, .int lt2_32, .long fx2_33, .int dn2_34])), (hd, .inr (0, [.int (nI w), .int (nI b), .int wr2_25, .ref qc, .ref qi, .int wa2_26, .int wc2_27])), MA9 qc cI (w * b) fc2_28, MA9 qi cI w gi2_29, (q0, .inr (7, [.int z_22, .int c2, .int c3, .long c4])), (q1, .inr (7, [.int b1, .int b2, .int b3, .long b4])), (qk, .inr (7, [.int c1, .int c2, .int c3, .long c4]))]) [6, 2, 3, 4, 5, 0, 1] rfl
        have hD9 := hD.sub (ws' := [(ax, .inr (8, [.ref hd, .ref hf, .ref hs, .ref hp, .ref he, .ref q0, .ref q1, .ref qk, .int lt2_32, .long fx2_33, .int dn2_34])), (hd, .inr (0, [.int (nI w), .int (nI b), .int wr2_25, .ref qc, .ref qi, .int wa2_26, .int wc2_27])), MA9 qc cI (w * b) fc2_28, MA9 qi cI w gi2_29, (q0, .inr (7, [.int z_22, .int c2, .int c3, .long c4])), (q1, .inr (7, [.int b1, .int b2, .int b3, .long b4])), (qk, .inr (7, [.int c1, .int c2, .int c3, .long c4]))]) [6, 2, 3, 4, 5, 0, 1] (by decide) rfl
        have hK9 := hK.sub (tys' := [(cI, .int)]) [0] rfl
        exact W.iret (v := r_31) hx hb hr (fun t ht hW => ⟨⟨r_31, (lt2_32, fx2_33, dn2_34, wr2_25, wa2_26, wc2_27, fc2_28, gi2_29, z_22, c2, c3, c4, b1, b2, b3, b4), rfl, (by first | assumption | exact hw.2 | exact hw.2.1 | exact hw | exact Or.inl rfl | exact Or.inr rfl), by rw [ht]; exact hP9, va_K.moved hW.alike hK9, hD9⟩, hS.F ht⟩) hS.2.2 dX8_commit_70
    · refine lv_iconst (v := 3) hx hb dX8_commit_7 (by decide) ?_
      have hP9 := hP.sub (ws' := [(ax, .inr (8, [.ref hd, .ref hf, .ref hs, .ref hp, .ref he, .ref q0, .ref q1, .ref qk, .int 1, .long fx, .int dn])), (hd, .inr (0, [.int (nI w), .int (nI b), .int wr, .ref qc, .ref qi, .int wa, .int wc])), MA9 qc cI (w * b) fc, MA9 qi cI w gi, (q0, .inr (7, [.int a1, .int a2, .int a3, .long a4])), (q1, .inr (7, [.int b1, .int b2, .int b3, .long b4])), (qk, .inr (7, [.int c1, .int c2, .int c3, .long c4]))]) [0, 1, 2, 3, 4, 5, 6] rfl
      have hD9 := hD.sub (ws' := [(ax, .inr (8, [.ref hd, .ref hf, .ref hs, .ref hp, .ref he, .ref q0, .ref q1, .ref qk, .int 1, .long fx, .int dn])), (hd, .inr (0, [.int (nI w), .int (nI b), .int wr, .ref qc, .ref qi, .int wa, .int wc])), MA9 qc cI (w * b) fc, MA9 qi cI w gi, (q0, .inr (7, [.int a1, .int a2, .int a3, .long a4])), (q1, .inr (7, [.int b1, .int b2, .int b3, .long b4])), (qk, .inr (7, [.int c1, .int c2, .int c3, .long c4]))]) [0, 1, 2, 3, 4, 5, 6] (by decide) rfl
      have hK9 := hK.sub (tys' := [(cI, .int)]) [0] rfl
      exact W.iret (v := 3) hx hb hr (fun t ht hW => ⟨⟨3, (1, fx, dn, wr, wa, wc, fc, gi, a1, a2, a3, a4, b1, b2, b3, b4), rfl, (by first | assumption | exact hw.2 | exact hw.2.1 | exact hw | exact Or.inl rfl | exact Or.inr rfl), by rw [ht]; exact hP9, va_K.moved hW.alike hK9, hD9⟩, hS.F ht⟩) hS.2.2 dX8_commit_8
def v_X8_arm : List Cond := .code yX8_arm cX8_arm 3 none :: ([.fieldLink RX8 28 "TwinRoots" "disk" "LTwinRoots$Disk;", .code yX0_setCut cX0_setCut 3 none, .code Lib.Math.max.name Lib.Math.max.code 2 (some .int), .methodLink RX0 26 Lib.Math.max.name, .static Lib.Math.max.name, .initialized "java/lang/Math", .fieldLink RX0 23 "TwinRoots$Disk" "writesAhead" "I", .fieldLink RX0 7 "TwinRoots$Disk" "words" "I", .code Lib.Math.min.name Lib.Math.min.code 2 (some .int), .methodLink RX0 32 Lib.Math.min.name, .static Lib.Math.min.name, .fieldLink RX0 35 "TwinRoots$Disk" "wordsOfCut" "I", .methodLink RX8 81 yX0_setCut, .instanceMethod yX0_setCut, .selects RX0 yX0_setCut yX0_setCut, .initialized RX0] ++ (wsX80 ++ (wsX00 ++ ([]))))
set_option maxRecDepth 20000 in
theorem g_X8_arm_X0_setCut : GoodIn v_X8_arm (wsV RX8 81 RX0 yX0_setCut v_X0_setCut) := goodIn_r _ [13, 14, 15, 16, 2, 3, 4, 5, 6, 7, 8, 9, 10, 11, 12, 28, 29, 30, 31, 32, 33, 34] (by decide +kernel) (by decide +kernel)
set_option maxHeartbeats 4000000 in
set_option maxRecDepth 100000 in
/-- X8_arm -/
theorem c_X8_arm (l : Launch) (dC : Nat → ClassId) (dI : Nat → Nat → Nat) (sz : Nat) (ax : Nat) (hd : Nat) (hf : Nat) (hs : Nat) (hp : Nat) (he : Nat) (q0 : Nat) (q1 : Nat) (qk : Nat) (qc : Nat) (qi : Nat) (w : Nat) (b : Nat) (lt : Int32) (dn : Int32) (wr : Int32) (wa : Int32) (wc : Int32) (fx : Int64) (p0 : Int32) (p1 : Int32) (zw0 : 12 ≤ w) (zw : w ≤ 40) (zb0 : 4 ≤ b) (zb : b ≤ 64) (zwb : w * b ≤ 2560) : Met l yX8_arm v_X8_arm ({ frames := 2, cells := 0, slots := 0, locals := 37 } : Room) (va_Pc [.ref ax, .int p0, .int p1] (fun U => U.heap.size = sz ∧ va_P (dC, dI) vwCl [(ax, .inr (8, [.ref hd, .ref hf, .ref hs, .ref hp, .ref he, .ref q0, .ref q1, .ref qk, .int lt, .long fx, .int dn])), (hd, .inr (0, [.int (nI w), .int (nI b), .int wr, .ref qc, .ref qi, .int wa, .int wc]))] U.heap ∧ va_K (dC, dI) vwCl [] U ∧ va_D (fun _ => True) [(ax, .inr (8, [.ref hd, .ref hf, .ref hs, .ref hp, .ref he, .ref q0, .ref q1, .ref qk, .int lt, .long fx, .int dn])), (hd, .inr (0, [.int (nI w), .int (nI b), .int wr, .ref qc, .ref qi, .int wa, .int wc]))])) (va_Qv (fun (u : Int32 × Int32 × Int32) => match u with | (wr2, wa2, wc2) => True) (fun (u : Int32 × Int32 × Int32) (t : State) => match u with | (wr2, wa2, wc2) => va_P (dC, dI) vwCl [(ax, .inr (8, [.ref hd, .ref hf, .ref hs, .ref hp, .ref he, .ref q0, .ref q1, .ref qk, .int lt, .long fx, .int dn])), (hd, .inr (0, [.int (nI w), .int (nI b), .int wr2, .ref qc, .ref qi, .int wa2, .int wc2]))] t.heap ∧ va_K (dC, dI) vwCl [] t ∧ va_D (va_A [(ax, .inr (8, [.ref hd, .ref hf, .ref hs, .ref hp, .ref he, .ref q0, .ref q1, .ref qk, .int lt, .long fx, .int dn])), (hd, .inr (0, [.int (nI w), .int (nI b), .int wr, .ref qc, .ref qi, .int wa, .int wc]))] sz) [(ax, .inr (8, [.ref hd, .ref hf, .ref hs, .ref hp, .ref he, .ref q0, .ref q1, .ref qk, .int lt, .long fx, .int dn])), (hd, .inr (0, [.int (nI w), .int (nI b), .int wr2, .ref qc, .ref qi, .int wa2, .int wc2]))]) (va_A [(ax, .inr (8, [.ref hd, .ref hf, .ref hs, .ref hp, .ref he, .ref q0, .ref q1, .ref qk, .int lt, .long fx, .int dn])), (hd, .inr (0, [.int (nI w), .int (nI b), .int wr, .ref qc, .ref qi, .int wa, .int wc]))] sz)) 0 0 (va_A [(ax, .inr (8, [.ref hd, .ref hf, .ref hs, .ref hp, .ref he, .ref q0, .ref q1, .ref qk, .int lt, .long fx, .int dn])), (hd, .inr (0, [.int (nI w), .int (nI b), .int wr, .ref qc, .ref qi, .int wa, .int wc]))] sz) := by
  refine Met.ofW (cc := cX8_arm) (maxL := 3) (ret := none) (by decide) rfl ?_
  intro p e s m args below meth c s₁ B hml hv
  obtain ⟨rfl, hsz, hP, hK, hD0⟩ := hv
  have hx := B.exec
  have hb := B.bytes
  have hr := B.returns
  have hts := atoms_spec (ws := v_X8_arm) B.pre
  have hown : s.vm.findClass RX8 = some m.cls := findClass_of_methodNamed B.named
  have hlocks := B.notSynchronized
  subst hsz
  have hD := hD0.self (sz := s.heap.size)
  generalize hAe : va_A [(ax, .inr (8, [.ref hd, .ref hf, .ref hs, .ref hp, .ref he, .ref q0, .ref q1, .ref qk, .int lt, .long fx, .int dn])), (hd, .inr (0, [.int (nI w), .int (nI b), .int wr, .ref qc, .ref qi, .int wa, .int wc]))] s.heap.size = A at hD ⊢
  have hA : ∀ q : Nat, s.heap.size ≤ q → A q := fun q h => by rw [← hAe]; exact Or.inr h
  have hS : va_S A s.heap s.heap [] := va_S.rf
  have hP : va_P (dC, dI) vwCl [(ax, .inr (8, [.ref hd, .ref hf, .ref hs, .ref hp, .ref he, .ref q0, .ref q1, .ref qk, .int lt, .long fx, .int dn])), (hd, .inr (0, [.int (nI w), .int (nI b), .int wr, .ref qc, .ref qi, .int wa, .int wc]))] s.heap := hP
  have hl := lv_entry ([.ref ax, .int p0, .int p1]) (n := 3) (Nat.le_of_ble_eq_true rfl)
  rw [lg_entry_eq]
  generalize (lg_sl ([.ref ax, .int p0, .int p1]) ++ List.replicate (3 - (lg_sl ([.ref ax, .int p0, .int p1])).length) Slot.unset).toArray = ls at hl ⊢
  have hl : lv_has ls 3 [(0, .ref ax), (1, .int p0), (2, .int p1)] := hl
  have k_1 := (fun _ h => List.mem_cons_of_mem _ (List.mem_append_right _ (List.mem_append_left _ h)) : ∀ w ∈ wsX80, w ∈ v_X8_arm)
  have k_2 := hts (.fieldLink RX8 28 "TwinRoots" "disk" "LTwinRoots$Disk;") (List.mem_of_getElem? (i := 1) rfl)
  refine lv_aload_n hx hb dX8_arm_0 rfl (lv_at hl 0 rfl) ?_
  refine va_get (D := (dC, dI)) (ci := 8) (v := .ref hd) (C := RX8) (T := TX8) (N := 11) hx hb hts k_1 hown hK hP 0 rfl rfl 0 (by decide) k_2 (fun _ h9 => h9) rfl dX8_arm_1 ?_
  refine lv_iload_n hx hb dX8_arm_4 rfl (lv_at hl 1 rfl) ?_
  refine lv_iload_n hx hb dX8_arm_5 rfl (lv_at hl 2 rfl) ?_
  have hPc := hP.sub (ws' := [(hd, .inr (0, [.int (nI w), .int (nI b), .int wr, .ref qc, .ref qi, .int wa, .int wc]))]) [1] rfl
  have hDc := hD.sub (ws' := [(hd, .inr (0, [.int (nI w), .int (nI b), .int wr, .ref qc, .ref qi, .int wa, .int wc]))]) [1] (by decide) rfl
  have hKc := hK.sub (tys' := []) [] rfl
  have hFc := va_free (wc := [(hd, .inr (0, [.int (nI w), .int (nI b), .int wr, .ref qc, .ref qi, .int wa, .int wc]))]) hD hS hA [1] rfl
  refine va_callv (va_runV (As := [.int p0, .int p1]) (rest := []) ⟨hx, hb, hml, hown, hts⟩ (c_X0_setCut l dC dI s.heap.size hd w b qc qi wr wa wc p0 p1) (cwV 2 hts g_X8_arm_X0_setCut rfl rfl rfl (by decide +kernel) ⟨Nat.le_of_ble_eq_true rfl, Nat.le_of_ble_eq_true rfl⟩) ⟨fun a U g mk q => by obtain ⟨q0, q1, qP, qK, qD⟩ := q; exact ⟨q0, q1, qP, va_K.moved (u := U) (U := U.calling g mk a) (Vm.Alike.refl U.vm) qK, qD⟩, va_recv hKc hPc (ci := 0) (q0 := 0) rfl rfl, fun U hU hW => ⟨rfl, by rw [hU], by rw [hU]; exact hPc, va_K.moved hW.alike hKc, hDc.weaken (fun _ _ _ _ => trivial)⟩⟩ rfl rfl hl.1 rfl (lv_room (Nat.le_of_ble_eq_true rfl)) dX8_arm_6 ⟨(show 0 + 0 ≤ 0 by omega), (show 0 + 0 ≤ 0 by omega)⟩) hS (fun q _ h => hFc q h) hFc (fun u t H1 locs ht hvm hw hB hz1 hk1 hS9 => ?_)
  replace hS := hS9
  clear hS9
  obtain ⟨wa2_2, wc2_3⟩ := u
  obtain ⟨hP1, hK1, hD1⟩ := hB
  rw [ht] at hP1
  replace hK1 := va_K.moved hvm.symm hK1
  try dsimp only at hw
  obtain ⟨hP9, hD9⟩ := va_join (wr := [(ax, .inr (8, [.ref hd, .ref hf, .ref hs, .ref hp, .ref he, .ref q0, .ref q1, .ref qk, .int lt, .long fx, .int dn]))]) (w1 := [(hd, .inr (0, [.int (nI w), .int (nI b), .int wr, .ref qc, .ref qi, .int wa2_2, .int wc2_3]))]) hP hD [1] [0] rfl rfl (by decide) (by decide) hk1 hFc hP1 hD1
  replace hP := hP9
  replace hD := hD9
  clear hP9 hD9
  replace hK := (hK.sub (tys' := []) [] rfl).app hK1
  clear hP1 hD1 hK1 hPc hDc hKc hFc hk1 hz1 hvm ht
  generalize H1 = H at hP hS ⊢
  replace hP : va_P (dC, dI) vwCl [(ax, .inr (8, [.ref hd, .ref hf, .ref hs, .ref hp, .ref he, .ref q0, .ref q1, .ref qk, .int lt, .long fx, .int dn])), (hd, .inr (0, [.int (nI w), .int (nI b), .int wr, .ref qc, .ref qi, .int wa2_2, .int wc2_3]))] H := hP
  replace hD : va_D A [(ax, .inr (8, [.ref hd, .ref hf, .ref hs, .ref hp, .ref he, .ref q0, .ref q1, .ref qk, .int lt, .long fx, .int dn])), (hd, .inr (0, [.int (nI w), .int (nI b), .int wr, .ref qc, .ref qi, .int wa2_2, .int wc2_3]))] := hD
  replace hK : va_K (dC, dI) vwCl [] s := hK
  have hP9 := hP.sub (ws' := [(ax, .inr (8, [.ref hd, .ref hf, .ref hs, .ref hp, .ref he, .ref q0, .ref q1, .ref qk, .int lt, .long fx, .int dn])), (hd, .inr (0, [.int (nI w), .int (nI b), .int wr, .ref qc, .ref qi, .int wa2_2, .int wc2_3]))]) [0, 1] rfl
  have hD9 := hD.sub (ws' := [(ax, .inr (8, [.ref hd, .ref hf, .ref hs, .ref hp, .ref he, .ref q0, .ref q1, .ref qk, .int lt, .long fx, .int dn])), (hd, .inr (0, [.int (nI w), .int (nI b), .int wr, .ref qc, .ref qi, .int wa2_2, .int wc2_3]))]) [0, 1] (by decide) rfl
  have hK9 := hK.sub (tys' := []) [] rfl
  exact W.vret hx hb hr (fun t ht hW => ⟨⟨(wr, wa2_2, wc2_3), rfl, trivial, by rw [ht]; exact hP9, va_K.moved hW.alike hK9, hD9⟩, hS.F ht⟩) hS.2.2 dX8_arm_9
def v_X8_decay : List Cond := .code yX8_decay cX8_decay 4 (some .boolean) :: ([.fieldLink RX8 28 "TwinRoots" "disk" "LTwinRoots$Disk;", .code yX0_turn cX0_turn 5 (some .boolean), .code yX0_cellOf cX0_cellOf 4 (some .int), .fieldLink RX0 13 "TwinRoots$Disk" "blocks" "I", .fieldLink RX0 7 "TwinRoots$Disk" "words" "I", .methodLink RX0 38 yX0_cellOf, .instanceMethod yX0_cellOf, .selects RX0 yX0_cellOf yX0_cellOf, .initialized RX0, .fieldLink RX0 16 "TwinRoots$Disk" "cells" "[I", .methodLink RX8 188 yX0_turn, .instanceMethod yX0_turn, .selects RX0 yX0_turn yX0_turn] ++ (wsX80 ++ (wsX00 ++ ([]))))
set_option maxRecDepth 20000 in
theorem g_X8_decay_X0_turn : GoodIn v_X8_decay (wsV RX8 188 RX0 yX0_turn v_X0_turn) := goodIn_r _ [11, 12, 13, 9, 2, 3, 4, 5, 6, 7, 8, 9, 10, 25, 26, 27, 28, 29, 30, 31] (by decide +kernel) (by decide +kernel)
set_option maxHeartbeats 4000000 in
set_option maxRecDepth 100000 in
/-- X8_decay -/
theorem c_X8_decay (l : Launch) (dC : Nat → ClassId) (dI : Nat → Nat → Nat) (sz : Nat) (ax : Nat) (hd : Nat) (hf : Nat) (hs : Nat) (hp : Nat) (he : Nat) (q0 : Nat) (q1 : Nat) (qk : Nat) (qc : Nat) (qi : Nat) (w : Nat) (b : Nat) (lt : Int32) (dn : Int32) (wr : Int32) (wa : Int32) (wc : Int32) (fx : Int64) (fc : Nat → Int32) (cI : ClassId) (p0 : Int32) (p1 : Int32) (p2 : Int32) (zw0 : 12 ≤ w) (zw : w ≤ 40) (zb0 : 4 ≤ b) (zb : b ≤ 64) (zwb : w * b ≤ 2560) : Met l yX8_decay v_X8_decay ({ frames := 2, cells := 0, slots := 0, locals := 47 } : Room) (va_Pc [.ref ax, .int p0, .int p1, .int p2] (fun U => U.heap.size = sz ∧ va_P (dC, dI) vwCl [(ax, .inr (8, [.ref hd, .ref hf, .ref hs, .ref hp, .ref he, .ref q0, .ref q1, .ref qk, .int lt, .long fx, .int dn])), (hd, .inr (0, [.int (nI w), .int (nI b), .int wr, .ref qc, .ref qi, .int wa, .int wc])), MA9 qc cI (w * b) fc] U.heap ∧ va_K (dC, dI) vwCl [(cI, .int)] U ∧ va_D (fun _ => True) [(ax, .inr (8, [.ref hd, .ref hf, .ref hs, .ref hp, .ref he, .ref q0, .ref q1, .ref qk, .int lt, .long fx, .int dn])), (hd, .inr (0, [.int (nI w), .int (nI b), .int wr, .ref qc, .ref qi, .int wa, .int wc])), MA9 qc cI (w * b) fc])) (va_Qi (fun (r : Int32) (fc2 : Nat → Int32) => r = decF w b p0 p1) (fun (fc2 : Nat → Int32) (t : State) => va_P (dC, dI) vwCl [(ax, .inr (8, [.ref hd, .ref hf, .ref hs, .ref hp, .ref he, .ref q0, .ref q1, .ref qk, .int lt, .long fx, .int dn])), (hd, .inr (0, [.int (nI w), .int (nI b), .int wr, .ref qc, .ref qi, .int wa, .int wc])), MA9 qc cI (w * b) fc2] t.heap ∧ va_K (dC, dI) vwCl [(cI, .int)] t ∧ va_D (va_A [(ax, .inr (8, [.ref hd, .ref hf, .ref hs, .ref hp, .ref he, .ref q0, .ref q1, .ref qk, .int lt, .long fx, .int dn])), (hd, .inr (0, [.int (nI w), .int (nI b), .int wr, .ref qc, .ref qi, .int wa, .int wc])), MA9 qc cI (w * b) fc] sz) [(ax, .inr (8, [.ref hd, .ref hf, .ref hs, .ref hp, .ref he, .ref q0, .ref q1, .ref qk, .int lt, .long fx, .int dn])), (hd, .inr (0, [.int (nI w), .int (nI b), .int wr, .ref qc, .ref qi, .int wa, .int wc])), MA9 qc cI (w * b) fc2]) (va_A [(ax, .inr (8, [.ref hd, .ref hf, .ref hs, .ref hp, .ref he, .ref q0, .ref q1, .ref qk, .int lt, .long fx, .int dn])), (hd, .inr (0, [.int (nI w), .int (nI b), .int wr, .ref qc, .ref qi, .int wa, .int wc])), MA9 qc cI (w * b) fc] sz)) 0 0 (va_A [(ax, .inr (8, [.ref hd, .ref hf, .ref hs, .ref hp, .ref he, .ref q0, .ref q1, .ref qk, .int lt, .long fx, .int dn])), (hd, .inr (0, [.int (nI w), .int (nI b), .int wr, .ref qc, .ref qi, .int wa, .int wc])), MA9 qc cI (w * b) fc] sz) := by
  refine Met.ofW (cc := cX8_decay) (maxL := 4) (ret := (some .boolean)) (by decide) rfl ?_
  intro p e s m args below meth c s₁ B hml hv
  obtain ⟨rfl, hsz, hP, hK, hD0⟩ := hv
  have hx := B.exec
  have hb := B.bytes
  have hr := B.returns
  have hts := atoms_spec (ws := v_X8_decay) B.pre
  have hown : s.vm.findClass RX8 = some m.cls := findClass_of_methodNamed B.named
  have hlocks := B.notSynchronized
  subst hsz
  have hD := hD0.self (sz := s.heap.size)
  generalize hAe : va_A [(ax, .inr (8, [.ref hd, .ref hf, .ref hs, .ref hp, .ref he, .ref q0, .ref q1, .ref qk, .int lt, .long fx, .int dn])), (hd, .inr (0, [.int (nI w), .int (nI b), .int wr, .ref qc, .ref qi, .int wa, .int wc])), MA9 qc cI (w * b) fc] s.heap.size = A at hD ⊢
  have hA : ∀ q : Nat, s.heap.size ≤ q → A q := fun q h => by rw [← hAe]; exact Or.inr h
  have hS : va_S A s.heap s.heap [] := va_S.rf
  have hP : va_P (dC, dI) vwCl [(ax, .inr (8, [.ref hd, .ref hf, .ref hs, .ref hp, .ref he, .ref q0, .ref q1, .ref qk, .int lt, .long fx, .int dn])), (hd, .inr (0, [.int (nI w), .int (nI b), .int wr, .ref qc, .ref qi, .int wa, .int wc])), MA9 qc cI (w * b) fc] s.heap := hP
  have hl := lv_entry ([.ref ax, .int p0, .int p1, .int p2]) (n := 4) (Nat.le_of_ble_eq_true rfl)
  rw [lg_entry_eq]
  generalize (lg_sl ([.ref ax, .int p0, .int p1, .int p2]) ++ List.replicate (4 - (lg_sl ([.ref ax, .int p0, .int p1, .int p2])).length) Slot.unset).toArray = ls at hl ⊢
  have hl : lv_has ls 4 [(0, .ref ax), (1, .int p0), (2, .int p1), (3, .int p2)] := hl
  have k_1 := (fun _ h => List.mem_cons_of_mem _ (List.mem_append_right _ (List.mem_append_left _ h)) : ∀ w ∈ wsX80, w ∈ v_X8_decay)
  have k_2 := hts (.fieldLink RX8 28 "TwinRoots" "disk" "LTwinRoots$Disk;") (List.mem_of_getElem? (i := 1) rfl)
  refine lv_aload_n hx hb dX8_decay_0 rfl (lv_at hl 0 rfl) ?_
  refine va_get (D := (dC, dI)) (ci := 8) (v := .ref hd) (C := RX8) (T := TX8) (N := 11) hx hb hts k_1 hown hK hP 0 rfl rfl 0 (by decide) k_2 (fun _ h9 => h9) rfl dX8_decay_1 ?_
  refine lv_iload_n hx hb dX8_decay_4 rfl (lv_at hl 1 rfl) ?_
  refine lv_iload_n hx hb dX8_decay_5 rfl (lv_at hl 2 rfl) ?_
  refine lv_iload_n hx hb dX8_decay_6 rfl (lv_at hl 3 rfl) ?_
  have hPc := hP.sub (ws' := [(hd, .inr (0, [.int (nI w), .int (nI b), .int wr, .ref qc, .ref qi, .int wa, .int wc])), MA9 qc cI (w * b) fc]) [1, 2] rfl
  have hDc := hD.sub (ws' := [(hd, .inr (0, [.int (nI w), .int (nI b), .int wr, .ref qc, .ref qi, .int wa, .int wc])), MA9 qc cI (w * b) fc]) [1, 2] (by decide) rfl
  have hKc := hK.sub (tys' := [(cI, .int)]) [0] rfl
  have hFc := va_free (wc := [(hd, .inr (0, [.int (nI w), .int (nI b), .int wr, .ref qc, .ref qi, .int wa, .int wc])), MA9 qc cI (w * b) fc]) hD hS hA [1, 2] rfl
  refine va_calli (va_runV (As := [.int p0, .int p1, .int p2]) (rest := []) ⟨hx, hb, hml, hown, hts⟩ (c_X0_turn l dC dI s.heap.size hd w b qc qi wr wa wc p0 p1 p2 cI fc (by first | assumption | omega | decide) (by first | assumption | omega | decide) (by first | assumption | omega | decide) (by first | assumption | omega | decide) (by first | assumption | omega | decide)) (cwV 3 hts g_X8_decay_X0_turn rfl rfl rfl (by decide +kernel) ⟨Nat.le_of_ble_eq_true rfl, Nat.le_of_ble_eq_true rfl⟩) ⟨fun a U g mk q => by obtain ⟨q0, q1, qP, qK, qD⟩ := q; exact ⟨q0, q1, qP, va_K.moved (u := U) (U := U.calling g mk a) (Vm.Alike.refl U.vm) qK, qD⟩, va_recv hKc hPc (ci := 0) (q0 := 0) rfl rfl, fun U hU hW => ⟨rfl, by rw [hU], by rw [hU]; exact hPc, va_K.moved hW.alike hKc, hDc.weaken (fun _ _ _ _ => trivial)⟩⟩ rfl rfl hl.1 rfl (lv_room (Nat.le_of_ble_eq_true rfl)) dX8_decay_7 ⟨(show 0 + 0 ≤ 0 by omega), (show 0 + 0 ≤ 0 by omega)⟩) hS (fun q _ h => hFc q h) hFc (fun r_1 u t H1 locs ht hvm hw hB hz1 hk1 hS9 => ?_)
  replace hS := hS9
  clear hS9
  obtain ⟨f2_2, rfl⟩ : ∃ z, z = u := ⟨_, rfl⟩
  obtain ⟨hP1, hK1, hD1⟩ := hB
  rw [ht] at hP1
  replace hK1 := va_K.moved hvm.symm hK1
  try dsimp only at hw
  obtain ⟨hP9, hD9⟩ := va_join (wr := [(ax, .inr (8, [.ref hd, .ref hf, .ref hs, .ref hp, .ref he, .ref q0, .ref q1, .ref qk, .int lt, .long fx, .int dn]))]) (w1 := [(hd, .inr (0, [.int (nI w), .int (nI b), .int wr, .ref qc, .ref qi, .int wa, .int wc])), MA9 qc cI (w * b) f2_2]) hP hD [1, 2] [0] rfl rfl (by decide) (by decide) hk1 hFc hP1 hD1
  replace hP := hP9
  replace hD := hD9
  clear hP9 hD9
  replace hK := (hK.sub (tys' := []) [] rfl).app hK1
  clear hP1 hD1 hK1 hPc hDc hKc hFc hk1 hz1 hvm ht
  generalize H1 = H at hP hS ⊢
  replace hP : va_P (dC, dI) vwCl [(ax, .inr (8, [.ref hd, .ref hf, .ref hs, .ref hp, .ref he, .ref q0, .ref q1, .ref qk, .int lt, .long fx, .int dn])), (hd, .inr (0, [.int (nI w), .int (nI b), .int wr, .ref qc, .ref qi, .int wa, .int wc])), MA9 qc cI (w * b) f2_2] H := hP
  replace hD : va_D A [(ax, .inr (8, [.ref hd, .ref hf, .ref hs, .ref hp, .ref he, .ref q0, .ref q1, .ref qk, .int lt, .long fx, .int dn])), (hd, .inr (0, [.int (nI w), .int (nI b), .int wr, .ref qc, .ref qi, .int wa, .int wc])), MA9 qc cI (w * b) f2_2] := hD
  replace hK : va_K (dC, dI) vwCl [(cI, .int)] s := hK
  have hw_r_1 := hw
  obtain rfl : r_1 = decF w b p0 p1 := hw
  have hP9 := hP.sub (ws' := [(ax, .inr (8, [.ref hd, .ref hf, .ref hs, .ref hp, .ref he, .ref q0, .ref q1, .ref qk, .int lt, .long fx, .int dn])), (hd, .inr (0, [.int (nI w), .int (nI b), .int wr, .ref qc, .ref qi, .int wa, .int wc])), MA9 qc cI (w * b) f2_2]) [0, 1, 2] rfl
  have hD9 := hD.sub (ws' := [(ax, .inr (8, [.ref hd, .ref hf, .ref hs, .ref hp, .ref he, .ref q0, .ref q1, .ref qk, .int lt, .long fx, .int dn])), (hd, .inr (0, [.int (nI w), .int (nI b), .int wr, .ref qc, .ref qi, .int wa, .int wc])), MA9 qc cI (w * b) f2_2]) [0, 1, 2] (by decide) rfl
  have hK9 := hK.sub (tys' := [(cI, .int)]) [0] rfl
  exact W.zret (v := (decF w b p0 p1)) hx hb hr decF_nar (fun t ht hW => ⟨⟨(decF w b p0 p1), (f2_2), rfl, rfl, by rw [ht]; exact hP9, va_K.moved hW.alike hK9, hD9⟩, hS.F ht⟩) hS.2.2 dX8_decay_10
def v_X8_word : List Cond := .code yX8_word cX8_word 3 (some .int) :: ([.fieldLink RX8 28 "TwinRoots" "disk" "LTwinRoots$Disk;", .code yX0_read cX0_read 4 (some .int), .code yX0_cellOf cX0_cellOf 4 (some .int), .fieldLink RX0 13 "TwinRoots$Disk" "blocks" "I", .fieldLink RX0 7 "TwinRoots$Disk" "words" "I", .methodLink RX0 38 yX0_cellOf, .instanceMethod yX0_cellOf, .selects RX0 yX0_cellOf yX0_cellOf, .initialized RX0, .fieldLink RX0 16 "TwinRoots$Disk" "cells" "[I", .methodLink RX8 192 yX0_read, .instanceMethod yX0_read, .selects RX0 yX0_read yX0_read] ++ (wsX80 ++ (wsX00 ++ ([]))))
set_option maxRecDepth 20000 in
theorem g_X8_word_X0_read_any : GoodIn v_X8_word (wsV RX8 192 RX0 yX0_read v_X0_read_any) := goodIn_r _ [11, 12, 13, 9, 2, 3, 4, 5, 6, 7, 8, 9, 10, 25, 26, 27, 28, 29, 30, 31] (by decide +kernel) (by decide +kernel)
set_option maxHeartbeats 4000000 in
set_option maxRecDepth 100000 in
/-- X8_word -/
theorem c_X8_word (l : Launch) (dC : Nat → ClassId) (dI : Nat → Nat → Nat) (sz : Nat) (ax : Nat) (hd : Nat) (hf : Nat) (hs : Nat) (hp : Nat) (he : Nat) (q0 : Nat) (q1 : Nat) (qk : Nat) (qc : Nat) (qi : Nat) (w : Nat) (b : Nat) (lt : Int32) (dn : Int32) (wr : Int32) (wa : Int32) (wc : Int32) (fx : Int64) (fc : Nat → Int32) (cI : ClassId) (p0 : Int32) (p1 : Int32) (zw0 : 12 ≤ w) (zw : w ≤ 40) (zb0 : 4 ≤ b) (zb : b ≤ 64) (zwb : w * b ≤ 2560) : Met l yX8_word v_X8_word ({ frames := 2, cells := 0, slots := 0, locals := 46 } : Room) (va_Pc [.ref ax, .int p0, .int p1] (fun U => U.heap.size = sz ∧ va_P (dC, dI) vwCl [(ax, .inr (8, [.ref hd, .ref hf, .ref hs, .ref hp, .ref he, .ref q0, .ref q1, .ref qk, .int lt, .long fx, .int dn])), (hd, .inr (0, [.int (nI w), .int (nI b), .int wr, .ref qc, .ref qi, .int wa, .int wc])), MA9 qc cI (w * b) fc] U.heap ∧ va_K (dC, dI) vwCl [(cI, .int)] U ∧ va_D (fun _ => True) [(ax, .inr (8, [.ref hd, .ref hf, .ref hs, .ref hp, .ref he, .ref q0, .ref q1, .ref qk, .int lt, .long fx, .int dn])), (hd, .inr (0, [.int (nI w), .int (nI b), .int wr, .ref qc, .ref qi, .int wa, .int wc])), MA9 qc cI (w * b) fc])) (va_Qi (fun (r : Int32) (_ : Unit) => True) (fun (_ : Unit) (t : State) => va_P (dC, dI) vwCl [(ax, .inr (8, [.ref hd, .ref hf, .ref hs, .ref hp, .ref he, .ref q0, .ref q1, .ref qk, .int lt, .long fx, .int dn])), (hd, .inr (0, [.int (nI w), .int (nI b), .int wr, .ref qc, .ref qi, .int wa, .int wc])), MA9 qc cI (w * b) fc] t.heap ∧ va_K (dC, dI) vwCl [(cI, .int)] t ∧ va_D (va_A [(ax, .inr (8, [.ref hd, .ref hf, .ref hs, .ref hp, .ref he, .ref q0, .ref q1, .ref qk, .int lt, .long fx, .int dn])), (hd, .inr (0, [.int (nI w), .int (nI b), .int wr, .ref qc, .ref qi, .int wa, .int wc])), MA9 qc cI (w * b) fc] sz) [(ax, .inr (8, [.ref hd, .ref hf, .ref hs, .ref hp, .ref he, .ref q0, .ref q1, .ref qk, .int lt, .long fx, .int dn])), (hd, .inr (0, [.int (nI w), .int (nI b), .int wr, .ref qc, .ref qi, .int wa, .int wc])), MA9 qc cI (w * b) fc]) (va_A [(ax, .inr (8, [.ref hd, .ref hf, .ref hs, .ref hp, .ref he, .ref q0, .ref q1, .ref qk, .int lt, .long fx, .int dn])), (hd, .inr (0, [.int (nI w), .int (nI b), .int wr, .ref qc, .ref qi, .int wa, .int wc])), MA9 qc cI (w * b) fc] sz)) 0 0 (va_A [(ax, .inr (8, [.ref hd, .ref hf, .ref hs, .ref hp, .ref he, .ref q0, .ref q1, .ref qk, .int lt, .long fx, .int dn])), (hd, .inr (0, [.int (nI w), .int (nI b), .int wr, .ref qc, .ref qi, .int wa, .int wc])), MA9 qc cI (w * b) fc] sz) := by
  refine Met.ofW (cc := cX8_word) (maxL := 3) (ret := (some .int)) (by decide) rfl ?_
  intro p e s m args below meth c s₁ B hml hv
  obtain ⟨rfl, hsz, hP, hK, hD0⟩ := hv
  have hx := B.exec
  have hb := B.bytes
  have hr := B.returns
  have hts := atoms_spec (ws := v_X8_word) B.pre
  have hown : s.vm.findClass RX8 = some m.cls := findClass_of_methodNamed B.named
  have hlocks := B.notSynchronized
  subst hsz
  have hD := hD0.self (sz := s.heap.size)
  generalize hAe : va_A [(ax, .inr (8, [.ref hd, .ref hf, .ref hs, .ref hp, .ref he, .ref q0, .ref q1, .ref qk, .int lt, .long fx, .int dn])), (hd, .inr (0, [.int (nI w), .int (nI b), .int wr, .ref qc, .ref qi, .int wa, .int wc])), MA9 qc cI (w * b) fc] s.heap.size = A at hD ⊢
  have hA : ∀ q : Nat, s.heap.size ≤ q → A q := fun q h => by rw [← hAe]; exact Or.inr h
  have hS : va_S A s.heap s.heap [] := va_S.rf
  have hP : va_P (dC, dI) vwCl [(ax, .inr (8, [.ref hd, .ref hf, .ref hs, .ref hp, .ref he, .ref q0, .ref q1, .ref qk, .int lt, .long fx, .int dn])), (hd, .inr (0, [.int (nI w), .int (nI b), .int wr, .ref qc, .ref qi, .int wa, .int wc])), MA9 qc cI (w * b) fc] s.heap := hP
  have hl := lv_entry ([.ref ax, .int p0, .int p1]) (n := 3) (Nat.le_of_ble_eq_true rfl)
  rw [lg_entry_eq]
  generalize (lg_sl ([.ref ax, .int p0, .int p1]) ++ List.replicate (3 - (lg_sl ([.ref ax, .int p0, .int p1])).length) Slot.unset).toArray = ls at hl ⊢
  have hl : lv_has ls 3 [(0, .ref ax), (1, .int p0), (2, .int p1)] := hl
  have k_1 := (fun _ h => List.mem_cons_of_mem _ (List.mem_append_right _ (List.mem_append_left _ h)) : ∀ w ∈ wsX80, w ∈ v_X8_word)
  have k_2 := hts (.fieldLink RX8 28 "TwinRoots" "disk" "LTwinRoots$Disk;") (List.mem_of_getElem? (i := 1) rfl)
  refine lv_aload_n hx hb dX8_word_0 rfl (lv_at hl 0 rfl) ?_
  refine va_get (D := (dC, dI)) (ci := 8) (v := .ref hd) (C := RX8) (T := TX8) (N := 11) hx hb hts k_1 hown hK hP 0 rfl rfl 0 (by decide) k_2 (fun _ h9 => h9) rfl dX8_word_1 ?_
  refine lv_iload_n hx hb dX8_word_4 rfl (lv_at hl 1 rfl) ?_
  refine lv_iload_n hx hb dX8_word_5 rfl (lv_at hl 2 rfl) ?_
  have hPc := hP.sub (ws' := [(hd, .inr (0, [.int (nI w), .int (nI b), .int wr, .ref qc, .ref qi, .int wa, .int wc])), MA9 qc cI (w * b) fc]) [1, 2] rfl
  have hDc := hD.sub (ws' := [(hd, .inr (0, [.int (nI w), .int (nI b), .int wr, .ref qc, .ref qi, .int wa, .int wc])), MA9 qc cI (w * b) fc]) [1, 2] (by decide) rfl
  have hKc := hK.sub (tys' := [(cI, .int)]) [0] rfl
  have hFc := va_free (wc := [(hd, .inr (0, [.int (nI w), .int (nI b), .int wr, .ref qc, .ref qi, .int wa, .int wc])), MA9 qc cI (w * b) fc]) hD hS hA [1, 2] rfl
  refine va_calli (va_runV (As := [.int p0, .int p1]) (rest := []) ⟨hx, hb, hml, hown, hts⟩ (c_X0_read_any l dC dI s.heap.size hd w b qc qi wr wa wc p0 p1 cI fc (by first | assumption | omega | decide) (by first | assumption | omega | decide) (by first | assumption | omega | decide) (by first | assumption | omega | decide) (by first | assumption | omega | decide)) (cwV 2 hts g_X8_word_X0_read_any rfl rfl rfl (by decide +kernel) ⟨Nat.le_of_ble_eq_true rfl, Nat.le_of_ble_eq_true rfl⟩) ⟨fun a U g mk q => by obtain ⟨q0, q1, qP, qK, qD⟩ := q; exact ⟨q0, q1, qP, va_K.moved (u := U) (U := U.calling g mk a) (Vm.Alike.refl U.vm) qK, qD⟩, va_recv hKc hPc (ci := 0) (q0 := 0) rfl rfl, fun U hU hW => ⟨rfl, by rw [hU], by rw [hU]; exact hPc, va_K.moved hW.alike hKc, hDc.weaken (fun _ _ _ _ => trivial)⟩⟩ rfl rfl hl.1 rfl (lv_room (Nat.le_of_ble_eq_true rfl)) dX8_word_6 ⟨(show 0 + 0 ≤ 0 by omega), (show 0 + 0 ≤ 0 by omega)⟩) hS (fun q _ h => hFc q h) hFc (fun r_1 u t H1 locs ht hvm hw hB hz1 hk1 hS9 => ?_)
  replace hS := hS9
  clear hS9
  obtain ⟨hP1, hK1, hD1⟩ := hB
  rw [ht] at hP1
  replace hK1 := va_K.moved hvm.symm hK1
  try dsimp only at hw
  obtain ⟨hP9, hD9⟩ := va_join (wr := [(ax, .inr (8, [.ref hd, .ref hf, .ref hs, .ref hp, .ref he, .ref q0, .ref q1, .ref qk, .int lt, .long fx, .int dn]))]) (w1 := [(hd, .inr (0, [.int (nI w), .int (nI b), .int wr, .ref qc, .ref qi, .int wa, .int wc])), MA9 qc cI (w * b) fc]) hP hD [1, 2] [0] rfl rfl (by decide) (by decide) hk1 hFc hP1 hD1
  replace hP := hP9
  replace hD := hD9
  clear hP9 hD9
  replace hK := (hK.sub (tys' := []) [] rfl).app hK1
  clear hP1 hD1 hK1 hPc hDc hKc hFc hk1 hz1 hvm ht
  generalize H1 = H at hP hS ⊢
  replace hP : va_P (dC, dI) vwCl [(ax, .inr (8, [.ref hd, .ref hf, .ref hs, .ref hp, .ref he, .ref q0, .ref q1, .ref qk, .int lt, .long fx, .int dn])), (hd, .inr (0, [.int (nI w), .int (nI b), .int wr, .ref qc, .ref qi, .int wa, .int wc])), MA9 qc cI (w * b) fc] H := hP
  replace hD : va_D A [(ax, .inr (8, [.ref hd, .ref hf, .ref hs, .ref hp, .ref he, .ref q0, .ref q1, .ref qk, .int lt, .long fx, .int dn])), (hd, .inr (0, [.int (nI w), .int (nI b), .int wr, .ref qc, .ref qi, .int wa, .int wc])), MA9 qc cI (w * b) fc] := hD
  replace hK : va_K (dC, dI) vwCl [(cI, .int)] s := hK
  have hw_r_1 := hw
  have hP9 := hP.sub (ws' := [(ax, .inr (8, [.ref hd, .ref hf, .ref hs, .ref hp, .ref he, .ref q0, .ref q1, .ref qk, .int lt, .long fx, .int dn])), (hd, .inr (0, [.int (nI w), .int (nI b), .int wr, .ref qc, .ref qi, .int wa, .int wc])), MA9 qc cI (w * b) fc]) [0, 1, 2] rfl
  have hD9 := hD.sub (ws' := [(ax, .inr (8, [.ref hd, .ref hf, .ref hs, .ref hp, .ref he, .ref q0, .ref q1, .ref qk, .int lt, .long fx, .int dn])), (hd, .inr (0, [.int (nI w), .int (nI b), .int wr, .ref qc, .ref qi, .int wa, .int wc])), MA9 qc cI (w * b) fc]) [0, 1, 2] (by decide) rfl
  have hK9 := hK.sub (tys' := [(cI, .int)]) [0] rfl
  exact W.iret (v := r_1) hx hb hr (fun t ht hW => ⟨⟨r_1, (), rfl, trivial, by rw [ht]; exact hP9, va_K.moved hW.alike hK9, hD9⟩, hS.F ht⟩) hS.2.2 dX8_word_9
def v_X8_block : List Cond := .code yX8_block cX8_block 2 (some .int) :: ([.fieldLink RX8 77 "TwinRoots" "down" "Z", .fieldLink RX8 28 "TwinRoots" "disk" "LTwinRoots$Disk;", .fieldLink RX8 195 "TwinRoots$Disk" "blocks" "I", .fieldLink RX8 74 "TwinRoots" "working" "LTwinRoots$Told;", .fieldLink RX8 103 "TwinRoots$Told" "reach" "J", .code yX8_holds cX8_holds 3 (some .boolean), .code yX8_bit cX8_bit 1 (some .long), .methodLink RX8 227 yX8_bit, .static yX8_bit, .initialized RX8, .methodLink RX8 198 yX8_holds, .static yX8_holds, .code yX8_freeBlocks cX8_freeBlocks 6 (some .long), .fieldLink RX8 67 "TwinRoots" "rootZero" "LTwinRoots$Told;", .fieldLink RX8 71 "TwinRoots" "rootOne" "LTwinRoots$Told;", .methodLink RX8 95 yX8_freeBlocks, .instanceMethod yX8_freeBlocks, .selects RX8 yX8_freeBlocks yX8_freeBlocks, .fieldLink RX8 99 "TwinRoots" "fresh" "J"] ++ (wsX80 ++ (wsX00 ++ (wsX70 ++ ([])))))
set_option maxRecDepth 20000 in
theorem g_X8_block_X8_holds : GoodIn v_X8_block (va_wsS RX8 198 yX8_holds v_X8_holds) := goodIn_r _ [11, 12, 10, 6, 7, 8, 9, 10] (by decide +kernel) (by decide +kernel)
set_option maxRecDepth 20000 in
theorem g_X8_block_X8_freeBlocks : GoodIn v_X8_block (wsV RX8 95 RX8 yX8_freeBlocks v_X8_freeBlocks) := goodIn_r _ [16, 17, 18, 10, 13, 4, 5, 14, 15, 2, 3, 6, 7, 8, 9, 10, 11, 12, 20, 21, 22, 23, 24, 25, 26, 27, 28, 29, 30, 38, 39, 40, 41, 31, 32, 33, 34, 35, 36, 37] (by decide +kernel) (by decide +kernel)
set_option maxHeartbeats 4000000 in
set_option maxRecDepth 100000 in
/-- X8_block -/
theorem c_X8_block (l : Launch) (dC : Nat → ClassId) (dI : Nat → Nat → Nat) (sz : Nat) (ax : Nat) (hd : Nat) (hf : Nat) (hs : Nat) (hp : Nat) (he : Nat) (q0 : Nat) (q1 : Nat) (qk : Nat) (qc : Nat) (qi : Nat) (w : Nat) (b : Nat) (lt : Int32) (dn : Int32) (wr : Int32) (wa : Int32) (wc : Int32) (a1 : Int32) (a2 : Int32) (a3 : Int32) (b1 : Int32) (b2 : Int32) (b3 : Int32) (c1 : Int32) (c2 : Int32) (c3 : Int32) (fx : Int64) (a4 : Int64) (b4 : Int64) (c4 : Int64) (p0 : Int32) (zw0 : 12 ≤ w) (zw : w ≤ 40) (zb0 : 4 ≤ b) (zb : b ≤ 64) (zwb : w * b ≤ 2560) : Met l yX8_block v_X8_block ({ frames := 3, cells := 0, slots := 0, locals := 67 } : Room) (va_Pc [.ref ax, .int p0] (fun U => U.heap.size = sz ∧ va_P (dC, dI) vwCl [(ax, .inr (8, [.ref hd, .ref hf, .ref hs, .ref hp, .ref he, .ref q0, .ref q1, .ref qk, .int lt, .long fx, .int dn])), (hd, .inr (0, [.int (nI w), .int (nI b), .int wr, .ref qc, .ref qi, .int wa, .int wc])), (q0, .inr (7, [.int a1, .int a2, .int a3, .long a4])), (q1, .inr (7, [.int b1, .int b2, .int b3, .long b4])), (qk, .inr (7, [.int c1, .int c2, .int c3, .long c4]))] U.heap ∧ va_K (dC, dI) vwCl [] U ∧ va_D (fun _ => True) [(ax, .inr (8, [.ref hd, .ref hf, .ref hs, .ref hp, .ref he, .ref q0, .ref q1, .ref qk, .int lt, .long fx, .int dn])), (hd, .inr (0, [.int (nI w), .int (nI b), .int wr, .ref qc, .ref qi, .int wa, .int wc])), (q0, .inr (7, [.int a1, .int a2, .int a3, .long a4])), (q1, .inr (7, [.int b1, .int b2, .int b3, .long b4])), (qk, .inr (7, [.int c1, .int c2, .int c3, .long c4]))])) (va_Qi (fun (r : Int32) (_ : Unit) => True) (fun (_ : Unit) (t : State) => va_P (dC, dI) vwCl [(ax, .inr (8, [.ref hd, .ref hf, .ref hs, .ref hp, .ref he, .ref q0, .ref q1, .ref qk, .int lt, .long fx, .int dn])), (hd, .inr (0, [.int (nI w), .int (nI b), .int wr, .ref qc, .ref qi, .int wa, .int wc])), (q0, .inr (7, [.int a1, .int a2, .int a3, .long a4])), (q1, .inr (7, [.int b1, .int b2, .int b3, .long b4])), (qk, .inr (7, [.int c1, .int c2, .int c3, .long c4]))] t.heap ∧ va_K (dC, dI) vwCl [] t ∧ va_D (va_A [(ax, .inr (8, [.ref hd, .ref hf, .ref hs, .ref hp, .ref he, .ref q0, .ref q1, .ref qk, .int lt, .long fx, .int dn])), (hd, .inr (0, [.int (nI w), .int (nI b), .int wr, .ref qc, .ref qi, .int wa, .int wc])), (q0, .inr (7, [.int a1, .int a2, .int a3, .long a4])), (q1, .inr (7, [.int b1, .int b2, .int b3, .long b4])), (qk, .inr (7, [.int c1, .int c2, .int c3, .long c4]))] sz) [(ax, .inr (8, [.ref hd, .ref hf, .ref hs, .ref hp, .ref he, .ref q0, .ref q1, .ref qk, .int lt, .long fx, .int dn])), (hd, .inr (0, [.int (nI w), .int (nI b), .int wr, .ref qc, .ref qi, .int wa, .int wc])), (q0, .inr (7, [.int a1, .int a2, .int a3, .long a4])), (q1, .inr (7, [.int b1, .int b2, .int b3, .long b4])), (qk, .inr (7, [.int c1, .int c2, .int c3, .long c4]))]) (va_A [(ax, .inr (8, [.ref hd, .ref hf, .ref hs, .ref hp, .ref he, .ref q0, .ref q1, .ref qk, .int lt, .long fx, .int dn])), (hd, .inr (0, [.int (nI w), .int (nI b), .int wr, .ref qc, .ref qi, .int wa, .int wc])), (q0, .inr (7, [.int a1, .int a2, .int a3, .long a4])), (q1, .inr (7, [.int b1, .int b2, .int b3, .long b4])), (qk, .inr (7, [.int c1, .int c2, .int c3, .long c4]))] sz)) 0 0 (va_A [(ax, .inr (8, [.ref hd, .ref hf, .ref hs, .ref hp, .ref he, .ref q0, .ref q1, .ref qk, .int lt, .long fx, .int dn])), (hd, .inr (0, [.int (nI w), .int (nI b), .int wr, .ref qc, .ref qi, .int wa, .int wc])), (q0, .inr (7, [.int a1, .int a2, .int a3, .long a4])), (q1, .inr (7, [.int b1, .int b2, .int b3, .long b4])), (qk, .inr (7, [.int c1, .int c2, .int c3, .long c4]))] sz) := by
  refine Met.ofW (cc := cX8_block) (maxL := 2) (ret := (some .int)) (by decide) rfl ?_
  intro p e s m args below meth c s₁ B hml hv
  obtain ⟨rfl, hsz, hP, hK, hD0⟩ := hv
  have hx := B.exec
  have hb := B.bytes
  have hr := B.returns
  have hts := atoms_spec (ws := v_X8_block) B.pre
  have hown : s.vm.findClass RX8 = some m.cls := findClass_of_methodNamed B.named
  have hlocks := B.notSynchronized
  subst hsz
  have hD := hD0.self (sz := s.heap.size)
  generalize hAe : va_A [(ax, .inr (8, [.ref hd, .ref hf, .ref hs, .ref hp, .ref he, .ref q0, .ref q1, .ref qk, .int lt, .long fx, .int dn])), (hd, .inr (0, [.int (nI w), .int (nI b), .int wr, .ref qc, .ref qi, .int wa, .int wc])), (q0, .inr (7, [.int a1, .int a2, .int a3, .long a4])), (q1, .inr (7, [.int b1, .int b2, .int b3, .long b4])), (qk, .inr (7, [.int c1, .int c2, .int c3, .long c4]))] s.heap.size = A at hD ⊢
  have hA : ∀ q : Nat, s.heap.size ≤ q → A q := fun q h => by rw [← hAe]; exact Or.inr h
  have hS : va_S A s.heap s.heap [] := va_S.rf
  have hP : va_P (dC, dI) vwCl [(ax, .inr (8, [.ref hd, .ref hf, .ref hs, .ref hp, .ref he, .ref q0, .ref q1, .ref qk, .int lt, .long fx, .int dn])), (hd, .inr (0, [.int (nI w), .int (nI b), .int wr, .ref qc, .ref qi, .int wa, .int wc])), (q0, .inr (7, [.int a1, .int a2, .int a3, .long a4])), (q1, .inr (7, [.int b1, .int b2, .int b3, .long b4])), (qk, .inr (7, [.int c1, .int c2, .int c3, .long c4]))] s.heap := hP
  have hl := lv_entry ([.ref ax, .int p0]) (n := 2) (Nat.le_of_ble_eq_true rfl)
  rw [lg_entry_eq]
  generalize (lg_sl ([.ref ax, .int p0]) ++ List.replicate (2 - (lg_sl ([.ref ax, .int p0])).length) Slot.unset).toArray = ls at hl ⊢
  have hl : lv_has ls 2 [(0, .ref ax), (1, .int p0)] := hl
  have k_1 := (fun _ h => List.mem_cons_of_mem _ (List.mem_append_right _ (List.mem_append_left _ h)) : ∀ w ∈ wsX80, w ∈ v_X8_block)
  have k_2 := hts (.fieldLink RX8 77 "TwinRoots" "down" "Z") (List.mem_of_getElem? (i := 1) rfl)
  have k_3 := hts (.fieldLink RX8 28 "TwinRoots" "disk" "LTwinRoots$Disk;") (List.mem_of_getElem? (i := 2) rfl)
  have k_4 := (fun _ h => List.mem_cons_of_mem _ (List.mem_append_right _ (List.mem_append_right _ (List.mem_append_left _ h))) : ∀ w ∈ wsX00, w ∈ v_X8_block)
  have k_5 := hts (.fieldLink RX8 195 "TwinRoots$Disk" "blocks" "I") (List.mem_of_getElem? (i := 3) rfl)
  have k_6 := hts (.fieldLink RX8 74 "TwinRoots" "working" "LTwinRoots$Told;") (List.mem_of_getElem? (i := 4) rfl)
  have k_7 := (fun _ h => List.mem_cons_of_mem _ (List.mem_append_right _ (List.mem_append_right _ (List.mem_append_right _ (List.mem_append_left _ h)))) : ∀ w ∈ wsX70, w ∈ v_X8_block)
  have k_8 := hts (.fieldLink RX8 103 "TwinRoots$Told" "reach" "J") (List.mem_of_getElem? (i := 5) rfl)
  have k_9 := hts (.fieldLink RX8 99 "TwinRoots" "fresh" "J") (List.mem_of_getElem? (i := 19) rfl)
  refine lv_aload_n hx hb dX8_block_0 rfl (lv_at hl 0 rfl) ?_
  refine va_get (D := (dC, dI)) (ci := 8) (v := .int dn) (C := RX8) (T := TX8) (N := 11) hx hb hts k_1 hown hK hP 0 rfl rfl 10 (by decide) k_2 (fun _ h9 => h9) rfl dX8_block_1 ?_
  refine lv_if_ne (tgt := 22) hx hb dX8_block_4 (by decide) (fun c_1 => ?_) (fun c_1 => ?_)
  · refine lv_iconst (v := -1) hx hb dX8_block_22 (by decide) ?_
    have hP9 := hP.sub (ws' := [(ax, .inr (8, [.ref hd, .ref hf, .ref hs, .ref hp, .ref he, .ref q0, .ref q1, .ref qk, .int lt, .long fx, .int dn])), (hd, .inr (0, [.int (nI w), .int (nI b), .int wr, .ref qc, .ref qi, .int wa, .int wc])), (q0, .inr (7, [.int a1, .int a2, .int a3, .long a4])), (q1, .inr (7, [.int b1, .int b2, .int b3, .long b4])), (qk, .inr (7, [.int c1, .int c2, .int c3, .long c4]))]) [0, 1, 2, 3, 4] rfl
    have hD9 := hD.sub (ws' := [(ax, .inr (8, [.ref hd, .ref hf, .ref hs, .ref hp, .ref he, .ref q0, .ref q1, .ref qk, .int lt, .long fx, .int dn])), (hd, .inr (0, [.int (nI w), .int (nI b), .int wr, .ref qc, .ref qi, .int wa, .int wc])), (q0, .inr (7, [.int a1, .int a2, .int a3, .long a4])), (q1, .inr (7, [.int b1, .int b2, .int b3, .long b4])), (qk, .inr (7, [.int c1, .int c2, .int c3, .long c4]))]) [0, 1, 2, 3, 4] (by decide) rfl
    have hK9 := hK.sub (tys' := []) [] rfl
    exact W.iret (v := (-1)) hx hb hr (fun t ht hW => ⟨⟨(-1), (), rfl, trivial, by rw [ht]; exact hP9, va_K.moved hW.alike hK9, hD9⟩, hS.F ht⟩) hS.2.2 dX8_block_23
  · refine lv_iload_n hx hb dX8_block_7 rfl (lv_at hl 1 rfl) ?_
    refine lv_if_lt (tgt := 22) hx hb dX8_block_8 (by decide) (fun c_2 => ?_) (fun c_2 => ?_)
    · refine lv_iconst (v := -1) hx hb dX8_block_22 (by decide) ?_
      have hP9 := hP.sub (ws' := [(ax, .inr (8, [.ref hd, .ref hf, .ref hs, .ref hp, .ref he, .ref q0, .ref q1, .ref qk, .int lt, .long fx, .int dn])), (hd, .inr (0, [.int (nI w), .int (nI b), .int wr, .ref qc, .ref qi, .int wa, .int wc])), (q0, .inr (7, [.int a1, .int a2, .int a3, .long a4])), (q1, .inr (7, [.int b1, .int b2, .int b3, .long b4])), (qk, .inr (7, [.int c1, .int c2, .int c3, .long c4]))]) [0, 1, 2, 3, 4] rfl
      have hD9 := hD.sub (ws' := [(ax, .inr (8, [.ref hd, .ref hf, .ref hs, .ref hp, .ref he, .ref q0, .ref q1, .ref qk, .int lt, .long fx, .int dn])), (hd, .inr (0, [.int (nI w), .int (nI b), .int wr, .ref qc, .ref qi, .int wa, .int wc])), (q0, .inr (7, [.int a1, .int a2, .int a3, .long a4])), (q1, .inr (7, [.int b1, .int b2, .int b3, .long b4])), (qk, .inr (7, [.int c1, .int c2, .int c3, .long c4]))]) [0, 1, 2, 3, 4] (by decide) rfl
      have hK9 := hK.sub (tys' := []) [] rfl
      exact W.iret (v := (-1)) hx hb hr (fun t ht hW => ⟨⟨(-1), (), rfl, trivial, by rw [ht]; exact hP9, va_K.moved hW.alike hK9, hD9⟩, hS.F ht⟩) hS.2.2 dX8_block_23
    · refine lv_iload_n hx hb dX8_block_11 rfl (lv_at hl 1 rfl) ?_
      refine lv_aload_n hx hb dX8_block_12 rfl (lv_at hl 0 rfl) ?_
      refine va_get (D := (dC, dI)) (ci := 8) (v := .ref hd) (C := RX8) (T := TX8) (N := 11) hx hb hts k_1 hown hK hP 0 rfl rfl 0 (by decide) k_3 (fun _ h9 => h9) rfl dX8_block_13 ?_
      refine va_get (D := (dC, dI)) (ci := 0) (v := .int (nI b)) (C := RX0) (T := TX0) (N := 7) hx hb hts k_4 hown hK hP 1 rfl rfl 1 (by decide) k_5 (fun _ h9 => h9) rfl dX8_block_16 ?_
      refine lv_icmp_lt (tgt := 24) hx hb dX8_block_19 (by decide) (fun c_3 => ?_) (fun c_3 => ?_)
      · refine lv_iload_n hx hb dX8_block_24 rfl (lv_at hl 1 rfl) ?_
        refine lv_iconst (v := 2) hx hb dX8_block_25 (by decide) ?_
        refine lv_icmp_ge (tgt := 31) hx hb dX8_block_26 (by decide) (fun c_4 => ?_) (fun c_4 => ?_)
        · refine lv_aload_n hx hb dX8_block_31 rfl (lv_at hl 0 rfl) ?_
          refine va_get (D := (dC, dI)) (ci := 8) (v := .ref qk) (C := RX8) (T := TX8) (N := 11) hx hb hts k_1 hown hK hP 0 rfl rfl 7 (by decide) k_6 (fun _ h9 => h9) rfl dX8_block_32 ?_
          refine va_get (D := (dC, dI)) (ci := 7) (v := .long c4) (C := RX7) (T := TX7) (N := 4) hx hb hts k_7 hown hK hP 4 rfl rfl 3 (by decide) k_8 (fun _ h9 => h9) rfl dX8_block_35 ?_
          refine lv_iload_n hx hb dX8_block_38 rfl (lv_at hl 1 rfl) ?_
          have hPc := hP.sub (ws' := []) [] rfl
          have hDc := hD.sub (ws' := []) [] (by decide) rfl
          have hKc := hK.sub (tys' := []) [] rfl
          have hFc := va_free (wc := []) hD hS hA [] rfl
          refine va_calli (va_runS (As := [.long c4, .int p0]) (rest := []) ⟨hx, hb, hml, hown, hts⟩ (c_X8_holds l dC dI s.heap.size c4 p0) (va_cwS 2 hts g_X8_block_X8_holds rfl rfl rfl (by decide +kernel) ⟨Nat.le_of_ble_eq_true rfl, Nat.le_of_ble_eq_true rfl⟩) ⟨fun a U g mk q => by obtain ⟨q0, q1, qP, qK, qD⟩ := q; exact ⟨q0, q1, qP, va_K.moved (u := U) (U := U.calling g mk a) (Vm.Alike.refl U.vm) qK, qD⟩, fun U hU hW => ⟨rfl, by rw [hU], by rw [hU]; exact hPc, va_K.moved hW.alike hKc, hDc.weaken (fun _ _ _ _ => trivial)⟩⟩ rfl rfl hl.1 rfl (lv_room (Nat.le_of_ble_eq_true rfl)) dX8_block_39 ⟨(show 0 + 0 ≤ 0 by omega), (show 0 + 0 ≤ 0 by omega)⟩) hS (fun q _ h => hFc q h) hFc (fun r_5 u t H1 locs ht hvm hw hB hz1 hk1 hS9 => ?_)
          replace hS := hS9
          clear hS9
          obtain ⟨hP1, hK1, hD1⟩ := hB
          rw [ht] at hP1
          replace hK1 := va_K.moved hvm.symm hK1
          try dsimp only at hw
          obtain ⟨hP9, hD9⟩ := va_join (wr := [(ax, .inr (8, [.ref hd, .ref hf, .ref hs, .ref hp, .ref he, .ref q0, .ref q1, .ref qk, .int lt, .long fx, .int dn])), (hd, .inr (0, [.int (nI w), .int (nI b), .int wr, .ref qc, .ref qi, .int wa, .int wc])), (q0, .inr (7, [.int a1, .int a2, .int a3, .long a4])), (q1, .inr (7, [.int b1, .int b2, .int b3, .long b4])), (qk, .inr (7, [.int c1, .int c2, .int c3, .long c4]))]) (w1 := []) hP hD [] [0, 1, 2, 3, 4] rfl rfl (by decide) (by decide) hk1 hFc hP1 hD1
          replace hP := hP9
          replace hD := hD9
          clear hP9 hD9
          replace hK := (hK.sub (tys' := []) [] rfl).app hK1
          clear hP1 hD1 hK1 hPc hDc hKc hFc hk1 hz1 hvm ht
          generalize H1 = H at hP hS ⊢
          replace hP : va_P (dC, dI) vwCl [(ax, .inr (8, [.ref hd, .ref hf, .ref hs, .ref hp, .ref he, .ref q0, .ref q1, .ref qk, .int lt, .long fx, .int dn])), (hd, .inr (0, [.int (nI w), .int (nI b), .int wr, .ref qc, .ref qi, .int wa, .int wc])), (q0, .inr (7, [.int a1, .int a2, .int a3, .long a4])), (q1, .inr (7, [.int b1, .int b2, .int b3, .long b4])), (qk, .inr (7, [.int c1, .int c2, .int c3, .long c4]))] H := hP
          replace hD : va_D A [(ax, .inr (8, [.ref hd, .ref hf, .ref hs, .ref hp, .ref he, .ref q0, .ref q1, .ref qk, .int lt, .long fx, .int dn])), (hd, .inr (0, [.int (nI w), .int (nI b), .int wr, .ref qc, .ref qi, .int wa, .int wc])), (q0, .inr (7, [.int a1, .int a2, .int a3, .long a4])), (q1, .inr (7, [.int b1, .int b2, .int b3, .long b4])), (qk, .inr (7, [.int c1, .int c2, .int c3, .long c4]))] := hD
          replace hK : va_K (dC, dI) vwCl [] s := hK
          have hw_r_5 := hw
          refine lv_if_eq (tgt := 62) hx hb dX8_block_42 (by decide) (fun c_6 => ?_) (fun c_6 => ?_)
          · refine lv_aload_n hx hb dX8_block_62 rfl (lv_at hl 0 rfl) ?_
            have hPc := hP.sub (ws' := [(ax, .inr (8, [.ref hd, .ref hf, .ref hs, .ref hp, .ref he, .ref q0, .ref q1, .ref qk, .int lt, .long fx, .int dn])), (hd, .inr (0, [.int (nI w), .int (nI b), .int wr, .ref qc, .ref qi, .int wa, .int wc])), (q0, .inr (7, [.int a1, .int a2, .int a3, .long a4])), (q1, .inr (7, [.int b1, .int b2, .int b3, .long b4])), (qk, .inr (7, [.int c1, .int c2, .int c3, .long c4]))]) [0, 1, 2, 3, 4] rfl
            have hDc := hD.sub (ws' := [(ax, .inr (8, [.ref hd, .ref hf, .ref hs, .ref hp, .ref he, .ref q0, .ref q1, .ref qk, .int lt, .long fx, .int dn])), (hd, .inr (0, [.int (nI w), .int (nI b), .int wr, .ref qc, .ref qi, .int wa, .int wc])), (q0, .inr (7, [.int a1, .int a2, .int a3, .long a4])), (q1, .inr (7, [.int b1, .int b2, .int b3, .long b4])), (qk, .inr (7, [.int c1, .int c2, .int c3, .long c4]))]) [0, 1, 2, 3, 4] (by decide) rfl
            have hKc := hK.sub (tys' := []) [] rfl
            have hFc := va_free (wc := [(ax, .inr (8, [.ref hd, .ref hf, .ref hs, .ref hp, .ref he, .ref q0, .ref q1, .ref qk, .int lt, .long fx, .int dn])), (hd, .inr (0, [.int (nI w), .int (nI b), .int wr, .ref qc, .ref qi, .int wa, .int wc])), (q0, .inr (7, [.int a1, .int a2, .int a3, .long a4])), (q1, .inr (7, [.int b1, .int b2, .int b3, .long b4])), (qk, .inr (7, [.int c1, .int c2, .int c3, .long c4]))]) hD hS hA [0, 1, 2, 3, 4] rfl
            refine va_calll (va_runV (As := []) (rest := []) ⟨hx, hb, hml, hown, hts⟩ (c_X8_freeBlocks l dC dI H.size ax hd hf hs hp he q0 q1 qk qc qi w b lt dn wr wa wc a1 a2 a3 b1 b2 b3 c1 c2 c3 fx a4 b4 c4 (by first | assumption | omega | decide) (by first | assumption | omega | decide) (by first | assumption | omega | decide) (by first | assumption | omega | decide) (by first | assumption | omega | decide)) (cwV 0 hts g_X8_block_X8_freeBlocks rfl rfl rfl (by decide +kernel) ⟨Nat.le_of_ble_eq_true rfl, Nat.le_of_ble_eq_true rfl⟩) ⟨fun a U g mk q => by obtain ⟨q0, q1, qP, qK, qD⟩ := q; exact ⟨q0, q1, qP, va_K.moved (u := U) (U := U.calling g mk a) (Vm.Alike.refl U.vm) qK, qD⟩, va_recv hKc hPc (ci := 8) (q0 := 0) rfl rfl, fun U hU hW => ⟨rfl, by rw [hU], by rw [hU]; exact hPc, va_K.moved hW.alike hKc, hDc.weaken (fun _ _ _ _ => trivial)⟩⟩ rfl rfl hl.1 rfl (lv_room (Nat.le_of_ble_eq_true rfl)) dX8_block_63 ⟨(show 0 + 0 ≤ 0 by omega), (show 0 + 0 ≤ 0 by omega)⟩) hS (fun q _ h => hFc q h) hFc (fun r_7 u t H1 locs ht hvm hw hB hz1 hk1 hS9 => ?_)
            replace hS := hS9
            clear hS9
            obtain ⟨hP1, hK1, hD1⟩ := hB
            rw [ht] at hP1
            replace hK1 := va_K.moved hvm.symm hK1
            try dsimp only at hw
            obtain ⟨hP9, hD9⟩ := va_join (wr := []) (w1 := [(ax, .inr (8, [.ref hd, .ref hf, .ref hs, .ref hp, .ref he, .ref q0, .ref q1, .ref qk, .int lt, .long fx, .int dn])), (hd, .inr (0, [.int (nI w), .int (nI b), .int wr, .ref qc, .ref qi, .int wa, .int wc])), (q0, .inr (7, [.int a1, .int a2, .int a3, .long a4])), (q1, .inr (7, [.int b1, .int b2, .int b3, .long b4])), (qk, .inr (7, [.int c1, .int c2, .int c3, .long c4]))]) hP hD [0, 1, 2, 3, 4] [] rfl rfl (by decide) (by decide) hk1 hFc hP1 hD1
            replace hP := hP9
            replace hD := hD9
            clear hP9 hD9
            replace hK := (hK.sub (tys' := []) [] rfl).app hK1
            clear hP1 hD1 hK1 hPc hDc hKc hFc hk1 hz1 hvm ht
            generalize H1 = H at hP hS ⊢
            replace hP : va_P (dC, dI) vwCl [(ax, .inr (8, [.ref hd, .ref hf, .ref hs, .ref hp, .ref he, .ref q0, .ref q1, .ref qk, .int lt, .long fx, .int dn])), (hd, .inr (0, [.int (nI w), .int (nI b), .int wr, .ref qc, .ref qi, .int wa, .int wc])), (q0, .inr (7, [.int a1, .int a2, .int a3, .long a4])), (q1, .inr (7, [.int b1, .int b2, .int b3, .long b4])), (qk, .inr (7, [.int c1, .int c2, .int c3, .long c4]))] H := hP
            replace hD : va_D A [(ax, .inr (8, [.ref hd, .ref hf, .ref hs, .ref hp, .ref he, .ref q0, .ref q1, .ref qk, .int lt, .long fx, .int dn])), (hd, .inr (0, [.int (nI w), .int (nI b), .int wr, .ref qc, .ref qi, .int wa, .int wc])), (q0, .inr (7, [.int a1, .int a2, .int a3, .long a4])), (q1, .inr (7, [.int b1, .int b2, .int b3, .long b4])), (qk, .inr (7, [.int c1, .int c2, .int c3, .long c4]))] := hD
            replace hK : va_K (dC, dI) vwCl [] s := hK
            have hw_r_7 := hw
            refine lv_iload_n hx hb dX8_block_66 rfl (lv_at hl 1 rfl) ?_
            have hPc := hP.sub (ws' := []) [] rfl
            have hDc := hD.sub (ws' := []) [] (by decide) rfl
            have hKc := hK.sub (tys' := []) [] rfl
            have hFc := va_free (wc := []) hD hS hA [] rfl
            refine va_calli (va_runS (As := [.long r_7, .int p0]) (rest := []) ⟨hx, hb, hml, hown, hts⟩ (c_X8_holds l dC dI H.size r_7 p0) (va_cwS 2 hts g_X8_block_X8_holds rfl rfl rfl (by decide +kernel) ⟨Nat.le_of_ble_eq_true rfl, Nat.le_of_ble_eq_true rfl⟩) ⟨fun a U g mk q => by obtain ⟨q0, q1, qP, qK, qD⟩ := q; exact ⟨q0, q1, qP, va_K.moved (u := U) (U := U.calling g mk a) (Vm.Alike.refl U.vm) qK, qD⟩, fun U hU hW => ⟨rfl, by rw [hU], by rw [hU]; exact hPc, va_K.moved hW.alike hKc, hDc.weaken (fun _ _ _ _ => trivial)⟩⟩ rfl rfl hl.1 rfl (lv_room (Nat.le_of_ble_eq_true rfl)) dX8_block_67 ⟨(show 0 + 0 ≤ 0 by omega), (show 0 + 0 ≤ 0 by omega)⟩) hS (fun q _ h => hFc q h) hFc (fun r_8 u t H1 locs ht hvm hw hB hz1 hk1 hS9 => ?_)
            replace hS := hS9
            clear hS9
            obtain ⟨hP1, hK1, hD1⟩ := hB
            rw [ht] at hP1
            replace hK1 := va_K.moved hvm.symm hK1
            try dsimp only at hw
            obtain ⟨hP9, hD9⟩ := va_join (wr := [(ax, .inr (8, [.ref hd, .ref hf, .ref hs, .ref hp, .ref he, .ref q0, .ref q1, .ref qk, .int lt, .long fx, .int dn])), (hd, .inr (0, [.int (nI w), .int (nI b), .int wr, .ref qc, .ref qi, .int wa, .int wc])), (q0, .inr (7, [.int a1, .int a2, .int a3, .long a4])), (q1, .inr (7, [.int b1, .int b2, .int b3, .long b4])), (qk, .inr (7, [.int c1, .int c2, .int c3, .long c4]))]) (w1 := []) hP hD [] [0, 1, 2, 3, 4] rfl rfl (by decide) (by decide) hk1 hFc hP1 hD1
            replace hP := hP9
            replace hD := hD9
            clear hP9 hD9
            replace hK := (hK.sub (tys' := []) [] rfl).app hK1
            clear hP1 hD1 hK1 hPc hDc hKc hFc hk1 hz1 hvm ht
            generalize H1 = H at hP hS ⊢
            replace hP : va_P (dC, dI) vwCl [(ax, .inr (8, [.ref hd, .ref hf, .ref hs, .ref hp, .ref he, .ref q0, .ref q1, .ref qk, .int lt, .long fx, .int dn])), (hd, .inr (0, [.int (nI w), .int (nI b), .int wr, .ref qc, .ref qi, .int wa, .int wc])), (q0, .inr (7, [.int a1, .int a2, .int a3, .long a4])), (q1, .inr (7, [.int b1, .int b2, .int b3, .long b4])), (qk, .inr (7, [.int c1, .int c2, .int c3, .long c4]))] H := hP
            replace hD : va_D A [(ax, .inr (8, [.ref hd, .ref hf, .ref hs, .ref hp, .ref he, .ref q0, .ref q1, .ref qk, .int lt, .long fx, .int dn])), (hd, .inr (0, [.int (nI w), .int (nI b), .int wr, .ref qc, .ref qi, .int wa, .int wc])), (q0, .inr (7, [.int a1, .int a2, .int a3, .long a4])), (q1, .inr (7, [.int b1, .int b2, .int b3, .long b4])), (qk, .inr (7, [.int c1, .int c2, .int c3, .long c4]))] := hD
            replace hK : va_K (dC, dI) vwCl [] s := hK
            have hw_r_8 := hw
            refine lv_if_eq (tgt := 77) hx hb dX8_block_70 (by decide) (fun c_9 => ?_) (fun c_9 => ?_)
            · refine lv_iconst (v := 4) hx hb dX8_block_77 (by decide) ?_
              have hP9 := hP.sub (ws' := [(ax, .inr (8, [.ref hd, .ref hf, .ref hs, .ref hp, .ref he, .ref q0, .ref q1, .ref qk, .int lt, .long fx, .int dn])), (hd, .inr (0, [.int (nI w), .int (nI b), .int wr, .ref qc, .ref qi, .int wa, .int wc])), (q0, .inr (7, [.int a1, .int a2, .int a3, .long a4])), (q1, .inr (7, [.int b1, .int b2, .int b3, .long b4])), (qk, .inr (7, [.int c1, .int c2, .int c3, .long c4]))]) [0, 1, 2, 3, 4] rfl
              have hD9 := hD.sub (ws' := [(ax, .inr (8, [.ref hd, .ref hf, .ref hs, .ref hp, .ref he, .ref q0, .ref q1, .ref qk, .int lt, .long fx, .int dn])), (hd, .inr (0, [.int (nI w), .int (nI b), .int wr, .ref qc, .ref qi, .int wa, .int wc])), (q0, .inr (7, [.int a1, .int a2, .int a3, .long a4])), (q1, .inr (7, [.int b1, .int b2, .int b3, .long b4])), (qk, .inr (7, [.int c1, .int c2, .int c3, .long c4]))]) [0, 1, 2, 3, 4] (by decide) rfl
              have hK9 := hK.sub (tys' := []) [] rfl
              exact W.iret (v := 4) hx hb hr (fun t ht hW => ⟨⟨4, (), rfl, trivial, by rw [ht]; exact hP9, va_K.moved hW.alike hK9, hD9⟩, hS.F ht⟩) hS.2.2 dX8_block_78
            · refine lv_iconst (v := 1) hx hb dX8_block_73 (by decide) ?_
              refine lv_goto (tgt := 78) hx hb dX8_block_74 (by decide) ?_
              have hP9 := hP.sub (ws' := [(ax, .inr (8, [.ref hd, .ref hf, .ref hs, .ref hp, .ref he, .ref q0, .ref q1, .ref qk, .int lt, .long fx, .int dn])), (hd, .inr (0, [.int (nI w), .int (nI b), .int wr, .ref qc, .ref qi, .int wa, .int wc])), (q0, .inr (7, [.int a1, .int a2, .int a3, .long a4])), (q1, .inr (7, [.int b1, .int b2, .int b3, .long b4])), (qk, .inr (7, [.int c1, .int c2, .int c3, .long c4]))]) [0, 1, 2, 3, 4] rfl
              have hD9 := hD.sub (ws' := [(ax, .inr (8, [.ref hd, .ref hf, .ref hs, .ref hp, .ref he, .ref q0, .ref q1, .ref qk, .int lt, .long fx, .int dn])), (hd, .inr (0, [.int (nI w), .int (nI b), .int wr, .ref qc, .ref qi, .int wa, .int wc])), (q0, .inr (7, [.int a1, .int a2, .int a3, .long a4])), (q1, .inr (7, [.int b1, .int b2, .int b3, .long b4])), (qk, .inr (7, [.int c1, .int c2, .int c3, .long c4]))]) [0, 1, 2, 3, 4] (by decide) rfl
              have hK9 := hK.sub (tys' := []) [] rfl
              exact W.iret (v := 1) hx hb hr (fun t ht hW => ⟨⟨1, (), rfl, trivial, by rw [ht]; exact hP9, va_K.moved hW.alike hK9, hD9⟩, hS.F ht⟩) hS.2.2 dX8_block_78
          · refine lv_aload_n hx hb dX8_block_45 rfl (lv_at hl 0 rfl) ?_
            refine va_get (D := (dC, dI)) (ci := 8) (v := .long fx) (C := RX8) (T := TX8) (N := 11) hx hb hts k_1 hown hK hP 0 rfl rfl 9 (by decide) k_9 (fun _ h9 => h9) rfl dX8_block_46 ?_
            refine lv_iload_n hx hb dX8_block_49 rfl (lv_at hl 1 rfl) ?_
            have hPc := hP.sub (ws' := []) [] rfl
            have hDc := hD.sub (ws' := []) [] (by decide) rfl
            have hKc := hK.sub (tys' := []) [] rfl
            have hFc := va_free (wc := []) hD hS hA [] rfl
            refine va_calli (va_runS (As := [.long fx, .int p0]) (rest := []) ⟨hx, hb, hml, hown, hts⟩ (c_X8_holds l dC dI H.size fx p0) (va_cwS 2 hts g_X8_block_X8_holds rfl rfl rfl (by decide +kernel) ⟨Nat.le_of_ble_eq_true rfl, Nat.le_of_ble_eq_true rfl⟩) ⟨fun a U g mk q => by obtain ⟨q0, q1, qP, qK, qD⟩ := q; exact ⟨q0, q1, qP, va_K.moved (u := U) (U := U.calling g mk a) (Vm.Alike.refl U.vm) qK, qD⟩, fun U hU hW => ⟨rfl, by rw [hU], by rw [hU]; exact hPc, va_K.moved hW.alike hKc, hDc.weaken (fun _ _ _ _ => trivial)⟩⟩ rfl rfl hl.1 rfl (lv_room (Nat.le_of_ble_eq_true rfl)) dX8_block_50 ⟨(show 0 + 0 ≤ 0 by omega), (show 0 + 0 ≤ 0 by omega)⟩) hS (fun q _ h => hFc q h) hFc (fun r_10 u t H1 locs ht hvm hw hB hz1 hk1 hS9 => ?_)
            replace hS := hS9
            clear hS9
            obtain ⟨hP1, hK1, hD1⟩ := hB
            rw [ht] at hP1
            replace hK1 := va_K.moved hvm.symm hK1
            try dsimp only at hw
            obtain ⟨hP9, hD9⟩ := va_join (wr := [(ax, .inr (8, [.ref hd, .ref hf, .ref hs, .ref hp, .ref he, .ref q0, .ref q1, .ref qk, .int lt, .long fx, .int dn])), (hd, .inr (0, [.int (nI w), .int (nI b), .int wr, .ref qc, .ref qi, .int wa, .int wc])), (q0, .inr (7, [.int a1, .int a2, .int a3, .long a4])), (q1, .inr (7, [.int b1, .int b2, .int b3, .long b4])), (qk, .inr (7, [.int c1, .int c2, .int c3, .long c4]))]) (w1 := []) hP hD [] [0, 1, 2, 3, 4] rfl rfl (by decide) (by decide) hk1 hFc hP1 hD1
            replace hP := hP9
            replace hD := hD9
            clear hP9 hD9
            replace hK := (hK.sub (tys' := []) [] rfl).app hK1
            clear hP1 hD1 hK1 hPc hDc hKc hFc hk1 hz1 hvm ht
            generalize H1 = H at hP hS ⊢
            replace hP : va_P (dC, dI) vwCl [(ax, .inr (8, [.ref hd, .ref hf, .ref hs, .ref hp, .ref he, .ref q0, .ref q1, .ref qk, .int lt, .long fx, .int dn])), (hd, .inr (0, [.int (nI w), .int (nI b), .int wr, .ref qc, .ref qi, .int wa, .int wc])), (q0, .inr (7, [.int a1, .int a2, .int a3, .long a4])), (q1, .inr (7, [.int b1, .int b2, .int b3, .long b4])), (qk, .inr (7, [.int c1, .int c2, .int c3, .long c4]))] H := hP
            replace hD : va_D A [(ax, .inr (8, [.ref hd, .ref hf, .ref hs, .ref hp, .ref he, .ref q0, .ref q1, .ref qk, .int lt, .long fx, .int dn])), (hd, .inr (0, [.int (nI w), .int (nI b), .int wr, .ref qc, .ref qi, .int wa, .int wc])), (q0, .inr (7, [.int a1, .int a2, .int a3, .long a4])), (q1, .inr (7, [.int b1, .int b2, .int b3, .long b4])), (qk, .inr (7, [.int c1, .int c2, .int c3, .long c4]))] := hD
            replace hK : va_K (dC, dI) vwCl [] s := hK
            have hw_r_10 := hw
            refine lv_if_eq (tgt := 60) hx hb dX8_block_53 (by decide) (fun c_11 => ?_) (fun c_11 => ?_)
            · refine lv_iconst (v := 3) hx hb dX8_block_60 (by decide) ?_
              have hP9 := hP.sub (ws' := [(ax, .inr (8, [.ref hd, .ref hf, .ref hs, .ref hp, .ref he, .ref q0, .ref q1, .ref qk, .int lt, .long fx, .int dn])), (hd, .inr (0, [.int (nI w), .int (nI b), .int wr, .ref qc, .ref qi, .int wa, .int wc])), (q0, .inr (7, [.int a1, .int a2, .int a3, .long a4])), (q1, .inr (7, [.int b1, .int b2, .int b3, .long b4])), (qk, .inr (7, [.int c1, .int c2, .int c3, .long c4]))]) [0, 1, 2, 3, 4] rfl
              have hD9 := hD.sub (ws' := [(ax, .inr (8, [.ref hd, .ref hf, .ref hs, .ref hp, .ref he, .ref q0, .ref q1, .ref qk, .int lt, .long fx, .int dn])), (hd, .inr (0, [.int (nI w), .int (nI b), .int wr, .ref qc, .ref qi, .int wa, .int wc])), (q0, .inr (7, [.int a1, .int a2, .int a3, .long a4])), (q1, .inr (7, [.int b1, .int b2, .int b3, .long b4])), (qk, .inr (7, [.int c1, .int c2, .int c3, .long c4]))]) [0, 1, 2, 3, 4] (by decide) rfl
              have hK9 := hK.sub (tys' := []) [] rfl
              exact W.iret (v := 3) hx hb hr (fun t ht hW => ⟨⟨3, (), rfl, trivial, by rw [ht]; exact hP9, va_K.moved hW.alike hK9, hD9⟩, hS.F ht⟩) hS.2.2 dX8_block_61
            · refine lv_iconst (v := 2) hx hb dX8_block_56 (by decide) ?_
              refine lv_goto (tgt := 61) hx hb dX8_block_57 (by decide) ?_
              have hP9 := hP.sub (ws' := [(ax, .inr (8, [.ref hd, .ref hf, .ref hs, .ref hp, .ref he, .ref q0, .ref q1, .ref qk, .int lt, .long fx, .int dn])), (hd, .inr (0, [.int (nI w), .int (nI b), .int wr, .ref qc, .ref qi, .int wa, .int wc])), (q0, .inr (7, [.int a1, .int a2, .int a3, .long a4])), (q1, .inr (7, [.int b1, .int b2, .int b3, .long b4])), (qk, .inr (7, [.int c1, .int c2, .int c3, .long c4]))]) [0, 1, 2, 3, 4] rfl
              have hD9 := hD.sub (ws' := [(ax, .inr (8, [.ref hd, .ref hf, .ref hs, .ref hp, .ref he, .ref q0, .ref q1, .ref qk, .int lt, .long fx, .int dn])), (hd, .inr (0, [.int (nI w), .int (nI b), .int wr, .ref qc, .ref qi, .int wa, .int wc])), (q0, .inr (7, [.int a1, .int a2, .int a3, .long a4])), (q1, .inr (7, [.int b1, .int b2, .int b3, .long b4])), (qk, .inr (7, [.int c1, .int c2, .int c3, .long c4]))]) [0, 1, 2, 3, 4] (by decide) rfl
              have hK9 := hK.sub (tys' := []) [] rfl
              exact W.iret (v := 2) hx hb hr (fun t ht hW => ⟨⟨2, (), rfl, trivial, by rw [ht]; exact hP9, va_K.moved hW.alike hK9, hD9⟩, hS.F ht⟩) hS.2.2 dX8_block_61
        · refine lv_iconst (v := 0) hx hb dX8_block_29 (by decide) ?_
          have hP9 := hP.sub (ws' := [(ax, .inr (8, [.ref hd, .ref hf, .ref hs, .ref hp, .ref he, .ref q0, .ref q1, .ref qk, .int lt, .long fx, .int dn])), (hd, .inr (0, [.int (nI w), .int (nI b), .int wr, .ref qc, .ref qi, .int wa, .int wc])), (q0, .inr (7, [.int a1, .int a2, .int a3, .long a4])), (q1, .inr (7, [.int b1, .int b2, .int b3, .long b4])), (qk, .inr (7, [.int c1, .int c2, .int c3, .long c4]))]) [0, 1, 2, 3, 4] rfl
          have hD9 := hD.sub (ws' := [(ax, .inr (8, [.ref hd, .ref hf, .ref hs, .ref hp, .ref he, .ref q0, .ref q1, .ref qk, .int lt, .long fx, .int dn])), (hd, .inr (0, [.int (nI w), .int (nI b), .int wr, .ref qc, .ref qi, .int wa, .int wc])), (q0, .inr (7, [.int a1, .int a2, .int a3, .long a4])), (q1, .inr (7, [.int b1, .int b2, .int b3, .long b4])), (qk, .inr (7, [.int c1, .int c2, .int c3, .long c4]))]) [0, 1, 2, 3, 4] (by decide) rfl
          have hK9 := hK.sub (tys' := []) [] rfl
          exact W.iret (v := 0) hx hb hr (fun t ht hW => ⟨⟨0, (), rfl, trivial, by rw [ht]; exact hP9, va_K.moved hW.alike hK9, hD9⟩, hS.F ht⟩) hS.2.2 dX8_block_30
      · refine lv_iconst (v := -1) hx hb dX8_block_22 (by decide) ?_
        have hP9 := hP.sub (ws' := [(ax, .inr (8, [.ref hd, .ref hf, .ref hs, .ref hp, .ref he, .ref q0, .ref q1, .ref qk, .int lt, .long fx, .int dn])), (hd, .inr (0, [.int (nI w), .int (nI b), .int wr, .ref qc, .ref qi, .int wa, .int wc])), (q0, .inr (7, [.int a1, .int a2, .int a3, .long a4])), (q1, .inr (7, [.int b1, .int b2, .int b3, .long b4])), (qk, .inr (7, [.int c1, .int c2, .int c3, .long c4]))]) [0, 1, 2, 3, 4] rfl
        have hD9 := hD.sub (ws' := [(ax, .inr (8, [.ref hd, .ref hf, .ref hs, .ref hp, .ref he, .ref q0, .ref q1, .ref qk, .int lt, .long fx, .int dn])), (hd, .inr (0, [.int (nI w), .int (nI b), .int wr, .ref qc, .ref qi, .int wa, .int wc])), (q0, .inr (7, [.int a1, .int a2, .int a3, .long a4])), (q1, .inr (7, [.int b1, .int b2, .int b3, .long b4])), (qk, .inr (7, [.int c1, .int c2, .int c3, .long c4]))]) [0, 1, 2, 3, 4] (by decide) rfl
        have hK9 := hK.sub (tys' := []) [] rfl
        exact W.iret (v := (-1)) hx hb hr (fun t ht hW => ⟨⟨(-1), (), rfl, trivial, by rw [ht]; exact hP9, va_K.moved hW.alike hK9, hD9⟩, hS.F ht⟩) hS.2.2 dX8_block_23
def v_X8_countWhenUp : List Cond := .code yX8_countWhenUp cX8_countWhenUp 2 (some .int) :: ([.code yX8_freeBlocks cX8_freeBlocks 6 (some .long), .fieldLink RX8 74 "TwinRoots" "working" "LTwinRoots$Told;", .fieldLink RX8 103 "TwinRoots$Told" "reach" "J", .fieldLink RX8 67 "TwinRoots" "rootZero" "LTwinRoots$Told;", .fieldLink RX8 71 "TwinRoots" "rootOne" "LTwinRoots$Told;", .fieldLink RX8 28 "TwinRoots" "disk" "LTwinRoots$Disk;", .fieldLink RX8 195 "TwinRoots$Disk" "blocks" "I", .code yX8_holds cX8_holds 3 (some .boolean), .code yX8_bit cX8_bit 1 (some .long), .methodLink RX8 227 yX8_bit, .static yX8_bit, .initialized RX8, .methodLink RX8 198 yX8_holds, .static yX8_holds, .methodLink RX8 95 yX8_freeBlocks, .instanceMethod yX8_freeBlocks, .selects RX8 yX8_freeBlocks yX8_freeBlocks, .code yJ13_bitCount_95d88 cJ13_bitCount_95d88 2 (some .int), .constantLong RJ13 314 (6148914691236517205), .constantLong RJ13 316 (3689348814741910323), .constantLong RJ13 318 (1085102592571150095), .methodLink RX8 211 yJ13_bitCount_95d88, .static yJ13_bitCount_95d88, .initialized RJ13, .fieldLink RX8 35 "TwinRoots" "forest" "LTwinRoots$Forest;", .fieldLink RX8 110 "TwinRoots$Told" "top" "I", .code yX2_walk cX2_walk 4 none, .fieldLink RX2 43 "TwinRoots$Forest" "depth" "I", .fieldLink RX2 47 "TwinRoots$Forest" "lowestLevel" "I", .fieldLink RX2 50 "TwinRoots$Forest" "lineEnd" "I", .code yX2_lineUp cX2_lineUp 2 none, .fieldLink RX2 24 "TwinRoots$Forest" "line" "[I", .methodLink RX2 53 yX2_lineUp, .instanceMethod yX2_lineUp, .selects RX2 yX2_lineUp yX2_lineUp, .initialized RX2, .code yX2_inLine cX2_inLine 2 (some (.object "TwinRoots$Page")), .fieldLink RX2 20 "TwinRoots$Forest" "empty" "LTwinRoots$Page;", .code yX2_page cX2_page 2 (some (.object "TwinRoots$Page")), .fieldLink RX2 11 "TwinRoots$Forest" "pages" "[LTwinRoots$Page;", .methodLink RX2 28 yX2_page, .instanceMethod yX2_page, .selects RX2 yX2_page yX2_page, .methodLink RX2 56 yX2_inLine, .instanceMethod yX2_inLine, .selects RX2 yX2_inLine yX2_inLine, .fieldLink RX2 32 "TwinRoots$Page" "leaf" "Z", .code yX2_lineUpChildren cX2_lineUpChildren 3 none, .fieldLink RX2 63 "TwinRoots$Page" "many" "I", .code yX4_refAt cX4_refAt 2 (some .int), .fieldLink RX4 22 "TwinRoots$Page" "many" "I", .fieldLink RX4 19 "TwinRoots$Page" "refs" "[I", .methodLink RX2 40 yX4_refAt, .instanceMethod yX4_refAt, .selects RX4 yX4_refAt yX4_refAt, .initialized RX4, .methodLink RX2 59 yX2_lineUpChildren, .instanceMethod yX2_lineUpChildren, .selects RX2 yX2_lineUpChildren yX2_lineUpChildren, .methodLink RX8 147 yX2_walk, .instanceMethod yX2_walk, .selects RX2 yX2_walk yX2_walk, .fieldLink RX8 217 "TwinRoots$Forest" "depth" "I", .fieldLink RX8 140 "TwinRoots" "latest" "I", .code yX8_told cX8_told 2 (some (.object "TwinRoots$Told")), .methodLink RX8 143 yX8_told, .instanceMethod yX8_told, .selects RX8 yX8_told yX8_told, .fieldLink RX8 127 "TwinRoots$Told" "keys" "I"] ++ (wsX80 ++ (wsX70 ++ (wsX00 ++ (wsX20 ++ (wsX40 ++ ([])))))))
set_option maxRecDepth 20000 in
theorem g_X8_countWhenUp_X8_freeBlocks : GoodIn v_X8_countWhenUp (wsV RX8 95 RX8 yX8_freeBlocks v_X8_freeBlocks) := goodIn_r _ [15, 16, 17, 12, 1, 2, 3, 4, 5, 6, 7, 8, 9, 10, 11, 12, 13, 14, 70, 71, 72, 73, 74, 75, 76, 77, 78, 79, 80, 81, 82, 83, 84, 85, 86, 87, 88, 89, 90, 91] (by decide +kernel) (by decide +kernel)
set_option maxRecDepth 20000 in
theorem g_X8_countWhenUp_J13_bitCount_95d88 : GoodIn v_X8_countWhenUp (va_wsS RX8 211 yJ13_bitCount_95d88 v_J13_bitCount_95d88) := goodIn_r _ [22, 23, 24, 18, 19, 20, 21] (by decide +kernel) (by decide +kernel)
set_option maxRecDepth 20000 in
theorem g_X8_countWhenUp_X2_walk : GoodIn v_X8_countWhenUp (wsV RX8 147 RX2 yX2_walk v_X2_walk) := goodIn_r _ [60, 61, 62, 36, 27, 28, 29, 30, 31, 32, 33, 34, 35, 36, 37, 38, 39, 40, 41, 42, 43, 44, 45, 46, 47, 48, 49, 50, 51, 52, 53, 54, 55, 56, 57, 58, 59, 92, 93, 94, 95, 96, 97, 98, 99, 100, 101] (by decide +kernel) (by decide +kernel)
set_option maxRecDepth 20000 in
theorem g_X8_countWhenUp_X8_told_0 : GoodIn v_X8_countWhenUp (wsV RX8 143 RX8 yX8_told v_X8_told_0) := goodIn_r _ [66, 67, 68, 12, 65, 4, 70, 71, 72, 73, 74, 75, 76, 77, 78, 79, 80] (by decide +kernel) (by decide +kernel)
set_option maxRecDepth 20000 in
theorem g_X8_countWhenUp_X8_told_1 : GoodIn v_X8_countWhenUp (wsV RX8 143 RX8 yX8_told v_X8_told_1) := goodIn_r _ [66, 67, 68, 12, 65, 5, 70, 71, 72, 73, 74, 75, 76, 77, 78, 79, 80] (by decide +kernel) (by decide +kernel)
set_option maxHeartbeats 4000000 in
set_option maxRecDepth 100000 in
/-- X8_countWhenUp -/
theorem c_X8_countWhenUp (l : Launch) (dC : Nat → ClassId) (dI : Nat → Nat → Nat) (sz : Nat) (ax : Nat) (hd : Nat) (hf : Nat) (hs : Nat) (hp : Nat) (he : Nat) (q0 : Nat) (q1 : Nat) (qk : Nat) (qc : Nat) (qi : Nat) (qp : Nat) (qe : Nat) (ql : Nat) (w : Nat) (b : Nat) (lo : Nat) (le : Nat) (lt : Int32) (dn : Int32) (wr : Int32) (wa : Int32) (wc : Int32) (dp : Int32) (a1 : Int32) (a2 : Int32) (a3 : Int32) (b1 : Int32) (b2 : Int32) (b3 : Int32) (c1 : Int32) (c2 : Int32) (c3 : Int32) (fx : Int64) (a4 : Int64) (b4 : Int64) (c4 : Int64) (fl : Nat → Int32) (fp : Nat → Option Nat) (cI : ClassId) (cO : ClassId) (G : pgG) (Pg : List Nat) (S : pgS) (p0 : Int32) (zw0 : 12 ≤ w) (zw : w ≤ 40) (zb0 : 4 ≤ b) (zb : b ≤ 64) (zwb : w * b ≤ 2560) (hI : pgI G Pg S) (hpg : ∀ i, i < b → ∃ a, a ∈ Pg ∧ (G a).2.2.2 = 0 ∧ fp i = some a) (hm_qe : qe ∈ Pg) (ht_qe : (G qe).2.2.2 = 0) (zlt : lt = 0 ∨ lt = 1) : Met l yX8_countWhenUp v_X8_countWhenUp ({ frames := 3, cells := 0, slots := 0, locals := 67 } : Room) (va_Pc [.ref ax, .int p0] (fun U => U.heap.size = sz ∧ va_P (dC, dI) vwCl ([(ax, .inr (8, [.ref hd, .ref hf, .ref hs, .ref hp, .ref he, .ref q0, .ref q1, .ref qk, .int lt, .long fx, .int dn])), (hd, .inr (0, [.int (nI w), .int (nI b), .int wr, .ref qc, .ref qi, .int wa, .int wc])), (hf, .inr (2, [.int dp, .ref qp, .ref qe, .ref ql, .int (nI lo), .int (nI le)])), (qp, .inl (cO, b, .inr (.inr (.inr (.inr fp))))), MA9 ql cI b fl, (q0, .inr (7, [.int a1, .int a2, .int a3, .long a4])), (q1, .inr (7, [.int b1, .int b2, .int b3, .long b4])), (qk, .inr (7, [.int c1, .int c2, .int c3, .long c4]))] ++ pool G cI Pg S) U.heap ∧ va_K (dC, dI) vwCl [(cO, .object RX4), (cI, .int)] U ∧ va_D (fun _ => True) ([(ax, .inr (8, [.ref hd, .ref hf, .ref hs, .ref hp, .ref he, .ref q0, .ref q1, .ref qk, .int lt, .long fx, .int dn])), (hd, .inr (0, [.int (nI w), .int (nI b), .int wr, .ref qc, .ref qi, .int wa, .int wc])), (hf, .inr (2, [.int dp, .ref qp, .ref qe, .ref ql, .int (nI lo), .int (nI le)])), (qp, .inl (cO, b, .inr (.inr (.inr (.inr fp))))), MA9 ql cI b fl, (q0, .inr (7, [.int a1, .int a2, .int a3, .long a4])), (q1, .inr (7, [.int b1, .int b2, .int b3, .long b4])), (qk, .inr (7, [.int c1, .int c2, .int c3, .long c4]))] ++ pool G cI Pg S))) (va_Qi (fun (r : Int32) (u : Int32 × Int64 × Int32 × Int32 × Nat × Nat × (Nat → Int32)) => match u with | (lt2, fx2, dn2, dp2, lo2, le2, fl2) => (lt2 = 0 ∨ lt2 = 1)) (fun (u : Int32 × Int64 × Int32 × Int32 × Nat × Nat × (Nat → Int32)) (t : State) => match u with | (lt2, fx2, dn2, dp2, lo2, le2, fl2) => va_P (dC, dI) vwCl ([(ax, .inr (8, [.ref hd, .ref hf, .ref hs, .ref hp, .ref he, .ref q0, .ref q1, .ref qk, .int lt2, .long fx2, .int dn2])), (hd, .inr (0, [.int (nI w), .int (nI b), .int wr, .ref qc, .ref qi, .int wa, .int wc])), (hf, .inr (2, [.int dp2, .ref qp, .ref qe, .ref ql, .int (nI lo2), .int (nI le2)])), (qp, .inl (cO, b, .inr (.inr (.inr (.inr fp))))), MA9 ql cI b fl2, (q0, .inr (7, [.int a1, .int a2, .int a3, .long a4])), (q1, .inr (7, [.int b1, .int b2, .int b3, .long b4])), (qk, .inr (7, [.int c1, .int c2, .int c3, .long c4]))] ++ pool G cI Pg S) t.heap ∧ va_K (dC, dI) vwCl [(cO, .object RX4), (cI, .int)] t ∧ va_D (va_A ([(ax, .inr (8, [.ref hd, .ref hf, .ref hs, .ref hp, .ref he, .ref q0, .ref q1, .ref qk, .int lt, .long fx, .int dn])), (hd, .inr (0, [.int (nI w), .int (nI b), .int wr, .ref qc, .ref qi, .int wa, .int wc])), (hf, .inr (2, [.int dp, .ref qp, .ref qe, .ref ql, .int (nI lo), .int (nI le)])), (qp, .inl (cO, b, .inr (.inr (.inr (.inr fp))))), MA9 ql cI b fl, (q0, .inr (7, [.int a1, .int a2, .int a3, .long a4])), (q1, .inr (7, [.int b1, .int b2, .int b3, .long b4])), (qk, .inr (7, [.int c1, .int c2, .int c3, .long c4]))] ++ pool G cI Pg S) sz) ([(ax, .inr (8, [.ref hd, .ref hf, .ref hs, .ref hp, .ref he, .ref q0, .ref q1, .ref qk, .int lt2, .long fx2, .int dn2])), (hd, .inr (0, [.int (nI w), .int (nI b), .int wr, .ref qc, .ref qi, .int wa, .int wc])), (hf, .inr (2, [.int dp2, .ref qp, .ref qe, .ref ql, .int (nI lo2), .int (nI le2)])), (qp, .inl (cO, b, .inr (.inr (.inr (.inr fp))))), MA9 ql cI b fl2, (q0, .inr (7, [.int a1, .int a2, .int a3, .long a4])), (q1, .inr (7, [.int b1, .int b2, .int b3, .long b4])), (qk, .inr (7, [.int c1, .int c2, .int c3, .long c4]))] ++ pool G cI Pg S)) (va_A ([(ax, .inr (8, [.ref hd, .ref hf, .ref hs, .ref hp, .ref he, .ref q0, .ref q1, .ref qk, .int lt, .long fx, .int dn])), (hd, .inr (0, [.int (nI w), .int (nI b), .int wr, .ref qc, .ref qi, .int wa, .int wc])), (hf, .inr (2, [.int dp, .ref qp, .ref qe, .ref ql, .int (nI lo), .int (nI le)])), (qp, .inl (cO, b, .inr (.inr (.inr (.inr fp))))), MA9 ql cI b fl, (q0, .inr (7, [.int a1, .int a2, .int a3, .long a4])), (q1, .inr (7, [.int b1, .int b2, .int b3, .long b4])), (qk, .inr (7, [.int c1, .int c2, .int c3, .long c4]))] ++ pool G cI Pg S) sz)) 0 0 (va_A ([(ax, .inr (8, [.ref hd, .ref hf, .ref hs, .ref hp, .ref he, .ref q0, .ref q1, .ref qk, .int lt, .long fx, .int dn])), (hd, .inr (0, [.int (nI w), .int (nI b), .int wr, .ref qc, .ref qi, .int wa, .int wc])), (hf, .inr (2, [.int dp, .ref qp, .ref qe, .ref ql, .int (nI lo), .int (nI le)])), (qp, .inl (cO, b, .inr (.inr (.inr (.inr fp))))), MA9 ql cI b fl, (q0, .inr (7, [.int a1, .int a2, .int a3, .long a4])), (q1, .inr (7, [.int b1, .int b2, .int b3, .long b4])), (qk, .inr (7, [.int c1, .int c2, .int c3, .long c4]))] ++ pool G cI Pg S) sz) := by
  refine Met.ofW (cc := cX8_countWhenUp) (maxL := 2) (ret := (some .int)) (by decide) rfl ?_
  intro p e s m args below meth c s₁ B hml hv
  obtain ⟨rfl, hsz, hP, hK, hD0⟩ := hv
  have hx := B.exec
  have hb := B.bytes
  have hr := B.returns
  have hts := atoms_spec (ws := v_X8_countWhenUp) B.pre
  have hown : s.vm.findClass RX8 = some m.cls := findClass_of_methodNamed B.named
  have hlocks := B.notSynchronized
  subst hsz
  have hD := hD0.self (sz := s.heap.size)
  generalize hAe : va_A ([(ax, .inr (8, [.ref hd, .ref hf, .ref hs, .ref hp, .ref he, .ref q0, .ref q1, .ref qk, .int lt, .long fx, .int dn])), (hd, .inr (0, [.int (nI w), .int (nI b), .int wr, .ref qc, .ref qi, .int wa, .int wc])), (hf, .inr (2, [.int dp, .ref qp, .ref qe, .ref ql, .int (nI lo), .int (nI le)])), (qp, .inl (cO, b, .inr (.inr (.inr (.inr fp))))), MA9 ql cI b fl, (q0, .inr (7, [.int a1, .int a2, .int a3, .long a4])), (q1, .inr (7, [.int b1, .int b2, .int b3, .long b4])), (qk, .inr (7, [.int c1, .int c2, .int c3, .long c4]))] ++ pool G cI Pg S) s.heap.size = A at hD ⊢
  have hA : ∀ q : Nat, s.heap.size ≤ q → A q := fun q h => by rw [← hAe]; exact Or.inr h
  have hS : va_S A s.heap s.heap [] := va_S.rf
  have hP : va_P (dC, dI) vwCl ([(ax, .inr (8, [.ref hd, .ref hf, .ref hs, .ref hp, .ref he, .ref q0, .ref q1, .ref qk, .int lt, .long fx, .int dn])), (hd, .inr (0, [.int (nI w), .int (nI b), .int wr, .ref qc, .ref qi, .int wa, .int wc])), (hf, .inr (2, [.int dp, .ref qp, .ref qe, .ref ql, .int (nI lo), .int (nI le)])), (qp, .inl (cO, b, .inr (.inr (.inr (.inr fp))))), MA9 ql cI b fl, (q0, .inr (7, [.int a1, .int a2, .int a3, .long a4])), (q1, .inr (7, [.int b1, .int b2, .int b3, .long b4])), (qk, .inr (7, [.int c1, .int c2, .int c3, .long c4]))] ++ pool G cI Pg S) s.heap := hP
  have hl := lv_entry ([.ref ax, .int p0]) (n := 2) (Nat.le_of_ble_eq_true rfl)
  rw [lg_entry_eq]
  generalize (lg_sl ([.ref ax, .int p0]) ++ List.replicate (2 - (lg_sl ([.ref ax, .int p0])).length) Slot.unset).toArray = ls at hl ⊢
  have hl : lv_has ls 2 [(0, .ref ax), (1, .int p0)] := hl
  have k_1 := (fun _ h => List.mem_cons_of_mem _ (List.mem_append_right _ (List.mem_append_left _ h)) : ∀ w ∈ wsX80, w ∈ v_X8_countWhenUp)
  have k_2 := hts (.fieldLink RX8 35 "TwinRoots" "forest" "LTwinRoots$Forest;") (List.mem_of_getElem? (i := 25) rfl)
  have k_3 := hts (.fieldLink RX8 74 "TwinRoots" "working" "LTwinRoots$Told;") (List.mem_of_getElem? (i := 2) rfl)
  have k_4 := (fun _ h => List.mem_cons_of_mem _ (List.mem_append_right _ (List.mem_append_right _ (List.mem_append_left _ h))) : ∀ w ∈ wsX70, w ∈ v_X8_countWhenUp)
  have k_5 := hts (.fieldLink RX8 110 "TwinRoots$Told" "top" "I") (List.mem_of_getElem? (i := 26) rfl)
  have k_6 := (fun _ h => List.mem_cons_of_mem _ (List.mem_append_right _ (List.mem_append_right _ (List.mem_append_right _ (List.mem_append_right _ (List.mem_append_left _ h))))) : ∀ w ∈ wsX20, w ∈ v_X8_countWhenUp)
  have k_7 := hts (.fieldLink RX8 217 "TwinRoots$Forest" "depth" "I") (List.mem_of_getElem? (i := 63) rfl)
  have k_8 := hts (.fieldLink RX8 103 "TwinRoots$Told" "reach" "J") (List.mem_of_getElem? (i := 3) rfl)
  have k_9 := hts (.fieldLink RX8 140 "TwinRoots" "latest" "I") (List.mem_of_getElem? (i := 64) rfl)
  have k_10 := hts (.fieldLink RX8 127 "TwinRoots$Told" "keys" "I") (List.mem_of_getElem? (i := 69) rfl)
  rcases zlt with rfl | rfl
  · replace hP : va_P (dC, dI) vwCl ([(ax, .inr (8, [.ref hd, .ref hf, .ref hs, .ref hp, .ref he, .ref q0, .ref q1, .ref qk, .int 0, .long fx, .int dn])), (hd, .inr (0, [.int (nI w), .int (nI b), .int wr, .ref qc, .ref qi, .int wa, .int wc])), (hf, .inr (2, [.int dp, .ref qp, .ref qe, .ref ql, .int (nI lo), .int (nI le)])), (qp, .inl (cO, b, .inr (.inr (.inr (.inr fp))))), MA9 ql cI b fl, (q0, .inr (7, [.int a1, .int a2, .int a3, .long a4])), (q1, .inr (7, [.int b1, .int b2, .int b3, .long b4])), (qk, .inr (7, [.int c1, .int c2, .int c3, .long c4]))] ++ pool G cI Pg S) s.heap := hP
    replace hD : va_D A ([(ax, .inr (8, [.ref hd, .ref hf, .ref hs, .ref hp, .ref he, .ref q0, .ref q1, .ref qk, .int 0, .long fx, .int dn])), (hd, .inr (0, [.int (nI w), .int (nI b), .int wr, .ref qc, .ref qi, .int wa, .int wc])), (hf, .inr (2, [.int dp, .ref qp, .ref qe, .ref ql, .int (nI lo), .int (nI le)])), (qp, .inl (cO, b, .inr (.inr (.inr (.inr fp))))), MA9 ql cI b fl, (q0, .inr (7, [.int a1, .int a2, .int a3, .long a4])), (q1, .inr (7, [.int b1, .int b2, .int b3, .long b4])), (qk, .inr (7, [.int c1, .int c2, .int c3, .long c4]))] ++ pool G cI Pg S) := hD
    refine lv_iload_n hx hb dX8_countWhenUp_0 rfl (lv_at hl 1 rfl) ?_
    by_cases h_1 : p0 = 5
    · refine lv_tableIn (off := 35) (tgt := 36) hx hb dX8_countWhenUp_1 (by rw [h_1]; decide) (by rw [h_1]; decide) (by rw [h_1]; decide) (by decide) ?_
      refine lv_aload_n hx hb dX8_countWhenUp_36 rfl (lv_at hl 0 rfl) ?_
      have hPc := hP.sub (ws' := [(ax, .inr (8, [.ref hd, .ref hf, .ref hs, .ref hp, .ref he, .ref q0, .ref q1, .ref qk, .int 0, .long fx, .int dn])), (hd, .inr (0, [.int (nI w), .int (nI b), .int wr, .ref qc, .ref qi, .int wa, .int wc])), (q0, .inr (7, [.int a1, .int a2, .int a3, .long a4])), (q1, .inr (7, [.int b1, .int b2, .int b3, .long b4])), (qk, .inr (7, [.int c1, .int c2, .int c3, .long c4]))]) [0, 1, 5, 6, 7] rfl
      have hDc := hD.sub (ws' := [(ax, .inr (8, [.ref hd, .ref hf, .ref hs, .ref hp, .ref he, .ref q0, .ref q1, .ref qk, .int 0, .long fx, .int dn])), (hd, .inr (0, [.int (nI w), .int (nI b), .int wr, .ref qc, .ref qi, .int wa, .int wc])), (q0, .inr (7, [.int a1, .int a2, .int a3, .long a4])), (q1, .inr (7, [.int b1, .int b2, .int b3, .long b4])), (qk, .inr (7, [.int c1, .int c2, .int c3, .long c4]))]) [0, 1, 5, 6, 7] (by decide) rfl
      have hKc := hK.sub (tys' := []) [] rfl
      have hFc := va_free (wc := [(ax, .inr (8, [.ref hd, .ref hf, .ref hs, .ref hp, .ref he, .ref q0, .ref q1, .ref qk, .int 0, .long fx, .int dn])), (hd, .inr (0, [.int (nI w), .int (nI b), .int wr, .ref qc, .ref qi, .int wa, .int wc])), (q0, .inr (7, [.int a1, .int a2, .int a3, .long a4])), (q1, .inr (7, [.int b1, .int b2, .int b3, .long b4])), (qk, .inr (7, [.int c1, .int c2, .int c3, .long c4]))]) hD hS hA [0, 1, 5, 6, 7] rfl
      refine va_calll (va_runV (As := []) (rest := []) ⟨hx, hb, hml, hown, hts⟩ (c_X8_freeBlocks l dC dI s.heap.size ax hd hf hs hp he q0 q1 qk qc qi w b 0 dn wr wa wc a1 a2 a3 b1 b2 b3 c1 c2 c3 fx a4 b4 c4 (by first | assumption | omega | decide) (by first | assumption | omega | decide) (by first | assumption | omega | decide) (by first | assumption | omega | decide) (by first | assumption | omega | decide)) (cwV 0 hts g_X8_countWhenUp_X8_freeBlocks rfl rfl rfl (by decide +kernel) ⟨Nat.le_of_ble_eq_true rfl, Nat.le_of_ble_eq_true rfl⟩) ⟨fun a U g mk q => by obtain ⟨q0, q1, qP, qK, qD⟩ := q; exact ⟨q0, q1, qP, va_K.moved (u := U) (U := U.calling g mk a) (Vm.Alike.refl U.vm) qK, qD⟩, va_recv hKc hPc (ci := 8) (q0 := 0) rfl rfl, fun U hU hW => ⟨rfl, by rw [hU], by rw [hU]; exact hPc, va_K.moved hW.alike hKc, hDc.weaken (fun _ _ _ _ => trivial)⟩⟩ rfl rfl hl.1 rfl (lv_room (Nat.le_of_ble_eq_true rfl)) dX8_countWhenUp_37 ⟨(show 0 + 0 ≤ 0 by omega), (show 0 + 0 ≤ 0 by omega)⟩) hS (fun q _ h => hFc q h) hFc (fun r_2 u t H1 locs ht hvm hw hB hz1 hk1 hS9 => ?_)
      replace hS := hS9
      clear hS9
      obtain ⟨hP1, hK1, hD1⟩ := hB
      rw [ht] at hP1
      replace hK1 := va_K.moved hvm.symm hK1
      try dsimp only at hw
      obtain ⟨hP9, hD9⟩ := va_joinQ (wr := [(hf, .inr (2, [.int dp, .ref qp, .ref qe, .ref ql, .int (nI lo), .int (nI le)])), (qp, .inl (cO, b, .inr (.inr (.inr (.inr fp))))), MA9 ql cI b fl]) (w1 := [(ax, .inr (8, [.ref hd, .ref hf, .ref hs, .ref hp, .ref he, .ref q0, .ref q1, .ref qk, .int 0, .long fx, .int dn])), (hd, .inr (0, [.int (nI w), .int (nI b), .int wr, .ref qc, .ref qi, .int wa, .int wc])), (q0, .inr (7, [.int a1, .int a2, .int a3, .long a4])), (q1, .inr (7, [.int b1, .int b2, .int b3, .long b4])), (qk, .inr (7, [.int c1, .int c2, .int c3, .long c4]))]) hP hD [0, 1, 5, 6, 7] [2, 3, 4] rfl rfl (by decide) (by decide) hk1 hFc hP1 hD1
      replace hP := hP9
      replace hD := hD9
      clear hP9 hD9
      replace hK := (hK.sub (tys' := [(cO, .object RX4), (cI, .int)]) [0, 1] rfl).app hK1
      replace hK : va_K (dC, dI) vwCl [(cO, .object RX4), (cI, .int)] s := hK.sub [0, 1] rfl
      clear hP1 hD1 hK1 hPc hDc hKc hFc hk1 hz1 hvm ht
      generalize H1 = H at hP hS ⊢
      replace hP : va_P (dC, dI) vwCl ([(hf, .inr (2, [.int dp, .ref qp, .ref qe, .ref ql, .int (nI lo), .int (nI le)])), (qp, .inl (cO, b, .inr (.inr (.inr (.inr fp))))), MA9 ql cI b fl, (ax, .inr (8, [.ref hd, .ref hf, .ref hs, .ref hp, .ref he, .ref q0, .ref q1, .ref qk, .int 0, .long fx, .int dn])), (hd, .inr (0, [.int (nI w), .int (nI b), .int wr, .ref qc, .ref qi, .int wa, .int wc])), (q0, .inr (7, [.int a1, .int a2, .int a3, .long a4])), (q1, .inr (7, [.int b1, .int b2, .int b3, .long b4])), (qk, .inr (7, [.int c1, .int c2, .int c3, .long c4]))] ++ pool G cI Pg S) H := hP
      replace hD : va_D A ([(hf, .inr (2, [.int dp, .ref qp, .ref qe, .ref ql, .int (nI lo), .int (nI le)])), (qp, .inl (cO, b, .inr (.inr (.inr (.inr fp))))), MA9 ql cI b fl, (ax, .inr (8, [.ref hd, .ref hf, .ref hs, .ref hp, .ref he, .ref q0, .ref q1, .ref qk, .int 0, .long fx, .int dn])), (hd, .inr (0, [.int (nI w), .int (nI b), .int wr, .ref qc, .ref qi, .int wa, .int wc])), (q0, .inr (7, [.int a1, .int a2, .int a3, .long a4])), (q1, .inr (7, [.int b1, .int b2, .int b3, .long b4])), (qk, .inr (7, [.int c1, .int c2, .int c3, .long c4]))] ++ pool G cI Pg S) := hD
      replace hK : va_K (dC, dI) vwCl [(cO, .object RX4), (cI, .int)] s := hK
      have hw_r_2 := hw
      have hPc := hP.sub (ws' := []) [] rfl
      have hDc := hD.sub (ws' := []) [] (by decide) rfl
      have hKc := hK.sub (tys' := []) [] rfl
      have hFc := va_free (wc := []) hD hS hA [] rfl
      refine va_calli (va_runS (As := [.long r_2]) (rest := []) ⟨hx, hb, hml, hown, hts⟩ (c_J13_bitCount_95d88 l dC dI H.size r_2) (va_cwS 1 hts g_X8_countWhenUp_J13_bitCount_95d88 rfl rfl rfl (by decide +kernel) ⟨Nat.le_of_ble_eq_true rfl, Nat.le_of_ble_eq_true rfl⟩) ⟨fun a U g mk q => by obtain ⟨q0, q1, qP, qK, qD⟩ := q; exact ⟨q0, q1, qP, va_K.moved (u := U) (U := U.calling g mk a) (Vm.Alike.refl U.vm) qK, qD⟩, fun U hU hW => ⟨rfl, by rw [hU], by rw [hU]; exact hPc, va_K.moved hW.alike hKc, hDc.weaken (fun _ _ _ _ => trivial)⟩⟩ rfl rfl hl.1 rfl (lv_room (Nat.le_of_ble_eq_true rfl)) dX8_countWhenUp_40 ⟨(show 0 + 0 ≤ 0 by omega), (show 0 + 0 ≤ 0 by omega)⟩) hS (fun q _ h => hFc q h) hFc (fun r_3 u t H1 locs ht hvm hw hB hz1 hk1 hS9 => ?_)
      replace hS := hS9
      clear hS9
      obtain ⟨hP1, hK1, hD1⟩ := hB
      rw [ht] at hP1
      replace hK1 := va_K.moved hvm.symm hK1
      try dsimp only at hw
      obtain ⟨hP9, hD9⟩ := va_joinQ (wr := [(hf, .inr (2, [.int dp, .ref qp, .ref qe, .ref ql, .int (nI lo), .int (nI le)])), (qp, .inl (cO, b, .inr (.inr (.inr (.inr fp))))), MA9 ql cI b fl, (ax, .inr (8, [.ref hd, .ref hf, .ref hs, .ref hp, .ref he, .ref q0, .ref q1, .ref qk, .int 0, .long fx, .int dn])), (hd, .inr (0, [.int (nI w), .int (nI b), .int wr, .ref qc, .ref qi, .int wa, .int wc])), (q0, .inr (7, [.int a1, .int a2, .int a3, .long a4])), (q1, .inr (7, [.int b1, .int b2, .int b3, .long b4])), (qk, .inr (7, [.int c1, .int c2, .int c3, .long c4]))]) (w1 := []) hP hD [] [0, 1, 2, 3, 4, 5, 6, 7] rfl rfl (by decide) (by decide) hk1 hFc hP1 hD1
      replace hP := hP9
      replace hD := hD9
      clear hP9 hD9
      replace hK := (hK.sub (tys' := [(cO, .object RX4), (cI, .int)]) [0, 1] rfl).app hK1
      replace hK : va_K (dC, dI) vwCl [(cO, .object RX4), (cI, .int)] s := hK.sub [0, 1] rfl
      clear hP1 hD1 hK1 hPc hDc hKc hFc hk1 hz1 hvm ht
      generalize H1 = H at hP hS ⊢
      replace hP : va_P (dC, dI) vwCl ([(hf, .inr (2, [.int dp, .ref qp, .ref qe, .ref ql, .int (nI lo), .int (nI le)])), (qp, .inl (cO, b, .inr (.inr (.inr (.inr fp))))), MA9 ql cI b fl, (ax, .inr (8, [.ref hd, .ref hf, .ref hs, .ref hp, .ref he, .ref q0, .ref q1, .ref qk, .int 0, .long fx, .int dn])), (hd, .inr (0, [.int (nI w), .int (nI b), .int wr, .ref qc, .ref qi, .int wa, .int wc])), (q0, .inr (7, [.int a1, .int a2, .int a3, .long a4])), (q1, .inr (7, [.int b1, .int b2, .int b3, .long b4])), (qk, .inr (7, [.int c1, .int c2, .int c3, .long c4]))] ++ pool G cI Pg S) H := hP
      replace hD : va_D A ([(hf, .inr (2, [.int dp, .ref qp, .ref qe, .ref ql, .int (nI lo), .int (nI le)])), (qp, .inl (cO, b, .inr (.inr (.inr (.inr fp))))), MA9 ql cI b fl, (ax, .inr (8, [.ref hd, .ref hf, .ref hs, .ref hp, .ref he, .ref q0, .ref q1, .ref qk, .int 0, .long fx, .int dn])), (hd, .inr (0, [.int (nI w), .int (nI b), .int wr, .ref qc, .ref qi, .int wa, .int wc])), (q0, .inr (7, [.int a1, .int a2, .int a3, .long a4])), (q1, .inr (7, [.int b1, .int b2, .int b3, .long b4])), (qk, .inr (7, [.int c1, .int c2, .int c3, .long c4]))] ++ pool G cI Pg S) := hD
      replace hK : va_K (dC, dI) vwCl [(cO, .object RX4), (cI, .int)] s := hK
      have hw_r_3 := hw
      have hP9 := hP.part (cx := [(ax, .inr (8, [.ref hd, .ref hf, .ref hs, .ref hp, .ref he, .ref q0, .ref q1, .ref qk, .int 0, .long fx, .int dn])), (hd, .inr (0, [.int (nI w), .int (nI b), .int wr, .ref qc, .ref qi, .int wa, .int wc])), (hf, .inr (2, [.int dp, .ref qp, .ref qe, .ref ql, .int (nI lo), .int (nI le)])), (qp, .inl (cO, b, .inr (.inr (.inr (.inr fp))))), MA9 ql cI b fl, (q0, .inr (7, [.int a1, .int a2, .int a3, .long a4])), (q1, .inr (7, [.int b1, .int b2, .int b3, .long b4])), (qk, .inr (7, [.int c1, .int c2, .int c3, .long c4]))]) [3, 4, 0, 1, 2, 5, 6, 7] rfl
      have hD9 := hD.part (cx := [(ax, .inr (8, [.ref hd, .ref hf, .ref hs, .ref hp, .ref he, .ref q0, .ref q1, .ref qk, .int 0, .long fx, .int dn])), (hd, .inr (0, [.int (nI w), .int (nI b), .int wr, .ref qc, .ref qi, .int wa, .int wc])), (hf, .inr (2, [.int dp, .ref qp, .ref qe, .ref ql, .int (nI lo), .int (nI le)])), (qp, .inl (cO, b, .inr (.inr (.inr (.inr fp))))), MA9 ql cI b fl, (q0, .inr (7, [.int a1, .int a2, .int a3, .long a4])), (q1, .inr (7, [.int b1, .int b2, .int b3, .long b4])), (qk, .inr (7, [.int c1, .int c2, .int c3, .long c4]))]) [3, 4, 0, 1, 2, 5, 6, 7] (by decide) rfl
      have hK9 := hK.sub (tys' := [(cO, .object RX4), (cI, .int)]) [0, 1] rfl
      exact W.iret (v := r_3) hx hb hr (fun t ht hW => ⟨⟨r_3, (0, fx, dn, dp, lo, le, fl), rfl, (by first | assumption | exact hw.2 | exact hw.2.1 | exact hw | exact Or.inl rfl | exact Or.inr rfl), by rw [ht]; exact hP9, va_K.moved hW.alike hK9, hD9⟩, hS.F ht⟩) hS.2.2 dX8_countWhenUp_43
    by_cases h_4 : p0 = 6
    · refine lv_tableIn (off := 43) (tgt := 44) hx hb dX8_countWhenUp_1 (by rw [h_4]; decide) (by rw [h_4]; decide) (by rw [h_4]; decide) (by decide) ?_
      refine lv_aload_n hx hb dX8_countWhenUp_44 rfl (lv_at hl 0 rfl) ?_
      refine va_get (D := (dC, dI)) (ci := 8) (v := .ref hf) (C := RX8) (T := TX8) (N := 11) hx hb hts k_1 hown hK hP 0 rfl rfl 1 (by decide) k_2 (fun _ h9 => h9) rfl dX8_countWhenUp_45 ?_
      refine lv_aload_n hx hb dX8_countWhenUp_48 rfl (lv_at hl 0 rfl) ?_
      refine va_get (D := (dC, dI)) (ci := 8) (v := .ref qk) (C := RX8) (T := TX8) (N := 11) hx hb hts k_1 hown hK hP 0 rfl rfl 7 (by decide) k_3 (fun _ h9 => h9) rfl dX8_countWhenUp_49 ?_
      refine va_get (D := (dC, dI)) (ci := 7) (v := .int c2) (C := RX7) (T := TX7) (N := 4) hx hb hts k_4 hown hK hP 7 rfl rfl 1 (by decide) k_5 (fun _ h9 => h9) rfl dX8_countWhenUp_52 ?_
      have hPc := hP.part (cx := [(hf, .inr (2, [.int dp, .ref qp, .ref qe, .ref ql, .int (nI lo), .int (nI le)])), (qp, .inl (cO, b, .inr (.inr (.inr (.inr fp))))), MA9 ql cI b fl]) [2, 3, 4] rfl
      have hDc := hD.part (cx := [(hf, .inr (2, [.int dp, .ref qp, .ref qe, .ref ql, .int (nI lo), .int (nI le)])), (qp, .inl (cO, b, .inr (.inr (.inr (.inr fp))))), MA9 ql cI b fl]) [2, 3, 4] (by decide) rfl
      have hFc := va_freeP (cx := [(hf, .inr (2, [.int dp, .ref qp, .ref qe, .ref ql, .int (nI lo), .int (nI le)])), (qp, .inl (cO, b, .inr (.inr (.inr (.inr fp))))), MA9 ql cI b fl]) hD hS hA [2, 3, 4] rfl
      have hKc := hK.sub (tys' := [(cO, .object RX4), (cI, .int)]) [0, 1] rfl
      refine va_callv (va_runV (As := [.int c2]) (rest := []) ⟨hx, hb, hml, hown, hts⟩ (c_X2_walk l dC dI s.heap.size hf qp qe ql b dp (nI lo) (nI le) c2 cO fp G Pg cI S fl (by first | assumption | omega | decide) (by first | assumption | omega | decide) (by first | assumption | omega | decide) (by first | assumption | omega | decide) (by first | assumption | omega | decide)) (cwV 1 hts g_X8_countWhenUp_X2_walk rfl rfl rfl (by decide +kernel) ⟨Nat.le_of_ble_eq_true rfl, Nat.le_of_ble_eq_true rfl⟩) ⟨fun a U g mk q => by obtain ⟨q0, q1, qP, qK, qD⟩ := q; exact ⟨q0, q1, qP, va_K.moved (u := U) (U := U.calling g mk a) (Vm.Alike.refl U.vm) qK, qD⟩, va_recv hKc hPc (ci := 2) (q0 := 0) rfl rfl, fun U hU hW => ⟨rfl, by rw [hU], by rw [hU]; exact hPc, va_K.moved hW.alike hKc, hDc.weaken (fun _ _ _ _ => trivial)⟩⟩ rfl rfl hl.1 rfl (lv_room (Nat.le_of_ble_eq_true rfl)) dX8_countWhenUp_55 ⟨(show 0 + 0 ≤ 0 by omega), (show 0 + 0 ≤ 0 by omega)⟩) hS (fun q _ h => hFc q h) hFc (fun u t H1 locs ht hvm hw hB hz1 hk1 hS9 => ?_)
      replace hS := hS9
      clear hS9
      obtain ⟨dp2_6, lo2_7, le2_8, fl2_9⟩ := u
      obtain ⟨hP1, hK1, hD1⟩ := hB
      rw [ht] at hP1
      replace hK1 := va_K.moved hvm.symm hK1
      try dsimp only at hw
      obtain ⟨hP9, hD9⟩ := va_joinP (wr := [(ax, .inr (8, [.ref hd, .ref hf, .ref hs, .ref hp, .ref he, .ref q0, .ref q1, .ref qk, .int 0, .long fx, .int dn])), (hd, .inr (0, [.int (nI w), .int (nI b), .int wr, .ref qc, .ref qi, .int wa, .int wc])), (q0, .inr (7, [.int a1, .int a2, .int a3, .long a4])), (q1, .inr (7, [.int b1, .int b2, .int b3, .long b4])), (qk, .inr (7, [.int c1, .int c2, .int c3, .long c4]))]) (rx := [(hf, .inr (2, [.int dp2_6, .ref qp, .ref qe, .ref ql, .int (nI lo2_7), .int (nI le2_8)])), (qp, .inl (cO, b, .inr (.inr (.inr (.inr fp))))), MA9 ql cI b fl2_9]) (pl1 := pool G cI Pg S) hP hD [2, 3, 4] [0, 1, 5, 6, 7] rfl rfl (by decide) (by decide) hk1 hFc hP1 hD1
      replace hP := hP9
      replace hD := hD9
      clear hP9 hD9
      replace hK := (hK.sub (tys' := [(cO, .object RX4), (cI, .int)]) [0, 1] rfl).app hK1
      replace hK : va_K (dC, dI) vwCl [(cO, .object RX4), (cI, .int)] s := hK.sub [0, 1] rfl
      clear hP1 hD1 hK1 hPc hDc hKc hFc hk1 hz1 hvm ht
      generalize H1 = H at hP hS ⊢
      replace hP : va_P (dC, dI) vwCl ([(ax, .inr (8, [.ref hd, .ref hf, .ref hs, .ref hp, .ref he, .ref q0, .ref q1, .ref qk, .int 0, .long fx, .int dn])), (hd, .inr (0, [.int (nI w), .int (nI b), .int wr, .ref qc, .ref qi, .int wa, .int wc])), (q0, .inr (7, [.int a1, .int a2, .int a3, .long a4])), (q1, .inr (7, [.int b1, .int b2, .int b3, .long b4])), (qk, .inr (7, [.int c1, .int c2, .int c3, .long c4])), (hf, .inr (2, [.int dp2_6, .ref qp, .ref qe, .ref ql, .int (nI lo2_7), .int (nI le2_8)])), (qp, .inl (cO, b, .inr (.inr (.inr (.inr fp))))), MA9 ql cI b fl2_9] ++ pool G cI Pg S) H := hP
      replace hD : va_D A ([(ax, .inr (8, [.ref hd, .ref hf, .ref hs, .ref hp, .ref he, .ref q0, .ref q1, .ref qk, .int 0, .long fx, .int dn])), (hd, .inr (0, [.int (nI w), .int (nI b), .int wr, .ref qc, .ref qi, .int wa, .int wc])), (q0, .inr (7, [.int a1, .int a2, .int a3, .long a4])), (q1, .inr (7, [.int b1, .int b2, .int b3, .long b4])), (qk, .inr (7, [.int c1, .int c2, .int c3, .long c4])), (hf, .inr (2, [.int dp2_6, .ref qp, .ref qe, .ref ql, .int (nI lo2_7), .int (nI le2_8)])), (qp, .inl (cO, b, .inr (.inr (.inr (.inr fp))))), MA9 ql cI b fl2_9] ++ pool G cI Pg S) := hD
      replace hK : va_K (dC, dI) vwCl [(cO, .object RX4), (cI, .int)] s := hK
      have hw_r_5 := hw
      refine lv_aload_n hx hb dX8_countWhenUp_58 rfl (lv_at hl 0 rfl) ?_
      refine va_get (D := (dC, dI)) (ci := 8) (v := .ref hf) (C := RX8) (T := TX8) (N := 11) hx hb hts k_1 hown hK hP 0 rfl rfl 1 (by decide) k_2 (fun _ h9 => h9) rfl dX8_countWhenUp_59 ?_
      refine va_get (D := (dC, dI)) (ci := 2) (v := .int dp2_6) (C := RX2) (T := TX2) (N := 6) hx hb hts k_6 hown hK hP 5 rfl rfl 0 (by decide) k_7 (fun _ h9 => h9) rfl dX8_countWhenUp_62 ?_
      have hP9 := hP.part (cx := [(ax, .inr (8, [.ref hd, .ref hf, .ref hs, .ref hp, .ref he, .ref q0, .ref q1, .ref qk, .int 0, .long fx, .int dn])), (hd, .inr (0, [.int (nI w), .int (nI b), .int wr, .ref qc, .ref qi, .int wa, .int wc])), (hf, .inr (2, [.int dp2_6, .ref qp, .ref qe, .ref ql, .int (nI lo2_7), .int (nI le2_8)])), (qp, .inl (cO, b, .inr (.inr (.inr (.inr fp))))), MA9 ql cI b fl2_9, (q0, .inr (7, [.int a1, .int a2, .int a3, .long a4])), (q1, .inr (7, [.int b1, .int b2, .int b3, .long b4])), (qk, .inr (7, [.int c1, .int c2, .int c3, .long c4]))]) [0, 1, 5, 6, 7, 2, 3, 4] rfl
      have hD9 := hD.part (cx := [(ax, .inr (8, [.ref hd, .ref hf, .ref hs, .ref hp, .ref he, .ref q0, .ref q1, .ref qk, .int 0, .long fx, .int dn])), (hd, .inr (0, [.int (nI w), .int (nI b), .int wr, .ref qc, .ref qi, .int wa, .int wc])), (hf, .inr (2, [.int dp2_6, .ref qp, .ref qe, .ref ql, .int (nI lo2_7), .int (nI le2_8)])), (qp, .inl (cO, b, .inr (.inr (.inr (.inr fp))))), MA9 ql cI b fl2_9, (q0, .inr (7, [.int a1, .int a2, .int a3, .long a4])), (q1, .inr (7, [.int b1, .int b2, .int b3, .long b4])), (qk, .inr (7, [.int c1, .int c2, .int c3, .long c4]))]) [0, 1, 5, 6, 7, 2, 3, 4] (by decide) rfl
      have hK9 := hK.sub (tys' := [(cO, .object RX4), (cI, .int)]) [0, 1] rfl
      exact W.iret (v := dp2_6) hx hb hr (fun t ht hW => ⟨⟨dp2_6, (0, fx, dn, dp2_6, lo2_7, le2_8, fl2_9), rfl, (by first | assumption | exact hw.2 | exact hw.2.1 | exact hw | exact Or.inl rfl | exact Or.inr rfl), by rw [ht]; exact hP9, va_K.moved hW.alike hK9, hD9⟩, hS.F ht⟩) hS.2.2 dX8_countWhenUp_65
    by_cases h_10 : p0 = 7
    · refine lv_tableIn (off := 65) (tgt := 66) hx hb dX8_countWhenUp_1 (by rw [h_10]; decide) (by rw [h_10]; decide) (by rw [h_10]; decide) (by decide) ?_
      refine lv_aload_n hx hb dX8_countWhenUp_66 rfl (lv_at hl 0 rfl) ?_
      refine va_get (D := (dC, dI)) (ci := 8) (v := .ref qk) (C := RX8) (T := TX8) (N := 11) hx hb hts k_1 hown hK hP 0 rfl rfl 7 (by decide) k_3 (fun _ h9 => h9) rfl dX8_countWhenUp_67 ?_
      refine va_get (D := (dC, dI)) (ci := 7) (v := .int c2) (C := RX7) (T := TX7) (N := 4) hx hb hts k_4 hown hK hP 7 rfl rfl 1 (by decide) k_5 (fun _ h9 => h9) rfl dX8_countWhenUp_70 ?_
      have hP9 := hP.part (cx := [(ax, .inr (8, [.ref hd, .ref hf, .ref hs, .ref hp, .ref he, .ref q0, .ref q1, .ref qk, .int 0, .long fx, .int dn])), (hd, .inr (0, [.int (nI w), .int (nI b), .int wr, .ref qc, .ref qi, .int wa, .int wc])), (hf, .inr (2, [.int dp, .ref qp, .ref qe, .ref ql, .int (nI lo), .int (nI le)])), (qp, .inl (cO, b, .inr (.inr (.inr (.inr fp))))), MA9 ql cI b fl, (q0, .inr (7, [.int a1, .int a2, .int a3, .long a4])), (q1, .inr (7, [.int b1, .int b2, .int b3, .long b4])), (qk, .inr (7, [.int c1, .int c2, .int c3, .long c4]))]) [0, 1, 2, 3, 4, 5, 6, 7] rfl
      have hD9 := hD.part (cx := [(ax, .inr (8, [.ref hd, .ref hf, .ref hs, .ref hp, .ref he, .ref q0, .ref q1, .ref qk, .int 0, .long fx, .int dn])), (hd, .inr (0, [.int (nI w), .int (nI b), .int wr, .ref qc, .ref qi, .int wa, .int wc])), (hf, .inr (2, [.int dp, .ref qp, .ref qe, .ref ql, .int (nI lo), .int (nI le)])), (qp, .inl (cO, b, .inr (.inr (.inr (.inr fp))))), MA9 ql cI b fl, (q0, .inr (7, [.int a1, .int a2, .int a3, .long a4])), (q1, .inr (7, [.int b1, .int b2, .int b3, .long b4])), (qk, .inr (7, [.int c1, .int c2, .int c3, .long c4]))]) [0, 1, 2, 3, 4, 5, 6, 7] (by decide) rfl
      have hK9 := hK.sub (tys' := [(cO, .object RX4), (cI, .int)]) [0, 1] rfl
      exact W.iret (v := c2) hx hb hr (fun t ht hW => ⟨⟨c2, (0, fx, dn, dp, lo, le, fl), rfl, (by first | assumption | exact hw.2 | exact hw.2.1 | exact hw | exact Or.inl rfl | exact Or.inr rfl), by rw [ht]; exact hP9, va_K.moved hW.alike hK9, hD9⟩, hS.F ht⟩) hS.2.2 dX8_countWhenUp_73
    by_cases h_11 : p0 = 8
    · refine lv_tableIn (off := 73) (tgt := 74) hx hb dX8_countWhenUp_1 (by rw [h_11]; decide) (by rw [h_11]; decide) (by rw [h_11]; decide) (by decide) ?_
      refine lv_aload_n hx hb dX8_countWhenUp_74 rfl (lv_at hl 0 rfl) ?_
      refine va_get (D := (dC, dI)) (ci := 8) (v := .ref qk) (C := RX8) (T := TX8) (N := 11) hx hb hts k_1 hown hK hP 0 rfl rfl 7 (by decide) k_3 (fun _ h9 => h9) rfl dX8_countWhenUp_75 ?_
      refine va_get (D := (dC, dI)) (ci := 7) (v := .long c4) (C := RX7) (T := TX7) (N := 4) hx hb hts k_4 hown hK hP 7 rfl rfl 3 (by decide) k_8 (fun _ h9 => h9) rfl dX8_countWhenUp_78 ?_
      have hPc := hP.sub (ws' := []) [] rfl
      have hDc := hD.sub (ws' := []) [] (by decide) rfl
      have hKc := hK.sub (tys' := []) [] rfl
      have hFc := va_free (wc := []) hD hS hA [] rfl
      refine va_calli (va_runS (As := [.long c4]) (rest := []) ⟨hx, hb, hml, hown, hts⟩ (c_J13_bitCount_95d88 l dC dI s.heap.size c4) (va_cwS 1 hts g_X8_countWhenUp_J13_bitCount_95d88 rfl rfl rfl (by decide +kernel) ⟨Nat.le_of_ble_eq_true rfl, Nat.le_of_ble_eq_true rfl⟩) ⟨fun a U g mk q => by obtain ⟨q0, q1, qP, qK, qD⟩ := q; exact ⟨q0, q1, qP, va_K.moved (u := U) (U := U.calling g mk a) (Vm.Alike.refl U.vm) qK, qD⟩, fun U hU hW => ⟨rfl, by rw [hU], by rw [hU]; exact hPc, va_K.moved hW.alike hKc, hDc.weaken (fun _ _ _ _ => trivial)⟩⟩ rfl rfl hl.1 rfl (lv_room (Nat.le_of_ble_eq_true rfl)) dX8_countWhenUp_81 ⟨(show 0 + 0 ≤ 0 by omega), (show 0 + 0 ≤ 0 by omega)⟩) hS (fun q _ h => hFc q h) hFc (fun r_12 u t H1 locs ht hvm hw hB hz1 hk1 hS9 => ?_)
      replace hS := hS9
      clear hS9
      obtain ⟨hP1, hK1, hD1⟩ := hB
      rw [ht] at hP1
      replace hK1 := va_K.moved hvm.symm hK1
      try dsimp only at hw
      obtain ⟨hP9, hD9⟩ := va_joinQ (wr := [(ax, .inr (8, [.ref hd, .ref hf, .ref hs, .ref hp, .ref he, .ref q0, .ref q1, .ref qk, .int 0, .long fx, .int dn])), (hd, .inr (0, [.int (nI w), .int (nI b), .int wr, .ref qc, .ref qi, .int wa, .int wc])), (hf, .inr (2, [.int dp, .ref qp, .ref qe, .ref ql, .int (nI lo), .int (nI le)])), (qp, .inl (cO, b, .inr (.inr (.inr (.inr fp))))), MA9 ql cI b fl, (q0, .inr (7, [.int a1, .int a2, .int a3, .long a4])), (q1, .inr (7, [.int b1, .int b2, .int b3, .long b4])), (qk, .inr (7, [.int c1, .int c2, .int c3, .long c4]))]) (w1 := []) hP hD [] [0, 1, 2, 3, 4, 5, 6, 7] rfl rfl (by decide) (by decide) hk1 hFc hP1 hD1
      replace hP := hP9
      replace hD := hD9
      clear hP9 hD9
      replace hK := (hK.sub (tys' := [(cO, .object RX4), (cI, .int)]) [0, 1] rfl).app hK1
      replace hK : va_K (dC, dI) vwCl [(cO, .object RX4), (cI, .int)] s := hK.sub [0, 1] rfl
      clear hP1 hD1 hK1 hPc hDc hKc hFc hk1 hz1 hvm ht
      generalize H1 = H at hP hS ⊢
      replace hP : va_P (dC, dI) vwCl ([(ax, .inr (8, [.ref hd, .ref hf, .ref hs, .ref hp, .ref he, .ref q0, .ref q1, .ref qk, .int 0, .long fx, .int dn])), (hd, .inr (0, [.int (nI w), .int (nI b), .int wr, .ref qc, .ref qi, .int wa, .int wc])), (hf, .inr (2, [.int dp, .ref qp, .ref qe, .ref ql, .int (nI lo), .int (nI le)])), (qp, .inl (cO, b, .inr (.inr (.inr (.inr fp))))), MA9 ql cI b fl, (q0, .inr (7, [.int a1, .int a2, .int a3, .long a4])), (q1, .inr (7, [.int b1, .int b2, .int b3, .long b4])), (qk, .inr (7, [.int c1, .int c2, .int c3, .long c4]))] ++ pool G cI Pg S) H := hP
      replace hD : va_D A ([(ax, .inr (8, [.ref hd, .ref hf, .ref hs, .ref hp, .ref he, .ref q0, .ref q1, .ref qk, .int 0, .long fx, .int dn])), (hd, .inr (0, [.int (nI w), .int (nI b), .int wr, .ref qc, .ref qi, .int wa, .int wc])), (hf, .inr (2, [.int dp, .ref qp, .ref qe, .ref ql, .int (nI lo), .int (nI le)])), (qp, .inl (cO, b, .inr (.inr (.inr (.inr fp))))), MA9 ql cI b fl, (q0, .inr (7, [.int a1, .int a2, .int a3, .long a4])), (q1, .inr (7, [.int b1, .int b2, .int b3, .long b4])), (qk, .inr (7, [.int c1, .int c2, .int c3, .long c4]))] ++ pool G cI Pg S) := hD
      replace hK : va_K (dC, dI) vwCl [(cO, .object RX4), (cI, .int)] s := hK
      have hw_r_12 := hw
      have hP9 := hP.part (cx := [(ax, .inr (8, [.ref hd, .ref hf, .ref hs, .ref hp, .ref he, .ref q0, .ref q1, .ref qk, .int 0, .long fx, .int dn])), (hd, .inr (0, [.int (nI w), .int (nI b), .int wr, .ref qc, .ref qi, .int wa, .int wc])), (hf, .inr (2, [.int dp, .ref qp, .ref qe, .ref ql, .int (nI lo), .int (nI le)])), (qp, .inl (cO, b, .inr (.inr (.inr (.inr fp))))), MA9 ql cI b fl, (q0, .inr (7, [.int a1, .int a2, .int a3, .long a4])), (q1, .inr (7, [.int b1, .int b2, .int b3, .long b4])), (qk, .inr (7, [.int c1, .int c2, .int c3, .long c4]))]) [0, 1, 2, 3, 4, 5, 6, 7] rfl
      have hD9 := hD.part (cx := [(ax, .inr (8, [.ref hd, .ref hf, .ref hs, .ref hp, .ref he, .ref q0, .ref q1, .ref qk, .int 0, .long fx, .int dn])), (hd, .inr (0, [.int (nI w), .int (nI b), .int wr, .ref qc, .ref qi, .int wa, .int wc])), (hf, .inr (2, [.int dp, .ref qp, .ref qe, .ref ql, .int (nI lo), .int (nI le)])), (qp, .inl (cO, b, .inr (.inr (.inr (.inr fp))))), MA9 ql cI b fl, (q0, .inr (7, [.int a1, .int a2, .int a3, .long a4])), (q1, .inr (7, [.int b1, .int b2, .int b3, .long b4])), (qk, .inr (7, [.int c1, .int c2, .int c3, .long c4]))]) [0, 1, 2, 3, 4, 5, 6, 7] (by decide) rfl
      have hK9 := hK.sub (tys' := [(cO, .object RX4), (cI, .int)]) [0, 1] rfl
      exact W.iret (v := r_12) hx hb hr (fun t ht hW => ⟨⟨r_12, (0, fx, dn, dp, lo, le, fl), rfl, (by first | assumption | exact hw.2 | exact hw.2.1 | exact hw | exact Or.inl rfl | exact Or.inr rfl), by rw [ht]; exact hP9, va_K.moved hW.alike hK9, hD9⟩, hS.F ht⟩) hS.2.2 dX8_countWhenUp_84
    by_cases h_13 : p0 = 9
    · refine lv_tableIn (off := 84) (tgt := 85) hx hb dX8_countWhenUp_1 (by rw [h_13]; decide) (by rw [h_13]; decide) (by rw [h_13]; decide) (by decide) ?_
      refine lv_aload_n hx hb dX8_countWhenUp_85 rfl (lv_at hl 0 rfl) ?_
      refine lv_aload_n hx hb dX8_countWhenUp_86 rfl (lv_at hl 0 rfl) ?_
      refine va_get (D := (dC, dI)) (ci := 8) (v := .int 0) (C := RX8) (T := TX8) (N := 11) hx hb hts k_1 hown hK hP 0 rfl rfl 8 (by decide) k_9 (fun _ h9 => h9) rfl dX8_countWhenUp_87 ?_
      have hPc := hP.sub (ws' := [(ax, .inr (8, [.ref hd, .ref hf, .ref hs, .ref hp, .ref he, .ref q0, .ref q1, .ref qk, .int 0, .long fx, .int dn]))]) [0] rfl
      have hDc := hD.sub (ws' := [(ax, .inr (8, [.ref hd, .ref hf, .ref hs, .ref hp, .ref he, .ref q0, .ref q1, .ref qk, .int 0, .long fx, .int dn]))]) [0] (by decide) rfl
      have hKc := hK.sub (tys' := []) [] rfl
      have hFc := va_free (wc := [(ax, .inr (8, [.ref hd, .ref hf, .ref hs, .ref hp, .ref he, .ref q0, .ref q1, .ref qk, .int 0, .long fx, .int dn]))]) hD hS hA [0] rfl
      refine va_callr (va_runV (As := [.int 0]) (rest := []) ⟨hx, hb, hml, hown, hts⟩ (c_X8_told_0 l dC dI s.heap.size ax hd hf hs hp he q0 q1 qk 0 dn fx) (cwV 1 hts g_X8_countWhenUp_X8_told_0 rfl rfl rfl (by decide +kernel) ⟨Nat.le_of_ble_eq_true rfl, Nat.le_of_ble_eq_true rfl⟩) ⟨fun a U g mk q => by obtain ⟨q0, q1, qP, qK, qD⟩ := q; exact ⟨q0, q1, qP, va_K.moved (u := U) (U := U.calling g mk a) (Vm.Alike.refl U.vm) qK, qD⟩, va_recv hKc hPc (ci := 8) (q0 := 0) rfl rfl, fun U hU hW => ⟨rfl, by rw [hU], by rw [hU]; exact hPc, va_K.moved hW.alike hKc, hDc.weaken (fun _ _ _ _ => trivial)⟩⟩ rfl rfl hl.1 rfl (lv_room (Nat.le_of_ble_eq_true rfl)) dX8_countWhenUp_90 ⟨(show 0 + 0 ≤ 0 by omega), (show 0 + 0 ≤ 0 by omega)⟩) hS (fun q _ h => hFc q h) hFc (fun u r_14 t H1 locs ht hvm hw hB hz1 hk1 hS9 => ?_)
      replace hS := hS9
      clear hS9
      obtain ⟨hra, hP1, hK1, hD1⟩ := hB
      have hra := hra.symm
      subst hra
      rw [ht] at hP1
      replace hK1 := va_K.moved hvm.symm hK1
      try dsimp only at hw
      obtain ⟨hP9, hD9⟩ := va_joinQ (wr := [(hd, .inr (0, [.int (nI w), .int (nI b), .int wr, .ref qc, .ref qi, .int wa, .int wc])), (hf, .inr (2, [.int dp, .ref qp, .ref qe, .ref ql, .int (nI lo), .int (nI le)])), (qp, .inl (cO, b, .inr (.inr (.inr (.inr fp))))), MA9 ql cI b fl, (q0, .inr (7, [.int a1, .int a2, .int a3, .long a4])), (q1, .inr (7, [.int b1, .int b2, .int b3, .long b4])), (qk, .inr (7, [.int c1, .int c2, .int c3, .long c4]))]) (w1 := [(ax, .inr (8, [.ref hd, .ref hf, .ref hs, .ref hp, .ref he, .ref q0, .ref q1, .ref qk, .int 0, .long fx, .int dn]))]) hP hD [0] [1, 2, 3, 4, 5, 6, 7] rfl rfl (by decide) (by decide) hk1 hFc hP1 hD1
      replace hP := hP9
      replace hD := hD9
      clear hP9 hD9
      replace hK := (hK.sub (tys' := [(cO, .object RX4), (cI, .int)]) [0, 1] rfl).app hK1
      replace hK : va_K (dC, dI) vwCl [(cO, .object RX4), (cI, .int)] s := hK.sub [0, 1] rfl
      clear hP1 hD1 hK1 hPc hDc hKc hFc hk1 hz1 hvm ht
      generalize H1 = H at hP hS ⊢
      replace hP : va_P (dC, dI) vwCl ([(hd, .inr (0, [.int (nI w), .int (nI b), .int wr, .ref qc, .ref qi, .int wa, .int wc])), (hf, .inr (2, [.int dp, .ref qp, .ref qe, .ref ql, .int (nI lo), .int (nI le)])), (qp, .inl (cO, b, .inr (.inr (.inr (.inr fp))))), MA9 ql cI b fl, (q0, .inr (7, [.int a1, .int a2, .int a3, .long a4])), (q1, .inr (7, [.int b1, .int b2, .int b3, .long b4])), (qk, .inr (7, [.int c1, .int c2, .int c3, .long c4])), (ax, .inr (8, [.ref hd, .ref hf, .ref hs, .ref hp, .ref he, .ref q0, .ref q1, .ref qk, .int 0, .long fx, .int dn]))] ++ pool G cI Pg S) H := hP
      replace hD : va_D A ([(hd, .inr (0, [.int (nI w), .int (nI b), .int wr, .ref qc, .ref qi, .int wa, .int wc])), (hf, .inr (2, [.int dp, .ref qp, .ref qe, .ref ql, .int (nI lo), .int (nI le)])), (qp, .inl (cO, b, .inr (.inr (.inr (.inr fp))))), MA9 ql cI b fl, (q0, .inr (7, [.int a1, .int a2, .int a3, .long a4])), (q1, .inr (7, [.int b1, .int b2, .int b3, .long b4])), (qk, .inr (7, [.int c1, .int c2, .int c3, .long c4])), (ax, .inr (8, [.ref hd, .ref hf, .ref hs, .ref hp, .ref he, .ref q0, .ref q1, .ref qk, .int 0, .long fx, .int dn]))] ++ pool G cI Pg S) := hD
      replace hK : va_K (dC, dI) vwCl [(cO, .object RX4), (cI, .int)] s := hK
      refine va_get (D := (dC, dI)) (ci := 7) (v := .int a3) (C := RX7) (T := TX7) (N := 4) hx hb hts k_4 hown hK hP 4 rfl rfl 2 (by decide) k_10 (fun _ h9 => h9) rfl dX8_countWhenUp_93 ?_
      have hP9 := hP.part (cx := [(ax, .inr (8, [.ref hd, .ref hf, .ref hs, .ref hp, .ref he, .ref q0, .ref q1, .ref qk, .int 0, .long fx, .int dn])), (hd, .inr (0, [.int (nI w), .int (nI b), .int wr, .ref qc, .ref qi, .int wa, .int wc])), (hf, .inr (2, [.int dp, .ref qp, .ref qe, .ref ql, .int (nI lo), .int (nI le)])), (qp, .inl (cO, b, .inr (.inr (.inr (.inr fp))))), MA9 ql cI b fl, (q0, .inr (7, [.int a1, .int a2, .int a3, .long a4])), (q1, .inr (7, [.int b1, .int b2, .int b3, .long b4])), (qk, .inr (7, [.int c1, .int c2, .int c3, .long c4]))]) [7, 0, 1, 2, 3, 4, 5, 6] rfl
      have hD9 := hD.part (cx := [(ax, .inr (8, [.ref hd, .ref hf, .ref hs, .ref hp, .ref he, .ref q0, .ref q1, .ref qk, .int 0, .long fx, .int dn])), (hd, .inr (0, [.int (nI w), .int (nI b), .int wr, .ref qc, .ref qi, .int wa, .int wc])), (hf, .inr (2, [.int dp, .ref qp, .ref qe, .ref ql, .int (nI lo), .int (nI le)])), (qp, .inl (cO, b, .inr (.inr (.inr (.inr fp))))), MA9 ql cI b fl, (q0, .inr (7, [.int a1, .int a2, .int a3, .long a4])), (q1, .inr (7, [.int b1, .int b2, .int b3, .long b4])), (qk, .inr (7, [.int c1, .int c2, .int c3, .long c4]))]) [7, 0, 1, 2, 3, 4, 5, 6] (by decide) rfl
      have hK9 := hK.sub (tys' := [(cO, .object RX4), (cI, .int)]) [0, 1] rfl
      exact W.iret (v := a3) hx hb hr (fun t ht hW => ⟨⟨a3, (0, fx, dn, dp, lo, le, fl), rfl, (by first | assumption | exact hw.2 | exact hw.2.1 | exact hw | exact Or.inl rfl | exact Or.inr rfl), by rw [ht]; exact hP9, va_K.moved hW.alike hK9, hD9⟩, hS.F ht⟩) hS.2.2 dX8_countWhenUp_96
    have th_1 : ¬ p0.toInt = 5 := lv_neT h_1 (by decide)
    have th_4 : ¬ p0.toInt = 6 := lv_neT h_4 (by decide)
    have th_10 : ¬ p0.toInt = 7 := lv_neT h_10 (by decide)
    have th_11 : ¬ p0.toInt = 8 := lv_neT h_11 (by decide)
    have th_13 : ¬ p0.toInt = 9 := lv_neT h_13 (by decide)
    refine lv_tableOut (tgt := 97) hx hb dX8_countWhenUp_1 (by omega) (by decide) ?_
    refine lv_iconst (v := 0) hx hb dX8_countWhenUp_97 (by decide) ?_
    have hP9 := hP.part (cx := [(ax, .inr (8, [.ref hd, .ref hf, .ref hs, .ref hp, .ref he, .ref q0, .ref q1, .ref qk, .int 0, .long fx, .int dn])), (hd, .inr (0, [.int (nI w), .int (nI b), .int wr, .ref qc, .ref qi, .int wa, .int wc])), (hf, .inr (2, [.int dp, .ref qp, .ref qe, .ref ql, .int (nI lo), .int (nI le)])), (qp, .inl (cO, b, .inr (.inr (.inr (.inr fp))))), MA9 ql cI b fl, (q0, .inr (7, [.int a1, .int a2, .int a3, .long a4])), (q1, .inr (7, [.int b1, .int b2, .int b3, .long b4])), (qk, .inr (7, [.int c1, .int c2, .int c3, .long c4]))]) [0, 1, 2, 3, 4, 5, 6, 7] rfl
    have hD9 := hD.part (cx := [(ax, .inr (8, [.ref hd, .ref hf, .ref hs, .ref hp, .ref he, .ref q0, .ref q1, .ref qk, .int 0, .long fx, .int dn])), (hd, .inr (0, [.int (nI w), .int (nI b), .int wr, .ref qc, .ref qi, .int wa, .int wc])), (hf, .inr (2, [.int dp, .ref qp, .ref qe, .ref ql, .int (nI lo), .int (nI le)])), (qp, .inl (cO, b, .inr (.inr (.inr (.inr fp))))), MA9 ql cI b fl, (q0, .inr (7, [.int a1, .int a2, .int a3, .long a4])), (q1, .inr (7, [.int b1, .int b2, .int b3, .long b4])), (qk, .inr (7, [.int c1, .int c2, .int c3, .long c4]))]) [0, 1, 2, 3, 4, 5, 6, 7] (by decide) rfl
    have hK9 := hK.sub (tys' := [(cO, .object RX4), (cI, .int)]) [0, 1] rfl
    exact W.iret (v := 0) hx hb hr (fun t ht hW => ⟨⟨0, (0, fx, dn, dp, lo, le, fl), rfl, (by first | assumption | exact hw.2 | exact hw.2.1 | exact hw | exact Or.inl rfl | exact Or.inr rfl), by rw [ht]; exact hP9, va_K.moved hW.alike hK9, hD9⟩, hS.F ht⟩) hS.2.2 dX8_countWhenUp_98
  · replace hP : va_P (dC, dI) vwCl ([(ax, .inr (8, [.ref hd, .ref hf, .ref hs, .ref hp, .ref he, .ref q0, .ref q1, .ref qk, .int 1, .long fx, .int dn])), (hd, .inr (0, [.int (nI w), .int (nI b), .int wr, .ref qc, .ref qi, .int wa, .int wc])), (hf, .inr (2, [.int dp, .ref qp, .ref qe, .ref ql, .int (nI lo), .int (nI le)])), (qp, .inl (cO, b, .inr (.inr (.inr (.inr fp))))), MA9 ql cI b fl, (q0, .inr (7, [.int a1, .int a2, .int a3, .long a4])), (q1, .inr (7, [.int b1, .int b2, .int b3, .long b4])), (qk, .inr (7, [.int c1, .int c2, .int c3, .long c4]))] ++ pool G cI Pg S) s.heap := hP
    replace hD : va_D A ([(ax, .inr (8, [.ref hd, .ref hf, .ref hs, .ref hp, .ref he, .ref q0, .ref q1, .ref qk, .int 1, .long fx, .int dn])), (hd, .inr (0, [.int (nI w), .int (nI b), .int wr, .ref qc, .ref qi, .int wa, .int wc])), (hf, .inr (2, [.int dp, .ref qp, .ref qe, .ref ql, .int (nI lo), .int (nI le)])), (qp, .inl (cO, b, .inr (.inr (.inr (.inr fp))))), MA9 ql cI b fl, (q0, .inr (7, [.int a1, .int a2, .int a3, .long a4])), (q1, .inr (7, [.int b1, .int b2, .int b3, .long b4])), (qk, .inr (7, [.int c1, .int c2, .int c3, .long c4]))] ++ pool G cI Pg S) := hD
    refine lv_iload_n hx hb dX8_countWhenUp_0 rfl (lv_at hl 1 rfl) ?_
    by_cases h_15 : p0 = 5
    · refine lv_tableIn (off := 35) (tgt := 36) hx hb dX8_countWhenUp_1 (by rw [h_15]; decide) (by rw [h_15]; decide) (by rw [h_15]; decide) (by decide) ?_
      refine lv_aload_n hx hb dX8_countWhenUp_36 rfl (lv_at hl 0 rfl) ?_
      have hPc := hP.sub (ws' := [(ax, .inr (8, [.ref hd, .ref hf, .ref hs, .ref hp, .ref he, .ref q0, .ref q1, .ref qk, .int 1, .long fx, .int dn])), (hd, .inr (0, [.int (nI w), .int (nI b), .int wr, .ref qc, .ref qi, .int wa, .int wc])), (q0, .inr (7, [.int a1, .int a2, .int a3, .long a4])), (q1, .inr (7, [.int b1, .int b2, .int b3, .long b4])), (qk, .inr (7, [.int c1, .int c2, .int c3, .long c4]))]) [0, 1, 5, 6, 7] rfl
      have hDc := hD.sub (ws' := [(ax, .inr (8, [.ref hd, .ref hf, .ref hs, .ref hp, .ref he, .ref q0, .ref q1, .ref qk, .int 1, .long fx, .int dn])), (hd, .inr (0, [.int (nI w), .int (nI b), .int wr, .ref qc, .ref qi, .int wa, .int wc])), (q0, .inr (7, [.int a1, .int a2, .int a3, .long a4])), (q1, .inr (7, [.int b1, .int b2, .int b3, .long b4])), (qk, .inr (7, [.int c1, .int c2, .int c3, .long c4]))]) [0, 1, 5, 6, 7] (by decide) rfl
      have hKc := hK.sub (tys' := []) [] rfl
      have hFc := va_free (wc := [(ax, .inr (8, [.ref hd, .ref hf, .ref hs, .ref hp, .ref he, .ref q0, .ref q1, .ref qk, .int 1, .long fx, .int dn])), (hd, .inr (0, [.int (nI w), .int (nI b), .int wr, .ref qc, .ref qi, .int wa, .int wc])), (q0, .inr (7, [.int a1, .int a2, .int a3, .long a4])), (q1, .inr (7, [.int b1, .int b2, .int b3, .long b4])), (qk, .inr (7, [.int c1, .int c2, .int c3, .long c4]))]) hD hS hA [0, 1, 5, 6, 7] rfl
      refine va_calll (va_runV (As := []) (rest := []) ⟨hx, hb, hml, hown, hts⟩ (c_X8_freeBlocks l dC dI s.heap.size ax hd hf hs hp he q0 q1 qk qc qi w b 1 dn wr wa wc a1 a2 a3 b1 b2 b3 c1 c2 c3 fx a4 b4 c4 (by first | assumption | omega | decide) (by first | assumption | omega | decide) (by first | assumption | omega | decide) (by first | assumption | omega | decide) (by first | assumption | omega | decide)) (cwV 0 hts g_X8_countWhenUp_X8_freeBlocks rfl rfl rfl (by decide +kernel) ⟨Nat.le_of_ble_eq_true rfl, Nat.le_of_ble_eq_true rfl⟩) ⟨fun a U g mk q => by obtain ⟨q0, q1, qP, qK, qD⟩ := q; exact ⟨q0, q1, qP, va_K.moved (u := U) (U := U.calling g mk a) (Vm.Alike.refl U.vm) qK, qD⟩, va_recv hKc hPc (ci := 8) (q0 := 0) rfl rfl, fun U hU hW => ⟨rfl, by rw [hU], by rw [hU]; exact hPc, va_K.moved hW.alike hKc, hDc.weaken (fun _ _ _ _ => trivial)⟩⟩ rfl rfl hl.1 rfl (lv_room (Nat.le_of_ble_eq_true rfl)) dX8_countWhenUp_37 ⟨(show 0 + 0 ≤ 0 by omega), (show 0 + 0 ≤ 0 by omega)⟩) hS (fun q _ h => hFc q h) hFc (fun r_16 u t H1 locs ht hvm hw hB hz1 hk1 hS9 => ?_)
      replace hS := hS9
      clear hS9
      obtain ⟨hP1, hK1, hD1⟩ := hB
      rw [ht] at hP1
      replace hK1 := va_K.moved hvm.symm hK1
      try dsimp only at hw
      obtain ⟨hP9, hD9⟩ := va_joinQ (wr := [(hf, .inr (2, [.int dp, .ref qp, .ref qe, .ref ql, .int (nI lo), .int (nI le)])), (qp, .inl (cO, b, .inr (.inr (.inr (.inr fp))))), MA9 ql cI b fl]) (w1 := [(ax, .inr (8, [.ref hd, .ref hf, .ref hs, .ref hp, .ref he, .ref q0, .ref q1, .ref qk, .int 1, .long fx, .int dn])), (hd, .inr (0, [.int (nI w), .int (nI b), .int wr, .ref qc, .ref qi, .int wa, .int wc])), (q0, .inr (7, [.int a1, .int a2, .int a3, .long a4])), (q1, .inr (7, [.int b1, .int b2, .int b3, .long b4])), (qk, .inr (7, [.int c1, .int c2, .int c3, .long c4]))]) hP hD [0, 1, 5, 6, 7] [2, 3, 4] rfl rfl (by decide) (by decide) hk1 hFc hP1 hD1
      replace hP := hP9
      replace hD := hD9
      clear hP9 hD9
      replace hK := (hK.sub (tys' := [(cO, .object RX4), (cI, .int)]) [0, 1] rfl).app hK1
      replace hK : va_K (dC, dI) vwCl [(cO, .object RX4), (cI, .int)] s := hK.sub [0, 1] rfl
      clear hP1 hD1 hK1 hPc hDc hKc hFc hk1 hz1 hvm ht
      generalize H1 = H at hP hS ⊢
      replace hP : va_P (dC, dI) vwCl ([(hf, .inr (2, [.int dp, .ref qp, .ref qe, .ref ql, .int (nI lo), .int (nI le)])), (qp, .inl (cO, b, .inr (.inr (.inr (.inr fp))))), MA9 ql cI b fl, (ax, .inr (8, [.ref hd, .ref hf, .ref hs, .ref hp, .ref he, .ref q0, .ref q1, .ref qk, .int 1, .long fx, .int dn])), (hd, .inr (0, [.int (nI w), .int (nI b), .int wr, .ref qc, .ref qi, .int wa, .int wc])), (q0, .inr (7, [.int a1, .int a2, .int a3, .long a4])), (q1, .inr (7, [.int b1, .int b2, .int b3, .long b4])), (qk, .inr (7, [.int c1, .int c2, .int c3, .long c4]))] ++ pool G cI Pg S) H := hP
      replace hD : va_D A ([(hf, .inr (2, [.int dp, .ref qp, .ref qe, .ref ql, .int (nI lo), .int (nI le)])), (qp, .inl (cO, b, .inr (.inr (.inr (.inr fp))))), MA9 ql cI b fl, (ax, .inr (8, [.ref hd, .ref hf, .ref hs, .ref hp, .ref he, .ref q0, .ref q1, .ref qk, .int 1, .long fx, .int dn])), (hd, .inr (0, [.int (nI w), .int (nI b), .int wr, .ref qc, .ref qi, .int wa, .int wc])), (q0, .inr (7, [.int a1, .int a2, .int a3, .long a4])), (q1, .inr (7, [.int b1, .int b2, .int b3, .long b4])), (qk, .inr (7, [.int c1, .int c2, .int c3, .long c4]))] ++ pool G cI Pg S) := hD
      replace hK : va_K (dC, dI) vwCl [(cO, .object RX4), (cI, .int)] s := hK
      have hw_r_16 := hw
      have hPc := hP.sub (ws' := []) [] rfl
      have hDc := hD.sub (ws' := []) [] (by decide) rfl
      have hKc := hK.sub (tys' := []) [] rfl
      have hFc := va_free (wc := []) hD hS hA [] rfl
      refine va_calli (va_runS (As := [.long r_16]) (rest := []) ⟨hx, hb, hml, hown, hts⟩ (c_J13_bitCount_95d88 l dC dI H.size r_16) (va_cwS 1 hts g_X8_countWhenUp_J13_bitCount_95d88 rfl rfl rfl (by decide +kernel) ⟨Nat.le_of_ble_eq_true rfl, Nat.le_of_ble_eq_true rfl⟩) ⟨fun a U g mk q => by obtain ⟨q0, q1, qP, qK, qD⟩ := q; exact ⟨q0, q1, qP, va_K.moved (u := U) (U := U.calling g mk a) (Vm.Alike.refl U.vm) qK, qD⟩, fun U hU hW => ⟨rfl, by rw [hU], by rw [hU]; exact hPc, va_K.moved hW.alike hKc, hDc.weaken (fun _ _ _ _ => trivial)⟩⟩ rfl rfl hl.1 rfl (lv_room (Nat.le_of_ble_eq_true rfl)) dX8_countWhenUp_40 ⟨(show 0 + 0 ≤ 0 by omega), (show 0 + 0 ≤ 0 by omega)⟩) hS (fun q _ h => hFc q h) hFc (fun r_17 u t H1 locs ht hvm hw hB hz1 hk1 hS9 => ?_)
      replace hS := hS9
      clear hS9
      obtain ⟨hP1, hK1, hD1⟩ := hB
      rw [ht] at hP1
      replace hK1 := va_K.moved hvm.symm hK1
      try dsimp only at hw
      obtain ⟨hP9, hD9⟩ := va_joinQ (wr := [(hf, .inr (2, [.int dp, .ref qp, .ref qe, .ref ql, .int (nI lo), .int (nI le)])), (qp, .inl (cO, b, .inr (.inr (.inr (.inr fp))))), MA9 ql cI b fl, (ax, .inr (8, [.ref hd, .ref hf, .ref hs, .ref hp, .ref he, .ref q0, .ref q1, .ref qk, .int 1, .long fx, .int dn])), (hd, .inr (0, [.int (nI w), .int (nI b), .int wr, .ref qc, .ref qi, .int wa, .int wc])), (q0, .inr (7, [.int a1, .int a2, .int a3, .long a4])), (q1, .inr (7, [.int b1, .int b2, .int b3, .long b4])), (qk, .inr (7, [.int c1, .int c2, .int c3, .long c4]))]) (w1 := []) hP hD [] [0, 1, 2, 3, 4, 5, 6, 7] rfl rfl (by decide) (by decide) hk1 hFc hP1 hD1
      replace hP := hP9
      replace hD := hD9
      clear hP9 hD9
      replace hK := (hK.sub (tys' := [(cO, .object RX4), (cI, .int)]) [0, 1] rfl).app hK1
      replace hK : va_K (dC, dI) vwCl [(cO, .object RX4), (cI, .int)] s := hK.sub [0, 1] rfl
      clear hP1 hD1 hK1 hPc hDc hKc hFc hk1 hz1 hvm ht
      generalize H1 = H at hP hS ⊢
      replace hP : va_P (dC, dI) vwCl ([(hf, .inr (2, [.int dp, .ref qp, .ref qe, .ref ql, .int (nI lo), .int (nI le)])), (qp, .inl (cO, b, .inr (.inr (.inr (.inr fp))))), MA9 ql cI b fl, (ax, .inr (8, [.ref hd, .ref hf, .ref hs, .ref hp, .ref he, .ref q0, .ref q1, .ref qk, .int 1, .long fx, .int dn])), (hd, .inr (0, [.int (nI w), .int (nI b), .int wr, .ref qc, .ref qi, .int wa, .int wc])), (q0, .inr (7, [.int a1, .int a2, .int a3, .long a4])), (q1, .inr (7, [.int b1, .int b2, .int b3, .long b4])), (qk, .inr (7, [.int c1, .int c2, .int c3, .long c4]))] ++ pool G cI Pg S) H := hP
      replace hD : va_D A ([(hf, .inr (2, [.int dp, .ref qp, .ref qe, .ref ql, .int (nI lo), .int (nI le)])), (qp, .inl (cO, b, .inr (.inr (.inr (.inr fp))))), MA9 ql cI b fl, (ax, .inr (8, [.ref hd, .ref hf, .ref hs, .ref hp, .ref he, .ref q0, .ref q1, .ref qk, .int 1, .long fx, .int dn])), (hd, .inr (0, [.int (nI w), .int (nI b), .int wr, .ref qc, .ref qi, .int wa, .int wc])), (q0, .inr (7, [.int a1, .int a2, .int a3, .long a4])), (q1, .inr (7, [.int b1, .int b2, .int b3, .long b4])), (qk, .inr (7, [.int c1, .int c2, .int c3, .long c4]))] ++ pool G cI Pg S) := hD
      replace hK : va_K (dC, dI) vwCl [(cO, .object RX4), (cI, .int)] s := hK
      have hw_r_17 := hw
      have hP9 := hP.part (cx := [(ax, .inr (8, [.ref hd, .ref hf, .ref hs, .ref hp, .ref he, .ref q0, .ref q1, .ref qk, .int 1, .long fx, .int dn])), (hd, .inr (0, [.int (nI w), .int (nI b), .int wr, .ref qc, .ref qi, .int wa, .int wc])), (hf, .inr (2, [.int dp, .ref qp, .ref qe, .ref ql, .int (nI lo), .int (nI le)])), (qp, .inl (cO, b, .inr (.inr (.inr (.inr fp))))), MA9 ql cI b fl, (q0, .inr (7, [.int a1, .int a2, .int a3, .long a4])), (q1, .inr (7, [.int b1, .int b2, .int b3, .long b4])), (qk, .inr (7, [.int c1, .int c2, .int c3, .long c4]))]) [3, 4, 0, 1, 2, 5, 6, 7] rfl
      have hD9 := hD.part (cx := [(ax, .inr (8, [.ref hd, .ref hf, .ref hs, .ref hp, .ref he, .ref q0, .ref q1, .ref qk, .int 1, .long fx, .int dn])), (hd, .inr (0, [.int (nI w), .int (nI b), .int wr, .ref qc, .ref qi, .int wa, .int wc])), (hf, .inr (2, [.int dp, .ref qp, .ref qe, .ref ql, .int (nI lo), .int (nI le)])), (qp, .inl (cO, b, .inr (.inr (.inr (.inr fp))))), MA9 ql cI b fl, (q0, .inr (7, [.int a1, .int a2, .int a3, .long a4])), (q1, .inr (7, [.int b1, .int b2, .int b3, .long b4])), (qk, .inr (7, [.int c1, .int c2, .int c3, .long c4]))]) [3, 4, 0, 1, 2, 5, 6, 7] (by decide) rfl
      have hK9 := hK.sub (tys' := [(cO, .object RX4), (cI, .int)]) [0, 1] rfl
      exact W.iret (v := r_17) hx hb hr (fun t ht hW => ⟨⟨r_17, (1, fx, dn, dp, lo, le, fl), rfl, (by first | assumption | exact hw.2 | exact hw.2.1 | exact hw | exact Or.inl rfl | exact Or.inr rfl), by rw [ht]; exact hP9, va_K.moved hW.alike hK9, hD9⟩, hS.F ht⟩) hS.2.2 dX8_countWhenUp_43
    by_cases h_18 : p0 = 6
    · refine lv_tableIn (off := 43) (tgt := 44) hx hb dX8_countWhenUp_1 (by rw [h_18]; decide) (by rw [h_18]; decide) (by rw [h_18]; decide) (by decide) ?_
      refine lv_aload_n hx hb dX8_countWhenUp_44 rfl (lv_at hl 0 rfl) ?_
      refine va_get (D := (dC, dI)) (ci := 8) (v := .ref hf) (C := RX8) (T := TX8) (N := 11) hx hb hts k_1 hown hK hP 0 rfl rfl 1 (by decide) k_2 (fun _ h9 => h9) rfl dX8_countWhenUp_45 ?_
      refine lv_aload_n hx hb dX8_countWhenUp_48 rfl (lv_at hl 0 rfl) ?_
      refine va_get (D := (dC, dI)) (ci := 8) (v := .ref qk) (C := RX8) (T := TX8) (N := 11) hx hb hts k_1 hown hK hP 0 rfl rfl 7 (by decide) k_3 (fun _ h9 => h9) rfl dX8_countWhenUp_49 ?_
      refine va_get (D := (dC, dI)) (ci := 7) (v := .int c2) (C := RX7) (T := TX7) (N := 4) hx hb hts k_4 hown hK hP 7 rfl rfl 1 (by decide) k_5 (fun _ h9 => h9) rfl dX8_countWhenUp_52 ?_
      have hPc := hP.part (cx := [(hf, .inr (2, [.int dp, .ref qp, .ref qe, .ref ql, .int (nI lo), .int (nI le)])), (qp, .inl (cO, b, .inr (.inr (.inr (.inr fp))))), MA9 ql cI b fl]) [2, 3, 4] rfl
      have hDc := hD.part (cx := [(hf, .inr (2, [.int dp, .ref qp, .ref qe, .ref ql, .int (nI lo), .int (nI le)])), (qp, .inl (cO, b, .inr (.inr (.inr (.inr fp))))), MA9 ql cI b fl]) [2, 3, 4] (by decide) rfl
      have hFc := va_freeP (cx := [(hf, .inr (2, [.int dp, .ref qp, .ref qe, .ref ql, .int (nI lo), .int (nI le)])), (qp, .inl (cO, b, .inr (.inr (.inr (.inr fp))))), MA9 ql cI b fl]) hD hS hA [2, 3, 4] rfl
      have hKc := hK.sub (tys' := [(cO, .object RX4), (cI, .int)]) [0, 1] rfl
      refine va_callv (va_runV (As := [.int c2]) (rest := []) ⟨hx, hb, hml, hown, hts⟩ (c_X2_walk l dC dI s.heap.size hf qp qe ql b dp (nI lo) (nI le) c2 cO fp G Pg cI S fl (by first | assumption | omega | decide) (by first | assumption | omega | decide) (by first | assumption | omega | decide) (by first | assumption | omega | decide) (by first | assumption | omega | decide)) (cwV 1 hts g_X8_countWhenUp_X2_walk rfl rfl rfl (by decide +kernel) ⟨Nat.le_of_ble_eq_true rfl, Nat.le_of_ble_eq_true rfl⟩) ⟨fun a U g mk q => by obtain ⟨q0, q1, qP, qK, qD⟩ := q; exact ⟨q0, q1, qP, va_K.moved (u := U) (U := U.calling g mk a) (Vm.Alike.refl U.vm) qK, qD⟩, va_recv hKc hPc (ci := 2) (q0 := 0) rfl rfl, fun U hU hW => ⟨rfl, by rw [hU], by rw [hU]; exact hPc, va_K.moved hW.alike hKc, hDc.weaken (fun _ _ _ _ => trivial)⟩⟩ rfl rfl hl.1 rfl (lv_room (Nat.le_of_ble_eq_true rfl)) dX8_countWhenUp_55 ⟨(show 0 + 0 ≤ 0 by omega), (show 0 + 0 ≤ 0 by omega)⟩) hS (fun q _ h => hFc q h) hFc (fun u t H1 locs ht hvm hw hB hz1 hk1 hS9 => ?_)
      replace hS := hS9
      clear hS9
      obtain ⟨dp2_20, lo2_21, le2_22, fl2_23⟩ := u
      obtain ⟨hP1, hK1, hD1⟩ := hB
      rw [ht] at hP1
      replace hK1 := va_K.moved hvm.symm hK1
      try dsimp only at hw
      obtain ⟨hP9, hD9⟩ := va_joinP (wr := [(ax, .inr (8, [.ref hd, .ref hf, .ref hs, .ref hp, .ref he, .ref q0, .ref q1, .ref qk, .int 1, .long fx, .int dn])), (hd, .inr (0, [.int (nI w), .int (nI b), .int wr, .ref qc, .ref qi, .int wa, .int wc])), (q0, .inr (7, [.int a1, .int a2, .int a3, .long a4])), (q1, .inr (7, [.int b1, .int b2, .int b3, .long b4])), (qk, .inr (7, [.int c1, .int c2, .int c3, .long c4]))]) (rx := [(hf, .inr (2, [.int dp2_20, .ref qp, .ref qe, .ref ql, .int (nI lo2_21), .int (nI le2_22)])), (qp, .inl (cO, b, .inr (.inr (.inr (.inr fp))))), MA9 ql cI b fl2_23]) (pl1 := pool G cI Pg S) hP hD [2, 3, 4] [0, 1, 5, 6, 7] rfl rfl (by decide) (by decide) hk1 hFc hP1 hD1
      replace hP := hP9
      replace hD := hD9
      clear hP9 hD9
      replace hK := (hK.sub (tys' := [(cO, .object RX4), (cI, .int)]) [0, 1] rfl).app hK1
      replace hK : va_K (dC, dI) vwCl [(cO, .object RX4), (cI, .int)] s := hK.sub [0, 1] rfl
      clear hP1 hD1 hK1 hPc hDc hKc hFc hk1 hz1 hvm ht
      generalize H1 = H at hP hS ⊢
      replace hP : va_P (dC, dI) vwCl ([(ax, .inr (8, [.ref hd, .ref hf, .ref hs, .ref hp, .ref he, .ref q0, .ref q1, .ref qk, .int 1, .long fx, .int dn])), (hd, .inr (0, [.int (nI w), .int (nI b), .int wr, .ref qc, .ref qi, .int wa, .int wc])), (q0, .inr (7, [.int a1, .int a2, .int a3, .long a4])), (q1, .inr (7, [.int b1, .int b2, .int b3, .long b4])), (qk, .inr (7, [.int c1, .int c2, .int c3, .long c4])), (hf, .inr (2, [.int dp2_20, .ref qp, .ref qe, .ref ql, .int (nI lo2_21), .int (nI le2_22)])), (qp, .inl (cO, b, .inr (.inr (.inr (.inr fp))))), MA9 ql cI b fl2_23] ++ pool G cI Pg S) H := hP
      replace hD : va_D A ([(ax, .inr (8, [.ref hd, .ref hf, .ref hs, .ref hp, .ref he, .ref q0, .ref q1, .ref qk, .int 1, .long fx, .int dn])), (hd, .inr (0, [.int (nI w), .int (nI b), .int wr, .ref qc, .ref qi, .int wa, .int wc])), (q0, .inr (7, [.int a1, .int a2, .int a3, .long a4])), (q1, .inr (7, [.int b1, .int b2, .int b3, .long b4])), (qk, .inr (7, [.int c1, .int c2, .int c3, .long c4])), (hf, .inr (2, [.int dp2_20, .ref qp, .ref qe, .ref ql, .int (nI lo2_21), .int (nI le2_22)])), (qp, .inl (cO, b, .inr (.inr (.inr (.inr fp))))), MA9 ql cI b fl2_23] ++ pool G cI Pg S) := hD
      replace hK : va_K (dC, dI) vwCl [(cO, .object RX4), (cI, .int)] s := hK
      have hw_r_19 := hw
      refine lv_aload_n hx hb dX8_countWhenUp_58 rfl (lv_at hl 0 rfl) ?_
      refine va_get (D := (dC, dI)) (ci := 8) (v := .ref hf) (C := RX8) (T := TX8) (N := 11) hx hb hts k_1 hown hK hP 0 rfl rfl 1 (by decide) k_2 (fun _ h9 => h9) rfl dX8_countWhenUp_59 ?_
      refine va_get (D := (dC, dI)) (ci := 2) (v := .int dp2_20) (C := RX2) (T := TX2) (N := 6) hx hb hts k_6 hown hK hP 5 rfl rfl 0 (by decide) k_7 (fun _ h9 => h9) rfl dX8_countWhenUp_62 ?_
      have hP9 := hP.part (cx := [(ax, .inr (8, [.ref hd, .ref hf, .ref hs, .ref hp, .ref he, .ref q0, .ref q1, .ref qk, .int 1, .long fx, .int dn])), (hd, .inr (0, [.int (nI w), .int (nI b), .int wr, .ref qc, .ref qi, .int wa, .int wc])), (hf, .inr (2, [.int dp2_20, .ref qp, .ref qe, .ref ql, .int (nI lo2_21), .int (nI le2_22)])), (qp, .inl (cO, b, .inr (.inr (.inr (.inr fp))))), MA9 ql cI b fl2_23, (q0, .inr (7, [.int a1, .int a2, .int a3, .long a4])), (q1, .inr (7, [.int b1, .int b2, .int b3, .long b4])), (qk, .inr (7, [.int c1, .int c2, .int c3, .long c4]))]) [0, 1, 5, 6, 7, 2, 3, 4] rfl
      have hD9 := hD.part (cx := [(ax, .inr (8, [.ref hd, .ref hf, .ref hs, .ref hp, .ref he, .ref q0, .ref q1, .ref qk, .int 1, .long fx, .int dn])), (hd, .inr (0, [.int (nI w), .int (nI b), .int wr, .ref qc, .ref qi, .int wa, .int wc])), (hf, .inr (2, [.int dp2_20, .ref qp, .ref qe, .ref ql, .int (nI lo2_21), .int (nI le2_22)])), (qp, .inl (cO, b, .inr (.inr (.inr (.inr fp))))), MA9 ql cI b fl2_23, (q0, .inr (7, [.int a1, .int a2, .int a3, .long a4])), (q1, .inr (7, [.int b1, .int b2, .int b3, .long b4])), (qk, .inr (7, [.int c1, .int c2, .int c3, .long c4]))]) [0, 1, 5, 6, 7, 2, 3, 4] (by decide) rfl
      have hK9 := hK.sub (tys' := [(cO, .object RX4), (cI, .int)]) [0, 1] rfl
      exact W.iret (v := dp2_20) hx hb hr (fun t ht hW => ⟨⟨dp2_20, (1, fx, dn, dp2_20, lo2_21, le2_22, fl2_23), rfl, (by first | assumption | exact hw.2 | exact hw.2.1 | exact hw | exact Or.inl rfl | exact Or.inr rfl), by rw [ht]; exact hP9, va_K.moved hW.alike hK9, hD9⟩, hS.F ht⟩) hS.2.2 dX8_countWhenUp_65
    by_cases h_24 : p0 = 7
    · refine lv_tableIn (off := 65) (tgt := 66) hx hb dX8_countWhenUp_1 (by rw [h_24]; decide) (by rw [h_24]; decide) (by rw [h_24]; decide) (by decide) ?_
      refine lv_aload_n hx hb dX8_countWhenUp_66 rfl (lv_at hl 0 rfl) ?_
      refine va_get (D := (dC, dI)) (ci := 8) (v := .ref qk) (C := RX8) (T := TX8) (N := 11) hx hb hts k_1 hown hK hP 0 rfl rfl 7 (by decide) k_3 (fun _ h9 => h9) rfl dX8_countWhenUp_67 ?_
      refine va_get (D := (dC, dI)) (ci := 7) (v := .int c2) (C := RX7) (T := TX7) (N := 4) hx hb hts k_4 hown hK hP 7 rfl rfl 1 (by decide) k_5 (fun _ h9 => h9) rfl dX8_countWhenUp_70 ?_
      have hP9 := hP.part (cx := [(ax, .inr (8, [.ref hd, .ref hf, .ref hs, .ref hp, .ref he, .ref q0, .ref q1, .ref qk, .int 1, .long fx, .int dn])), (hd, .inr (0, [.int (nI w), .int (nI b), .int wr, .ref qc, .ref qi, .int wa, .int wc])), (hf, .inr (2, [.int dp, .ref qp, .ref qe, .ref ql, .int (nI lo), .int (nI le)])), (qp, .inl (cO, b, .inr (.inr (.inr (.inr fp))))), MA9 ql cI b fl, (q0, .inr (7, [.int a1, .int a2, .int a3, .long a4])), (q1, .inr (7, [.int b1, .int b2, .int b3, .long b4])), (qk, .inr (7, [.int c1, .int c2, .int c3, .long c4]))]) [0, 1, 2, 3, 4, 5, 6, 7] rfl
      have hD9 := hD.part (cx := [(ax, .inr (8, [.ref hd, .ref hf, .ref hs, .ref hp, .ref he, .ref q0, .ref q1, .ref qk, .int 1, .long fx, .int dn])), (hd, .inr (0, [.int (nI w), .int (nI b), .int wr, .ref qc, .ref qi, .int wa, .int wc])), (hf, .inr (2, [.int dp, .ref qp, .ref qe, .ref ql, .int (nI lo), .int (nI le)])), (qp, .inl (cO, b, .inr (.inr (.inr (.inr fp))))), MA9 ql cI b fl, (q0, .inr (7, [.int a1, .int a2, .int a3, .long a4])), (q1, .inr (7, [.int b1, .int b2, .int b3, .long b4])), (qk, .inr (7, [.int c1, .int c2, .int c3, .long c4]))]) [0, 1, 2, 3, 4, 5, 6, 7] (by decide) rfl
      have hK9 := hK.sub (tys' := [(cO, .object RX4), (cI, .int)]) [0, 1] rfl
      exact W.iret (v := c2) hx hb hr (fun t ht hW => ⟨⟨c2, (1, fx, dn, dp, lo, le, fl), rfl, (by first | assumption | exact hw.2 | exact hw.2.1 | exact hw | exact Or.inl rfl | exact Or.inr rfl), by rw [ht]; exact hP9, va_K.moved hW.alike hK9, hD9⟩, hS.F ht⟩) hS.2.2 dX8_countWhenUp_73
    by_cases h_25 : p0 = 8
    · refine lv_tableIn (off := 73) (tgt := 74) hx hb dX8_countWhenUp_1 (by rw [h_25]; decide) (by rw [h_25]; decide) (by rw [h_25]; decide) (by decide) ?_
      refine lv_aload_n hx hb dX8_countWhenUp_74 rfl (lv_at hl 0 rfl) ?_
      refine va_get (D := (dC, dI)) (ci := 8) (v := .ref qk) (C := RX8) (T := TX8) (N := 11) hx hb hts k_1 hown hK hP 0 rfl rfl 7 (by decide) k_3 (fun _ h9 => h9) rfl dX8_countWhenUp_75 ?_
      refine va_get (D := (dC, dI)) (ci := 7) (v := .long c4) (C := RX7) (T := TX7) (N := 4) hx hb hts k_4 hown hK hP 7 rfl rfl 3 (by decide) k_8 (fun _ h9 => h9) rfl dX8_countWhenUp_78 ?_
      have hPc := hP.sub (ws' := []) [] rfl
      have hDc := hD.sub (ws' := []) [] (by decide) rfl
      have hKc := hK.sub (tys' := []) [] rfl
      have hFc := va_free (wc := []) hD hS hA [] rfl
      refine va_calli (va_runS (As := [.long c4]) (rest := []) ⟨hx, hb, hml, hown, hts⟩ (c_J13_bitCount_95d88 l dC dI s.heap.size c4) (va_cwS 1 hts g_X8_countWhenUp_J13_bitCount_95d88 rfl rfl rfl (by decide +kernel) ⟨Nat.le_of_ble_eq_true rfl, Nat.le_of_ble_eq_true rfl⟩) ⟨fun a U g mk q => by obtain ⟨q0, q1, qP, qK, qD⟩ := q; exact ⟨q0, q1, qP, va_K.moved (u := U) (U := U.calling g mk a) (Vm.Alike.refl U.vm) qK, qD⟩, fun U hU hW => ⟨rfl, by rw [hU], by rw [hU]; exact hPc, va_K.moved hW.alike hKc, hDc.weaken (fun _ _ _ _ => trivial)⟩⟩ rfl rfl hl.1 rfl (lv_room (Nat.le_of_ble_eq_true rfl)) dX8_countWhenUp_81 ⟨(show 0 + 0 ≤ 0 by omega), (show 0 + 0 ≤ 0 by omega)⟩) hS (fun q _ h => hFc q h) hFc (fun r_26 u t H1 locs ht hvm hw hB hz1 hk1 hS9 => ?_)
      replace hS := hS9
      clear hS9
      obtain ⟨hP1, hK1, hD1⟩ := hB
      rw [ht] at hP1
      replace hK1 := va_K.moved hvm.symm hK1
      try dsimp only at hw
      obtain ⟨hP9, hD9⟩ := va_joinQ (wr := [(ax, .inr (8, [.ref hd, .ref hf, .ref hs, .ref hp, .ref he, .ref q0, .ref q1, .ref qk, .int 1, .long fx, .int dn])), (hd, .inr (0, [.int (nI w), .int (nI b), .int wr, .ref qc, .ref qi, .int wa, .int wc])), (hf, .inr (2, [.int dp, .ref qp, .ref qe, .ref ql, .int (nI lo), .int (nI le)])), (qp, .inl (cO, b, .inr (.inr (.inr (.inr fp))))), MA9 ql cI b fl, (q0, .inr (7, [.int a1, .int a2, .int a3, .long a4])), (q1, .inr (7, [.int b1, .int b2, .int b3, .long b4])), (qk, .inr (7, [.int c1, .int c2, .int c3, .long c4]))]) (w1 := []) hP hD [] [0, 1, 2, 3, 4, 5, 6, 7] rfl rfl (by decide) (by decide) hk1 hFc hP1 hD1
      replace hP := hP9
      replace hD := hD9
      clear hP9 hD9
      replace hK := (hK.sub (tys' := [(cO, .object RX4), (cI, .int)]) [0, 1] rfl).app hK1
      replace hK : va_K (dC, dI) vwCl [(cO, .object RX4), (cI, .int)] s := hK.sub [0, 1] rfl
      clear hP1 hD1 hK1 hPc hDc hKc hFc hk1 hz1 hvm ht
      generalize H1 = H at hP hS ⊢
      replace hP : va_P (dC, dI) vwCl ([(ax, .inr (8, [.ref hd, .ref hf, .ref hs, .ref hp, .ref he, .ref q0, .ref q1, .ref qk, .int 1, .long fx, .int dn])), (hd, .inr (0, [.int (nI w), .int (nI b), .int wr, .ref qc, .ref qi, .int wa, .int wc])), (hf, .inr (2, [.int dp, .ref qp, .ref qe, .ref ql, .int (nI lo), .int (nI le)])), (qp, .inl (cO, b, .inr (.inr (.inr (.inr fp))))), MA9 ql cI b fl, (q0, .inr (7, [.int a1, .int a2, .int a3, .long a4])), (q1, .inr (7, [.int b1, .int b2, .int b3, .long b4])), (qk, .inr (7, [.int c1, .int c2, .int c3, .long c4]))] ++ pool G cI Pg S) H := hP
      replace hD : va_D A ([(ax, .inr (8, [.ref hd, .ref hf, .ref hs, .ref hp, .ref he, .ref q0, .ref q1, .ref qk, .int 1, .long fx, .int dn])), (hd, .inr (0, [.int (nI w), .int (nI b), .int wr, .ref qc, .ref qi, .int wa, .int wc])), (hf, .inr (2, [.int dp, .ref qp, .ref qe, .ref ql, .int (nI lo), .int (nI le)])), (qp, .inl (cO, b, .inr (.inr (.inr (.inr fp))))), MA9 ql cI b fl, (q0, .inr (7, [.int a1, .int a2, .int a3, .long a4])), (q1, .inr (7, [.int b1, .int b2, .int b3, .long b4])), (qk, .inr (7, [.int c1, .int c2, .int c3, .long c4]))] ++ pool G cI Pg S) := hD
      replace hK : va_K (dC, dI) vwCl [(cO, .object RX4), (cI, .int)] s := hK
      have hw_r_26 := hw
      have hP9 := hP.part (cx := [(ax, .inr (8, [.ref hd, .ref hf, .ref hs, .ref hp, .ref he, .ref q0, .ref q1, .ref qk, .int 1, .long fx, .int dn])), (hd, .inr (0, [.int (nI w), .int (nI b), .int wr, .ref qc, .ref qi, .int wa, .int wc])), (hf, .inr (2, [.int dp, .ref qp, .ref qe, .ref ql, .int (nI lo), .int (nI le)])), (qp, .inl (cO, b, .inr (.inr (.inr (.inr fp))))), MA9 ql cI b fl, (q0, .inr (7, [.int a1, .int a2, .int a3, .long a4])), (q1, .inr (7, [.int b1, .int b2, .int b3, .long b4])), (qk, .inr (7, [.int c1, .int c2, .int c3, .long c4]))]) [0, 1, 2, 3, 4, 5, 6, 7] rfl
      have hD9 := hD.part (cx := [(ax, .inr (8, [.ref hd, .ref hf, .ref hs, .ref hp, .ref he, .ref q0, .ref q1, .ref qk, .int 1, .long fx, .int dn])), (hd, .inr (0, [.int (nI w), .int (nI b), .int wr, .ref qc, .ref qi, .int wa, .int wc])), (hf, .inr (2, [.int dp, .ref qp, .ref qe, .ref ql, .int (nI lo), .int (nI le)])), (qp, .inl (cO, b, .inr (.inr (.inr (.inr fp))))), MA9 ql cI b fl, (q0, .inr (7, [.int a1, .int a2, .int a3, .long a4])), (q1, .inr (7, [.int b1, .int b2, .int b3, .long b4])), (qk, .inr (7, [.int c1, .int c2, .int c3, .long c4]))]) [0, 1, 2, 3, 4, 5, 6, 7] (by decide) rfl
      have hK9 := hK.sub (tys' := [(cO, .object RX4), (cI, .int)]) [0, 1] rfl
      exact W.iret (v := r_26) hx hb hr (fun t ht hW => ⟨⟨r_26, (1, fx, dn, dp, lo, le, fl), rfl, (by first | assumption | exact hw.2 | exact hw.2.1 | exact hw | exact Or.inl rfl | exact Or.inr rfl), by rw [ht]; exact hP9, va_K.moved hW.alike hK9, hD9⟩, hS.F ht⟩) hS.2.2 dX8_countWhenUp_84
    by_cases h_27 : p0 = 9
    · refine lv_tableIn (off := 84) (tgt := 85) hx hb dX8_countWhenUp_1 (by rw [h_27]; decide) (by rw [h_27]; decide) (by rw [h_27]; decide) (by decide) ?_
      refine lv_aload_n hx hb dX8_countWhenUp_85 rfl (lv_at hl 0 rfl) ?_
      refine lv_aload_n hx hb dX8_countWhenUp_86 rfl (lv_at hl 0 rfl) ?_
      refine va_get (D := (dC, dI)) (ci := 8) (v := .int 1) (C := RX8) (T := TX8) (N := 11) hx hb hts k_1 hown hK hP 0 rfl rfl 8 (by decide) k_9 (fun _ h9 => h9) rfl dX8_countWhenUp_87 ?_
      have hPc := hP.sub (ws' := [(ax, .inr (8, [.ref hd, .ref hf, .ref hs, .ref hp, .ref he, .ref q0, .ref q1, .ref qk, .int 1, .long fx, .int dn]))]) [0] rfl
      have hDc := hD.sub (ws' := [(ax, .inr (8, [.ref hd, .ref hf, .ref hs, .ref hp, .ref he, .ref q0, .ref q1, .ref qk, .int 1, .long fx, .int dn]))]) [0] (by decide) rfl
      have hKc := hK.sub (tys' := []) [] rfl
      have hFc := va_free (wc := [(ax, .inr (8, [.ref hd, .ref hf, .ref hs, .ref hp, .ref he, .ref q0, .ref q1, .ref qk, .int 1, .long fx, .int dn]))]) hD hS hA [0] rfl
      refine va_callr (va_runV (As := [.int 1]) (rest := []) ⟨hx, hb, hml, hown, hts⟩ (c_X8_told_1 l dC dI s.heap.size ax hd hf hs hp he q0 q1 qk 1 dn fx) (cwV 1 hts g_X8_countWhenUp_X8_told_1 rfl rfl rfl (by decide +kernel) ⟨Nat.le_of_ble_eq_true rfl, Nat.le_of_ble_eq_true rfl⟩) ⟨fun a U g mk q => by obtain ⟨q0, q1, qP, qK, qD⟩ := q; exact ⟨q0, q1, qP, va_K.moved (u := U) (U := U.calling g mk a) (Vm.Alike.refl U.vm) qK, qD⟩, va_recv hKc hPc (ci := 8) (q0 := 0) rfl rfl, fun U hU hW => ⟨rfl, by rw [hU], by rw [hU]; exact hPc, va_K.moved hW.alike hKc, hDc.weaken (fun _ _ _ _ => trivial)⟩⟩ rfl rfl hl.1 rfl (lv_room (Nat.le_of_ble_eq_true rfl)) dX8_countWhenUp_90 ⟨(show 0 + 0 ≤ 0 by omega), (show 0 + 0 ≤ 0 by omega)⟩) hS (fun q _ h => hFc q h) hFc (fun u r_28 t H1 locs ht hvm hw hB hz1 hk1 hS9 => ?_)
      replace hS := hS9
      clear hS9
      obtain ⟨hra, hP1, hK1, hD1⟩ := hB
      have hra := hra.symm
      subst hra
      rw [ht] at hP1
      replace hK1 := va_K.moved hvm.symm hK1
      try dsimp only at hw
      obtain ⟨hP9, hD9⟩ := va_joinQ (wr := [(hd, .inr (0, [.int (nI w), .int (nI b), .int wr, .ref qc, .ref qi, .int wa, .int wc])), (hf, .inr (2, [.int dp, .ref qp, .ref qe, .ref ql, .int (nI lo), .int (nI le)])), (qp, .inl (cO, b, .inr (.inr (.inr (.inr fp))))), MA9 ql cI b fl, (q0, .inr (7, [.int a1, .int a2, .int a3, .long a4])), (q1, .inr (7, [.int b1, .int b2, .int b3, .long b4])), (qk, .inr (7, [.int c1, .int c2, .int c3, .long c4]))]) (w1 := [(ax, .inr (8, [.ref hd, .ref hf, .ref hs, .ref hp, .ref he, .ref q0, .ref q1, .ref qk, .int 1, .long fx, .int dn]))]) hP hD [0] [1, 2, 3, 4, 5, 6, 7] rfl rfl (by decide) (by decide) hk1 hFc hP1 hD1
      replace hP := hP9
      replace hD := hD9
      clear hP9 hD9
      replace hK := (hK.sub (tys' := [(cO, .object RX4), (cI, .int)]) [0, 1] rfl).app hK1
      replace hK : va_K (dC, dI) vwCl [(cO, .object RX4), (cI, .int)] s := hK.sub [0, 1] rfl
      clear hP1 hD1 hK1 hPc hDc hKc hFc hk1 hz1 hvm ht
      generalize H1 = H at hP hS ⊢
      replace hP : va_P (dC, dI) vwCl ([(hd, .inr (0, [.int (nI w), .int (nI b), .int wr, .ref qc, .ref qi, .int wa, .int wc])), (hf, .inr (2, [.int dp, .ref qp, .ref qe, .ref ql, .int (nI lo), .int (nI le)])), (qp, .inl (cO, b, .inr (.inr (.inr (.inr fp))))), MA9 ql cI b fl, (q0, .inr (7, [.int a1, .int a2, .int a3, .long a4])), (q1, .inr (7, [.int b1, .int b2, .int b3, .long b4])), (qk, .inr (7, [.int c1, .int c2, .int c3, .long c4])), (ax, .inr (8, [.ref hd, .ref hf, .ref hs, .ref hp, .ref he, .ref q0, .ref q1, .ref qk, .int 1, .long fx, .int dn]))] ++ pool G cI Pg S) H := hP
      replace hD : va_D A ([(hd, .inr (0, [.int (nI w), .int (nI b), .int wr, .ref qc, .ref qi, .int wa, .int wc])), (hf, .inr (2, [.int dp, .ref qp, .ref qe, .ref ql, .int (nI lo), .int (nI le)])), (qp, .inl (cO, b, .inr (.inr (.inr (.inr fp))))), MA9 ql cI b fl, (q0, .inr (7, [.int a1, .int a2, .int a3, .long a4])), (q1, .inr (7, [.int b1, .int b2, .int b3, .long b4])), (qk, .inr (7, [.int c1, .int c2, .int c3, .long c4])), (ax, .inr (8, [.ref hd, .ref hf, .ref hs, .ref hp, .ref he, .ref q0, .ref q1, .ref qk, .int 1, .long fx, .int dn]))] ++ pool G cI Pg S) := hD
      replace hK : va_K (dC, dI) vwCl [(cO, .object RX4), (cI, .int)] s := hK
      refine va_get (D := (dC, dI)) (ci := 7) (v := .int b3) (C := RX7) (T := TX7) (N := 4) hx hb hts k_4 hown hK hP 5 rfl rfl 2 (by decide) k_10 (fun _ h9 => h9) rfl dX8_countWhenUp_93 ?_
      have hP9 := hP.part (cx := [(ax, .inr (8, [.ref hd, .ref hf, .ref hs, .ref hp, .ref he, .ref q0, .ref q1, .ref qk, .int 1, .long fx, .int dn])), (hd, .inr (0, [.int (nI w), .int (nI b), .int wr, .ref qc, .ref qi, .int wa, .int wc])), (hf, .inr (2, [.int dp, .ref qp, .ref qe, .ref ql, .int (nI lo), .int (nI le)])), (qp, .inl (cO, b, .inr (.inr (.inr (.inr fp))))), MA9 ql cI b fl, (q0, .inr (7, [.int a1, .int a2, .int a3, .long a4])), (q1, .inr (7, [.int b1, .int b2, .int b3, .long b4])), (qk, .inr (7, [.int c1, .int c2, .int c3, .long c4]))]) [7, 0, 1, 2, 3, 4, 5, 6] rfl
      have hD9 := hD.part (cx := [(ax, .inr (8, [.ref hd, .ref hf, .ref hs, .ref hp, .ref he, .ref q0, .ref q1, .ref qk, .int 1, .long fx, .int dn])), (hd, .inr (0, [.int (nI w), .int (nI b), .int wr, .ref qc, .ref qi, .int wa, .int wc])), (hf, .inr (2, [.int dp, .ref qp, .ref qe, .ref ql, .int (nI lo), .int (nI le)])), (qp, .inl (cO, b, .inr (.inr (.inr (.inr fp))))), MA9 ql cI b fl, (q0, .inr (7, [.int a1, .int a2, .int a3, .long a4])), (q1, .inr (7, [.int b1, .int b2, .int b3, .long b4])), (qk, .inr (7, [.int c1, .int c2, .int c3, .long c4]))]) [7, 0, 1, 2, 3, 4, 5, 6] (by decide) rfl
      have hK9 := hK.sub (tys' := [(cO, .object RX4), (cI, .int)]) [0, 1] rfl
      exact W.iret (v := b3) hx hb hr (fun t ht hW => ⟨⟨b3, (1, fx, dn, dp, lo, le, fl), rfl, (by first | assumption | exact hw.2 | exact hw.2.1 | exact hw | exact Or.inl rfl | exact Or.inr rfl), by rw [ht]; exact hP9, va_K.moved hW.alike hK9, hD9⟩, hS.F ht⟩) hS.2.2 dX8_countWhenUp_96
    have th_15 : ¬ p0.toInt = 5 := lv_neT h_15 (by decide)
    have th_18 : ¬ p0.toInt = 6 := lv_neT h_18 (by decide)
    have th_24 : ¬ p0.toInt = 7 := lv_neT h_24 (by decide)
    have th_25 : ¬ p0.toInt = 8 := lv_neT h_25 (by decide)
    have th_27 : ¬ p0.toInt = 9 := lv_neT h_27 (by decide)
    refine lv_tableOut (tgt := 97) hx hb dX8_countWhenUp_1 (by omega) (by decide) ?_
    refine lv_iconst (v := 0) hx hb dX8_countWhenUp_97 (by decide) ?_
    have hP9 := hP.part (cx := [(ax, .inr (8, [.ref hd, .ref hf, .ref hs, .ref hp, .ref he, .ref q0, .ref q1, .ref qk, .int 1, .long fx, .int dn])), (hd, .inr (0, [.int (nI w), .int (nI b), .int wr, .ref qc, .ref qi, .int wa, .int wc])), (hf, .inr (2, [.int dp, .ref qp, .ref qe, .ref ql, .int (nI lo), .int (nI le)])), (qp, .inl (cO, b, .inr (.inr (.inr (.inr fp))))), MA9 ql cI b fl, (q0, .inr (7, [.int a1, .int a2, .int a3, .long a4])), (q1, .inr (7, [.int b1, .int b2, .int b3, .long b4])), (qk, .inr (7, [.int c1, .int c2, .int c3, .long c4]))]) [0, 1, 2, 3, 4, 5, 6, 7] rfl
    have hD9 := hD.part (cx := [(ax, .inr (8, [.ref hd, .ref hf, .ref hs, .ref hp, .ref he, .ref q0, .ref q1, .ref qk, .int 1, .long fx, .int dn])), (hd, .inr (0, [.int (nI w), .int (nI b), .int wr, .ref qc, .ref qi, .int wa, .int wc])), (hf, .inr (2, [.int dp, .ref qp, .ref qe, .ref ql, .int (nI lo), .int (nI le)])), (qp, .inl (cO, b, .inr (.inr (.inr (.inr fp))))), MA9 ql cI b fl, (q0, .inr (7, [.int a1, .int a2, .int a3, .long a4])), (q1, .inr (7, [.int b1, .int b2, .int b3, .long b4])), (qk, .inr (7, [.int c1, .int c2, .int c3, .long c4]))]) [0, 1, 2, 3, 4, 5, 6, 7] (by decide) rfl
    have hK9 := hK.sub (tys' := [(cO, .object RX4), (cI, .int)]) [0, 1] rfl
    exact W.iret (v := 0) hx hb hr (fun t ht hW => ⟨⟨0, (1, fx, dn, dp, lo, le, fl), rfl, (by first | assumption | exact hw.2 | exact hw.2.1 | exact hw | exact Or.inl rfl | exact Or.inr rfl), by rw [ht]; exact hP9, va_K.moved hW.alike hK9, hD9⟩, hS.F ht⟩) hS.2.2 dX8_countWhenUp_98
def v_X8_count : List Cond := .code yX8_count cX8_count 2 (some .int) :: ([.fieldLink RX8 28 "TwinRoots" "disk" "LTwinRoots$Disk;", .fieldLink RX8 195 "TwinRoots$Disk" "blocks" "I", .fieldLink RX8 202 "TwinRoots$Disk" "words" "I", .fieldLink RX8 205 "TwinRoots$Disk" "writes" "I", .fieldLink RX8 77 "TwinRoots" "down" "Z", .fieldLink RX8 140 "TwinRoots" "latest" "I", .code yX8_told cX8_told 2 (some (.object "TwinRoots$Told")), .fieldLink RX8 67 "TwinRoots" "rootZero" "LTwinRoots$Told;", .methodLink RX8 143 yX8_told, .instanceMethod yX8_told, .selects RX8 yX8_told yX8_told, .initialized RX8, .fieldLink RX8 170 "TwinRoots$Told" "epoch" "I", .code yX8_countWhenUp cX8_countWhenUp 2 (some .int), .code yX8_freeBlocks cX8_freeBlocks 6 (some .long), .fieldLink RX8 74 "TwinRoots" "working" "LTwinRoots$Told;", .fieldLink RX8 103 "TwinRoots$Told" "reach" "J", .fieldLink RX8 71 "TwinRoots" "rootOne" "LTwinRoots$Told;", .code yX8_holds cX8_holds 3 (some .boolean), .code yX8_bit cX8_bit 1 (some .long), .methodLink RX8 227 yX8_bit, .static yX8_bit, .methodLink RX8 198 yX8_holds, .static yX8_holds, .methodLink RX8 95 yX8_freeBlocks, .instanceMethod yX8_freeBlocks, .selects RX8 yX8_freeBlocks yX8_freeBlocks, .code yJ13_bitCount_95d88 cJ13_bitCount_95d88 2 (some .int), .constantLong RJ13 314 (6148914691236517205), .constantLong RJ13 316 (3689348814741910323), .constantLong RJ13 318 (1085102592571150095), .methodLink RX8 211 yJ13_bitCount_95d88, .static yJ13_bitCount_95d88, .initialized RJ13, .fieldLink RX8 35 "TwinRoots" "forest" "LTwinRoots$Forest;", .fieldLink RX8 110 "TwinRoots$Told" "top" "I", .code yX2_walk cX2_walk 4 none, .fieldLink RX2 43 "TwinRoots$Forest" "depth" "I", .fieldLink RX2 47 "TwinRoots$Forest" "lowestLevel" "I", .fieldLink RX2 50 "TwinRoots$Forest" "lineEnd" "I", .code yX2_lineUp cX2_lineUp 2 none, .fieldLink RX2 24 "TwinRoots$Forest" "line" "[I", .methodLink RX2 53 yX2_lineUp, .instanceMethod yX2_lineUp, .selects RX2 yX2_lineUp yX2_lineUp, .initialized RX2, .code yX2_inLine cX2_inLine 2 (some (.object "TwinRoots$Page")), .fieldLink RX2 20 "TwinRoots$Forest" "empty" "LTwinRoots$Page;", .code yX2_page cX2_page 2 (some (.object "TwinRoots$Page")), .fieldLink RX2 11 "TwinRoots$Forest" "pages" "[LTwinRoots$Page;", .methodLink RX2 28 yX2_page, .instanceMethod yX2_page, .selects RX2 yX2_page yX2_page, .methodLink RX2 56 yX2_inLine, .instanceMethod yX2_inLine, .selects RX2 yX2_inLine yX2_inLine, .fieldLink RX2 32 "TwinRoots$Page" "leaf" "Z", .code yX2_lineUpChildren cX2_lineUpChildren 3 none, .fieldLink RX2 63 "TwinRoots$Page" "many" "I", .code yX4_refAt cX4_refAt 2 (some .int), .fieldLink RX4 22 "TwinRoots$Page" "many" "I", .fieldLink RX4 19 "TwinRoots$Page" "refs" "[I", .methodLink RX2 40 yX4_refAt, .instanceMethod yX4_refAt, .selects RX4 yX4_refAt yX4_refAt, .initialized RX4, .methodLink RX2 59 yX2_lineUpChildren, .instanceMethod yX2_lineUpChildren, .selects RX2 yX2_lineUpChildren yX2_lineUpChildren, .methodLink RX8 147 yX2_walk, .instanceMethod yX2_walk, .selects RX2 yX2_walk yX2_walk, .fieldLink RX8 217 "TwinRoots$Forest" "depth" "I", .fieldLink RX8 127 "TwinRoots$Told" "keys" "I", .methodLink RX8 208 yX8_countWhenUp, .instanceMethod yX8_countWhenUp, .selects RX8 yX8_countWhenUp yX8_countWhenUp] ++ (wsX80 ++ (wsX00 ++ (wsX70 ++ (wsX20 ++ (wsX40 ++ ([])))))))
set_option maxRecDepth 20000 in
theorem g_X8_count_X8_told_0 : GoodIn v_X8_count (wsV RX8 143 RX8 yX8_told v_X8_told_0) := goodIn_r _ [9, 10, 11, 12, 7, 8, 78, 79, 80, 81, 82, 83, 84, 85, 86, 87, 88] (by decide +kernel) (by decide +kernel)
set_option maxRecDepth 20000 in
theorem g_X8_count_X8_countWhenUp : GoodIn v_X8_count (wsV RX8 208 RX8 yX8_countWhenUp v_X8_countWhenUp) := goodIn_r _ [75, 76, 77, 12, 14, 15, 16, 17, 8, 18, 1, 2, 19, 20, 21, 22, 12, 23, 24, 25, 26, 27, 28, 29, 30, 31, 32, 33, 34, 35, 36, 37, 38, 39, 40, 41, 42, 43, 44, 45, 46, 47, 48, 49, 50, 51, 52, 53, 54, 55, 56, 57, 58, 59, 60, 61, 62, 63, 64, 65, 66, 67, 68, 69, 70, 71, 72, 73, 6, 7, 9, 10, 11, 74, 78, 79, 80, 81, 82, 83, 84, 85, 86, 87, 88, 96, 97, 98, 99, 89, 90, 91, 92, 93, 94, 95, 100, 101, 102, 103, 104, 105, 106, 107, 108, 109] (by decide +kernel) (by decide +kernel)
set_option maxRecDepth 20000 in
theorem g_X8_count_X8_told_1 : GoodIn v_X8_count (wsV RX8 143 RX8 yX8_told v_X8_told_1) := goodIn_r _ [9, 10, 11, 12, 7, 18, 78, 79, 80, 81, 82, 83, 84, 85, 86, 87, 88] (by decide +kernel) (by decide +kernel)
set_option maxHeartbeats 4000000 in
set_option maxRecDepth 100000 in
/-- X8_count -/
theorem c_X8_count (l : Launch) (dC : Nat → ClassId) (dI : Nat → Nat → Nat) (sz : Nat) (ax : Nat) (hd : Nat) (hf : Nat) (hs : Nat) (hp : Nat) (he : Nat) (q0 : Nat) (q1 : Nat) (qk : Nat) (qc : Nat) (qi : Nat) (qp : Nat) (qe : Nat) (ql : Nat) (w : Nat) (b : Nat) (lo : Nat) (le : Nat) (lt : Int32) (dn : Int32) (wr : Int32) (wa : Int32) (wc : Int32) (dp : Int32) (a1 : Int32) (a2 : Int32) (a3 : Int32) (b1 : Int32) (b2 : Int32) (b3 : Int32) (c1 : Int32) (c2 : Int32) (c3 : Int32) (fx : Int64) (a4 : Int64) (b4 : Int64) (c4 : Int64) (fl : Nat → Int32) (fp : Nat → Option Nat) (cI : ClassId) (cO : ClassId) (G : pgG) (Pg : List Nat) (S : pgS) (p0 : Int32) (zw0 : 12 ≤ w) (zw : w ≤ 40) (zb0 : 4 ≤ b) (zb : b ≤ 64) (zwb : w * b ≤ 2560) (hI : pgI G Pg S) (hpg : ∀ i, i < b → ∃ a, a ∈ Pg ∧ (G a).2.2.2 = 0 ∧ fp i = some a) (hm_qe : qe ∈ Pg) (ht_qe : (G qe).2.2.2 = 0) (zlt : lt = 0 ∨ lt = 1) : Met l yX8_count v_X8_count ({ frames := 4, cells := 0, slots := 0, locals := 88 } : Room) (va_Pc [.ref ax, .int p0] (fun U => U.heap.size = sz ∧ va_P (dC, dI) vwCl ([(ax, .inr (8, [.ref hd, .ref hf, .ref hs, .ref hp, .ref he, .ref q0, .ref q1, .ref qk, .int lt, .long fx, .int dn])), (hd, .inr (0, [.int (nI w), .int (nI b), .int wr, .ref qc, .ref qi, .int wa, .int wc])), (hf, .inr (2, [.int dp, .ref qp, .ref qe, .ref ql, .int (nI lo), .int (nI le)])), (qp, .inl (cO, b, .inr (.inr (.inr (.inr fp))))), MA9 ql cI b fl, (q0, .inr (7, [.int a1, .int a2, .int a3, .long a4])), (q1, .inr (7, [.int b1, .int b2, .int b3, .long b4])), (qk, .inr (7, [.int c1, .int c2, .int c3, .long c4]))] ++ pool G cI Pg S) U.heap ∧ va_K (dC, dI) vwCl [(cO, .object RX4), (cI, .int)] U ∧ va_D (fun _ => True) ([(ax, .inr (8, [.ref hd, .ref hf, .ref hs, .ref hp, .ref he, .ref q0, .ref q1, .ref qk, .int lt, .long fx, .int dn])), (hd, .inr (0, [.int (nI w), .int (nI b), .int wr, .ref qc, .ref qi, .int wa, .int wc])), (hf, .inr (2, [.int dp, .ref qp, .ref qe, .ref ql, .int (nI lo), .int (nI le)])), (qp, .inl (cO, b, .inr (.inr (.inr (.inr fp))))), MA9 ql cI b fl, (q0, .inr (7, [.int a1, .int a2, .int a3, .long a4])), (q1, .inr (7, [.int b1, .int b2, .int b3, .long b4])), (qk, .inr (7, [.int c1, .int c2, .int c3, .long c4]))] ++ pool G cI Pg S))) (va_Qi (fun (r : Int32) (u : Int32 × Int64 × Int32 × Int32 × Nat × Nat × (Nat → Int32)) => match u with | (lt2, fx2, dn2, dp2, lo2, le2, fl2) => (lt2 = 0 ∨ lt2 = 1)) (fun (u : Int32 × Int64 × Int32 × Int32 × Nat × Nat × (Nat → Int32)) (t : State) => match u with | (lt2, fx2, dn2, dp2, lo2, le2, fl2) => va_P (dC, dI) vwCl ([(ax, .inr (8, [.ref hd, .ref hf, .ref hs, .ref hp, .ref he, .ref q0, .ref q1, .ref qk, .int lt2, .long fx2, .int dn2])), (hd, .inr (0, [.int (nI w), .int (nI b), .int wr, .ref qc, .ref qi, .int wa, .int wc])), (hf, .inr (2, [.int dp2, .ref qp, .ref qe, .ref ql, .int (nI lo2), .int (nI le2)])), (qp, .inl (cO, b, .inr (.inr (.inr (.inr fp))))), MA9 ql cI b fl2, (q0, .inr (7, [.int a1, .int a2, .int a3, .long a4])), (q1, .inr (7, [.int b1, .int b2, .int b3, .long b4])), (qk, .inr (7, [.int c1, .int c2, .int c3, .long c4]))] ++ pool G cI Pg S) t.heap ∧ va_K (dC, dI) vwCl [(cO, .object RX4), (cI, .int)] t ∧ va_D (va_A ([(ax, .inr (8, [.ref hd, .ref hf, .ref hs, .ref hp, .ref he, .ref q0, .ref q1, .ref qk, .int lt, .long fx, .int dn])), (hd, .inr (0, [.int (nI w), .int (nI b), .int wr, .ref qc, .ref qi, .int wa, .int wc])), (hf, .inr (2, [.int dp, .ref qp, .ref qe, .ref ql, .int (nI lo), .int (nI le)])), (qp, .inl (cO, b, .inr (.inr (.inr (.inr fp))))), MA9 ql cI b fl, (q0, .inr (7, [.int a1, .int a2, .int a3, .long a4])), (q1, .inr (7, [.int b1, .int b2, .int b3, .long b4])), (qk, .inr (7, [.int c1, .int c2, .int c3, .long c4]))] ++ pool G cI Pg S) sz) ([(ax, .inr (8, [.ref hd, .ref hf, .ref hs, .ref hp, .ref he, .ref q0, .ref q1, .ref qk, .int lt2, .long fx2, .int dn2])), (hd, .inr (0, [.int (nI w), .int (nI b), .int wr, .ref qc, .ref qi, .int wa, .int wc])), (hf, .inr (2, [.int dp2, .ref qp, .ref qe, .ref ql, .int (nI lo2), .int (nI le2)])), (qp, .inl (cO, b, .inr (.inr (.inr (.inr fp))))), MA9 ql cI b fl2, (q0, .inr (7, [.int a1, .int a2, .int a3, .long a4])), (q1, .inr (7, [.int b1, .int b2, .int b3, .long b4])), (qk, .inr (7, [.int c1, .int c2, .int c3, .long c4]))] ++ pool G cI Pg S)) (va_A ([(ax, .inr (8, [.ref hd, .ref hf, .ref hs, .ref hp, .ref he, .ref q0, .ref q1, .ref qk, .int lt, .long fx, .int dn])), (hd, .inr (0, [.int (nI w), .int (nI b), .int wr, .ref qc, .ref qi, .int wa, .int wc])), (hf, .inr (2, [.int dp, .ref qp, .ref qe, .ref ql, .int (nI lo), .int (nI le)])), (qp, .inl (cO, b, .inr (.inr (.inr (.inr fp))))), MA9 ql cI b fl, (q0, .inr (7, [.int a1, .int a2, .int a3, .long a4])), (q1, .inr (7, [.int b1, .int b2, .int b3, .long b4])), (qk, .inr (7, [.int c1, .int c2, .int c3, .long c4]))] ++ pool G cI Pg S) sz)) 0 0 (va_A ([(ax, .inr (8, [.ref hd, .ref hf, .ref hs, .ref hp, .ref he, .ref q0, .ref q1, .ref qk, .int lt, .long fx, .int dn])), (hd, .inr (0, [.int (nI w), .int (nI b), .int wr, .ref qc, .ref qi, .int wa, .int wc])), (hf, .inr (2, [.int dp, .ref qp, .ref qe, .ref ql, .int (nI lo), .int (nI le)])), (qp, .inl (cO, b, .inr (.inr (.inr (.inr fp))))), MA9 ql cI b fl, (q0, .inr (7, [.int a1, .int a2, .int a3, .long a4])), (q1, .inr (7, [.int b1, .int b2, .int b3, .long b4])), (qk, .inr (7, [.int c1, .int c2, .int c3, .long c4]))] ++ pool G cI Pg S) sz) := by
  refine Met.ofW (cc := cX8_count) (maxL := 2) (ret := (some .int)) (by decide) rfl ?_
  intro p e s m args below meth c s₁ B hml hv
  obtain ⟨rfl, hsz, hP, hK, hD0⟩ := hv
  have hx := B.exec
  have hb := B.bytes
  have hr := B.returns
  have hts := atoms_spec (ws := v_X8_count) B.pre
  have hown : s.vm.findClass RX8 = some m.cls := findClass_of_methodNamed B.named
  have hlocks := B.notSynchronized
  subst hsz
  have hD := hD0.self (sz := s.heap.size)
  generalize hAe : va_A ([(ax, .inr (8, [.ref hd, .ref hf, .ref hs, .ref hp, .ref he, .ref q0, .ref q1, .ref qk, .int lt, .long fx, .int dn])), (hd, .inr (0, [.int (nI w), .int (nI b), .int wr, .ref qc, .ref qi, .int wa, .int wc])), (hf, .inr (2, [.int dp, .ref qp, .ref qe, .ref ql, .int (nI lo), .int (nI le)])), (qp, .inl (cO, b, .inr (.inr (.inr (.inr fp))))), MA9 ql cI b fl, (q0, .inr (7, [.int a1, .int a2, .int a3, .long a4])), (q1, .inr (7, [.int b1, .int b2, .int b3, .long b4])), (qk, .inr (7, [.int c1, .int c2, .int c3, .long c4]))] ++ pool G cI Pg S) s.heap.size = A at hD ⊢
  have hA : ∀ q : Nat, s.heap.size ≤ q → A q := fun q h => by rw [← hAe]; exact Or.inr h
  have hS : va_S A s.heap s.heap [] := va_S.rf
  have hP : va_P (dC, dI) vwCl ([(ax, .inr (8, [.ref hd, .ref hf, .ref hs, .ref hp, .ref he, .ref q0, .ref q1, .ref qk, .int lt, .long fx, .int dn])), (hd, .inr (0, [.int (nI w), .int (nI b), .int wr, .ref qc, .ref qi, .int wa, .int wc])), (hf, .inr (2, [.int dp, .ref qp, .ref qe, .ref ql, .int (nI lo), .int (nI le)])), (qp, .inl (cO, b, .inr (.inr (.inr (.inr fp))))), MA9 ql cI b fl, (q0, .inr (7, [.int a1, .int a2, .int a3, .long a4])), (q1, .inr (7, [.int b1, .int b2, .int b3, .long b4])), (qk, .inr (7, [.int c1, .int c2, .int c3, .long c4]))] ++ pool G cI Pg S) s.heap := hP
  have hl := lv_entry ([.ref ax, .int p0]) (n := 2) (Nat.le_of_ble_eq_true rfl)
  rw [lg_entry_eq]
  generalize (lg_sl ([.ref ax, .int p0]) ++ List.replicate (2 - (lg_sl ([.ref ax, .int p0])).length) Slot.unset).toArray = ls at hl ⊢
  have hl : lv_has ls 2 [(0, .ref ax), (1, .int p0)] := hl
  have k_1 := (fun _ h => List.mem_cons_of_mem _ (List.mem_append_right _ (List.mem_append_left _ h)) : ∀ w ∈ wsX80, w ∈ v_X8_count)
  have k_2 := hts (.fieldLink RX8 28 "TwinRoots" "disk" "LTwinRoots$Disk;") (List.mem_of_getElem? (i := 1) rfl)
  have k_3 := (fun _ h => List.mem_cons_of_mem _ (List.mem_append_right _ (List.mem_append_right _ (List.mem_append_left _ h))) : ∀ w ∈ wsX00, w ∈ v_X8_count)
  have k_4 := hts (.fieldLink RX8 195 "TwinRoots$Disk" "blocks" "I") (List.mem_of_getElem? (i := 2) rfl)
  have k_5 := hts (.fieldLink RX8 202 "TwinRoots$Disk" "words" "I") (List.mem_of_getElem? (i := 3) rfl)
  have k_6 := hts (.fieldLink RX8 205 "TwinRoots$Disk" "writes" "I") (List.mem_of_getElem? (i := 4) rfl)
  have k_7 := hts (.fieldLink RX8 77 "TwinRoots" "down" "Z") (List.mem_of_getElem? (i := 5) rfl)
  have k_8 := hts (.fieldLink RX8 140 "TwinRoots" "latest" "I") (List.mem_of_getElem? (i := 6) rfl)
  have k_9 := (fun _ h => List.mem_cons_of_mem _ (List.mem_append_right _ (List.mem_append_right _ (List.mem_append_right _ (List.mem_append_left _ h)))) : ∀ w ∈ wsX70, w ∈ v_X8_count)
  have k_10 := hts (.fieldLink RX8 170 "TwinRoots$Told" "epoch" "I") (List.mem_of_getElem? (i := 13) rfl)
  rcases zlt with rfl | rfl
  · replace hP : va_P (dC, dI) vwCl ([(ax, .inr (8, [.ref hd, .ref hf, .ref hs, .ref hp, .ref he, .ref q0, .ref q1, .ref qk, .int 0, .long fx, .int dn])), (hd, .inr (0, [.int (nI w), .int (nI b), .int wr, .ref qc, .ref qi, .int wa, .int wc])), (hf, .inr (2, [.int dp, .ref qp, .ref qe, .ref ql, .int (nI lo), .int (nI le)])), (qp, .inl (cO, b, .inr (.inr (.inr (.inr fp))))), MA9 ql cI b fl, (q0, .inr (7, [.int a1, .int a2, .int a3, .long a4])), (q1, .inr (7, [.int b1, .int b2, .int b3, .long b4])), (qk, .inr (7, [.int c1, .int c2, .int c3, .long c4]))] ++ pool G cI Pg S) s.heap := hP
    replace hD : va_D A ([(ax, .inr (8, [.ref hd, .ref hf, .ref hs, .ref hp, .ref he, .ref q0, .ref q1, .ref qk, .int 0, .long fx, .int dn])), (hd, .inr (0, [.int (nI w), .int (nI b), .int wr, .ref qc, .ref qi, .int wa, .int wc])), (hf, .inr (2, [.int dp, .ref qp, .ref qe, .ref ql, .int (nI lo), .int (nI le)])), (qp, .inl (cO, b, .inr (.inr (.inr (.inr fp))))), MA9 ql cI b fl, (q0, .inr (7, [.int a1, .int a2, .int a3, .long a4])), (q1, .inr (7, [.int b1, .int b2, .int b3, .long b4])), (qk, .inr (7, [.int c1, .int c2, .int c3, .long c4]))] ++ pool G cI Pg S) := hD
    refine lv_iload_n hx hb dX8_count_0 rfl (lv_at hl 1 rfl) ?_
    by_cases h_1 : p0 = 0
    · refine lv_tableIn (off := 35) (tgt := 36) hx hb dX8_count_1 (by rw [h_1]; decide) (by rw [h_1]; decide) (by rw [h_1]; decide) (by decide) ?_
      refine lv_aload_n hx hb dX8_count_36 rfl (lv_at hl 0 rfl) ?_
      refine va_get (D := (dC, dI)) (ci := 8) (v := .ref hd) (C := RX8) (T := TX8) (N := 11) hx hb hts k_1 hown hK hP 0 rfl rfl 0 (by decide) k_2 (fun _ h9 => h9) rfl dX8_count_37 ?_
      refine va_get (D := (dC, dI)) (ci := 0) (v := .int (nI b)) (C := RX0) (T := TX0) (N := 7) hx hb hts k_3 hown hK hP 1 rfl rfl 1 (by decide) k_4 (fun _ h9 => h9) rfl dX8_count_40 ?_
      have hP9 := hP.part (cx := [(ax, .inr (8, [.ref hd, .ref hf, .ref hs, .ref hp, .ref he, .ref q0, .ref q1, .ref qk, .int 0, .long fx, .int dn])), (hd, .inr (0, [.int (nI w), .int (nI b), .int wr, .ref qc, .ref qi, .int wa, .int wc])), (hf, .inr (2, [.int dp, .ref qp, .ref qe, .ref ql, .int (nI lo), .int (nI le)])), (qp, .inl (cO, b, .inr (.inr (.inr (.inr fp))))), MA9 ql cI b fl, (q0, .inr (7, [.int a1, .int a2, .int a3, .long a4])), (q1, .inr (7, [.int b1, .int b2, .int b3, .long b4])), (qk, .inr (7, [.int c1, .int c2, .int c3, .long c4]))]) [0, 1, 2, 3, 4, 5, 6, 7] rfl
      have hD9 := hD.part (cx := [(ax, .inr (8, [.ref hd, .ref hf, .ref hs, .ref hp, .ref he, .ref q0, .ref q1, .ref qk, .int 0, .long fx, .int dn])), (hd, .inr (0, [.int (nI w), .int (nI b), .int wr, .ref qc, .ref qi, .int wa, .int wc])), (hf, .inr (2, [.int dp, .ref qp, .ref qe, .ref ql, .int (nI lo), .int (nI le)])), (qp, .inl (cO, b, .inr (.inr (.inr (.inr fp))))), MA9 ql cI b fl, (q0, .inr (7, [.int a1, .int a2, .int a3, .long a4])), (q1, .inr (7, [.int b1, .int b2, .int b3, .long b4])), (qk, .inr (7, [.int c1, .int c2, .int c3, .long c4]))]) [0, 1, 2, 3, 4, 5, 6, 7] (by decide) rfl
      have hK9 := hK.sub (tys' := [(cO, .object RX4), (cI, .int)]) [0, 1] rfl
      exact W.iret (v := (nI b)) hx hb hr (fun t ht hW => ⟨⟨(nI b), (0, fx, dn, dp, lo, le, fl), rfl, (by first | assumption | exact hw.2 | exact hw.2.1 | exact hw | exact Or.inl rfl | exact Or.inr rfl), by rw [ht]; exact hP9, va_K.moved hW.alike hK9, hD9⟩, hS.F ht⟩) hS.2.2 dX8_count_43
    by_cases h_2 : p0 = 1
    · refine lv_tableIn (off := 43) (tgt := 44) hx hb dX8_count_1 (by rw [h_2]; decide) (by rw [h_2]; decide) (by rw [h_2]; decide) (by decide) ?_
      refine lv_aload_n hx hb dX8_count_44 rfl (lv_at hl 0 rfl) ?_
      refine va_get (D := (dC, dI)) (ci := 8) (v := .ref hd) (C := RX8) (T := TX8) (N := 11) hx hb hts k_1 hown hK hP 0 rfl rfl 0 (by decide) k_2 (fun _ h9 => h9) rfl dX8_count_45 ?_
      refine va_get (D := (dC, dI)) (ci := 0) (v := .int (nI w)) (C := RX0) (T := TX0) (N := 7) hx hb hts k_3 hown hK hP 1 rfl rfl 0 (by decide) k_5 (fun _ h9 => h9) rfl dX8_count_48 ?_
      have hP9 := hP.part (cx := [(ax, .inr (8, [.ref hd, .ref hf, .ref hs, .ref hp, .ref he, .ref q0, .ref q1, .ref qk, .int 0, .long fx, .int dn])), (hd, .inr (0, [.int (nI w), .int (nI b), .int wr, .ref qc, .ref qi, .int wa, .int wc])), (hf, .inr (2, [.int dp, .ref qp, .ref qe, .ref ql, .int (nI lo), .int (nI le)])), (qp, .inl (cO, b, .inr (.inr (.inr (.inr fp))))), MA9 ql cI b fl, (q0, .inr (7, [.int a1, .int a2, .int a3, .long a4])), (q1, .inr (7, [.int b1, .int b2, .int b3, .long b4])), (qk, .inr (7, [.int c1, .int c2, .int c3, .long c4]))]) [0, 1, 2, 3, 4, 5, 6, 7] rfl
      have hD9 := hD.part (cx := [(ax, .inr (8, [.ref hd, .ref hf, .ref hs, .ref hp, .ref he, .ref q0, .ref q1, .ref qk, .int 0, .long fx, .int dn])), (hd, .inr (0, [.int (nI w), .int (nI b), .int wr, .ref qc, .ref qi, .int wa, .int wc])), (hf, .inr (2, [.int dp, .ref qp, .ref qe, .ref ql, .int (nI lo), .int (nI le)])), (qp, .inl (cO, b, .inr (.inr (.inr (.inr fp))))), MA9 ql cI b fl, (q0, .inr (7, [.int a1, .int a2, .int a3, .long a4])), (q1, .inr (7, [.int b1, .int b2, .int b3, .long b4])), (qk, .inr (7, [.int c1, .int c2, .int c3, .long c4]))]) [0, 1, 2, 3, 4, 5, 6, 7] (by decide) rfl
      have hK9 := hK.sub (tys' := [(cO, .object RX4), (cI, .int)]) [0, 1] rfl
      exact W.iret (v := (nI w)) hx hb hr (fun t ht hW => ⟨⟨(nI w), (0, fx, dn, dp, lo, le, fl), rfl, (by first | assumption | exact hw.2 | exact hw.2.1 | exact hw | exact Or.inl rfl | exact Or.inr rfl), by rw [ht]; exact hP9, va_K.moved hW.alike hK9, hD9⟩, hS.F ht⟩) hS.2.2 dX8_count_51
    by_cases h_3 : p0 = 2
    · refine lv_tableIn (off := 51) (tgt := 52) hx hb dX8_count_1 (by rw [h_3]; decide) (by rw [h_3]; decide) (by rw [h_3]; decide) (by decide) ?_
      refine lv_aload_n hx hb dX8_count_52 rfl (lv_at hl 0 rfl) ?_
      refine va_get (D := (dC, dI)) (ci := 8) (v := .ref hd) (C := RX8) (T := TX8) (N := 11) hx hb hts k_1 hown hK hP 0 rfl rfl 0 (by decide) k_2 (fun _ h9 => h9) rfl dX8_count_53 ?_
      refine va_get (D := (dC, dI)) (ci := 0) (v := .int wr) (C := RX0) (T := TX0) (N := 7) hx hb hts k_3 hown hK hP 1 rfl rfl 2 (by decide) k_6 (fun _ h9 => h9) rfl dX8_count_56 ?_
      have hP9 := hP.part (cx := [(ax, .inr (8, [.ref hd, .ref hf, .ref hs, .ref hp, .ref he, .ref q0, .ref q1, .ref qk, .int 0, .long fx, .int dn])), (hd, .inr (0, [.int (nI w), .int (nI b), .int wr, .ref qc, .ref qi, .int wa, .int wc])), (hf, .inr (2, [.int dp, .ref qp, .ref qe, .ref ql, .int (nI lo), .int (nI le)])), (qp, .inl (cO, b, .inr (.inr (.inr (.inr fp))))), MA9 ql cI b fl, (q0, .inr (7, [.int a1, .int a2, .int a3, .long a4])), (q1, .inr (7, [.int b1, .int b2, .int b3, .long b4])), (qk, .inr (7, [.int c1, .int c2, .int c3, .long c4]))]) [0, 1, 2, 3, 4, 5, 6, 7] rfl
      have hD9 := hD.part (cx := [(ax, .inr (8, [.ref hd, .ref hf, .ref hs, .ref hp, .ref he, .ref q0, .ref q1, .ref qk, .int 0, .long fx, .int dn])), (hd, .inr (0, [.int (nI w), .int (nI b), .int wr, .ref qc, .ref qi, .int wa, .int wc])), (hf, .inr (2, [.int dp, .ref qp, .ref qe, .ref ql, .int (nI lo), .int (nI le)])), (qp, .inl (cO, b, .inr (.inr (.inr (.inr fp))))), MA9 ql cI b fl, (q0, .inr (7, [.int a1, .int a2, .int a3, .long a4])), (q1, .inr (7, [.int b1, .int b2, .int b3, .long b4])), (qk, .inr (7, [.int c1, .int c2, .int c3, .long c4]))]) [0, 1, 2, 3, 4, 5, 6, 7] (by decide) rfl
      have hK9 := hK.sub (tys' := [(cO, .object RX4), (cI, .int)]) [0, 1] rfl
      exact W.iret (v := wr) hx hb hr (fun t ht hW => ⟨⟨wr, (0, fx, dn, dp, lo, le, fl), rfl, (by first | assumption | exact hw.2 | exact hw.2.1 | exact hw | exact Or.inl rfl | exact Or.inr rfl), by rw [ht]; exact hP9, va_K.moved hW.alike hK9, hD9⟩, hS.F ht⟩) hS.2.2 dX8_count_59
    by_cases h_4 : p0 = 3
    · refine lv_tableIn (off := 59) (tgt := 60) hx hb dX8_count_1 (by rw [h_4]; decide) (by rw [h_4]; decide) (by rw [h_4]; decide) (by decide) ?_
      refine lv_aload_n hx hb dX8_count_60 rfl (lv_at hl 0 rfl) ?_
      refine va_get (D := (dC, dI)) (ci := 8) (v := .int dn) (C := RX8) (T := TX8) (N := 11) hx hb hts k_1 hown hK hP 0 rfl rfl 10 (by decide) k_7 (fun _ h9 => h9) rfl dX8_count_61 ?_
      refine lv_if_eq (tgt := 71) hx hb dX8_count_64 (by decide) (fun c_5 => ?_) (fun c_5 => ?_)
      · refine lv_iconst (v := 0) hx hb dX8_count_71 (by decide) ?_
        have hP9 := hP.part (cx := [(ax, .inr (8, [.ref hd, .ref hf, .ref hs, .ref hp, .ref he, .ref q0, .ref q1, .ref qk, .int 0, .long fx, .int dn])), (hd, .inr (0, [.int (nI w), .int (nI b), .int wr, .ref qc, .ref qi, .int wa, .int wc])), (hf, .inr (2, [.int dp, .ref qp, .ref qe, .ref ql, .int (nI lo), .int (nI le)])), (qp, .inl (cO, b, .inr (.inr (.inr (.inr fp))))), MA9 ql cI b fl, (q0, .inr (7, [.int a1, .int a2, .int a3, .long a4])), (q1, .inr (7, [.int b1, .int b2, .int b3, .long b4])), (qk, .inr (7, [.int c1, .int c2, .int c3, .long c4]))]) [0, 1, 2, 3, 4, 5, 6, 7] rfl
        have hD9 := hD.part (cx := [(ax, .inr (8, [.ref hd, .ref hf, .ref hs, .ref hp, .ref he, .ref q0, .ref q1, .ref qk, .int 0, .long fx, .int dn])), (hd, .inr (0, [.int (nI w), .int (nI b), .int wr, .ref qc, .ref qi, .int wa, .int wc])), (hf, .inr (2, [.int dp, .ref qp, .ref qe, .ref ql, .int (nI lo), .int (nI le)])), (qp, .inl (cO, b, .inr (.inr (.inr (.inr fp))))), MA9 ql cI b fl, (q0, .inr (7, [.int a1, .int a2, .int a3, .long a4])), (q1, .inr (7, [.int b1, .int b2, .int b3, .long b4])), (qk, .inr (7, [.int c1, .int c2, .int c3, .long c4]))]) [0, 1, 2, 3, 4, 5, 6, 7] (by decide) rfl
        have hK9 := hK.sub (tys' := [(cO, .object RX4), (cI, .int)]) [0, 1] rfl
        exact W.iret (v := 0) hx hb hr (fun t ht hW => ⟨⟨0, (0, fx, dn, dp, lo, le, fl), rfl, (by first | assumption | exact hw.2 | exact hw.2.1 | exact hw | exact Or.inl rfl | exact Or.inr rfl), by rw [ht]; exact hP9, va_K.moved hW.alike hK9, hD9⟩, hS.F ht⟩) hS.2.2 dX8_count_72
      · refine lv_iconst (v := 1) hx hb dX8_count_67 (by decide) ?_
        refine lv_goto (tgt := 72) hx hb dX8_count_68 (by decide) ?_
        have hP9 := hP.part (cx := [(ax, .inr (8, [.ref hd, .ref hf, .ref hs, .ref hp, .ref he, .ref q0, .ref q1, .ref qk, .int 0, .long fx, .int dn])), (hd, .inr (0, [.int (nI w), .int (nI b), .int wr, .ref qc, .ref qi, .int wa, .int wc])), (hf, .inr (2, [.int dp, .ref qp, .ref qe, .ref ql, .int (nI lo), .int (nI le)])), (qp, .inl (cO, b, .inr (.inr (.inr (.inr fp))))), MA9 ql cI b fl, (q0, .inr (7, [.int a1, .int a2, .int a3, .long a4])), (q1, .inr (7, [.int b1, .int b2, .int b3, .long b4])), (qk, .inr (7, [.int c1, .int c2, .int c3, .long c4]))]) [0, 1, 2, 3, 4, 5, 6, 7] rfl
        have hD9 := hD.part (cx := [(ax, .inr (8, [.ref hd, .ref hf, .ref hs, .ref hp, .ref he, .ref q0, .ref q1, .ref qk, .int 0, .long fx, .int dn])), (hd, .inr (0, [.int (nI w), .int (nI b), .int wr, .ref qc, .ref qi, .int wa, .int wc])), (hf, .inr (2, [.int dp, .ref qp, .ref qe, .ref ql, .int (nI lo), .int (nI le)])), (qp, .inl (cO, b, .inr (.inr (.inr (.inr fp))))), MA9 ql cI b fl, (q0, .inr (7, [.int a1, .int a2, .int a3, .long a4])), (q1, .inr (7, [.int b1, .int b2, .int b3, .long b4])), (qk, .inr (7, [.int c1, .int c2, .int c3, .long c4]))]) [0, 1, 2, 3, 4, 5, 6, 7] (by decide) rfl
        have hK9 := hK.sub (tys' := [(cO, .object RX4), (cI, .int)]) [0, 1] rfl
        exact W.iret (v := 1) hx hb hr (fun t ht hW => ⟨⟨1, (0, fx, dn, dp, lo, le, fl), rfl, (by first | assumption | exact hw.2 | exact hw.2.1 | exact hw | exact Or.inl rfl | exact Or.inr rfl), by rw [ht]; exact hP9, va_K.moved hW.alike hK9, hD9⟩, hS.F ht⟩) hS.2.2 dX8_count_72
    by_cases h_6 : p0 = 4
    · refine lv_tableIn (off := 72) (tgt := 73) hx hb dX8_count_1 (by rw [h_6]; decide) (by rw [h_6]; decide) (by rw [h_6]; decide) (by decide) ?_
      refine lv_aload_n hx hb dX8_count_73 rfl (lv_at hl 0 rfl) ?_
      refine va_get (D := (dC, dI)) (ci := 8) (v := .int dn) (C := RX8) (T := TX8) (N := 11) hx hb hts k_1 hown hK hP 0 rfl rfl 10 (by decide) k_7 (fun _ h9 => h9) rfl dX8_count_74 ?_
      refine lv_if_eq (tgt := 84) hx hb dX8_count_77 (by decide) (fun c_7 => ?_) (fun c_7 => ?_)
      · refine lv_aload_n hx hb dX8_count_84 rfl (lv_at hl 0 rfl) ?_
        refine lv_aload_n hx hb dX8_count_85 rfl (lv_at hl 0 rfl) ?_
        refine va_get (D := (dC, dI)) (ci := 8) (v := .int 0) (C := RX8) (T := TX8) (N := 11) hx hb hts k_1 hown hK hP 0 rfl rfl 8 (by decide) k_8 (fun _ h9 => h9) rfl dX8_count_86 ?_
        have hPc := hP.sub (ws' := [(ax, .inr (8, [.ref hd, .ref hf, .ref hs, .ref hp, .ref he, .ref q0, .ref q1, .ref qk, .int 0, .long fx, .int dn]))]) [0] rfl
        have hDc := hD.sub (ws' := [(ax, .inr (8, [.ref hd, .ref hf, .ref hs, .ref hp, .ref he, .ref q0, .ref q1, .ref qk, .int 0, .long fx, .int dn]))]) [0] (by decide) rfl
        have hKc := hK.sub (tys' := []) [] rfl
        have hFc := va_free (wc := [(ax, .inr (8, [.ref hd, .ref hf, .ref hs, .ref hp, .ref he, .ref q0, .ref q1, .ref qk, .int 0, .long fx, .int dn]))]) hD hS hA [0] rfl
        refine va_callr (va_runV (As := [.int 0]) (rest := []) ⟨hx, hb, hml, hown, hts⟩ (c_X8_told_0 l dC dI s.heap.size ax hd hf hs hp he q0 q1 qk 0 dn fx) (cwV 1 hts g_X8_count_X8_told_0 rfl rfl rfl (by decide +kernel) ⟨Nat.le_of_ble_eq_true rfl, Nat.le_of_ble_eq_true rfl⟩) ⟨fun a U g mk q => by obtain ⟨q0, q1, qP, qK, qD⟩ := q; exact ⟨q0, q1, qP, va_K.moved (u := U) (U := U.calling g mk a) (Vm.Alike.refl U.vm) qK, qD⟩, va_recv hKc hPc (ci := 8) (q0 := 0) rfl rfl, fun U hU hW => ⟨rfl, by rw [hU], by rw [hU]; exact hPc, va_K.moved hW.alike hKc, hDc.weaken (fun _ _ _ _ => trivial)⟩⟩ rfl rfl hl.1 rfl (lv_room (Nat.le_of_ble_eq_true rfl)) dX8_count_89 ⟨(show 0 + 0 ≤ 0 by omega), (show 0 + 0 ≤ 0 by omega)⟩) hS (fun q _ h => hFc q h) hFc (fun u r_8 t H1 locs ht hvm hw hB hz1 hk1 hS9 => ?_)
        replace hS := hS9
        clear hS9
        obtain ⟨hra, hP1, hK1, hD1⟩ := hB
        have hra := hra.symm
        subst hra
        rw [ht] at hP1
        replace hK1 := va_K.moved hvm.symm hK1
        try dsimp only at hw
        obtain ⟨hP9, hD9⟩ := va_joinQ (wr := [(hd, .inr (0, [.int (nI w), .int (nI b), .int wr, .ref qc, .ref qi, .int wa, .int wc])), (hf, .inr (2, [.int dp, .ref qp, .ref qe, .ref ql, .int (nI lo), .int (nI le)])), (qp, .inl (cO, b, .inr (.inr (.inr (.inr fp))))), MA9 ql cI b fl, (q0, .inr (7, [.int a1, .int a2, .int a3, .long a4])), (q1, .inr (7, [.int b1, .int b2, .int b3, .long b4])), (qk, .inr (7, [.int c1, .int c2, .int c3, .long c4]))]) (w1 := [(ax, .inr (8, [.ref hd, .ref hf, .ref hs, .ref hp, .ref he, .ref q0, .ref q1, .ref qk, .int 0, .long fx, .int dn]))]) hP hD [0] [1, 2, 3, 4, 5, 6, 7] rfl rfl (by decide) (by decide) hk1 hFc hP1 hD1
        replace hP := hP9
        replace hD := hD9
        clear hP9 hD9
        replace hK := (hK.sub (tys' := [(cO, .object RX4), (cI, .int)]) [0, 1] rfl).app hK1
        replace hK : va_K (dC, dI) vwCl [(cO, .object RX4), (cI, .int)] s := hK.sub [0, 1] rfl
        clear hP1 hD1 hK1 hPc hDc hKc hFc hk1 hz1 hvm ht
        generalize H1 = H at hP hS ⊢
        replace hP : va_P (dC, dI) vwCl ([(hd, .inr (0, [.int (nI w), .int (nI b), .int wr, .ref qc, .ref qi, .int wa, .int wc])), (hf, .inr (2, [.int dp, .ref qp, .ref qe, .ref ql, .int (nI lo), .int (nI le)])), (qp, .inl (cO, b, .inr (.inr (.inr (.inr fp))))), MA9 ql cI b fl, (q0, .inr (7, [.int a1, .int a2, .int a3, .long a4])), (q1, .inr (7, [.int b1, .int b2, .int b3, .long b4])), (qk, .inr (7, [.int c1, .int c2, .int c3, .long c4])), (ax, .inr (8, [.ref hd, .ref hf, .ref hs, .ref hp, .ref he, .ref q0, .ref q1, .ref qk, .int 0, .long fx, .int dn]))] ++ pool G cI Pg S) H := hP
        replace hD : va_D A ([(hd, .inr (0, [.int (nI w), .int (nI b), .int wr, .ref qc, .ref qi, .int wa, .int wc])), (hf, .inr (2, [.int dp, .ref qp, .ref qe, .ref ql, .int (nI lo), .int (nI le)])), (qp, .inl (cO, b, .inr (.inr (.inr (.inr fp))))), MA9 ql cI b fl, (q0, .inr (7, [.int a1, .int a2, .int a3, .long a4])), (q1, .inr (7, [.int b1, .int b2, .int b3, .long b4])), (qk, .inr (7, [.int c1, .int c2, .int c3, .long c4])), (ax, .inr (8, [.ref hd, .ref hf, .ref hs, .ref hp, .ref he, .ref q0, .ref q1, .ref qk, .int 0, .long fx, .int dn]))] ++ pool G cI Pg S) := hD
        replace hK : va_K (dC, dI) vwCl [(cO, .object RX4), (cI, .int)] s := hK
        refine va_get (D := (dC, dI)) (ci := 7) (v := .int a1) (C := RX7) (T := TX7) (N := 4) hx hb hts k_9 hown hK hP 4 rfl rfl 0 (by decide) k_10 (fun _ h9 => h9) rfl dX8_count_92 ?_
        have hP9 := hP.part (cx := [(ax, .inr (8, [.ref hd, .ref hf, .ref hs, .ref hp, .ref he, .ref q0, .ref q1, .ref qk, .int 0, .long fx, .int dn])), (hd, .inr (0, [.int (nI w), .int (nI b), .int wr, .ref qc, .ref qi, .int wa, .int wc])), (hf, .inr (2, [.int dp, .ref qp, .ref qe, .ref ql, .int (nI lo), .int (nI le)])), (qp, .inl (cO, b, .inr (.inr (.inr (.inr fp))))), MA9 ql cI b fl, (q0, .inr (7, [.int a1, .int a2, .int a3, .long a4])), (q1, .inr (7, [.int b1, .int b2, .int b3, .long b4])), (qk, .inr (7, [.int c1, .int c2, .int c3, .long c4]))]) [7, 0, 1, 2, 3, 4, 5, 6] rfl
        have hD9 := hD.part (cx := [(ax, .inr (8, [.ref hd, .ref hf, .ref hs, .ref hp, .ref he, .ref q0, .ref q1, .ref qk, .int 0, .long fx, .int dn])), (hd, .inr (0, [.int (nI w), .int (nI b), .int wr, .ref qc, .ref qi, .int wa, .int wc])), (hf, .inr (2, [.int dp, .ref qp, .ref qe, .ref ql, .int (nI lo), .int (nI le)])), (qp, .inl (cO, b, .inr (.inr (.inr (.inr fp))))), MA9 ql cI b fl, (q0, .inr (7, [.int a1, .int a2, .int a3, .long a4])), (q1, .inr (7, [.int b1, .int b2, .int b3, .long b4])), (qk, .inr (7, [.int c1, .int c2, .int c3, .long c4]))]) [7, 0, 1, 2, 3, 4, 5, 6] (by decide) rfl
        have hK9 := hK.sub (tys' := [(cO, .object RX4), (cI, .int)]) [0, 1] rfl
        exact W.iret (v := a1) hx hb hr (fun t ht hW => ⟨⟨a1, (0, fx, dn, dp, lo, le, fl), rfl, (by first | assumption | exact hw.2 | exact hw.2.1 | exact hw | exact Or.inl rfl | exact Or.inr rfl), by rw [ht]; exact hP9, va_K.moved hW.alike hK9, hD9⟩, hS.F ht⟩) hS.2.2 dX8_count_95
      · refine lv_iconst (v := -1) hx hb dX8_count_80 (by decide) ?_
        refine lv_goto (tgt := 95) hx hb dX8_count_81 (by decide) ?_
        have hP9 := hP.part (cx := [(ax, .inr (8, [.ref hd, .ref hf, .ref hs, .ref hp, .ref he, .ref q0, .ref q1, .ref qk, .int 0, .long fx, .int dn])), (hd, .inr (0, [.int (nI w), .int (nI b), .int wr, .ref qc, .ref qi, .int wa, .int wc])), (hf, .inr (2, [.int dp, .ref qp, .ref qe, .ref ql, .int (nI lo), .int (nI le)])), (qp, .inl (cO, b, .inr (.inr (.inr (.inr fp))))), MA9 ql cI b fl, (q0, .inr (7, [.int a1, .int a2, .int a3, .long a4])), (q1, .inr (7, [.int b1, .int b2, .int b3, .long b4])), (qk, .inr (7, [.int c1, .int c2, .int c3, .long c4]))]) [0, 1, 2, 3, 4, 5, 6, 7] rfl
        have hD9 := hD.part (cx := [(ax, .inr (8, [.ref hd, .ref hf, .ref hs, .ref hp, .ref he, .ref q0, .ref q1, .ref qk, .int 0, .long fx, .int dn])), (hd, .inr (0, [.int (nI w), .int (nI b), .int wr, .ref qc, .ref qi, .int wa, .int wc])), (hf, .inr (2, [.int dp, .ref qp, .ref qe, .ref ql, .int (nI lo), .int (nI le)])), (qp, .inl (cO, b, .inr (.inr (.inr (.inr fp))))), MA9 ql cI b fl, (q0, .inr (7, [.int a1, .int a2, .int a3, .long a4])), (q1, .inr (7, [.int b1, .int b2, .int b3, .long b4])), (qk, .inr (7, [.int c1, .int c2, .int c3, .long c4]))]) [0, 1, 2, 3, 4, 5, 6, 7] (by decide) rfl
        have hK9 := hK.sub (tys' := [(cO, .object RX4), (cI, .int)]) [0, 1] rfl
        exact W.iret (v := (-1)) hx hb hr (fun t ht hW => ⟨⟨(-1), (0, fx, dn, dp, lo, le, fl), rfl, (by first | assumption | exact hw.2 | exact hw.2.1 | exact hw | exact Or.inl rfl | exact Or.inr rfl), by rw [ht]; exact hP9, va_K.moved hW.alike hK9, hD9⟩, hS.F ht⟩) hS.2.2 dX8_count_95
    have th_1 : ¬ p0.toInt = 0 := lv_neT h_1 (by decide)
    have th_2 : ¬ p0.toInt = 1 := lv_neT h_2 (by decide)
    have th_3 : ¬ p0.toInt = 2 := lv_neT h_3 (by decide)
    have th_4 : ¬ p0.toInt = 3 := lv_neT h_4 (by decide)
    have th_6 : ¬ p0.toInt = 4 := lv_neT h_6 (by decide)
    refine lv_tableOut (tgt := 96) hx hb dX8_count_1 (by omega) (by decide) ?_
    refine lv_aload_n hx hb dX8_count_96 rfl (lv_at hl 0 rfl) ?_
    refine va_get (D := (dC, dI)) (ci := 8) (v := .int dn) (C := RX8) (T := TX8) (N := 11) hx hb hts k_1 hown hK hP 0 rfl rfl 10 (by decide) k_7 (fun _ h9 => h9) rfl dX8_count_97 ?_
    refine lv_if_eq (tgt := 107) hx hb dX8_count_100 (by decide) (fun c_9 => ?_) (fun c_9 => ?_)
    · refine lv_aload_n hx hb dX8_count_107 rfl (lv_at hl 0 rfl) ?_
      refine lv_iload_n hx hb dX8_count_108 rfl (lv_at hl 1 rfl) ?_
      have hPc := hP.part (cx := [(ax, .inr (8, [.ref hd, .ref hf, .ref hs, .ref hp, .ref he, .ref q0, .ref q1, .ref qk, .int 0, .long fx, .int dn])), (hd, .inr (0, [.int (nI w), .int (nI b), .int wr, .ref qc, .ref qi, .int wa, .int wc])), (hf, .inr (2, [.int dp, .ref qp, .ref qe, .ref ql, .int (nI lo), .int (nI le)])), (qp, .inl (cO, b, .inr (.inr (.inr (.inr fp))))), MA9 ql cI b fl, (q0, .inr (7, [.int a1, .int a2, .int a3, .long a4])), (q1, .inr (7, [.int b1, .int b2, .int b3, .long b4])), (qk, .inr (7, [.int c1, .int c2, .int c3, .long c4]))]) [0, 1, 2, 3, 4, 5, 6, 7] rfl
      have hDc := hD.part (cx := [(ax, .inr (8, [.ref hd, .ref hf, .ref hs, .ref hp, .ref he, .ref q0, .ref q1, .ref qk, .int 0, .long fx, .int dn])), (hd, .inr (0, [.int (nI w), .int (nI b), .int wr, .ref qc, .ref qi, .int wa, .int wc])), (hf, .inr (2, [.int dp, .ref qp, .ref qe, .ref ql, .int (nI lo), .int (nI le)])), (qp, .inl (cO, b, .inr (.inr (.inr (.inr fp))))), MA9 ql cI b fl, (q0, .inr (7, [.int a1, .int a2, .int a3, .long a4])), (q1, .inr (7, [.int b1, .int b2, .int b3, .long b4])), (qk, .inr (7, [.int c1, .int c2, .int c3, .long c4]))]) [0, 1, 2, 3, 4, 5, 6, 7] (by decide) rfl
      have hFc := va_freeP (cx := [(ax, .inr (8, [.ref hd, .ref hf, .ref hs, .ref hp, .ref he, .ref q0, .ref q1, .ref qk, .int 0, .long fx, .int dn])), (hd, .inr (0, [.int (nI w), .int (nI b), .int wr, .ref qc, .ref qi, .int wa, .int wc])), (hf, .inr (2, [.int dp, .ref qp, .ref qe, .ref ql, .int (nI lo), .int (nI le)])), (qp, .inl (cO, b, .inr (.inr (.inr (.inr fp))))), MA9 ql cI b fl, (q0, .inr (7, [.int a1, .int a2, .int a3, .long a4])), (q1, .inr (7, [.int b1, .int b2, .int b3, .long b4])), (qk, .inr (7, [.int c1, .int c2, .int c3, .long c4]))]) hD hS hA [0, 1, 2, 3, 4, 5, 6, 7] rfl
      have hKc := hK.sub (tys' := [(cO, .object RX4), (cI, .int)]) [0, 1] rfl
      refine va_calli (va_runV (As := [.int p0]) (rest := []) ⟨hx, hb, hml, hown, hts⟩ (c_X8_countWhenUp l dC dI s.heap.size ax hd hf hs hp he q0 q1 qk qc qi qp qe ql w b lo le 0 dn wr wa wc dp a1 a2 a3 b1 b2 b3 c1 c2 c3 fx a4 b4 c4 fl fp cI cO G Pg S p0 (by first | assumption | omega | decide) (by first | assumption | omega | decide) (by first | assumption | omega | decide) (by first | assumption | omega | decide) (by first | assumption | omega | decide) (by first | assumption | omega | decide) (by first | assumption | omega | decide) (by first | assumption | omega | decide) (by first | assumption | omega | decide) (by first | assumption | omega | decide)) (cwV 1 hts g_X8_count_X8_countWhenUp rfl rfl rfl (by decide +kernel) ⟨Nat.le_of_ble_eq_true rfl, Nat.le_of_ble_eq_true rfl⟩) ⟨fun a U g mk q => by obtain ⟨q0, q1, qP, qK, qD⟩ := q; exact ⟨q0, q1, qP, va_K.moved (u := U) (U := U.calling g mk a) (Vm.Alike.refl U.vm) qK, qD⟩, va_recv hKc hPc (ci := 8) (q0 := 0) rfl rfl, fun U hU hW => ⟨rfl, by rw [hU], by rw [hU]; exact hPc, va_K.moved hW.alike hKc, hDc.weaken (fun _ _ _ _ => trivial)⟩⟩ rfl rfl hl.1 rfl (lv_room (Nat.le_of_ble_eq_true rfl)) dX8_count_109 ⟨(show 0 + 0 ≤ 0 by omega), (show 0 + 0 ≤ 0 by omega)⟩) hS (fun q _ h => hFc q h) hFc (fun r_10 u t H1 locs ht hvm hw hB hz1 hk1 hS9 => ?_)
      replace hS := hS9
      clear hS9
      obtain ⟨lt2_11, fx2_12, dn2_13, dp2_14, lo2_15, le2_16, fl2_17⟩ := u
      obtain ⟨hP1, hK1, hD1⟩ := hB
      rw [ht] at hP1
      replace hK1 := va_K.moved hvm.symm hK1
      try dsimp only at hw
      obtain ⟨hP9, hD9⟩ := va_joinP (wr := []) (rx := [(ax, .inr (8, [.ref hd, .ref hf, .ref hs, .ref hp, .ref he, .ref q0, .ref q1, .ref qk, .int lt2_11, .long fx2_12, .int dn2_13])), (hd, .inr (0, [.int (nI w), .int (nI b), .int wr, .ref qc, .ref qi, .int wa, .int wc])), (hf, .inr (2, [.int dp2_14, .ref qp, .ref qe, .ref ql, .int (nI lo2_15), .int (nI le2_16)])), (qp, .inl (cO, b, .inr (.inr (.inr (.inr fp))))), MA9 ql cI b fl2_17, (q0, .inr (7, [.int a1, .int a2, .int a3, .long a4])), (q1, .inr (7, [.int b1, .int b2, .int b3, .long b4])), (qk, .inr (7, [.int c1, .int c2, .int c3, .long c4]))]) (pl1 := pool G cI Pg S) hP hD [0, 1, 2, 3, 4, 5, 6, 7] [] rfl rfl (by decide) (by decide) hk1 hFc hP1 hD1
      replace hP := hP9
      replace hD := hD9
      clear hP9 hD9
      replace hK := (hK.sub (tys' := [(cO, .object RX4), (cI, .int)]) [0, 1] rfl).app hK1
      replace hK : va_K (dC, dI) vwCl [(cO, .object RX4), (cI, .int)] s := hK.sub [0, 1] rfl
      clear hP1 hD1 hK1 hPc hDc hKc hFc hk1 hz1 hvm ht
      generalize H1 = H at hP hS ⊢
      replace hP : va_P (dC, dI) vwCl ([(ax, .inr (8, [.ref hd, .ref hf, .ref hs, .ref hp, .ref he, .ref q0, .ref q1, .ref qk, .int lt2_11, .long fx2_12, .int dn2_13])), (hd, .inr (0, [.int (nI w), .int (nI b), .int wr, .ref qc, .ref qi, .int wa, .int wc])), (hf, .inr (2, [.int dp2_14, .ref qp, .ref qe, .ref ql, .int (nI lo2_15), .int (nI le2_16)])), (qp, .inl (cO, b, .inr (.inr (.inr (.inr fp))))), MA9 ql cI b fl2_17, (q0, .inr (7, [.int a1, .int a2, .int a3, .long a4])), (q1, .inr (7, [.int b1, .int b2, .int b3, .long b4])), (qk, .inr (7, [.int c1, .int c2, .int c3, .long c4]))] ++ pool G cI Pg S) H := hP
      replace hD : va_D A ([(ax, .inr (8, [.ref hd, .ref hf, .ref hs, .ref hp, .ref he, .ref q0, .ref q1, .ref qk, .int lt2_11, .long fx2_12, .int dn2_13])), (hd, .inr (0, [.int (nI w), .int (nI b), .int wr, .ref qc, .ref qi, .int wa, .int wc])), (hf, .inr (2, [.int dp2_14, .ref qp, .ref qe, .ref ql, .int (nI lo2_15), .int (nI le2_16)])), (qp, .inl (cO, b, .inr (.inr (.inr (.inr fp))))), MA9 ql cI b fl2_17, (q0, .inr (7, [.int a1, .int a2, .int a3, .long a4])), (q1, .inr (7, [.int b1, .int b2, .int b3, .long b4])), (qk, .inr (7, [.int c1, .int c2, .int c3, .long c4]))] ++ pool G cI Pg S) := hD
      replace hK : va_K (dC, dI) vwCl [(cO, .object RX4), (cI, .int)] s := hK
      have hw_r_10 := hw
      have hP9 := hP.part (cx := [(ax, .inr (8, [.ref hd, .ref hf, .ref hs, .ref hp, .ref he, .ref q0, .ref q1, .ref qk, .int lt2_11, .long fx2_12, .int dn2_13])), (hd, .inr (0, [.int (nI w), .int (nI b), .int wr, .ref qc, .ref qi, .int wa, .int wc])), (hf, .inr (2, [.int dp2_14, .ref qp, .ref qe, .ref ql, .int (nI lo2_15), .int (nI le2_16)])), (qp, .inl (cO, b, .inr (.inr (.inr (.inr fp))))), MA9 ql cI b fl2_17, (q0, .inr (7, [.int a1, .int a2, .int a3, .long a4])), (q1, .inr (7, [.int b1, .int b2, .int b3, .long b4])), (qk, .inr (7, [.int c1, .int c2, .int c3, .long c4]))]) [0, 1, 2, 3, 4, 5, 6, 7] rfl
      have hD9 := hD.part (cx := [(ax, .inr (8, [.ref hd, .ref hf, .ref hs, .ref hp, .ref he, .ref q0, .ref q1, .ref qk, .int lt2_11, .long fx2_12, .int dn2_13])), (hd, .inr (0, [.int (nI w), .int (nI b), .int wr, .ref qc, .ref qi, .int wa, .int wc])), (hf, .inr (2, [.int dp2_14, .ref qp, .ref qe, .ref ql, .int (nI lo2_15), .int (nI le2_16)])), (qp, .inl (cO, b, .inr (.inr (.inr (.inr fp))))), MA9 ql cI b fl2_17, (q0, .inr (7, [.int a1, .int a2, .int a3, .long a4])), (q1, .inr (7, [.int b1, .int b2, .int b3, .long b4])), (qk, .inr (7, [.int c1, .int c2, .int c3, .long c4]))]) [0, 1, 2, 3, 4, 5, 6, 7] (by decide) rfl
      have hK9 := hK.sub (tys' := [(cO, .object RX4), (cI, .int)]) [0, 1] rfl
      exact W.iret (v := r_10) hx hb hr (fun t ht hW => ⟨⟨r_10, (lt2_11, fx2_12, dn2_13, dp2_14, lo2_15, le2_16, fl2_17), rfl, (by first | assumption | exact hw.2 | exact hw.2.1 | exact hw | exact Or.inl rfl | exact Or.inr rfl), by rw [ht]; exact hP9, va_K.moved hW.alike hK9, hD9⟩, hS.F ht⟩) hS.2.2 dX8_count_112
    · refine lv_iconst (v := 0) hx hb dX8_count_103 (by decide) ?_
      refine lv_goto (tgt := 112) hx hb dX8_count_104 (by decide) ?_
      have hP9 := hP.part (cx := [(ax, .inr (8, [.ref hd, .ref hf, .ref hs, .ref hp, .ref he, .ref q0, .ref q1, .ref qk, .int 0, .long fx, .int dn])), (hd, .inr (0, [.int (nI w), .int (nI b), .int wr, .ref qc, .ref qi, .int wa, .int wc])), (hf, .inr (2, [.int dp, .ref qp, .ref qe, .ref ql, .int (nI lo), .int (nI le)])), (qp, .inl (cO, b, .inr (.inr (.inr (.inr fp))))), MA9 ql cI b fl, (q0, .inr (7, [.int a1, .int a2, .int a3, .long a4])), (q1, .inr (7, [.int b1, .int b2, .int b3, .long b4])), (qk, .inr (7, [.int c1, .int c2, .int c3, .long c4]))]) [0, 1, 2, 3, 4, 5, 6, 7] rfl
      have hD9 := hD.part (cx := [(ax, .inr (8, [.ref hd, .ref hf, .ref hs, .ref hp, .ref he, .ref q0, .ref q1, .ref qk, .int 0, .long fx, .int dn])), (hd, .inr (0, [.int (nI w), .int (nI b), .int wr, .ref qc, .ref qi, .int wa, .int wc])), (hf, .inr (2, [.int dp, .ref qp, .ref qe, .ref ql, .int (nI lo), .int (nI le)])), (qp, .inl (cO, b, .inr (.inr (.inr (.inr fp))))), MA9 ql cI b fl, (q0, .inr (7, [.int a1, .int a2, .int a3, .long a4])), (q1, .inr (7, [.int b1, .int b2, .int b3, .long b4])), (qk, .inr (7, [.int c1, .int c2, .int c3, .long c4]))]) [0, 1, 2, 3, 4, 5, 6, 7] (by decide) rfl
      have hK9 := hK.sub (tys' := [(cO, .object RX4), (cI, .int)]) [0, 1] rfl
      exact W.iret (v := 0) hx hb hr (fun t ht hW => ⟨⟨0, (0, fx, dn, dp, lo, le, fl), rfl, (by first | assumption | exact hw.2 | exact hw.2.1 | exact hw | exact Or.inl rfl | exact Or.inr rfl), by rw [ht]; exact hP9, va_K.moved hW.alike hK9, hD9⟩, hS.F ht⟩) hS.2.2 dX8_count_112
  · replace hP : va_P (dC, dI) vwCl ([(ax, .inr (8, [.ref hd, .ref hf, .ref hs, .ref hp, .ref he, .ref q0, .ref q1, .ref qk, .int 1, .long fx, .int dn])), (hd, .inr (0, [.int (nI w), .int (nI b), .int wr, .ref qc, .ref qi, .int wa, .int wc])), (hf, .inr (2, [.int dp, .ref qp, .ref qe, .ref ql, .int (nI lo), .int (nI le)])), (qp, .inl (cO, b, .inr (.inr (.inr (.inr fp))))), MA9 ql cI b fl, (q0, .inr (7, [.int a1, .int a2, .int a3, .long a4])), (q1, .inr (7, [.int b1, .int b2, .int b3, .long b4])), (qk, .inr (7, [.int c1, .int c2, .int c3, .long c4]))] ++ pool G cI Pg S) s.heap := hP
    replace hD : va_D A ([(ax, .inr (8, [.ref hd, .ref hf, .ref hs, .ref hp, .ref he, .ref q0, .ref q1, .ref qk, .int 1, .long fx, .int dn])), (hd, .inr (0, [.int (nI w), .int (nI b), .int wr, .ref qc, .ref qi, .int wa, .int wc])), (hf, .inr (2, [.int dp, .ref qp, .ref qe, .ref ql, .int (nI lo), .int (nI le)])), (qp, .inl (cO, b, .inr (.inr (.inr (.inr fp))))), MA9 ql cI b fl, (q0, .inr (7, [.int a1, .int a2, .int a3, .long a4])), (q1, .inr (7, [.int b1, .int b2, .int b3, .long b4])), (qk, .inr (7, [.int c1, .int c2, .int c3, .long c4]))] ++ pool G cI Pg S) := hD
    refine lv_iload_n hx hb dX8_count_0 rfl (lv_at hl 1 rfl) ?_
    by_cases h_18 : p0 = 0
    · refine lv_tableIn (off := 35) (tgt := 36) hx hb dX8_count_1 (by rw [h_18]; decide) (by rw [h_18]; decide) (by rw [h_18]; decide) (by decide) ?_
      refine lv_aload_n hx hb dX8_count_36 rfl (lv_at hl 0 rfl) ?_
      refine va_get (D := (dC, dI)) (ci := 8) (v := .ref hd) (C := RX8) (T := TX8) (N := 11) hx hb hts k_1 hown hK hP 0 rfl rfl 0 (by decide) k_2 (fun _ h9 => h9) rfl dX8_count_37 ?_
      refine va_get (D := (dC, dI)) (ci := 0) (v := .int (nI b)) (C := RX0) (T := TX0) (N := 7) hx hb hts k_3 hown hK hP 1 rfl rfl 1 (by decide) k_4 (fun _ h9 => h9) rfl dX8_count_40 ?_
      have hP9 := hP.part (cx := [(ax, .inr (8, [.ref hd, .ref hf, .ref hs, .ref hp, .ref he, .ref q0, .ref q1, .ref qk, .int 1, .long fx, .int dn])), (hd, .inr (0, [.int (nI w), .int (nI b), .int wr, .ref qc, .ref qi, .int wa, .int wc])), (hf, .inr (2, [.int dp, .ref qp, .ref qe, .ref ql, .int (nI lo), .int (nI le)])), (qp, .inl (cO, b, .inr (.inr (.inr (.inr fp))))), MA9 ql cI b fl, (q0, .inr (7, [.int a1, .int a2, .int a3, .long a4])), (q1, .inr (7, [.int b1, .int b2, .int b3, .long b4])), (qk, .inr (7, [.int c1, .int c2, .int c3, .long c4]))]) [0, 1, 2, 3, 4, 5, 6, 7] rfl
      have hD9 := hD.part (cx := [(ax, .inr (8, [.ref hd, .ref hf, .ref hs, .ref hp, .ref he, .ref q0, .ref q1, .ref qk, .int 1, .long fx, .int dn])), (hd, .inr (0, [.int (nI w), .int (nI b), .int wr, .ref qc, .ref qi, .int wa, .int wc])), (hf, .inr (2, [.int dp, .ref qp, .ref qe, .ref ql, .int (nI lo), .int (nI le)])), (qp, .inl (cO, b, .inr (.inr (.inr (.inr fp))))), MA9 ql cI b fl, (q0, .inr (7, [.int a1, .int a2, .int a3, .long a4])), (q1, .inr (7, [.int b1, .int b2, .int b3, .long b4])), (qk, .inr (7, [.int c1, .int c2, .int c3, .long c4]))]) [0, 1, 2, 3, 4, 5, 6, 7] (by decide) rfl
      have hK9 := hK.sub (tys' := [(cO, .object RX4), (cI, .int)]) [0, 1] rfl
      exact W.iret (v := (nI b)) hx hb hr (fun t ht hW => ⟨⟨(nI b), (1, fx, dn, dp, lo, le, fl), rfl, (by first | assumption | exact hw.2 | exact hw.2.1 | exact hw | exact Or.inl rfl | exact Or.inr rfl), by rw [ht]; exact hP9, va_K.moved hW.alike hK9, hD9⟩, hS.F ht⟩) hS.2.2 dX8_count_43
    by_cases h_19 : p0 = 1
    · refine lv_tableIn (off := 43) (tgt := 44) hx hb dX8_count_1 (by rw [h_19]; decide) (by rw [h_19]; decide) (by rw [h_19]; decide) (by decide) ?_
      refine lv_aload_n hx hb dX8_count_44 rfl (lv_at hl 0 rfl) ?_
      refine va_get (D := (dC, dI)) (ci := 8) (v := .ref hd) (C := RX8) (T := TX8) (N := 11) hx hb hts k_1 hown hK hP 0 rfl rfl 0 (by decide) k_2 (fun _ h9 => h9) rfl dX8_count_45 ?_
      refine va_get (D := (dC, dI)) (ci := 0) (v := .int (nI w)) (C := RX0) (T := TX0) (N := 7) hx hb hts k_3 hown hK hP 1 rfl rfl 0 (by decide) k_5 (fun _ h9 => h9) rfl dX8_count_48 ?_
      have hP9 := hP.part (cx := [(ax, .inr (8, [.ref hd, .ref hf, .ref hs, .ref hp, .ref he, .ref q0, .ref q1, .ref qk, .int 1, .long fx, .int dn])), (hd, .inr (0, [.int (nI w), .int (nI b), .int wr, .ref qc, .ref qi, .int wa, .int wc])), (hf, .inr (2, [.int dp, .ref qp, .ref qe, .ref ql, .int (nI lo), .int (nI le)])), (qp, .inl (cO, b, .inr (.inr (.inr (.inr fp))))), MA9 ql cI b fl, (q0, .inr (7, [.int a1, .int a2, .int a3, .long a4])), (q1, .inr (7, [.int b1, .int b2, .int b3, .long b4])), (qk, .inr (7, [.int c1, .int c2, .int c3, .long c4]))]) [0, 1, 2, 3, 4, 5, 6, 7] rfl
      have hD9 := hD.part (cx := [(ax, .inr (8, [.ref hd, .ref hf, .ref hs, .ref hp, .ref he, .ref q0, .ref q1, .ref qk, .int 1, .long fx, .int dn])), (hd, .inr (0, [.int (nI w), .int (nI b), .int wr, .ref qc, .ref qi, .int wa, .int wc])), (hf, .inr (2, [.int dp, .ref qp, .ref qe, .ref ql, .int (nI lo), .int (nI le)])), (qp, .inl (cO, b, .inr (.inr (.inr (.inr fp))))), MA9 ql cI b fl, (q0, .inr (7, [.int a1, .int a2, .int a3, .long a4])), (q1, .inr (7, [.int b1, .int b2, .int b3, .long b4])), (qk, .inr (7, [.int c1, .int c2, .int c3, .long c4]))]) [0, 1, 2, 3, 4, 5, 6, 7] (by decide) rfl
      have hK9 := hK.sub (tys' := [(cO, .object RX4), (cI, .int)]) [0, 1] rfl
      exact W.iret (v := (nI w)) hx hb hr (fun t ht hW => ⟨⟨(nI w), (1, fx, dn, dp, lo, le, fl), rfl, (by first | assumption | exact hw.2 | exact hw.2.1 | exact hw | exact Or.inl rfl | exact Or.inr rfl), by rw [ht]; exact hP9, va_K.moved hW.alike hK9, hD9⟩, hS.F ht⟩) hS.2.2 dX8_count_51
    by_cases h_20 : p0 = 2
    · refine lv_tableIn (off := 51) (tgt := 52) hx hb dX8_count_1 (by rw [h_20]; decide) (by rw [h_20]; decide) (by rw [h_20]; decide) (by decide) ?_
      refine lv_aload_n hx hb dX8_count_52 rfl (lv_at hl 0 rfl) ?_
      refine va_get (D := (dC, dI)) (ci := 8) (v := .ref hd) (C := RX8) (T := TX8) (N := 11) hx hb hts k_1 hown hK hP 0 rfl rfl 0 (by decide) k_2 (fun _ h9 => h9) rfl dX8_count_53 ?_
      refine va_get (D := (dC, dI)) (ci := 0) (v := .int wr) (C := RX0) (T := TX0) (N := 7) hx hb hts k_3 hown hK hP 1 rfl rfl 2 (by decide) k_6 (fun _ h9 => h9) rfl dX8_count_56 ?_
      have hP9 := hP.part (cx := [(ax, .inr (8, [.ref hd, .ref hf, .ref hs, .ref hp, .ref he, .ref q0, .ref q1, .ref qk, .int 1, .long fx, .int dn])), (hd, .inr (0, [.int (nI w), .int (nI b), .int wr, .ref qc, .ref qi, .int wa, .int wc])), (hf, .inr (2, [.int dp, .ref qp, .ref qe, .ref ql, .int (nI lo), .int (nI le)])), (qp, .inl (cO, b, .inr (.inr (.inr (.inr fp))))), MA9 ql cI b fl, (q0, .inr (7, [.int a1, .int a2, .int a3, .long a4])), (q1, .inr (7, [.int b1, .int b2, .int b3, .long b4])), (qk, .inr (7, [.int c1, .int c2, .int c3, .long c4]))]) [0, 1, 2, 3, 4, 5, 6, 7] rfl
      have hD9 := hD.part (cx := [(ax, .inr (8, [.ref hd, .ref hf, .ref hs, .ref hp, .ref he, .ref q0, .ref q1, .ref qk, .int 1, .long fx, .int dn])), (hd, .inr (0, [.int (nI w), .int (nI b), .int wr, .ref qc, .ref qi, .int wa, .int wc])), (hf, .inr (2, [.int dp, .ref qp, .ref qe, .ref ql, .int (nI lo), .int (nI le)])), (qp, .inl (cO, b, .inr (.inr (.inr (.inr fp))))), MA9 ql cI b fl, (q0, .inr (7, [.int a1, .int a2, .int a3, .long a4])), (q1, .inr (7, [.int b1, .int b2, .int b3, .long b4])), (qk, .inr (7, [.int c1, .int c2, .int c3, .long c4]))]) [0, 1, 2, 3, 4, 5, 6, 7] (by decide) rfl
      have hK9 := hK.sub (tys' := [(cO, .object RX4), (cI, .int)]) [0, 1] rfl
      exact W.iret (v := wr) hx hb hr (fun t ht hW => ⟨⟨wr, (1, fx, dn, dp, lo, le, fl), rfl, (by first | assumption | exact hw.2 | exact hw.2.1 | exact hw | exact Or.inl rfl | exact Or.inr rfl), by rw [ht]; exact hP9, va_K.moved hW.alike hK9, hD9⟩, hS.F ht⟩) hS.2.2 dX8_count_59
    by_cases h_21 : p0 = 3
    · refine lv_tableIn (off := 59) (tgt := 60) hx hb dX8_count_1 (by rw [h_21]; decide) (by rw [h_21]; decide) (by rw [h_21]; decide) (by decide) ?_
      refine lv_aload_n hx hb dX8_count_60 rfl (lv_at hl 0 rfl) ?_
      refine va_get (D := (dC, dI)) (ci := 8) (v := .int dn) (C := RX8) (T := TX8) (N := 11) hx hb hts k_1 hown hK hP 0 rfl rfl 10 (by decide) k_7 (fun _ h9 => h9) rfl dX8_count_61 ?_
      refine lv_if_eq (tgt := 71) hx hb dX8_count_64 (by decide) (fun c_22 => ?_) (fun c_22 => ?_)
      · refine lv_iconst (v := 0) hx hb dX8_count_71 (by decide) ?_
        have hP9 := hP.part (cx := [(ax, .inr (8, [.ref hd, .ref hf, .ref hs, .ref hp, .ref he, .ref q0, .ref q1, .ref qk, .int 1, .long fx, .int dn])), (hd, .inr (0, [.int (nI w), .int (nI b), .int wr, .ref qc, .ref qi, .int wa, .int wc])), (hf, .inr (2, [.int dp, .ref qp, .ref qe, .ref ql, .int (nI lo), .int (nI le)])), (qp, .inl (cO, b, .inr (.inr (.inr (.inr fp))))), MA9 ql cI b fl, (q0, .inr (7, [.int a1, .int a2, .int a3, .long a4])), (q1, .inr (7, [.int b1, .int b2, .int b3, .long b4])), (qk, .inr (7, [.int c1, .int c2, .int c3, .long c4]))]) [0, 1, 2, 3, 4, 5, 6, 7] rfl
        have hD9 := hD.part (cx := [(ax, .inr (8, [.ref hd, .ref hf, .ref hs, .ref hp, .ref he, .ref q0, .ref q1, .ref qk, .int 1, .long fx, .int dn])), (hd, .inr (0, [.int (nI w), .int (nI b), .int wr, .ref qc, .ref qi, .int wa, .int wc])), (hf, .inr (2, [.int dp, .ref qp, .ref qe, .ref ql, .int (nI lo), .int (nI le)])), (qp, .inl (cO, b, .inr (.inr (.inr (.inr fp))))), MA9 ql cI b fl, (q0, .inr (7, [.int a1, .int a2, .int a3, .long a4])), (q1, .inr (7, [.int b1, .int b2, .int b3, .long b4])), (qk, .inr (7, [.int c1, .int c2, .int c3, .long c4]))]) [0, 1, 2, 3, 4, 5, 6, 7] (by decide) rfl
        have hK9 := hK.sub (tys' := [(cO, .object RX4), (cI, .int)]) [0, 1] rfl
        exact W.iret (v := 0) hx hb hr (fun t ht hW => ⟨⟨0, (1, fx, dn, dp, lo, le, fl), rfl, (by first | assumption | exact hw.2 | exact hw.2.1 | exact hw | exact Or.inl rfl | exact Or.inr rfl), by rw [ht]; exact hP9, va_K.moved hW.alike hK9, hD9⟩, hS.F ht⟩) hS.2.2 dX8_count_72
      · refine lv_iconst (v := 1) hx hb dX8_count_67 (by decide) ?_
        refine lv_goto (tgt := 72) hx hb dX8_count_68 (by decide) ?_
        have hP9 := hP.part (cx := [(ax, .inr (8, [.ref hd, .ref hf, .ref hs, .ref hp, .ref he, .ref q0, .ref q1, .ref qk, .int 1, .long fx, .int dn])), (hd, .inr (0, [.int (nI w), .int (nI b), .int wr, .ref qc, .ref qi, .int wa, .int wc])), (hf, .inr (2, [.int dp, .ref qp, .ref qe, .ref ql, .int (nI lo), .int (nI le)])), (qp, .inl (cO, b, .inr (.inr (.inr (.inr fp))))), MA9 ql cI b fl, (q0, .inr (7, [.int a1, .int a2, .int a3, .long a4])), (q1, .inr (7, [.int b1, .int b2, .int b3, .long b4])), (qk, .inr (7, [.int c1, .int c2, .int c3, .long c4]))]) [0, 1, 2, 3, 4, 5, 6, 7] rfl
        have hD9 := hD.part (cx := [(ax, .inr (8, [.ref hd, .ref hf, .ref hs, .ref hp, .ref he, .ref q0, .ref q1, .ref qk, .int 1, .long fx, .int dn])), (hd, .inr (0, [.int (nI w), .int (nI b), .int wr, .ref qc, .ref qi, .int wa, .int wc])), (hf, .inr (2, [.int dp, .ref qp, .ref qe, .ref ql, .int (nI lo), .int (nI le)])), (qp, .inl (cO, b, .inr (.inr (.inr (.inr fp))))), MA9 ql cI b fl, (q0, .inr (7, [.int a1, .int a2, .int a3, .long a4])), (q1, .inr (7, [.int b1, .int b2, .int b3, .long b4])), (qk, .inr (7, [.int c1, .int c2, .int c3, .long c4]))]) [0, 1, 2, 3, 4, 5, 6, 7] (by decide) rfl
        have hK9 := hK.sub (tys' := [(cO, .object RX4), (cI, .int)]) [0, 1] rfl
        exact W.iret (v := 1) hx hb hr (fun t ht hW => ⟨⟨1, (1, fx, dn, dp, lo, le, fl), rfl, (by first | assumption | exact hw.2 | exact hw.2.1 | exact hw | exact Or.inl rfl | exact Or.inr rfl), by rw [ht]; exact hP9, va_K.moved hW.alike hK9, hD9⟩, hS.F ht⟩) hS.2.2 dX8_count_72
    by_cases h_23 : p0 = 4
    · refine lv_tableIn (off := 72) (tgt := 73) hx hb dX8_count_1 (by rw [h_23]; decide) (by rw [h_23]; decide) (by rw [h_23]; decide) (by decide) ?_
      refine lv_aload_n hx hb dX8_count_73 rfl (lv_at hl 0 rfl) ?_
      refine va_get (D := (dC, dI)) (ci := 8) (v := .int dn) (C := RX8) (T := TX8) (N := 11) hx hb hts k_1 hown hK hP 0 rfl rfl 10 (by decide) k_7 (fun _ h9 => h9) rfl dX8_count_74 ?_
      refine lv_if_eq (tgt := 84) hx hb dX8_count_77 (by decide) (fun c_24 => ?_) (fun c_24 => ?_)
      · refine lv_aload_n hx hb dX8_count_84 rfl (lv_at hl 0 rfl) ?_
        refine lv_aload_n hx hb dX8_count_85 rfl (lv_at hl 0 rfl) ?_
        refine va_get (D := (dC, dI)) (ci := 8) (v := .int 1) (C := RX8) (T := TX8) (N := 11) hx hb hts k_1 hown hK hP 0 rfl rfl 8 (by decide) k_8 (fun _ h9 => h9) rfl dX8_count_86 ?_
        have hPc := hP.sub (ws' := [(ax, .inr (8, [.ref hd, .ref hf, .ref hs, .ref hp, .ref he, .ref q0, .ref q1, .ref qk, .int 1, .long fx, .int dn]))]) [0] rfl
        have hDc := hD.sub (ws' := [(ax, .inr (8, [.ref hd, .ref hf, .ref hs, .ref hp, .ref he, .ref q0, .ref q1, .ref qk, .int 1, .long fx, .int dn]))]) [0] (by decide) rfl
        have hKc := hK.sub (tys' := []) [] rfl
        have hFc := va_free (wc := [(ax, .inr (8, [.ref hd, .ref hf, .ref hs, .ref hp, .ref he, .ref q0, .ref q1, .ref qk, .int 1, .long fx, .int dn]))]) hD hS hA [0] rfl
        refine va_callr (va_runV (As := [.int 1]) (rest := []) ⟨hx, hb, hml, hown, hts⟩ (c_X8_told_1 l dC dI s.heap.size ax hd hf hs hp he q0 q1 qk 1 dn fx) (cwV 1 hts g_X8_count_X8_told_1 rfl rfl rfl (by decide +kernel) ⟨Nat.le_of_ble_eq_true rfl, Nat.le_of_ble_eq_true rfl⟩) ⟨fun a U g mk q => by obtain ⟨q0, q1, qP, qK, qD⟩ := q; exact ⟨q0, q1, qP, va_K.moved (u := U) (U := U.calling g mk a) (Vm.Alike.refl U.vm) qK, qD⟩, va_recv hKc hPc (ci := 8) (q0 := 0) rfl rfl, fun U hU hW => ⟨rfl, by rw [hU], by rw [hU]; exact hPc, va_K.moved hW.alike hKc, hDc.weaken (fun _ _ _ _ => trivial)⟩⟩ rfl rfl hl.1 rfl (lv_room (Nat.le_of_ble_eq_true rfl)) dX8_count_89 ⟨(show 0 + 0 ≤ 0 by omega), (show 0 + 0 ≤ 0 by omega)⟩) hS (fun q _ h => hFc q h) hFc (fun u r_25 t H1 locs ht hvm hw hB hz1 hk1 hS9 => ?_)
        replace hS := hS9
        clear hS9
        obtain ⟨hra, hP1, hK1, hD1⟩ := hB
        have hra := hra.symm
        subst hra
        rw [ht] at hP1
        replace hK1 := va_K.moved hvm.symm hK1
        try dsimp only at hw
        obtain ⟨hP9, hD9⟩ := va_joinQ (wr := [(hd, .inr (0, [.int (nI w), .int (nI b), .int wr, .ref qc, .ref qi, .int wa, .int wc])), (hf, .inr (2, [.int dp, .ref qp, .ref qe, .ref ql, .int (nI lo), .int (nI le)])), (qp, .inl (cO, b, .inr (.inr (.inr (.inr fp))))), MA9 ql cI b fl, (q0, .inr (7, [.int a1, .int a2, .int a3, .long a4])), (q1, .inr (7, [.int b1, .int b2, .int b3, .long b4])), (qk, .inr (7, [.int c1, .int c2, .int c3, .long c4]))]) (w1 := [(ax, .inr (8, [.ref hd, .ref hf, .ref hs, .ref hp, .ref he, .ref q0, .ref q1, .ref qk, .int 1, .long fx, .int dn]))]) hP hD [0] [1, 2, 3, 4, 5, 6, 7] rfl rfl (by decide) (by decide) hk1 hFc hP1 hD1
        replace hP := hP9
        replace hD := hD9
        clear hP9 hD9
        replace hK := (hK.sub (tys' := [(cO, .object RX4), (cI, .int)]) [0, 1] rfl).app hK1
        replace hK : va_K (dC, dI) vwCl [(cO, .object RX4), (cI, .int)] s := hK.sub [0, 1] rfl
        clear hP1 hD1 hK1 hPc hDc hKc hFc hk1 hz1 hvm ht
        generalize H1 = H at hP hS ⊢
        replace hP : va_P (dC, dI) vwCl ([(hd, .inr (0, [.int (nI w), .int (nI b), .int wr, .ref qc, .ref qi, .int wa, .int wc])), (hf, .inr (2, [.int dp, .ref qp, .ref qe, .ref ql, .int (nI lo), .int (nI le)])), (qp, .inl (cO, b, .inr (.inr (.inr (.inr fp))))), MA9 ql cI b fl, (q0, .inr (7, [.int a1, .int a2, .int a3, .long a4])), (q1, .inr (7, [.int b1, .int b2, .int b3, .long b4])), (qk, .inr (7, [.int c1, .int c2, .int c3, .long c4])), (ax, .inr (8, [.ref hd, .ref hf, .ref hs, .ref hp, .ref he, .ref q0, .ref q1, .ref qk, .int 1, .long fx, .int dn]))] ++ pool G cI Pg S) H := hP
        replace hD : va_D A ([(hd, .inr (0, [.int (nI w), .int (nI b), .int wr, .ref qc, .ref qi, .int wa, .int wc])), (hf, .inr (2, [.int dp, .ref qp, .ref qe, .ref ql, .int (nI lo), .int (nI le)])), (qp, .inl (cO, b, .inr (.inr (.inr (.inr fp))))), MA9 ql cI b fl, (q0, .inr (7, [.int a1, .int a2, .int a3, .long a4])), (q1, .inr (7, [.int b1, .int b2, .int b3, .long b4])), (qk, .inr (7, [.int c1, .int c2, .int c3, .long c4])), (ax, .inr (8, [.ref hd, .ref hf, .ref hs, .ref hp, .ref he, .ref q0, .ref q1, .ref qk, .int 1, .long fx, .int dn]))] ++ pool G cI Pg S) := hD
        replace hK : va_K (dC, dI) vwCl [(cO, .object RX4), (cI, .int)] s := hK
        refine va_get (D := (dC, dI)) (ci := 7) (v := .int b1) (C := RX7) (T := TX7) (N := 4) hx hb hts k_9 hown hK hP 5 rfl rfl 0 (by decide) k_10 (fun _ h9 => h9) rfl dX8_count_92 ?_
        have hP9 := hP.part (cx := [(ax, .inr (8, [.ref hd, .ref hf, .ref hs, .ref hp, .ref he, .ref q0, .ref q1, .ref qk, .int 1, .long fx, .int dn])), (hd, .inr (0, [.int (nI w), .int (nI b), .int wr, .ref qc, .ref qi, .int wa, .int wc])), (hf, .inr (2, [.int dp, .ref qp, .ref qe, .ref ql, .int (nI lo), .int (nI le)])), (qp, .inl (cO, b, .inr (.inr (.inr (.inr fp))))), MA9 ql cI b fl, (q0, .inr (7, [.int a1, .int a2, .int a3, .long a4])), (q1, .inr (7, [.int b1, .int b2, .int b3, .long b4])), (qk, .inr (7, [.int c1, .int c2, .int c3, .long c4]))]) [7, 0, 1, 2, 3, 4, 5, 6] rfl
        have hD9 := hD.part (cx := [(ax, .inr (8, [.ref hd, .ref hf, .ref hs, .ref hp, .ref he, .ref q0, .ref q1, .ref qk, .int 1, .long fx, .int dn])), (hd, .inr (0, [.int (nI w), .int (nI b), .int wr, .ref qc, .ref qi, .int wa, .int wc])), (hf, .inr (2, [.int dp, .ref qp, .ref qe, .ref ql, .int (nI lo), .int (nI le)])), (qp, .inl (cO, b, .inr (.inr (.inr (.inr fp))))), MA9 ql cI b fl, (q0, .inr (7, [.int a1, .int a2, .int a3, .long a4])), (q1, .inr (7, [.int b1, .int b2, .int b3, .long b4])), (qk, .inr (7, [.int c1, .int c2, .int c3, .long c4]))]) [7, 0, 1, 2, 3, 4, 5, 6] (by decide) rfl
        have hK9 := hK.sub (tys' := [(cO, .object RX4), (cI, .int)]) [0, 1] rfl
        exact W.iret (v := b1) hx hb hr (fun t ht hW => ⟨⟨b1, (1, fx, dn, dp, lo, le, fl), rfl, (by first | assumption | exact hw.2 | exact hw.2.1 | exact hw | exact Or.inl rfl | exact Or.inr rfl), by rw [ht]; exact hP9, va_K.moved hW.alike hK9, hD9⟩, hS.F ht⟩) hS.2.2 dX8_count_95
      · refine lv_iconst (v := -1) hx hb dX8_count_80 (by decide) ?_
        refine lv_goto (tgt := 95) hx hb dX8_count_81 (by decide) ?_
        have hP9 := hP.part (cx := [(ax, .inr (8, [.ref hd, .ref hf, .ref hs, .ref hp, .ref he, .ref q0, .ref q1, .ref qk, .int 1, .long fx, .int dn])), (hd, .inr (0, [.int (nI w), .int (nI b), .int wr, .ref qc, .ref qi, .int wa, .int wc])), (hf, .inr (2, [.int dp, .ref qp, .ref qe, .ref ql, .int (nI lo), .int (nI le)])), (qp, .inl (cO, b, .inr (.inr (.inr (.inr fp))))), MA9 ql cI b fl, (q0, .inr (7, [.int a1, .int a2, .int a3, .long a4])), (q1, .inr (7, [.int b1, .int b2, .int b3, .long b4])), (qk, .inr (7, [.int c1, .int c2, .int c3, .long c4]))]) [0, 1, 2, 3, 4, 5, 6, 7] rfl
        have hD9 := hD.part (cx := [(ax, .inr (8, [.ref hd, .ref hf, .ref hs, .ref hp, .ref he, .ref q0, .ref q1, .ref qk, .int 1, .long fx, .int dn])), (hd, .inr (0, [.int (nI w), .int (nI b), .int wr, .ref qc, .ref qi, .int wa, .int wc])), (hf, .inr (2, [.int dp, .ref qp, .ref qe, .ref ql, .int (nI lo), .int (nI le)])), (qp, .inl (cO, b, .inr (.inr (.inr (.inr fp))))), MA9 ql cI b fl, (q0, .inr (7, [.int a1, .int a2, .int a3, .long a4])), (q1, .inr (7, [.int b1, .int b2, .int b3, .long b4])), (qk, .inr (7, [.int c1, .int c2, .int c3, .long c4]))]) [0, 1, 2, 3, 4, 5, 6, 7] (by decide) rfl
        have hK9 := hK.sub (tys' := [(cO, .object RX4), (cI, .int)]) [0, 1] rfl
        exact W.iret (v := (-1)) hx hb hr (fun t ht hW => ⟨⟨(-1), (1, fx, dn, dp, lo, le, fl), rfl, (by first | assumption | exact hw.2 | exact hw.2.1 | exact hw | exact Or.inl rfl | exact Or.inr rfl), by rw [ht]; exact hP9, va_K.moved hW.alike hK9, hD9⟩, hS.F ht⟩) hS.2.2 dX8_count_95
    have th_18 : ¬ p0.toInt = 0 := lv_neT h_18 (by decide)
    have th_19 : ¬ p0.toInt = 1 := lv_neT h_19 (by decide)
    have th_20 : ¬ p0.toInt = 2 := lv_neT h_20 (by decide)
    have th_21 : ¬ p0.toInt = 3 := lv_neT h_21 (by decide)
    have th_23 : ¬ p0.toInt = 4 := lv_neT h_23 (by decide)
    refine lv_tableOut (tgt := 96) hx hb dX8_count_1 (by omega) (by decide) ?_
    refine lv_aload_n hx hb dX8_count_96 rfl (lv_at hl 0 rfl) ?_
    refine va_get (D := (dC, dI)) (ci := 8) (v := .int dn) (C := RX8) (T := TX8) (N := 11) hx hb hts k_1 hown hK hP 0 rfl rfl 10 (by decide) k_7 (fun _ h9 => h9) rfl dX8_count_97 ?_
    refine lv_if_eq (tgt := 107) hx hb dX8_count_100 (by decide) (fun c_26 => ?_) (fun c_26 => ?_)
    · refine lv_aload_n hx hb dX8_count_107 rfl (lv_at hl 0 rfl) ?_
      refine lv_iload_n hx hb dX8_count_108 rfl (lv_at hl 1 rfl) ?_
      have hPc := hP.part (cx := [(ax, .inr (8, [.ref hd, .ref hf, .ref hs, .ref hp, .ref he, .ref q0, .ref q1, .ref qk, .int 1, .long fx, .int dn])), (hd, .inr (0, [.int (nI w), .int (nI b), .int wr, .ref qc, .ref qi, .int wa, .int wc])), (hf, .inr (2, [.int dp, .ref qp, .ref qe, .ref ql, .int (nI lo), .int (nI le)])), (qp, .inl (cO, b, .inr (.inr (.inr (.inr fp))))), MA9 ql cI b fl, (q0, .inr (7, [.int a1, .int a2, .int a3, .long a4])), (q1, .inr (7, [.int b1, .int b2, .int b3, .long b4])), (qk, .inr (7, [.int c1, .int c2, .int c3, .long c4]))]) [0, 1, 2, 3, 4, 5, 6, 7] rfl
      have hDc := hD.part (cx := [(ax, .inr (8, [.ref hd, .ref hf, .ref hs, .ref hp, .ref he, .ref q0, .ref q1, .ref qk, .int 1, .long fx, .int dn])), (hd, .inr (0, [.int (nI w), .int (nI b), .int wr, .ref qc, .ref qi, .int wa, .int wc])), (hf, .inr (2, [.int dp, .ref qp, .ref qe, .ref ql, .int (nI lo), .int (nI le)])), (qp, .inl (cO, b, .inr (.inr (.inr (.inr fp))))), MA9 ql cI b fl, (q0, .inr (7, [.int a1, .int a2, .int a3, .long a4])), (q1, .inr (7, [.int b1, .int b2, .int b3, .long b4])), (qk, .inr (7, [.int c1, .int c2, .int c3, .long c4]))]) [0, 1, 2, 3, 4, 5, 6, 7] (by decide) rfl
      have hFc := va_freeP (cx := [(ax, .inr (8, [.ref hd, .ref hf, .ref hs, .ref hp, .ref he, .ref q0, .ref q1, .ref qk, .int 1, .long fx, .int dn])), (hd, .inr (0, [.int (nI w), .int (nI b), .int wr, .ref qc, .ref qi, .int wa, .int wc])), (hf, .inr (2, [.int dp, .ref qp, .ref qe, .ref ql, .int (nI lo), .int (nI le)])), (qp, .inl (cO, b, .inr (.inr (.inr (.inr fp))))), MA9 ql cI b fl, (q0, .inr (7, [.int a1, .int a2, .int a3, .long a4])), (q1, .inr (7, [.int b1, .int b2, .int b3, .long b4])), (qk, .inr (7, [.int c1, .int c2, .int c3, .long c4]))]) hD hS hA [0, 1, 2, 3, 4, 5, 6, 7] rfl
      have hKc := hK.sub (tys' := [(cO, .object RX4), (cI, .int)]) [0, 1] rfl
      refine va_calli (va_runV (As := [.int p0]) (rest := []) ⟨hx, hb, hml, hown, hts⟩ (c_X8_countWhenUp l dC dI s.heap.size ax hd hf hs hp he q0 q1 qk qc qi qp qe ql w b lo le 1 dn wr wa wc dp a1 a2 a3 b1 b2 b3 c1 c2 c3 fx a4 b4 c4 fl fp cI cO G Pg S p0 (by first | assumption | omega | decide) (by first | assumption | omega | decide) (by first | assumption | omega | decide) (by first | assumption | omega | decide) (by first | assumption | omega | decide) (by first | assumption | omega | decide) (by first | assumption | omega | decide) (by first | assumption | omega | decide) (by first | assumption | omega | decide) (by first | assumption | omega | decide)) (cwV 1 hts g_X8_count_X8_countWhenUp rfl rfl rfl (by decide +kernel) ⟨Nat.le_of_ble_eq_true rfl, Nat.le_of_ble_eq_true rfl⟩) ⟨fun a U g mk q => by obtain ⟨q0, q1, qP, qK, qD⟩ := q; exact ⟨q0, q1, qP, va_K.moved (u := U) (U := U.calling g mk a) (Vm.Alike.refl U.vm) qK, qD⟩, va_recv hKc hPc (ci := 8) (q0 := 0) rfl rfl, fun U hU hW => ⟨rfl, by rw [hU], by rw [hU]; exact hPc, va_K.moved hW.alike hKc, hDc.weaken (fun _ _ _ _ => trivial)⟩⟩ rfl rfl hl.1 rfl (lv_room (Nat.le_of_ble_eq_true rfl)) dX8_count_109 ⟨(show 0 + 0 ≤ 0 by omega), (show 0 + 0 ≤ 0 by omega)⟩) hS (fun q _ h => hFc q h) hFc (fun r_27 u t H1 locs ht hvm hw hB hz1 hk1 hS9 => ?_)
      replace hS := hS9
      clear hS9
      obtain ⟨lt2_28, fx2_29, dn2_30, dp2_31, lo2_32, le2_33, fl2_34⟩ := u
      obtain ⟨hP1, hK1, hD1⟩ := hB
      rw [ht] at hP1
      replace hK1 := va_K.moved hvm.symm hK1
      try dsimp only at hw
      obtain ⟨hP9, hD9⟩ := va_joinP (wr := []) (rx := [(ax, .inr (8, [.ref hd, .ref hf, .ref hs, .ref hp, .ref he, .ref q0, .ref q1, .ref qk, .int lt2_28, .long fx2_29, .int dn2_30])), (hd, .inr (0, [.int (nI w), .int (nI b), .int wr, .ref qc, .ref qi, .int wa, .int wc])), (hf, .inr (2, [.int dp2_31, .ref qp, .ref qe, .ref ql, .int (nI lo2_32), .int (nI le2_33)])), (qp, .inl (cO, b, .inr (.inr (.inr (.inr fp))))), MA9 ql cI b fl2_34, (q0, .inr (7, [.int a1, .int a2, .int a3, .long a4])), (q1, .inr (7, [.int b1, .int b2, .int b3, .long b4])), (qk, .inr (7, [.int c1, .int c2, .int c3, .long c4]))]) (pl1 := pool G cI Pg S) hP hD [0, 1, 2, 3, 4, 5, 6, 7] [] rfl rfl (by decide) (by decide) hk1 hFc hP1 hD1
      replace hP := hP9
      replace hD := hD9
      clear hP9 hD9
      replace hK := (hK.sub (tys' := [(cO, .object RX4), (cI, .int)]) [0, 1] rfl).app hK1
      replace hK : va_K (dC, dI) vwCl [(cO, .object RX4), (cI, .int)] s := hK.sub [0, 1] rfl
      clear hP1 hD1 hK1 hPc hDc hKc hFc hk1 hz1 hvm ht
      generalize H1 = H at hP hS ⊢
      replace hP : va_P (dC, dI) vwCl ([(ax, .inr (8, [.ref hd, .ref hf, .ref hs, .ref hp, .ref he, .ref q0, .ref q1, .ref qk, .int lt2_28, .long fx2_29, .int dn2_30])), (hd, .inr (0, [.int (nI w), .int (nI b), .int wr, .ref qc, .ref qi, .int wa, .int wc])), (hf, .inr (2, [.int dp2_31, .ref qp, .ref qe, .ref ql, .int (nI lo2_32), .int (nI le2_33)])), (qp, .inl (cO, b, .inr (.inr (.inr (.inr fp))))), MA9 ql cI b fl2_34, (q0, .inr (7, [.int a1, .int a2, .int a3, .long a4])), (q1, .inr (7, [.int b1, .int b2, .int b3, .long b4])), (qk, .inr (7, [.int c1, .int c2, .int c3, .long c4]))] ++ pool G cI Pg S) H := hP
      replace hD : va_D A ([(ax, .inr (8, [.ref hd, .ref hf, .ref hs, .ref hp, .ref he, .ref q0, .ref q1, .ref qk, .int lt2_28, .long fx2_29, .int dn2_30])), (hd, .inr (0, [.int (nI w), .int (nI b), .int wr, .ref qc, .ref qi, .int wa, .int wc])), (hf, .inr (2, [.int dp2_31, .ref qp, .ref qe, .ref ql, .int (nI lo2_32), .int (nI le2_33)])), (qp, .inl (cO, b, .inr (.inr (.inr (.inr fp))))), MA9 ql cI b fl2_34, (q0, .inr (7, [.int a1, .int a2, .int a3, .long a4])), (q1, .inr (7, [.int b1, .int b2, .int b3, .long b4])), (qk, .inr (7, [.int c1, .int c2, .int c3, .long c4]))] ++ pool G cI Pg S) := hD
      replace hK : va_K (dC, dI) vwCl [(cO, .object RX4), (cI, .int)] s := hK
      have hw_r_27 := hw
      have hP9 := hP.part (cx := [(ax, .inr (8, [.ref hd, .ref hf, .ref hs, .ref hp, .ref he, .ref q0, .ref q1, .ref qk, .int lt2_28, .long fx2_29, .int dn2_30])), (hd, .inr (0, [.int (nI w), .int (nI b), .int wr, .ref qc, .ref qi, .int wa, .int wc])), (hf, .inr (2, [.int dp2_31, .ref qp, .ref qe, .ref ql, .int (nI lo2_32), .int (nI le2_33)])), (qp, .inl (cO, b, .inr (.inr (.inr (.inr fp))))), MA9 ql cI b fl2_34, (q0, .inr (7, [.int a1, .int a2, .int a3, .long a4])), (q1, .inr (7, [.int b1, .int b2, .int b3, .long b4])), (qk, .inr (7, [.int c1, .int c2, .int c3, .long c4]))]) [0, 1, 2, 3, 4, 5, 6, 7] rfl
      have hD9 := hD.part (cx := [(ax, .inr (8, [.ref hd, .ref hf, .ref hs, .ref hp, .ref he, .ref q0, .ref q1, .ref qk, .int lt2_28, .long fx2_29, .int dn2_30])), (hd, .inr (0, [.int (nI w), .int (nI b), .int wr, .ref qc, .ref qi, .int wa, .int wc])), (hf, .inr (2, [.int dp2_31, .ref qp, .ref qe, .ref ql, .int (nI lo2_32), .int (nI le2_33)])), (qp, .inl (cO, b, .inr (.inr (.inr (.inr fp))))), MA9 ql cI b fl2_34, (q0, .inr (7, [.int a1, .int a2, .int a3, .long a4])), (q1, .inr (7, [.int b1, .int b2, .int b3, .long b4])), (qk, .inr (7, [.int c1, .int c2, .int c3, .long c4]))]) [0, 1, 2, 3, 4, 5, 6, 7] (by decide) rfl
      have hK9 := hK.sub (tys' := [(cO, .object RX4), (cI, .int)]) [0, 1] rfl
      exact W.iret (v := r_27) hx hb hr (fun t ht hW => ⟨⟨r_27, (lt2_28, fx2_29, dn2_30, dp2_31, lo2_32, le2_33, fl2_34), rfl, (by first | assumption | exact hw.2 | exact hw.2.1 | exact hw | exact Or.inl rfl | exact Or.inr rfl), by rw [ht]; exact hP9, va_K.moved hW.alike hK9, hD9⟩, hS.F ht⟩) hS.2.2 dX8_count_112
    · refine lv_iconst (v := 0) hx hb dX8_count_103 (by decide) ?_
      refine lv_goto (tgt := 112) hx hb dX8_count_104 (by decide) ?_
      have hP9 := hP.part (cx := [(ax, .inr (8, [.ref hd, .ref hf, .ref hs, .ref hp, .ref he, .ref q0, .ref q1, .ref qk, .int 1, .long fx, .int dn])), (hd, .inr (0, [.int (nI w), .int (nI b), .int wr, .ref qc, .ref qi, .int wa, .int wc])), (hf, .inr (2, [.int dp, .ref qp, .ref qe, .ref ql, .int (nI lo), .int (nI le)])), (qp, .inl (cO, b, .inr (.inr (.inr (.inr fp))))), MA9 ql cI b fl, (q0, .inr (7, [.int a1, .int a2, .int a3, .long a4])), (q1, .inr (7, [.int b1, .int b2, .int b3, .long b4])), (qk, .inr (7, [.int c1, .int c2, .int c3, .long c4]))]) [0, 1, 2, 3, 4, 5, 6, 7] rfl
      have hD9 := hD.part (cx := [(ax, .inr (8, [.ref hd, .ref hf, .ref hs, .ref hp, .ref he, .ref q0, .ref q1, .ref qk, .int 1, .long fx, .int dn])), (hd, .inr (0, [.int (nI w), .int (nI b), .int wr, .ref qc, .ref qi, .int wa, .int wc])), (hf, .inr (2, [.int dp, .ref qp, .ref qe, .ref ql, .int (nI lo), .int (nI le)])), (qp, .inl (cO, b, .inr (.inr (.inr (.inr fp))))), MA9 ql cI b fl, (q0, .inr (7, [.int a1, .int a2, .int a3, .long a4])), (q1, .inr (7, [.int b1, .int b2, .int b3, .long b4])), (qk, .inr (7, [.int c1, .int c2, .int c3, .long c4]))]) [0, 1, 2, 3, 4, 5, 6, 7] (by decide) rfl
      have hK9 := hK.sub (tys' := [(cO, .object RX4), (cI, .int)]) [0, 1] rfl
      exact W.iret (v := 0) hx hb hr (fun t ht hW => ⟨⟨0, (1, fx, dn, dp, lo, le, fl), rfl, (by first | assumption | exact hw.2 | exact hw.2.1 | exact hw | exact Or.inl rfl | exact Or.inr rfl), by rw [ht]; exact hP9, va_K.moved hW.alike hK9, hD9⟩, hS.F ht⟩) hS.2.2 dX8_count_112

theorem dX0_init_0 : decode cX0_init 0 = .ok (.aload_n 0, 1) := by decide +kernel
theorem dX0_init_1 : decode cX0_init 1 = .ok (.invokespecial 1, 3) := by decide +kernel
theorem dX0_init_4 : decode cX0_init 4 = .ok (.aload_n 0, 1) := by decide +kernel
theorem dX0_init_5 : decode cX0_init 5 = .ok (.iload_n 1, 1) := by decide +kernel
theorem dX0_init_6 : decode cX0_init 6 = .ok (.putfield 7, 3) := by decide +kernel
theorem dX0_init_9 : decode cX0_init 9 = .ok (.aload_n 0, 1) := by decide +kernel
theorem dX0_init_10 : decode cX0_init 10 = .ok (.iload_n 2, 1) := by decide +kernel
theorem dX0_init_11 : decode cX0_init 11 = .ok (.putfield 13, 3) := by decide +kernel
theorem dX0_init_14 : decode cX0_init 14 = .ok (.aload_n 0, 1) := by decide +kernel
theorem dX0_init_15 : decode cX0_init 15 = .ok (.iload_n 1, 1) := by decide +kernel
theorem dX0_init_16 : decode cX0_init 16 = .ok (.iload_n 2, 1) := by decide +kernel
theorem dX0_init_17 : decode cX0_init 17 = .ok (.imul, 1) := by decide +kernel
theorem dX0_init_18 : decode cX0_init 18 = .ok (.newarray .int, 2) := by decide +kernel
theorem dX0_init_20 : decode cX0_init 20 = .ok (.putfield 16, 3) := by decide +kernel
theorem dX0_init_23 : decode cX0_init 23 = .ok (.aload_n 0, 1) := by decide +kernel
theorem dX0_init_24 : decode cX0_init 24 = .ok (.iload_n 1, 1) := by decide +kernel
theorem dX0_init_25 : decode cX0_init 25 = .ok (.newarray .int, 2) := by decide +kernel
theorem dX0_init_27 : decode cX0_init 27 = .ok (.putfield 20, 3) := by decide +kernel
theorem dX0_init_30 : decode cX0_init 30 = .ok (.aload_n 0, 1) := by decide +kernel
theorem dX0_init_31 : decode cX0_init 31 = .ok (.iconst (-1), 1) := by decide +kernel
theorem dX0_init_32 : decode cX0_init 32 = .ok (.putfield 23, 3) := by decide +kernel
theorem dX0_init_35 : decode cX0_init 35 = .ok (.return_, 1) := by decide +kernel
theorem dX0_setCut_0 : decode cX0_setCut 0 = .ok (.aload_n 0, 1) := by decide +kernel
theorem dX0_setCut_1 : decode cX0_setCut 1 = .ok (.iconst (-1), 1) := by decide +kernel
theorem dX0_setCut_2 : decode cX0_setCut 2 = .ok (.iload_n 1, 1) := by decide +kernel
theorem dX0_setCut_3 : decode cX0_setCut 3 = .ok (.invokestatic 26, 3) := by decide +kernel
theorem dX0_setCut_6 : decode cX0_setCut 6 = .ok (.putfield 23, 3) := by decide +kernel
theorem dX0_setCut_9 : decode cX0_setCut 9 = .ok (.aload_n 0, 1) := by decide +kernel
theorem dX0_setCut_10 : decode cX0_setCut 10 = .ok (.iconst 0, 1) := by decide +kernel
theorem dX0_setCut_11 : decode cX0_setCut 11 = .ok (.aload_n 0, 1) := by decide +kernel
theorem dX0_setCut_12 : decode cX0_setCut 12 = .ok (.getfield 7, 3) := by decide +kernel
theorem dX0_setCut_15 : decode cX0_setCut 15 = .ok (.iload_n 2, 1) := by decide +kernel
theorem dX0_setCut_16 : decode cX0_setCut 16 = .ok (.invokestatic 32, 3) := by decide +kernel
theorem dX0_setCut_19 : decode cX0_setCut 19 = .ok (.invokestatic 26, 3) := by decide +kernel
theorem dX0_setCut_22 : decode cX0_setCut 22 = .ok (.putfield 35, 3) := by decide +kernel
theorem dX0_setCut_25 : decode cX0_setCut 25 = .ok (.return_, 1) := by decide +kernel
theorem dX0_cellOf_0 : decode cX0_cellOf 0 = .ok (.iload_n 1, 1) := by decide +kernel
theorem dX0_cellOf_1 : decode cX0_cellOf 1 = .ok (.ifCond .lt 27, 3) := by decide +kernel
theorem dX0_cellOf_4 : decode cX0_cellOf 4 = .ok (.iload_n 1, 1) := by decide +kernel
theorem dX0_cellOf_5 : decode cX0_cellOf 5 = .ok (.aload_n 0, 1) := by decide +kernel
theorem dX0_cellOf_6 : decode cX0_cellOf 6 = .ok (.getfield 13, 3) := by decide +kernel
theorem dX0_cellOf_9 : decode cX0_cellOf 9 = .ok (.if_icmp .ge 19, 3) := by decide +kernel
theorem dX0_cellOf_12 : decode cX0_cellOf 12 = .ok (.iload_n 2, 1) := by decide +kernel
theorem dX0_cellOf_13 : decode cX0_cellOf 13 = .ok (.ifCond .lt 15, 3) := by decide +kernel
theorem dX0_cellOf_16 : decode cX0_cellOf 16 = .ok (.iload_n 2, 1) := by decide +kernel
theorem dX0_cellOf_17 : decode cX0_cellOf 17 = .ok (.aload_n 0, 1) := by decide +kernel
theorem dX0_cellOf_18 : decode cX0_cellOf 18 = .ok (.getfield 7, 3) := by decide +kernel
theorem dX0_cellOf_21 : decode cX0_cellOf 21 = .ok (.if_icmp .ge 7, 3) := by decide +kernel
theorem dX0_cellOf_24 : decode cX0_cellOf 24 = .ok (.iconst 1, 1) := by decide +kernel
theorem dX0_cellOf_25 : decode cX0_cellOf 25 = .ok (.goto 4, 3) := by decide +kernel
theorem dX0_cellOf_28 : decode cX0_cellOf 28 = .ok (.iconst 0, 1) := by decide +kernel
theorem dX0_cellOf_29 : decode cX0_cellOf 29 = .ok (.istore_n 3, 1) := by decide +kernel
theorem dX0_cellOf_30 : decode cX0_cellOf 30 = .ok (.iload_n 3, 1) := by decide +kernel
theorem dX0_cellOf_31 : decode cX0_cellOf 31 = .ok (.ifCond .eq 14, 3) := by decide +kernel
theorem dX0_cellOf_34 : decode cX0_cellOf 34 = .ok (.iload_n 1, 1) := by decide +kernel
theorem dX0_cellOf_35 : decode cX0_cellOf 35 = .ok (.aload_n 0, 1) := by decide +kernel
theorem dX0_cellOf_36 : decode cX0_cellOf 36 = .ok (.getfield 7, 3) := by decide +kernel
theorem dX0_cellOf_39 : decode cX0_cellOf 39 = .ok (.imul, 1) := by decide +kernel
theorem dX0_cellOf_40 : decode cX0_cellOf 40 = .ok (.iload_n 2, 1) := by decide +kernel
theorem dX0_cellOf_41 : decode cX0_cellOf 41 = .ok (.iadd, 1) := by decide +kernel
theorem dX0_cellOf_42 : decode cX0_cellOf 42 = .ok (.goto 4, 3) := by decide +kernel
theorem dX0_cellOf_45 : decode cX0_cellOf 45 = .ok (.iconst (-1), 1) := by decide +kernel
theorem dX0_cellOf_46 : decode cX0_cellOf 46 = .ok (.ireturn, 1) := by decide +kernel
theorem dX0_read_0 : decode cX0_read 0 = .ok (.aload_n 0, 1) := by decide +kernel
theorem dX0_read_1 : decode cX0_read 1 = .ok (.iload_n 1, 1) := by decide +kernel
theorem dX0_read_2 : decode cX0_read 2 = .ok (.iload_n 2, 1) := by decide +kernel
theorem dX0_read_3 : decode cX0_read 3 = .ok (.invokevirtual 38, 3) := by decide +kernel
theorem dX0_read_6 : decode cX0_read 6 = .ok (.istore_n 3, 1) := by decide +kernel
theorem dX0_read_7 : decode cX0_read 7 = .ok (.iload_n 3, 1) := by decide +kernel
theorem dX0_read_8 : decode cX0_read 8 = .ok (.ifCond .lt 21, 3) := by decide +kernel
theorem dX0_read_11 : decode cX0_read 11 = .ok (.iload_n 3, 1) := by decide +kernel
theorem dX0_read_12 : decode cX0_read 12 = .ok (.aload_n 0, 1) := by decide +kernel
theorem dX0_read_13 : decode cX0_read 13 = .ok (.getfield 16, 3) := by decide +kernel
theorem dX0_read_16 : decode cX0_read 16 = .ok (.arraylength, 1) := by decide +kernel
theorem dX0_read_17 : decode cX0_read 17 = .ok (.if_icmp .ge 12, 3) := by decide +kernel
theorem dX0_read_20 : decode cX0_read 20 = .ok (.aload_n 0, 1) := by decide +kernel
theorem dX0_read_21 : decode cX0_read 21 = .ok (.getfield 16, 3) := by decide +kernel
theorem dX0_read_24 : decode cX0_read 24 = .ok (.iload_n 3, 1) := by decide +kernel
theorem dX0_read_25 : decode cX0_read 25 = .ok (.iaload, 1) := by decide +kernel
theorem dX0_read_26 : decode cX0_read 26 = .ok (.goto 4, 3) := by decide +kernel
theorem dX0_read_29 : decode cX0_read 29 = .ok (.iconst 0, 1) := by decide +kernel
theorem dX0_read_30 : decode cX0_read 30 = .ok (.ireturn, 1) := by decide +kernel
theorem dX0_turn_0 : decode cX0_turn 0 = .ok (.aload_n 0, 1) := by decide +kernel
theorem dX0_turn_1 : decode cX0_turn 1 = .ok (.iload_n 1, 1) := by decide +kernel
theorem dX0_turn_2 : decode cX0_turn 2 = .ok (.iload_n 2, 1) := by decide +kernel
theorem dX0_turn_3 : decode cX0_turn 3 = .ok (.invokevirtual 38, 3) := by decide +kernel
theorem dX0_turn_6 : decode cX0_turn 6 = .ok (.istore 4, 2) := by decide +kernel
theorem dX0_turn_8 : decode cX0_turn 8 = .ok (.iload 4, 2) := by decide +kernel
theorem dX0_turn_10 : decode cX0_turn 10 = .ok (.ifCond .lt 13, 3) := by decide +kernel
theorem dX0_turn_13 : decode cX0_turn 13 = .ok (.iload 4, 2) := by decide +kernel
theorem dX0_turn_15 : decode cX0_turn 15 = .ok (.aload_n 0, 1) := by decide +kernel
theorem dX0_turn_16 : decode cX0_turn 16 = .ok (.getfield 16, 3) := by decide +kernel
theorem dX0_turn_19 : decode cX0_turn 19 = .ok (.arraylength, 1) := by decide +kernel
theorem dX0_turn_20 : decode cX0_turn 20 = .ok (.if_icmp .lt 5, 3) := by decide +kernel
theorem dX0_turn_23 : decode cX0_turn 23 = .ok (.iconst 0, 1) := by decide +kernel
theorem dX0_turn_24 : decode cX0_turn 24 = .ok (.ireturn, 1) := by decide +kernel
theorem dX0_turn_25 : decode cX0_turn 25 = .ok (.aload_n 0, 1) := by decide +kernel
theorem dX0_turn_26 : decode cX0_turn 26 = .ok (.getfield 16, 3) := by decide +kernel
theorem dX0_turn_29 : decode cX0_turn 29 = .ok (.iload 4, 2) := by decide +kernel
theorem dX0_turn_31 : decode cX0_turn 31 = .ok (.dup2, 1) := by decide +kernel
theorem dX0_turn_32 : decode cX0_turn 32 = .ok (.iaload, 1) := by decide +kernel
theorem dX0_turn_33 : decode cX0_turn 33 = .ok (.iload_n 3, 1) := by decide +kernel
theorem dX0_turn_34 : decode cX0_turn 34 = .ok (.ixor, 1) := by decide +kernel
theorem dX0_turn_35 : decode cX0_turn 35 = .ok (.iastore, 1) := by decide +kernel
theorem dX0_turn_36 : decode cX0_turn 36 = .ok (.iconst 1, 1) := by decide +kernel
theorem dX0_turn_37 : decode cX0_turn 37 = .ok (.ireturn, 1) := by decide +kernel
theorem dX0_sealOf_0 : decode cX0_sealOf 0 = .ok (.bipush 17, 2) := by decide +kernel
theorem dX0_sealOf_2 : decode cX0_sealOf 2 = .ok (.istore_n 3, 1) := by decide +kernel
theorem dX0_sealOf_3 : decode cX0_sealOf 3 = .ok (.iconst 0, 1) := by decide +kernel
theorem dX0_sealOf_4 : decode cX0_sealOf 4 = .ok (.iload_n 1, 1) := by decide +kernel
theorem dX0_sealOf_5 : decode cX0_sealOf 5 = .ok (.invokestatic 26, 3) := by decide +kernel
theorem dX0_sealOf_8 : decode cX0_sealOf 8 = .ok (.istore 4, 2) := by decide +kernel
theorem dX0_sealOf_10 : decode cX0_sealOf 10 = .ok (.iload 4, 2) := by decide +kernel
theorem dX0_sealOf_12 : decode cX0_sealOf 12 = .ok (.iload_n 2, 1) := by decide +kernel
theorem dX0_sealOf_13 : decode cX0_sealOf 13 = .ok (.if_icmp .ge 26, 3) := by decide +kernel
theorem dX0_sealOf_16 : decode cX0_sealOf 16 = .ok (.iload 4, 2) := by decide +kernel
theorem dX0_sealOf_18 : decode cX0_sealOf 18 = .ok (.aload_n 0, 1) := by decide +kernel
theorem dX0_sealOf_19 : decode cX0_sealOf 19 = .ok (.arraylength, 1) := by decide +kernel
theorem dX0_sealOf_20 : decode cX0_sealOf 20 = .ok (.if_icmp .ge 19, 3) := by decide +kernel
theorem dX0_sealOf_23 : decode cX0_sealOf 23 = .ok (.bipush 31, 2) := by decide +kernel
theorem dX0_sealOf_25 : decode cX0_sealOf 25 = .ok (.iload_n 3, 1) := by decide +kernel
theorem dX0_sealOf_26 : decode cX0_sealOf 26 = .ok (.imul, 1) := by decide +kernel
theorem dX0_sealOf_27 : decode cX0_sealOf 27 = .ok (.aload_n 0, 1) := by decide +kernel
theorem dX0_sealOf_28 : decode cX0_sealOf 28 = .ok (.iload 4, 2) := by decide +kernel
theorem dX0_sealOf_30 : decode cX0_sealOf 30 = .ok (.iaload, 1) := by decide +kernel
theorem dX0_sealOf_31 : decode cX0_sealOf 31 = .ok (.iadd, 1) := by decide +kernel
theorem dX0_sealOf_32 : decode cX0_sealOf 32 = .ok (.istore_n 3, 1) := by decide +kernel
theorem dX0_sealOf_33 : decode cX0_sealOf 33 = .ok (.iinc 4 1, 3) := by decide +kernel
theorem dX0_sealOf_36 : decode cX0_sealOf 36 = .ok (.goto (-26), 3) := by decide +kernel
theorem dX0_sealOf_39 : decode cX0_sealOf 39 = .ok (.iload_n 3, 1) := by decide +kernel
theorem dX0_sealOf_40 : decode cX0_sealOf 40 = .ok (.ireturn, 1) := by decide +kernel
theorem dX0_startImage_0 : decode cX0_startImage 0 = .ok (.iconst 0, 1) := by decide +kernel
theorem dX0_startImage_1 : decode cX0_startImage 1 = .ok (.istore_n 1, 1) := by decide +kernel
theorem dX0_startImage_2 : decode cX0_startImage 2 = .ok (.iload_n 1, 1) := by decide +kernel
theorem dX0_startImage_3 : decode cX0_startImage 3 = .ok (.aload_n 0, 1) := by decide +kernel
theorem dX0_startImage_4 : decode cX0_startImage 4 = .ok (.getfield 20, 3) := by decide +kernel
theorem dX0_startImage_7 : decode cX0_startImage 7 = .ok (.arraylength, 1) := by decide +kernel
theorem dX0_startImage_8 : decode cX0_startImage 8 = .ok (.if_icmp .ge 16, 3) := by decide +kernel
theorem dX0_startImage_11 : decode cX0_startImage 11 = .ok (.aload_n 0, 1) := by decide +kernel
theorem dX0_startImage_12 : decode cX0_startImage 12 = .ok (.getfield 20, 3) := by decide +kernel
theorem dX0_startImage_15 : decode cX0_startImage 15 = .ok (.iload_n 1, 1) := by decide +kernel
theorem dX0_startImage_16 : decode cX0_startImage 16 = .ok (.iconst 0, 1) := by decide +kernel
theorem dX0_startImage_17 : decode cX0_startImage 17 = .ok (.iastore, 1) := by decide +kernel
theorem dX0_startImage_18 : decode cX0_startImage 18 = .ok (.iinc 1 1, 3) := by decide +kernel
theorem dX0_startImage_21 : decode cX0_startImage 21 = .ok (.goto (-19), 3) := by decide +kernel
theorem dX0_startImage_24 : decode cX0_startImage 24 = .ok (.return_, 1) := by decide +kernel
theorem dX0_lay_0 : decode cX0_lay 0 = .ok (.iload_n 1, 1) := by decide +kernel
theorem dX0_lay_1 : decode cX0_lay 1 = .ok (.ifCond .lt 19, 3) := by decide +kernel
theorem dX0_lay_4 : decode cX0_lay 4 = .ok (.iload_n 1, 1) := by decide +kernel
theorem dX0_lay_5 : decode cX0_lay 5 = .ok (.aload_n 0, 1) := by decide +kernel
theorem dX0_lay_6 : decode cX0_lay 6 = .ok (.getfield 20, 3) := by decide +kernel
theorem dX0_lay_9 : decode cX0_lay 9 = .ok (.arraylength, 1) := by decide +kernel
theorem dX0_lay_10 : decode cX0_lay 10 = .ok (.if_icmp .ge 10, 3) := by decide +kernel
theorem dX0_lay_13 : decode cX0_lay 13 = .ok (.aload_n 0, 1) := by decide +kernel
theorem dX0_lay_14 : decode cX0_lay 14 = .ok (.getfield 20, 3) := by decide +kernel
theorem dX0_lay_17 : decode cX0_lay 17 = .ok (.iload_n 1, 1) := by decide +kernel
theorem dX0_lay_18 : decode cX0_lay 18 = .ok (.iload_n 2, 1) := by decide +kernel
theorem dX0_lay_19 : decode cX0_lay 19 = .ok (.iastore, 1) := by decide +kernel
theorem dX0_lay_20 : decode cX0_lay 20 = .ok (.return_, 1) := by decide +kernel
theorem dX0_write_0 : decode cX0_write 0 = .ok (.aload_n 0, 1) := by decide +kernel
theorem dX0_write_1 : decode cX0_write 1 = .ok (.aload_n 0, 1) := by decide +kernel
theorem dX0_write_2 : decode cX0_write 2 = .ok (.getfield 7, 3) := by decide +kernel
theorem dX0_write_5 : decode cX0_write 5 = .ok (.iconst 1, 1) := by decide +kernel
theorem dX0_write_6 : decode cX0_write 6 = .ok (.isub, 1) := by decide +kernel
theorem dX0_write_7 : decode cX0_write 7 = .ok (.aload_n 0, 1) := by decide +kernel
theorem dX0_write_8 : decode cX0_write 8 = .ok (.getfield 20, 3) := by decide +kernel
theorem dX0_write_11 : decode cX0_write 11 = .ok (.iconst 0, 1) := by decide +kernel
theorem dX0_write_12 : decode cX0_write 12 = .ok (.aload_n 0, 1) := by decide +kernel
theorem dX0_write_13 : decode cX0_write 13 = .ok (.getfield 7, 3) := by decide +kernel
theorem dX0_write_16 : decode cX0_write 16 = .ok (.iconst 1, 1) := by decide +kernel
theorem dX0_write_17 : decode cX0_write 17 = .ok (.isub, 1) := by decide +kernel
theorem dX0_write_18 : decode cX0_write 18 = .ok (.invokestatic 41, 3) := by decide +kernel
theorem dX0_write_21 : decode cX0_write 21 = .ok (.invokevirtual 45, 3) := by decide +kernel
theorem dX0_write_24 : decode cX0_write 24 = .ok (.aload_n 0, 1) := by decide +kernel
theorem dX0_write_25 : decode cX0_write 25 = .ok (.getfield 23, 3) := by decide +kernel
theorem dX0_write_28 : decode cX0_write 28 = .ok (.ifCond .ne 7, 3) := by decide +kernel
theorem dX0_write_35 : decode cX0_write 35 = .ok (.iconst 0, 1) := by decide +kernel
theorem dX0_write_36 : decode cX0_write 36 = .ok (.istore_n 2, 1) := by decide +kernel
theorem dX0_write_37 : decode cX0_write 37 = .ok (.iload_n 2, 1) := by decide +kernel
theorem dX0_write_38 : decode cX0_write 38 = .ok (.ifCond .eq 10, 3) := by decide +kernel
theorem dX0_write_48 : decode cX0_write 48 = .ok (.aload_n 0, 1) := by decide +kernel
theorem dX0_write_49 : decode cX0_write 49 = .ok (.getfield 7, 3) := by decide +kernel
theorem dX0_write_52 : decode cX0_write 52 = .ok (.istore_n 3, 1) := by decide +kernel
theorem dX0_write_53 : decode cX0_write 53 = .ok (.iconst 0, 1) := by decide +kernel
theorem dX0_write_54 : decode cX0_write 54 = .ok (.istore 4, 2) := by decide +kernel
theorem dX0_write_56 : decode cX0_write 56 = .ok (.iload 4, 2) := by decide +kernel
theorem dX0_write_58 : decode cX0_write 58 = .ok (.iload_n 3, 1) := by decide +kernel
theorem dX0_write_59 : decode cX0_write 59 = .ok (.if_icmp .ge 57, 3) := by decide +kernel
theorem dX0_write_62 : decode cX0_write 62 = .ok (.iload 4, 2) := by decide +kernel
theorem dX0_write_64 : decode cX0_write 64 = .ok (.aload_n 0, 1) := by decide +kernel
theorem dX0_write_65 : decode cX0_write 65 = .ok (.getfield 20, 3) := by decide +kernel
theorem dX0_write_68 : decode cX0_write 68 = .ok (.arraylength, 1) := by decide +kernel
theorem dX0_write_69 : decode cX0_write 69 = .ok (.if_icmp .ge 47, 3) := by decide +kernel
theorem dX0_write_72 : decode cX0_write 72 = .ok (.aload_n 0, 1) := by decide +kernel
theorem dX0_write_73 : decode cX0_write 73 = .ok (.iload_n 1, 1) := by decide +kernel
theorem dX0_write_74 : decode cX0_write 74 = .ok (.iload 4, 2) := by decide +kernel
theorem dX0_write_76 : decode cX0_write 76 = .ok (.invokevirtual 38, 3) := by decide +kernel
theorem dX0_write_79 : decode cX0_write 79 = .ok (.istore 5, 2) := by decide +kernel
theorem dX0_write_81 : decode cX0_write 81 = .ok (.iload 5, 2) := by decide +kernel
theorem dX0_write_83 : decode cX0_write 83 = .ok (.ifCond .lt 27, 3) := by decide +kernel
theorem dX0_write_86 : decode cX0_write 86 = .ok (.iload 5, 2) := by decide +kernel
theorem dX0_write_88 : decode cX0_write 88 = .ok (.aload_n 0, 1) := by decide +kernel
theorem dX0_write_89 : decode cX0_write 89 = .ok (.getfield 16, 3) := by decide +kernel
theorem dX0_write_92 : decode cX0_write 92 = .ok (.arraylength, 1) := by decide +kernel
theorem dX0_write_93 : decode cX0_write 93 = .ok (.if_icmp .ge 17, 3) := by decide +kernel
theorem dX0_write_96 : decode cX0_write 96 = .ok (.aload_n 0, 1) := by decide +kernel
theorem dX0_write_97 : decode cX0_write 97 = .ok (.getfield 16, 3) := by decide +kernel
theorem dX0_write_100 : decode cX0_write 100 = .ok (.iload 5, 2) := by decide +kernel
theorem dX0_write_102 : decode cX0_write 102 = .ok (.aload_n 0, 1) := by decide +kernel
theorem dX0_write_103 : decode cX0_write 103 = .ok (.getfield 20, 3) := by decide +kernel
theorem dX0_write_106 : decode cX0_write 106 = .ok (.iload 4, 2) := by decide +kernel
theorem dX0_write_108 : decode cX0_write 108 = .ok (.iaload, 1) := by decide +kernel
theorem dX0_write_109 : decode cX0_write 109 = .ok (.iastore, 1) := by decide +kernel
theorem dX0_write_110 : decode cX0_write 110 = .ok (.iinc 4 1, 3) := by decide +kernel
theorem dX0_write_113 : decode cX0_write 113 = .ok (.goto (-57), 3) := by decide +kernel
theorem dX0_write_116 : decode cX0_write 116 = .ok (.aload_n 0, 1) := by decide +kernel
theorem dX0_write_117 : decode cX0_write 117 = .ok (.getfield 23, 3) := by decide +kernel
theorem dX0_write_120 : decode cX0_write 120 = .ok (.ifCond .lt 13, 3) := by decide +kernel
theorem dX0_write_133 : decode cX0_write 133 = .ok (.iload_n 2, 1) := by decide +kernel
theorem dX0_write_134 : decode cX0_write 134 = .ok (.ifCond .ne 13, 3) := by decide +kernel
theorem dX0_write_137 : decode cX0_write 137 = .ok (.aload_n 0, 1) := by decide +kernel
theorem dX0_write_138 : decode cX0_write 138 = .ok (.dup, 1) := by decide +kernel
theorem dX0_write_139 : decode cX0_write 139 = .ok (.getfield 49, 3) := by decide +kernel
theorem dX0_write_142 : decode cX0_write 142 = .ok (.iconst 1, 1) := by decide +kernel
theorem dX0_write_143 : decode cX0_write 143 = .ok (.iadd, 1) := by decide +kernel
theorem dX0_write_144 : decode cX0_write 144 = .ok (.putfield 49, 3) := by decide +kernel
theorem dX0_write_147 : decode cX0_write 147 = .ok (.iload_n 2, 1) := by decide +kernel
theorem dX0_write_148 : decode cX0_write 148 = .ok (.ifCond .ne 7, 3) := by decide +kernel
theorem dX0_write_151 : decode cX0_write 151 = .ok (.iconst 1, 1) := by decide +kernel
theorem dX0_write_152 : decode cX0_write 152 = .ok (.goto 4, 3) := by decide +kernel
theorem dX0_write_156 : decode cX0_write 156 = .ok (.ireturn, 1) := by decide +kernel
theorem dX1_init_0 : decode cX1_init 0 = .ok (.aload_n 0, 1) := by decide +kernel
theorem dX1_init_1 : decode cX1_init 1 = .ok (.invokespecial 3, 3) := by decide +kernel
theorem dX1_init_4 : decode cX1_init 4 = .ok (.aload_n 0, 1) := by decide +kernel
theorem dX1_init_5 : decode cX1_init 5 = .ok (.aload_n 2, 1) := by decide +kernel
theorem dX1_init_6 : decode cX1_init 6 = .ok (.putfield 9, 3) := by decide +kernel
theorem dX1_init_9 : decode cX1_init 9 = .ok (.aload_n 0, 1) := by decide +kernel
theorem dX1_init_10 : decode cX1_init 10 = .ok (.aload_n 3, 1) := by decide +kernel
theorem dX1_init_11 : decode cX1_init 11 = .ok (.putfield 15, 3) := by decide +kernel
theorem dX1_init_14 : decode cX1_init 14 = .ok (.aload_n 0, 1) := by decide +kernel
theorem dX1_init_15 : decode cX1_init 15 = .ok (.aload 4, 2) := by decide +kernel
theorem dX1_init_17 : decode cX1_init 17 = .ok (.putfield 19, 3) := by decide +kernel
theorem dX1_init_20 : decode cX1_init 20 = .ok (.aload_n 0, 1) := by decide +kernel
theorem dX1_init_21 : decode cX1_init 21 = .ok (.bipush 12, 2) := by decide +kernel
theorem dX1_init_23 : decode cX1_init 23 = .ok (.newarray .int, 2) := by decide +kernel
theorem dX1_init_25 : decode cX1_init 25 = .ok (.putfield 23, 3) := by decide +kernel
theorem dX1_init_28 : decode cX1_init 28 = .ok (.aload_n 0, 1) := by decide +kernel
theorem dX1_init_29 : decode cX1_init 29 = .ok (.bipush 12, 2) := by decide +kernel
theorem dX1_init_31 : decode cX1_init 31 = .ok (.newarray .int, 2) := by decide +kernel
theorem dX1_init_33 : decode cX1_init 33 = .ok (.putfield 27, 3) := by decide +kernel
theorem dX1_init_36 : decode cX1_init 36 = .ok (.aload_n 0, 1) := by decide +kernel
theorem dX1_init_37 : decode cX1_init 37 = .ok (.new 30, 3) := by decide +kernel
theorem dX1_init_40 : decode cX1_init 40 = .ok (.dup, 1) := by decide +kernel
theorem dX1_init_41 : decode cX1_init 41 = .ok (.iload_n 1, 1) := by decide +kernel
theorem dX1_init_42 : decode cX1_init 42 = .ok (.invokespecial 32, 3) := by decide +kernel
theorem dX1_init_45 : decode cX1_init 45 = .ok (.putfield 35, 3) := by decide +kernel
theorem dX1_init_48 : decode cX1_init 48 = .ok (.aload_n 0, 1) := by decide +kernel
theorem dX1_init_49 : decode cX1_init 49 = .ok (.new 30, 3) := by decide +kernel
theorem dX1_init_52 : decode cX1_init 52 = .ok (.dup, 1) := by decide +kernel
theorem dX1_init_53 : decode cX1_init 53 = .ok (.iload_n 1, 1) := by decide +kernel
theorem dX1_init_54 : decode cX1_init 54 = .ok (.invokespecial 32, 3) := by decide +kernel
theorem dX1_init_57 : decode cX1_init 57 = .ok (.putfield 39, 3) := by decide +kernel
theorem dX1_init_60 : decode cX1_init 60 = .ok (.aload_n 0, 1) := by decide +kernel
theorem dX1_init_61 : decode cX1_init 61 = .ok (.new 30, 3) := by decide +kernel
theorem dX1_init_64 : decode cX1_init 64 = .ok (.dup, 1) := by decide +kernel
theorem dX1_init_65 : decode cX1_init 65 = .ok (.iload_n 1, 1) := by decide +kernel
theorem dX1_init_66 : decode cX1_init 66 = .ok (.invokespecial 32, 3) := by decide +kernel
theorem dX1_init_69 : decode cX1_init 69 = .ok (.putfield 42, 3) := by decide +kernel
theorem dX1_init_72 : decode cX1_init 72 = .ok (.return_, 1) := by decide +kernel
theorem dX2_init_0 : decode cX2_init 0 = .ok (.aload_n 0, 1) := by decide +kernel
theorem dX2_init_1 : decode cX2_init 1 = .ok (.invokespecial 3, 3) := by decide +kernel
theorem dX2_init_4 : decode cX2_init 4 = .ok (.aload_n 0, 1) := by decide +kernel
theorem dX2_init_5 : decode cX2_init 5 = .ok (.iload_n 2, 1) := by decide +kernel
theorem dX2_init_6 : decode cX2_init 6 = .ok (.anewarray 9, 3) := by decide +kernel
theorem dX2_init_9 : decode cX2_init 9 = .ok (.putfield 11, 3) := by decide +kernel
theorem dX2_init_12 : decode cX2_init 12 = .ok (.iconst 0, 1) := by decide +kernel
theorem dX2_init_13 : decode cX2_init 13 = .ok (.istore_n 3, 1) := by decide +kernel
theorem dX2_init_14 : decode cX2_init 14 = .ok (.iload_n 3, 1) := by decide +kernel
theorem dX2_init_15 : decode cX2_init 15 = .ok (.aload_n 0, 1) := by decide +kernel
theorem dX2_init_16 : decode cX2_init 16 = .ok (.getfield 11, 3) := by decide +kernel
theorem dX2_init_19 : decode cX2_init 19 = .ok (.arraylength, 1) := by decide +kernel
theorem dX2_init_20 : decode cX2_init 20 = .ok (.if_icmp .ge 23, 3) := by decide +kernel
theorem dX2_init_23 : decode cX2_init 23 = .ok (.aload_n 0, 1) := by decide +kernel
theorem dX2_init_24 : decode cX2_init 24 = .ok (.getfield 11, 3) := by decide +kernel
theorem dX2_init_27 : decode cX2_init 27 = .ok (.iload_n 3, 1) := by decide +kernel
theorem dX2_init_28 : decode cX2_init 28 = .ok (.new 9, 3) := by decide +kernel
theorem dX2_init_31 : decode cX2_init 31 = .ok (.dup, 1) := by decide +kernel
theorem dX2_init_32 : decode cX2_init 32 = .ok (.iload_n 1, 1) := by decide +kernel
theorem dX2_init_33 : decode cX2_init 33 = .ok (.invokespecial 17, 3) := by decide +kernel
theorem dX2_init_36 : decode cX2_init 36 = .ok (.aastore, 1) := by decide +kernel
theorem dX2_init_37 : decode cX2_init 37 = .ok (.iinc 3 1, 3) := by decide +kernel
theorem dX2_init_40 : decode cX2_init 40 = .ok (.goto (-26), 3) := by decide +kernel
theorem dX2_init_43 : decode cX2_init 43 = .ok (.aload_n 0, 1) := by decide +kernel
theorem dX2_init_44 : decode cX2_init 44 = .ok (.new 9, 3) := by decide +kernel
theorem dX2_init_47 : decode cX2_init 47 = .ok (.dup, 1) := by decide +kernel
theorem dX2_init_48 : decode cX2_init 48 = .ok (.iconst 0, 1) := by decide +kernel
theorem dX2_init_49 : decode cX2_init 49 = .ok (.invokespecial 17, 3) := by decide +kernel
theorem dX2_init_52 : decode cX2_init 52 = .ok (.putfield 20, 3) := by decide +kernel
theorem dX2_init_55 : decode cX2_init 55 = .ok (.aload_n 0, 1) := by decide +kernel
theorem dX2_init_56 : decode cX2_init 56 = .ok (.iload_n 2, 1) := by decide +kernel
theorem dX2_init_57 : decode cX2_init 57 = .ok (.newarray .int, 2) := by decide +kernel
theorem dX2_init_59 : decode cX2_init 59 = .ok (.putfield 24, 3) := by decide +kernel
theorem dX2_init_62 : decode cX2_init 62 = .ok (.return_, 1) := by decide +kernel
theorem dX3_init_0 : decode cX3_init 0 = .ok (.aload_n 0, 1) := by decide +kernel
theorem dX3_init_1 : decode cX3_init 1 = .ok (.invokespecial 1, 3) := by decide +kernel
theorem dX3_init_4 : decode cX3_init 4 = .ok (.aload_n 0, 1) := by decide +kernel
theorem dX3_init_5 : decode cX3_init 5 = .ok (.iload_n 1, 1) := by decide +kernel
theorem dX3_init_6 : decode cX3_init 6 = .ok (.iconst 3, 1) := by decide +kernel
theorem dX3_init_7 : decode cX3_init 7 = .ok (.isub, 1) := by decide +kernel
theorem dX3_init_8 : decode cX3_init 8 = .ok (.iconst 2, 1) := by decide +kernel
theorem dX3_init_9 : decode cX3_init 9 = .ok (.idiv, 1) := by decide +kernel
theorem dX3_init_10 : decode cX3_init 10 = .ok (.putfield 7, 3) := by decide +kernel
theorem dX3_init_13 : decode cX3_init 13 = .ok (.aload_n 0, 1) := by decide +kernel
theorem dX3_init_14 : decode cX3_init 14 = .ok (.iload_n 1, 1) := by decide +kernel
theorem dX3_init_15 : decode cX3_init 15 = .ok (.iconst 2, 1) := by decide +kernel
theorem dX3_init_16 : decode cX3_init 16 = .ok (.isub, 1) := by decide +kernel
theorem dX3_init_17 : decode cX3_init 17 = .ok (.iconst 2, 1) := by decide +kernel
theorem dX3_init_18 : decode cX3_init 18 = .ok (.idiv, 1) := by decide +kernel
theorem dX3_init_19 : decode cX3_init 19 = .ok (.putfield 13, 3) := by decide +kernel
theorem dX3_init_22 : decode cX3_init 22 = .ok (.return_, 1) := by decide +kernel
theorem dX4_init_0 : decode cX4_init 0 = .ok (.aload_n 0, 1) := by decide +kernel
theorem dX4_init_1 : decode cX4_init 1 = .ok (.invokespecial 3, 3) := by decide +kernel
theorem dX4_init_4 : decode cX4_init 4 = .ok (.aload_n 0, 1) := by decide +kernel
theorem dX4_init_5 : decode cX4_init 5 = .ok (.iconst 1, 1) := by decide +kernel
theorem dX4_init_6 : decode cX4_init 6 = .ok (.putfield 9, 3) := by decide +kernel
theorem dX4_init_9 : decode cX4_init 9 = .ok (.aload_n 0, 1) := by decide +kernel
theorem dX4_init_10 : decode cX4_init 10 = .ok (.iload_n 1, 1) := by decide +kernel
theorem dX4_init_11 : decode cX4_init 11 = .ok (.newarray .int, 2) := by decide +kernel
theorem dX4_init_13 : decode cX4_init 13 = .ok (.putfield 15, 3) := by decide +kernel
theorem dX4_init_16 : decode cX4_init 16 = .ok (.aload_n 0, 1) := by decide +kernel
theorem dX4_init_17 : decode cX4_init 17 = .ok (.iload_n 1, 1) := by decide +kernel
theorem dX4_init_18 : decode cX4_init 18 = .ok (.newarray .int, 2) := by decide +kernel
theorem dX4_init_20 : decode cX4_init 20 = .ok (.putfield 19, 3) := by decide +kernel
theorem dX4_init_23 : decode cX4_init 23 = .ok (.return_, 1) := by decide +kernel
theorem dX5_init_0 : decode cX5_init 0 = .ok (.aload_n 0, 1) := by decide +kernel
theorem dX5_init_1 : decode cX5_init 1 = .ok (.invokespecial 3, 3) := by decide +kernel
theorem dX5_init_4 : decode cX5_init 4 = .ok (.aload_n 0, 1) := by decide +kernel
theorem dX5_init_5 : decode cX5_init 5 = .ok (.bipush 25, 2) := by decide +kernel
theorem dX5_init_7 : decode cX5_init 7 = .ok (.anewarray 9, 3) := by decide +kernel
theorem dX5_init_10 : decode cX5_init 10 = .ok (.putfield 11, 3) := by decide +kernel
theorem dX5_init_13 : decode cX5_init 13 = .ok (.iconst 0, 1) := by decide +kernel
theorem dX5_init_14 : decode cX5_init 14 = .ok (.istore_n 2, 1) := by decide +kernel
theorem dX5_init_15 : decode cX5_init 15 = .ok (.iload_n 2, 1) := by decide +kernel
theorem dX5_init_16 : decode cX5_init 16 = .ok (.aload_n 0, 1) := by decide +kernel
theorem dX5_init_17 : decode cX5_init 17 = .ok (.getfield 11, 3) := by decide +kernel
theorem dX5_init_20 : decode cX5_init 20 = .ok (.arraylength, 1) := by decide +kernel
theorem dX5_init_21 : decode cX5_init 21 = .ok (.if_icmp .ge 23, 3) := by decide +kernel
theorem dX5_init_24 : decode cX5_init 24 = .ok (.aload_n 0, 1) := by decide +kernel
theorem dX5_init_25 : decode cX5_init 25 = .ok (.getfield 11, 3) := by decide +kernel
theorem dX5_init_28 : decode cX5_init 28 = .ok (.iload_n 2, 1) := by decide +kernel
theorem dX5_init_29 : decode cX5_init 29 = .ok (.new 9, 3) := by decide +kernel
theorem dX5_init_32 : decode cX5_init 32 = .ok (.dup, 1) := by decide +kernel
theorem dX5_init_33 : decode cX5_init 33 = .ok (.iload_n 1, 1) := by decide +kernel
theorem dX5_init_34 : decode cX5_init 34 = .ok (.invokespecial 17, 3) := by decide +kernel
theorem dX5_init_37 : decode cX5_init 37 = .ok (.aastore, 1) := by decide +kernel
theorem dX5_init_38 : decode cX5_init 38 = .ok (.iinc 2 1, 3) := by decide +kernel
theorem dX5_init_41 : decode cX5_init 41 = .ok (.goto (-26), 3) := by decide +kernel
theorem dX5_init_44 : decode cX5_init 44 = .ok (.aload_n 0, 1) := by decide +kernel
theorem dX5_init_45 : decode cX5_init 45 = .ok (.aload_n 0, 1) := by decide +kernel
theorem dX5_init_46 : decode cX5_init 46 = .ok (.getfield 11, 3) := by decide +kernel
theorem dX5_init_49 : decode cX5_init 49 = .ok (.arraylength, 1) := by decide +kernel
theorem dX5_init_50 : decode cX5_init 50 = .ok (.newarray .int, 2) := by decide +kernel
theorem dX5_init_52 : decode cX5_init 52 = .ok (.putfield 20, 3) := by decide +kernel
theorem dX5_init_55 : decode cX5_init 55 = .ok (.aload_n 0, 1) := by decide +kernel
theorem dX5_init_56 : decode cX5_init 56 = .ok (.new 9, 3) := by decide +kernel
theorem dX5_init_59 : decode cX5_init 59 = .ok (.dup, 1) := by decide +kernel
theorem dX5_init_60 : decode cX5_init 60 = .ok (.iconst 0, 1) := by decide +kernel
theorem dX5_init_61 : decode cX5_init 61 = .ok (.invokespecial 17, 3) := by decide +kernel
theorem dX5_init_64 : decode cX5_init 64 = .ok (.putfield 24, 3) := by decide +kernel
theorem dX5_init_67 : decode cX5_init 67 = .ok (.return_, 1) := by decide +kernel
theorem dX6_init_0 : decode cX6_init 0 = .ok (.aload_n 0, 1) := by decide +kernel
theorem dX6_init_1 : decode cX6_init 1 = .ok (.invokespecial 3, 3) := by decide +kernel
theorem dX6_init_4 : decode cX6_init 4 = .ok (.aload_n 0, 1) := by decide +kernel
theorem dX6_init_5 : decode cX6_init 5 = .ok (.aload_n 1, 1) := by decide +kernel
theorem dX6_init_6 : decode cX6_init 6 = .ok (.putfield 9, 3) := by decide +kernel
theorem dX6_init_9 : decode cX6_init 9 = .ok (.aload_n 0, 1) := by decide +kernel
theorem dX6_init_10 : decode cX6_init 10 = .ok (.aload_n 2, 1) := by decide +kernel
theorem dX6_init_11 : decode cX6_init 11 = .ok (.putfield 15, 3) := by decide +kernel
theorem dX6_init_14 : decode cX6_init 14 = .ok (.aload_n 0, 1) := by decide +kernel
theorem dX6_init_15 : decode cX6_init 15 = .ok (.aload_n 3, 1) := by decide +kernel
theorem dX6_init_16 : decode cX6_init 16 = .ok (.putfield 19, 3) := by decide +kernel
theorem dX6_init_19 : decode cX6_init 19 = .ok (.aload_n 0, 1) := by decide +kernel
theorem dX6_init_20 : decode cX6_init 20 = .ok (.aload_n 1, 1) := by decide +kernel
theorem dX6_init_21 : decode cX6_init 21 = .ok (.getfield 23, 3) := by decide +kernel
theorem dX6_init_24 : decode cX6_init 24 = .ok (.newarray .int, 2) := by decide +kernel
theorem dX6_init_26 : decode cX6_init 26 = .ok (.putfield 29, 3) := by decide +kernel
theorem dX6_init_29 : decode cX6_init 29 = .ok (.aload_n 0, 1) := by decide +kernel
theorem dX6_init_30 : decode cX6_init 30 = .ok (.aload_n 1, 1) := by decide +kernel
theorem dX6_init_31 : decode cX6_init 31 = .ok (.getfield 23, 3) := by decide +kernel
theorem dX6_init_34 : decode cX6_init 34 = .ok (.newarray .long, 2) := by decide +kernel
theorem dX6_init_36 : decode cX6_init 36 = .ok (.putfield 33, 3) := by decide +kernel
theorem dX6_init_39 : decode cX6_init 39 = .ok (.aload_n 0, 1) := by decide +kernel
theorem dX6_init_40 : decode cX6_init 40 = .ok (.aload_n 1, 1) := by decide +kernel
theorem dX6_init_41 : decode cX6_init 41 = .ok (.getfield 23, 3) := by decide +kernel
theorem dX6_init_44 : decode cX6_init 44 = .ok (.newarray .long, 2) := by decide +kernel
theorem dX6_init_46 : decode cX6_init 46 = .ok (.putfield 37, 3) := by decide +kernel
theorem dX6_init_49 : decode cX6_init 49 = .ok (.return_, 1) := by decide +kernel
theorem dX6_findsRight_0 : decode cX6_findsRight 0 = .ok (.aload_n 0, 1) := by decide +kernel
theorem dX6_findsRight_1 : decode cX6_findsRight 1 = .ok (.iconst 0, 1) := by decide +kernel
theorem dX6_findsRight_2 : decode cX6_findsRight 2 = .ok (.putfield 40, 3) := by decide +kernel
theorem dX6_findsRight_5 : decode cX6_findsRight 5 = .ok (.aload_n 0, 1) := by decide +kernel
theorem dX6_findsRight_6 : decode cX6_findsRight 6 = .ok (.lconst 0, 1) := by decide +kernel
theorem dX6_findsRight_7 : decode cX6_findsRight 7 = .ok (.putfield 43, 3) := by decide +kernel
theorem dX6_findsRight_10 : decode cX6_findsRight 10 = .ok (.aload_n 0, 1) := by decide +kernel
theorem dX6_findsRight_11 : decode cX6_findsRight 11 = .ok (.iconst 0, 1) := by decide +kernel
theorem dX6_findsRight_12 : decode cX6_findsRight 12 = .ok (.putfield 47, 3) := by decide +kernel
theorem dX6_findsRight_15 : decode cX6_findsRight 15 = .ok (.aload_n 0, 1) := by decide +kernel
theorem dX6_findsRight_16 : decode cX6_findsRight 16 = .ok (.ldc2_w 50, 3) := by decide +kernel
theorem dX6_findsRight_19 : decode cX6_findsRight 19 = .ok (.putfield 52, 3) := by decide +kernel
theorem dX6_findsRight_22 : decode cX6_findsRight 22 = .ok (.aload_n 2, 1) := by decide +kernel
theorem dX6_findsRight_23 : decode cX6_findsRight 23 = .ok (.aload_n 0, 1) := by decide +kernel
theorem dX6_findsRight_24 : decode cX6_findsRight 24 = .ok (.getfield 9, 3) := by decide +kernel
theorem dX6_findsRight_27 : decode cX6_findsRight 27 = .ok (.iload_n 1, 1) := by decide +kernel
theorem dX6_findsRight_28 : decode cX6_findsRight 28 = .ok (.iconst 1, 1) := by decide +kernel
theorem dX6_findsRight_29 : decode cX6_findsRight 29 = .ok (.invokevirtual 55, 3) := by decide +kernel
theorem dX6_findsRight_32 : decode cX6_findsRight 32 = .ok (.aload_n 0, 1) := by decide +kernel
theorem dX6_findsRight_33 : decode cX6_findsRight 33 = .ok (.getfield 9, 3) := by decide +kernel
theorem dX6_findsRight_36 : decode cX6_findsRight 36 = .ok (.iload_n 1, 1) := by decide +kernel
theorem dX6_findsRight_37 : decode cX6_findsRight 37 = .ok (.iconst 2, 1) := by decide +kernel
theorem dX6_findsRight_38 : decode cX6_findsRight 38 = .ok (.invokevirtual 55, 3) := by decide +kernel
theorem dX6_findsRight_41 : decode cX6_findsRight 41 = .ok (.aload_n 0, 1) := by decide +kernel
theorem dX6_findsRight_42 : decode cX6_findsRight 42 = .ok (.getfield 9, 3) := by decide +kernel
theorem dX6_findsRight_45 : decode cX6_findsRight 45 = .ok (.iload_n 1, 1) := by decide +kernel
theorem dX6_findsRight_46 : decode cX6_findsRight 46 = .ok (.iconst 3, 1) := by decide +kernel
theorem dX6_findsRight_47 : decode cX6_findsRight 47 = .ok (.invokevirtual 55, 3) := by decide +kernel
theorem dX6_findsRight_50 : decode cX6_findsRight 50 = .ok (.lconst 0, 1) := by decide +kernel
theorem dX6_findsRight_51 : decode cX6_findsRight 51 = .ok (.invokevirtual 59, 3) := by decide +kernel
theorem dX6_findsRight_54 : decode cX6_findsRight 54 = .ok (.aload_n 0, 1) := by decide +kernel
theorem dX6_findsRight_55 : decode cX6_findsRight 55 = .ok (.getfield 9, 3) := by decide +kernel
theorem dX6_findsRight_58 : decode cX6_findsRight 58 = .ok (.iload_n 1, 1) := by decide +kernel
theorem dX6_findsRight_59 : decode cX6_findsRight 59 = .ok (.iconst 0, 1) := by decide +kernel
theorem dX6_findsRight_60 : decode cX6_findsRight 60 = .ok (.invokevirtual 55, 3) := by decide +kernel
theorem dX6_findsRight_63 : decode cX6_findsRight 63 = .ok (.ldc 65, 2) := by decide +kernel
theorem dX6_findsRight_65 : decode cX6_findsRight 65 = .ok (.if_icmp .ne 14, 3) := by decide +kernel
theorem dX6_findsRight_79 : decode cX6_findsRight 79 = .ok (.iconst 0, 1) := by decide +kernel
theorem dX6_findsRight_80 : decode cX6_findsRight 80 = .ok (.ireturn, 1) := by decide +kernel
theorem dX7_init_0 : decode cX7_init 0 = .ok (.aload_n 0, 1) := by decide +kernel
theorem dX7_init_1 : decode cX7_init 1 = .ok (.invokespecial 3, 3) := by decide +kernel
theorem dX7_init_4 : decode cX7_init 4 = .ok (.return_, 1) := by decide +kernel
theorem dX7_tell_0 : decode cX7_tell 0 = .ok (.aload_n 0, 1) := by decide +kernel
theorem dX7_tell_1 : decode cX7_tell 1 = .ok (.iload_n 1, 1) := by decide +kernel
theorem dX7_tell_2 : decode cX7_tell 2 = .ok (.putfield 9, 3) := by decide +kernel
theorem dX7_tell_5 : decode cX7_tell 5 = .ok (.aload_n 0, 1) := by decide +kernel
theorem dX7_tell_6 : decode cX7_tell 6 = .ok (.iload_n 2, 1) := by decide +kernel
theorem dX7_tell_7 : decode cX7_tell 7 = .ok (.putfield 15, 3) := by decide +kernel
theorem dX7_tell_10 : decode cX7_tell 10 = .ok (.aload_n 0, 1) := by decide +kernel
theorem dX7_tell_11 : decode cX7_tell 11 = .ok (.iload_n 3, 1) := by decide +kernel
theorem dX7_tell_12 : decode cX7_tell 12 = .ok (.putfield 18, 3) := by decide +kernel
theorem dX7_tell_15 : decode cX7_tell 15 = .ok (.aload_n 0, 1) := by decide +kernel
theorem dX7_tell_16 : decode cX7_tell 16 = .ok (.lload 4, 2) := by decide +kernel
theorem dX7_tell_18 : decode cX7_tell 18 = .ok (.putfield 21, 3) := by decide +kernel
theorem dX7_tell_21 : decode cX7_tell 21 = .ok (.return_, 1) := by decide +kernel
theorem dX7_copy_0 : decode cX7_copy 0 = .ok (.aload_n 0, 1) := by decide +kernel
theorem dX7_copy_1 : decode cX7_copy 1 = .ok (.aload_n 1, 1) := by decide +kernel
theorem dX7_copy_2 : decode cX7_copy 2 = .ok (.getfield 9, 3) := by decide +kernel
theorem dX7_copy_5 : decode cX7_copy 5 = .ok (.aload_n 1, 1) := by decide +kernel
theorem dX7_copy_6 : decode cX7_copy 6 = .ok (.getfield 15, 3) := by decide +kernel
theorem dX7_copy_9 : decode cX7_copy 9 = .ok (.aload_n 1, 1) := by decide +kernel
theorem dX7_copy_10 : decode cX7_copy 10 = .ok (.getfield 18, 3) := by decide +kernel
theorem dX7_copy_13 : decode cX7_copy 13 = .ok (.aload_n 1, 1) := by decide +kernel
theorem dX7_copy_14 : decode cX7_copy 14 = .ok (.getfield 21, 3) := by decide +kernel
theorem dX7_copy_17 : decode cX7_copy 17 = .ok (.invokevirtual 25, 3) := by decide +kernel
theorem dX7_copy_20 : decode cX7_copy 20 = .ok (.return_, 1) := by decide +kernel
theorem dX7_layOut_0 : decode cX7_layOut 0 = .ok (.aload_n 1, 1) := by decide +kernel
theorem dX7_layOut_1 : decode cX7_layOut 1 = .ok (.invokevirtual 29, 3) := by decide +kernel
theorem dX7_layOut_4 : decode cX7_layOut 4 = .ok (.aload_n 1, 1) := by decide +kernel
theorem dX7_layOut_5 : decode cX7_layOut 5 = .ok (.iconst 0, 1) := by decide +kernel
theorem dX7_layOut_6 : decode cX7_layOut 6 = .ok (.ldc 34, 2) := by decide +kernel
theorem dX7_layOut_8 : decode cX7_layOut 8 = .ok (.invokevirtual 35, 3) := by decide +kernel
theorem dX7_layOut_11 : decode cX7_layOut 11 = .ok (.aload_n 1, 1) := by decide +kernel
theorem dX7_layOut_12 : decode cX7_layOut 12 = .ok (.iconst 1, 1) := by decide +kernel
theorem dX7_layOut_13 : decode cX7_layOut 13 = .ok (.aload_n 0, 1) := by decide +kernel
theorem dX7_layOut_14 : decode cX7_layOut 14 = .ok (.getfield 9, 3) := by decide +kernel
theorem dX7_layOut_17 : decode cX7_layOut 17 = .ok (.invokevirtual 35, 3) := by decide +kernel
theorem dX7_layOut_20 : decode cX7_layOut 20 = .ok (.aload_n 1, 1) := by decide +kernel
theorem dX7_layOut_21 : decode cX7_layOut 21 = .ok (.iconst 2, 1) := by decide +kernel
theorem dX7_layOut_22 : decode cX7_layOut 22 = .ok (.aload_n 0, 1) := by decide +kernel
theorem dX7_layOut_23 : decode cX7_layOut 23 = .ok (.getfield 15, 3) := by decide +kernel
theorem dX7_layOut_26 : decode cX7_layOut 26 = .ok (.invokevirtual 35, 3) := by decide +kernel
theorem dX7_layOut_29 : decode cX7_layOut 29 = .ok (.aload_n 1, 1) := by decide +kernel
theorem dX7_layOut_30 : decode cX7_layOut 30 = .ok (.iconst 3, 1) := by decide +kernel
theorem dX7_layOut_31 : decode cX7_layOut 31 = .ok (.aload_n 0, 1) := by decide +kernel
theorem dX7_layOut_32 : decode cX7_layOut 32 = .ok (.getfield 18, 3) := by decide +kernel
theorem dX7_layOut_35 : decode cX7_layOut 35 = .ok (.invokevirtual 35, 3) := by decide +kernel
theorem dX7_layOut_38 : decode cX7_layOut 38 = .ok (.return_, 1) := by decide +kernel
theorem dX8_init_0 : decode cX8_init 0 = .ok (.aload_n 0, 1) := by decide +kernel
theorem dX8_init_1 : decode cX8_init 1 = .ok (.invokespecial 1, 3) := by decide +kernel
theorem dX8_init_4 : decode cX8_init 4 = .ok (.bipush 12, 2) := by decide +kernel
theorem dX8_init_6 : decode cX8_init 6 = .ok (.bipush 40, 2) := by decide +kernel
theorem dX8_init_8 : decode cX8_init 8 = .ok (.iload_n 1, 1) := by decide +kernel
theorem dX8_init_9 : decode cX8_init 9 = .ok (.invokestatic 9, 3) := by decide +kernel
theorem dX8_init_12 : decode cX8_init 12 = .ok (.invokestatic 15, 3) := by decide +kernel
theorem dX8_init_15 : decode cX8_init 15 = .ok (.istore_n 3, 1) := by decide +kernel
theorem dX8_init_16 : decode cX8_init 16 = .ok (.iconst 4, 1) := by decide +kernel
theorem dX8_init_17 : decode cX8_init 17 = .ok (.bipush 64, 2) := by decide +kernel
theorem dX8_init_19 : decode cX8_init 19 = .ok (.iload_n 2, 1) := by decide +kernel
theorem dX8_init_20 : decode cX8_init 20 = .ok (.invokestatic 9, 3) := by decide +kernel
theorem dX8_init_23 : decode cX8_init 23 = .ok (.invokestatic 15, 3) := by decide +kernel
theorem dX8_init_26 : decode cX8_init 26 = .ok (.istore 4, 2) := by decide +kernel
theorem dX8_init_28 : decode cX8_init 28 = .ok (.new 18, 3) := by decide +kernel
theorem dX8_init_31 : decode cX8_init 31 = .ok (.dup, 1) := by decide +kernel
theorem dX8_init_32 : decode cX8_init 32 = .ok (.iload_n 3, 1) := by decide +kernel
theorem dX8_init_33 : decode cX8_init 33 = .ok (.invokespecial 20, 3) := by decide +kernel
theorem dX8_init_36 : decode cX8_init 36 = .ok (.astore 5, 2) := by decide +kernel
theorem dX8_init_38 : decode cX8_init 38 = .ok (.aload_n 0, 1) := by decide +kernel
theorem dX8_init_39 : decode cX8_init 39 = .ok (.new 23, 3) := by decide +kernel
theorem dX8_init_42 : decode cX8_init 42 = .ok (.dup, 1) := by decide +kernel
theorem dX8_init_43 : decode cX8_init 43 = .ok (.iload_n 3, 1) := by decide +kernel
theorem dX8_init_44 : decode cX8_init 44 = .ok (.iload 4, 2) := by decide +kernel
theorem dX8_init_46 : decode cX8_init 46 = .ok (.invokespecial 25, 3) := by decide +kernel
theorem dX8_init_49 : decode cX8_init 49 = .ok (.putfield 28, 3) := by decide +kernel
theorem dX8_init_52 : decode cX8_init 52 = .ok (.aload_n 0, 1) := by decide +kernel
theorem dX8_init_53 : decode cX8_init 53 = .ok (.new 32, 3) := by decide +kernel
theorem dX8_init_56 : decode cX8_init 56 = .ok (.dup, 1) := by decide +kernel
theorem dX8_init_57 : decode cX8_init 57 = .ok (.iload_n 3, 1) := by decide +kernel
theorem dX8_init_58 : decode cX8_init 58 = .ok (.iload 4, 2) := by decide +kernel
theorem dX8_init_60 : decode cX8_init 60 = .ok (.invokespecial 34, 3) := by decide +kernel
theorem dX8_init_63 : decode cX8_init 63 = .ok (.putfield 35, 3) := by decide +kernel
theorem dX8_init_66 : decode cX8_init 66 = .ok (.aload_n 0, 1) := by decide +kernel
theorem dX8_init_67 : decode cX8_init 67 = .ok (.new 39, 3) := by decide +kernel
theorem dX8_init_70 : decode cX8_init 70 = .ok (.dup, 1) := by decide +kernel
theorem dX8_init_71 : decode cX8_init 71 = .ok (.aload_n 0, 1) := by decide +kernel
theorem dX8_init_72 : decode cX8_init 72 = .ok (.getfield 28, 3) := by decide +kernel
theorem dX8_init_75 : decode cX8_init 75 = .ok (.aload_n 0, 1) := by decide +kernel
theorem dX8_init_76 : decode cX8_init 76 = .ok (.getfield 35, 3) := by decide +kernel
theorem dX8_init_79 : decode cX8_init 79 = .ok (.aload 5, 2) := by decide +kernel
theorem dX8_init_81 : decode cX8_init 81 = .ok (.invokespecial 41, 3) := by decide +kernel
theorem dX8_init_84 : decode cX8_init 84 = .ok (.putfield 44, 3) := by decide +kernel
theorem dX8_init_87 : decode cX8_init 87 = .ok (.aload_n 0, 1) := by decide +kernel
theorem dX8_init_88 : decode cX8_init 88 = .ok (.new 48, 3) := by decide +kernel
theorem dX8_init_91 : decode cX8_init 91 = .ok (.dup, 1) := by decide +kernel
theorem dX8_init_92 : decode cX8_init 92 = .ok (.iload_n 3, 1) := by decide +kernel
theorem dX8_init_93 : decode cX8_init 93 = .ok (.invokespecial 50, 3) := by decide +kernel
theorem dX8_init_96 : decode cX8_init 96 = .ok (.putfield 51, 3) := by decide +kernel
theorem dX8_init_99 : decode cX8_init 99 = .ok (.aload_n 0, 1) := by decide +kernel
theorem dX8_init_100 : decode cX8_init 100 = .ok (.new 55, 3) := by decide +kernel
theorem dX8_init_103 : decode cX8_init 103 = .ok (.dup, 1) := by decide +kernel
theorem dX8_init_104 : decode cX8_init 104 = .ok (.iload_n 3, 1) := by decide +kernel
theorem dX8_init_105 : decode cX8_init 105 = .ok (.aload 5, 2) := by decide +kernel
theorem dX8_init_107 : decode cX8_init 107 = .ok (.aload_n 0, 1) := by decide +kernel
theorem dX8_init_108 : decode cX8_init 108 = .ok (.getfield 35, 3) := by decide +kernel
theorem dX8_init_111 : decode cX8_init 111 = .ok (.aload_n 0, 1) := by decide +kernel
theorem dX8_init_112 : decode cX8_init 112 = .ok (.getfield 51, 3) := by decide +kernel
theorem dX8_init_115 : decode cX8_init 115 = .ok (.invokespecial 57, 3) := by decide +kernel
theorem dX8_init_118 : decode cX8_init 118 = .ok (.putfield 60, 3) := by decide +kernel
theorem dX8_init_121 : decode cX8_init 121 = .ok (.aload_n 0, 1) := by decide +kernel
theorem dX8_init_122 : decode cX8_init 122 = .ok (.new 64, 3) := by decide +kernel
theorem dX8_init_125 : decode cX8_init 125 = .ok (.dup, 1) := by decide +kernel
theorem dX8_init_126 : decode cX8_init 126 = .ok (.invokespecial 66, 3) := by decide +kernel
theorem dX8_init_129 : decode cX8_init 129 = .ok (.putfield 67, 3) := by decide +kernel
theorem dX8_init_132 : decode cX8_init 132 = .ok (.aload_n 0, 1) := by decide +kernel
theorem dX8_init_133 : decode cX8_init 133 = .ok (.new 64, 3) := by decide +kernel
theorem dX8_init_136 : decode cX8_init 136 = .ok (.dup, 1) := by decide +kernel
theorem dX8_init_137 : decode cX8_init 137 = .ok (.invokespecial 66, 3) := by decide +kernel
theorem dX8_init_140 : decode cX8_init 140 = .ok (.putfield 71, 3) := by decide +kernel
theorem dX8_init_143 : decode cX8_init 143 = .ok (.aload_n 0, 1) := by decide +kernel
theorem dX8_init_144 : decode cX8_init 144 = .ok (.new 64, 3) := by decide +kernel
theorem dX8_init_147 : decode cX8_init 147 = .ok (.dup, 1) := by decide +kernel
theorem dX8_init_148 : decode cX8_init 148 = .ok (.invokespecial 66, 3) := by decide +kernel
theorem dX8_init_151 : decode cX8_init 151 = .ok (.putfield 74, 3) := by decide +kernel
theorem dX8_init_154 : decode cX8_init 154 = .ok (.aload_n 0, 1) := by decide +kernel
theorem dX8_init_155 : decode cX8_init 155 = .ok (.iconst 1, 1) := by decide +kernel
theorem dX8_init_156 : decode cX8_init 156 = .ok (.putfield 77, 3) := by decide +kernel
theorem dX8_init_159 : decode cX8_init 159 = .ok (.return_, 1) := by decide +kernel
theorem dX8_format_0 : decode cX8_format 0 = .ok (.aload_n 0, 1) := by decide +kernel
theorem dX8_format_1 : decode cX8_format 1 = .ok (.getfield 28, 3) := by decide +kernel
theorem dX8_format_4 : decode cX8_format 4 = .ok (.iconst (-1), 1) := by decide +kernel
theorem dX8_format_5 : decode cX8_format 5 = .ok (.iconst 0, 1) := by decide +kernel
theorem dX8_format_6 : decode cX8_format 6 = .ok (.invokevirtual 81, 3) := by decide +kernel
theorem dX8_format_9 : decode cX8_format 9 = .ok (.aload_n 0, 1) := by decide +kernel
theorem dX8_format_10 : decode cX8_format 10 = .ok (.getfield 67, 3) := by decide +kernel
theorem dX8_format_13 : decode cX8_format 13 = .ok (.iconst 0, 1) := by decide +kernel
theorem dX8_format_14 : decode cX8_format 14 = .ok (.iconst 0, 1) := by decide +kernel
theorem dX8_format_15 : decode cX8_format 15 = .ok (.iconst 0, 1) := by decide +kernel
theorem dX8_format_16 : decode cX8_format 16 = .ok (.lconst 0, 1) := by decide +kernel
theorem dX8_format_17 : decode cX8_format 17 = .ok (.invokevirtual 84, 3) := by decide +kernel
theorem dX8_format_20 : decode cX8_format 20 = .ok (.aload_n 0, 1) := by decide +kernel
theorem dX8_format_21 : decode cX8_format 21 = .ok (.getfield 71, 3) := by decide +kernel
theorem dX8_format_24 : decode cX8_format 24 = .ok (.iconst 0, 1) := by decide +kernel
theorem dX8_format_25 : decode cX8_format 25 = .ok (.iconst 0, 1) := by decide +kernel
theorem dX8_format_26 : decode cX8_format 26 = .ok (.iconst 0, 1) := by decide +kernel
theorem dX8_format_27 : decode cX8_format 27 = .ok (.lconst 0, 1) := by decide +kernel
theorem dX8_format_28 : decode cX8_format 28 = .ok (.invokevirtual 84, 3) := by decide +kernel
theorem dX8_format_31 : decode cX8_format 31 = .ok (.aload_n 0, 1) := by decide +kernel
theorem dX8_format_32 : decode cX8_format 32 = .ok (.iconst 0, 1) := by decide +kernel
theorem dX8_format_33 : decode cX8_format 33 = .ok (.invokevirtual 88, 3) := by decide +kernel
theorem dX8_format_36 : decode cX8_format 36 = .ok (.pop, 1) := by decide +kernel
theorem dX8_format_37 : decode cX8_format 37 = .ok (.aload_n 0, 1) := by decide +kernel
theorem dX8_format_38 : decode cX8_format 38 = .ok (.iconst 1, 1) := by decide +kernel
theorem dX8_format_39 : decode cX8_format 39 = .ok (.invokevirtual 88, 3) := by decide +kernel
theorem dX8_format_42 : decode cX8_format 42 = .ok (.pop, 1) := by decide +kernel
theorem dX8_format_43 : decode cX8_format 43 = .ok (.aload_n 0, 1) := by decide +kernel
theorem dX8_format_44 : decode cX8_format 44 = .ok (.iconst 0, 1) := by decide +kernel
theorem dX8_format_45 : decode cX8_format 45 = .ok (.invokevirtual 92, 3) := by decide +kernel
theorem dX8_format_48 : decode cX8_format 48 = .ok (.return_, 1) := by decide +kernel
theorem dX8_put_0 : decode cX8_put 0 = .ok (.aload_n 0, 1) := by decide +kernel
theorem dX8_put_1 : decode cX8_put 1 = .ok (.getfield 77, 3) := by decide +kernel
theorem dX8_put_4 : decode cX8_put 4 = .ok (.ifCond .eq 5, 3) := by decide +kernel
theorem dX8_put_7 : decode cX8_put 7 = .ok (.iconst 3, 1) := by decide +kernel
theorem dX8_put_8 : decode cX8_put 8 = .ok (.ireturn, 1) := by decide +kernel
theorem dX8_remove_0 : decode cX8_remove 0 = .ok (.aload_n 0, 1) := by decide +kernel
theorem dX8_remove_1 : decode cX8_remove 1 = .ok (.getfield 77, 3) := by decide +kernel
theorem dX8_remove_4 : decode cX8_remove 4 = .ok (.ifCond .eq 5, 3) := by decide +kernel
theorem dX8_remove_7 : decode cX8_remove 7 = .ok (.iconst 3, 1) := by decide +kernel
theorem dX8_remove_8 : decode cX8_remove 8 = .ok (.ireturn, 1) := by decide +kernel
theorem dX8_get_0 : decode cX8_get 0 = .ok (.aload_n 0, 1) := by decide +kernel
theorem dX8_get_1 : decode cX8_get 1 = .ok (.getfield 77, 3) := by decide +kernel
theorem dX8_get_4 : decode cX8_get 4 = .ok (.ifCond .eq 7, 3) := by decide +kernel
theorem dX8_get_7 : decode cX8_get 7 = .ok (.iconst 0, 1) := by decide +kernel
theorem dX8_get_8 : decode cX8_get 8 = .ok (.goto 22, 3) := by decide +kernel
theorem dX8_get_30 : decode cX8_get 30 = .ok (.ireturn, 1) := by decide +kernel
theorem dX8_contains_0 : decode cX8_contains 0 = .ok (.aload_n 0, 1) := by decide +kernel
theorem dX8_contains_1 : decode cX8_contains 1 = .ok (.getfield 77, 3) := by decide +kernel
theorem dX8_contains_4 : decode cX8_contains 4 = .ok (.ifCond .ne 29, 3) := by decide +kernel
theorem dX8_contains_33 : decode cX8_contains 33 = .ok (.iconst 0, 1) := by decide +kernel
theorem dX8_contains_34 : decode cX8_contains 34 = .ok (.ireturn, 1) := by decide +kernel
theorem dX8_was_0 : decode cX8_was 0 = .ok (.aload_n 0, 1) := by decide +kernel
theorem dX8_was_1 : decode cX8_was 1 = .ok (.getfield 77, 3) := by decide +kernel
theorem dX8_was_4 : decode cX8_was 4 = .ok (.ifCond .eq 7, 3) := by decide +kernel
theorem dX8_was_7 : decode cX8_was 7 = .ok (.iconst 0, 1) := by decide +kernel
theorem dX8_was_8 : decode cX8_was 8 = .ok (.goto 26, 3) := by decide +kernel
theorem dX8_was_34 : decode cX8_was 34 = .ok (.ireturn, 1) := by decide +kernel
theorem dX8_size_0 : decode cX8_size 0 = .ok (.aload_n 0, 1) := by decide +kernel
theorem dX8_size_1 : decode cX8_size 1 = .ok (.getfield 77, 3) := by decide +kernel
theorem dX8_size_4 : decode cX8_size 4 = .ok (.ifCond .eq 7, 3) := by decide +kernel
theorem dX8_size_7 : decode cX8_size 7 = .ok (.iconst (-1), 1) := by decide +kernel
theorem dX8_size_8 : decode cX8_size 8 = .ok (.goto 10, 3) := by decide +kernel
theorem dX8_size_18 : decode cX8_size 18 = .ok (.ireturn, 1) := by decide +kernel
theorem dX8_rank_0 : decode cX8_rank 0 = .ok (.aload_n 0, 1) := by decide +kernel
theorem dX8_rank_1 : decode cX8_rank 1 = .ok (.getfield 77, 3) := by decide +kernel
theorem dX8_rank_4 : decode cX8_rank 4 = .ok (.ifCond .eq 5, 3) := by decide +kernel
theorem dX8_rank_7 : decode cX8_rank 7 = .ok (.iconst (-1), 1) := by decide +kernel
theorem dX8_rank_8 : decode cX8_rank 8 = .ok (.ireturn, 1) := by decide +kernel
theorem dX8_key_0 : decode cX8_key 0 = .ok (.aload_n 0, 1) := by decide +kernel
theorem dX8_key_1 : decode cX8_key 1 = .ok (.getfield 77, 3) := by decide +kernel
theorem dX8_key_4 : decode cX8_key 4 = .ok (.ifCond .ne 7, 3) := by decide +kernel
theorem dX8_key_11 : decode cX8_key 11 = .ok (.iconst 0, 1) := by decide +kernel
theorem dX8_key_12 : decode cX8_key 12 = .ok (.ireturn, 1) := by decide +kernel
theorem dX8_sum_0 : decode cX8_sum 0 = .ok (.aload_n 0, 1) := by decide +kernel
theorem dX8_sum_1 : decode cX8_sum 1 = .ok (.getfield 77, 3) := by decide +kernel
theorem dX8_sum_4 : decode cX8_sum 4 = .ok (.ifCond .ne 8, 3) := by decide +kernel
theorem dX8_sum_12 : decode cX8_sum 12 = .ok (.iconst 0, 1) := by decide +kernel
theorem dX8_sum_13 : decode cX8_sum 13 = .ok (.ireturn, 1) := by decide +kernel
theorem dX8_commit_0 : decode cX8_commit 0 = .ok (.aload_n 0, 1) := by decide +kernel
theorem dX8_commit_1 : decode cX8_commit 1 = .ok (.getfield 77, 3) := by decide +kernel
theorem dX8_commit_4 : decode cX8_commit 4 = .ok (.ifCond .eq 5, 3) := by decide +kernel
theorem dX8_commit_7 : decode cX8_commit 7 = .ok (.iconst 3, 1) := by decide +kernel
theorem dX8_commit_8 : decode cX8_commit 8 = .ok (.ireturn, 1) := by decide +kernel
theorem dX8_arm_0 : decode cX8_arm 0 = .ok (.aload_n 0, 1) := by decide +kernel
theorem dX8_arm_1 : decode cX8_arm 1 = .ok (.getfield 28, 3) := by decide +kernel
theorem dX8_arm_4 : decode cX8_arm 4 = .ok (.iload_n 1, 1) := by decide +kernel
theorem dX8_arm_5 : decode cX8_arm 5 = .ok (.iload_n 2, 1) := by decide +kernel
theorem dX8_arm_6 : decode cX8_arm 6 = .ok (.invokevirtual 81, 3) := by decide +kernel
theorem dX8_arm_9 : decode cX8_arm 9 = .ok (.return_, 1) := by decide +kernel
theorem dX8_recover_0 : decode cX8_recover 0 = .ok (.aload_n 0, 1) := by decide +kernel
theorem dX8_recover_1 : decode cX8_recover 1 = .ok (.iconst 1, 1) := by decide +kernel
theorem dX8_recover_2 : decode cX8_recover 2 = .ok (.putfield 77, 3) := by decide +kernel
theorem dX8_recover_5 : decode cX8_recover 5 = .ok (.aload_n 0, 1) := by decide +kernel
theorem dX8_recover_6 : decode cX8_recover 6 = .ok (.getfield 44, 3) := by decide +kernel
theorem dX8_recover_9 : decode cX8_recover 9 = .ok (.iconst 0, 1) := by decide +kernel
theorem dX8_recover_10 : decode cX8_recover 10 = .ok (.aload_n 0, 1) := by decide +kernel
theorem dX8_recover_11 : decode cX8_recover 11 = .ok (.getfield 67, 3) := by decide +kernel
theorem dX8_recover_14 : decode cX8_recover 14 = .ok (.invokevirtual 176, 3) := by decide +kernel
theorem dX8_recover_17 : decode cX8_recover 17 = .ok (.istore_n 1, 1) := by decide +kernel
theorem dX8_recover_18 : decode cX8_recover 18 = .ok (.aload_n 0, 1) := by decide +kernel
theorem dX8_recover_19 : decode cX8_recover 19 = .ok (.getfield 44, 3) := by decide +kernel
theorem dX8_recover_22 : decode cX8_recover 22 = .ok (.iconst 1, 1) := by decide +kernel
theorem dX8_recover_23 : decode cX8_recover 23 = .ok (.aload_n 0, 1) := by decide +kernel
theorem dX8_recover_24 : decode cX8_recover 24 = .ok (.getfield 71, 3) := by decide +kernel
theorem dX8_recover_27 : decode cX8_recover 27 = .ok (.invokevirtual 176, 3) := by decide +kernel
theorem dX8_recover_30 : decode cX8_recover 30 = .ok (.istore_n 2, 1) := by decide +kernel
theorem dX8_recover_31 : decode cX8_recover 31 = .ok (.iload_n 1, 1) := by decide +kernel
theorem dX8_recover_32 : decode cX8_recover 32 = .ok (.ifCond .ne 9, 3) := by decide +kernel
theorem dX8_recover_35 : decode cX8_recover 35 = .ok (.iload_n 2, 1) := by decide +kernel
theorem dX8_recover_36 : decode cX8_recover 36 = .ok (.ifCond .ne 5, 3) := by decide +kernel
theorem dX8_recover_39 : decode cX8_recover 39 = .ok (.iconst 4, 1) := by decide +kernel
theorem dX8_recover_40 : decode cX8_recover 40 = .ok (.ireturn, 1) := by decide +kernel
theorem dX8_decay_0 : decode cX8_decay 0 = .ok (.aload_n 0, 1) := by decide +kernel
theorem dX8_decay_1 : decode cX8_decay 1 = .ok (.getfield 28, 3) := by decide +kernel
theorem dX8_decay_4 : decode cX8_decay 4 = .ok (.iload_n 1, 1) := by decide +kernel
theorem dX8_decay_5 : decode cX8_decay 5 = .ok (.iload_n 2, 1) := by decide +kernel
theorem dX8_decay_6 : decode cX8_decay 6 = .ok (.iload_n 3, 1) := by decide +kernel
theorem dX8_decay_7 : decode cX8_decay 7 = .ok (.invokevirtual 188, 3) := by decide +kernel
theorem dX8_decay_10 : decode cX8_decay 10 = .ok (.ireturn, 1) := by decide +kernel
theorem dX8_word_0 : decode cX8_word 0 = .ok (.aload_n 0, 1) := by decide +kernel
theorem dX8_word_1 : decode cX8_word 1 = .ok (.getfield 28, 3) := by decide +kernel
theorem dX8_word_4 : decode cX8_word 4 = .ok (.iload_n 1, 1) := by decide +kernel
theorem dX8_word_5 : decode cX8_word 5 = .ok (.iload_n 2, 1) := by decide +kernel
theorem dX8_word_6 : decode cX8_word 6 = .ok (.invokevirtual 192, 3) := by decide +kernel
theorem dX8_word_9 : decode cX8_word 9 = .ok (.ireturn, 1) := by decide +kernel
theorem dX8_block_0 : decode cX8_block 0 = .ok (.aload_n 0, 1) := by decide +kernel
theorem dX8_block_1 : decode cX8_block 1 = .ok (.getfield 77, 3) := by decide +kernel
theorem dX8_block_4 : decode cX8_block 4 = .ok (.ifCond .ne 18, 3) := by decide +kernel
theorem dX8_block_22 : decode cX8_block 22 = .ok (.iconst (-1), 1) := by decide +kernel
theorem dX8_block_23 : decode cX8_block 23 = .ok (.ireturn, 1) := by decide +kernel
theorem dX8_count_0 : decode cX8_count 0 = .ok (.iload_n 1, 1) := by decide +kernel
theorem dX8_count_1 : decode cX8_count 1 = .ok (.tableswitch 95 0 4 #[35, 43, 51, 59, 72], 35) := by decide +kernel
theorem dX8_count_36 : decode cX8_count 36 = .ok (.aload_n 0, 1) := by decide +kernel
theorem dX8_count_37 : decode cX8_count 37 = .ok (.getfield 28, 3) := by decide +kernel
theorem dX8_count_40 : decode cX8_count 40 = .ok (.getfield 195, 3) := by decide +kernel
theorem dX8_count_43 : decode cX8_count 43 = .ok (.ireturn, 1) := by decide +kernel
theorem dX8_count_44 : decode cX8_count 44 = .ok (.aload_n 0, 1) := by decide +kernel
theorem dX8_count_45 : decode cX8_count 45 = .ok (.getfield 28, 3) := by decide +kernel
theorem dX8_count_48 : decode cX8_count 48 = .ok (.getfield 202, 3) := by decide +kernel
theorem dX8_count_51 : decode cX8_count 51 = .ok (.ireturn, 1) := by decide +kernel
theorem dX8_count_52 : decode cX8_count 52 = .ok (.aload_n 0, 1) := by decide +kernel
theorem dX8_count_53 : decode cX8_count 53 = .ok (.getfield 28, 3) := by decide +kernel
theorem dX8_count_56 : decode cX8_count 56 = .ok (.getfield 205, 3) := by decide +kernel
theorem dX8_count_59 : decode cX8_count 59 = .ok (.ireturn, 1) := by decide +kernel
theorem dX8_count_60 : decode cX8_count 60 = .ok (.aload_n 0, 1) := by decide +kernel
theorem dX8_count_61 : decode cX8_count 61 = .ok (.getfield 77, 3) := by decide +kernel
theorem dX8_count_64 : decode cX8_count 64 = .ok (.ifCond .eq 7, 3) := by decide +kernel
theorem dX8_count_67 : decode cX8_count 67 = .ok (.iconst 1, 1) := by decide +kernel
theorem dX8_count_68 : decode cX8_count 68 = .ok (.goto 4, 3) := by decide +kernel
theorem dX8_count_72 : decode cX8_count 72 = .ok (.ireturn, 1) := by decide +kernel
theorem dX8_count_73 : decode cX8_count 73 = .ok (.aload_n 0, 1) := by decide +kernel
theorem dX8_count_74 : decode cX8_count 74 = .ok (.getfield 77, 3) := by decide +kernel
theorem dX8_count_77 : decode cX8_count 77 = .ok (.ifCond .eq 7, 3) := by decide +kernel
theorem dX8_count_80 : decode cX8_count 80 = .ok (.iconst (-1), 1) := by decide +kernel
theorem dX8_count_81 : decode cX8_count 81 = .ok (.goto 14, 3) := by decide +kernel
theorem dX8_count_95 : decode cX8_count 95 = .ok (.ireturn, 1) := by decide +kernel
theorem dX8_count_96 : decode cX8_count 96 = .ok (.aload_n 0, 1) := by decide +kernel
theorem dX8_count_97 : decode cX8_count 97 = .ok (.getfield 77, 3) := by decide +kernel
theorem dX8_count_100 : decode cX8_count 100 = .ok (.ifCond .eq 7, 3) := by decide +kernel
theorem dX8_count_103 : decode cX8_count 103 = .ok (.iconst 0, 1) := by decide +kernel
theorem dX8_count_104 : decode cX8_count 104 = .ok (.goto 8, 3) := by decide +kernel
theorem dX8_count_112 : decode cX8_count 112 = .ok (.ireturn, 1) := by decide +kernel
theorem dX8_told_0 : decode cX8_told 0 = .ok (.iload_n 1, 1) := by decide +kernel
theorem dX8_told_1 : decode cX8_told 1 = .ok (.iconst 1, 1) := by decide +kernel
theorem dX8_told_2 : decode cX8_told 2 = .ok (.if_icmp .ne 10, 3) := by decide +kernel
theorem dX8_told_5 : decode cX8_told 5 = .ok (.aload_n 0, 1) := by decide +kernel
theorem dX8_told_6 : decode cX8_told 6 = .ok (.getfield 71, 3) := by decide +kernel
theorem dX8_told_9 : decode cX8_told 9 = .ok (.goto 7, 3) := by decide +kernel
theorem dX8_told_12 : decode cX8_told 12 = .ok (.aload_n 0, 1) := by decide +kernel
theorem dX8_told_13 : decode cX8_told 13 = .ok (.getfield 67, 3) := by decide +kernel
theorem dX8_told_16 : decode cX8_told 16 = .ok (.areturn, 1) := by decide +kernel
theorem dX8_writeRoot_0 : decode cX8_writeRoot 0 = .ok (.aload_n 0, 1) := by decide +kernel
theorem dX8_writeRoot_1 : decode cX8_writeRoot 1 = .ok (.iload_n 1, 1) := by decide +kernel
theorem dX8_writeRoot_2 : decode cX8_writeRoot 2 = .ok (.invokevirtual 143, 3) := by decide +kernel
theorem dX8_writeRoot_5 : decode cX8_writeRoot 5 = .ok (.aload_n 0, 1) := by decide +kernel
theorem dX8_writeRoot_6 : decode cX8_writeRoot 6 = .ok (.getfield 28, 3) := by decide +kernel
theorem dX8_writeRoot_9 : decode cX8_writeRoot 9 = .ok (.invokevirtual 220, 3) := by decide +kernel
theorem dX8_writeRoot_12 : decode cX8_writeRoot 12 = .ok (.aload_n 0, 1) := by decide +kernel
theorem dX8_writeRoot_13 : decode cX8_writeRoot 13 = .ok (.getfield 28, 3) := by decide +kernel
theorem dX8_writeRoot_16 : decode cX8_writeRoot 16 = .ok (.iload_n 1, 1) := by decide +kernel
theorem dX8_writeRoot_17 : decode cX8_writeRoot 17 = .ok (.invokevirtual 224, 3) := by decide +kernel
theorem dX8_writeRoot_20 : decode cX8_writeRoot 20 = .ok (.ireturn, 1) := by decide +kernel
theorem dX8_comeUp_0 : decode cX8_comeUp 0 = .ok (.aload_n 0, 1) := by decide +kernel
theorem dX8_comeUp_1 : decode cX8_comeUp 1 = .ok (.iload_n 1, 1) := by decide +kernel
theorem dX8_comeUp_2 : decode cX8_comeUp 2 = .ok (.putfield 140, 3) := by decide +kernel
theorem dX8_comeUp_5 : decode cX8_comeUp 5 = .ok (.aload_n 0, 1) := by decide +kernel
theorem dX8_comeUp_6 : decode cX8_comeUp 6 = .ok (.getfield 74, 3) := by decide +kernel
theorem dX8_comeUp_9 : decode cX8_comeUp 9 = .ok (.aload_n 0, 1) := by decide +kernel
theorem dX8_comeUp_10 : decode cX8_comeUp 10 = .ok (.iload_n 1, 1) := by decide +kernel
theorem dX8_comeUp_11 : decode cX8_comeUp 11 = .ok (.invokevirtual 143, 3) := by decide +kernel
theorem dX8_comeUp_14 : decode cX8_comeUp 14 = .ok (.invokevirtual 184, 3) := by decide +kernel
theorem dX8_comeUp_17 : decode cX8_comeUp 17 = .ok (.aload_n 0, 1) := by decide +kernel
theorem dX8_comeUp_18 : decode cX8_comeUp 18 = .ok (.lconst 0, 1) := by decide +kernel
theorem dX8_comeUp_19 : decode cX8_comeUp 19 = .ok (.putfield 99, 3) := by decide +kernel
theorem dX8_comeUp_22 : decode cX8_comeUp 22 = .ok (.aload_n 0, 1) := by decide +kernel
theorem dX8_comeUp_23 : decode cX8_comeUp 23 = .ok (.iconst 0, 1) := by decide +kernel
theorem dX8_comeUp_24 : decode cX8_comeUp 24 = .ok (.putfield 77, 3) := by decide +kernel
theorem dX8_comeUp_27 : decode cX8_comeUp 27 = .ok (.return_, 1) := by decide +kernel
theorem dX9_init_0 : decode cX9_init 0 = .ok (.aload_n 0, 1) := by decide +kernel
theorem dX9_init_1 : decode cX9_init 1 = .ok (.invokespecial 1, 3) := by decide +kernel
theorem dX9_init_4 : decode cX9_init 4 = .ok (.aload_n 0, 1) := by decide +kernel
theorem dX9_init_5 : decode cX9_init 5 = .ok (.iconst 1, 1) := by decide +kernel
theorem dX9_init_6 : decode cX9_init 6 = .ok (.putfield 7, 3) := by decide +kernel
theorem dX9_init_9 : decode cX9_init 9 = .ok (.aload_n 0, 1) := by decide +kernel
theorem dX9_init_10 : decode cX9_init 10 = .ok (.sipush 140, 3) := by decide +kernel
theorem dX9_init_13 : decode cX9_init 13 = .ok (.newarray .int, 2) := by decide +kernel
theorem dX9_init_15 : decode cX9_init 15 = .ok (.putfield 13, 3) := by decide +kernel
theorem dX9_init_18 : decode cX9_init 18 = .ok (.aload_n 0, 1) := by decide +kernel
theorem dX9_init_19 : decode cX9_init 19 = .ok (.sipush 140, 3) := by decide +kernel
theorem dX9_init_22 : decode cX9_init 22 = .ok (.newarray .int, 2) := by decide +kernel
theorem dX9_init_24 : decode cX9_init 24 = .ok (.putfield 17, 3) := by decide +kernel
theorem dX9_init_27 : decode cX9_init 27 = .ok (.aload_n 0, 1) := by decide +kernel
theorem dX9_init_28 : decode cX9_init 28 = .ok (.sipush 140, 3) := by decide +kernel
theorem dX9_init_31 : decode cX9_init 31 = .ok (.newarray .int, 2) := by decide +kernel
theorem dX9_init_33 : decode cX9_init 33 = .ok (.putfield 20, 3) := by decide +kernel
theorem dX9_init_36 : decode cX9_init 36 = .ok (.aload_n 0, 1) := by decide +kernel
theorem dX9_init_37 : decode cX9_init 37 = .ok (.sipush 3360, 3) := by decide +kernel
theorem dX9_init_40 : decode cX9_init 40 = .ok (.newarray .int, 2) := by decide +kernel
theorem dX9_init_42 : decode cX9_init 42 = .ok (.putfield 23, 3) := by decide +kernel
theorem dX9_init_45 : decode cX9_init 45 = .ok (.aload_n 0, 1) := by decide +kernel
theorem dX9_init_46 : decode cX9_init 46 = .ok (.sipush 3360, 3) := by decide +kernel
theorem dX9_init_49 : decode cX9_init 49 = .ok (.newarray .int, 2) := by decide +kernel
theorem dX9_init_51 : decode cX9_init 51 = .ok (.putfield 26, 3) := by decide +kernel
theorem dX9_init_54 : decode cX9_init 54 = .ok (.aload_n 0, 1) := by decide +kernel
theorem dX9_init_55 : decode cX9_init 55 = .ok (.sipush 140, 3) := by decide +kernel
theorem dX9_init_58 : decode cX9_init 58 = .ok (.newarray .boolean, 2) := by decide +kernel
theorem dX9_init_60 : decode cX9_init 60 = .ok (.putfield 29, 3) := by decide +kernel
theorem dX9_init_63 : decode cX9_init 63 = .ok (.aload_n 0, 1) := by decide +kernel
theorem dX9_init_64 : decode cX9_init 64 = .ok (.sipush 140, 3) := by decide +kernel
theorem dX9_init_67 : decode cX9_init 67 = .ok (.newarray .int, 2) := by decide +kernel
theorem dX9_init_69 : decode cX9_init 69 = .ok (.putfield 33, 3) := by decide +kernel
theorem dX9_init_72 : decode cX9_init 72 = .ok (.aload_n 0, 1) := by decide +kernel
theorem dX9_init_73 : decode cX9_init 73 = .ok (.sipush 140, 3) := by decide +kernel
theorem dX9_init_76 : decode cX9_init 76 = .ok (.newarray .int, 2) := by decide +kernel
theorem dX9_init_78 : decode cX9_init 78 = .ok (.putfield 36, 3) := by decide +kernel
theorem dX9_init_81 : decode cX9_init 81 = .ok (.aload_n 0, 1) := by decide +kernel
theorem dX9_init_82 : decode cX9_init 82 = .ok (.sipush 140, 3) := by decide +kernel
theorem dX9_init_85 : decode cX9_init 85 = .ok (.newarray .int, 2) := by decide +kernel
theorem dX9_init_87 : decode cX9_init 87 = .ok (.putfield 39, 3) := by decide +kernel
theorem dX9_init_90 : decode cX9_init 90 = .ok (.aload_n 0, 1) := by decide +kernel
theorem dX9_init_91 : decode cX9_init 91 = .ok (.sipush 3360, 3) := by decide +kernel
theorem dX9_init_94 : decode cX9_init 94 = .ok (.newarray .int, 2) := by decide +kernel
theorem dX9_init_96 : decode cX9_init 96 = .ok (.putfield 42, 3) := by decide +kernel
theorem dX9_init_99 : decode cX9_init 99 = .ok (.aload_n 0, 1) := by decide +kernel
theorem dX9_init_100 : decode cX9_init 100 = .ok (.sipush 3360, 3) := by decide +kernel
theorem dX9_init_103 : decode cX9_init 103 = .ok (.newarray .int, 2) := by decide +kernel
theorem dX9_init_105 : decode cX9_init 105 = .ok (.putfield 45, 3) := by decide +kernel
theorem dX9_init_108 : decode cX9_init 108 = .ok (.aload_n 0, 1) := by decide +kernel
theorem dX9_init_109 : decode cX9_init 109 = .ok (.sipush 140, 3) := by decide +kernel
theorem dX9_init_112 : decode cX9_init 112 = .ok (.newarray .boolean, 2) := by decide +kernel
theorem dX9_init_114 : decode cX9_init 114 = .ok (.putfield 48, 3) := by decide +kernel
theorem dX9_init_117 : decode cX9_init 117 = .ok (.aload_n 0, 1) := by decide +kernel
theorem dX9_init_118 : decode cX9_init 118 = .ok (.iconst (-1), 1) := by decide +kernel
theorem dX9_init_119 : decode cX9_init 119 = .ok (.putfield 51, 3) := by decide +kernel
theorem dX9_init_122 : decode cX9_init 122 = .ok (.aload_n 0, 1) := by decide +kernel
theorem dX9_init_123 : decode cX9_init 123 = .ok (.sipush 240, 3) := by decide +kernel
theorem dX9_init_126 : decode cX9_init 126 = .ok (.newarray .boolean, 2) := by decide +kernel
theorem dX9_init_128 : decode cX9_init 128 = .ok (.putfield 55, 3) := by decide +kernel
theorem dX9_init_131 : decode cX9_init 131 = .ok (.aload_n 0, 1) := by decide +kernel
theorem dX9_init_132 : decode cX9_init 132 = .ok (.sipush 2400, 3) := by decide +kernel
theorem dX9_init_135 : decode cX9_init 135 = .ok (.newarray .int, 2) := by decide +kernel
theorem dX9_init_137 : decode cX9_init 137 = .ok (.putfield 58, 3) := by decide +kernel
theorem dX9_init_140 : decode cX9_init 140 = .ok (.aload_n 0, 1) := by decide +kernel
theorem dX9_init_141 : decode cX9_init 141 = .ok (.sipush 2400, 3) := by decide +kernel
theorem dX9_init_144 : decode cX9_init 144 = .ok (.newarray .int, 2) := by decide +kernel
theorem dX9_init_146 : decode cX9_init 146 = .ok (.putfield 61, 3) := by decide +kernel
theorem dX9_init_149 : decode cX9_init 149 = .ok (.aload_n 0, 1) := by decide +kernel
theorem dX9_init_150 : decode cX9_init 150 = .ok (.sipush 2400, 3) := by decide +kernel
theorem dX9_init_153 : decode cX9_init 153 = .ok (.newarray .int, 2) := by decide +kernel
theorem dX9_init_155 : decode cX9_init 155 = .ok (.putfield 64, 3) := by decide +kernel
theorem dX9_init_158 : decode cX9_init 158 = .ok (.aload_n 0, 1) := by decide +kernel
theorem dX9_init_159 : decode cX9_init 159 = .ok (.sipush 2400, 3) := by decide +kernel
theorem dX9_init_162 : decode cX9_init 162 = .ok (.newarray .int, 2) := by decide +kernel
theorem dX9_init_164 : decode cX9_init 164 = .ok (.putfield 67, 3) := by decide +kernel
theorem dX9_init_167 : decode cX9_init 167 = .ok (.aload_n 0, 1) := by decide +kernel
theorem dX9_init_168 : decode cX9_init 168 = .ok (.bipush 40, 2) := by decide +kernel
theorem dX9_init_170 : decode cX9_init 170 = .ok (.newarray .int, 2) := by decide +kernel
theorem dX9_init_172 : decode cX9_init 172 = .ok (.putfield 70, 3) := by decide +kernel
theorem dX9_init_175 : decode cX9_init 175 = .ok (.aload_n 0, 1) := by decide +kernel
theorem dX9_init_176 : decode cX9_init 176 = .ok (.bipush 64, 2) := by decide +kernel
theorem dX9_init_178 : decode cX9_init 178 = .ok (.newarray .int, 2) := by decide +kernel
theorem dX9_init_180 : decode cX9_init 180 = .ok (.putfield 73, 3) := by decide +kernel
theorem dX9_init_183 : decode cX9_init 183 = .ok (.aload_n 0, 1) := by decide +kernel
theorem dX9_init_184 : decode cX9_init 184 = .ok (.bipush 14, 2) := by decide +kernel
theorem dX9_init_186 : decode cX9_init 186 = .ok (.newarray .int, 2) := by decide +kernel
theorem dX9_init_188 : decode cX9_init 188 = .ok (.putfield 76, 3) := by decide +kernel
theorem dX9_init_191 : decode cX9_init 191 = .ok (.aload_n 0, 1) := by decide +kernel
theorem dX9_init_192 : decode cX9_init 192 = .ok (.bipush 14, 2) := by decide +kernel
theorem dX9_init_194 : decode cX9_init 194 = .ok (.newarray .int, 2) := by decide +kernel
theorem dX9_init_196 : decode cX9_init 196 = .ok (.putfield 79, 3) := by decide +kernel
theorem dX9_init_199 : decode cX9_init 199 = .ok (.aload_n 0, 1) := by decide +kernel
theorem dX9_init_200 : decode cX9_init 200 = .ok (.bipush 120, 2) := by decide +kernel
theorem dX9_init_202 : decode cX9_init 202 = .ok (.newarray .int, 2) := by decide +kernel
theorem dX9_init_204 : decode cX9_init 204 = .ok (.putfield 82, 3) := by decide +kernel
theorem dX9_init_207 : decode cX9_init 207 = .ok (.aload_n 0, 1) := by decide +kernel
theorem dX9_init_208 : decode cX9_init 208 = .ok (.bipush 48, 2) := by decide +kernel
theorem dX9_init_210 : decode cX9_init 210 = .ok (.newarray .int, 2) := by decide +kernel
theorem dX9_init_212 : decode cX9_init 212 = .ok (.putfield 85, 3) := by decide +kernel
theorem dX9_init_215 : decode cX9_init 215 = .ok (.aload_n 0, 1) := by decide +kernel
theorem dX9_init_216 : decode cX9_init 216 = .ok (.bipush 48, 2) := by decide +kernel
theorem dX9_init_218 : decode cX9_init 218 = .ok (.newarray .int, 2) := by decide +kernel
theorem dX9_init_220 : decode cX9_init 220 = .ok (.putfield 88, 3) := by decide +kernel
theorem dX9_init_223 : decode cX9_init 223 = .ok (.aload_n 0, 1) := by decide +kernel
theorem dX9_init_224 : decode cX9_init 224 = .ok (.bipush 12, 2) := by decide +kernel
theorem dX9_init_226 : decode cX9_init 226 = .ok (.bipush 40, 2) := by decide +kernel
theorem dX9_init_228 : decode cX9_init 228 = .ok (.iload_n 1, 1) := by decide +kernel
theorem dX9_init_229 : decode cX9_init 229 = .ok (.invokestatic 91, 3) := by decide +kernel
theorem dX9_init_232 : decode cX9_init 232 = .ok (.invokestatic 97, 3) := by decide +kernel
theorem dX9_init_235 : decode cX9_init 235 = .ok (.putfield 100, 3) := by decide +kernel
theorem dX9_init_238 : decode cX9_init 238 = .ok (.aload_n 0, 1) := by decide +kernel
theorem dX9_init_239 : decode cX9_init 239 = .ok (.iconst 4, 1) := by decide +kernel
theorem dX9_init_240 : decode cX9_init 240 = .ok (.bipush 64, 2) := by decide +kernel
theorem dX9_init_242 : decode cX9_init 242 = .ok (.iload_n 2, 1) := by decide +kernel
theorem dX9_init_243 : decode cX9_init 243 = .ok (.invokestatic 91, 3) := by decide +kernel
theorem dX9_init_246 : decode cX9_init 246 = .ok (.invokestatic 97, 3) := by decide +kernel
theorem dX9_init_249 : decode cX9_init 249 = .ok (.putfield 103, 3) := by decide +kernel
theorem dX9_init_252 : decode cX9_init 252 = .ok (.aload_n 0, 1) := by decide +kernel
theorem dX9_init_253 : decode cX9_init 253 = .ok (.aload_n 0, 1) := by decide +kernel
theorem dX9_init_254 : decode cX9_init 254 = .ok (.getfield 100, 3) := by decide +kernel
theorem dX9_init_257 : decode cX9_init 257 = .ok (.iconst 3, 1) := by decide +kernel
theorem dX9_init_258 : decode cX9_init 258 = .ok (.isub, 1) := by decide +kernel
theorem dX9_init_259 : decode cX9_init 259 = .ok (.iconst 2, 1) := by decide +kernel
theorem dX9_init_260 : decode cX9_init 260 = .ok (.idiv, 1) := by decide +kernel
theorem dX9_init_261 : decode cX9_init 261 = .ok (.putfield 106, 3) := by decide +kernel
theorem dX9_init_264 : decode cX9_init 264 = .ok (.aload_n 0, 1) := by decide +kernel
theorem dX9_init_265 : decode cX9_init 265 = .ok (.aload_n 0, 1) := by decide +kernel
theorem dX9_init_266 : decode cX9_init 266 = .ok (.getfield 100, 3) := by decide +kernel
theorem dX9_init_269 : decode cX9_init 269 = .ok (.iconst 2, 1) := by decide +kernel
theorem dX9_init_270 : decode cX9_init 270 = .ok (.isub, 1) := by decide +kernel
theorem dX9_init_271 : decode cX9_init 271 = .ok (.iconst 2, 1) := by decide +kernel
theorem dX9_init_272 : decode cX9_init 272 = .ok (.idiv, 1) := by decide +kernel
theorem dX9_init_273 : decode cX9_init 273 = .ok (.putfield 109, 3) := by decide +kernel
theorem dX9_init_276 : decode cX9_init 276 = .ok (.aload_n 0, 1) := by decide +kernel
theorem dX9_init_277 : decode cX9_init 277 = .ok (.aload_n 0, 1) := by decide +kernel
theorem dX9_init_278 : decode cX9_init 278 = .ok (.getfield 106, 3) := by decide +kernel
theorem dX9_init_281 : decode cX9_init 281 = .ok (.iconst 2, 1) := by decide +kernel
theorem dX9_init_282 : decode cX9_init 282 = .ok (.idiv, 1) := by decide +kernel
theorem dX9_init_283 : decode cX9_init 283 = .ok (.putfield 112, 3) := by decide +kernel
theorem dX9_init_286 : decode cX9_init 286 = .ok (.aload_n 0, 1) := by decide +kernel
theorem dX9_init_287 : decode cX9_init 287 = .ok (.aload_n 0, 1) := by decide +kernel
theorem dX9_init_288 : decode cX9_init 288 = .ok (.getfield 109, 3) := by decide +kernel
theorem dX9_init_291 : decode cX9_init 291 = .ok (.iconst 1, 1) := by decide +kernel
theorem dX9_init_292 : decode cX9_init 292 = .ok (.iadd, 1) := by decide +kernel
theorem dX9_init_293 : decode cX9_init 293 = .ok (.iconst 2, 1) := by decide +kernel
theorem dX9_init_294 : decode cX9_init 294 = .ok (.idiv, 1) := by decide +kernel
theorem dX9_init_295 : decode cX9_init 295 = .ok (.putfield 115, 3) := by decide +kernel
theorem dX9_init_298 : decode cX9_init 298 = .ok (.aload_n 0, 1) := by decide +kernel
theorem dX9_init_299 : decode cX9_init 299 = .ok (.aload_n 0, 1) := by decide +kernel
theorem dX9_init_300 : decode cX9_init 300 = .ok (.getfield 100, 3) := by decide +kernel
theorem dX9_init_303 : decode cX9_init 303 = .ok (.aload_n 0, 1) := by decide +kernel
theorem dX9_init_304 : decode cX9_init 304 = .ok (.getfield 103, 3) := by decide +kernel
theorem dX9_init_307 : decode cX9_init 307 = .ok (.imul, 1) := by decide +kernel
theorem dX9_init_308 : decode cX9_init 308 = .ok (.newarray .int, 2) := by decide +kernel
theorem dX9_init_310 : decode cX9_init 310 = .ok (.putfield 118, 3) := by decide +kernel
theorem dX9_init_313 : decode cX9_init 313 = .ok (.return_, 1) := by decide +kernel
theorem dX9_clearRow_0 : decode cX9_clearRow 0 = .ok (.iconst 0, 1) := by decide +kernel
theorem dX9_clearRow_1 : decode cX9_clearRow 1 = .ok (.istore_n 1, 1) := by decide +kernel
theorem dX9_clearRow_2 : decode cX9_clearRow 2 = .ok (.iload_n 1, 1) := by decide +kernel
theorem dX9_clearRow_3 : decode cX9_clearRow 3 = .ok (.aload_n 0, 1) := by decide +kernel
theorem dX9_clearRow_4 : decode cX9_clearRow 4 = .ok (.getfield 100, 3) := by decide +kernel
theorem dX9_clearRow_7 : decode cX9_clearRow 7 = .ok (.if_icmp .ge 16, 3) := by decide +kernel
theorem dX9_clearRow_10 : decode cX9_clearRow 10 = .ok (.aload_n 0, 1) := by decide +kernel
theorem dX9_clearRow_11 : decode cX9_clearRow 11 = .ok (.getfield 70, 3) := by decide +kernel
theorem dX9_clearRow_14 : decode cX9_clearRow 14 = .ok (.iload_n 1, 1) := by decide +kernel
theorem dX9_clearRow_15 : decode cX9_clearRow 15 = .ok (.iconst 0, 1) := by decide +kernel
theorem dX9_clearRow_16 : decode cX9_clearRow 16 = .ok (.iastore, 1) := by decide +kernel
theorem dX9_clearRow_17 : decode cX9_clearRow 17 = .ok (.iinc 1 1, 3) := by decide +kernel
theorem dX9_clearRow_20 : decode cX9_clearRow 20 = .ok (.goto (-18), 3) := by decide +kernel
theorem dX9_clearRow_23 : decode cX9_clearRow 23 = .ok (.return_, 1) := by decide +kernel
theorem dX9_write_0 : decode cX9_write 0 = .ok (.bipush 17, 2) := by decide +kernel
theorem dX9_write_2 : decode cX9_write 2 = .ok (.istore_n 2, 1) := by decide +kernel
theorem dX9_write_3 : decode cX9_write 3 = .ok (.iconst 0, 1) := by decide +kernel
theorem dX9_write_4 : decode cX9_write 4 = .ok (.istore_n 3, 1) := by decide +kernel
theorem dX9_write_5 : decode cX9_write 5 = .ok (.iload_n 3, 1) := by decide +kernel
theorem dX9_write_6 : decode cX9_write 6 = .ok (.aload_n 0, 1) := by decide +kernel
theorem dX9_write_7 : decode cX9_write 7 = .ok (.getfield 100, 3) := by decide +kernel
theorem dX9_write_10 : decode cX9_write 10 = .ok (.iconst 1, 1) := by decide +kernel
theorem dX9_write_11 : decode cX9_write 11 = .ok (.isub, 1) := by decide +kernel
theorem dX9_write_12 : decode cX9_write 12 = .ok (.if_icmp .ge 21, 3) := by decide +kernel
theorem dX9_write_15 : decode cX9_write 15 = .ok (.bipush 31, 2) := by decide +kernel
theorem dX9_write_17 : decode cX9_write 17 = .ok (.iload_n 2, 1) := by decide +kernel
theorem dX9_write_18 : decode cX9_write 18 = .ok (.imul, 1) := by decide +kernel
theorem dX9_write_19 : decode cX9_write 19 = .ok (.aload_n 0, 1) := by decide +kernel
theorem dX9_write_20 : decode cX9_write 20 = .ok (.getfield 70, 3) := by decide +kernel
theorem dX9_write_23 : decode cX9_write 23 = .ok (.iload_n 3, 1) := by decide +kernel
theorem dX9_write_24 : decode cX9_write 24 = .ok (.iaload, 1) := by decide +kernel
theorem dX9_write_25 : decode cX9_write 25 = .ok (.iadd, 1) := by decide +kernel
theorem dX9_write_26 : decode cX9_write 26 = .ok (.istore_n 2, 1) := by decide +kernel
theorem dX9_write_27 : decode cX9_write 27 = .ok (.iinc 3 1, 3) := by decide +kernel
theorem dX9_write_30 : decode cX9_write 30 = .ok (.goto (-25), 3) := by decide +kernel
theorem dX9_write_33 : decode cX9_write 33 = .ok (.aload_n 0, 1) := by decide +kernel
theorem dX9_write_34 : decode cX9_write 34 = .ok (.getfield 70, 3) := by decide +kernel
theorem dX9_write_37 : decode cX9_write 37 = .ok (.aload_n 0, 1) := by decide +kernel
theorem dX9_write_38 : decode cX9_write 38 = .ok (.getfield 100, 3) := by decide +kernel
theorem dX9_write_41 : decode cX9_write 41 = .ok (.iconst 1, 1) := by decide +kernel
theorem dX9_write_42 : decode cX9_write 42 = .ok (.isub, 1) := by decide +kernel
theorem dX9_write_43 : decode cX9_write 43 = .ok (.iload_n 2, 1) := by decide +kernel
theorem dX9_write_44 : decode cX9_write 44 = .ok (.iastore, 1) := by decide +kernel
theorem dX9_write_45 : decode cX9_write 45 = .ok (.aload_n 0, 1) := by decide +kernel
theorem dX9_write_46 : decode cX9_write 46 = .ok (.getfield 100, 3) := by decide +kernel
theorem dX9_write_49 : decode cX9_write 49 = .ok (.istore_n 3, 1) := by decide +kernel
theorem dX9_write_50 : decode cX9_write 50 = .ok (.aload_n 0, 1) := by decide +kernel
theorem dX9_write_51 : decode cX9_write 51 = .ok (.getfield 121, 3) := by decide +kernel
theorem dX9_write_54 : decode cX9_write 54 = .ok (.ifCond .eq 14, 3) := by decide +kernel
theorem dX9_write_68 : decode cX9_write 68 = .ok (.iconst 0, 1) := by decide +kernel
theorem dX9_write_69 : decode cX9_write 69 = .ok (.istore 4, 2) := by decide +kernel
theorem dX9_write_71 : decode cX9_write 71 = .ok (.iload 4, 2) := by decide +kernel
theorem dX9_write_73 : decode cX9_write 73 = .ok (.ifCond .eq 15, 3) := by decide +kernel
theorem dX9_write_88 : decode cX9_write 88 = .ok (.iconst 0, 1) := by decide +kernel
theorem dX9_write_89 : decode cX9_write 89 = .ok (.istore 5, 2) := by decide +kernel
theorem dX9_write_91 : decode cX9_write 91 = .ok (.iload 5, 2) := by decide +kernel
theorem dX9_write_93 : decode cX9_write 93 = .ok (.iload_n 3, 1) := by decide +kernel
theorem dX9_write_94 : decode cX9_write 94 = .ok (.if_icmp .ge 30, 3) := by decide +kernel
theorem dX9_write_97 : decode cX9_write 97 = .ok (.aload_n 0, 1) := by decide +kernel
theorem dX9_write_98 : decode cX9_write 98 = .ok (.getfield 118, 3) := by decide +kernel
theorem dX9_write_101 : decode cX9_write 101 = .ok (.aload_n 0, 1) := by decide +kernel
theorem dX9_write_102 : decode cX9_write 102 = .ok (.getfield 100, 3) := by decide +kernel
theorem dX9_write_105 : decode cX9_write 105 = .ok (.iload_n 1, 1) := by decide +kernel
theorem dX9_write_106 : decode cX9_write 106 = .ok (.imul, 1) := by decide +kernel
theorem dX9_write_107 : decode cX9_write 107 = .ok (.iload 5, 2) := by decide +kernel
theorem dX9_write_109 : decode cX9_write 109 = .ok (.iadd, 1) := by decide +kernel
theorem dX9_write_110 : decode cX9_write 110 = .ok (.aload_n 0, 1) := by decide +kernel
theorem dX9_write_111 : decode cX9_write 111 = .ok (.getfield 70, 3) := by decide +kernel
theorem dX9_write_114 : decode cX9_write 114 = .ok (.iload 5, 2) := by decide +kernel
theorem dX9_write_116 : decode cX9_write 116 = .ok (.iaload, 1) := by decide +kernel
theorem dX9_write_117 : decode cX9_write 117 = .ok (.iastore, 1) := by decide +kernel
theorem dX9_write_118 : decode cX9_write 118 = .ok (.iinc 5 1, 3) := by decide +kernel
theorem dX9_write_121 : decode cX9_write 121 = .ok (.goto (-30), 3) := by decide +kernel
theorem dX9_write_124 : decode cX9_write 124 = .ok (.iload 4, 2) := by decide +kernel
theorem dX9_write_126 : decode cX9_write 126 = .ok (.ifCond .eq 15, 3) := by decide +kernel
theorem dX9_write_141 : decode cX9_write 141 = .ok (.aload_n 0, 1) := by decide +kernel
theorem dX9_write_142 : decode cX9_write 142 = .ok (.getfield 121, 3) := by decide +kernel
theorem dX9_write_145 : decode cX9_write 145 = .ok (.ifCond .eq 13, 3) := by decide +kernel
theorem dX9_write_158 : decode cX9_write 158 = .ok (.aload_n 0, 1) := by decide +kernel
theorem dX9_write_159 : decode cX9_write 159 = .ok (.dup, 1) := by decide +kernel
theorem dX9_write_160 : decode cX9_write 160 = .ok (.getfield 130, 3) := by decide +kernel
theorem dX9_write_163 : decode cX9_write 163 = .ok (.iconst 1, 1) := by decide +kernel
theorem dX9_write_164 : decode cX9_write 164 = .ok (.iadd, 1) := by decide +kernel
theorem dX9_write_165 : decode cX9_write 165 = .ok (.putfield 130, 3) := by decide +kernel
theorem dX9_write_168 : decode cX9_write 168 = .ok (.iconst 1, 1) := by decide +kernel
theorem dX9_write_169 : decode cX9_write 169 = .ok (.ireturn, 1) := by decide +kernel
theorem dX9_writeRoot_0 : decode cX9_writeRoot 0 = .ok (.aload_n 0, 1) := by decide +kernel
theorem dX9_writeRoot_1 : decode cX9_writeRoot 1 = .ok (.invokevirtual 133, 3) := by decide +kernel
theorem dX9_writeRoot_4 : decode cX9_writeRoot 4 = .ok (.aload_n 0, 1) := by decide +kernel
theorem dX9_writeRoot_5 : decode cX9_writeRoot 5 = .ok (.getfield 70, 3) := by decide +kernel
theorem dX9_writeRoot_8 : decode cX9_writeRoot 8 = .ok (.iconst 0, 1) := by decide +kernel
theorem dX9_writeRoot_9 : decode cX9_writeRoot 9 = .ok (.ldc 136, 2) := by decide +kernel
theorem dX9_writeRoot_11 : decode cX9_writeRoot 11 = .ok (.iastore, 1) := by decide +kernel
theorem dX9_writeRoot_12 : decode cX9_writeRoot 12 = .ok (.aload_n 0, 1) := by decide +kernel
theorem dX9_writeRoot_13 : decode cX9_writeRoot 13 = .ok (.getfield 70, 3) := by decide +kernel
theorem dX9_writeRoot_16 : decode cX9_writeRoot 16 = .ok (.iconst 1, 1) := by decide +kernel
theorem dX9_writeRoot_17 : decode cX9_writeRoot 17 = .ok (.iload_n 2, 1) := by decide +kernel
theorem dX9_writeRoot_18 : decode cX9_writeRoot 18 = .ok (.iastore, 1) := by decide +kernel
theorem dX9_writeRoot_19 : decode cX9_writeRoot 19 = .ok (.aload_n 0, 1) := by decide +kernel
theorem dX9_writeRoot_20 : decode cX9_writeRoot 20 = .ok (.getfield 70, 3) := by decide +kernel
theorem dX9_writeRoot_23 : decode cX9_writeRoot 23 = .ok (.iconst 2, 1) := by decide +kernel
theorem dX9_writeRoot_24 : decode cX9_writeRoot 24 = .ok (.iload_n 3, 1) := by decide +kernel
theorem dX9_writeRoot_25 : decode cX9_writeRoot 25 = .ok (.iastore, 1) := by decide +kernel
theorem dX9_writeRoot_26 : decode cX9_writeRoot 26 = .ok (.aload_n 0, 1) := by decide +kernel
theorem dX9_writeRoot_27 : decode cX9_writeRoot 27 = .ok (.getfield 70, 3) := by decide +kernel
theorem dX9_writeRoot_30 : decode cX9_writeRoot 30 = .ok (.iconst 3, 1) := by decide +kernel
theorem dX9_writeRoot_31 : decode cX9_writeRoot 31 = .ok (.iload 4, 2) := by decide +kernel
theorem dX9_writeRoot_33 : decode cX9_writeRoot 33 = .ok (.iastore, 1) := by decide +kernel
theorem dX9_writeRoot_34 : decode cX9_writeRoot 34 = .ok (.aload_n 0, 1) := by decide +kernel
theorem dX9_writeRoot_35 : decode cX9_writeRoot 35 = .ok (.iload_n 1, 1) := by decide +kernel
theorem dX9_writeRoot_36 : decode cX9_writeRoot 36 = .ok (.invokevirtual 137, 3) := by decide +kernel
theorem dX9_writeRoot_39 : decode cX9_writeRoot 39 = .ok (.ireturn, 1) := by decide +kernel
theorem dX9_put_0 : decode cX9_put 0 = .ok (.aload_n 0, 1) := by decide +kernel
theorem dX9_put_1 : decode cX9_put 1 = .ok (.getfield 7, 3) := by decide +kernel
theorem dX9_put_4 : decode cX9_put 4 = .ok (.ifCond .eq 5, 3) := by decide +kernel
theorem dX9_put_7 : decode cX9_put 7 = .ok (.iconst 3, 1) := by decide +kernel
theorem dX9_put_8 : decode cX9_put 8 = .ok (.ireturn, 1) := by decide +kernel
theorem dX9_remove_0 : decode cX9_remove 0 = .ok (.aload_n 0, 1) := by decide +kernel
theorem dX9_remove_1 : decode cX9_remove 1 = .ok (.getfield 7, 3) := by decide +kernel
theorem dX9_remove_4 : decode cX9_remove 4 = .ok (.ifCond .eq 5, 3) := by decide +kernel
theorem dX9_remove_7 : decode cX9_remove 7 = .ok (.iconst 3, 1) := by decide +kernel
theorem dX9_remove_8 : decode cX9_remove 8 = .ok (.ireturn, 1) := by decide +kernel
theorem dX9_forget_0 : decode cX9_forget 0 = .ok (.iconst 0, 1) := by decide +kernel
theorem dX9_forget_1 : decode cX9_forget 1 = .ok (.istore_n 1, 1) := by decide +kernel
theorem dX9_forget_2 : decode cX9_forget 2 = .ok (.iload_n 1, 1) := by decide +kernel
theorem dX9_forget_3 : decode cX9_forget 3 = .ok (.sipush 140, 3) := by decide +kernel
theorem dX9_forget_6 : decode cX9_forget 6 = .ok (.if_icmp .ge 16, 3) := by decide +kernel
theorem dX9_forget_9 : decode cX9_forget 9 = .ok (.aload_n 0, 1) := by decide +kernel
theorem dX9_forget_10 : decode cX9_forget 10 = .ok (.getfield 13, 3) := by decide +kernel
theorem dX9_forget_13 : decode cX9_forget 13 = .ok (.iload_n 1, 1) := by decide +kernel
theorem dX9_forget_14 : decode cX9_forget 14 = .ok (.iconst 0, 1) := by decide +kernel
theorem dX9_forget_15 : decode cX9_forget 15 = .ok (.iastore, 1) := by decide +kernel
theorem dX9_forget_16 : decode cX9_forget 16 = .ok (.iinc 1 1, 3) := by decide +kernel
theorem dX9_forget_19 : decode cX9_forget 19 = .ok (.goto (-17), 3) := by decide +kernel
theorem dX9_forget_22 : decode cX9_forget 22 = .ok (.aload_n 0, 1) := by decide +kernel
theorem dX9_forget_23 : decode cX9_forget 23 = .ok (.iconst (-1), 1) := by decide +kernel
theorem dX9_forget_24 : decode cX9_forget 24 = .ok (.putfield 51, 3) := by decide +kernel
theorem dX9_forget_27 : decode cX9_forget 27 = .ok (.aload_n 0, 1) := by decide +kernel
theorem dX9_forget_28 : decode cX9_forget 28 = .ok (.iconst 0, 1) := by decide +kernel
theorem dX9_forget_29 : decode cX9_forget 29 = .ok (.putfield 224, 3) := by decide +kernel
theorem dX9_forget_32 : decode cX9_forget 32 = .ok (.iconst 0, 1) := by decide +kernel
theorem dX9_forget_33 : decode cX9_forget 33 = .ok (.istore_n 1, 1) := by decide +kernel
theorem dX9_forget_34 : decode cX9_forget 34 = .ok (.iload_n 1, 1) := by decide +kernel
theorem dX9_forget_35 : decode cX9_forget 35 = .ok (.sipush 240, 3) := by decide +kernel
theorem dX9_forget_38 : decode cX9_forget 38 = .ok (.if_icmp .ge 16, 3) := by decide +kernel
theorem dX9_forget_41 : decode cX9_forget 41 = .ok (.aload_n 0, 1) := by decide +kernel
theorem dX9_forget_42 : decode cX9_forget 42 = .ok (.getfield 55, 3) := by decide +kernel
theorem dX9_forget_45 : decode cX9_forget 45 = .ok (.iload_n 1, 1) := by decide +kernel
theorem dX9_forget_46 : decode cX9_forget 46 = .ok (.iconst 0, 1) := by decide +kernel
theorem dX9_forget_47 : decode cX9_forget 47 = .ok (.bastore, 1) := by decide +kernel
theorem dX9_forget_48 : decode cX9_forget 48 = .ok (.iinc 1 1, 3) := by decide +kernel
theorem dX9_forget_51 : decode cX9_forget 51 = .ok (.goto (-17), 3) := by decide +kernel
theorem dX9_forget_54 : decode cX9_forget 54 = .ok (.return_, 1) := by decide +kernel
theorem dX9_format_0 : decode cX9_format 0 = .ok (.aload_n 0, 1) := by decide +kernel
theorem dX9_format_1 : decode cX9_format 1 = .ok (.iconst 0, 1) := by decide +kernel
theorem dX9_format_2 : decode cX9_format 2 = .ok (.putfield 121, 3) := by decide +kernel
theorem dX9_format_5 : decode cX9_format 5 = .ok (.aload_n 0, 1) := by decide +kernel
theorem dX9_format_6 : decode cX9_format 6 = .ok (.invokevirtual 227, 3) := by decide +kernel
theorem dX9_format_9 : decode cX9_format 9 = .ok (.aload_n 0, 1) := by decide +kernel
theorem dX9_format_10 : decode cX9_format 10 = .ok (.iconst 0, 1) := by decide +kernel
theorem dX9_format_11 : decode cX9_format 11 = .ok (.iconst 0, 1) := by decide +kernel
theorem dX9_format_12 : decode cX9_format 12 = .ok (.iconst 0, 1) := by decide +kernel
theorem dX9_format_13 : decode cX9_format 13 = .ok (.iconst 0, 1) := by decide +kernel
theorem dX9_format_14 : decode cX9_format 14 = .ok (.invokevirtual 230, 3) := by decide +kernel
theorem dX9_format_17 : decode cX9_format 17 = .ok (.ifCond .eq 18, 3) := by decide +kernel
theorem dX9_format_20 : decode cX9_format 20 = .ok (.aload_n 0, 1) := by decide +kernel
theorem dX9_format_21 : decode cX9_format 21 = .ok (.iconst 1, 1) := by decide +kernel
theorem dX9_format_22 : decode cX9_format 22 = .ok (.iconst 0, 1) := by decide +kernel
theorem dX9_format_23 : decode cX9_format 23 = .ok (.iconst 0, 1) := by decide +kernel
theorem dX9_format_24 : decode cX9_format 24 = .ok (.iconst 0, 1) := by decide +kernel
theorem dX9_format_25 : decode cX9_format 25 = .ok (.invokevirtual 230, 3) := by decide +kernel
theorem dX9_format_28 : decode cX9_format 28 = .ok (.ifCond .eq 7, 3) := by decide +kernel
theorem dX9_format_31 : decode cX9_format 31 = .ok (.iconst 1, 1) := by decide +kernel
theorem dX9_format_32 : decode cX9_format 32 = .ok (.goto 4, 3) := by decide +kernel
theorem dX9_format_36 : decode cX9_format 36 = .ok (.istore_n 1, 1) := by decide +kernel
theorem dX9_format_37 : decode cX9_format 37 = .ok (.aload_n 0, 1) := by decide +kernel
theorem dX9_format_38 : decode cX9_format 38 = .ok (.iconst 0, 1) := by decide +kernel
theorem dX9_format_39 : decode cX9_format 39 = .ok (.putfield 234, 3) := by decide +kernel
theorem dX9_format_42 : decode cX9_format 42 = .ok (.aload_n 0, 1) := by decide +kernel
theorem dX9_format_43 : decode cX9_format 43 = .ok (.iconst 0, 1) := by decide +kernel
theorem dX9_format_44 : decode cX9_format 44 = .ok (.putfield 237, 3) := by decide +kernel
theorem dX9_format_47 : decode cX9_format 47 = .ok (.aload_n 0, 1) := by decide +kernel
theorem dX9_format_48 : decode cX9_format 48 = .ok (.iconst 0, 1) := by decide +kernel
theorem dX9_format_49 : decode cX9_format 49 = .ok (.putfield 7, 3) := by decide +kernel
theorem dX9_format_52 : decode cX9_format 52 = .ok (.return_, 1) := by decide +kernel
theorem dX9_commit_0 : decode cX9_commit 0 = .ok (.aload_n 0, 1) := by decide +kernel
theorem dX9_commit_1 : decode cX9_commit 1 = .ok (.getfield 7, 3) := by decide +kernel
theorem dX9_commit_4 : decode cX9_commit 4 = .ok (.ifCond .eq 5, 3) := by decide +kernel
theorem dX9_commit_7 : decode cX9_commit 7 = .ok (.iconst 3, 1) := by decide +kernel
theorem dX9_commit_8 : decode cX9_commit 8 = .ok (.ireturn, 1) := by decide +kernel
theorem dX9_arm_0 : decode cX9_arm 0 = .ok (.aload_n 0, 1) := by decide +kernel
theorem dX9_arm_1 : decode cX9_arm 1 = .ok (.iload_n 1, 1) := by decide +kernel
theorem dX9_arm_2 : decode cX9_arm 2 = .ok (.ifCond .lt 7, 3) := by decide +kernel
theorem dX9_arm_5 : decode cX9_arm 5 = .ok (.iconst 1, 1) := by decide +kernel
theorem dX9_arm_6 : decode cX9_arm 6 = .ok (.goto 4, 3) := by decide +kernel
theorem dX9_arm_9 : decode cX9_arm 9 = .ok (.iconst 0, 1) := by decide +kernel
theorem dX9_arm_10 : decode cX9_arm 10 = .ok (.putfield 121, 3) := by decide +kernel
theorem dX9_arm_13 : decode cX9_arm 13 = .ok (.aload_n 0, 1) := by decide +kernel
theorem dX9_arm_14 : decode cX9_arm 14 = .ok (.iload_n 1, 1) := by decide +kernel
theorem dX9_arm_15 : decode cX9_arm 15 = .ok (.putfield 124, 3) := by decide +kernel
theorem dX9_arm_18 : decode cX9_arm 18 = .ok (.aload_n 0, 1) := by decide +kernel
theorem dX9_arm_19 : decode cX9_arm 19 = .ok (.iconst 0, 1) := by decide +kernel
theorem dX9_arm_20 : decode cX9_arm 20 = .ok (.iload_n 2, 1) := by decide +kernel
theorem dX9_arm_21 : decode cX9_arm 21 = .ok (.invokestatic 97, 3) := by decide +kernel
theorem dX9_arm_24 : decode cX9_arm 24 = .ok (.putfield 127, 3) := by decide +kernel
theorem dX9_arm_27 : decode cX9_arm 27 = .ok (.return_, 1) := by decide +kernel
theorem dX9_isRightRoot_0 : decode cX9_isRightRoot 0 = .ok (.iconst 0, 1) := by decide +kernel
theorem dX9_isRightRoot_1 : decode cX9_isRightRoot 1 = .ok (.istore_n 2, 1) := by decide +kernel
theorem dX9_isRightRoot_2 : decode cX9_isRightRoot 2 = .ok (.iload_n 2, 1) := by decide +kernel
theorem dX9_isRightRoot_3 : decode cX9_isRightRoot 3 = .ok (.bipush 120, 2) := by decide +kernel
theorem dX9_isRightRoot_5 : decode cX9_isRightRoot 5 = .ok (.if_icmp .ge 21, 3) := by decide +kernel
theorem dX9_isRightRoot_8 : decode cX9_isRightRoot 8 = .ok (.aload_n 0, 1) := by decide +kernel
theorem dX9_isRightRoot_9 : decode cX9_isRightRoot 9 = .ok (.getfield 55, 3) := by decide +kernel
theorem dX9_isRightRoot_12 : decode cX9_isRightRoot 12 = .ok (.bipush 120, 2) := by decide +kernel
theorem dX9_isRightRoot_14 : decode cX9_isRightRoot 14 = .ok (.iload_n 1, 1) := by decide +kernel
theorem dX9_isRightRoot_15 : decode cX9_isRightRoot 15 = .ok (.imul, 1) := by decide +kernel
theorem dX9_isRightRoot_16 : decode cX9_isRightRoot 16 = .ok (.iload_n 2, 1) := by decide +kernel
theorem dX9_isRightRoot_17 : decode cX9_isRightRoot 17 = .ok (.iadd, 1) := by decide +kernel
theorem dX9_isRightRoot_18 : decode cX9_isRightRoot 18 = .ok (.iconst 0, 1) := by decide +kernel
theorem dX9_isRightRoot_19 : decode cX9_isRightRoot 19 = .ok (.bastore, 1) := by decide +kernel
theorem dX9_isRightRoot_20 : decode cX9_isRightRoot 20 = .ok (.iinc 2 1, 3) := by decide +kernel
theorem dX9_isRightRoot_23 : decode cX9_isRightRoot 23 = .ok (.goto (-21), 3) := by decide +kernel
theorem dX9_isRightRoot_26 : decode cX9_isRightRoot 26 = .ok (.aload_n 0, 1) := by decide +kernel
theorem dX9_isRightRoot_27 : decode cX9_isRightRoot 27 = .ok (.iconst 0, 1) := by decide +kernel
theorem dX9_isRightRoot_28 : decode cX9_isRightRoot 28 = .ok (.putfield 246, 3) := by decide +kernel
theorem dX9_isRightRoot_31 : decode cX9_isRightRoot 31 = .ok (.aload_n 0, 1) := by decide +kernel
theorem dX9_isRightRoot_32 : decode cX9_isRightRoot 32 = .ok (.iconst 0, 1) := by decide +kernel
theorem dX9_isRightRoot_33 : decode cX9_isRightRoot 33 = .ok (.putfield 255, 3) := by decide +kernel
theorem dX9_isRightRoot_36 : decode cX9_isRightRoot 36 = .ok (.aload_n 0, 1) := by decide +kernel
theorem dX9_isRightRoot_37 : decode cX9_isRightRoot 37 = .ok (.iconst 0, 1) := by decide +kernel
theorem dX9_isRightRoot_38 : decode cX9_isRightRoot 38 = .ok (.putfield 249, 3) := by decide +kernel
theorem dX9_isRightRoot_41 : decode cX9_isRightRoot 41 = .ok (.aload_n 0, 1) := by decide +kernel
theorem dX9_isRightRoot_42 : decode cX9_isRightRoot 42 = .ok (.getfield 100, 3) := by decide +kernel
theorem dX9_isRightRoot_45 : decode cX9_isRightRoot 45 = .ok (.iload_n 1, 1) := by decide +kernel
theorem dX9_isRightRoot_46 : decode cX9_isRightRoot 46 = .ok (.imul, 1) := by decide +kernel
theorem dX9_isRightRoot_47 : decode cX9_isRightRoot 47 = .ok (.istore_n 2, 1) := by decide +kernel
theorem dX9_isRightRoot_48 : decode cX9_isRightRoot 48 = .ok (.aload_n 0, 1) := by decide +kernel
theorem dX9_isRightRoot_49 : decode cX9_isRightRoot 49 = .ok (.getfield 118, 3) := by decide +kernel
theorem dX9_isRightRoot_52 : decode cX9_isRightRoot 52 = .ok (.iload_n 2, 1) := by decide +kernel
theorem dX9_isRightRoot_53 : decode cX9_isRightRoot 53 = .ok (.iaload, 1) := by decide +kernel
theorem dX9_isRightRoot_54 : decode cX9_isRightRoot 54 = .ok (.ldc 136, 2) := by decide +kernel
theorem dX9_isRightRoot_56 : decode cX9_isRightRoot 56 = .ok (.if_icmp .ne 24, 3) := by decide +kernel
theorem dX9_isRightRoot_80 : decode cX9_isRightRoot 80 = .ok (.iconst 0, 1) := by decide +kernel
theorem dX9_isRightRoot_81 : decode cX9_isRightRoot 81 = .ok (.ireturn, 1) := by decide +kernel
theorem dX9_recover_0 : decode cX9_recover 0 = .ok (.aload_n 0, 1) := by decide +kernel
theorem dX9_recover_1 : decode cX9_recover 1 = .ok (.invokevirtual 227, 3) := by decide +kernel
theorem dX9_recover_4 : decode cX9_recover 4 = .ok (.aload_n 0, 1) := by decide +kernel
theorem dX9_recover_5 : decode cX9_recover 5 = .ok (.iconst 1, 1) := by decide +kernel
theorem dX9_recover_6 : decode cX9_recover 6 = .ok (.putfield 7, 3) := by decide +kernel
theorem dX9_recover_9 : decode cX9_recover 9 = .ok (.aload_n 0, 1) := by decide +kernel
theorem dX9_recover_10 : decode cX9_recover 10 = .ok (.iconst 0, 1) := by decide +kernel
theorem dX9_recover_11 : decode cX9_recover 11 = .ok (.invokevirtual 265, 3) := by decide +kernel
theorem dX9_recover_14 : decode cX9_recover 14 = .ok (.istore_n 1, 1) := by decide +kernel
theorem dX9_recover_15 : decode cX9_recover 15 = .ok (.aload_n 0, 1) := by decide +kernel
theorem dX9_recover_16 : decode cX9_recover 16 = .ok (.iconst 1, 1) := by decide +kernel
theorem dX9_recover_17 : decode cX9_recover 17 = .ok (.invokevirtual 265, 3) := by decide +kernel
theorem dX9_recover_20 : decode cX9_recover 20 = .ok (.istore_n 2, 1) := by decide +kernel
theorem dX9_recover_21 : decode cX9_recover 21 = .ok (.iload_n 1, 1) := by decide +kernel
theorem dX9_recover_22 : decode cX9_recover 22 = .ok (.ifCond .ne 9, 3) := by decide +kernel
theorem dX9_recover_25 : decode cX9_recover 25 = .ok (.iload_n 2, 1) := by decide +kernel
theorem dX9_recover_26 : decode cX9_recover 26 = .ok (.ifCond .ne 5, 3) := by decide +kernel
theorem dX9_recover_29 : decode cX9_recover 29 = .ok (.iconst 4, 1) := by decide +kernel
theorem dX9_recover_30 : decode cX9_recover 30 = .ok (.ireturn, 1) := by decide +kernel
theorem dX9_get_0 : decode cX9_get 0 = .ok (.aload_n 0, 1) := by decide +kernel
theorem dX9_get_1 : decode cX9_get 1 = .ok (.getfield 7, 3) := by decide +kernel
theorem dX9_get_4 : decode cX9_get 4 = .ok (.ifCond .eq 7, 3) := by decide +kernel
theorem dX9_get_7 : decode cX9_get 7 = .ok (.iconst (-1), 1) := by decide +kernel
theorem dX9_get_8 : decode cX9_get 8 = .ok (.goto 8, 3) := by decide +kernel
theorem dX9_get_16 : decode cX9_get 16 = .ok (.istore_n 2, 1) := by decide +kernel
theorem dX9_get_17 : decode cX9_get 17 = .ok (.iload_n 2, 1) := by decide +kernel
theorem dX9_get_18 : decode cX9_get 18 = .ok (.iconst (-1), 1) := by decide +kernel
theorem dX9_get_19 : decode cX9_get 19 = .ok (.if_icmp .ne 7, 3) := by decide +kernel
theorem dX9_get_22 : decode cX9_get 22 = .ok (.iconst 0, 1) := by decide +kernel
theorem dX9_get_23 : decode cX9_get 23 = .ok (.goto 9, 3) := by decide +kernel
theorem dX9_get_32 : decode cX9_get 32 = .ok (.ireturn, 1) := by decide +kernel
theorem dX9_contains_0 : decode cX9_contains 0 = .ok (.aload_n 0, 1) := by decide +kernel
theorem dX9_contains_1 : decode cX9_contains 1 = .ok (.getfield 7, 3) := by decide +kernel
theorem dX9_contains_4 : decode cX9_contains 4 = .ok (.ifCond .ne 16, 3) := by decide +kernel
theorem dX9_contains_20 : decode cX9_contains 20 = .ok (.iconst 0, 1) := by decide +kernel
theorem dX9_contains_21 : decode cX9_contains 21 = .ok (.ireturn, 1) := by decide +kernel
theorem dX9_was_0 : decode cX9_was 0 = .ok (.iconst 0, 1) := by decide +kernel
theorem dX9_was_1 : decode cX9_was 1 = .ok (.istore_n 2, 1) := by decide +kernel
theorem dX9_was_2 : decode cX9_was 2 = .ok (.iload_n 2, 1) := by decide +kernel
theorem dX9_was_3 : decode cX9_was 3 = .ok (.aload_n 0, 1) := by decide +kernel
theorem dX9_was_4 : decode cX9_was 4 = .ok (.getfield 224, 3) := by decide +kernel
theorem dX9_was_7 : decode cX9_was 7 = .ok (.if_icmp .ge 33, 3) := by decide +kernel
theorem dX9_was_40 : decode cX9_was 40 = .ok (.iconst 0, 1) := by decide +kernel
theorem dX9_was_41 : decode cX9_was 41 = .ok (.ireturn, 1) := by decide +kernel
theorem dX9_size_0 : decode cX9_size 0 = .ok (.aload_n 0, 1) := by decide +kernel
theorem dX9_size_1 : decode cX9_size 1 = .ok (.getfield 7, 3) := by decide +kernel
theorem dX9_size_4 : decode cX9_size 4 = .ok (.ifCond .eq 5, 3) := by decide +kernel
theorem dX9_size_7 : decode cX9_size 7 = .ok (.iconst (-1), 1) := by decide +kernel
theorem dX9_size_8 : decode cX9_size 8 = .ok (.ireturn, 1) := by decide +kernel
theorem dX9_rank_0 : decode cX9_rank 0 = .ok (.aload_n 0, 1) := by decide +kernel
theorem dX9_rank_1 : decode cX9_rank 1 = .ok (.getfield 7, 3) := by decide +kernel
theorem dX9_rank_4 : decode cX9_rank 4 = .ok (.ifCond .eq 5, 3) := by decide +kernel
theorem dX9_rank_7 : decode cX9_rank 7 = .ok (.iconst (-1), 1) := by decide +kernel
theorem dX9_rank_8 : decode cX9_rank 8 = .ok (.ireturn, 1) := by decide +kernel
theorem dX9_key_0 : decode cX9_key 0 = .ok (.aload_n 0, 1) := by decide +kernel
theorem dX9_key_1 : decode cX9_key 1 = .ok (.getfield 7, 3) := by decide +kernel
theorem dX9_key_4 : decode cX9_key 4 = .ok (.ifCond .eq 5, 3) := by decide +kernel
theorem dX9_key_7 : decode cX9_key 7 = .ok (.iconst 0, 1) := by decide +kernel
theorem dX9_key_8 : decode cX9_key 8 = .ok (.ireturn, 1) := by decide +kernel
theorem dX9_sum_0 : decode cX9_sum 0 = .ok (.aload_n 0, 1) := by decide +kernel
theorem dX9_sum_1 : decode cX9_sum 1 = .ok (.getfield 7, 3) := by decide +kernel
theorem dX9_sum_4 : decode cX9_sum 4 = .ok (.ifCond .ne 8, 3) := by decide +kernel
theorem dX9_sum_12 : decode cX9_sum 12 = .ok (.iconst 0, 1) := by decide +kernel
theorem dX9_sum_13 : decode cX9_sum 13 = .ok (.ireturn, 1) := by decide +kernel
theorem dX9_decay_0 : decode cX9_decay 0 = .ok (.iload_n 1, 1) := by decide +kernel
theorem dX9_decay_1 : decode cX9_decay 1 = .ok (.ifCond .lt 23, 3) := by decide +kernel
theorem dX9_decay_4 : decode cX9_decay 4 = .ok (.iload_n 1, 1) := by decide +kernel
theorem dX9_decay_5 : decode cX9_decay 5 = .ok (.aload_n 0, 1) := by decide +kernel
theorem dX9_decay_6 : decode cX9_decay 6 = .ok (.getfield 103, 3) := by decide +kernel
theorem dX9_decay_9 : decode cX9_decay 9 = .ok (.if_icmp .ge 15, 3) := by decide +kernel
theorem dX9_decay_12 : decode cX9_decay 12 = .ok (.iload_n 2, 1) := by decide +kernel
theorem dX9_decay_13 : decode cX9_decay 13 = .ok (.ifCond .lt 11, 3) := by decide +kernel
theorem dX9_decay_16 : decode cX9_decay 16 = .ok (.iload_n 2, 1) := by decide +kernel
theorem dX9_decay_17 : decode cX9_decay 17 = .ok (.aload_n 0, 1) := by decide +kernel
theorem dX9_decay_18 : decode cX9_decay 18 = .ok (.getfield 100, 3) := by decide +kernel
theorem dX9_decay_21 : decode cX9_decay 21 = .ok (.if_icmp .lt 5, 3) := by decide +kernel
theorem dX9_decay_24 : decode cX9_decay 24 = .ok (.iconst 0, 1) := by decide +kernel
theorem dX9_decay_25 : decode cX9_decay 25 = .ok (.ireturn, 1) := by decide +kernel
theorem dX9_decay_26 : decode cX9_decay 26 = .ok (.aload_n 0, 1) := by decide +kernel
theorem dX9_decay_27 : decode cX9_decay 27 = .ok (.getfield 118, 3) := by decide +kernel
theorem dX9_decay_30 : decode cX9_decay 30 = .ok (.aload_n 0, 1) := by decide +kernel
theorem dX9_decay_31 : decode cX9_decay 31 = .ok (.getfield 100, 3) := by decide +kernel
theorem dX9_decay_34 : decode cX9_decay 34 = .ok (.iload_n 1, 1) := by decide +kernel
theorem dX9_decay_35 : decode cX9_decay 35 = .ok (.imul, 1) := by decide +kernel
theorem dX9_decay_36 : decode cX9_decay 36 = .ok (.iload_n 2, 1) := by decide +kernel
theorem dX9_decay_37 : decode cX9_decay 37 = .ok (.iadd, 1) := by decide +kernel
theorem dX9_decay_38 : decode cX9_decay 38 = .ok (.dup2, 1) := by decide +kernel
theorem dX9_decay_39 : decode cX9_decay 39 = .ok (.iaload, 1) := by decide +kernel
theorem dX9_decay_40 : decode cX9_decay 40 = .ok (.iload_n 3, 1) := by decide +kernel
theorem dX9_decay_41 : decode cX9_decay 41 = .ok (.ixor, 1) := by decide +kernel
theorem dX9_decay_42 : decode cX9_decay 42 = .ok (.iastore, 1) := by decide +kernel
theorem dX9_decay_43 : decode cX9_decay 43 = .ok (.iconst 1, 1) := by decide +kernel
theorem dX9_decay_44 : decode cX9_decay 44 = .ok (.ireturn, 1) := by decide +kernel
theorem dX9_word_0 : decode cX9_word 0 = .ok (.iload_n 1, 1) := by decide +kernel
theorem dX9_word_1 : decode cX9_word 1 = .ok (.ifCond .lt 23, 3) := by decide +kernel
theorem dX9_word_4 : decode cX9_word 4 = .ok (.iload_n 1, 1) := by decide +kernel
theorem dX9_word_5 : decode cX9_word 5 = .ok (.aload_n 0, 1) := by decide +kernel
theorem dX9_word_6 : decode cX9_word 6 = .ok (.getfield 103, 3) := by decide +kernel
theorem dX9_word_9 : decode cX9_word 9 = .ok (.if_icmp .ge 15, 3) := by decide +kernel
theorem dX9_word_12 : decode cX9_word 12 = .ok (.iload_n 2, 1) := by decide +kernel
theorem dX9_word_13 : decode cX9_word 13 = .ok (.ifCond .lt 11, 3) := by decide +kernel
theorem dX9_word_16 : decode cX9_word 16 = .ok (.iload_n 2, 1) := by decide +kernel
theorem dX9_word_17 : decode cX9_word 17 = .ok (.aload_n 0, 1) := by decide +kernel
theorem dX9_word_18 : decode cX9_word 18 = .ok (.getfield 100, 3) := by decide +kernel
theorem dX9_word_21 : decode cX9_word 21 = .ok (.if_icmp .lt 7, 3) := by decide +kernel
theorem dX9_word_24 : decode cX9_word 24 = .ok (.iconst 0, 1) := by decide +kernel
theorem dX9_word_25 : decode cX9_word 25 = .ok (.goto 16, 3) := by decide +kernel
theorem dX9_word_28 : decode cX9_word 28 = .ok (.aload_n 0, 1) := by decide +kernel
theorem dX9_word_29 : decode cX9_word 29 = .ok (.getfield 118, 3) := by decide +kernel
theorem dX9_word_32 : decode cX9_word 32 = .ok (.aload_n 0, 1) := by decide +kernel
theorem dX9_word_33 : decode cX9_word 33 = .ok (.getfield 100, 3) := by decide +kernel
theorem dX9_word_36 : decode cX9_word 36 = .ok (.iload_n 1, 1) := by decide +kernel
theorem dX9_word_37 : decode cX9_word 37 = .ok (.imul, 1) := by decide +kernel
theorem dX9_word_38 : decode cX9_word 38 = .ok (.iload_n 2, 1) := by decide +kernel
theorem dX9_word_39 : decode cX9_word 39 = .ok (.iadd, 1) := by decide +kernel
theorem dX9_word_40 : decode cX9_word 40 = .ok (.iaload, 1) := by decide +kernel
theorem dX9_word_41 : decode cX9_word 41 = .ok (.ireturn, 1) := by decide +kernel
theorem dX9_block_0 : decode cX9_block 0 = .ok (.aload_n 0, 1) := by decide +kernel
theorem dX9_block_1 : decode cX9_block 1 = .ok (.getfield 7, 3) := by decide +kernel
theorem dX9_block_4 : decode cX9_block 4 = .ok (.ifCond .ne 15, 3) := by decide +kernel
theorem dX9_block_19 : decode cX9_block 19 = .ok (.iconst (-1), 1) := by decide +kernel
theorem dX9_block_20 : decode cX9_block 20 = .ok (.ireturn, 1) := by decide +kernel
theorem dX9_count_0 : decode cX9_count 0 = .ok (.iload_n 1, 1) := by decide +kernel
theorem dX9_count_1 : decode cX9_count 1 = .ok (.tableswitch 192 0 9 #[55, 60, 65, 70, 83, 99, 115, 131, 160, 176], 55) := by decide +kernel
theorem dX9_count_56 : decode cX9_count 56 = .ok (.aload_n 0, 1) := by decide +kernel
theorem dX9_count_57 : decode cX9_count 57 = .ok (.getfield 103, 3) := by decide +kernel
theorem dX9_count_60 : decode cX9_count 60 = .ok (.ireturn, 1) := by decide +kernel
theorem dX9_count_61 : decode cX9_count 61 = .ok (.aload_n 0, 1) := by decide +kernel
theorem dX9_count_62 : decode cX9_count 62 = .ok (.getfield 100, 3) := by decide +kernel
theorem dX9_count_65 : decode cX9_count 65 = .ok (.ireturn, 1) := by decide +kernel
theorem dX9_count_66 : decode cX9_count 66 = .ok (.aload_n 0, 1) := by decide +kernel
theorem dX9_count_67 : decode cX9_count 67 = .ok (.getfield 130, 3) := by decide +kernel
theorem dX9_count_70 : decode cX9_count 70 = .ok (.ireturn, 1) := by decide +kernel
theorem dX9_count_71 : decode cX9_count 71 = .ok (.aload_n 0, 1) := by decide +kernel
theorem dX9_count_72 : decode cX9_count 72 = .ok (.getfield 7, 3) := by decide +kernel
theorem dX9_count_75 : decode cX9_count 75 = .ok (.ifCond .eq 7, 3) := by decide +kernel
theorem dX9_count_78 : decode cX9_count 78 = .ok (.iconst 1, 1) := by decide +kernel
theorem dX9_count_79 : decode cX9_count 79 = .ok (.goto 4, 3) := by decide +kernel
theorem dX9_count_83 : decode cX9_count 83 = .ok (.ireturn, 1) := by decide +kernel
theorem dX9_count_84 : decode cX9_count 84 = .ok (.aload_n 0, 1) := by decide +kernel
theorem dX9_count_85 : decode cX9_count 85 = .ok (.getfield 7, 3) := by decide +kernel
theorem dX9_count_88 : decode cX9_count 88 = .ok (.ifCond .eq 7, 3) := by decide +kernel
theorem dX9_count_91 : decode cX9_count 91 = .ok (.iconst (-1), 1) := by decide +kernel
theorem dX9_count_92 : decode cX9_count 92 = .ok (.goto 7, 3) := by decide +kernel
theorem dX9_count_99 : decode cX9_count 99 = .ok (.ireturn, 1) := by decide +kernel
theorem dX9_count_100 : decode cX9_count 100 = .ok (.aload_n 0, 1) := by decide +kernel
theorem dX9_count_101 : decode cX9_count 101 = .ok (.getfield 7, 3) := by decide +kernel
theorem dX9_count_104 : decode cX9_count 104 = .ok (.ifCond .eq 7, 3) := by decide +kernel
theorem dX9_count_107 : decode cX9_count 107 = .ok (.iconst 0, 1) := by decide +kernel
theorem dX9_count_108 : decode cX9_count 108 = .ok (.goto 7, 3) := by decide +kernel
theorem dX9_count_115 : decode cX9_count 115 = .ok (.ireturn, 1) := by decide +kernel
theorem dX9_count_116 : decode cX9_count 116 = .ok (.aload_n 0, 1) := by decide +kernel
theorem dX9_count_117 : decode cX9_count 117 = .ok (.getfield 7, 3) := by decide +kernel
theorem dX9_count_120 : decode cX9_count 120 = .ok (.ifCond .eq 7, 3) := by decide +kernel
theorem dX9_count_123 : decode cX9_count 123 = .ok (.iconst 0, 1) := by decide +kernel
theorem dX9_count_124 : decode cX9_count 124 = .ok (.goto 7, 3) := by decide +kernel
theorem dX9_count_131 : decode cX9_count 131 = .ok (.ireturn, 1) := by decide +kernel
theorem dX9_count_132 : decode cX9_count 132 = .ok (.aload_n 0, 1) := by decide +kernel
theorem dX9_count_133 : decode cX9_count 133 = .ok (.getfield 7, 3) := by decide +kernel
theorem dX9_count_136 : decode cX9_count 136 = .ok (.ifCond .ne 11, 3) := by decide +kernel
theorem dX9_count_147 : decode cX9_count 147 = .ok (.iconst 0, 1) := by decide +kernel
theorem dX9_count_148 : decode cX9_count 148 = .ok (.goto 12, 3) := by decide +kernel
theorem dX9_count_160 : decode cX9_count 160 = .ok (.ireturn, 1) := by decide +kernel
theorem dX9_count_161 : decode cX9_count 161 = .ok (.aload_n 0, 1) := by decide +kernel
theorem dX9_count_162 : decode cX9_count 162 = .ok (.getfield 7, 3) := by decide +kernel
theorem dX9_count_165 : decode cX9_count 165 = .ok (.ifCond .eq 7, 3) := by decide +kernel
theorem dX9_count_168 : decode cX9_count 168 = .ok (.iconst 0, 1) := by decide +kernel
theorem dX9_count_169 : decode cX9_count 169 = .ok (.goto 7, 3) := by decide +kernel
theorem dX9_count_176 : decode cX9_count 176 = .ok (.ireturn, 1) := by decide +kernel
theorem dX9_count_177 : decode cX9_count 177 = .ok (.aload_n 0, 1) := by decide +kernel
theorem dX9_count_178 : decode cX9_count 178 = .ok (.getfield 7, 3) := by decide +kernel
theorem dX9_count_181 : decode cX9_count 181 = .ok (.ifCond .eq 7, 3) := by decide +kernel
theorem dX9_count_184 : decode cX9_count 184 = .ok (.iconst 0, 1) := by decide +kernel
theorem dX9_count_185 : decode cX9_count 185 = .ok (.goto 7, 3) := by decide +kernel
theorem dX9_count_192 : decode cX9_count 192 = .ok (.ireturn, 1) := by decide +kernel
theorem dX9_count_193 : decode cX9_count 193 = .ok (.iconst 0, 1) := by decide +kernel
theorem dX9_count_194 : decode cX9_count 194 = .ok (.ireturn, 1) := by decide +kernel

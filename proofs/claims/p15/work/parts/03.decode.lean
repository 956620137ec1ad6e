theorem dX0_init_0 : decode cX0_init 0 = .ok (.aload_n 0, 1) := by decide +kernel
theorem dX0_init_1 : decode cX0_init 1 = .ok (.invokespecial 1, 3) := by decide +kernel
theorem dX0_init_4 : decode cX0_init 4 = .ok (.aload_n 0, 1) := by decide +kernel
theorem dX0_init_5 : decode cX0_init 5 = .ok (.iload_n 1, 1) := by decide +kernel
theorem dX0_init_6 : decode cX0_init 6 = .ok (.putfield 7, 3) := by decide +kernel
theorem dX0_init_9 : decode cX0_init 9 = .ok (.aload_n 0, 1) := by decide +kernel
theorem dX0_init_10 : decode cX0_init 10 = .ok (.iload_n 2, 1) := by decide +kernel
theorem dX0_init_11 : decode cX0_init 11 = .ok (.putfield 13, 3) := by decide +kernel
theorem dX0_init_14 : decode cX0_init 14 = .ok (.aload_n 0, 1) := by decide +kernel
theorem dX0_init_15 : decode cX0_init 15 = .ok (.iload_n 1, 1) := by decide +kernel
theorem dX0_init_16 : decode cX0_init 16 = .ok (.iload_n 2, 1) := by decide +kernel
theorem dX0_init_17 : decode cX0_init 17 = .ok (.imul, 1) := by decide +kernel
theorem dX0_init_18 : decode cX0_init 18 = .ok (.newarray .int, 2) := by decide +kernel
theorem dX0_init_20 : decode cX0_init 20 = .ok (.putfield 16, 3) := by decide +kernel
theorem dX0_init_23 : decode cX0_init 23 = .ok (.aload_n 0, 1) := by decide +kernel
theorem dX0_init_24 : decode cX0_init 24 = .ok (.iload_n 1, 1) := by decide +kernel
theorem dX0_init_25 : decode cX0_init 25 = .ok (.newarray .int, 2) := by decide +kernel
theorem dX0_init_27 : decode cX0_init 27 = .ok (.putfield 20, 3) := by decide +kernel
theorem dX0_init_30 : decode cX0_init 30 = .ok (.aload_n 0, 1) := by decide +kernel
theorem dX0_init_31 : decode cX0_init 31 = .ok (.iconst (-1), 1) := by decide +kernel
theorem dX0_init_32 : decode cX0_init 32 = .ok (.putfield 23, 3) := by decide +kernel
theorem dX0_init_35 : decode cX0_init 35 = .ok (.return_, 1) := by decide +kernel
theorem dX0_setCut_0 : decode cX0_setCut 0 = .ok (.aload_n 0, 1) := by decide +kernel
theorem dX0_setCut_1 : decode cX0_setCut 1 = .ok (.iconst (-1), 1) := by decide +kernel
theorem dX0_setCut_2 : decode cX0_setCut 2 = .ok (.iload_n 1, 1) := by decide +kernel
theorem dX0_setCut_3 : decode cX0_setCut 3 = .ok (.invokestatic 26, 3) := by decide +kernel
theorem dX0_setCut_6 : decode cX0_setCut 6 = .ok (.putfield 23, 3) := by decide +kernel
theorem dX0_setCut_9 : decode cX0_setCut 9 = .ok (.aload_n 0, 1) := by decide +kernel
theorem dX0_setCut_10 : decode cX0_setCut 10 = .ok (.iconst 0, 1) := by decide +kernel
theorem dX0_setCut_11 : decode cX0_setCut 11 = .ok (.aload_n 0, 1) := by decide +kernel
theorem dX0_setCut_12 : decode cX0_setCut 12 = .ok (.getfield 7, 3) := by decide +kernel
theorem dX0_setCut_15 : decode cX0_setCut 15 = .ok (.iload_n 2, 1) := by decide +kernel
theorem dX0_setCut_16 : decode cX0_setCut 16 = .ok (.invokestatic 32, 3) := by decide +kernel
theorem dX0_setCut_19 : decode cX0_setCut 19 = .ok (.invokestatic 26, 3) := by decide +kernel
theorem dX0_setCut_22 : decode cX0_setCut 22 = .ok (.putfield 35, 3) := by decide +kernel
theorem dX0_setCut_25 : decode cX0_setCut 25 = .ok (.return_, 1) := by decide +kernel
theorem dX0_cellOf_0 : decode cX0_cellOf 0 = .ok (.iload_n 1, 1) := by decide +kernel
theorem dX0_cellOf_1 : decode cX0_cellOf 1 = .ok (.ifCond .lt 27, 3) := by decide +kernel
theorem dX0_cellOf_4 : decode cX0_cellOf 4 = .ok (.iload_n 1, 1) := by decide +kernel
theorem dX0_cellOf_5 : decode cX0_cellOf 5 = .ok (.aload_n 0, 1) := by decide +kernel
theorem dX0_cellOf_6 : decode cX0_cellOf 6 = .ok (.getfield 13, 3) := by decide +kernel
theorem dX0_cellOf_9 : decode cX0_cellOf 9 = .ok (.if_icmp .ge 19, 3) := by decide +kernel
theorem dX0_cellOf_12 : decode cX0_cellOf 12 = .ok (.iload_n 2, 1) := by decide +kernel
theorem dX0_cellOf_13 : decode cX0_cellOf 13 = .ok (.ifCond .lt 15, 3) := by decide +kernel
theorem dX0_cellOf_16 : decode cX0_cellOf 16 = .ok (.iload_n 2, 1) := by decide +kernel
theorem dX0_cellOf_17 : decode cX0_cellOf 17 = .ok (.aload_n 0, 1) := by decide +kernel
theorem dX0_cellOf_18 : decode cX0_cellOf 18 = .ok (.getfield 7, 3) := by decide +kernel
theorem dX0_cellOf_21 : decode cX0_cellOf 21 = .ok (.if_icmp .ge 7, 3) := by decide +kernel
theorem dX0_cellOf_24 : decode cX0_cellOf 24 = .ok (.iconst 1, 1) := by decide +kernel
theorem dX0_cellOf_25 : decode cX0_cellOf 25 = .ok (.goto 4, 3) := by decide +kernel
theorem dX0_cellOf_28 : decode cX0_cellOf 28 = .ok (.iconst 0, 1) := by decide +kernel
theorem dX0_cellOf_29 : decode cX0_cellOf 29 = .ok (.istore_n 3, 1) := by decide +kernel
theorem dX0_cellOf_30 : decode cX0_cellOf 30 = .ok (.iload_n 3, 1) := by decide +kernel
theorem dX0_cellOf_31 : decode cX0_cellOf 31 = .ok (.ifCond .eq 14, 3) := by decide +kernel
theorem dX0_cellOf_34 : decode cX0_cellOf 34 = .ok (.iload_n 1, 1) := by decide +kernel
theorem dX0_cellOf_35 : decode cX0_cellOf 35 = .ok (.aload_n 0, 1) := by decide +kernel
theorem dX0_cellOf_36 : decode cX0_cellOf 36 = .ok (.getfield 7, 3) := by decide +kernel
theorem dX0_cellOf_39 : decode cX0_cellOf 39 = .ok (.imul, 1) := by decide +kernel
theorem dX0_cellOf_40 : decode cX0_cellOf 40 = .ok (.iload_n 2, 1) := by decide +kernel
theorem dX0_cellOf_41 : decode cX0_cellOf 41 = .ok (.iadd, 1) := by decide +kernel
theorem dX0_cellOf_42 : decode cX0_cellOf 42 = .ok (.goto 4, 3) := by decide +kernel
theorem dX0_cellOf_45 : decode cX0_cellOf 45 = .ok (.iconst (-1), 1) := by decide +kernel
theorem dX0_cellOf_46 : decode cX0_cellOf 46 = .ok (.ireturn, 1) := by decide +kernel
theorem dX0_read_0 : decode cX0_read 0 = .ok (.aload_n 0, 1) := by decide +kernel
theorem dX0_read_1 : decode cX0_read 1 = .ok (.iload_n 1, 1) := by decide +kernel
theorem dX0_read_2 : decode cX0_read 2 = .ok (.iload_n 2, 1) := by decide +kernel
theorem dX0_read_3 : decode cX0_read 3 = .ok (.invokevirtual 38, 3) := by decide +kernel
theorem dX0_read_6 : decode cX0_read 6 = .ok (.istore_n 3, 1) := by decide +kernel
theorem dX0_read_7 : decode cX0_read 7 = .ok (.iload_n 3, 1) := by decide +kernel
theorem dX0_read_8 : decode cX0_read 8 = .ok (.ifCond .lt 21, 3) := by decide +kernel
theorem dX0_read_11 : decode cX0_read 11 = .ok (.iload_n 3, 1) := by decide +kernel
theorem dX0_read_12 : decode cX0_read 12 = .ok (.aload_n 0, 1) := by decide +kernel
theorem dX0_read_13 : decode cX0_read 13 = .ok (.getfield 16, 3) := by decide +kernel
theorem dX0_read_16 : decode cX0_read 16 = .ok (.arraylength, 1) := by decide +kernel
theorem dX0_read_17 : decode cX0_read 17 = .ok (.if_icmp .ge 12, 3) := by decide +kernel
theorem dX0_read_20 : decode cX0_read 20 = .ok (.aload_n 0, 1) := by decide +kernel
theorem dX0_read_21 : decode cX0_read 21 = .ok (.getfield 16, 3) := by decide +kernel
theorem dX0_read_24 : decode cX0_read 24 = .ok (.iload_n 3, 1) := by decide +kernel
theorem dX0_read_25 : decode cX0_read 25 = .ok (.iaload, 1) := by decide +kernel
theorem dX0_read_26 : decode cX0_read 26 = .ok (.goto 4, 3) := by decide +kernel
theorem dX0_read_29 : decode cX0_read 29 = .ok (.iconst 0, 1) := by decide +kernel
theorem dX0_read_30 : decode cX0_read 30 = .ok (.ireturn, 1) := by decide +kernel
theorem dX0_turn_0 : decode cX0_turn 0 = .ok (.aload_n 0, 1) := by decide +kernel
theorem dX0_turn_1 : decode cX0_turn 1 = .ok (.iload_n 1, 1) := by decide +kernel
theorem dX0_turn_2 : decode cX0_turn 2 = .ok (.iload_n 2, 1) := by decide +kernel
theorem dX0_turn_3 : decode cX0_turn 3 = .ok (.invokevirtual 38, 3) := by decide +kernel
theorem dX0_turn_6 : decode cX0_turn 6 = .ok (.istore 4, 2) := by decide +kernel
theorem dX0_turn_8 : decode cX0_turn 8 = .ok (.iload 4, 2) := by decide +kernel
theorem dX0_turn_10 : decode cX0_turn 10 = .ok (.ifCond .lt 13, 3) := by decide +kernel
theorem dX0_turn_13 : decode cX0_turn 13 = .ok (.iload 4, 2) := by decide +kernel
theorem dX0_turn_15 : decode cX0_turn 15 = .ok (.aload_n 0, 1) := by decide +kernel
theorem dX0_turn_16 : decode cX0_turn 16 = .ok (.getfield 16, 3) := by decide +kernel
theorem dX0_turn_19 : decode cX0_turn 19 = .ok (.arraylength, 1) := by decide +kernel
theorem dX0_turn_20 : decode cX0_turn 20 = .ok (.if_icmp .lt 5, 3) := by decide +kernel
theorem dX0_turn_23 : decode cX0_turn 23 = .ok (.iconst 0, 1) := by decide +kernel
theorem dX0_turn_24 : decode cX0_turn 24 = .ok (.ireturn, 1) := by decide +kernel
theorem dX0_turn_25 : decode cX0_turn 25 = .ok (.aload_n 0, 1) := by decide +kernel
theorem dX0_turn_26 : decode cX0_turn 26 = .ok (.getfield 16, 3) := by decide +kernel
theorem dX0_turn_29 : decode cX0_turn 29 = .ok (.iload 4, 2) := by decide +kernel
theorem dX0_turn_31 : decode cX0_turn 31 = .ok (.dup2, 1) := by decide +kernel
theorem dX0_turn_32 : decode cX0_turn 32 = .ok (.iaload, 1) := by decide +kernel
theorem dX0_turn_33 : decode cX0_turn 33 = .ok (.iload_n 3, 1) := by decide +kernel
theorem dX0_turn_34 : decode cX0_turn 34 = .ok (.ixor, 1) := by decide +kernel
theorem dX0_turn_35 : decode cX0_turn 35 = .ok (.iastore, 1) := by decide +kernel
theorem dX0_turn_36 : decode cX0_turn 36 = .ok (.iconst 1, 1) := by decide +kernel
theorem dX0_turn_37 : decode cX0_turn 37 = .ok (.ireturn, 1) := by decide +kernel
theorem dX0_isSealed_0 : decode cX0_isSealed 0 = .ok (.aload_n 0, 1) := by decide +kernel
theorem dX0_isSealed_1 : decode cX0_isSealed 1 = .ok (.iload_n 1, 1) := by decide +kernel
theorem dX0_isSealed_2 : decode cX0_isSealed 2 = .ok (.iconst 0, 1) := by decide +kernel
theorem dX0_isSealed_3 : decode cX0_isSealed 3 = .ok (.invokevirtual 38, 3) := by decide +kernel
theorem dX0_isSealed_6 : decode cX0_isSealed 6 = .ok (.istore_n 2, 1) := by decide +kernel
theorem dX0_isSealed_7 : decode cX0_isSealed 7 = .ok (.aload_n 0, 1) := by decide +kernel
theorem dX0_isSealed_8 : decode cX0_isSealed 8 = .ok (.iload_n 1, 1) := by decide +kernel
theorem dX0_isSealed_9 : decode cX0_isSealed 9 = .ok (.aload_n 0, 1) := by decide +kernel
theorem dX0_isSealed_10 : decode cX0_isSealed 10 = .ok (.getfield 7, 3) := by decide +kernel
theorem dX0_isSealed_13 : decode cX0_isSealed 13 = .ok (.iconst 1, 1) := by decide +kernel
theorem dX0_isSealed_14 : decode cX0_isSealed 14 = .ok (.isub, 1) := by decide +kernel
theorem dX0_isSealed_15 : decode cX0_isSealed 15 = .ok (.invokevirtual 38, 3) := by decide +kernel
theorem dX0_isSealed_18 : decode cX0_isSealed 18 = .ok (.istore_n 3, 1) := by decide +kernel
theorem dX0_isSealed_19 : decode cX0_isSealed 19 = .ok (.iload_n 3, 1) := by decide +kernel
theorem dX0_isSealed_20 : decode cX0_isSealed 20 = .ok (.ifCond .lt 34, 3) := by decide +kernel
theorem dX0_isSealed_23 : decode cX0_isSealed 23 = .ok (.iload_n 3, 1) := by decide +kernel
theorem dX0_isSealed_24 : decode cX0_isSealed 24 = .ok (.aload_n 0, 1) := by decide +kernel
theorem dX0_isSealed_25 : decode cX0_isSealed 25 = .ok (.getfield 16, 3) := by decide +kernel
theorem dX0_isSealed_28 : decode cX0_isSealed 28 = .ok (.arraylength, 1) := by decide +kernel
theorem dX0_isSealed_29 : decode cX0_isSealed 29 = .ok (.if_icmp .ge 25, 3) := by decide +kernel
theorem dX0_isSealed_32 : decode cX0_isSealed 32 = .ok (.aload_n 0, 1) := by decide +kernel
theorem dX0_isSealed_33 : decode cX0_isSealed 33 = .ok (.getfield 16, 3) := by decide +kernel
theorem dX0_isSealed_36 : decode cX0_isSealed 36 = .ok (.iload_n 3, 1) := by decide +kernel
theorem dX0_isSealed_37 : decode cX0_isSealed 37 = .ok (.iaload, 1) := by decide +kernel
theorem dX0_isSealed_38 : decode cX0_isSealed 38 = .ok (.aload_n 0, 1) := by decide +kernel
theorem dX0_isSealed_39 : decode cX0_isSealed 39 = .ok (.getfield 16, 3) := by decide +kernel
theorem dX0_isSealed_42 : decode cX0_isSealed 42 = .ok (.iload_n 2, 1) := by decide +kernel
theorem dX0_isSealed_43 : decode cX0_isSealed 43 = .ok (.iload_n 3, 1) := by decide +kernel
theorem dX0_isSealed_44 : decode cX0_isSealed 44 = .ok (.invokestatic 41, 3) := by decide +kernel
theorem dX0_isSealed_47 : decode cX0_isSealed 47 = .ok (.if_icmp .ne 7, 3) := by decide +kernel
theorem dX0_isSealed_50 : decode cX0_isSealed 50 = .ok (.iconst 1, 1) := by decide +kernel
theorem dX0_isSealed_51 : decode cX0_isSealed 51 = .ok (.goto 4, 3) := by decide +kernel
theorem dX0_isSealed_54 : decode cX0_isSealed 54 = .ok (.iconst 0, 1) := by decide +kernel
theorem dX0_isSealed_55 : decode cX0_isSealed 55 = .ok (.ireturn, 1) := by decide +kernel
theorem dX0_sealOf_0 : decode cX0_sealOf 0 = .ok (.bipush 17, 2) := by decide +kernel
theorem dX0_sealOf_2 : decode cX0_sealOf 2 = .ok (.istore_n 3, 1) := by decide +kernel
theorem dX0_sealOf_3 : decode cX0_sealOf 3 = .ok (.iconst 0, 1) := by decide +kernel
theorem dX0_sealOf_4 : decode cX0_sealOf 4 = .ok (.iload_n 1, 1) := by decide +kernel
theorem dX0_sealOf_5 : decode cX0_sealOf 5 = .ok (.invokestatic 26, 3) := by decide +kernel
theorem dX0_sealOf_8 : decode cX0_sealOf 8 = .ok (.istore 4, 2) := by decide +kernel
theorem dX0_sealOf_10 : decode cX0_sealOf 10 = .ok (.iload 4, 2) := by decide +kernel
theorem dX0_sealOf_12 : decode cX0_sealOf 12 = .ok (.iload_n 2, 1) := by decide +kernel
theorem dX0_sealOf_13 : decode cX0_sealOf 13 = .ok (.if_icmp .ge 26, 3) := by decide +kernel
theorem dX0_sealOf_16 : decode cX0_sealOf 16 = .ok (.iload 4, 2) := by decide +kernel
theorem dX0_sealOf_18 : decode cX0_sealOf 18 = .ok (.aload_n 0, 1) := by decide +kernel
theorem dX0_sealOf_19 : decode cX0_sealOf 19 = .ok (.arraylength, 1) := by decide +kernel
theorem dX0_sealOf_20 : decode cX0_sealOf 20 = .ok (.if_icmp .ge 19, 3) := by decide +kernel
theorem dX0_sealOf_23 : decode cX0_sealOf 23 = .ok (.bipush 31, 2) := by decide +kernel
theorem dX0_sealOf_25 : decode cX0_sealOf 25 = .ok (.iload_n 3, 1) := by decide +kernel
theorem dX0_sealOf_26 : decode cX0_sealOf 26 = .ok (.imul, 1) := by decide +kernel
theorem dX0_sealOf_27 : decode cX0_sealOf 27 = .ok (.aload_n 0, 1) := by decide +kernel
theorem dX0_sealOf_28 : decode cX0_sealOf 28 = .ok (.iload 4, 2) := by decide +kernel
theorem dX0_sealOf_30 : decode cX0_sealOf 30 = .ok (.iaload, 1) := by decide +kernel
theorem dX0_sealOf_31 : decode cX0_sealOf 31 = .ok (.iadd, 1) := by decide +kernel
theorem dX0_sealOf_32 : decode cX0_sealOf 32 = .ok (.istore_n 3, 1) := by decide +kernel
theorem dX0_sealOf_33 : decode cX0_sealOf 33 = .ok (.iinc 4 1, 3) := by decide +kernel
theorem dX0_sealOf_36 : decode cX0_sealOf 36 = .ok (.goto (-26), 3) := by decide +kernel
theorem dX0_sealOf_39 : decode cX0_sealOf 39 = .ok (.iload_n 3, 1) := by decide +kernel
theorem dX0_sealOf_40 : decode cX0_sealOf 40 = .ok (.ireturn, 1) := by decide +kernel
theorem dX0_startImage_0 : decode cX0_startImage 0 = .ok (.iconst 0, 1) := by decide +kernel
theorem dX0_startImage_1 : decode cX0_startImage 1 = .ok (.istore_n 1, 1) := by decide +kernel
theorem dX0_startImage_2 : decode cX0_startImage 2 = .ok (.iload_n 1, 1) := by decide +kernel
theorem dX0_startImage_3 : decode cX0_startImage 3 = .ok (.aload_n 0, 1) := by decide +kernel
theorem dX0_startImage_4 : decode cX0_startImage 4 = .ok (.getfield 20, 3) := by decide +kernel
theorem dX0_startImage_7 : decode cX0_startImage 7 = .ok (.arraylength, 1) := by decide +kernel
theorem dX0_startImage_8 : decode cX0_startImage 8 = .ok (.if_icmp .ge 16, 3) := by decide +kernel
theorem dX0_startImage_11 : decode cX0_startImage 11 = .ok (.aload_n 0, 1) := by decide +kernel
theorem dX0_startImage_12 : decode cX0_startImage 12 = .ok (.getfield 20, 3) := by decide +kernel
theorem dX0_startImage_15 : decode cX0_startImage 15 = .ok (.iload_n 1, 1) := by decide +kernel
theorem dX0_startImage_16 : decode cX0_startImage 16 = .ok (.iconst 0, 1) := by decide +kernel
theorem dX0_startImage_17 : decode cX0_startImage 17 = .ok (.iastore, 1) := by decide +kernel
theorem dX0_startImage_18 : decode cX0_startImage 18 = .ok (.iinc 1 1, 3) := by decide +kernel
theorem dX0_startImage_21 : decode cX0_startImage 21 = .ok (.goto (-19), 3) := by decide +kernel
theorem dX0_startImage_24 : decode cX0_startImage 24 = .ok (.return_, 1) := by decide +kernel
theorem dX0_lay_0 : decode cX0_lay 0 = .ok (.iload_n 1, 1) := by decide +kernel
theorem dX0_lay_1 : decode cX0_lay 1 = .ok (.ifCond .lt 19, 3) := by decide +kernel
theorem dX0_lay_4 : decode cX0_lay 4 = .ok (.iload_n 1, 1) := by decide +kernel
theorem dX0_lay_5 : decode cX0_lay 5 = .ok (.aload_n 0, 1) := by decide +kernel
theorem dX0_lay_6 : decode cX0_lay 6 = .ok (.getfield 20, 3) := by decide +kernel
theorem dX0_lay_9 : decode cX0_lay 9 = .ok (.arraylength, 1) := by decide +kernel
theorem dX0_lay_10 : decode cX0_lay 10 = .ok (.if_icmp .ge 10, 3) := by decide +kernel
theorem dX0_lay_13 : decode cX0_lay 13 = .ok (.aload_n 0, 1) := by decide +kernel
theorem dX0_lay_14 : decode cX0_lay 14 = .ok (.getfield 20, 3) := by decide +kernel
theorem dX0_lay_17 : decode cX0_lay 17 = .ok (.iload_n 1, 1) := by decide +kernel
theorem dX0_lay_18 : decode cX0_lay 18 = .ok (.iload_n 2, 1) := by decide +kernel
theorem dX0_lay_19 : decode cX0_lay 19 = .ok (.iastore, 1) := by decide +kernel
theorem dX0_lay_20 : decode cX0_lay 20 = .ok (.return_, 1) := by decide +kernel
theorem dX0_write_0 : decode cX0_write 0 = .ok (.aload_n 0, 1) := by decide +kernel
theorem dX0_write_1 : decode cX0_write 1 = .ok (.aload_n 0, 1) := by decide +kernel
theorem dX0_write_2 : decode cX0_write 2 = .ok (.getfield 7, 3) := by decide +kernel
theorem dX0_write_5 : decode cX0_write 5 = .ok (.iconst 1, 1) := by decide +kernel
theorem dX0_write_6 : decode cX0_write 6 = .ok (.isub, 1) := by decide +kernel
theorem dX0_write_7 : decode cX0_write 7 = .ok (.aload_n 0, 1) := by decide +kernel
theorem dX0_write_8 : decode cX0_write 8 = .ok (.getfield 20, 3) := by decide +kernel
theorem dX0_write_11 : decode cX0_write 11 = .ok (.iconst 0, 1) := by decide +kernel
theorem dX0_write_12 : decode cX0_write 12 = .ok (.aload_n 0, 1) := by decide +kernel
theorem dX0_write_13 : decode cX0_write 13 = .ok (.getfield 7, 3) := by decide +kernel
theorem dX0_write_16 : decode cX0_write 16 = .ok (.iconst 1, 1) := by decide +kernel
theorem dX0_write_17 : decode cX0_write 17 = .ok (.isub, 1) := by decide +kernel
theorem dX0_write_18 : decode cX0_write 18 = .ok (.invokestatic 41, 3) := by decide +kernel
theorem dX0_write_21 : decode cX0_write 21 = .ok (.invokevirtual 45, 3) := by decide +kernel
theorem dX0_write_24 : decode cX0_write 24 = .ok (.aload_n 0, 1) := by decide +kernel
theorem dX0_write_25 : decode cX0_write 25 = .ok (.getfield 23, 3) := by decide +kernel
theorem dX0_write_28 : decode cX0_write 28 = .ok (.ifCond .ne 7, 3) := by decide +kernel
theorem dX0_write_31 : decode cX0_write 31 = .ok (.iconst 1, 1) := by decide +kernel
theorem dX0_write_32 : decode cX0_write 32 = .ok (.goto 4, 3) := by decide +kernel
theorem dX0_write_35 : decode cX0_write 35 = .ok (.iconst 0, 1) := by decide +kernel
theorem dX0_write_36 : decode cX0_write 36 = .ok (.istore_n 2, 1) := by decide +kernel
theorem dX0_write_37 : decode cX0_write 37 = .ok (.iload_n 2, 1) := by decide +kernel
theorem dX0_write_38 : decode cX0_write 38 = .ok (.ifCond .eq 10, 3) := by decide +kernel
theorem dX0_write_41 : decode cX0_write 41 = .ok (.aload_n 0, 1) := by decide +kernel
theorem dX0_write_42 : decode cX0_write 42 = .ok (.getfield 35, 3) := by decide +kernel
theorem dX0_write_45 : decode cX0_write 45 = .ok (.goto 7, 3) := by decide +kernel
theorem dX0_write_48 : decode cX0_write 48 = .ok (.aload_n 0, 1) := by decide +kernel
theorem dX0_write_49 : decode cX0_write 49 = .ok (.getfield 7, 3) := by decide +kernel
theorem dX0_write_52 : decode cX0_write 52 = .ok (.istore_n 3, 1) := by decide +kernel
theorem dX0_write_53 : decode cX0_write 53 = .ok (.iconst 0, 1) := by decide +kernel
theorem dX0_write_54 : decode cX0_write 54 = .ok (.istore 4, 2) := by decide +kernel
theorem dX0_write_56 : decode cX0_write 56 = .ok (.iload 4, 2) := by decide +kernel
theorem dX0_write_58 : decode cX0_write 58 = .ok (.iload_n 3, 1) := by decide +kernel
theorem dX0_write_59 : decode cX0_write 59 = .ok (.if_icmp .ge 57, 3) := by decide +kernel
theorem dX0_write_62 : decode cX0_write 62 = .ok (.iload 4, 2) := by decide +kernel
theorem dX0_write_64 : decode cX0_write 64 = .ok (.aload_n 0, 1) := by decide +kernel
theorem dX0_write_65 : decode cX0_write 65 = .ok (.getfield 20, 3) := by decide +kernel
theorem dX0_write_68 : decode cX0_write 68 = .ok (.arraylength, 1) := by decide +kernel
theorem dX0_write_69 : decode cX0_write 69 = .ok (.if_icmp .ge 47, 3) := by decide +kernel
theorem dX0_write_72 : decode cX0_write 72 = .ok (.aload_n 0, 1) := by decide +kernel
theorem dX0_write_73 : decode cX0_write 73 = .ok (.iload_n 1, 1) := by decide +kernel
theorem dX0_write_74 : decode cX0_write 74 = .ok (.iload 4, 2) := by decide +kernel
theorem dX0_write_76 : decode cX0_write 76 = .ok (.invokevirtual 38, 3) := by decide +kernel
theorem dX0_write_79 : decode cX0_write 79 = .ok (.istore 5, 2) := by decide +kernel
theorem dX0_write_81 : decode cX0_write 81 = .ok (.iload 5, 2) := by decide +kernel
theorem dX0_write_83 : decode cX0_write 83 = .ok (.ifCond .lt 27, 3) := by decide +kernel
theorem dX0_write_86 : decode cX0_write 86 = .ok (.iload 5, 2) := by decide +kernel
theorem dX0_write_88 : decode cX0_write 88 = .ok (.aload_n 0, 1) := by decide +kernel
theorem dX0_write_89 : decode cX0_write 89 = .ok (.getfield 16, 3) := by decide +kernel
theorem dX0_write_92 : decode cX0_write 92 = .ok (.arraylength, 1) := by decide +kernel
theorem dX0_write_93 : decode cX0_write 93 = .ok (.if_icmp .ge 17, 3) := by decide +kernel
theorem dX0_write_96 : decode cX0_write 96 = .ok (.aload_n 0, 1) := by decide +kernel
theorem dX0_write_97 : decode cX0_write 97 = .ok (.getfield 16, 3) := by decide +kernel
theorem dX0_write_100 : decode cX0_write 100 = .ok (.iload 5, 2) := by decide +kernel
theorem dX0_write_102 : decode cX0_write 102 = .ok (.aload_n 0, 1) := by decide +kernel
theorem dX0_write_103 : decode cX0_write 103 = .ok (.getfield 20, 3) := by decide +kernel
theorem dX0_write_106 : decode cX0_write 106 = .ok (.iload 4, 2) := by decide +kernel
theorem dX0_write_108 : decode cX0_write 108 = .ok (.iaload, 1) := by decide +kernel
theorem dX0_write_109 : decode cX0_write 109 = .ok (.iastore, 1) := by decide +kernel
theorem dX0_write_110 : decode cX0_write 110 = .ok (.iinc 4 1, 3) := by decide +kernel
theorem dX0_write_113 : decode cX0_write 113 = .ok (.goto (-57), 3) := by decide +kernel
theorem dX0_write_116 : decode cX0_write 116 = .ok (.aload_n 0, 1) := by decide +kernel
theorem dX0_write_117 : decode cX0_write 117 = .ok (.getfield 23, 3) := by decide +kernel
theorem dX0_write_120 : decode cX0_write 120 = .ok (.ifCond .lt 13, 3) := by decide +kernel
theorem dX0_write_123 : decode cX0_write 123 = .ok (.aload_n 0, 1) := by decide +kernel
theorem dX0_write_124 : decode cX0_write 124 = .ok (.dup, 1) := by decide +kernel
theorem dX0_write_125 : decode cX0_write 125 = .ok (.getfield 23, 3) := by decide +kernel
theorem dX0_write_128 : decode cX0_write 128 = .ok (.iconst 1, 1) := by decide +kernel
theorem dX0_write_129 : decode cX0_write 129 = .ok (.isub, 1) := by decide +kernel
theorem dX0_write_130 : decode cX0_write 130 = .ok (.putfield 23, 3) := by decide +kernel
theorem dX0_write_133 : decode cX0_write 133 = .ok (.iload_n 2, 1) := by decide +kernel
theorem dX0_write_134 : decode cX0_write 134 = .ok (.ifCond .ne 13, 3) := by decide +kernel
theorem dX0_write_137 : decode cX0_write 137 = .ok (.aload_n 0, 1) := by decide +kernel
theorem dX0_write_138 : decode cX0_write 138 = .ok (.dup, 1) := by decide +kernel
theorem dX0_write_139 : decode cX0_write 139 = .ok (.getfield 49, 3) := by decide +kernel
theorem dX0_write_142 : decode cX0_write 142 = .ok (.iconst 1, 1) := by decide +kernel
theorem dX0_write_143 : decode cX0_write 143 = .ok (.iadd, 1) := by decide +kernel
theorem dX0_write_144 : decode cX0_write 144 = .ok (.putfield 49, 3) := by decide +kernel
theorem dX0_write_147 : decode cX0_write 147 = .ok (.iload_n 2, 1) := by decide +kernel
theorem dX0_write_148 : decode cX0_write 148 = .ok (.ifCond .ne 7, 3) := by decide +kernel
theorem dX0_write_151 : decode cX0_write 151 = .ok (.iconst 1, 1) := by decide +kernel
theorem dX0_write_152 : decode cX0_write 152 = .ok (.goto 4, 3) := by decide +kernel
theorem dX0_write_155 : decode cX0_write 155 = .ok (.iconst 0, 1) := by decide +kernel
theorem dX0_write_156 : decode cX0_write 156 = .ok (.ireturn, 1) := by decide +kernel
theorem dX0_copyBlock_0 : decode cX0_copyBlock 0 = .ok (.iconst 0, 1) := by decide +kernel
theorem dX0_copyBlock_1 : decode cX0_copyBlock 1 = .ok (.istore_n 3, 1) := by decide +kernel
theorem dX0_copyBlock_2 : decode cX0_copyBlock 2 = .ok (.iload_n 3, 1) := by decide +kernel
theorem dX0_copyBlock_3 : decode cX0_copyBlock 3 = .ok (.aload_n 0, 1) := by decide +kernel
theorem dX0_copyBlock_4 : decode cX0_copyBlock 4 = .ok (.getfield 7, 3) := by decide +kernel
theorem dX0_copyBlock_7 : decode cX0_copyBlock 7 = .ok (.if_icmp .ge 20, 3) := by decide +kernel
theorem dX0_copyBlock_10 : decode cX0_copyBlock 10 = .ok (.aload_n 0, 1) := by decide +kernel
theorem dX0_copyBlock_11 : decode cX0_copyBlock 11 = .ok (.iload_n 3, 1) := by decide +kernel
theorem dX0_copyBlock_12 : decode cX0_copyBlock 12 = .ok (.aload_n 0, 1) := by decide +kernel
theorem dX0_copyBlock_13 : decode cX0_copyBlock 13 = .ok (.iload_n 1, 1) := by decide +kernel
theorem dX0_copyBlock_14 : decode cX0_copyBlock 14 = .ok (.iload_n 3, 1) := by decide +kernel
theorem dX0_copyBlock_15 : decode cX0_copyBlock 15 = .ok (.invokevirtual 52, 3) := by decide +kernel
theorem dX0_copyBlock_18 : decode cX0_copyBlock 18 = .ok (.invokevirtual 45, 3) := by decide +kernel
theorem dX0_copyBlock_21 : decode cX0_copyBlock 21 = .ok (.iinc 3 1, 3) := by decide +kernel
theorem dX0_copyBlock_24 : decode cX0_copyBlock 24 = .ok (.goto (-22), 3) := by decide +kernel
theorem dX0_copyBlock_27 : decode cX0_copyBlock 27 = .ok (.aload_n 0, 1) := by decide +kernel
theorem dX0_copyBlock_28 : decode cX0_copyBlock 28 = .ok (.iload_n 2, 1) := by decide +kernel
theorem dX0_copyBlock_29 : decode cX0_copyBlock 29 = .ok (.invokevirtual 55, 3) := by decide +kernel
theorem dX0_copyBlock_32 : decode cX0_copyBlock 32 = .ok (.ireturn, 1) := by decide +kernel
theorem dX3_most_0 : decode cX3_most 0 = .ok (.iload_n 1, 1) := by decide +kernel
theorem dX3_most_1 : decode cX3_most 1 = .ok (.ifCond .eq 10, 3) := by decide +kernel
theorem dX3_most_4 : decode cX3_most 4 = .ok (.aload_n 0, 1) := by decide +kernel
theorem dX3_most_5 : decode cX3_most 5 = .ok (.getfield 7, 3) := by decide +kernel
theorem dX3_most_8 : decode cX3_most 8 = .ok (.goto 7, 3) := by decide +kernel
theorem dX3_most_11 : decode cX3_most 11 = .ok (.aload_n 0, 1) := by decide +kernel
theorem dX3_most_12 : decode cX3_most 12 = .ok (.getfield 13, 3) := by decide +kernel
theorem dX3_most_15 : decode cX3_most 15 = .ok (.ireturn, 1) := by decide +kernel
theorem dX3_least_0 : decode cX3_least 0 = .ok (.iload_n 1, 1) := by decide +kernel
theorem dX3_least_1 : decode cX3_least 1 = .ok (.ifCond .eq 12, 3) := by decide +kernel
theorem dX3_least_4 : decode cX3_least 4 = .ok (.aload_n 0, 1) := by decide +kernel
theorem dX3_least_5 : decode cX3_least 5 = .ok (.getfield 7, 3) := by decide +kernel
theorem dX3_least_8 : decode cX3_least 8 = .ok (.iconst 2, 1) := by decide +kernel
theorem dX3_least_9 : decode cX3_least 9 = .ok (.idiv, 1) := by decide +kernel
theorem dX3_least_10 : decode cX3_least 10 = .ok (.goto 11, 3) := by decide +kernel
theorem dX3_least_13 : decode cX3_least 13 = .ok (.aload_n 0, 1) := by decide +kernel
theorem dX3_least_14 : decode cX3_least 14 = .ok (.getfield 13, 3) := by decide +kernel
theorem dX3_least_17 : decode cX3_least 17 = .ok (.iconst 1, 1) := by decide +kernel
theorem dX3_least_18 : decode cX3_least 18 = .ok (.iadd, 1) := by decide +kernel
theorem dX3_least_19 : decode cX3_least 19 = .ok (.iconst 2, 1) := by decide +kernel
theorem dX3_least_20 : decode cX3_least 20 = .ok (.idiv, 1) := by decide +kernel
theorem dX3_least_21 : decode cX3_least 21 = .ok (.ireturn, 1) := by decide +kernel
theorem dX4_clear_0 : decode cX4_clear 0 = .ok (.aload_n 0, 1) := by decide +kernel
theorem dX4_clear_1 : decode cX4_clear 1 = .ok (.iload_n 1, 1) := by decide +kernel
theorem dX4_clear_2 : decode cX4_clear 2 = .ok (.putfield 9, 3) := by decide +kernel
theorem dX4_clear_5 : decode cX4_clear 5 = .ok (.aload_n 0, 1) := by decide +kernel
theorem dX4_clear_6 : decode cX4_clear 6 = .ok (.iconst 0, 1) := by decide +kernel
theorem dX4_clear_7 : decode cX4_clear 7 = .ok (.putfield 22, 3) := by decide +kernel
theorem dX4_clear_10 : decode cX4_clear 10 = .ok (.return_, 1) := by decide +kernel
theorem dX4_copy_0 : decode cX4_copy 0 = .ok (.aload_n 0, 1) := by decide +kernel
theorem dX4_copy_1 : decode cX4_copy 1 = .ok (.aload_n 1, 1) := by decide +kernel
theorem dX4_copy_2 : decode cX4_copy 2 = .ok (.getfield 9, 3) := by decide +kernel
theorem dX4_copy_5 : decode cX4_copy 5 = .ok (.invokevirtual 26, 3) := by decide +kernel
theorem dX4_copy_8 : decode cX4_copy 8 = .ok (.aload_n 0, 1) := by decide +kernel
theorem dX4_copy_9 : decode cX4_copy 9 = .ok (.aload_n 1, 1) := by decide +kernel
theorem dX4_copy_10 : decode cX4_copy 10 = .ok (.iconst 0, 1) := by decide +kernel
theorem dX4_copy_11 : decode cX4_copy 11 = .ok (.invokevirtual 30, 3) := by decide +kernel
theorem dX4_copy_14 : decode cX4_copy 14 = .ok (.return_, 1) := by decide +kernel
theorem dX4_append_0 : decode cX4_append 0 = .ok (.iload_n 2, 1) := by decide +kernel
theorem dX4_append_1 : decode cX4_append 1 = .ok (.istore_n 3, 1) := by decide +kernel
theorem dX4_append_2 : decode cX4_append 2 = .ok (.iload_n 3, 1) := by decide +kernel
theorem dX4_append_3 : decode cX4_append 3 = .ok (.aload_n 1, 1) := by decide +kernel
theorem dX4_append_4 : decode cX4_append 4 = .ok (.getfield 22, 3) := by decide +kernel
theorem dX4_append_7 : decode cX4_append 7 = .ok (.if_icmp .ge 71, 3) := by decide +kernel
theorem dX4_append_10 : decode cX4_append 10 = .ok (.aload_n 0, 1) := by decide +kernel
theorem dX4_append_11 : decode cX4_append 11 = .ok (.getfield 22, 3) := by decide +kernel
theorem dX4_append_14 : decode cX4_append 14 = .ok (.aload_n 0, 1) := by decide +kernel
theorem dX4_append_15 : decode cX4_append 15 = .ok (.getfield 15, 3) := by decide +kernel
theorem dX4_append_18 : decode cX4_append 18 = .ok (.arraylength, 1) := by decide +kernel
theorem dX4_append_19 : decode cX4_append 19 = .ok (.if_icmp .ge 59, 3) := by decide +kernel
theorem dX4_append_22 : decode cX4_append 22 = .ok (.aload_n 0, 1) := by decide +kernel
theorem dX4_append_23 : decode cX4_append 23 = .ok (.getfield 22, 3) := by decide +kernel
theorem dX4_append_26 : decode cX4_append 26 = .ok (.aload_n 0, 1) := by decide +kernel
theorem dX4_append_27 : decode cX4_append 27 = .ok (.getfield 19, 3) := by decide +kernel
theorem dX4_append_30 : decode cX4_append 30 = .ok (.arraylength, 1) := by decide +kernel
theorem dX4_append_31 : decode cX4_append 31 = .ok (.if_icmp .ge 47, 3) := by decide +kernel
theorem dX4_append_34 : decode cX4_append 34 = .ok (.aload_n 0, 1) := by decide +kernel
theorem dX4_append_35 : decode cX4_append 35 = .ok (.getfield 15, 3) := by decide +kernel
theorem dX4_append_38 : decode cX4_append 38 = .ok (.aload_n 0, 1) := by decide +kernel
theorem dX4_append_39 : decode cX4_append 39 = .ok (.getfield 22, 3) := by decide +kernel
theorem dX4_append_42 : decode cX4_append 42 = .ok (.aload_n 1, 1) := by decide +kernel
theorem dX4_append_43 : decode cX4_append 43 = .ok (.iload_n 3, 1) := by decide +kernel
theorem dX4_append_44 : decode cX4_append 44 = .ok (.invokevirtual 34, 3) := by decide +kernel
theorem dX4_append_47 : decode cX4_append 47 = .ok (.iastore, 1) := by decide +kernel
theorem dX4_append_48 : decode cX4_append 48 = .ok (.aload_n 0, 1) := by decide +kernel
theorem dX4_append_49 : decode cX4_append 49 = .ok (.getfield 19, 3) := by decide +kernel
theorem dX4_append_52 : decode cX4_append 52 = .ok (.aload_n 0, 1) := by decide +kernel
theorem dX4_append_53 : decode cX4_append 53 = .ok (.getfield 22, 3) := by decide +kernel
theorem dX4_append_56 : decode cX4_append 56 = .ok (.aload_n 1, 1) := by decide +kernel
theorem dX4_append_57 : decode cX4_append 57 = .ok (.iload_n 3, 1) := by decide +kernel
theorem dX4_append_58 : decode cX4_append 58 = .ok (.invokevirtual 38, 3) := by decide +kernel
theorem dX4_append_61 : decode cX4_append 61 = .ok (.iastore, 1) := by decide +kernel
theorem dX4_append_62 : decode cX4_append 62 = .ok (.aload_n 0, 1) := by decide +kernel
theorem dX4_append_63 : decode cX4_append 63 = .ok (.dup, 1) := by decide +kernel
theorem dX4_append_64 : decode cX4_append 64 = .ok (.getfield 22, 3) := by decide +kernel
theorem dX4_append_67 : decode cX4_append 67 = .ok (.iconst 1, 1) := by decide +kernel
theorem dX4_append_68 : decode cX4_append 68 = .ok (.iadd, 1) := by decide +kernel
theorem dX4_append_69 : decode cX4_append 69 = .ok (.putfield 22, 3) := by decide +kernel
theorem dX4_append_72 : decode cX4_append 72 = .ok (.iinc 3 1, 3) := by decide +kernel
theorem dX4_append_75 : decode cX4_append 75 = .ok (.goto (-73), 3) := by decide +kernel
theorem dX4_append_78 : decode cX4_append 78 = .ok (.return_, 1) := by decide +kernel
theorem dX4_keyAt_0 : decode cX4_keyAt 0 = .ok (.iload_n 1, 1) := by decide +kernel
theorem dX4_keyAt_1 : decode cX4_keyAt 1 = .ok (.ifCond .lt 29, 3) := by decide +kernel
theorem dX4_keyAt_4 : decode cX4_keyAt 4 = .ok (.iload_n 1, 1) := by decide +kernel
theorem dX4_keyAt_5 : decode cX4_keyAt 5 = .ok (.aload_n 0, 1) := by decide +kernel
theorem dX4_keyAt_6 : decode cX4_keyAt 6 = .ok (.getfield 22, 3) := by decide +kernel
theorem dX4_keyAt_9 : decode cX4_keyAt 9 = .ok (.if_icmp .ge 21, 3) := by decide +kernel
theorem dX4_keyAt_12 : decode cX4_keyAt 12 = .ok (.iload_n 1, 1) := by decide +kernel
theorem dX4_keyAt_13 : decode cX4_keyAt 13 = .ok (.aload_n 0, 1) := by decide +kernel
theorem dX4_keyAt_14 : decode cX4_keyAt 14 = .ok (.getfield 15, 3) := by decide +kernel
theorem dX4_keyAt_17 : decode cX4_keyAt 17 = .ok (.arraylength, 1) := by decide +kernel
theorem dX4_keyAt_18 : decode cX4_keyAt 18 = .ok (.if_icmp .ge 12, 3) := by decide +kernel
theorem dX4_keyAt_21 : decode cX4_keyAt 21 = .ok (.aload_n 0, 1) := by decide +kernel
theorem dX4_keyAt_22 : decode cX4_keyAt 22 = .ok (.getfield 15, 3) := by decide +kernel
theorem dX4_keyAt_25 : decode cX4_keyAt 25 = .ok (.iload_n 1, 1) := by decide +kernel
theorem dX4_keyAt_26 : decode cX4_keyAt 26 = .ok (.iaload, 1) := by decide +kernel
theorem dX4_keyAt_27 : decode cX4_keyAt 27 = .ok (.goto 4, 3) := by decide +kernel
theorem dX4_keyAt_30 : decode cX4_keyAt 30 = .ok (.iconst 0, 1) := by decide +kernel
theorem dX4_keyAt_31 : decode cX4_keyAt 31 = .ok (.ireturn, 1) := by decide +kernel
theorem dX4_refAt_0 : decode cX4_refAt 0 = .ok (.iload_n 1, 1) := by decide +kernel
theorem dX4_refAt_1 : decode cX4_refAt 1 = .ok (.ifCond .lt 29, 3) := by decide +kernel
theorem dX4_refAt_4 : decode cX4_refAt 4 = .ok (.iload_n 1, 1) := by decide +kernel
theorem dX4_refAt_5 : decode cX4_refAt 5 = .ok (.aload_n 0, 1) := by decide +kernel
theorem dX4_refAt_6 : decode cX4_refAt 6 = .ok (.getfield 22, 3) := by decide +kernel
theorem dX4_refAt_9 : decode cX4_refAt 9 = .ok (.if_icmp .ge 21, 3) := by decide +kernel
theorem dX4_refAt_12 : decode cX4_refAt 12 = .ok (.iload_n 1, 1) := by decide +kernel
theorem dX4_refAt_13 : decode cX4_refAt 13 = .ok (.aload_n 0, 1) := by decide +kernel
theorem dX4_refAt_14 : decode cX4_refAt 14 = .ok (.getfield 19, 3) := by decide +kernel
theorem dX4_refAt_17 : decode cX4_refAt 17 = .ok (.arraylength, 1) := by decide +kernel
theorem dX4_refAt_18 : decode cX4_refAt 18 = .ok (.if_icmp .ge 12, 3) := by decide +kernel
theorem dX4_refAt_21 : decode cX4_refAt 21 = .ok (.aload_n 0, 1) := by decide +kernel
theorem dX4_refAt_22 : decode cX4_refAt 22 = .ok (.getfield 19, 3) := by decide +kernel
theorem dX4_refAt_25 : decode cX4_refAt 25 = .ok (.iload_n 1, 1) := by decide +kernel
theorem dX4_refAt_26 : decode cX4_refAt 26 = .ok (.iaload, 1) := by decide +kernel
theorem dX4_refAt_27 : decode cX4_refAt 27 = .ok (.goto 4, 3) := by decide +kernel
theorem dX4_refAt_30 : decode cX4_refAt 30 = .ok (.iconst 0, 1) := by decide +kernel
theorem dX4_refAt_31 : decode cX4_refAt 31 = .ok (.ireturn, 1) := by decide +kernel
theorem dX4_setKey_0 : decode cX4_setKey 0 = .ok (.iload_n 1, 1) := by decide +kernel
theorem dX4_setKey_1 : decode cX4_setKey 1 = .ok (.ifCond .lt 27, 3) := by decide +kernel
theorem dX4_setKey_4 : decode cX4_setKey 4 = .ok (.iload_n 1, 1) := by decide +kernel
theorem dX4_setKey_5 : decode cX4_setKey 5 = .ok (.aload_n 0, 1) := by decide +kernel
theorem dX4_setKey_6 : decode cX4_setKey 6 = .ok (.getfield 22, 3) := by decide +kernel
theorem dX4_setKey_9 : decode cX4_setKey 9 = .ok (.if_icmp .ge 19, 3) := by decide +kernel
theorem dX4_setKey_12 : decode cX4_setKey 12 = .ok (.iload_n 1, 1) := by decide +kernel
theorem dX4_setKey_13 : decode cX4_setKey 13 = .ok (.aload_n 0, 1) := by decide +kernel
theorem dX4_setKey_14 : decode cX4_setKey 14 = .ok (.getfield 15, 3) := by decide +kernel
theorem dX4_setKey_17 : decode cX4_setKey 17 = .ok (.arraylength, 1) := by decide +kernel
theorem dX4_setKey_18 : decode cX4_setKey 18 = .ok (.if_icmp .ge 10, 3) := by decide +kernel
theorem dX4_setKey_21 : decode cX4_setKey 21 = .ok (.aload_n 0, 1) := by decide +kernel
theorem dX4_setKey_22 : decode cX4_setKey 22 = .ok (.getfield 15, 3) := by decide +kernel
theorem dX4_setKey_25 : decode cX4_setKey 25 = .ok (.iload_n 1, 1) := by decide +kernel
theorem dX4_setKey_26 : decode cX4_setKey 26 = .ok (.iload_n 2, 1) := by decide +kernel
theorem dX4_setKey_27 : decode cX4_setKey 27 = .ok (.iastore, 1) := by decide +kernel
theorem dX4_setKey_28 : decode cX4_setKey 28 = .ok (.return_, 1) := by decide +kernel
theorem dX4_setRef_0 : decode cX4_setRef 0 = .ok (.iload_n 1, 1) := by decide +kernel
theorem dX4_setRef_1 : decode cX4_setRef 1 = .ok (.ifCond .lt 27, 3) := by decide +kernel
theorem dX4_setRef_4 : decode cX4_setRef 4 = .ok (.iload_n 1, 1) := by decide +kernel
theorem dX4_setRef_5 : decode cX4_setRef 5 = .ok (.aload_n 0, 1) := by decide +kernel
theorem dX4_setRef_6 : decode cX4_setRef 6 = .ok (.getfield 22, 3) := by decide +kernel
theorem dX4_setRef_9 : decode cX4_setRef 9 = .ok (.if_icmp .ge 19, 3) := by decide +kernel
theorem dX4_setRef_12 : decode cX4_setRef 12 = .ok (.iload_n 1, 1) := by decide +kernel
theorem dX4_setRef_13 : decode cX4_setRef 13 = .ok (.aload_n 0, 1) := by decide +kernel
theorem dX4_setRef_14 : decode cX4_setRef 14 = .ok (.getfield 19, 3) := by decide +kernel
theorem dX4_setRef_17 : decode cX4_setRef 17 = .ok (.arraylength, 1) := by decide +kernel
theorem dX4_setRef_18 : decode cX4_setRef 18 = .ok (.if_icmp .ge 10, 3) := by decide +kernel
theorem dX4_setRef_21 : decode cX4_setRef 21 = .ok (.aload_n 0, 1) := by decide +kernel
theorem dX4_setRef_22 : decode cX4_setRef 22 = .ok (.getfield 19, 3) := by decide +kernel
theorem dX4_setRef_25 : decode cX4_setRef 25 = .ok (.iload_n 1, 1) := by decide +kernel
theorem dX4_setRef_26 : decode cX4_setRef 26 = .ok (.iload_n 2, 1) := by decide +kernel
theorem dX4_setRef_27 : decode cX4_setRef 27 = .ok (.iastore, 1) := by decide +kernel
theorem dX4_setRef_28 : decode cX4_setRef 28 = .ok (.return_, 1) := by decide +kernel
theorem dX4_insert_0 : decode cX4_insert 0 = .ok (.iload_n 1, 1) := by decide +kernel
theorem dX4_insert_1 : decode cX4_insert 1 = .ok (.ifCond .lt 35, 3) := by decide +kernel
theorem dX4_insert_4 : decode cX4_insert 4 = .ok (.iload_n 1, 1) := by decide +kernel
theorem dX4_insert_5 : decode cX4_insert 5 = .ok (.aload_n 0, 1) := by decide +kernel
theorem dX4_insert_6 : decode cX4_insert 6 = .ok (.getfield 22, 3) := by decide +kernel
theorem dX4_insert_9 : decode cX4_insert 9 = .ok (.if_icmp .gt 27, 3) := by decide +kernel
theorem dX4_insert_12 : decode cX4_insert 12 = .ok (.aload_n 0, 1) := by decide +kernel
theorem dX4_insert_13 : decode cX4_insert 13 = .ok (.getfield 22, 3) := by decide +kernel
theorem dX4_insert_16 : decode cX4_insert 16 = .ok (.aload_n 0, 1) := by decide +kernel
theorem dX4_insert_17 : decode cX4_insert 17 = .ok (.getfield 15, 3) := by decide +kernel
theorem dX4_insert_20 : decode cX4_insert 20 = .ok (.arraylength, 1) := by decide +kernel
theorem dX4_insert_21 : decode cX4_insert 21 = .ok (.if_icmp .ge 15, 3) := by decide +kernel
theorem dX4_insert_24 : decode cX4_insert 24 = .ok (.aload_n 0, 1) := by decide +kernel
theorem dX4_insert_25 : decode cX4_insert 25 = .ok (.getfield 22, 3) := by decide +kernel
theorem dX4_insert_28 : decode cX4_insert 28 = .ok (.aload_n 0, 1) := by decide +kernel
theorem dX4_insert_29 : decode cX4_insert 29 = .ok (.getfield 19, 3) := by decide +kernel
theorem dX4_insert_32 : decode cX4_insert 32 = .ok (.arraylength, 1) := by decide +kernel
theorem dX4_insert_33 : decode cX4_insert 33 = .ok (.if_icmp .lt 4, 3) := by decide +kernel
theorem dX4_insert_36 : decode cX4_insert 36 = .ok (.return_, 1) := by decide +kernel
theorem dX4_insert_37 : decode cX4_insert 37 = .ok (.aload_n 0, 1) := by decide +kernel
theorem dX4_insert_38 : decode cX4_insert 38 = .ok (.dup, 1) := by decide +kernel
theorem dX4_insert_39 : decode cX4_insert 39 = .ok (.getfield 22, 3) := by decide +kernel
theorem dX4_insert_42 : decode cX4_insert 42 = .ok (.iconst 1, 1) := by decide +kernel
theorem dX4_insert_43 : decode cX4_insert 43 = .ok (.iadd, 1) := by decide +kernel
theorem dX4_insert_44 : decode cX4_insert 44 = .ok (.putfield 22, 3) := by decide +kernel
theorem dX4_insert_47 : decode cX4_insert 47 = .ok (.aload_n 0, 1) := by decide +kernel
theorem dX4_insert_48 : decode cX4_insert 48 = .ok (.getfield 22, 3) := by decide +kernel
theorem dX4_insert_51 : decode cX4_insert 51 = .ok (.iconst 1, 1) := by decide +kernel
theorem dX4_insert_52 : decode cX4_insert 52 = .ok (.isub, 1) := by decide +kernel
theorem dX4_insert_53 : decode cX4_insert 53 = .ok (.istore 4, 2) := by decide +kernel
theorem dX4_insert_55 : decode cX4_insert 55 = .ok (.iload 4, 2) := by decide +kernel
theorem dX4_insert_57 : decode cX4_insert 57 = .ok (.iload_n 1, 1) := by decide +kernel
theorem dX4_insert_58 : decode cX4_insert 58 = .ok (.if_icmp .le 37, 3) := by decide +kernel
theorem dX4_insert_61 : decode cX4_insert 61 = .ok (.aload_n 0, 1) := by decide +kernel
theorem dX4_insert_62 : decode cX4_insert 62 = .ok (.iload 4, 2) := by decide +kernel
theorem dX4_insert_64 : decode cX4_insert 64 = .ok (.aload_n 0, 1) := by decide +kernel
theorem dX4_insert_65 : decode cX4_insert 65 = .ok (.iload 4, 2) := by decide +kernel
theorem dX4_insert_67 : decode cX4_insert 67 = .ok (.iconst 1, 1) := by decide +kernel
theorem dX4_insert_68 : decode cX4_insert 68 = .ok (.isub, 1) := by decide +kernel
theorem dX4_insert_69 : decode cX4_insert 69 = .ok (.invokevirtual 34, 3) := by decide +kernel
theorem dX4_insert_72 : decode cX4_insert 72 = .ok (.invokevirtual 41, 3) := by decide +kernel
theorem dX4_insert_75 : decode cX4_insert 75 = .ok (.aload_n 0, 1) := by decide +kernel
theorem dX4_insert_76 : decode cX4_insert 76 = .ok (.iload 4, 2) := by decide +kernel
theorem dX4_insert_78 : decode cX4_insert 78 = .ok (.aload_n 0, 1) := by decide +kernel
theorem dX4_insert_79 : decode cX4_insert 79 = .ok (.iload 4, 2) := by decide +kernel
theorem dX4_insert_81 : decode cX4_insert 81 = .ok (.iconst 1, 1) := by decide +kernel
theorem dX4_insert_82 : decode cX4_insert 82 = .ok (.isub, 1) := by decide +kernel
theorem dX4_insert_83 : decode cX4_insert 83 = .ok (.invokevirtual 38, 3) := by decide +kernel
theorem dX4_insert_86 : decode cX4_insert 86 = .ok (.invokevirtual 45, 3) := by decide +kernel
theorem dX4_insert_89 : decode cX4_insert 89 = .ok (.iinc 4 (-1), 3) := by decide +kernel
theorem dX4_insert_92 : decode cX4_insert 92 = .ok (.goto (-37), 3) := by decide +kernel
theorem dX4_insert_95 : decode cX4_insert 95 = .ok (.aload_n 0, 1) := by decide +kernel
theorem dX4_insert_96 : decode cX4_insert 96 = .ok (.iload_n 1, 1) := by decide +kernel
theorem dX4_insert_97 : decode cX4_insert 97 = .ok (.iload_n 2, 1) := by decide +kernel
theorem dX4_insert_98 : decode cX4_insert 98 = .ok (.invokevirtual 41, 3) := by decide +kernel
theorem dX4_insert_101 : decode cX4_insert 101 = .ok (.aload_n 0, 1) := by decide +kernel
theorem dX4_insert_102 : decode cX4_insert 102 = .ok (.iload_n 1, 1) := by decide +kernel
theorem dX4_insert_103 : decode cX4_insert 103 = .ok (.iload_n 3, 1) := by decide +kernel
theorem dX4_insert_104 : decode cX4_insert 104 = .ok (.invokevirtual 45, 3) := by decide +kernel
theorem dX4_insert_107 : decode cX4_insert 107 = .ok (.return_, 1) := by decide +kernel
theorem dX4_takeOut_0 : decode cX4_takeOut 0 = .ok (.iload_n 1, 1) := by decide +kernel
theorem dX4_takeOut_1 : decode cX4_takeOut 1 = .ok (.ifCond .lt 11, 3) := by decide +kernel
theorem dX4_takeOut_4 : decode cX4_takeOut 4 = .ok (.iload_n 1, 1) := by decide +kernel
theorem dX4_takeOut_5 : decode cX4_takeOut 5 = .ok (.aload_n 0, 1) := by decide +kernel
theorem dX4_takeOut_6 : decode cX4_takeOut 6 = .ok (.getfield 22, 3) := by decide +kernel
theorem dX4_takeOut_9 : decode cX4_takeOut 9 = .ok (.if_icmp .lt 4, 3) := by decide +kernel
theorem dX4_takeOut_12 : decode cX4_takeOut 12 = .ok (.return_, 1) := by decide +kernel
theorem dX4_takeOut_13 : decode cX4_takeOut 13 = .ok (.iload_n 1, 1) := by decide +kernel
theorem dX4_takeOut_14 : decode cX4_takeOut 14 = .ok (.istore_n 2, 1) := by decide +kernel
theorem dX4_takeOut_15 : decode cX4_takeOut 15 = .ok (.iload_n 2, 1) := by decide +kernel
theorem dX4_takeOut_16 : decode cX4_takeOut 16 = .ok (.aload_n 0, 1) := by decide +kernel
theorem dX4_takeOut_17 : decode cX4_takeOut 17 = .ok (.getfield 22, 3) := by decide +kernel
theorem dX4_takeOut_20 : decode cX4_takeOut 20 = .ok (.iconst 1, 1) := by decide +kernel
theorem dX4_takeOut_21 : decode cX4_takeOut 21 = .ok (.isub, 1) := by decide +kernel
theorem dX4_takeOut_22 : decode cX4_takeOut 22 = .ok (.if_icmp .ge 33, 3) := by decide +kernel
theorem dX4_takeOut_25 : decode cX4_takeOut 25 = .ok (.aload_n 0, 1) := by decide +kernel
theorem dX4_takeOut_26 : decode cX4_takeOut 26 = .ok (.iload_n 2, 1) := by decide +kernel
theorem dX4_takeOut_27 : decode cX4_takeOut 27 = .ok (.aload_n 0, 1) := by decide +kernel
theorem dX4_takeOut_28 : decode cX4_takeOut 28 = .ok (.iload_n 2, 1) := by decide +kernel
theorem dX4_takeOut_29 : decode cX4_takeOut 29 = .ok (.iconst 1, 1) := by decide +kernel
theorem dX4_takeOut_30 : decode cX4_takeOut 30 = .ok (.iadd, 1) := by decide +kernel
theorem dX4_takeOut_31 : decode cX4_takeOut 31 = .ok (.invokevirtual 34, 3) := by decide +kernel
theorem dX4_takeOut_34 : decode cX4_takeOut 34 = .ok (.invokevirtual 41, 3) := by decide +kernel
theorem dX4_takeOut_37 : decode cX4_takeOut 37 = .ok (.aload_n 0, 1) := by decide +kernel
theorem dX4_takeOut_38 : decode cX4_takeOut 38 = .ok (.iload_n 2, 1) := by decide +kernel
theorem dX4_takeOut_39 : decode cX4_takeOut 39 = .ok (.aload_n 0, 1) := by decide +kernel
theorem dX4_takeOut_40 : decode cX4_takeOut 40 = .ok (.iload_n 2, 1) := by decide +kernel
theorem dX4_takeOut_41 : decode cX4_takeOut 41 = .ok (.iconst 1, 1) := by decide +kernel
theorem dX4_takeOut_42 : decode cX4_takeOut 42 = .ok (.iadd, 1) := by decide +kernel
theorem dX4_takeOut_43 : decode cX4_takeOut 43 = .ok (.invokevirtual 38, 3) := by decide +kernel
theorem dX4_takeOut_46 : decode cX4_takeOut 46 = .ok (.invokevirtual 45, 3) := by decide +kernel
theorem dX4_takeOut_49 : decode cX4_takeOut 49 = .ok (.iinc 2 1, 3) := by decide +kernel
theorem dX4_takeOut_52 : decode cX4_takeOut 52 = .ok (.goto (-37), 3) := by decide +kernel
theorem dX4_takeOut_55 : decode cX4_takeOut 55 = .ok (.aload_n 0, 1) := by decide +kernel
theorem dX4_takeOut_56 : decode cX4_takeOut 56 = .ok (.dup, 1) := by decide +kernel
theorem dX4_takeOut_57 : decode cX4_takeOut 57 = .ok (.getfield 22, 3) := by decide +kernel
theorem dX4_takeOut_60 : decode cX4_takeOut 60 = .ok (.iconst 1, 1) := by decide +kernel
theorem dX4_takeOut_61 : decode cX4_takeOut 61 = .ok (.isub, 1) := by decide +kernel
theorem dX4_takeOut_62 : decode cX4_takeOut 62 = .ok (.putfield 22, 3) := by decide +kernel
theorem dX4_takeOut_65 : decode cX4_takeOut 65 = .ok (.return_, 1) := by decide +kernel
theorem dX4_partInto_0 : decode cX4_partInto 0 = .ok (.aload_n 0, 1) := by decide +kernel
theorem dX4_partInto_1 : decode cX4_partInto 1 = .ok (.getfield 22, 3) := by decide +kernel
theorem dX4_partInto_4 : decode cX4_partInto 4 = .ok (.iconst 1, 1) := by decide +kernel
theorem dX4_partInto_5 : decode cX4_partInto 5 = .ok (.iadd, 1) := by decide +kernel
theorem dX4_partInto_6 : decode cX4_partInto 6 = .ok (.iconst 2, 1) := by decide +kernel
theorem dX4_partInto_7 : decode cX4_partInto 7 = .ok (.idiv, 1) := by decide +kernel
theorem dX4_partInto_8 : decode cX4_partInto 8 = .ok (.istore_n 2, 1) := by decide +kernel
theorem dX4_partInto_9 : decode cX4_partInto 9 = .ok (.aload_n 1, 1) := by decide +kernel
theorem dX4_partInto_10 : decode cX4_partInto 10 = .ok (.aload_n 0, 1) := by decide +kernel
theorem dX4_partInto_11 : decode cX4_partInto 11 = .ok (.getfield 9, 3) := by decide +kernel
theorem dX4_partInto_14 : decode cX4_partInto 14 = .ok (.invokevirtual 26, 3) := by decide +kernel
theorem dX4_partInto_17 : decode cX4_partInto 17 = .ok (.aload_n 1, 1) := by decide +kernel
theorem dX4_partInto_18 : decode cX4_partInto 18 = .ok (.aload_n 0, 1) := by decide +kernel
theorem dX4_partInto_19 : decode cX4_partInto 19 = .ok (.iload_n 2, 1) := by decide +kernel
theorem dX4_partInto_20 : decode cX4_partInto 20 = .ok (.invokevirtual 30, 3) := by decide +kernel
theorem dX4_partInto_23 : decode cX4_partInto 23 = .ok (.aload_n 0, 1) := by decide +kernel
theorem dX4_partInto_24 : decode cX4_partInto 24 = .ok (.iload_n 2, 1) := by decide +kernel
theorem dX4_partInto_25 : decode cX4_partInto 25 = .ok (.putfield 22, 3) := by decide +kernel
theorem dX4_partInto_28 : decode cX4_partInto 28 = .ok (.return_, 1) := by decide +kernel
theorem dX4_placeOf_0 : decode cX4_placeOf 0 = .ok (.iconst 0, 1) := by decide +kernel
theorem dX4_placeOf_1 : decode cX4_placeOf 1 = .ok (.istore_n 2, 1) := by decide +kernel
theorem dX4_placeOf_2 : decode cX4_placeOf 2 = .ok (.iload_n 2, 1) := by decide +kernel
theorem dX4_placeOf_3 : decode cX4_placeOf 3 = .ok (.aload_n 0, 1) := by decide +kernel
theorem dX4_placeOf_4 : decode cX4_placeOf 4 = .ok (.getfield 22, 3) := by decide +kernel
theorem dX4_placeOf_7 : decode cX4_placeOf 7 = .ok (.if_icmp .ge 18, 3) := by decide +kernel
theorem dX4_placeOf_10 : decode cX4_placeOf 10 = .ok (.aload_n 0, 1) := by decide +kernel
theorem dX4_placeOf_11 : decode cX4_placeOf 11 = .ok (.iload_n 2, 1) := by decide +kernel
theorem dX4_placeOf_12 : decode cX4_placeOf 12 = .ok (.invokevirtual 34, 3) := by decide +kernel
theorem dX4_placeOf_15 : decode cX4_placeOf 15 = .ok (.iload_n 1, 1) := by decide +kernel
theorem dX4_placeOf_16 : decode cX4_placeOf 16 = .ok (.if_icmp .ge 9, 3) := by decide +kernel
theorem dX4_placeOf_19 : decode cX4_placeOf 19 = .ok (.iinc 2 1, 3) := by decide +kernel
theorem dX4_placeOf_22 : decode cX4_placeOf 22 = .ok (.goto (-20), 3) := by decide +kernel
theorem dX4_placeOf_25 : decode cX4_placeOf 25 = .ok (.iload_n 2, 1) := by decide +kernel
theorem dX4_placeOf_26 : decode cX4_placeOf 26 = .ok (.ireturn, 1) := by decide +kernel
theorem dX4_childFor_0 : decode cX4_childFor 0 = .ok (.iconst 0, 1) := by decide +kernel
theorem dX4_childFor_1 : decode cX4_childFor 1 = .ok (.istore_n 2, 1) := by decide +kernel
theorem dX4_childFor_2 : decode cX4_childFor 2 = .ok (.iload_n 2, 1) := by decide +kernel
theorem dX4_childFor_3 : decode cX4_childFor 3 = .ok (.iconst 1, 1) := by decide +kernel
theorem dX4_childFor_4 : decode cX4_childFor 4 = .ok (.iadd, 1) := by decide +kernel
theorem dX4_childFor_5 : decode cX4_childFor 5 = .ok (.aload_n 0, 1) := by decide +kernel
theorem dX4_childFor_6 : decode cX4_childFor 6 = .ok (.getfield 22, 3) := by decide +kernel
theorem dX4_childFor_9 : decode cX4_childFor 9 = .ok (.if_icmp .ge 20, 3) := by decide +kernel
theorem dX4_childFor_12 : decode cX4_childFor 12 = .ok (.aload_n 0, 1) := by decide +kernel
theorem dX4_childFor_13 : decode cX4_childFor 13 = .ok (.iload_n 2, 1) := by decide +kernel
theorem dX4_childFor_14 : decode cX4_childFor 14 = .ok (.iconst 1, 1) := by decide +kernel
theorem dX4_childFor_15 : decode cX4_childFor 15 = .ok (.iadd, 1) := by decide +kernel
theorem dX4_childFor_16 : decode cX4_childFor 16 = .ok (.invokevirtual 34, 3) := by decide +kernel
theorem dX4_childFor_19 : decode cX4_childFor 19 = .ok (.iload_n 1, 1) := by decide +kernel
theorem dX4_childFor_20 : decode cX4_childFor 20 = .ok (.if_icmp .gt 9, 3) := by decide +kernel
theorem dX4_childFor_23 : decode cX4_childFor 23 = .ok (.iinc 2 1, 3) := by decide +kernel
theorem dX4_childFor_26 : decode cX4_childFor 26 = .ok (.goto (-24), 3) := by decide +kernel
theorem dX4_childFor_29 : decode cX4_childFor 29 = .ok (.iload_n 2, 1) := by decide +kernel
theorem dX4_childFor_30 : decode cX4_childFor 30 = .ok (.ireturn, 1) := by decide +kernel
theorem dX4_has_0 : decode cX4_has 0 = .ok (.aload_n 0, 1) := by decide +kernel
theorem dX4_has_1 : decode cX4_has 1 = .ok (.iload_n 1, 1) := by decide +kernel
theorem dX4_has_2 : decode cX4_has 2 = .ok (.invokevirtual 48, 3) := by decide +kernel
theorem dX4_has_5 : decode cX4_has 5 = .ok (.istore_n 2, 1) := by decide +kernel
theorem dX4_has_6 : decode cX4_has 6 = .ok (.iload_n 2, 1) := by decide +kernel
theorem dX4_has_7 : decode cX4_has 7 = .ok (.aload_n 0, 1) := by decide +kernel
theorem dX4_has_8 : decode cX4_has 8 = .ok (.getfield 22, 3) := by decide +kernel
theorem dX4_has_11 : decode cX4_has 11 = .ok (.if_icmp .ge 16, 3) := by decide +kernel
theorem dX4_has_14 : decode cX4_has 14 = .ok (.aload_n 0, 1) := by decide +kernel
theorem dX4_has_15 : decode cX4_has 15 = .ok (.iload_n 2, 1) := by decide +kernel
theorem dX4_has_16 : decode cX4_has 16 = .ok (.invokevirtual 34, 3) := by decide +kernel
theorem dX4_has_19 : decode cX4_has 19 = .ok (.iload_n 1, 1) := by decide +kernel
theorem dX4_has_20 : decode cX4_has 20 = .ok (.if_icmp .ne 7, 3) := by decide +kernel
theorem dX4_has_23 : decode cX4_has 23 = .ok (.iconst 1, 1) := by decide +kernel
theorem dX4_has_24 : decode cX4_has 24 = .ok (.goto 4, 3) := by decide +kernel
theorem dX4_has_27 : decode cX4_has 27 = .ok (.iconst 0, 1) := by decide +kernel
theorem dX4_has_28 : decode cX4_has 28 = .ok (.ireturn, 1) := by decide +kernel
theorem dX4_valueOf_0 : decode cX4_valueOf 0 = .ok (.aload_n 0, 1) := by decide +kernel
theorem dX4_valueOf_1 : decode cX4_valueOf 1 = .ok (.iload_n 1, 1) := by decide +kernel
theorem dX4_valueOf_2 : decode cX4_valueOf 2 = .ok (.invokevirtual 51, 3) := by decide +kernel
theorem dX4_valueOf_5 : decode cX4_valueOf 5 = .ok (.ifCond .eq 15, 3) := by decide +kernel
theorem dX4_valueOf_8 : decode cX4_valueOf 8 = .ok (.aload_n 0, 1) := by decide +kernel
theorem dX4_valueOf_9 : decode cX4_valueOf 9 = .ok (.aload_n 0, 1) := by decide +kernel
theorem dX4_valueOf_10 : decode cX4_valueOf 10 = .ok (.iload_n 1, 1) := by decide +kernel
theorem dX4_valueOf_11 : decode cX4_valueOf 11 = .ok (.invokevirtual 48, 3) := by decide +kernel
theorem dX4_valueOf_14 : decode cX4_valueOf 14 = .ok (.invokevirtual 38, 3) := by decide +kernel
theorem dX4_valueOf_17 : decode cX4_valueOf 17 = .ok (.goto 4, 3) := by decide +kernel
theorem dX4_valueOf_20 : decode cX4_valueOf 20 = .ok (.iconst 0, 1) := by decide +kernel
theorem dX4_valueOf_21 : decode cX4_valueOf 21 = .ok (.ireturn, 1) := by decide +kernel
theorem dX4_valuesBetween_0 : decode cX4_valuesBetween 0 = .ok (.iconst 0, 1) := by decide +kernel
theorem dX4_valuesBetween_1 : decode cX4_valuesBetween 1 = .ok (.istore_n 3, 1) := by decide +kernel
theorem dX4_valuesBetween_2 : decode cX4_valuesBetween 2 = .ok (.iconst 0, 1) := by decide +kernel
theorem dX4_valuesBetween_3 : decode cX4_valuesBetween 3 = .ok (.istore 4, 2) := by decide +kernel
theorem dX4_valuesBetween_5 : decode cX4_valuesBetween 5 = .ok (.iload 4, 2) := by decide +kernel
theorem dX4_valuesBetween_7 : decode cX4_valuesBetween 7 = .ok (.aload_n 0, 1) := by decide +kernel
theorem dX4_valuesBetween_8 : decode cX4_valuesBetween 8 = .ok (.getfield 22, 3) := by decide +kernel
theorem dX4_valuesBetween_11 : decode cX4_valuesBetween 11 = .ok (.if_icmp .ge 38, 3) := by decide +kernel
theorem dX4_valuesBetween_14 : decode cX4_valuesBetween 14 = .ok (.aload_n 0, 1) := by decide +kernel
theorem dX4_valuesBetween_15 : decode cX4_valuesBetween 15 = .ok (.iload 4, 2) := by decide +kernel
theorem dX4_valuesBetween_17 : decode cX4_valuesBetween 17 = .ok (.invokevirtual 34, 3) := by decide +kernel
theorem dX4_valuesBetween_20 : decode cX4_valuesBetween 20 = .ok (.iload_n 1, 1) := by decide +kernel
theorem dX4_valuesBetween_21 : decode cX4_valuesBetween 21 = .ok (.if_icmp .lt 22, 3) := by decide +kernel
theorem dX4_valuesBetween_24 : decode cX4_valuesBetween 24 = .ok (.aload_n 0, 1) := by decide +kernel
theorem dX4_valuesBetween_25 : decode cX4_valuesBetween 25 = .ok (.iload 4, 2) := by decide +kernel
theorem dX4_valuesBetween_27 : decode cX4_valuesBetween 27 = .ok (.invokevirtual 34, 3) := by decide +kernel
theorem dX4_valuesBetween_30 : decode cX4_valuesBetween 30 = .ok (.iload_n 2, 1) := by decide +kernel
theorem dX4_valuesBetween_31 : decode cX4_valuesBetween 31 = .ok (.if_icmp .gt 12, 3) := by decide +kernel
theorem dX4_valuesBetween_34 : decode cX4_valuesBetween 34 = .ok (.iload_n 3, 1) := by decide +kernel
theorem dX4_valuesBetween_35 : decode cX4_valuesBetween 35 = .ok (.aload_n 0, 1) := by decide +kernel
theorem dX4_valuesBetween_36 : decode cX4_valuesBetween 36 = .ok (.iload 4, 2) := by decide +kernel
theorem dX4_valuesBetween_38 : decode cX4_valuesBetween 38 = .ok (.invokevirtual 38, 3) := by decide +kernel
theorem dX4_valuesBetween_41 : decode cX4_valuesBetween 41 = .ok (.iadd, 1) := by decide +kernel
theorem dX4_valuesBetween_42 : decode cX4_valuesBetween 42 = .ok (.istore_n 3, 1) := by decide +kernel
theorem dX4_valuesBetween_43 : decode cX4_valuesBetween 43 = .ok (.iinc 4 1, 3) := by decide +kernel
theorem dX4_valuesBetween_46 : decode cX4_valuesBetween 46 = .ok (.goto (-41), 3) := by decide +kernel
theorem dX4_valuesBetween_49 : decode cX4_valuesBetween 49 = .ok (.iload_n 3, 1) := by decide +kernel
theorem dX4_valuesBetween_50 : decode cX4_valuesBetween 50 = .ok (.ireturn, 1) := by decide +kernel
theorem dX4_firstKeyWord_0 : decode cX4_firstKeyWord 0 = .ok (.aload_n 0, 1) := by decide +kernel
theorem dX4_firstKeyWord_1 : decode cX4_firstKeyWord 1 = .ok (.getfield 9, 3) := by decide +kernel
theorem dX4_firstKeyWord_4 : decode cX4_firstKeyWord 4 = .ok (.ifCond .eq 7, 3) := by decide +kernel
theorem dX4_firstKeyWord_7 : decode cX4_firstKeyWord 7 = .ok (.iconst 2, 1) := by decide +kernel
theorem dX4_firstKeyWord_8 : decode cX4_firstKeyWord 8 = .ok (.goto 4, 3) := by decide +kernel
theorem dX4_firstKeyWord_11 : decode cX4_firstKeyWord 11 = .ok (.iconst 1, 1) := by decide +kernel
theorem dX4_firstKeyWord_12 : decode cX4_firstKeyWord 12 = .ok (.ireturn, 1) := by decide +kernel
theorem dX7_tell_0 : decode cX7_tell 0 = .ok (.aload_n 0, 1) := by decide +kernel
theorem dX7_tell_1 : decode cX7_tell 1 = .ok (.iload_n 1, 1) := by decide +kernel
theorem dX7_tell_2 : decode cX7_tell 2 = .ok (.putfield 9, 3) := by decide +kernel
theorem dX7_tell_5 : decode cX7_tell 5 = .ok (.aload_n 0, 1) := by decide +kernel
theorem dX7_tell_6 : decode cX7_tell 6 = .ok (.iload_n 2, 1) := by decide +kernel
theorem dX7_tell_7 : decode cX7_tell 7 = .ok (.putfield 15, 3) := by decide +kernel
theorem dX7_tell_10 : decode cX7_tell 10 = .ok (.aload_n 0, 1) := by decide +kernel
theorem dX7_tell_11 : decode cX7_tell 11 = .ok (.iload_n 3, 1) := by decide +kernel
theorem dX7_tell_12 : decode cX7_tell 12 = .ok (.putfield 18, 3) := by decide +kernel
theorem dX7_tell_15 : decode cX7_tell 15 = .ok (.aload_n 0, 1) := by decide +kernel
theorem dX7_tell_16 : decode cX7_tell 16 = .ok (.lload 4, 2) := by decide +kernel
theorem dX7_tell_18 : decode cX7_tell 18 = .ok (.putfield 21, 3) := by decide +kernel
theorem dX7_tell_21 : decode cX7_tell 21 = .ok (.return_, 1) := by decide +kernel
theorem dX7_copy_0 : decode cX7_copy 0 = .ok (.aload_n 0, 1) := by decide +kernel
theorem dX7_copy_1 : decode cX7_copy 1 = .ok (.aload_n 1, 1) := by decide +kernel
theorem dX7_copy_2 : decode cX7_copy 2 = .ok (.getfield 9, 3) := by decide +kernel
theorem dX7_copy_5 : decode cX7_copy 5 = .ok (.aload_n 1, 1) := by decide +kernel
theorem dX7_copy_6 : decode cX7_copy 6 = .ok (.getfield 15, 3) := by decide +kernel
theorem dX7_copy_9 : decode cX7_copy 9 = .ok (.aload_n 1, 1) := by decide +kernel
theorem dX7_copy_10 : decode cX7_copy 10 = .ok (.getfield 18, 3) := by decide +kernel
theorem dX7_copy_13 : decode cX7_copy 13 = .ok (.aload_n 1, 1) := by decide +kernel
theorem dX7_copy_14 : decode cX7_copy 14 = .ok (.getfield 21, 3) := by decide +kernel
theorem dX7_copy_17 : decode cX7_copy 17 = .ok (.invokevirtual 25, 3) := by decide +kernel
theorem dX7_copy_20 : decode cX7_copy 20 = .ok (.return_, 1) := by decide +kernel
theorem dX7_layOut_0 : decode cX7_layOut 0 = .ok (.aload_n 1, 1) := by decide +kernel
theorem dX7_layOut_1 : decode cX7_layOut 1 = .ok (.invokevirtual 29, 3) := by decide +kernel
theorem dX7_layOut_4 : decode cX7_layOut 4 = .ok (.aload_n 1, 1) := by decide +kernel
theorem dX7_layOut_5 : decode cX7_layOut 5 = .ok (.iconst 0, 1) := by decide +kernel
theorem dX7_layOut_6 : decode cX7_layOut 6 = .ok (.ldc 34, 2) := by decide +kernel
theorem dX7_layOut_8 : decode cX7_layOut 8 = .ok (.invokevirtual 35, 3) := by decide +kernel
theorem dX7_layOut_11 : decode cX7_layOut 11 = .ok (.aload_n 1, 1) := by decide +kernel
theorem dX7_layOut_12 : decode cX7_layOut 12 = .ok (.iconst 1, 1) := by decide +kernel
theorem dX7_layOut_13 : decode cX7_layOut 13 = .ok (.aload_n 0, 1) := by decide +kernel
theorem dX7_layOut_14 : decode cX7_layOut 14 = .ok (.getfield 9, 3) := by decide +kernel
theorem dX7_layOut_17 : decode cX7_layOut 17 = .ok (.invokevirtual 35, 3) := by decide +kernel
theorem dX7_layOut_20 : decode cX7_layOut 20 = .ok (.aload_n 1, 1) := by decide +kernel
theorem dX7_layOut_21 : decode cX7_layOut 21 = .ok (.iconst 2, 1) := by decide +kernel
theorem dX7_layOut_22 : decode cX7_layOut 22 = .ok (.aload_n 0, 1) := by decide +kernel
theorem dX7_layOut_23 : decode cX7_layOut 23 = .ok (.getfield 15, 3) := by decide +kernel
theorem dX7_layOut_26 : decode cX7_layOut 26 = .ok (.invokevirtual 35, 3) := by decide +kernel
theorem dX7_layOut_29 : decode cX7_layOut 29 = .ok (.aload_n 1, 1) := by decide +kernel
theorem dX7_layOut_30 : decode cX7_layOut 30 = .ok (.iconst 3, 1) := by decide +kernel
theorem dX7_layOut_31 : decode cX7_layOut 31 = .ok (.aload_n 0, 1) := by decide +kernel
theorem dX7_layOut_32 : decode cX7_layOut 32 = .ok (.getfield 18, 3) := by decide +kernel
theorem dX7_layOut_35 : decode cX7_layOut 35 = .ok (.invokevirtual 35, 3) := by decide +kernel
theorem dX7_layOut_38 : decode cX7_layOut 38 = .ok (.return_, 1) := by decide +kernel

theorem dX5_init_0 : decode (mC mX5_init) 0 = .ok (.aload_n 0, 1) := by decide +kernel
theorem dX5_init_1 : decode (mC mX5_init) 1 = .ok (.invokespecial 1, 3) := by decide +kernel
theorem dX5_init_4 : decode (mC mX5_init) 4 = .ok (.aload_n 0, 1) := by decide +kernel
theorem dX5_init_5 : decode (mC mX5_init) 5 = .ok (.bipush 71, 2) := by decide +kernel
theorem dX5_init_7 : decode (mC mX5_init) 7 = .ok (.newarray .int, 2) := by decide +kernel
theorem dX5_init_9 : decode (mC mX5_init) 9 = .ok (.putfield 9, 3) := by decide +kernel
theorem dX5_init_12 : decode (mC mX5_init) 12 = .ok (.aload_n 0, 1) := by decide +kernel
theorem dX5_init_13 : decode (mC mX5_init) 13 = .ok (.bipush 71, 2) := by decide +kernel
theorem dX5_init_15 : decode (mC mX5_init) 15 = .ok (.newarray .int, 2) := by decide +kernel
theorem dX5_init_17 : decode (mC mX5_init) 17 = .ok (.putfield 13, 3) := by decide +kernel
theorem dX5_init_20 : decode (mC mX5_init) 20 = .ok (.aload_n 0, 1) := by decide +kernel
theorem dX5_init_21 : decode (mC mX5_init) 21 = .ok (.bipush 71, 2) := by decide +kernel
theorem dX5_init_23 : decode (mC mX5_init) 23 = .ok (.newarray .int, 2) := by decide +kernel
theorem dX5_init_25 : decode (mC mX5_init) 25 = .ok (.putfield 16, 3) := by decide +kernel
theorem dX5_init_28 : decode (mC mX5_init) 28 = .ok (.aload_n 0, 1) := by decide +kernel
theorem dX5_init_29 : decode (mC mX5_init) 29 = .ok (.bipush 71, 2) := by decide +kernel
theorem dX5_init_31 : decode (mC mX5_init) 31 = .ok (.newarray .int, 2) := by decide +kernel
theorem dX5_init_33 : decode (mC mX5_init) 33 = .ok (.putfield 19, 3) := by decide +kernel
theorem dX5_init_36 : decode (mC mX5_init) 36 = .ok (.aload_n 0, 1) := by decide +kernel
theorem dX5_init_37 : decode (mC mX5_init) 37 = .ok (.bipush 64, 2) := by decide +kernel
theorem dX5_init_39 : decode (mC mX5_init) 39 = .ok (.newarray .int, 2) := by decide +kernel
theorem dX5_init_41 : decode (mC mX5_init) 41 = .ok (.putfield 22, 3) := by decide +kernel
theorem dX5_init_44 : decode (mC mX5_init) 44 = .ok (.aload_n 0, 1) := by decide +kernel
theorem dX5_init_45 : decode (mC mX5_init) 45 = .ok (.bipush 96, 2) := by decide +kernel
theorem dX5_init_47 : decode (mC mX5_init) 47 = .ok (.newarray .int, 2) := by decide +kernel
theorem dX5_init_49 : decode (mC mX5_init) 49 = .ok (.putfield 25, 3) := by decide +kernel
theorem dX5_init_52 : decode (mC mX5_init) 52 = .ok (.aload_n 0, 1) := by decide +kernel
theorem dX5_init_53 : decode (mC mX5_init) 53 = .ok (.bipush 16, 2) := by decide +kernel
theorem dX5_init_55 : decode (mC mX5_init) 55 = .ok (.newarray .int, 2) := by decide +kernel
theorem dX5_init_57 : decode (mC mX5_init) 57 = .ok (.putfield 28, 3) := by decide +kernel
theorem dX5_init_60 : decode (mC mX5_init) 60 = .ok (.aload_n 0, 1) := by decide +kernel
theorem dX5_init_61 : decode (mC mX5_init) 61 = .ok (.bipush 7, 2) := by decide +kernel
theorem dX5_init_63 : decode (mC mX5_init) 63 = .ok (.newarray .int, 2) := by decide +kernel
theorem dX5_init_65 : decode (mC mX5_init) 65 = .ok (.putfield 31, 3) := by decide +kernel
theorem dX5_init_68 : decode (mC mX5_init) 68 = .ok (.aload_n 0, 1) := by decide +kernel
theorem dX5_init_69 : decode (mC mX5_init) 69 = .ok (.iconst 4, 1) := by decide +kernel
theorem dX5_init_70 : decode (mC mX5_init) 70 = .ok (.newarray .int, 2) := by decide +kernel
theorem dX5_init_72 : decode (mC mX5_init) 72 = .ok (.putfield 34, 3) := by decide +kernel
theorem dX5_init_75 : decode (mC mX5_init) 75 = .ok (.return_, 1) := by decide +kernel
theorem dX5_isIn_0 : decode (mC mX5_isIn) 0 = .ok (.iload_n 0, 1) := by decide +kernel
theorem dX5_isIn_1 : decode (mC mX5_isIn) 1 = .ok (.iload_n 1, 1) := by decide +kernel
theorem dX5_isIn_2 : decode (mC mX5_isIn) 2 = .ok (.if_icmp .lt 12, 3) := by decide +kernel
theorem dX5_isIn_5 : decode (mC mX5_isIn) 5 = .ok (.iload_n 0, 1) := by decide +kernel
theorem dX5_isIn_6 : decode (mC mX5_isIn) 6 = .ok (.iload_n 2, 1) := by decide +kernel
theorem dX5_isIn_7 : decode (mC mX5_isIn) 7 = .ok (.if_icmp .gt 7, 3) := by decide +kernel
theorem dX5_isIn_10 : decode (mC mX5_isIn) 10 = .ok (.iconst 1, 1) := by decide +kernel
theorem dX5_isIn_11 : decode (mC mX5_isIn) 11 = .ok (.goto 4, 3) := by decide +kernel
theorem dX5_isIn_14 : decode (mC mX5_isIn) 14 = .ok (.iconst 0, 1) := by decide +kernel
theorem dX5_isIn_15 : decode (mC mX5_isIn) 15 = .ok (.ireturn, 1) := by decide +kernel
theorem dX5_least_0 : decode (mC mX5_least) 0 = .ok (.iload_n 0, 1) := by decide +kernel
theorem dX5_least_1 : decode (mC mX5_least) 1 = .ok (.iload_n 1, 1) := by decide +kernel
theorem dX5_least_2 : decode (mC mX5_least) 2 = .ok (.if_icmp .ge 7, 3) := by decide +kernel
theorem dX5_least_5 : decode (mC mX5_least) 5 = .ok (.iload_n 0, 1) := by decide +kernel
theorem dX5_least_6 : decode (mC mX5_least) 6 = .ok (.goto 4, 3) := by decide +kernel
theorem dX5_least_9 : decode (mC mX5_least) 9 = .ok (.iload_n 1, 1) := by decide +kernel
theorem dX5_least_10 : decode (mC mX5_least) 10 = .ok (.ireturn, 1) := by decide +kernel
theorem dX5_copies_0 : decode (mC mX5_copies) 0 = .ok (.iconst 0, 1) := by decide +kernel
theorem dX5_copies_1 : decode (mC mX5_copies) 1 = .ok (.istore_n 2, 1) := by decide +kernel
theorem dX5_copies_2 : decode (mC mX5_copies) 2 = .ok (.iload_n 2, 1) := by decide +kernel
theorem dX5_copies_3 : decode (mC mX5_copies) 3 = .ok (.bipush 71, 2) := by decide +kernel
theorem dX5_copies_5 : decode (mC mX5_copies) 5 = .ok (.if_icmp .ge 15, 3) := by decide +kernel
theorem dX5_copies_8 : decode (mC mX5_copies) 8 = .ok (.aload_n 1, 1) := by decide +kernel
theorem dX5_copies_9 : decode (mC mX5_copies) 9 = .ok (.iload_n 2, 1) := by decide +kernel
theorem dX5_copies_10 : decode (mC mX5_copies) 10 = .ok (.aload_n 0, 1) := by decide +kernel
theorem dX5_copies_11 : decode (mC mX5_copies) 11 = .ok (.iload_n 2, 1) := by decide +kernel
theorem dX5_copies_12 : decode (mC mX5_copies) 12 = .ok (.iaload, 1) := by decide +kernel
theorem dX5_copies_13 : decode (mC mX5_copies) 13 = .ok (.iastore, 1) := by decide +kernel
theorem dX5_copies_14 : decode (mC mX5_copies) 14 = .ok (.iinc 2 1, 3) := by decide +kernel
theorem dX5_copies_17 : decode (mC mX5_copies) 17 = .ok (.goto (-15), 3) := by decide +kernel
theorem dX5_copies_20 : decode (mC mX5_copies) 20 = .ok (.return_, 1) := by decide +kernel
theorem dX5_no_0 : decode (mC mX5_no) 0 = .ok (.aload_n 0, 1) := by decide +kernel
theorem dX5_no_1 : decode (mC mX5_no) 1 = .ok (.getfield 31, 3) := by decide +kernel
theorem dX5_no_4 : decode (mC mX5_no) 4 = .ok (.iload_n 1, 1) := by decide +kernel
theorem dX5_no_5 : decode (mC mX5_no) 5 = .ok (.ineg, 1) := by decide +kernel
theorem dX5_no_6 : decode (mC mX5_no) 6 = .ok (.dup2, 1) := by decide +kernel
theorem dX5_no_7 : decode (mC mX5_no) 7 = .ok (.iaload, 1) := by decide +kernel
theorem dX5_no_8 : decode (mC mX5_no) 8 = .ok (.iconst 1, 1) := by decide +kernel
theorem dX5_no_9 : decode (mC mX5_no) 9 = .ok (.iadd, 1) := by decide +kernel
theorem dX5_no_10 : decode (mC mX5_no) 10 = .ok (.iastore, 1) := by decide +kernel
theorem dX5_no_11 : decode (mC mX5_no) 11 = .ok (.iload_n 1, 1) := by decide +kernel
theorem dX5_no_12 : decode (mC mX5_no) 12 = .ok (.ireturn, 1) := by decide +kernel
theorem dX5_noWide_0 : decode (mC mX5_noWide) 0 = .ok (.ldc2_w 37, 3) := by decide +kernel
theorem dX5_noWide_3 : decode (mC mX5_noWide) 3 = .ok (.aload_n 0, 1) := by decide +kernel
theorem dX5_noWide_4 : decode (mC mX5_noWide) 4 = .ok (.iload_n 1, 1) := by decide +kernel
theorem dX5_noWide_5 : decode (mC mX5_noWide) 5 = .ok (.invokevirtual 39, 3) := by decide +kernel
theorem dX5_noWide_8 : decode (mC mX5_noWide) 8 = .ok (.i2l, 1) := by decide +kernel
theorem dX5_noWide_9 : decode (mC mX5_noWide) 9 = .ok (.lsub, 1) := by decide +kernel
theorem dX5_noWide_10 : decode (mC mX5_noWide) 10 = .ok (.lreturn, 1) := by decide +kernel
theorem dX5_ofD_0 : decode (mC mX5_ofD) 0 = .ok (.iconst 5, 1) := by decide +kernel
theorem dX5_ofD_1 : decode (mC mX5_ofD) 1 = .ok (.iconst 5, 1) := by decide +kernel
theorem dX5_ofD_2 : decode (mC mX5_ofD) 2 = .ok (.iload_n 0, 1) := by decide +kernel
theorem dX5_ofD_3 : decode (mC mX5_ofD) 3 = .ok (.imul, 1) := by decide +kernel
theorem dX5_ofD_4 : decode (mC mX5_ofD) 4 = .ok (.iadd, 1) := by decide +kernel
theorem dX5_ofD_5 : decode (mC mX5_ofD) 5 = .ok (.iload_n 1, 1) := by decide +kernel
theorem dX5_ofD_6 : decode (mC mX5_ofD) 6 = .ok (.iadd, 1) := by decide +kernel
theorem dX5_ofD_7 : decode (mC mX5_ofD) 7 = .ok (.ireturn, 1) := by decide +kernel
theorem dX5_ofP_0 : decode (mC mX5_ofP) 0 = .ok (.bipush 50, 2) := by decide +kernel
theorem dX5_ofP_2 : decode (mC mX5_ofP) 2 = .ok (.iconst 3, 1) := by decide +kernel
theorem dX5_ofP_3 : decode (mC mX5_ofP) 3 = .ok (.iload_n 0, 1) := by decide +kernel
theorem dX5_ofP_4 : decode (mC mX5_ofP) 4 = .ok (.imul, 1) := by decide +kernel
theorem dX5_ofP_5 : decode (mC mX5_ofP) 5 = .ok (.iadd, 1) := by decide +kernel
theorem dX5_ofP_6 : decode (mC mX5_ofP) 6 = .ok (.iload_n 1, 1) := by decide +kernel
theorem dX5_ofP_7 : decode (mC mX5_ofP) 7 = .ok (.iadd, 1) := by decide +kernel
theorem dX5_ofP_8 : decode (mC mX5_ofP) 8 = .ok (.ireturn, 1) := by decide +kernel
theorem dX5_isDoor_0 : decode (mC mX5_isDoor) 0 = .ok (.iload_n 1, 1) := by decide +kernel
theorem dX5_isDoor_1 : decode (mC mX5_isDoor) 1 = .ok (.iconst 0, 1) := by decide +kernel
theorem dX5_isDoor_2 : decode (mC mX5_isDoor) 2 = .ok (.aload_n 0, 1) := by decide +kernel
theorem dX5_isDoor_3 : decode (mC mX5_isDoor) 3 = .ok (.getfield 9, 3) := by decide +kernel
theorem dX5_isDoor_6 : decode (mC mX5_isDoor) 6 = .ok (.iconst 0, 1) := by decide +kernel
theorem dX5_isDoor_7 : decode (mC mX5_isDoor) 7 = .ok (.iaload, 1) := by decide +kernel
theorem dX5_isDoor_8 : decode (mC mX5_isDoor) 8 = .ok (.iconst 1, 1) := by decide +kernel
theorem dX5_isDoor_9 : decode (mC mX5_isDoor) 9 = .ok (.isub, 1) := by decide +kernel
theorem dX5_isDoor_10 : decode (mC mX5_isDoor) 10 = .ok (.invokestatic 43, 3) := by decide +kernel
theorem dX5_isDoor_13 : decode (mC mX5_isDoor) 13 = .ok (.ireturn, 1) := by decide +kernel
theorem dX5_isPerson_0 : decode (mC mX5_isPerson) 0 = .ok (.iload_n 1, 1) := by decide +kernel
theorem dX5_isPerson_1 : decode (mC mX5_isPerson) 1 = .ok (.iconst 0, 1) := by decide +kernel
theorem dX5_isPerson_2 : decode (mC mX5_isPerson) 2 = .ok (.aload_n 0, 1) := by decide +kernel
theorem dX5_isPerson_3 : decode (mC mX5_isPerson) 3 = .ok (.getfield 9, 3) := by decide +kernel
theorem dX5_isPerson_6 : decode (mC mX5_isPerson) 6 = .ok (.iconst 1, 1) := by decide +kernel
theorem dX5_isPerson_7 : decode (mC mX5_isPerson) 7 = .ok (.iaload, 1) := by decide +kernel
theorem dX5_isPerson_8 : decode (mC mX5_isPerson) 8 = .ok (.iconst 1, 1) := by decide +kernel
theorem dX5_isPerson_9 : decode (mC mX5_isPerson) 9 = .ok (.isub, 1) := by decide +kernel
theorem dX5_isPerson_10 : decode (mC mX5_isPerson) 10 = .ok (.invokestatic 43, 3) := by decide +kernel
theorem dX5_isPerson_13 : decode (mC mX5_isPerson) 13 = .ok (.ireturn, 1) := by decide +kernel
theorem dX5_isRoom_0 : decode (mC mX5_isRoom) 0 = .ok (.iload_n 0, 1) := by decide +kernel
theorem dX5_isRoom_1 : decode (mC mX5_isRoom) 1 = .ok (.iconst 0, 1) := by decide +kernel
theorem dX5_isRoom_2 : decode (mC mX5_isRoom) 2 = .ok (.bipush 7, 2) := by decide +kernel
theorem dX5_isRoom_4 : decode (mC mX5_isRoom) 4 = .ok (.invokestatic 43, 3) := by decide +kernel
theorem dX5_isRoom_7 : decode (mC mX5_isRoom) 7 = .ok (.ireturn, 1) := by decide +kernel
theorem dX5_has_0 : decode (mC mX5_has) 0 = .ok (.iload_n 0, 1) := by decide +kernel
theorem dX5_has_1 : decode (mC mX5_has) 1 = .ok (.iload_n 1, 1) := by decide +kernel
theorem dX5_has_2 : decode (mC mX5_has) 2 = .ok (.ishr, 1) := by decide +kernel
theorem dX5_has_3 : decode (mC mX5_has) 3 = .ok (.iconst 1, 1) := by decide +kernel
theorem dX5_has_4 : decode (mC mX5_has) 4 = .ok (.iand, 1) := by decide +kernel
theorem dX5_has_5 : decode (mC mX5_has) 5 = .ok (.iconst 1, 1) := by decide +kernel
theorem dX5_has_6 : decode (mC mX5_has) 6 = .ok (.if_icmp .ne 7, 3) := by decide +kernel
theorem dX5_has_9 : decode (mC mX5_has) 9 = .ok (.iconst 1, 1) := by decide +kernel
theorem dX5_has_10 : decode (mC mX5_has) 10 = .ok (.goto 4, 3) := by decide +kernel
theorem dX5_has_13 : decode (mC mX5_has) 13 = .ok (.iconst 0, 1) := by decide +kernel
theorem dX5_has_14 : decode (mC mX5_has) 14 = .ok (.ireturn, 1) := by decide +kernel
theorem dX5_bits_0 : decode (mC mX5_bits) 0 = .ok (.iconst 0, 1) := by decide +kernel
theorem dX5_bits_1 : decode (mC mX5_bits) 1 = .ok (.istore_n 1, 1) := by decide +kernel
theorem dX5_bits_2 : decode (mC mX5_bits) 2 = .ok (.iconst 0, 1) := by decide +kernel
theorem dX5_bits_3 : decode (mC mX5_bits) 3 = .ok (.istore_n 2, 1) := by decide +kernel
theorem dX5_bits_4 : decode (mC mX5_bits) 4 = .ok (.iload_n 2, 1) := by decide +kernel
theorem dX5_bits_5 : decode (mC mX5_bits) 5 = .ok (.bipush 9, 2) := by decide +kernel
theorem dX5_bits_7 : decode (mC mX5_bits) 7 = .ok (.if_icmp .ge 17, 3) := by decide +kernel
theorem dX5_bits_10 : decode (mC mX5_bits) 10 = .ok (.iload_n 1, 1) := by decide +kernel
theorem dX5_bits_11 : decode (mC mX5_bits) 11 = .ok (.iload_n 0, 1) := by decide +kernel
theorem dX5_bits_12 : decode (mC mX5_bits) 12 = .ok (.iload_n 2, 1) := by decide +kernel
theorem dX5_bits_13 : decode (mC mX5_bits) 13 = .ok (.ishr, 1) := by decide +kernel
theorem dX5_bits_14 : decode (mC mX5_bits) 14 = .ok (.iconst 1, 1) := by decide +kernel
theorem dX5_bits_15 : decode (mC mX5_bits) 15 = .ok (.iand, 1) := by decide +kernel
theorem dX5_bits_16 : decode (mC mX5_bits) 16 = .ok (.iadd, 1) := by decide +kernel
theorem dX5_bits_17 : decode (mC mX5_bits) 17 = .ok (.istore_n 1, 1) := by decide +kernel
theorem dX5_bits_18 : decode (mC mX5_bits) 18 = .ok (.iinc 2 1, 3) := by decide +kernel
theorem dX5_bits_21 : decode (mC mX5_bits) 21 = .ok (.goto (-17), 3) := by decide +kernel
theorem dX5_bits_24 : decode (mC mX5_bits) 24 = .ok (.iload_n 1, 1) := by decide +kernel
theorem dX5_bits_25 : decode (mC mX5_bits) 25 = .ok (.ireturn, 1) := by decide +kernel
theorem dX5_opensBy_0 : decode (mC mX5_opensBy) 0 = .ok (.iload_n 3, 1) := by decide +kernel
theorem dX5_opensBy_1 : decode (mC mX5_opensBy) 1 = .ok (.iconst 1, 1) := by decide +kernel
theorem dX5_opensBy_2 : decode (mC mX5_opensBy) 2 = .ok (.if_icmp .lt 7, 3) := by decide +kernel
theorem dX5_opensBy_5 : decode (mC mX5_opensBy) 5 = .ok (.iconst 1, 1) := by decide +kernel
theorem dX5_opensBy_6 : decode (mC mX5_opensBy) 6 = .ok (.goto 4, 3) := by decide +kernel
theorem dX5_opensBy_9 : decode (mC mX5_opensBy) 9 = .ok (.iconst 0, 1) := by decide +kernel
theorem dX5_opensBy_10 : decode (mC mX5_opensBy) 10 = .ok (.istore 5, 2) := by decide +kernel
theorem dX5_opensBy_12 : decode (mC mX5_opensBy) 12 = .ok (.iload 5, 2) := by decide +kernel
theorem dX5_opensBy_14 : decode (mC mX5_opensBy) 14 = .ok (.ifCond .eq 17, 3) := by decide +kernel
theorem dX5_opensBy_17 : decode (mC mX5_opensBy) 17 = .ok (.iload_n 2, 1) := by decide +kernel
theorem dX5_opensBy_18 : decode (mC mX5_opensBy) 18 = .ok (.iload_n 1, 1) := by decide +kernel
theorem dX5_opensBy_19 : decode (mC mX5_opensBy) 19 = .ok (.iconst 3, 1) := by decide +kernel
theorem dX5_opensBy_20 : decode (mC mX5_opensBy) 20 = .ok (.idiv, 1) := by decide +kernel
theorem dX5_opensBy_21 : decode (mC mX5_opensBy) 21 = .ok (.iconst 2, 1) := by decide +kernel
theorem dX5_opensBy_22 : decode (mC mX5_opensBy) 22 = .ok (.iadd, 1) := by decide +kernel
theorem dX5_opensBy_23 : decode (mC mX5_opensBy) 23 = .ok (.irem, 1) := by decide +kernel
theorem dX5_opensBy_24 : decode (mC mX5_opensBy) 24 = .ok (.ifCond .ne 7, 3) := by decide +kernel
theorem dX5_opensBy_27 : decode (mC mX5_opensBy) 27 = .ok (.iconst 1, 1) := by decide +kernel
theorem dX5_opensBy_28 : decode (mC mX5_opensBy) 28 = .ok (.goto 4, 3) := by decide +kernel
theorem dX5_opensBy_31 : decode (mC mX5_opensBy) 31 = .ok (.iconst 0, 1) := by decide +kernel
theorem dX5_opensBy_32 : decode (mC mX5_opensBy) 32 = .ok (.istore 6, 2) := by decide +kernel
theorem dX5_opensBy_34 : decode (mC mX5_opensBy) 34 = .ok (.iload_n 0, 1) := by decide +kernel
theorem dX5_opensBy_35 : decode (mC mX5_opensBy) 35 = .ok (.tableswitch 89 1 5 #[33, 36, 53, 71, 73], 33) := by decide +kernel
theorem dX5_opensBy_68 : decode (mC mX5_opensBy) 68 = .ok (.iload 6, 2) := by decide +kernel
theorem dX5_opensBy_70 : decode (mC mX5_opensBy) 70 = .ok (.ireturn, 1) := by decide +kernel
theorem dX5_opensBy_71 : decode (mC mX5_opensBy) 71 = .ok (.iload 5, 2) := by decide +kernel
theorem dX5_opensBy_73 : decode (mC mX5_opensBy) 73 = .ok (.ifCond .eq 13, 3) := by decide +kernel
theorem dX5_opensBy_76 : decode (mC mX5_opensBy) 76 = .ok (.iload 4, 2) := by decide +kernel
theorem dX5_opensBy_78 : decode (mC mX5_opensBy) 78 = .ok (.iload_n 1, 1) := by decide +kernel
theorem dX5_opensBy_79 : decode (mC mX5_opensBy) 79 = .ok (.if_icmp .lt 7, 3) := by decide +kernel
theorem dX5_opensBy_82 : decode (mC mX5_opensBy) 82 = .ok (.iconst 1, 1) := by decide +kernel
theorem dX5_opensBy_83 : decode (mC mX5_opensBy) 83 = .ok (.goto 4, 3) := by decide +kernel
theorem dX5_opensBy_86 : decode (mC mX5_opensBy) 86 = .ok (.iconst 0, 1) := by decide +kernel
theorem dX5_opensBy_87 : decode (mC mX5_opensBy) 87 = .ok (.ireturn, 1) := by decide +kernel
theorem dX5_opensBy_88 : decode (mC mX5_opensBy) 88 = .ok (.iload_n 2, 1) := by decide +kernel
theorem dX5_opensBy_89 : decode (mC mX5_opensBy) 89 = .ok (.iconst 2, 1) := by decide +kernel
theorem dX5_opensBy_90 : decode (mC mX5_opensBy) 90 = .ok (.irem, 1) := by decide +kernel
theorem dX5_opensBy_91 : decode (mC mX5_opensBy) 91 = .ok (.iconst 1, 1) := by decide +kernel
theorem dX5_opensBy_92 : decode (mC mX5_opensBy) 92 = .ok (.if_icmp .eq 8, 3) := by decide +kernel
theorem dX5_opensBy_95 : decode (mC mX5_opensBy) 95 = .ok (.iload 5, 2) := by decide +kernel
theorem dX5_opensBy_97 : decode (mC mX5_opensBy) 97 = .ok (.ifCond .eq 7, 3) := by decide +kernel
theorem dX5_opensBy_100 : decode (mC mX5_opensBy) 100 = .ok (.iconst 1, 1) := by decide +kernel
theorem dX5_opensBy_101 : decode (mC mX5_opensBy) 101 = .ok (.goto 4, 3) := by decide +kernel
theorem dX5_opensBy_104 : decode (mC mX5_opensBy) 104 = .ok (.iconst 0, 1) := by decide +kernel
theorem dX5_opensBy_105 : decode (mC mX5_opensBy) 105 = .ok (.ireturn, 1) := by decide +kernel
theorem dX5_opensBy_106 : decode (mC mX5_opensBy) 106 = .ok (.iconst 1, 1) := by decide +kernel
theorem dX5_opensBy_107 : decode (mC mX5_opensBy) 107 = .ok (.ireturn, 1) := by decide +kernel
theorem dX5_opensBy_108 : decode (mC mX5_opensBy) 108 = .ok (.iload 6, 2) := by decide +kernel
theorem dX5_opensBy_110 : decode (mC mX5_opensBy) 110 = .ok (.ifCond .eq 12, 3) := by decide +kernel
theorem dX5_opensBy_113 : decode (mC mX5_opensBy) 113 = .ok (.iload_n 3, 1) := by decide +kernel
theorem dX5_opensBy_114 : decode (mC mX5_opensBy) 114 = .ok (.iconst 2, 1) := by decide +kernel
theorem dX5_opensBy_115 : decode (mC mX5_opensBy) 115 = .ok (.if_icmp .lt 7, 3) := by decide +kernel
theorem dX5_opensBy_118 : decode (mC mX5_opensBy) 118 = .ok (.iconst 1, 1) := by decide +kernel
theorem dX5_opensBy_119 : decode (mC mX5_opensBy) 119 = .ok (.goto 4, 3) := by decide +kernel
theorem dX5_opensBy_122 : decode (mC mX5_opensBy) 122 = .ok (.iconst 0, 1) := by decide +kernel
theorem dX5_opensBy_123 : decode (mC mX5_opensBy) 123 = .ok (.ireturn, 1) := by decide +kernel
theorem dX5_opensBy_124 : decode (mC mX5_opensBy) 124 = .ok (.iload 5, 2) := by decide +kernel
theorem dX5_opensBy_126 : decode (mC mX5_opensBy) 126 = .ok (.ireturn, 1) := by decide +kernel
theorem dX5_isThere_0 : decode (mC mX5_isThere) 0 = .ok (.aload_n 0, 1) := by decide +kernel
theorem dX5_isThere_1 : decode (mC mX5_isThere) 1 = .ok (.iconst 4, 1) := by decide +kernel
theorem dX5_isThere_2 : decode (mC mX5_isThere) 2 = .ok (.iaload, 1) := by decide +kernel
theorem dX5_isThere_3 : decode (mC mX5_isThere) 3 = .ok (.iload_n 1, 1) := by decide +kernel
theorem dX5_isThere_4 : decode (mC mX5_isThere) 4 = .ok (.invokestatic 47, 3) := by decide +kernel
theorem dX5_isThere_7 : decode (mC mX5_isThere) 7 = .ok (.ifCond .ne 18, 3) := by decide +kernel
theorem dX5_isThere_10 : decode (mC mX5_isThere) 10 = .ok (.aload_n 0, 1) := by decide +kernel
theorem dX5_isThere_11 : decode (mC mX5_isThere) 11 = .ok (.iload_n 1, 1) := by decide +kernel
theorem dX5_isThere_12 : decode (mC mX5_isThere) 12 = .ok (.iconst 0, 1) := by decide +kernel
theorem dX5_isThere_13 : decode (mC mX5_isThere) 13 = .ok (.invokestatic 51, 3) := by decide +kernel
theorem dX5_isThere_16 : decode (mC mX5_isThere) 16 = .ok (.iaload, 1) := by decide +kernel
theorem dX5_isThere_17 : decode (mC mX5_isThere) 17 = .ok (.iload_n 2, 1) := by decide +kernel
theorem dX5_isThere_18 : decode (mC mX5_isThere) 18 = .ok (.if_icmp .ne 7, 3) := by decide +kernel
theorem dX5_isThere_21 : decode (mC mX5_isThere) 21 = .ok (.iconst 1, 1) := by decide +kernel
theorem dX5_isThere_22 : decode (mC mX5_isThere) 22 = .ok (.goto 4, 3) := by decide +kernel
theorem dX5_isThere_25 : decode (mC mX5_isThere) 25 = .ok (.iconst 0, 1) := by decide +kernel
theorem dX5_isThere_26 : decode (mC mX5_isThere) 26 = .ok (.ireturn, 1) := by decide +kernel
theorem dX5_opens_0 : decode (mC mX5_opens) 0 = .ok (.aload_n 0, 1) := by decide +kernel
theorem dX5_opens_1 : decode (mC mX5_opens) 1 = .ok (.iload_n 1, 1) := by decide +kernel
theorem dX5_opens_2 : decode (mC mX5_opens) 2 = .ok (.iconst 4, 1) := by decide +kernel
theorem dX5_opens_3 : decode (mC mX5_opens) 3 = .ok (.invokestatic 55, 3) := by decide +kernel
theorem dX5_opens_6 : decode (mC mX5_opens) 6 = .ok (.iaload, 1) := by decide +kernel
theorem dX5_opens_7 : decode (mC mX5_opens) 7 = .ok (.iconst 1, 1) := by decide +kernel
theorem dX5_opens_8 : decode (mC mX5_opens) 8 = .ok (.if_icmp .ne 5, 3) := by decide +kernel
theorem dX5_opens_11 : decode (mC mX5_opens) 11 = .ok (.iconst 1, 1) := by decide +kernel
theorem dX5_opens_12 : decode (mC mX5_opens) 12 = .ok (.ireturn, 1) := by decide +kernel
theorem dX5_opens_13 : decode (mC mX5_opens) 13 = .ok (.iconst 0, 1) := by decide +kernel
theorem dX5_opens_14 : decode (mC mX5_opens) 14 = .ok (.istore 4, 2) := by decide +kernel
theorem dX5_opens_16 : decode (mC mX5_opens) 16 = .ok (.iconst 0, 1) := by decide +kernel
theorem dX5_opens_17 : decode (mC mX5_opens) 17 = .ok (.istore 5, 2) := by decide +kernel
theorem dX5_opens_19 : decode (mC mX5_opens) 19 = .ok (.iconst 0, 1) := by decide +kernel
theorem dX5_opens_20 : decode (mC mX5_opens) 20 = .ok (.istore 6, 2) := by decide +kernel
theorem dX5_opens_22 : decode (mC mX5_opens) 22 = .ok (.iload 6, 2) := by decide +kernel
theorem dX5_opens_24 : decode (mC mX5_opens) 24 = .ok (.aload_n 0, 1) := by decide +kernel
theorem dX5_opens_25 : decode (mC mX5_opens) 25 = .ok (.iconst 1, 1) := by decide +kernel
theorem dX5_opens_26 : decode (mC mX5_opens) 26 = .ok (.iaload, 1) := by decide +kernel
theorem dX5_opens_27 : decode (mC mX5_opens) 27 = .ok (.if_icmp .ge 65, 3) := by decide +kernel
theorem dX5_opens_30 : decode (mC mX5_opens) 30 = .ok (.iload 6, 2) := by decide +kernel
theorem dX5_opens_32 : decode (mC mX5_opens) 32 = .ok (.iload_n 2, 1) := by decide +kernel
theorem dX5_opens_33 : decode (mC mX5_opens) 33 = .ok (.if_icmp .eq 53, 3) := by decide +kernel
theorem dX5_opens_36 : decode (mC mX5_opens) 36 = .ok (.aload_n 0, 1) := by decide +kernel
theorem dX5_opens_37 : decode (mC mX5_opens) 37 = .ok (.iload 6, 2) := by decide +kernel
theorem dX5_opens_39 : decode (mC mX5_opens) 39 = .ok (.aload_n 0, 1) := by decide +kernel
theorem dX5_opens_40 : decode (mC mX5_opens) 40 = .ok (.iload_n 1, 1) := by decide +kernel
theorem dX5_opens_41 : decode (mC mX5_opens) 41 = .ok (.iconst 3, 1) := by decide +kernel
theorem dX5_opens_42 : decode (mC mX5_opens) 42 = .ok (.invokestatic 55, 3) := by decide +kernel
theorem dX5_opens_45 : decode (mC mX5_opens) 45 = .ok (.iaload, 1) := by decide +kernel
theorem dX5_opens_46 : decode (mC mX5_opens) 46 = .ok (.invokestatic 58, 3) := by decide +kernel
theorem dX5_opens_49 : decode (mC mX5_opens) 49 = .ok (.ifCond .ne 6, 3) := by decide +kernel
theorem dX5_opens_52 : decode (mC mX5_opens) 52 = .ok (.goto 34, 3) := by decide +kernel
theorem dX5_opens_55 : decode (mC mX5_opens) 55 = .ok (.iinc 4 1, 3) := by decide +kernel
theorem dX5_opens_58 : decode (mC mX5_opens) 58 = .ok (.aload_n 0, 1) := by decide +kernel
theorem dX5_opens_59 : decode (mC mX5_opens) 59 = .ok (.iload 6, 2) := by decide +kernel
theorem dX5_opens_61 : decode (mC mX5_opens) 61 = .ok (.iconst 2, 1) := by decide +kernel
theorem dX5_opens_62 : decode (mC mX5_opens) 62 = .ok (.invokestatic 51, 3) := by decide +kernel
theorem dX5_opens_65 : decode (mC mX5_opens) 65 = .ok (.iaload, 1) := by decide +kernel
theorem dX5_opens_66 : decode (mC mX5_opens) 66 = .ok (.iload 5, 2) := by decide +kernel
theorem dX5_opens_68 : decode (mC mX5_opens) 68 = .ok (.if_icmp .le 14, 3) := by decide +kernel
theorem dX5_opens_71 : decode (mC mX5_opens) 71 = .ok (.aload_n 0, 1) := by decide +kernel
theorem dX5_opens_72 : decode (mC mX5_opens) 72 = .ok (.iload 6, 2) := by decide +kernel
theorem dX5_opens_74 : decode (mC mX5_opens) 74 = .ok (.iconst 2, 1) := by decide +kernel
theorem dX5_opens_75 : decode (mC mX5_opens) 75 = .ok (.invokestatic 51, 3) := by decide +kernel
theorem dX5_opens_78 : decode (mC mX5_opens) 78 = .ok (.iaload, 1) := by decide +kernel
theorem dX5_opens_79 : decode (mC mX5_opens) 79 = .ok (.goto 5, 3) := by decide +kernel
theorem dX5_opens_82 : decode (mC mX5_opens) 82 = .ok (.iload 5, 2) := by decide +kernel
theorem dX5_opens_84 : decode (mC mX5_opens) 84 = .ok (.istore 5, 2) := by decide +kernel
theorem dX5_opens_86 : decode (mC mX5_opens) 86 = .ok (.iinc 6 1, 3) := by decide +kernel
theorem dX5_opens_89 : decode (mC mX5_opens) 89 = .ok (.goto (-67), 3) := by decide +kernel
theorem dX5_opens_92 : decode (mC mX5_opens) 92 = .ok (.aload_n 0, 1) := by decide +kernel
theorem dX5_opens_93 : decode (mC mX5_opens) 93 = .ok (.iload_n 1, 1) := by decide +kernel
theorem dX5_opens_94 : decode (mC mX5_opens) 94 = .ok (.iconst 0, 1) := by decide +kernel
theorem dX5_opens_95 : decode (mC mX5_opens) 95 = .ok (.invokestatic 55, 3) := by decide +kernel
theorem dX5_opens_98 : decode (mC mX5_opens) 98 = .ok (.iaload, 1) := by decide +kernel
theorem dX5_opens_99 : decode (mC mX5_opens) 99 = .ok (.aload_n 0, 1) := by decide +kernel
theorem dX5_opens_100 : decode (mC mX5_opens) 100 = .ok (.iload_n 1, 1) := by decide +kernel
theorem dX5_opens_101 : decode (mC mX5_opens) 101 = .ok (.iconst 1, 1) := by decide +kernel
theorem dX5_opens_102 : decode (mC mX5_opens) 102 = .ok (.invokestatic 55, 3) := by decide +kernel
theorem dX5_opens_105 : decode (mC mX5_opens) 105 = .ok (.iaload, 1) := by decide +kernel
theorem dX5_opens_106 : decode (mC mX5_opens) 106 = .ok (.iload_n 3, 1) := by decide +kernel
theorem dX5_opens_107 : decode (mC mX5_opens) 107 = .ok (.iload 4, 2) := by decide +kernel
theorem dX5_opens_109 : decode (mC mX5_opens) 109 = .ok (.iload 5, 2) := by decide +kernel
theorem dX5_opens_111 : decode (mC mX5_opens) 111 = .ok (.invokestatic 62, 3) := by decide +kernel
theorem dX5_opens_114 : decode (mC mX5_opens) 114 = .ok (.ireturn, 1) := by decide +kernel
theorem dX5_measures_0 : decode (mC mX5_measures) 0 = .ok (.iconst 0, 1) := by decide +kernel
theorem dX5_measures_1 : decode (mC mX5_measures) 1 = .ok (.istore_n 2, 1) := by decide +kernel
theorem dX5_measures_2 : decode (mC mX5_measures) 2 = .ok (.iload_n 2, 1) := by decide +kernel
theorem dX5_measures_3 : decode (mC mX5_measures) 3 = .ok (.bipush 64, 2) := by decide +kernel
theorem dX5_measures_5 : decode (mC mX5_measures) 5 = .ok (.if_icmp .ge 28, 3) := by decide +kernel
theorem dX5_measures_8 : decode (mC mX5_measures) 8 = .ok (.aload_n 0, 1) := by decide +kernel
theorem dX5_measures_9 : decode (mC mX5_measures) 9 = .ok (.getfield 22, 3) := by decide +kernel
theorem dX5_measures_12 : decode (mC mX5_measures) 12 = .ok (.iload_n 2, 1) := by decide +kernel
theorem dX5_measures_13 : decode (mC mX5_measures) 13 = .ok (.iload_n 2, 1) := by decide +kernel
theorem dX5_measures_14 : decode (mC mX5_measures) 14 = .ok (.bipush 9, 2) := by decide +kernel
theorem dX5_measures_16 : decode (mC mX5_measures) 16 = .ok (.irem, 1) := by decide +kernel
theorem dX5_measures_17 : decode (mC mX5_measures) 17 = .ok (.ifCond .ne 7, 3) := by decide +kernel
theorem dX5_measures_20 : decode (mC mX5_measures) 20 = .ok (.iconst 0, 1) := by decide +kernel
theorem dX5_measures_21 : decode (mC mX5_measures) 21 = .ok (.goto 5, 3) := by decide +kernel
theorem dX5_measures_24 : decode (mC mX5_measures) 24 = .ok (.bipush 99, 2) := by decide +kernel
theorem dX5_measures_26 : decode (mC mX5_measures) 26 = .ok (.iastore, 1) := by decide +kernel
theorem dX5_measures_27 : decode (mC mX5_measures) 27 = .ok (.iinc 2 1, 3) := by decide +kernel
theorem dX5_measures_30 : decode (mC mX5_measures) 30 = .ok (.goto (-28), 3) := by decide +kernel
theorem dX5_measures_33 : decode (mC mX5_measures) 33 = .ok (.iconst 0, 1) := by decide +kernel
theorem dX5_measures_34 : decode (mC mX5_measures) 34 = .ok (.istore_n 2, 1) := by decide +kernel
theorem dX5_measures_35 : decode (mC mX5_measures) 35 = .ok (.iload_n 2, 1) := by decide +kernel
theorem dX5_measures_36 : decode (mC mX5_measures) 36 = .ok (.aload_n 1, 1) := by decide +kernel
theorem dX5_measures_37 : decode (mC mX5_measures) 37 = .ok (.iconst 0, 1) := by decide +kernel
theorem dX5_measures_38 : decode (mC mX5_measures) 38 = .ok (.iaload, 1) := by decide +kernel
theorem dX5_measures_39 : decode (mC mX5_measures) 39 = .ok (.if_icmp .ge 33, 3) := by decide +kernel
theorem dX5_measures_42 : decode (mC mX5_measures) 42 = .ok (.aload_n 0, 1) := by decide +kernel
theorem dX5_measures_43 : decode (mC mX5_measures) 43 = .ok (.getfield 22, 3) := by decide +kernel
theorem dX5_measures_46 : decode (mC mX5_measures) 46 = .ok (.bipush 8, 2) := by decide +kernel
theorem dX5_measures_48 : decode (mC mX5_measures) 48 = .ok (.aload_n 1, 1) := by decide +kernel
theorem dX5_measures_49 : decode (mC mX5_measures) 49 = .ok (.iload_n 2, 1) := by decide +kernel
theorem dX5_measures_50 : decode (mC mX5_measures) 50 = .ok (.iconst 2, 1) := by decide +kernel
theorem dX5_measures_51 : decode (mC mX5_measures) 51 = .ok (.invokestatic 55, 3) := by decide +kernel
theorem dX5_measures_54 : decode (mC mX5_measures) 54 = .ok (.iaload, 1) := by decide +kernel
theorem dX5_measures_55 : decode (mC mX5_measures) 55 = .ok (.imul, 1) := by decide +kernel
theorem dX5_measures_56 : decode (mC mX5_measures) 56 = .ok (.aload_n 1, 1) := by decide +kernel
theorem dX5_measures_57 : decode (mC mX5_measures) 57 = .ok (.iload_n 2, 1) := by decide +kernel
theorem dX5_measures_58 : decode (mC mX5_measures) 58 = .ok (.iconst 3, 1) := by decide +kernel
theorem dX5_measures_59 : decode (mC mX5_measures) 59 = .ok (.invokestatic 55, 3) := by decide +kernel
theorem dX5_measures_62 : decode (mC mX5_measures) 62 = .ok (.iaload, 1) := by decide +kernel
theorem dX5_measures_63 : decode (mC mX5_measures) 63 = .ok (.iadd, 1) := by decide +kernel
theorem dX5_measures_64 : decode (mC mX5_measures) 64 = .ok (.iconst 1, 1) := by decide +kernel
theorem dX5_measures_65 : decode (mC mX5_measures) 65 = .ok (.iastore, 1) := by decide +kernel
theorem dX5_measures_66 : decode (mC mX5_measures) 66 = .ok (.iinc 2 1, 3) := by decide +kernel
theorem dX5_measures_69 : decode (mC mX5_measures) 69 = .ok (.goto (-34), 3) := by decide +kernel
theorem dX5_measures_72 : decode (mC mX5_measures) 72 = .ok (.iconst 0, 1) := by decide +kernel
theorem dX5_measures_73 : decode (mC mX5_measures) 73 = .ok (.istore_n 2, 1) := by decide +kernel
theorem dX5_measures_74 : decode (mC mX5_measures) 74 = .ok (.iload_n 2, 1) := by decide +kernel
theorem dX5_measures_75 : decode (mC mX5_measures) 75 = .ok (.bipush 8, 2) := by decide +kernel
theorem dX5_measures_77 : decode (mC mX5_measures) 77 = .ok (.if_icmp .ge 90, 3) := by decide +kernel
theorem dX5_measures_80 : decode (mC mX5_measures) 80 = .ok (.iconst 0, 1) := by decide +kernel
theorem dX5_measures_81 : decode (mC mX5_measures) 81 = .ok (.istore_n 3, 1) := by decide +kernel
theorem dX5_measures_82 : decode (mC mX5_measures) 82 = .ok (.iload_n 3, 1) := by decide +kernel
theorem dX5_measures_83 : decode (mC mX5_measures) 83 = .ok (.bipush 8, 2) := by decide +kernel
theorem dX5_measures_85 : decode (mC mX5_measures) 85 = .ok (.if_icmp .ge 76, 3) := by decide +kernel
theorem dX5_measures_88 : decode (mC mX5_measures) 88 = .ok (.iconst 0, 1) := by decide +kernel
theorem dX5_measures_89 : decode (mC mX5_measures) 89 = .ok (.istore 4, 2) := by decide +kernel
theorem dX5_measures_91 : decode (mC mX5_measures) 91 = .ok (.iload 4, 2) := by decide +kernel
theorem dX5_measures_93 : decode (mC mX5_measures) 93 = .ok (.bipush 8, 2) := by decide +kernel
theorem dX5_measures_95 : decode (mC mX5_measures) 95 = .ok (.if_icmp .ge 60, 3) := by decide +kernel
theorem dX5_measures_98 : decode (mC mX5_measures) 98 = .ok (.aload_n 0, 1) := by decide +kernel
theorem dX5_measures_99 : decode (mC mX5_measures) 99 = .ok (.getfield 22, 3) := by decide +kernel
theorem dX5_measures_102 : decode (mC mX5_measures) 102 = .ok (.bipush 8, 2) := by decide +kernel
theorem dX5_measures_104 : decode (mC mX5_measures) 104 = .ok (.iload_n 3, 1) := by decide +kernel
theorem dX5_measures_105 : decode (mC mX5_measures) 105 = .ok (.imul, 1) := by decide +kernel
theorem dX5_measures_106 : decode (mC mX5_measures) 106 = .ok (.iload 4, 2) := by decide +kernel
theorem dX5_measures_108 : decode (mC mX5_measures) 108 = .ok (.iadd, 1) := by decide +kernel
theorem dX5_measures_109 : decode (mC mX5_measures) 109 = .ok (.aload_n 0, 1) := by decide +kernel
theorem dX5_measures_110 : decode (mC mX5_measures) 110 = .ok (.getfield 22, 3) := by decide +kernel
theorem dX5_measures_113 : decode (mC mX5_measures) 113 = .ok (.bipush 8, 2) := by decide +kernel
theorem dX5_measures_115 : decode (mC mX5_measures) 115 = .ok (.iload_n 3, 1) := by decide +kernel
theorem dX5_measures_116 : decode (mC mX5_measures) 116 = .ok (.imul, 1) := by decide +kernel
theorem dX5_measures_117 : decode (mC mX5_measures) 117 = .ok (.iload 4, 2) := by decide +kernel
theorem dX5_measures_119 : decode (mC mX5_measures) 119 = .ok (.iadd, 1) := by decide +kernel
theorem dX5_measures_120 : decode (mC mX5_measures) 120 = .ok (.iaload, 1) := by decide +kernel
theorem dX5_measures_121 : decode (mC mX5_measures) 121 = .ok (.aload_n 0, 1) := by decide +kernel
theorem dX5_measures_122 : decode (mC mX5_measures) 122 = .ok (.getfield 22, 3) := by decide +kernel
theorem dX5_measures_125 : decode (mC mX5_measures) 125 = .ok (.bipush 8, 2) := by decide +kernel
theorem dX5_measures_127 : decode (mC mX5_measures) 127 = .ok (.iload_n 3, 1) := by decide +kernel
theorem dX5_measures_128 : decode (mC mX5_measures) 128 = .ok (.imul, 1) := by decide +kernel
theorem dX5_measures_129 : decode (mC mX5_measures) 129 = .ok (.iload_n 2, 1) := by decide +kernel
theorem dX5_measures_130 : decode (mC mX5_measures) 130 = .ok (.iadd, 1) := by decide +kernel
theorem dX5_measures_131 : decode (mC mX5_measures) 131 = .ok (.iaload, 1) := by decide +kernel
theorem dX5_measures_132 : decode (mC mX5_measures) 132 = .ok (.aload_n 0, 1) := by decide +kernel
theorem dX5_measures_133 : decode (mC mX5_measures) 133 = .ok (.getfield 22, 3) := by decide +kernel
theorem dX5_measures_136 : decode (mC mX5_measures) 136 = .ok (.bipush 8, 2) := by decide +kernel
theorem dX5_measures_138 : decode (mC mX5_measures) 138 = .ok (.iload_n 2, 1) := by decide +kernel
theorem dX5_measures_139 : decode (mC mX5_measures) 139 = .ok (.imul, 1) := by decide +kernel
theorem dX5_measures_140 : decode (mC mX5_measures) 140 = .ok (.iload 4, 2) := by decide +kernel
theorem dX5_measures_142 : decode (mC mX5_measures) 142 = .ok (.iadd, 1) := by decide +kernel
theorem dX5_measures_143 : decode (mC mX5_measures) 143 = .ok (.iaload, 1) := by decide +kernel
theorem dX5_measures_144 : decode (mC mX5_measures) 144 = .ok (.iadd, 1) := by decide +kernel
theorem dX5_measures_145 : decode (mC mX5_measures) 145 = .ok (.invokestatic 66, 3) := by decide +kernel
theorem dX5_measures_148 : decode (mC mX5_measures) 148 = .ok (.iastore, 1) := by decide +kernel
theorem dX5_measures_149 : decode (mC mX5_measures) 149 = .ok (.iinc 4 1, 3) := by decide +kernel
theorem dX5_measures_152 : decode (mC mX5_measures) 152 = .ok (.goto (-61), 3) := by decide +kernel
theorem dX5_measures_155 : decode (mC mX5_measures) 155 = .ok (.iinc 3 1, 3) := by decide +kernel
theorem dX5_measures_158 : decode (mC mX5_measures) 158 = .ok (.goto (-76), 3) := by decide +kernel
theorem dX5_measures_161 : decode (mC mX5_measures) 161 = .ok (.iinc 2 1, 3) := by decide +kernel
theorem dX5_measures_164 : decode (mC mX5_measures) 164 = .ok (.goto (-90), 3) := by decide +kernel
theorem dX5_measures_167 : decode (mC mX5_measures) 167 = .ok (.return_, 1) := by decide +kernel
theorem dX5_wayOf_0 : decode (mC mX5_wayOf) 0 = .ok (.aload_n 0, 1) := by decide +kernel
theorem dX5_wayOf_1 : decode (mC mX5_wayOf) 1 = .ok (.getfield 22, 3) := by decide +kernel
theorem dX5_wayOf_4 : decode (mC mX5_wayOf) 4 = .ok (.bipush 8, 2) := by decide +kernel
theorem dX5_wayOf_6 : decode (mC mX5_wayOf) 6 = .ok (.iload_n 1, 1) := by decide +kernel
theorem dX5_wayOf_7 : decode (mC mX5_wayOf) 7 = .ok (.imul, 1) := by decide +kernel
theorem dX5_wayOf_8 : decode (mC mX5_wayOf) 8 = .ok (.iload_n 2, 1) := by decide +kernel
theorem dX5_wayOf_9 : decode (mC mX5_wayOf) 9 = .ok (.iadd, 1) := by decide +kernel
theorem dX5_wayOf_10 : decode (mC mX5_wayOf) 10 = .ok (.iaload, 1) := by decide +kernel
theorem dX5_wayOf_11 : decode (mC mX5_wayOf) 11 = .ok (.ireturn, 1) := by decide +kernel
theorem dX5_isOnWay_0 : decode (mC mX5_isOnWay) 0 = .ok (.aload_n 1, 1) := by decide +kernel
theorem dX5_isOnWay_1 : decode (mC mX5_isOnWay) 1 = .ok (.iload_n 2, 1) := by decide +kernel
theorem dX5_isOnWay_2 : decode (mC mX5_isOnWay) 2 = .ok (.iconst 2, 1) := by decide +kernel
theorem dX5_isOnWay_3 : decode (mC mX5_isOnWay) 3 = .ok (.invokestatic 55, 3) := by decide +kernel
theorem dX5_isOnWay_6 : decode (mC mX5_isOnWay) 6 = .ok (.iaload, 1) := by decide +kernel
theorem dX5_isOnWay_7 : decode (mC mX5_isOnWay) 7 = .ok (.iload_n 3, 1) := by decide +kernel
theorem dX5_isOnWay_8 : decode (mC mX5_isOnWay) 8 = .ok (.if_icmp .ne 44, 3) := by decide +kernel
theorem dX5_isOnWay_11 : decode (mC mX5_isOnWay) 11 = .ok (.aload_n 0, 1) := by decide +kernel
theorem dX5_isOnWay_12 : decode (mC mX5_isOnWay) 12 = .ok (.iload_n 3, 1) := by decide +kernel
theorem dX5_isOnWay_13 : decode (mC mX5_isOnWay) 13 = .ok (.iload 4, 2) := by decide +kernel
theorem dX5_isOnWay_15 : decode (mC mX5_isOnWay) 15 = .ok (.invokevirtual 69, 3) := by decide +kernel
theorem dX5_isOnWay_18 : decode (mC mX5_isOnWay) 18 = .ok (.bipush 99, 2) := by decide +kernel
theorem dX5_isOnWay_20 : decode (mC mX5_isOnWay) 20 = .ok (.if_icmp .ge 32, 3) := by decide +kernel
theorem dX5_isOnWay_23 : decode (mC mX5_isOnWay) 23 = .ok (.aload_n 0, 1) := by decide +kernel
theorem dX5_isOnWay_24 : decode (mC mX5_isOnWay) 24 = .ok (.aload_n 1, 1) := by decide +kernel
theorem dX5_isOnWay_25 : decode (mC mX5_isOnWay) 25 = .ok (.iload_n 2, 1) := by decide +kernel
theorem dX5_isOnWay_26 : decode (mC mX5_isOnWay) 26 = .ok (.iconst 3, 1) := by decide +kernel
theorem dX5_isOnWay_27 : decode (mC mX5_isOnWay) 27 = .ok (.invokestatic 55, 3) := by decide +kernel
theorem dX5_isOnWay_30 : decode (mC mX5_isOnWay) 30 = .ok (.iaload, 1) := by decide +kernel
theorem dX5_isOnWay_31 : decode (mC mX5_isOnWay) 31 = .ok (.iload 4, 2) := by decide +kernel
theorem dX5_isOnWay_33 : decode (mC mX5_isOnWay) 33 = .ok (.invokevirtual 69, 3) := by decide +kernel
theorem dX5_isOnWay_36 : decode (mC mX5_isOnWay) 36 = .ok (.aload_n 0, 1) := by decide +kernel
theorem dX5_isOnWay_37 : decode (mC mX5_isOnWay) 37 = .ok (.iload_n 3, 1) := by decide +kernel
theorem dX5_isOnWay_38 : decode (mC mX5_isOnWay) 38 = .ok (.iload 4, 2) := by decide +kernel
theorem dX5_isOnWay_40 : decode (mC mX5_isOnWay) 40 = .ok (.invokevirtual 69, 3) := by decide +kernel
theorem dX5_isOnWay_43 : decode (mC mX5_isOnWay) 43 = .ok (.iconst 1, 1) := by decide +kernel
theorem dX5_isOnWay_44 : decode (mC mX5_isOnWay) 44 = .ok (.isub, 1) := by decide +kernel
theorem dX5_isOnWay_45 : decode (mC mX5_isOnWay) 45 = .ok (.if_icmp .ne 7, 3) := by decide +kernel
theorem dX5_isOnWay_48 : decode (mC mX5_isOnWay) 48 = .ok (.iconst 1, 1) := by decide +kernel
theorem dX5_isOnWay_49 : decode (mC mX5_isOnWay) 49 = .ok (.goto 4, 3) := by decide +kernel
theorem dX5_isOnWay_52 : decode (mC mX5_isOnWay) 52 = .ok (.iconst 0, 1) := by decide +kernel
theorem dX5_isOnWay_53 : decode (mC mX5_isOnWay) 53 = .ok (.ireturn, 1) := by decide +kernel
theorem dX5_doorOf_0 : decode (mC mX5_doorOf) 0 = .ok (.aload_n 1, 1) := by decide +kernel
theorem dX5_doorOf_1 : decode (mC mX5_doorOf) 1 = .ok (.iload_n 2, 1) := by decide +kernel
theorem dX5_doorOf_2 : decode (mC mX5_doorOf) 2 = .ok (.iconst 0, 1) := by decide +kernel
theorem dX5_doorOf_3 : decode (mC mX5_doorOf) 3 = .ok (.invokestatic 51, 3) := by decide +kernel
theorem dX5_doorOf_6 : decode (mC mX5_doorOf) 6 = .ok (.iaload, 1) := by decide +kernel
theorem dX5_doorOf_7 : decode (mC mX5_doorOf) 7 = .ok (.istore 4, 2) := by decide +kernel
theorem dX5_doorOf_9 : decode (mC mX5_doorOf) 9 = .ok (.aload_n 1, 1) := by decide +kernel
theorem dX5_doorOf_10 : decode (mC mX5_doorOf) 10 = .ok (.iload_n 2, 1) := by decide +kernel
theorem dX5_doorOf_11 : decode (mC mX5_doorOf) 11 = .ok (.iconst 1, 1) := by decide +kernel
theorem dX5_doorOf_12 : decode (mC mX5_doorOf) 12 = .ok (.invokestatic 51, 3) := by decide +kernel
theorem dX5_doorOf_15 : decode (mC mX5_doorOf) 15 = .ok (.iaload, 1) := by decide +kernel
theorem dX5_doorOf_16 : decode (mC mX5_doorOf) 16 = .ok (.istore 5, 2) := by decide +kernel
theorem dX5_doorOf_18 : decode (mC mX5_doorOf) 18 = .ok (.iconst 0, 1) := by decide +kernel
theorem dX5_doorOf_19 : decode (mC mX5_doorOf) 19 = .ok (.istore 6, 2) := by decide +kernel
theorem dX5_doorOf_21 : decode (mC mX5_doorOf) 21 = .ok (.iload 6, 2) := by decide +kernel
theorem dX5_doorOf_23 : decode (mC mX5_doorOf) 23 = .ok (.aload_n 1, 1) := by decide +kernel
theorem dX5_doorOf_24 : decode (mC mX5_doorOf) 24 = .ok (.iconst 0, 1) := by decide +kernel
theorem dX5_doorOf_25 : decode (mC mX5_doorOf) 25 = .ok (.iaload, 1) := by decide +kernel
theorem dX5_doorOf_26 : decode (mC mX5_doorOf) 26 = .ok (.if_icmp .ge 44, 3) := by decide +kernel
theorem dX5_doorOf_29 : decode (mC mX5_doorOf) 29 = .ok (.iload 4, 2) := by decide +kernel
theorem dX5_doorOf_31 : decode (mC mX5_doorOf) 31 = .ok (.iload 5, 2) := by decide +kernel
theorem dX5_doorOf_33 : decode (mC mX5_doorOf) 33 = .ok (.if_icmp .eq 31, 3) := by decide +kernel
theorem dX5_doorOf_36 : decode (mC mX5_doorOf) 36 = .ok (.aload_n 0, 1) := by decide +kernel
theorem dX5_doorOf_37 : decode (mC mX5_doorOf) 37 = .ok (.aload_n 1, 1) := by decide +kernel
theorem dX5_doorOf_38 : decode (mC mX5_doorOf) 38 = .ok (.iload 6, 2) := by decide +kernel
theorem dX5_doorOf_40 : decode (mC mX5_doorOf) 40 = .ok (.iload 4, 2) := by decide +kernel
theorem dX5_doorOf_42 : decode (mC mX5_doorOf) 42 = .ok (.iload 5, 2) := by decide +kernel
theorem dX5_doorOf_44 : decode (mC mX5_doorOf) 44 = .ok (.invokevirtual 72, 3) := by decide +kernel
theorem dX5_doorOf_47 : decode (mC mX5_doorOf) 47 = .ok (.ifCond .eq 17, 3) := by decide +kernel
theorem dX5_doorOf_50 : decode (mC mX5_doorOf) 50 = .ok (.aload_n 1, 1) := by decide +kernel
theorem dX5_doorOf_51 : decode (mC mX5_doorOf) 51 = .ok (.iload 6, 2) := by decide +kernel
theorem dX5_doorOf_53 : decode (mC mX5_doorOf) 53 = .ok (.iload_n 2, 1) := by decide +kernel
theorem dX5_doorOf_54 : decode (mC mX5_doorOf) 54 = .ok (.iload_n 3, 1) := by decide +kernel
theorem dX5_doorOf_55 : decode (mC mX5_doorOf) 55 = .ok (.invokestatic 76, 3) := by decide +kernel
theorem dX5_doorOf_58 : decode (mC mX5_doorOf) 58 = .ok (.ifCond .eq 6, 3) := by decide +kernel
theorem dX5_doorOf_61 : decode (mC mX5_doorOf) 61 = .ok (.iload 6, 2) := by decide +kernel
theorem dX5_doorOf_63 : decode (mC mX5_doorOf) 63 = .ok (.ireturn, 1) := by decide +kernel
theorem dX5_doorOf_64 : decode (mC mX5_doorOf) 64 = .ok (.iinc 6 1, 3) := by decide +kernel
theorem dX5_doorOf_67 : decode (mC mX5_doorOf) 67 = .ok (.goto (-46), 3) := by decide +kernel
theorem dX5_doorOf_70 : decode (mC mX5_doorOf) 70 = .ok (.bipush (-9), 2) := by decide +kernel
theorem dX5_doorOf_72 : decode (mC mX5_doorOf) 72 = .ok (.ireturn, 1) := by decide +kernel
theorem dX5_hour_0 : decode (mC mX5_hour) 0 = .ok (.aload_n 1, 1) := by decide +kernel
theorem dX5_hour_1 : decode (mC mX5_hour) 1 = .ok (.iconst 2, 1) := by decide +kernel
theorem dX5_hour_2 : decode (mC mX5_hour) 2 = .ok (.dup2, 1) := by decide +kernel
theorem dX5_hour_3 : decode (mC mX5_hour) 3 = .ok (.iaload, 1) := by decide +kernel
theorem dX5_hour_4 : decode (mC mX5_hour) 4 = .ok (.iconst 1, 1) := by decide +kernel
theorem dX5_hour_5 : decode (mC mX5_hour) 5 = .ok (.iadd, 1) := by decide +kernel
theorem dX5_hour_6 : decode (mC mX5_hour) 6 = .ok (.iastore, 1) := by decide +kernel
theorem dX5_hour_7 : decode (mC mX5_hour) 7 = .ok (.iconst 0, 1) := by decide +kernel
theorem dX5_hour_8 : decode (mC mX5_hour) 8 = .ok (.istore_n 2, 1) := by decide +kernel
theorem dX5_hour_9 : decode (mC mX5_hour) 9 = .ok (.iload_n 2, 1) := by decide +kernel
theorem dX5_hour_10 : decode (mC mX5_hour) 10 = .ok (.aload_n 1, 1) := by decide +kernel
theorem dX5_hour_11 : decode (mC mX5_hour) 11 = .ok (.iconst 1, 1) := by decide +kernel
theorem dX5_hour_12 : decode (mC mX5_hour) 12 = .ok (.iaload, 1) := by decide +kernel
theorem dX5_hour_13 : decode (mC mX5_hour) 13 = .ok (.if_icmp .ge 105, 3) := by decide +kernel
theorem dX5_hour_16 : decode (mC mX5_hour) 16 = .ok (.aload_n 1, 1) := by decide +kernel
theorem dX5_hour_17 : decode (mC mX5_hour) 17 = .ok (.iconst 4, 1) := by decide +kernel
theorem dX5_hour_18 : decode (mC mX5_hour) 18 = .ok (.iaload, 1) := by decide +kernel
theorem dX5_hour_19 : decode (mC mX5_hour) 19 = .ok (.iload_n 2, 1) := by decide +kernel
theorem dX5_hour_20 : decode (mC mX5_hour) 20 = .ok (.invokestatic 47, 3) := by decide +kernel
theorem dX5_hour_23 : decode (mC mX5_hour) 23 = .ok (.ifCond .ne 89, 3) := by decide +kernel
theorem dX5_hour_26 : decode (mC mX5_hour) 26 = .ok (.aload_n 1, 1) := by decide +kernel
theorem dX5_hour_27 : decode (mC mX5_hour) 27 = .ok (.iload_n 2, 1) := by decide +kernel
theorem dX5_hour_28 : decode (mC mX5_hour) 28 = .ok (.iconst 0, 1) := by decide +kernel
theorem dX5_hour_29 : decode (mC mX5_hour) 29 = .ok (.invokestatic 51, 3) := by decide +kernel
theorem dX5_hour_32 : decode (mC mX5_hour) 32 = .ok (.iaload, 1) := by decide +kernel
theorem dX5_hour_33 : decode (mC mX5_hour) 33 = .ok (.aload_n 1, 1) := by decide +kernel
theorem dX5_hour_34 : decode (mC mX5_hour) 34 = .ok (.iload_n 2, 1) := by decide +kernel
theorem dX5_hour_35 : decode (mC mX5_hour) 35 = .ok (.iconst 1, 1) := by decide +kernel
theorem dX5_hour_36 : decode (mC mX5_hour) 36 = .ok (.invokestatic 51, 3) := by decide +kernel
theorem dX5_hour_39 : decode (mC mX5_hour) 39 = .ok (.iaload, 1) := by decide +kernel
theorem dX5_hour_40 : decode (mC mX5_hour) 40 = .ok (.if_icmp .ne 6, 3) := by decide +kernel
theorem dX5_hour_43 : decode (mC mX5_hour) 43 = .ok (.goto 69, 3) := by decide +kernel
theorem dX5_hour_46 : decode (mC mX5_hour) 46 = .ok (.aload_n 0, 1) := by decide +kernel
theorem dX5_hour_47 : decode (mC mX5_hour) 47 = .ok (.aload_n 1, 1) := by decide +kernel
theorem dX5_hour_48 : decode (mC mX5_hour) 48 = .ok (.iload_n 2, 1) := by decide +kernel
theorem dX5_hour_49 : decode (mC mX5_hour) 49 = .ok (.aload_n 1, 1) := by decide +kernel
theorem dX5_hour_50 : decode (mC mX5_hour) 50 = .ok (.iconst 2, 1) := by decide +kernel
theorem dX5_hour_51 : decode (mC mX5_hour) 51 = .ok (.iaload, 1) := by decide +kernel
theorem dX5_hour_52 : decode (mC mX5_hour) 52 = .ok (.invokevirtual 79, 3) := by decide +kernel
theorem dX5_hour_55 : decode (mC mX5_hour) 55 = .ok (.istore_n 3, 1) := by decide +kernel
theorem dX5_hour_56 : decode (mC mX5_hour) 56 = .ok (.iload_n 3, 1) := by decide +kernel
theorem dX5_hour_57 : decode (mC mX5_hour) 57 = .ok (.ifCond .lt 34, 3) := by decide +kernel
theorem dX5_hour_60 : decode (mC mX5_hour) 60 = .ok (.aload_n 1, 1) := by decide +kernel
theorem dX5_hour_61 : decode (mC mX5_hour) 61 = .ok (.iload_n 2, 1) := by decide +kernel
theorem dX5_hour_62 : decode (mC mX5_hour) 62 = .ok (.iconst 0, 1) := by decide +kernel
theorem dX5_hour_63 : decode (mC mX5_hour) 63 = .ok (.invokestatic 51, 3) := by decide +kernel
theorem dX5_hour_66 : decode (mC mX5_hour) 66 = .ok (.aload_n 1, 1) := by decide +kernel
theorem dX5_hour_67 : decode (mC mX5_hour) 67 = .ok (.iload_n 3, 1) := by decide +kernel
theorem dX5_hour_68 : decode (mC mX5_hour) 68 = .ok (.iconst 3, 1) := by decide +kernel
theorem dX5_hour_69 : decode (mC mX5_hour) 69 = .ok (.invokestatic 55, 3) := by decide +kernel
theorem dX5_hour_72 : decode (mC mX5_hour) 72 = .ok (.iaload, 1) := by decide +kernel
theorem dX5_hour_73 : decode (mC mX5_hour) 73 = .ok (.iastore, 1) := by decide +kernel
theorem dX5_hour_74 : decode (mC mX5_hour) 74 = .ok (.aload_n 1, 1) := by decide +kernel
theorem dX5_hour_75 : decode (mC mX5_hour) 75 = .ok (.iconst 3, 1) := by decide +kernel
theorem dX5_hour_76 : decode (mC mX5_hour) 76 = .ok (.sipush 9999, 3) := by decide +kernel
theorem dX5_hour_79 : decode (mC mX5_hour) 79 = .ok (.aload_n 1, 1) := by decide +kernel
theorem dX5_hour_80 : decode (mC mX5_hour) 80 = .ok (.iconst 3, 1) := by decide +kernel
theorem dX5_hour_81 : decode (mC mX5_hour) 81 = .ok (.iaload, 1) := by decide +kernel
theorem dX5_hour_82 : decode (mC mX5_hour) 82 = .ok (.iconst 1, 1) := by decide +kernel
theorem dX5_hour_83 : decode (mC mX5_hour) 83 = .ok (.iadd, 1) := by decide +kernel
theorem dX5_hour_84 : decode (mC mX5_hour) 84 = .ok (.invokestatic 66, 3) := by decide +kernel
theorem dX5_hour_87 : decode (mC mX5_hour) 87 = .ok (.iastore, 1) := by decide +kernel
theorem dX5_hour_88 : decode (mC mX5_hour) 88 = .ok (.goto 24, 3) := by decide +kernel
theorem dX5_hour_91 : decode (mC mX5_hour) 91 = .ok (.aload_n 1, 1) := by decide +kernel
theorem dX5_hour_92 : decode (mC mX5_hour) 92 = .ok (.iload_n 2, 1) := by decide +kernel
theorem dX5_hour_93 : decode (mC mX5_hour) 93 = .ok (.iconst 2, 1) := by decide +kernel
theorem dX5_hour_94 : decode (mC mX5_hour) 94 = .ok (.invokestatic 51, 3) := by decide +kernel
theorem dX5_hour_97 : decode (mC mX5_hour) 97 = .ok (.iaload, 1) := by decide +kernel
theorem dX5_hour_98 : decode (mC mX5_hour) 98 = .ok (.ifCond .le 14, 3) := by decide +kernel
theorem dX5_hour_101 : decode (mC mX5_hour) 101 = .ok (.aload_n 1, 1) := by decide +kernel
theorem dX5_hour_102 : decode (mC mX5_hour) 102 = .ok (.iload_n 2, 1) := by decide +kernel
theorem dX5_hour_103 : decode (mC mX5_hour) 103 = .ok (.iconst 2, 1) := by decide +kernel
theorem dX5_hour_104 : decode (mC mX5_hour) 104 = .ok (.invokestatic 51, 3) := by decide +kernel
theorem dX5_hour_107 : decode (mC mX5_hour) 107 = .ok (.dup2, 1) := by decide +kernel
theorem dX5_hour_108 : decode (mC mX5_hour) 108 = .ok (.iaload, 1) := by decide +kernel
theorem dX5_hour_109 : decode (mC mX5_hour) 109 = .ok (.iconst 1, 1) := by decide +kernel
theorem dX5_hour_110 : decode (mC mX5_hour) 110 = .ok (.isub, 1) := by decide +kernel
theorem dX5_hour_111 : decode (mC mX5_hour) 111 = .ok (.iastore, 1) := by decide +kernel
theorem dX5_hour_112 : decode (mC mX5_hour) 112 = .ok (.iinc 2 1, 3) := by decide +kernel
theorem dX5_hour_115 : decode (mC mX5_hour) 115 = .ok (.goto (-106), 3) := by decide +kernel
theorem dX5_hour_118 : decode (mC mX5_hour) 118 = .ok (.return_, 1) := by decide +kernel
theorem dX5_hoursOn_0 : decode (mC mX5_hoursOn) 0 = .ok (.aload_n 0, 1) := by decide +kernel
theorem dX5_hoursOn_1 : decode (mC mX5_hoursOn) 1 = .ok (.aload_n 1, 1) := by decide +kernel
theorem dX5_hoursOn_2 : decode (mC mX5_hoursOn) 2 = .ok (.invokevirtual 83, 3) := by decide +kernel
theorem dX5_hoursOn_5 : decode (mC mX5_hoursOn) 5 = .ok (.iconst 0, 1) := by decide +kernel
theorem dX5_hoursOn_6 : decode (mC mX5_hoursOn) 6 = .ok (.istore_n 3, 1) := by decide +kernel
theorem dX5_hoursOn_7 : decode (mC mX5_hoursOn) 7 = .ok (.iload_n 3, 1) := by decide +kernel
theorem dX5_hoursOn_8 : decode (mC mX5_hoursOn) 8 = .ok (.iload_n 2, 1) := by decide +kernel
theorem dX5_hoursOn_9 : decode (mC mX5_hoursOn) 9 = .ok (.if_icmp .ge 14, 3) := by decide +kernel
theorem dX5_hoursOn_12 : decode (mC mX5_hoursOn) 12 = .ok (.aload_n 0, 1) := by decide +kernel
theorem dX5_hoursOn_13 : decode (mC mX5_hoursOn) 13 = .ok (.aload_n 1, 1) := by decide +kernel
theorem dX5_hoursOn_14 : decode (mC mX5_hoursOn) 14 = .ok (.invokevirtual 87, 3) := by decide +kernel
theorem dX5_hoursOn_17 : decode (mC mX5_hoursOn) 17 = .ok (.iinc 3 1, 3) := by decide +kernel
theorem dX5_hoursOn_20 : decode (mC mX5_hoursOn) 20 = .ok (.goto (-13), 3) := by decide +kernel
theorem dX5_hoursOn_23 : decode (mC mX5_hoursOn) 23 = .ok (.return_, 1) := by decide +kernel
theorem dX5_homeIn_0 : decode (mC mX5_homeIn) 0 = .ok (.iconst 0, 1) := by decide +kernel
theorem dX5_homeIn_1 : decode (mC mX5_homeIn) 1 = .ok (.istore_n 1, 1) := by decide +kernel
theorem dX5_homeIn_2 : decode (mC mX5_homeIn) 2 = .ok (.iconst 0, 1) := by decide +kernel
theorem dX5_homeIn_3 : decode (mC mX5_homeIn) 3 = .ok (.istore_n 2, 1) := by decide +kernel
theorem dX5_homeIn_4 : decode (mC mX5_homeIn) 4 = .ok (.iload_n 2, 1) := by decide +kernel
theorem dX5_homeIn_5 : decode (mC mX5_homeIn) 5 = .ok (.aload_n 0, 1) := by decide +kernel
theorem dX5_homeIn_6 : decode (mC mX5_homeIn) 6 = .ok (.iconst 1, 1) := by decide +kernel
theorem dX5_homeIn_7 : decode (mC mX5_homeIn) 7 = .ok (.iaload, 1) := by decide +kernel
theorem dX5_homeIn_8 : decode (mC mX5_homeIn) 8 = .ok (.if_icmp .ge 46, 3) := by decide +kernel
theorem dX5_homeIn_11 : decode (mC mX5_homeIn) 11 = .ok (.iload_n 1, 1) := by decide +kernel
theorem dX5_homeIn_12 : decode (mC mX5_homeIn) 12 = .ok (.aload_n 0, 1) := by decide +kernel
theorem dX5_homeIn_13 : decode (mC mX5_homeIn) 13 = .ok (.iconst 4, 1) := by decide +kernel
theorem dX5_homeIn_14 : decode (mC mX5_homeIn) 14 = .ok (.iaload, 1) := by decide +kernel
theorem dX5_homeIn_15 : decode (mC mX5_homeIn) 15 = .ok (.iload_n 2, 1) := by decide +kernel
theorem dX5_homeIn_16 : decode (mC mX5_homeIn) 16 = .ok (.invokestatic 47, 3) := by decide +kernel
theorem dX5_homeIn_19 : decode (mC mX5_homeIn) 19 = .ok (.ifCond .ne 26, 3) := by decide +kernel
theorem dX5_homeIn_22 : decode (mC mX5_homeIn) 22 = .ok (.aload_n 0, 1) := by decide +kernel
theorem dX5_homeIn_23 : decode (mC mX5_homeIn) 23 = .ok (.iload_n 2, 1) := by decide +kernel
theorem dX5_homeIn_24 : decode (mC mX5_homeIn) 24 = .ok (.iconst 0, 1) := by decide +kernel
theorem dX5_homeIn_25 : decode (mC mX5_homeIn) 25 = .ok (.invokestatic 51, 3) := by decide +kernel
theorem dX5_homeIn_28 : decode (mC mX5_homeIn) 28 = .ok (.iaload, 1) := by decide +kernel
theorem dX5_homeIn_29 : decode (mC mX5_homeIn) 29 = .ok (.aload_n 0, 1) := by decide +kernel
theorem dX5_homeIn_30 : decode (mC mX5_homeIn) 30 = .ok (.iload_n 2, 1) := by decide +kernel
theorem dX5_homeIn_31 : decode (mC mX5_homeIn) 31 = .ok (.iconst 1, 1) := by decide +kernel
theorem dX5_homeIn_32 : decode (mC mX5_homeIn) 32 = .ok (.invokestatic 51, 3) := by decide +kernel
theorem dX5_homeIn_35 : decode (mC mX5_homeIn) 35 = .ok (.iaload, 1) := by decide +kernel
theorem dX5_homeIn_36 : decode (mC mX5_homeIn) 36 = .ok (.if_icmp .ne 9, 3) := by decide +kernel
theorem dX5_homeIn_39 : decode (mC mX5_homeIn) 39 = .ok (.iconst 1, 1) := by decide +kernel
theorem dX5_homeIn_40 : decode (mC mX5_homeIn) 40 = .ok (.iload_n 2, 1) := by decide +kernel
theorem dX5_homeIn_41 : decode (mC mX5_homeIn) 41 = .ok (.ishl, 1) := by decide +kernel
theorem dX5_homeIn_42 : decode (mC mX5_homeIn) 42 = .ok (.goto 4, 3) := by decide +kernel
theorem dX5_homeIn_45 : decode (mC mX5_homeIn) 45 = .ok (.iconst 0, 1) := by decide +kernel
theorem dX5_homeIn_46 : decode (mC mX5_homeIn) 46 = .ok (.ior, 1) := by decide +kernel
theorem dX5_homeIn_47 : decode (mC mX5_homeIn) 47 = .ok (.istore_n 1, 1) := by decide +kernel
theorem dX5_homeIn_48 : decode (mC mX5_homeIn) 48 = .ok (.iinc 2 1, 3) := by decide +kernel
theorem dX5_homeIn_51 : decode (mC mX5_homeIn) 51 = .ok (.goto (-47), 3) := by decide +kernel
theorem dX5_homeIn_54 : decode (mC mX5_homeIn) 54 = .ok (.iload_n 1, 1) := by decide +kernel
theorem dX5_homeIn_55 : decode (mC mX5_homeIn) 55 = .ok (.ireturn, 1) := by decide +kernel
theorem dX5_letter_0 : decode (mC mX5_letter) 0 = .ok (.iload_n 1, 1) := by decide +kernel
theorem dX5_letter_1 : decode (mC mX5_letter) 1 = .ok (.ifCond .ge 10, 3) := by decide +kernel
theorem dX5_letter_4 : decode (mC mX5_letter) 4 = .ok (.aload_n 0, 1) := by decide +kernel
theorem dX5_letter_5 : decode (mC mX5_letter) 5 = .ok (.bipush (-4), 2) := by decide +kernel
theorem dX5_letter_7 : decode (mC mX5_letter) 7 = .ok (.invokevirtual 39, 3) := by decide +kernel
theorem dX5_letter_10 : decode (mC mX5_letter) 10 = .ok (.ireturn, 1) := by decide +kernel
theorem dX5_letter_11 : decode (mC mX5_letter) 11 = .ok (.iload_n 1, 1) := by decide +kernel
theorem dX5_letter_12 : decode (mC mX5_letter) 12 = .ok (.sipush 255, 3) := by decide +kernel
theorem dX5_letter_15 : decode (mC mX5_letter) 15 = .ok (.if_icmp .gt 12, 3) := by decide +kernel
theorem dX5_letter_18 : decode (mC mX5_letter) 18 = .ok (.aload_n 0, 1) := by decide +kernel
theorem dX5_letter_19 : decode (mC mX5_letter) 19 = .ok (.getfield 90, 3) := by decide +kernel
theorem dX5_letter_22 : decode (mC mX5_letter) 22 = .ok (.bipush 96, 2) := by decide +kernel
theorem dX5_letter_24 : decode (mC mX5_letter) 24 = .ok (.if_icmp .ne 10, 3) := by decide +kernel
theorem dX5_letter_27 : decode (mC mX5_letter) 27 = .ok (.aload_n 0, 1) := by decide +kernel
theorem dX5_letter_28 : decode (mC mX5_letter) 28 = .ok (.bipush (-6), 2) := by decide +kernel
theorem dX5_letter_30 : decode (mC mX5_letter) 30 = .ok (.invokevirtual 39, 3) := by decide +kernel
theorem dX5_letter_33 : decode (mC mX5_letter) 33 = .ok (.ireturn, 1) := by decide +kernel
theorem dX5_letter_34 : decode (mC mX5_letter) 34 = .ok (.aload_n 0, 1) := by decide +kernel
theorem dX5_letter_35 : decode (mC mX5_letter) 35 = .ok (.getfield 25, 3) := by decide +kernel
theorem dX5_letter_38 : decode (mC mX5_letter) 38 = .ok (.aload_n 0, 1) := by decide +kernel
theorem dX5_letter_39 : decode (mC mX5_letter) 39 = .ok (.getfield 90, 3) := by decide +kernel
theorem dX5_letter_42 : decode (mC mX5_letter) 42 = .ok (.iload_n 1, 1) := by decide +kernel
theorem dX5_letter_43 : decode (mC mX5_letter) 43 = .ok (.iastore, 1) := by decide +kernel
theorem dX5_letter_44 : decode (mC mX5_letter) 44 = .ok (.aload_n 0, 1) := by decide +kernel
theorem dX5_letter_45 : decode (mC mX5_letter) 45 = .ok (.dup, 1) := by decide +kernel
theorem dX5_letter_46 : decode (mC mX5_letter) 46 = .ok (.getfield 90, 3) := by decide +kernel
theorem dX5_letter_49 : decode (mC mX5_letter) 49 = .ok (.iconst 1, 1) := by decide +kernel
theorem dX5_letter_50 : decode (mC mX5_letter) 50 = .ok (.iadd, 1) := by decide +kernel
theorem dX5_letter_51 : decode (mC mX5_letter) 51 = .ok (.putfield 90, 3) := by decide +kernel
theorem dX5_letter_54 : decode (mC mX5_letter) 54 = .ok (.aload_n 0, 1) := by decide +kernel
theorem dX5_letter_55 : decode (mC mX5_letter) 55 = .ok (.getfield 90, 3) := by decide +kernel
theorem dX5_letter_58 : decode (mC mX5_letter) 58 = .ok (.ireturn, 1) := by decide +kernel
theorem dX5_here_0 : decode (mC mX5_here) 0 = .ok (.aload_n 0, 1) := by decide +kernel
theorem dX5_here_1 : decode (mC mX5_here) 1 = .ok (.getfield 94, 3) := by decide +kernel
theorem dX5_here_4 : decode (mC mX5_here) 4 = .ok (.aload_n 0, 1) := by decide +kernel
theorem dX5_here_5 : decode (mC mX5_here) 5 = .ok (.getfield 90, 3) := by decide +kernel
theorem dX5_here_8 : decode (mC mX5_here) 8 = .ok (.if_icmp .ge 15, 3) := by decide +kernel
theorem dX5_here_11 : decode (mC mX5_here) 11 = .ok (.aload_n 0, 1) := by decide +kernel
theorem dX5_here_12 : decode (mC mX5_here) 12 = .ok (.getfield 25, 3) := by decide +kernel
theorem dX5_here_15 : decode (mC mX5_here) 15 = .ok (.aload_n 0, 1) := by decide +kernel
theorem dX5_here_16 : decode (mC mX5_here) 16 = .ok (.getfield 94, 3) := by decide +kernel
theorem dX5_here_19 : decode (mC mX5_here) 19 = .ok (.iaload, 1) := by decide +kernel
theorem dX5_here_20 : decode (mC mX5_here) 20 = .ok (.goto 4, 3) := by decide +kernel
theorem dX5_here_23 : decode (mC mX5_here) 23 = .ok (.iconst (-1), 1) := by decide +kernel
theorem dX5_here_24 : decode (mC mX5_here) 24 = .ok (.ireturn, 1) := by decide +kernel
theorem dX5_readsNumber_0 : decode (mC mX5_readsNumber) 0 = .ok (.aload_n 0, 1) := by decide +kernel
theorem dX5_readsNumber_1 : decode (mC mX5_readsNumber) 1 = .ok (.getfield 34, 3) := by decide +kernel
theorem dX5_readsNumber_4 : decode (mC mX5_readsNumber) 4 = .ok (.iload_n 1, 1) := by decide +kernel
theorem dX5_readsNumber_5 : decode (mC mX5_readsNumber) 5 = .ok (.iconst 0, 1) := by decide +kernel
theorem dX5_readsNumber_6 : decode (mC mX5_readsNumber) 6 = .ok (.iastore, 1) := by decide +kernel
theorem dX5_readsNumber_7 : decode (mC mX5_readsNumber) 7 = .ok (.iconst 0, 1) := by decide +kernel
theorem dX5_readsNumber_8 : decode (mC mX5_readsNumber) 8 = .ok (.istore_n 3, 1) := by decide +kernel
theorem dX5_readsNumber_9 : decode (mC mX5_readsNumber) 9 = .ok (.iload_n 3, 1) := by decide +kernel
theorem dX5_readsNumber_10 : decode (mC mX5_readsNumber) 10 = .ok (.iload_n 2, 1) := by decide +kernel
theorem dX5_readsNumber_11 : decode (mC mX5_readsNumber) 11 = .ok (.if_icmp .ge 58, 3) := by decide +kernel
theorem dX5_readsNumber_14 : decode (mC mX5_readsNumber) 14 = .ok (.aload_n 0, 1) := by decide +kernel
theorem dX5_readsNumber_15 : decode (mC mX5_readsNumber) 15 = .ok (.invokevirtual 97, 3) := by decide +kernel
theorem dX5_readsNumber_18 : decode (mC mX5_readsNumber) 18 = .ok (.bipush 48, 2) := by decide +kernel
theorem dX5_readsNumber_20 : decode (mC mX5_readsNumber) 20 = .ok (.bipush 57, 2) := by decide +kernel
theorem dX5_readsNumber_22 : decode (mC mX5_readsNumber) 22 = .ok (.invokestatic 43, 3) := by decide +kernel
theorem dX5_readsNumber_25 : decode (mC mX5_readsNumber) 25 = .ok (.ifCond .ne 5, 3) := by decide +kernel
theorem dX5_readsNumber_28 : decode (mC mX5_readsNumber) 28 = .ok (.iconst 0, 1) := by decide +kernel
theorem dX5_readsNumber_29 : decode (mC mX5_readsNumber) 29 = .ok (.ireturn, 1) := by decide +kernel
theorem dX5_readsNumber_30 : decode (mC mX5_readsNumber) 30 = .ok (.aload_n 0, 1) := by decide +kernel
theorem dX5_readsNumber_31 : decode (mC mX5_readsNumber) 31 = .ok (.getfield 34, 3) := by decide +kernel
theorem dX5_readsNumber_34 : decode (mC mX5_readsNumber) 34 = .ok (.iload_n 1, 1) := by decide +kernel
theorem dX5_readsNumber_35 : decode (mC mX5_readsNumber) 35 = .ok (.bipush 10, 2) := by decide +kernel
theorem dX5_readsNumber_37 : decode (mC mX5_readsNumber) 37 = .ok (.aload_n 0, 1) := by decide +kernel
theorem dX5_readsNumber_38 : decode (mC mX5_readsNumber) 38 = .ok (.getfield 34, 3) := by decide +kernel
theorem dX5_readsNumber_41 : decode (mC mX5_readsNumber) 41 = .ok (.iload_n 1, 1) := by decide +kernel
theorem dX5_readsNumber_42 : decode (mC mX5_readsNumber) 42 = .ok (.iaload, 1) := by decide +kernel
theorem dX5_readsNumber_43 : decode (mC mX5_readsNumber) 43 = .ok (.imul, 1) := by decide +kernel
theorem dX5_readsNumber_44 : decode (mC mX5_readsNumber) 44 = .ok (.aload_n 0, 1) := by decide +kernel
theorem dX5_readsNumber_45 : decode (mC mX5_readsNumber) 45 = .ok (.invokevirtual 97, 3) := by decide +kernel
theorem dX5_readsNumber_48 : decode (mC mX5_readsNumber) 48 = .ok (.iadd, 1) := by decide +kernel
theorem dX5_readsNumber_49 : decode (mC mX5_readsNumber) 49 = .ok (.bipush 48, 2) := by decide +kernel
theorem dX5_readsNumber_51 : decode (mC mX5_readsNumber) 51 = .ok (.isub, 1) := by decide +kernel
theorem dX5_readsNumber_52 : decode (mC mX5_readsNumber) 52 = .ok (.iastore, 1) := by decide +kernel
theorem dX5_readsNumber_53 : decode (mC mX5_readsNumber) 53 = .ok (.aload_n 0, 1) := by decide +kernel
theorem dX5_readsNumber_54 : decode (mC mX5_readsNumber) 54 = .ok (.dup, 1) := by decide +kernel
theorem dX5_readsNumber_55 : decode (mC mX5_readsNumber) 55 = .ok (.getfield 94, 3) := by decide +kernel
theorem dX5_readsNumber_58 : decode (mC mX5_readsNumber) 58 = .ok (.iconst 1, 1) := by decide +kernel
theorem dX5_readsNumber_59 : decode (mC mX5_readsNumber) 59 = .ok (.iadd, 1) := by decide +kernel
theorem dX5_readsNumber_60 : decode (mC mX5_readsNumber) 60 = .ok (.putfield 94, 3) := by decide +kernel
theorem dX5_readsNumber_63 : decode (mC mX5_readsNumber) 63 = .ok (.iinc 3 1, 3) := by decide +kernel
theorem dX5_readsNumber_66 : decode (mC mX5_readsNumber) 66 = .ok (.goto (-57), 3) := by decide +kernel
theorem dX5_readsNumber_69 : decode (mC mX5_readsNumber) 69 = .ok (.iconst 1, 1) := by decide +kernel
theorem dX5_readsNumber_70 : decode (mC mX5_readsNumber) 70 = .ok (.ireturn, 1) := by decide +kernel
theorem dX5_kindBy_0 : decode (mC mX5_kindBy) 0 = .ok (.iload_n 0, 1) := by decide +kernel
theorem dX5_kindBy_1 : decode (mC mX5_kindBy) 1 = .ok (.tableswitch 99 98 115 #[97, 93, 99, 99, 99, 99, 99, 99, 99, 91, 99, 99, 99, 95, 87, 99, 99, 89], 87) := by decide +kernel
theorem dX5_kindBy_88 : decode (mC mX5_kindBy) 88 = .ok (.iconst 0, 1) := by decide +kernel
theorem dX5_kindBy_89 : decode (mC mX5_kindBy) 89 = .ok (.ireturn, 1) := by decide +kernel
theorem dX5_kindBy_90 : decode (mC mX5_kindBy) 90 = .ok (.iconst 1, 1) := by decide +kernel
theorem dX5_kindBy_91 : decode (mC mX5_kindBy) 91 = .ok (.ireturn, 1) := by decide +kernel
theorem dX5_kindBy_92 : decode (mC mX5_kindBy) 92 = .ok (.iconst 2, 1) := by decide +kernel
theorem dX5_kindBy_93 : decode (mC mX5_kindBy) 93 = .ok (.ireturn, 1) := by decide +kernel
theorem dX5_kindBy_94 : decode (mC mX5_kindBy) 94 = .ok (.iconst 3, 1) := by decide +kernel
theorem dX5_kindBy_95 : decode (mC mX5_kindBy) 95 = .ok (.ireturn, 1) := by decide +kernel
theorem dX5_kindBy_96 : decode (mC mX5_kindBy) 96 = .ok (.iconst 4, 1) := by decide +kernel
theorem dX5_kindBy_97 : decode (mC mX5_kindBy) 97 = .ok (.ireturn, 1) := by decide +kernel
theorem dX5_kindBy_98 : decode (mC mX5_kindBy) 98 = .ok (.iconst 5, 1) := by decide +kernel
theorem dX5_kindBy_99 : decode (mC mX5_kindBy) 99 = .ok (.ireturn, 1) := by decide +kernel
theorem dX5_kindBy_100 : decode (mC mX5_kindBy) 100 = .ok (.bipush (-9), 2) := by decide +kernel
theorem dX5_kindBy_102 : decode (mC mX5_kindBy) 102 = .ok (.ireturn, 1) := by decide +kernel
theorem dX5_readsKind_0 : decode (mC mX5_readsKind) 0 = .ok (.aload_n 0, 1) := by decide +kernel
theorem dX5_readsKind_1 : decode (mC mX5_readsKind) 1 = .ok (.getfield 34, 3) := by decide +kernel
theorem dX5_readsKind_4 : decode (mC mX5_readsKind) 4 = .ok (.iconst 0, 1) := by decide +kernel
theorem dX5_readsKind_5 : decode (mC mX5_readsKind) 5 = .ok (.aload_n 0, 1) := by decide +kernel
theorem dX5_readsKind_6 : decode (mC mX5_readsKind) 6 = .ok (.invokevirtual 97, 3) := by decide +kernel
theorem dX5_readsKind_9 : decode (mC mX5_readsKind) 9 = .ok (.invokestatic 101, 3) := by decide +kernel
theorem dX5_readsKind_12 : decode (mC mX5_readsKind) 12 = .ok (.iastore, 1) := by decide +kernel
theorem dX5_readsKind_13 : decode (mC mX5_readsKind) 13 = .ok (.aload_n 0, 1) := by decide +kernel
theorem dX5_readsKind_14 : decode (mC mX5_readsKind) 14 = .ok (.dup, 1) := by decide +kernel
theorem dX5_readsKind_15 : decode (mC mX5_readsKind) 15 = .ok (.getfield 94, 3) := by decide +kernel
theorem dX5_readsKind_18 : decode (mC mX5_readsKind) 18 = .ok (.aload_n 0, 1) := by decide +kernel
theorem dX5_readsKind_19 : decode (mC mX5_readsKind) 19 = .ok (.getfield 34, 3) := by decide +kernel
theorem dX5_readsKind_22 : decode (mC mX5_readsKind) 22 = .ok (.iconst 0, 1) := by decide +kernel
theorem dX5_readsKind_23 : decode (mC mX5_readsKind) 23 = .ok (.iaload, 1) := by decide +kernel
theorem dX5_readsKind_24 : decode (mC mX5_readsKind) 24 = .ok (.ifCond .ge 7, 3) := by decide +kernel
theorem dX5_readsKind_27 : decode (mC mX5_readsKind) 27 = .ok (.iconst 0, 1) := by decide +kernel
theorem dX5_readsKind_28 : decode (mC mX5_readsKind) 28 = .ok (.goto 4, 3) := by decide +kernel
theorem dX5_readsKind_31 : decode (mC mX5_readsKind) 31 = .ok (.iconst 1, 1) := by decide +kernel
theorem dX5_readsKind_32 : decode (mC mX5_readsKind) 32 = .ok (.iadd, 1) := by decide +kernel
theorem dX5_readsKind_33 : decode (mC mX5_readsKind) 33 = .ok (.putfield 94, 3) := by decide +kernel
theorem dX5_readsKind_36 : decode (mC mX5_readsKind) 36 = .ok (.aload_n 0, 1) := by decide +kernel
theorem dX5_readsKind_37 : decode (mC mX5_readsKind) 37 = .ok (.getfield 34, 3) := by decide +kernel
theorem dX5_readsKind_40 : decode (mC mX5_readsKind) 40 = .ok (.iconst 0, 1) := by decide +kernel
theorem dX5_readsKind_41 : decode (mC mX5_readsKind) 41 = .ok (.iaload, 1) := by decide +kernel
theorem dX5_readsKind_42 : decode (mC mX5_readsKind) 42 = .ok (.ifCond .lt 7, 3) := by decide +kernel
theorem dX5_readsKind_45 : decode (mC mX5_readsKind) 45 = .ok (.iconst 1, 1) := by decide +kernel
theorem dX5_readsKind_46 : decode (mC mX5_readsKind) 46 = .ok (.goto 4, 3) := by decide +kernel
theorem dX5_readsKind_49 : decode (mC mX5_readsKind) 49 = .ok (.iconst 0, 1) := by decide +kernel
theorem dX5_readsKind_50 : decode (mC mX5_readsKind) 50 = .ok (.ireturn, 1) := by decide +kernel
theorem dX5_readsStatement_0 : decode (mC mX5_readsStatement) 0 = .ok (.aload_n 0, 1) := by decide +kernel
theorem dX5_readsStatement_1 : decode (mC mX5_readsStatement) 1 = .ok (.invokevirtual 97, 3) := by decide +kernel
theorem dX5_readsStatement_4 : decode (mC mX5_readsStatement) 4 = .ok (.istore_n 1, 1) := by decide +kernel
theorem dX5_readsStatement_5 : decode (mC mX5_readsStatement) 5 = .ok (.aload_n 0, 1) := by decide +kernel
theorem dX5_readsStatement_6 : decode (mC mX5_readsStatement) 6 = .ok (.dup, 1) := by decide +kernel
theorem dX5_readsStatement_7 : decode (mC mX5_readsStatement) 7 = .ok (.getfield 94, 3) := by decide +kernel
theorem dX5_readsStatement_10 : decode (mC mX5_readsStatement) 10 = .ok (.iconst 1, 1) := by decide +kernel
theorem dX5_readsStatement_11 : decode (mC mX5_readsStatement) 11 = .ok (.iadd, 1) := by decide +kernel
theorem dX5_readsStatement_12 : decode (mC mX5_readsStatement) 12 = .ok (.putfield 94, 3) := by decide +kernel
theorem dX5_readsStatement_15 : decode (mC mX5_readsStatement) 15 = .ok (.iload_n 1, 1) := by decide +kernel
theorem dX5_readsStatement_16 : decode (mC mX5_readsStatement) 16 = .ok (.tableswitch 222 100 119 #[96, 222, 222, 175, 212, 222, 222, 222, 222, 222, 222, 222, 139, 222, 175, 222, 202, 222, 222, 202], 96) := by decide +kernel
theorem dX5_readsStatement_112 : decode (mC mX5_readsStatement) 112 = .ok (.aload_n 0, 1) := by decide +kernel
theorem dX5_readsStatement_113 : decode (mC mX5_readsStatement) 113 = .ok (.invokevirtual 104, 3) := by decide +kernel
theorem dX5_readsStatement_116 : decode (mC mX5_readsStatement) 116 = .ok (.ifCond .eq 34, 3) := by decide +kernel
theorem dX5_readsStatement_119 : decode (mC mX5_readsStatement) 119 = .ok (.aload_n 0, 1) := by decide +kernel
theorem dX5_readsStatement_120 : decode (mC mX5_readsStatement) 120 = .ok (.iconst 1, 1) := by decide +kernel
theorem dX5_readsStatement_121 : decode (mC mX5_readsStatement) 121 = .ok (.iconst 1, 1) := by decide +kernel
theorem dX5_readsStatement_122 : decode (mC mX5_readsStatement) 122 = .ok (.invokevirtual 108, 3) := by decide +kernel
theorem dX5_readsStatement_125 : decode (mC mX5_readsStatement) 125 = .ok (.ifCond .eq 25, 3) := by decide +kernel
theorem dX5_readsStatement_128 : decode (mC mX5_readsStatement) 128 = .ok (.aload_n 0, 1) := by decide +kernel
theorem dX5_readsStatement_129 : decode (mC mX5_readsStatement) 129 = .ok (.iconst 2, 1) := by decide +kernel
theorem dX5_readsStatement_130 : decode (mC mX5_readsStatement) 130 = .ok (.iconst 1, 1) := by decide +kernel
theorem dX5_readsStatement_131 : decode (mC mX5_readsStatement) 131 = .ok (.invokevirtual 108, 3) := by decide +kernel
theorem dX5_readsStatement_134 : decode (mC mX5_readsStatement) 134 = .ok (.ifCond .eq 16, 3) := by decide +kernel
theorem dX5_readsStatement_137 : decode (mC mX5_readsStatement) 137 = .ok (.aload_n 0, 1) := by decide +kernel
theorem dX5_readsStatement_138 : decode (mC mX5_readsStatement) 138 = .ok (.iconst 3, 1) := by decide +kernel
theorem dX5_readsStatement_139 : decode (mC mX5_readsStatement) 139 = .ok (.iconst 1, 1) := by decide +kernel
theorem dX5_readsStatement_140 : decode (mC mX5_readsStatement) 140 = .ok (.invokevirtual 108, 3) := by decide +kernel
theorem dX5_readsStatement_143 : decode (mC mX5_readsStatement) 143 = .ok (.ifCond .eq 7, 3) := by decide +kernel
theorem dX5_readsStatement_146 : decode (mC mX5_readsStatement) 146 = .ok (.iconst 1, 1) := by decide +kernel
theorem dX5_readsStatement_147 : decode (mC mX5_readsStatement) 147 = .ok (.goto 4, 3) := by decide +kernel
theorem dX5_readsStatement_150 : decode (mC mX5_readsStatement) 150 = .ok (.iconst 0, 1) := by decide +kernel
theorem dX5_readsStatement_151 : decode (mC mX5_readsStatement) 151 = .ok (.istore_n 2, 1) := by decide +kernel
theorem dX5_readsStatement_152 : decode (mC mX5_readsStatement) 152 = .ok (.goto 98, 3) := by decide +kernel
theorem dX5_readsStatement_155 : decode (mC mX5_readsStatement) 155 = .ok (.aload_n 0, 1) := by decide +kernel
theorem dX5_readsStatement_156 : decode (mC mX5_readsStatement) 156 = .ok (.iconst 0, 1) := by decide +kernel
theorem dX5_readsStatement_157 : decode (mC mX5_readsStatement) 157 = .ok (.iconst 1, 1) := by decide +kernel
theorem dX5_readsStatement_158 : decode (mC mX5_readsStatement) 158 = .ok (.invokevirtual 108, 3) := by decide +kernel
theorem dX5_readsStatement_161 : decode (mC mX5_readsStatement) 161 = .ok (.ifCond .eq 25, 3) := by decide +kernel
theorem dX5_readsStatement_164 : decode (mC mX5_readsStatement) 164 = .ok (.aload_n 0, 1) := by decide +kernel
theorem dX5_readsStatement_165 : decode (mC mX5_readsStatement) 165 = .ok (.iconst 1, 1) := by decide +kernel
theorem dX5_readsStatement_166 : decode (mC mX5_readsStatement) 166 = .ok (.iconst 1, 1) := by decide +kernel
theorem dX5_readsStatement_167 : decode (mC mX5_readsStatement) 167 = .ok (.invokevirtual 108, 3) := by decide +kernel
theorem dX5_readsStatement_170 : decode (mC mX5_readsStatement) 170 = .ok (.ifCond .eq 16, 3) := by decide +kernel
theorem dX5_readsStatement_173 : decode (mC mX5_readsStatement) 173 = .ok (.aload_n 0, 1) := by decide +kernel
theorem dX5_readsStatement_174 : decode (mC mX5_readsStatement) 174 = .ok (.iconst 2, 1) := by decide +kernel
theorem dX5_readsStatement_175 : decode (mC mX5_readsStatement) 175 = .ok (.iconst 1, 1) := by decide +kernel
theorem dX5_readsStatement_176 : decode (mC mX5_readsStatement) 176 = .ok (.invokevirtual 108, 3) := by decide +kernel
theorem dX5_readsStatement_179 : decode (mC mX5_readsStatement) 179 = .ok (.ifCond .eq 7, 3) := by decide +kernel
theorem dX5_readsStatement_182 : decode (mC mX5_readsStatement) 182 = .ok (.iconst 1, 1) := by decide +kernel
theorem dX5_readsStatement_183 : decode (mC mX5_readsStatement) 183 = .ok (.goto 4, 3) := by decide +kernel
theorem dX5_readsStatement_186 : decode (mC mX5_readsStatement) 186 = .ok (.iconst 0, 1) := by decide +kernel
theorem dX5_readsStatement_187 : decode (mC mX5_readsStatement) 187 = .ok (.istore_n 2, 1) := by decide +kernel
theorem dX5_readsStatement_188 : decode (mC mX5_readsStatement) 188 = .ok (.goto 62, 3) := by decide +kernel
theorem dX5_readsStatement_191 : decode (mC mX5_readsStatement) 191 = .ok (.aload_n 0, 1) := by decide +kernel
theorem dX5_readsStatement_192 : decode (mC mX5_readsStatement) 192 = .ok (.iconst 0, 1) := by decide +kernel
theorem dX5_readsStatement_193 : decode (mC mX5_readsStatement) 193 = .ok (.iconst 1, 1) := by decide +kernel
theorem dX5_readsStatement_194 : decode (mC mX5_readsStatement) 194 = .ok (.invokevirtual 108, 3) := by decide +kernel
theorem dX5_readsStatement_197 : decode (mC mX5_readsStatement) 197 = .ok (.ifCond .eq 16, 3) := by decide +kernel
theorem dX5_readsStatement_200 : decode (mC mX5_readsStatement) 200 = .ok (.aload_n 0, 1) := by decide +kernel
theorem dX5_readsStatement_201 : decode (mC mX5_readsStatement) 201 = .ok (.iconst 1, 1) := by decide +kernel
theorem dX5_readsStatement_202 : decode (mC mX5_readsStatement) 202 = .ok (.iconst 1, 1) := by decide +kernel
theorem dX5_readsStatement_203 : decode (mC mX5_readsStatement) 203 = .ok (.invokevirtual 108, 3) := by decide +kernel
theorem dX5_readsStatement_206 : decode (mC mX5_readsStatement) 206 = .ok (.ifCond .eq 7, 3) := by decide +kernel
theorem dX5_readsStatement_209 : decode (mC mX5_readsStatement) 209 = .ok (.iconst 1, 1) := by decide +kernel
theorem dX5_readsStatement_210 : decode (mC mX5_readsStatement) 210 = .ok (.goto 4, 3) := by decide +kernel
theorem dX5_readsStatement_213 : decode (mC mX5_readsStatement) 213 = .ok (.iconst 0, 1) := by decide +kernel
theorem dX5_readsStatement_214 : decode (mC mX5_readsStatement) 214 = .ok (.istore_n 2, 1) := by decide +kernel
theorem dX5_readsStatement_215 : decode (mC mX5_readsStatement) 215 = .ok (.goto 35, 3) := by decide +kernel
theorem dX5_readsStatement_218 : decode (mC mX5_readsStatement) 218 = .ok (.aload_n 0, 1) := by decide +kernel
theorem dX5_readsStatement_219 : decode (mC mX5_readsStatement) 219 = .ok (.iconst 0, 1) := by decide +kernel
theorem dX5_readsStatement_220 : decode (mC mX5_readsStatement) 220 = .ok (.iconst 1, 1) := by decide +kernel
theorem dX5_readsStatement_221 : decode (mC mX5_readsStatement) 221 = .ok (.invokevirtual 108, 3) := by decide +kernel
theorem dX5_readsStatement_224 : decode (mC mX5_readsStatement) 224 = .ok (.istore_n 2, 1) := by decide +kernel
theorem dX5_readsStatement_225 : decode (mC mX5_readsStatement) 225 = .ok (.goto 25, 3) := by decide +kernel
theorem dX5_readsStatement_228 : decode (mC mX5_readsStatement) 228 = .ok (.aload_n 0, 1) := by decide +kernel
theorem dX5_readsStatement_229 : decode (mC mX5_readsStatement) 229 = .ok (.iconst 0, 1) := by decide +kernel
theorem dX5_readsStatement_230 : decode (mC mX5_readsStatement) 230 = .ok (.iconst 2, 1) := by decide +kernel
theorem dX5_readsStatement_231 : decode (mC mX5_readsStatement) 231 = .ok (.invokevirtual 108, 3) := by decide +kernel
theorem dX5_readsStatement_234 : decode (mC mX5_readsStatement) 234 = .ok (.istore_n 2, 1) := by decide +kernel
theorem dX5_readsStatement_235 : decode (mC mX5_readsStatement) 235 = .ok (.goto 15, 3) := by decide +kernel
theorem dX5_readsStatement_238 : decode (mC mX5_readsStatement) 238 = .ok (.aload_n 0, 1) := by decide +kernel
theorem dX5_readsStatement_239 : decode (mC mX5_readsStatement) 239 = .ok (.dup, 1) := by decide +kernel
theorem dX5_readsStatement_240 : decode (mC mX5_readsStatement) 240 = .ok (.getfield 94, 3) := by decide +kernel
theorem dX5_readsStatement_243 : decode (mC mX5_readsStatement) 243 = .ok (.iconst 1, 1) := by decide +kernel
theorem dX5_readsStatement_244 : decode (mC mX5_readsStatement) 244 = .ok (.isub, 1) := by decide +kernel
theorem dX5_readsStatement_245 : decode (mC mX5_readsStatement) 245 = .ok (.putfield 94, 3) := by decide +kernel
theorem dX5_readsStatement_248 : decode (mC mX5_readsStatement) 248 = .ok (.iconst 0, 1) := by decide +kernel
theorem dX5_readsStatement_249 : decode (mC mX5_readsStatement) 249 = .ok (.ireturn, 1) := by decide +kernel
theorem dX5_readsStatement_250 : decode (mC mX5_readsStatement) 250 = .ok (.iload_n 2, 1) := by decide +kernel
theorem dX5_readsStatement_251 : decode (mC mX5_readsStatement) 251 = .ok (.ifCond .eq 12, 3) := by decide +kernel
theorem dX5_readsStatement_254 : decode (mC mX5_readsStatement) 254 = .ok (.aload_n 0, 1) := by decide +kernel
theorem dX5_readsStatement_255 : decode (mC mX5_readsStatement) 255 = .ok (.invokevirtual 97, 3) := by decide +kernel
theorem dX5_readsStatement_258 : decode (mC mX5_readsStatement) 258 = .ok (.bipush 59, 2) := by decide +kernel
theorem dX5_readsStatement_260 : decode (mC mX5_readsStatement) 260 = .ok (.if_icmp .eq 5, 3) := by decide +kernel
theorem dX5_readsStatement_263 : decode (mC mX5_readsStatement) 263 = .ok (.iconst 0, 1) := by decide +kernel
theorem dX5_readsStatement_264 : decode (mC mX5_readsStatement) 264 = .ok (.ireturn, 1) := by decide +kernel
theorem dX5_readsStatement_265 : decode (mC mX5_readsStatement) 265 = .ok (.aload_n 0, 1) := by decide +kernel
theorem dX5_readsStatement_266 : decode (mC mX5_readsStatement) 266 = .ok (.dup, 1) := by decide +kernel
theorem dX5_readsStatement_267 : decode (mC mX5_readsStatement) 267 = .ok (.getfield 94, 3) := by decide +kernel
theorem dX5_readsStatement_270 : decode (mC mX5_readsStatement) 270 = .ok (.iconst 1, 1) := by decide +kernel
theorem dX5_readsStatement_271 : decode (mC mX5_readsStatement) 271 = .ok (.iadd, 1) := by decide +kernel
theorem dX5_readsStatement_272 : decode (mC mX5_readsStatement) 272 = .ok (.putfield 94, 3) := by decide +kernel
theorem dX5_readsStatement_275 : decode (mC mX5_readsStatement) 275 = .ok (.iconst 1, 1) := by decide +kernel
theorem dX5_readsStatement_276 : decode (mC mX5_readsStatement) 276 = .ok (.ireturn, 1) := by decide +kernel
theorem dX5_addsDoor_0 : decode (mC mX5_addsDoor) 0 = .ok (.aload_n 0, 1) := by decide +kernel
theorem dX5_addsDoor_1 : decode (mC mX5_addsDoor) 1 = .ok (.getfield 34, 3) := by decide +kernel
theorem dX5_addsDoor_4 : decode (mC mX5_addsDoor) 4 = .ok (.iconst 2, 1) := by decide +kernel
theorem dX5_addsDoor_5 : decode (mC mX5_addsDoor) 5 = .ok (.iaload, 1) := by decide +kernel
theorem dX5_addsDoor_6 : decode (mC mX5_addsDoor) 6 = .ok (.invokestatic 111, 3) := by decide +kernel
theorem dX5_addsDoor_9 : decode (mC mX5_addsDoor) 9 = .ok (.ifCond .eq 41, 3) := by decide +kernel
theorem dX5_addsDoor_12 : decode (mC mX5_addsDoor) 12 = .ok (.aload_n 0, 1) := by decide +kernel
theorem dX5_addsDoor_13 : decode (mC mX5_addsDoor) 13 = .ok (.getfield 34, 3) := by decide +kernel
theorem dX5_addsDoor_16 : decode (mC mX5_addsDoor) 16 = .ok (.iconst 3, 1) := by decide +kernel
theorem dX5_addsDoor_17 : decode (mC mX5_addsDoor) 17 = .ok (.iaload, 1) := by decide +kernel
theorem dX5_addsDoor_18 : decode (mC mX5_addsDoor) 18 = .ok (.invokestatic 111, 3) := by decide +kernel
theorem dX5_addsDoor_21 : decode (mC mX5_addsDoor) 21 = .ok (.ifCond .eq 29, 3) := by decide +kernel
theorem dX5_addsDoor_24 : decode (mC mX5_addsDoor) 24 = .ok (.aload_n 0, 1) := by decide +kernel
theorem dX5_addsDoor_25 : decode (mC mX5_addsDoor) 25 = .ok (.getfield 34, 3) := by decide +kernel
theorem dX5_addsDoor_28 : decode (mC mX5_addsDoor) 28 = .ok (.iconst 2, 1) := by decide +kernel
theorem dX5_addsDoor_29 : decode (mC mX5_addsDoor) 29 = .ok (.iaload, 1) := by decide +kernel
theorem dX5_addsDoor_30 : decode (mC mX5_addsDoor) 30 = .ok (.aload_n 0, 1) := by decide +kernel
theorem dX5_addsDoor_31 : decode (mC mX5_addsDoor) 31 = .ok (.getfield 34, 3) := by decide +kernel
theorem dX5_addsDoor_34 : decode (mC mX5_addsDoor) 34 = .ok (.iconst 3, 1) := by decide +kernel
theorem dX5_addsDoor_35 : decode (mC mX5_addsDoor) 35 = .ok (.iaload, 1) := by decide +kernel
theorem dX5_addsDoor_36 : decode (mC mX5_addsDoor) 36 = .ok (.if_icmp .eq 14, 3) := by decide +kernel
theorem dX5_addsDoor_39 : decode (mC mX5_addsDoor) 39 = .ok (.aload_n 0, 1) := by decide +kernel
theorem dX5_addsDoor_40 : decode (mC mX5_addsDoor) 40 = .ok (.getfield 9, 3) := by decide +kernel
theorem dX5_addsDoor_43 : decode (mC mX5_addsDoor) 43 = .ok (.iconst 0, 1) := by decide +kernel
theorem dX5_addsDoor_44 : decode (mC mX5_addsDoor) 44 = .ok (.iaload, 1) := by decide +kernel
theorem dX5_addsDoor_45 : decode (mC mX5_addsDoor) 45 = .ok (.bipush 9, 2) := by decide +kernel
theorem dX5_addsDoor_47 : decode (mC mX5_addsDoor) 47 = .ok (.if_icmp .ne 5, 3) := by decide +kernel
theorem dX5_addsDoor_50 : decode (mC mX5_addsDoor) 50 = .ok (.iconst 0, 1) := by decide +kernel
theorem dX5_addsDoor_51 : decode (mC mX5_addsDoor) 51 = .ok (.ireturn, 1) := by decide +kernel
theorem dX5_addsDoor_52 : decode (mC mX5_addsDoor) 52 = .ok (.iconst 0, 1) := by decide +kernel
theorem dX5_addsDoor_53 : decode (mC mX5_addsDoor) 53 = .ok (.istore_n 1, 1) := by decide +kernel
theorem dX5_addsDoor_54 : decode (mC mX5_addsDoor) 54 = .ok (.iload_n 1, 1) := by decide +kernel
theorem dX5_addsDoor_55 : decode (mC mX5_addsDoor) 55 = .ok (.iconst 4, 1) := by decide +kernel
theorem dX5_addsDoor_56 : decode (mC mX5_addsDoor) 56 = .ok (.if_icmp .ge 30, 3) := by decide +kernel
theorem dX5_addsDoor_59 : decode (mC mX5_addsDoor) 59 = .ok (.aload_n 0, 1) := by decide +kernel
theorem dX5_addsDoor_60 : decode (mC mX5_addsDoor) 60 = .ok (.getfield 9, 3) := by decide +kernel
theorem dX5_addsDoor_63 : decode (mC mX5_addsDoor) 63 = .ok (.aload_n 0, 1) := by decide +kernel
theorem dX5_addsDoor_64 : decode (mC mX5_addsDoor) 64 = .ok (.getfield 9, 3) := by decide +kernel
theorem dX5_addsDoor_67 : decode (mC mX5_addsDoor) 67 = .ok (.iconst 0, 1) := by decide +kernel
theorem dX5_addsDoor_68 : decode (mC mX5_addsDoor) 68 = .ok (.iaload, 1) := by decide +kernel
theorem dX5_addsDoor_69 : decode (mC mX5_addsDoor) 69 = .ok (.iload_n 1, 1) := by decide +kernel
theorem dX5_addsDoor_70 : decode (mC mX5_addsDoor) 70 = .ok (.invokestatic 55, 3) := by decide +kernel
theorem dX5_addsDoor_73 : decode (mC mX5_addsDoor) 73 = .ok (.aload_n 0, 1) := by decide +kernel
theorem dX5_addsDoor_74 : decode (mC mX5_addsDoor) 74 = .ok (.getfield 34, 3) := by decide +kernel
theorem dX5_addsDoor_77 : decode (mC mX5_addsDoor) 77 = .ok (.iload_n 1, 1) := by decide +kernel
theorem dX5_addsDoor_78 : decode (mC mX5_addsDoor) 78 = .ok (.iaload, 1) := by decide +kernel
theorem dX5_addsDoor_79 : decode (mC mX5_addsDoor) 79 = .ok (.iastore, 1) := by decide +kernel
theorem dX5_addsDoor_80 : decode (mC mX5_addsDoor) 80 = .ok (.iinc 1 1, 3) := by decide +kernel
theorem dX5_addsDoor_83 : decode (mC mX5_addsDoor) 83 = .ok (.goto (-29), 3) := by decide +kernel
theorem dX5_addsDoor_86 : decode (mC mX5_addsDoor) 86 = .ok (.aload_n 0, 1) := by decide +kernel
theorem dX5_addsDoor_87 : decode (mC mX5_addsDoor) 87 = .ok (.getfield 9, 3) := by decide +kernel
theorem dX5_addsDoor_90 : decode (mC mX5_addsDoor) 90 = .ok (.aload_n 0, 1) := by decide +kernel
theorem dX5_addsDoor_91 : decode (mC mX5_addsDoor) 91 = .ok (.getfield 9, 3) := by decide +kernel
theorem dX5_addsDoor_94 : decode (mC mX5_addsDoor) 94 = .ok (.iconst 0, 1) := by decide +kernel
theorem dX5_addsDoor_95 : decode (mC mX5_addsDoor) 95 = .ok (.iaload, 1) := by decide +kernel
theorem dX5_addsDoor_96 : decode (mC mX5_addsDoor) 96 = .ok (.iconst 4, 1) := by decide +kernel
theorem dX5_addsDoor_97 : decode (mC mX5_addsDoor) 97 = .ok (.invokestatic 55, 3) := by decide +kernel
theorem dX5_addsDoor_100 : decode (mC mX5_addsDoor) 100 = .ok (.iconst 0, 1) := by decide +kernel
theorem dX5_addsDoor_101 : decode (mC mX5_addsDoor) 101 = .ok (.iastore, 1) := by decide +kernel
theorem dX5_addsDoor_102 : decode (mC mX5_addsDoor) 102 = .ok (.aload_n 0, 1) := by decide +kernel
theorem dX5_addsDoor_103 : decode (mC mX5_addsDoor) 103 = .ok (.getfield 9, 3) := by decide +kernel
theorem dX5_addsDoor_106 : decode (mC mX5_addsDoor) 106 = .ok (.iconst 0, 1) := by decide +kernel
theorem dX5_addsDoor_107 : decode (mC mX5_addsDoor) 107 = .ok (.dup2, 1) := by decide +kernel
theorem dX5_addsDoor_108 : decode (mC mX5_addsDoor) 108 = .ok (.iaload, 1) := by decide +kernel
theorem dX5_addsDoor_109 : decode (mC mX5_addsDoor) 109 = .ok (.iconst 1, 1) := by decide +kernel
theorem dX5_addsDoor_110 : decode (mC mX5_addsDoor) 110 = .ok (.iadd, 1) := by decide +kernel
theorem dX5_addsDoor_111 : decode (mC mX5_addsDoor) 111 = .ok (.iastore, 1) := by decide +kernel
theorem dX5_addsDoor_112 : decode (mC mX5_addsDoor) 112 = .ok (.iconst 1, 1) := by decide +kernel
theorem dX5_addsDoor_113 : decode (mC mX5_addsDoor) 113 = .ok (.ireturn, 1) := by decide +kernel
theorem dX5_adds_0 : decode (mC mX5_adds) 0 = .ok (.aload_n 0, 1) := by decide +kernel
theorem dX5_adds_1 : decode (mC mX5_adds) 1 = .ok (.iconst 1, 1) := by decide +kernel
theorem dX5_adds_2 : decode (mC mX5_adds) 2 = .ok (.iaload, 1) := by decide +kernel
theorem dX5_adds_3 : decode (mC mX5_adds) 3 = .ok (.istore 4, 2) := by decide +kernel
theorem dX5_adds_5 : decode (mC mX5_adds) 5 = .ok (.aload_n 0, 1) := by decide +kernel
theorem dX5_adds_6 : decode (mC mX5_adds) 6 = .ok (.iload 4, 2) := by decide +kernel
theorem dX5_adds_8 : decode (mC mX5_adds) 8 = .ok (.iconst 0, 1) := by decide +kernel
theorem dX5_adds_9 : decode (mC mX5_adds) 9 = .ok (.invokestatic 51, 3) := by decide +kernel
theorem dX5_adds_12 : decode (mC mX5_adds) 12 = .ok (.iload_n 1, 1) := by decide +kernel
theorem dX5_adds_13 : decode (mC mX5_adds) 13 = .ok (.iastore, 1) := by decide +kernel
theorem dX5_adds_14 : decode (mC mX5_adds) 14 = .ok (.aload_n 0, 1) := by decide +kernel
theorem dX5_adds_15 : decode (mC mX5_adds) 15 = .ok (.iload 4, 2) := by decide +kernel
theorem dX5_adds_17 : decode (mC mX5_adds) 17 = .ok (.iconst 1, 1) := by decide +kernel
theorem dX5_adds_18 : decode (mC mX5_adds) 18 = .ok (.invokestatic 51, 3) := by decide +kernel
theorem dX5_adds_21 : decode (mC mX5_adds) 21 = .ok (.iload_n 2, 1) := by decide +kernel
theorem dX5_adds_22 : decode (mC mX5_adds) 22 = .ok (.iastore, 1) := by decide +kernel
theorem dX5_adds_23 : decode (mC mX5_adds) 23 = .ok (.aload_n 0, 1) := by decide +kernel
theorem dX5_adds_24 : decode (mC mX5_adds) 24 = .ok (.iload 4, 2) := by decide +kernel
theorem dX5_adds_26 : decode (mC mX5_adds) 26 = .ok (.iconst 2, 1) := by decide +kernel
theorem dX5_adds_27 : decode (mC mX5_adds) 27 = .ok (.invokestatic 51, 3) := by decide +kernel
theorem dX5_adds_30 : decode (mC mX5_adds) 30 = .ok (.iload_n 3, 1) := by decide +kernel
theorem dX5_adds_31 : decode (mC mX5_adds) 31 = .ok (.iastore, 1) := by decide +kernel
theorem dX5_adds_32 : decode (mC mX5_adds) 32 = .ok (.aload_n 0, 1) := by decide +kernel
theorem dX5_adds_33 : decode (mC mX5_adds) 33 = .ok (.iconst 1, 1) := by decide +kernel
theorem dX5_adds_34 : decode (mC mX5_adds) 34 = .ok (.dup2, 1) := by decide +kernel
theorem dX5_adds_35 : decode (mC mX5_adds) 35 = .ok (.iaload, 1) := by decide +kernel
theorem dX5_adds_36 : decode (mC mX5_adds) 36 = .ok (.iconst 1, 1) := by decide +kernel
theorem dX5_adds_37 : decode (mC mX5_adds) 37 = .ok (.iadd, 1) := by decide +kernel
theorem dX5_adds_38 : decode (mC mX5_adds) 38 = .ok (.iastore, 1) := by decide +kernel
theorem dX5_adds_39 : decode (mC mX5_adds) 39 = .ok (.return_, 1) := by decide +kernel
theorem dX5_turnsIn_0 : decode (mC mX5_turnsIn) 0 = .ok (.aload_n 0, 1) := by decide +kernel
theorem dX5_turnsIn_1 : decode (mC mX5_turnsIn) 1 = .ok (.iload_n 1, 1) := by decide +kernel
theorem dX5_turnsIn_2 : decode (mC mX5_turnsIn) 2 = .ok (.iconst 2, 1) := by decide +kernel
theorem dX5_turnsIn_3 : decode (mC mX5_turnsIn) 3 = .ok (.invokestatic 55, 3) := by decide +kernel
theorem dX5_turnsIn_6 : decode (mC mX5_turnsIn) 6 = .ok (.iaload, 1) := by decide +kernel
theorem dX5_turnsIn_7 : decode (mC mX5_turnsIn) 7 = .ok (.istore_n 2, 1) := by decide +kernel
theorem dX5_turnsIn_8 : decode (mC mX5_turnsIn) 8 = .ok (.aload_n 0, 1) := by decide +kernel
theorem dX5_turnsIn_9 : decode (mC mX5_turnsIn) 9 = .ok (.iload_n 1, 1) := by decide +kernel
theorem dX5_turnsIn_10 : decode (mC mX5_turnsIn) 10 = .ok (.iconst 2, 1) := by decide +kernel
theorem dX5_turnsIn_11 : decode (mC mX5_turnsIn) 11 = .ok (.invokestatic 55, 3) := by decide +kernel
theorem dX5_turnsIn_14 : decode (mC mX5_turnsIn) 14 = .ok (.aload_n 0, 1) := by decide +kernel
theorem dX5_turnsIn_15 : decode (mC mX5_turnsIn) 15 = .ok (.iload_n 1, 1) := by decide +kernel
theorem dX5_turnsIn_16 : decode (mC mX5_turnsIn) 16 = .ok (.iconst 3, 1) := by decide +kernel
theorem dX5_turnsIn_17 : decode (mC mX5_turnsIn) 17 = .ok (.invokestatic 55, 3) := by decide +kernel
theorem dX5_turnsIn_20 : decode (mC mX5_turnsIn) 20 = .ok (.iaload, 1) := by decide +kernel
theorem dX5_turnsIn_21 : decode (mC mX5_turnsIn) 21 = .ok (.iastore, 1) := by decide +kernel
theorem dX5_turnsIn_22 : decode (mC mX5_turnsIn) 22 = .ok (.aload_n 0, 1) := by decide +kernel
theorem dX5_turnsIn_23 : decode (mC mX5_turnsIn) 23 = .ok (.iload_n 1, 1) := by decide +kernel
theorem dX5_turnsIn_24 : decode (mC mX5_turnsIn) 24 = .ok (.iconst 3, 1) := by decide +kernel
theorem dX5_turnsIn_25 : decode (mC mX5_turnsIn) 25 = .ok (.invokestatic 55, 3) := by decide +kernel
theorem dX5_turnsIn_28 : decode (mC mX5_turnsIn) 28 = .ok (.iload_n 2, 1) := by decide +kernel
theorem dX5_turnsIn_29 : decode (mC mX5_turnsIn) 29 = .ok (.iastore, 1) := by decide +kernel
theorem dX5_turnsIn_30 : decode (mC mX5_turnsIn) 30 = .ok (.return_, 1) := by decide +kernel
theorem dX5_isDone_0 : decode (mC mX5_isDone) 0 = .ok (.aload_n 0, 1) := by decide +kernel
theorem dX5_isDone_1 : decode (mC mX5_isDone) 1 = .ok (.getfield 34, 3) := by decide +kernel
theorem dX5_isDone_4 : decode (mC mX5_isDone) 4 = .ok (.iconst 0, 1) := by decide +kernel
theorem dX5_isDone_5 : decode (mC mX5_isDone) 5 = .ok (.iaload, 1) := by decide +kernel
theorem dX5_isDone_6 : decode (mC mX5_isDone) 6 = .ok (.istore_n 2, 1) := by decide +kernel
theorem dX5_isDone_7 : decode (mC mX5_isDone) 7 = .ok (.aload_n 0, 1) := by decide +kernel
theorem dX5_isDone_8 : decode (mC mX5_isDone) 8 = .ok (.getfield 34, 3) := by decide +kernel
theorem dX5_isDone_11 : decode (mC mX5_isDone) 11 = .ok (.iconst 1, 1) := by decide +kernel
theorem dX5_isDone_12 : decode (mC mX5_isDone) 12 = .ok (.iaload, 1) := by decide +kernel
theorem dX5_isDone_13 : decode (mC mX5_isDone) 13 = .ok (.istore_n 3, 1) := by decide +kernel
theorem dX5_isDone_14 : decode (mC mX5_isDone) 14 = .ok (.iload_n 1, 1) := by decide +kernel
theorem dX5_isDone_15 : decode (mC mX5_isDone) 15 = .ok (.tableswitch 228 100 119 #[93, 228, 228, 142, 228, 228, 228, 228, 228, 228, 228, 228, 98, 228, 142, 228, 208, 228, 228, 182], 93) := by decide +kernel
theorem dX5_isDone_108 : decode (mC mX5_isDone) 108 = .ok (.aload_n 0, 1) := by decide +kernel
theorem dX5_isDone_109 : decode (mC mX5_isDone) 109 = .ok (.invokevirtual 115, 3) := by decide +kernel
theorem dX5_isDone_112 : decode (mC mX5_isDone) 112 = .ok (.ireturn, 1) := by decide +kernel
theorem dX5_isDone_113 : decode (mC mX5_isDone) 113 = .ok (.iload_n 2, 1) := by decide +kernel
theorem dX5_isDone_114 : decode (mC mX5_isDone) 114 = .ok (.invokestatic 111, 3) := by decide +kernel
theorem dX5_isDone_117 : decode (mC mX5_isDone) 117 = .ok (.ifCond .eq 21, 3) := by decide +kernel
theorem dX5_isDone_120 : decode (mC mX5_isDone) 120 = .ok (.iload_n 3, 1) := by decide +kernel
theorem dX5_isDone_121 : decode (mC mX5_isDone) 121 = .ok (.invokestatic 111, 3) := by decide +kernel
theorem dX5_isDone_124 : decode (mC mX5_isDone) 124 = .ok (.ifCond .eq 14, 3) := by decide +kernel
theorem dX5_isDone_127 : decode (mC mX5_isDone) 127 = .ok (.aload_n 0, 1) := by decide +kernel
theorem dX5_isDone_128 : decode (mC mX5_isDone) 128 = .ok (.getfield 9, 3) := by decide +kernel
theorem dX5_isDone_131 : decode (mC mX5_isDone) 131 = .ok (.iconst 1, 1) := by decide +kernel
theorem dX5_isDone_132 : decode (mC mX5_isDone) 132 = .ok (.iaload, 1) := by decide +kernel
theorem dX5_isDone_133 : decode (mC mX5_isDone) 133 = .ok (.bipush 6, 2) := by decide +kernel
theorem dX5_isDone_135 : decode (mC mX5_isDone) 135 = .ok (.if_icmp .ne 5, 3) := by decide +kernel
theorem dX5_isDone_138 : decode (mC mX5_isDone) 138 = .ok (.iconst 0, 1) := by decide +kernel
theorem dX5_isDone_139 : decode (mC mX5_isDone) 139 = .ok (.ireturn, 1) := by decide +kernel
theorem dX5_isDone_140 : decode (mC mX5_isDone) 140 = .ok (.aload_n 0, 1) := by decide +kernel
theorem dX5_isDone_141 : decode (mC mX5_isDone) 141 = .ok (.getfield 9, 3) := by decide +kernel
theorem dX5_isDone_144 : decode (mC mX5_isDone) 144 = .ok (.iload_n 2, 1) := by decide +kernel
theorem dX5_isDone_145 : decode (mC mX5_isDone) 145 = .ok (.iload_n 3, 1) := by decide +kernel
theorem dX5_isDone_146 : decode (mC mX5_isDone) 146 = .ok (.aload_n 0, 1) := by decide +kernel
theorem dX5_isDone_147 : decode (mC mX5_isDone) 147 = .ok (.getfield 34, 3) := by decide +kernel
theorem dX5_isDone_150 : decode (mC mX5_isDone) 150 = .ok (.iconst 2, 1) := by decide +kernel
theorem dX5_isDone_151 : decode (mC mX5_isDone) 151 = .ok (.iaload, 1) := by decide +kernel
theorem dX5_isDone_152 : decode (mC mX5_isDone) 152 = .ok (.invokestatic 118, 3) := by decide +kernel
theorem dX5_isDone_155 : decode (mC mX5_isDone) 155 = .ok (.iconst 1, 1) := by decide +kernel
theorem dX5_isDone_156 : decode (mC mX5_isDone) 156 = .ok (.ireturn, 1) := by decide +kernel
theorem dX5_isDone_157 : decode (mC mX5_isDone) 157 = .ok (.aload_n 0, 1) := by decide +kernel
theorem dX5_isDone_158 : decode (mC mX5_isDone) 158 = .ok (.iload_n 2, 1) := by decide +kernel
theorem dX5_isDone_159 : decode (mC mX5_isDone) 159 = .ok (.invokevirtual 122, 3) := by decide +kernel
theorem dX5_isDone_162 : decode (mC mX5_isDone) 162 = .ok (.ifCond .eq 10, 3) := by decide +kernel
theorem dX5_isDone_165 : decode (mC mX5_isDone) 165 = .ok (.iload_n 3, 1) := by decide +kernel
theorem dX5_isDone_166 : decode (mC mX5_isDone) 166 = .ok (.invokestatic 111, 3) := by decide +kernel
theorem dX5_isDone_169 : decode (mC mX5_isDone) 169 = .ok (.ifCond .ne 5, 3) := by decide +kernel
theorem dX5_isDone_172 : decode (mC mX5_isDone) 172 = .ok (.iconst 0, 1) := by decide +kernel
theorem dX5_isDone_173 : decode (mC mX5_isDone) 173 = .ok (.ireturn, 1) := by decide +kernel
theorem dX5_isDone_174 : decode (mC mX5_isDone) 174 = .ok (.aload_n 0, 1) := by decide +kernel
theorem dX5_isDone_175 : decode (mC mX5_isDone) 175 = .ok (.getfield 9, 3) := by decide +kernel
theorem dX5_isDone_178 : decode (mC mX5_isDone) 178 = .ok (.iload_n 2, 1) := by decide +kernel
theorem dX5_isDone_179 : decode (mC mX5_isDone) 179 = .ok (.iload_n 1, 1) := by decide +kernel
theorem dX5_isDone_180 : decode (mC mX5_isDone) 180 = .ok (.bipush 103, 2) := by decide +kernel
theorem dX5_isDone_182 : decode (mC mX5_isDone) 182 = .ok (.if_icmp .ne 7, 3) := by decide +kernel
theorem dX5_isDone_185 : decode (mC mX5_isDone) 185 = .ok (.iconst 1, 1) := by decide +kernel
theorem dX5_isDone_186 : decode (mC mX5_isDone) 186 = .ok (.goto 4, 3) := by decide +kernel
theorem dX5_isDone_189 : decode (mC mX5_isDone) 189 = .ok (.iconst 0, 1) := by decide +kernel
theorem dX5_isDone_190 : decode (mC mX5_isDone) 190 = .ok (.invokestatic 51, 3) := by decide +kernel
theorem dX5_isDone_193 : decode (mC mX5_isDone) 193 = .ok (.iload_n 3, 1) := by decide +kernel
theorem dX5_isDone_194 : decode (mC mX5_isDone) 194 = .ok (.iastore, 1) := by decide +kernel
theorem dX5_isDone_195 : decode (mC mX5_isDone) 195 = .ok (.iconst 1, 1) := by decide +kernel
theorem dX5_isDone_196 : decode (mC mX5_isDone) 196 = .ok (.ireturn, 1) := by decide +kernel
theorem dX5_isDone_197 : decode (mC mX5_isDone) 197 = .ok (.aload_n 0, 1) := by decide +kernel
theorem dX5_isDone_198 : decode (mC mX5_isDone) 198 = .ok (.iload_n 2, 1) := by decide +kernel
theorem dX5_isDone_199 : decode (mC mX5_isDone) 199 = .ok (.invokevirtual 125, 3) := by decide +kernel
theorem dX5_isDone_202 : decode (mC mX5_isDone) 202 = .ok (.ifCond .ne 5, 3) := by decide +kernel
theorem dX5_isDone_205 : decode (mC mX5_isDone) 205 = .ok (.iconst 0, 1) := by decide +kernel
theorem dX5_isDone_206 : decode (mC mX5_isDone) 206 = .ok (.ireturn, 1) := by decide +kernel
theorem dX5_isDone_207 : decode (mC mX5_isDone) 207 = .ok (.aload_n 0, 1) := by decide +kernel
theorem dX5_isDone_208 : decode (mC mX5_isDone) 208 = .ok (.getfield 9, 3) := by decide +kernel
theorem dX5_isDone_211 : decode (mC mX5_isDone) 211 = .ok (.iload_n 2, 1) := by decide +kernel
theorem dX5_isDone_212 : decode (mC mX5_isDone) 212 = .ok (.iconst 4, 1) := by decide +kernel
theorem dX5_isDone_213 : decode (mC mX5_isDone) 213 = .ok (.invokestatic 55, 3) := by decide +kernel
theorem dX5_isDone_216 : decode (mC mX5_isDone) 216 = .ok (.dup2, 1) := by decide +kernel
theorem dX5_isDone_217 : decode (mC mX5_isDone) 217 = .ok (.iaload, 1) := by decide +kernel
theorem dX5_isDone_218 : decode (mC mX5_isDone) 218 = .ok (.iconst 1, 1) := by decide +kernel
theorem dX5_isDone_219 : decode (mC mX5_isDone) 219 = .ok (.ixor, 1) := by decide +kernel
theorem dX5_isDone_220 : decode (mC mX5_isDone) 220 = .ok (.iastore, 1) := by decide +kernel
theorem dX5_isDone_221 : decode (mC mX5_isDone) 221 = .ok (.iconst 1, 1) := by decide +kernel
theorem dX5_isDone_222 : decode (mC mX5_isDone) 222 = .ok (.ireturn, 1) := by decide +kernel
theorem dX5_isDone_223 : decode (mC mX5_isDone) 223 = .ok (.aload_n 0, 1) := by decide +kernel
theorem dX5_isDone_224 : decode (mC mX5_isDone) 224 = .ok (.iload_n 2, 1) := by decide +kernel
theorem dX5_isDone_225 : decode (mC mX5_isDone) 225 = .ok (.invokevirtual 125, 3) := by decide +kernel
theorem dX5_isDone_228 : decode (mC mX5_isDone) 228 = .ok (.ifCond .ne 5, 3) := by decide +kernel
theorem dX5_isDone_231 : decode (mC mX5_isDone) 231 = .ok (.iconst 0, 1) := by decide +kernel
theorem dX5_isDone_232 : decode (mC mX5_isDone) 232 = .ok (.ireturn, 1) := by decide +kernel
theorem dX5_isDone_233 : decode (mC mX5_isDone) 233 = .ok (.aload_n 0, 1) := by decide +kernel
theorem dX5_isDone_234 : decode (mC mX5_isDone) 234 = .ok (.getfield 9, 3) := by decide +kernel
theorem dX5_isDone_237 : decode (mC mX5_isDone) 237 = .ok (.iload_n 2, 1) := by decide +kernel
theorem dX5_isDone_238 : decode (mC mX5_isDone) 238 = .ok (.invokestatic 128, 3) := by decide +kernel
theorem dX5_isDone_241 : decode (mC mX5_isDone) 241 = .ok (.iconst 1, 1) := by decide +kernel
theorem dX5_isDone_242 : decode (mC mX5_isDone) 242 = .ok (.ireturn, 1) := by decide +kernel
theorem dX5_isDone_243 : decode (mC mX5_isDone) 243 = .ok (.iload_n 2, 1) := by decide +kernel
theorem dX5_isDone_244 : decode (mC mX5_isDone) 244 = .ok (.iconst 1, 1) := by decide +kernel
theorem dX5_isDone_245 : decode (mC mX5_isDone) 245 = .ok (.bipush 60, 2) := by decide +kernel
theorem dX5_isDone_247 : decode (mC mX5_isDone) 247 = .ok (.invokestatic 43, 3) := by decide +kernel
theorem dX5_isDone_250 : decode (mC mX5_isDone) 250 = .ok (.ifCond .eq 17, 3) := by decide +kernel
theorem dX5_isDone_253 : decode (mC mX5_isDone) 253 = .ok (.aload_n 0, 1) := by decide +kernel
theorem dX5_isDone_254 : decode (mC mX5_isDone) 254 = .ok (.getfield 9, 3) := by decide +kernel
theorem dX5_isDone_257 : decode (mC mX5_isDone) 257 = .ok (.iconst 2, 1) := by decide +kernel
theorem dX5_isDone_258 : decode (mC mX5_isDone) 258 = .ok (.iaload, 1) := by decide +kernel
theorem dX5_isDone_259 : decode (mC mX5_isDone) 259 = .ok (.iload_n 2, 1) := by decide +kernel
theorem dX5_isDone_260 : decode (mC mX5_isDone) 260 = .ok (.iadd, 1) := by decide +kernel
theorem dX5_isDone_261 : decode (mC mX5_isDone) 261 = .ok (.sipush 999, 3) := by decide +kernel
theorem dX5_isDone_264 : decode (mC mX5_isDone) 264 = .ok (.if_icmp .le 5, 3) := by decide +kernel
theorem dX5_isDone_267 : decode (mC mX5_isDone) 267 = .ok (.iconst 0, 1) := by decide +kernel
theorem dX5_isDone_268 : decode (mC mX5_isDone) 268 = .ok (.ireturn, 1) := by decide +kernel
theorem dX5_isDone_269 : decode (mC mX5_isDone) 269 = .ok (.aload_n 0, 1) := by decide +kernel
theorem dX5_isDone_270 : decode (mC mX5_isDone) 270 = .ok (.aload_n 0, 1) := by decide +kernel
theorem dX5_isDone_271 : decode (mC mX5_isDone) 271 = .ok (.getfield 9, 3) := by decide +kernel
theorem dX5_isDone_274 : decode (mC mX5_isDone) 274 = .ok (.iload_n 2, 1) := by decide +kernel
theorem dX5_isDone_275 : decode (mC mX5_isDone) 275 = .ok (.invokevirtual 132, 3) := by decide +kernel
theorem dX5_isDone_278 : decode (mC mX5_isDone) 278 = .ok (.iconst 1, 1) := by decide +kernel
theorem dX5_isDone_279 : decode (mC mX5_isDone) 279 = .ok (.ireturn, 1) := by decide +kernel
theorem dX5_town_0 : decode (mC mX5_town) 0 = .ok (.aload_n 0, 1) := by decide +kernel
theorem dX5_town_1 : decode (mC mX5_town) 1 = .ok (.iconst 0, 1) := by decide +kernel
theorem dX5_town_2 : decode (mC mX5_town) 2 = .ok (.putfield 94, 3) := by decide +kernel
theorem dX5_town_5 : decode (mC mX5_town) 5 = .ok (.iconst 0, 1) := by decide +kernel
theorem dX5_town_6 : decode (mC mX5_town) 6 = .ok (.istore_n 1, 1) := by decide +kernel
theorem dX5_town_7 : decode (mC mX5_town) 7 = .ok (.bipush (-9), 2) := by decide +kernel
theorem dX5_town_9 : decode (mC mX5_town) 9 = .ok (.istore_n 2, 1) := by decide +kernel
theorem dX5_town_10 : decode (mC mX5_town) 10 = .ok (.aload_n 0, 1) := by decide +kernel
theorem dX5_town_11 : decode (mC mX5_town) 11 = .ok (.invokevirtual 135, 3) := by decide +kernel
theorem dX5_town_14 : decode (mC mX5_town) 14 = .ok (.ifCond .ne 12, 3) := by decide +kernel
theorem dX5_town_17 : decode (mC mX5_town) 17 = .ok (.sipush (-1000), 3) := by decide +kernel
theorem dX5_town_20 : decode (mC mX5_town) 20 = .ok (.aload_n 0, 1) := by decide +kernel
theorem dX5_town_21 : decode (mC mX5_town) 21 = .ok (.getfield 94, 3) := by decide +kernel
theorem dX5_town_24 : decode (mC mX5_town) 24 = .ok (.isub, 1) := by decide +kernel
theorem dX5_town_25 : decode (mC mX5_town) 25 = .ok (.istore_n 2, 1) := by decide +kernel
theorem dX5_town_26 : decode (mC mX5_town) 26 = .ok (.iinc 1 1, 3) := by decide +kernel
theorem dX5_town_29 : decode (mC mX5_town) 29 = .ok (.iload_n 2, 1) := by decide +kernel
theorem dX5_town_30 : decode (mC mX5_town) 30 = .ok (.bipush (-9), 2) := by decide +kernel
theorem dX5_town_32 : decode (mC mX5_town) 32 = .ok (.if_icmp .ne 14, 3) := by decide +kernel
theorem dX5_town_35 : decode (mC mX5_town) 35 = .ok (.aload_n 0, 1) := by decide +kernel
theorem dX5_town_36 : decode (mC mX5_town) 36 = .ok (.getfield 94, 3) := by decide +kernel
theorem dX5_town_39 : decode (mC mX5_town) 39 = .ok (.aload_n 0, 1) := by decide +kernel
theorem dX5_town_40 : decode (mC mX5_town) 40 = .ok (.getfield 90, 3) := by decide +kernel
theorem dX5_town_43 : decode (mC mX5_town) 43 = .ok (.if_icmp .lt (-33), 3) := by decide +kernel
theorem dX5_town_46 : decode (mC mX5_town) 46 = .ok (.aload_n 0, 1) := by decide +kernel
theorem dX5_town_47 : decode (mC mX5_town) 47 = .ok (.getfield 9, 3) := by decide +kernel
theorem dX5_town_50 : decode (mC mX5_town) 50 = .ok (.aload_n 0, 1) := by decide +kernel
theorem dX5_town_51 : decode (mC mX5_town) 51 = .ok (.getfield 19, 3) := by decide +kernel
theorem dX5_town_54 : decode (mC mX5_town) 54 = .ok (.invokestatic 138, 3) := by decide +kernel
theorem dX5_town_57 : decode (mC mX5_town) 57 = .ok (.aload_n 0, 1) := by decide +kernel
theorem dX5_town_58 : decode (mC mX5_town) 58 = .ok (.iconst 0, 1) := by decide +kernel
theorem dX5_town_59 : decode (mC mX5_town) 59 = .ok (.putfield 94, 3) := by decide +kernel
theorem dX5_town_62 : decode (mC mX5_town) 62 = .ok (.iload_n 2, 1) := by decide +kernel
theorem dX5_town_63 : decode (mC mX5_town) 63 = .ok (.bipush (-9), 2) := by decide +kernel
theorem dX5_town_65 : decode (mC mX5_town) 65 = .ok (.if_icmp .ne 63, 3) := by decide +kernel
theorem dX5_town_68 : decode (mC mX5_town) 68 = .ok (.aload_n 0, 1) := by decide +kernel
theorem dX5_town_69 : decode (mC mX5_town) 69 = .ok (.getfield 94, 3) := by decide +kernel
theorem dX5_town_72 : decode (mC mX5_town) 72 = .ok (.aload_n 0, 1) := by decide +kernel
theorem dX5_town_73 : decode (mC mX5_town) 73 = .ok (.getfield 90, 3) := by decide +kernel
theorem dX5_town_76 : decode (mC mX5_town) 76 = .ok (.if_icmp .ge 52, 3) := by decide +kernel
theorem dX5_town_79 : decode (mC mX5_town) 79 = .ok (.aload_n 0, 1) := by decide +kernel
theorem dX5_town_80 : decode (mC mX5_town) 80 = .ok (.getfield 94, 3) := by decide +kernel
theorem dX5_town_83 : decode (mC mX5_town) 83 = .ok (.istore_n 3, 1) := by decide +kernel
theorem dX5_town_84 : decode (mC mX5_town) 84 = .ok (.aload_n 0, 1) := by decide +kernel
theorem dX5_town_85 : decode (mC mX5_town) 85 = .ok (.invokevirtual 97, 3) := by decide +kernel
theorem dX5_town_88 : decode (mC mX5_town) 88 = .ok (.istore 4, 2) := by decide +kernel
theorem dX5_town_90 : decode (mC mX5_town) 90 = .ok (.aload_n 0, 1) := by decide +kernel
theorem dX5_town_91 : decode (mC mX5_town) 91 = .ok (.invokevirtual 135, 3) := by decide +kernel
theorem dX5_town_94 : decode (mC mX5_town) 94 = .ok (.istore 5, 2) := by decide +kernel
theorem dX5_town_96 : decode (mC mX5_town) 96 = .ok (.aload_n 0, 1) := by decide +kernel
theorem dX5_town_97 : decode (mC mX5_town) 97 = .ok (.iload 4, 2) := by decide +kernel
theorem dX5_town_99 : decode (mC mX5_town) 99 = .ok (.invokevirtual 142, 3) := by decide +kernel
theorem dX5_town_102 : decode (mC mX5_town) 102 = .ok (.ifCond .eq 6, 3) := by decide +kernel
theorem dX5_town_105 : decode (mC mX5_town) 105 = .ok (.goto (-43), 3) := by decide +kernel
theorem dX5_town_108 : decode (mC mX5_town) 108 = .ok (.sipush (-2000), 3) := by decide +kernel
theorem dX5_town_111 : decode (mC mX5_town) 111 = .ok (.iload_n 3, 1) := by decide +kernel
theorem dX5_town_112 : decode (mC mX5_town) 112 = .ok (.isub, 1) := by decide +kernel
theorem dX5_town_113 : decode (mC mX5_town) 113 = .ok (.istore_n 2, 1) := by decide +kernel
theorem dX5_town_114 : decode (mC mX5_town) 114 = .ok (.aload_n 0, 1) := by decide +kernel
theorem dX5_town_115 : decode (mC mX5_town) 115 = .ok (.getfield 19, 3) := by decide +kernel
theorem dX5_town_118 : decode (mC mX5_town) 118 = .ok (.aload_n 0, 1) := by decide +kernel
theorem dX5_town_119 : decode (mC mX5_town) 119 = .ok (.getfield 9, 3) := by decide +kernel
theorem dX5_town_122 : decode (mC mX5_town) 122 = .ok (.invokestatic 138, 3) := by decide +kernel
theorem dX5_town_125 : decode (mC mX5_town) 125 = .ok (.goto (-63), 3) := by decide +kernel
theorem dX5_town_128 : decode (mC mX5_town) 128 = .ok (.aload_n 0, 1) := by decide +kernel
theorem dX5_town_129 : decode (mC mX5_town) 129 = .ok (.iconst 0, 1) := by decide +kernel
theorem dX5_town_130 : decode (mC mX5_town) 130 = .ok (.putfield 90, 3) := by decide +kernel
theorem dX5_town_133 : decode (mC mX5_town) 133 = .ok (.iload_n 2, 1) := by decide +kernel
theorem dX5_town_134 : decode (mC mX5_town) 134 = .ok (.bipush (-9), 2) := by decide +kernel
theorem dX5_town_136 : decode (mC mX5_town) 136 = .ok (.if_icmp .ne 7, 3) := by decide +kernel
theorem dX5_town_139 : decode (mC mX5_town) 139 = .ok (.iload_n 1, 1) := by decide +kernel
theorem dX5_town_140 : decode (mC mX5_town) 140 = .ok (.goto 4, 3) := by decide +kernel
theorem dX5_town_143 : decode (mC mX5_town) 143 = .ok (.iload_n 2, 1) := by decide +kernel
theorem dX5_town_144 : decode (mC mX5_town) 144 = .ok (.ireturn, 1) := by decide +kernel
theorem dX5_door_0 : decode (mC mX5_door) 0 = .ok (.aload_n 0, 1) := by decide +kernel
theorem dX5_door_1 : decode (mC mX5_door) 1 = .ok (.iload_n 1, 1) := by decide +kernel
theorem dX5_door_2 : decode (mC mX5_door) 2 = .ok (.invokevirtual 125, 3) := by decide +kernel
theorem dX5_door_5 : decode (mC mX5_door) 5 = .ok (.ifCond .ne 9, 3) := by decide +kernel
theorem dX5_door_8 : decode (mC mX5_door) 8 = .ok (.aload_n 0, 1) := by decide +kernel
theorem dX5_door_9 : decode (mC mX5_door) 9 = .ok (.iconst (-1), 1) := by decide +kernel
theorem dX5_door_10 : decode (mC mX5_door) 10 = .ok (.invokevirtual 39, 3) := by decide +kernel
theorem dX5_door_13 : decode (mC mX5_door) 13 = .ok (.ireturn, 1) := by decide +kernel
theorem dX5_door_14 : decode (mC mX5_door) 14 = .ok (.iload_n 2, 1) := by decide +kernel
theorem dX5_door_15 : decode (mC mX5_door) 15 = .ok (.iconst 0, 1) := by decide +kernel
theorem dX5_door_16 : decode (mC mX5_door) 16 = .ok (.iconst 4, 1) := by decide +kernel
theorem dX5_door_17 : decode (mC mX5_door) 17 = .ok (.invokestatic 43, 3) := by decide +kernel
theorem dX5_door_20 : decode (mC mX5_door) 20 = .ok (.ifCond .eq 16, 3) := by decide +kernel
theorem dX5_door_23 : decode (mC mX5_door) 23 = .ok (.aload_n 0, 1) := by decide +kernel
theorem dX5_door_24 : decode (mC mX5_door) 24 = .ok (.getfield 9, 3) := by decide +kernel
theorem dX5_door_27 : decode (mC mX5_door) 27 = .ok (.iload_n 1, 1) := by decide +kernel
theorem dX5_door_28 : decode (mC mX5_door) 28 = .ok (.iload_n 2, 1) := by decide +kernel
theorem dX5_door_29 : decode (mC mX5_door) 29 = .ok (.invokestatic 55, 3) := by decide +kernel
theorem dX5_door_32 : decode (mC mX5_door) 32 = .ok (.iaload, 1) := by decide +kernel
theorem dX5_door_33 : decode (mC mX5_door) 33 = .ok (.goto 9, 3) := by decide +kernel
theorem dX5_door_36 : decode (mC mX5_door) 36 = .ok (.aload_n 0, 1) := by decide +kernel
theorem dX5_door_37 : decode (mC mX5_door) 37 = .ok (.bipush (-2), 2) := by decide +kernel
theorem dX5_door_39 : decode (mC mX5_door) 39 = .ok (.invokevirtual 39, 3) := by decide +kernel
theorem dX5_door_42 : decode (mC mX5_door) 42 = .ok (.ireturn, 1) := by decide +kernel
theorem dX5_person_0 : decode (mC mX5_person) 0 = .ok (.aload_n 0, 1) := by decide +kernel
theorem dX5_person_1 : decode (mC mX5_person) 1 = .ok (.iload_n 1, 1) := by decide +kernel
theorem dX5_person_2 : decode (mC mX5_person) 2 = .ok (.invokevirtual 122, 3) := by decide +kernel
theorem dX5_person_5 : decode (mC mX5_person) 5 = .ok (.ifCond .ne 9, 3) := by decide +kernel
theorem dX5_person_8 : decode (mC mX5_person) 8 = .ok (.aload_n 0, 1) := by decide +kernel
theorem dX5_person_9 : decode (mC mX5_person) 9 = .ok (.iconst (-1), 1) := by decide +kernel
theorem dX5_person_10 : decode (mC mX5_person) 10 = .ok (.invokevirtual 39, 3) := by decide +kernel
theorem dX5_person_13 : decode (mC mX5_person) 13 = .ok (.ireturn, 1) := by decide +kernel
theorem dX5_person_14 : decode (mC mX5_person) 14 = .ok (.iload_n 2, 1) := by decide +kernel
theorem dX5_person_15 : decode (mC mX5_person) 15 = .ok (.iconst 0, 1) := by decide +kernel
theorem dX5_person_16 : decode (mC mX5_person) 16 = .ok (.iconst 2, 1) := by decide +kernel
theorem dX5_person_17 : decode (mC mX5_person) 17 = .ok (.invokestatic 43, 3) := by decide +kernel
theorem dX5_person_20 : decode (mC mX5_person) 20 = .ok (.ifCond .eq 14, 3) := by decide +kernel
theorem dX5_person_23 : decode (mC mX5_person) 23 = .ok (.aload_n 0, 1) := by decide +kernel
theorem dX5_person_24 : decode (mC mX5_person) 24 = .ok (.getfield 9, 3) := by decide +kernel
theorem dX5_person_27 : decode (mC mX5_person) 27 = .ok (.iload_n 1, 1) := by decide +kernel
theorem dX5_person_28 : decode (mC mX5_person) 28 = .ok (.iload_n 2, 1) := by decide +kernel
theorem dX5_person_29 : decode (mC mX5_person) 29 = .ok (.invokestatic 51, 3) := by decide +kernel
theorem dX5_person_32 : decode (mC mX5_person) 32 = .ok (.iaload, 1) := by decide +kernel
theorem dX5_person_33 : decode (mC mX5_person) 33 = .ok (.ireturn, 1) := by decide +kernel
theorem dX5_person_34 : decode (mC mX5_person) 34 = .ok (.iload_n 2, 1) := by decide +kernel
theorem dX5_person_35 : decode (mC mX5_person) 35 = .ok (.iconst 3, 1) := by decide +kernel
theorem dX5_person_36 : decode (mC mX5_person) 36 = .ok (.if_icmp .eq 10, 3) := by decide +kernel
theorem dX5_person_39 : decode (mC mX5_person) 39 = .ok (.aload_n 0, 1) := by decide +kernel
theorem dX5_person_40 : decode (mC mX5_person) 40 = .ok (.bipush (-2), 2) := by decide +kernel
theorem dX5_person_42 : decode (mC mX5_person) 42 = .ok (.invokevirtual 39, 3) := by decide +kernel
theorem dX5_person_45 : decode (mC mX5_person) 45 = .ok (.ireturn, 1) := by decide +kernel
theorem dX5_person_46 : decode (mC mX5_person) 46 = .ok (.aload_n 0, 1) := by decide +kernel
theorem dX5_person_47 : decode (mC mX5_person) 47 = .ok (.aload_n 0, 1) := by decide +kernel
theorem dX5_person_48 : decode (mC mX5_person) 48 = .ok (.getfield 9, 3) := by decide +kernel
theorem dX5_person_51 : decode (mC mX5_person) 51 = .ok (.invokevirtual 83, 3) := by decide +kernel
theorem dX5_person_54 : decode (mC mX5_person) 54 = .ok (.aload_n 0, 1) := by decide +kernel
theorem dX5_person_55 : decode (mC mX5_person) 55 = .ok (.aload_n 0, 1) := by decide +kernel
theorem dX5_person_56 : decode (mC mX5_person) 56 = .ok (.getfield 9, 3) := by decide +kernel
theorem dX5_person_59 : decode (mC mX5_person) 59 = .ok (.iload_n 1, 1) := by decide +kernel
theorem dX5_person_60 : decode (mC mX5_person) 60 = .ok (.aload_n 0, 1) := by decide +kernel
theorem dX5_person_61 : decode (mC mX5_person) 61 = .ok (.getfield 9, 3) := by decide +kernel
theorem dX5_person_64 : decode (mC mX5_person) 64 = .ok (.iconst 2, 1) := by decide +kernel
theorem dX5_person_65 : decode (mC mX5_person) 65 = .ok (.iaload, 1) := by decide +kernel
theorem dX5_person_66 : decode (mC mX5_person) 66 = .ok (.iconst 1, 1) := by decide +kernel
theorem dX5_person_67 : decode (mC mX5_person) 67 = .ok (.iadd, 1) := by decide +kernel
theorem dX5_person_68 : decode (mC mX5_person) 68 = .ok (.invokevirtual 79, 3) := by decide +kernel
theorem dX5_person_71 : decode (mC mX5_person) 71 = .ok (.ireturn, 1) := by decide +kernel
theorem dX5_wedges_0 : decode (mC mX5_wedges) 0 = .ok (.aload_n 0, 1) := by decide +kernel
theorem dX5_wedges_1 : decode (mC mX5_wedges) 1 = .ok (.iload_n 1, 1) := by decide +kernel
theorem dX5_wedges_2 : decode (mC mX5_wedges) 2 = .ok (.invokevirtual 125, 3) := by decide +kernel
theorem dX5_wedges_5 : decode (mC mX5_wedges) 5 = .ok (.ifCond .ne 9, 3) := by decide +kernel
theorem dX5_wedges_8 : decode (mC mX5_wedges) 8 = .ok (.aload_n 0, 1) := by decide +kernel
theorem dX5_wedges_9 : decode (mC mX5_wedges) 9 = .ok (.iconst (-1), 1) := by decide +kernel
theorem dX5_wedges_10 : decode (mC mX5_wedges) 10 = .ok (.invokevirtual 39, 3) := by decide +kernel
theorem dX5_wedges_13 : decode (mC mX5_wedges) 13 = .ok (.ireturn, 1) := by decide +kernel
theorem dX5_wedges_14 : decode (mC mX5_wedges) 14 = .ok (.aload_n 0, 1) := by decide +kernel
theorem dX5_wedges_15 : decode (mC mX5_wedges) 15 = .ok (.getfield 9, 3) := by decide +kernel
theorem dX5_wedges_18 : decode (mC mX5_wedges) 18 = .ok (.iload_n 1, 1) := by decide +kernel
theorem dX5_wedges_19 : decode (mC mX5_wedges) 19 = .ok (.iconst 4, 1) := by decide +kernel
theorem dX5_wedges_20 : decode (mC mX5_wedges) 20 = .ok (.invokestatic 55, 3) := by decide +kernel
theorem dX5_wedges_23 : decode (mC mX5_wedges) 23 = .ok (.dup2, 1) := by decide +kernel
theorem dX5_wedges_24 : decode (mC mX5_wedges) 24 = .ok (.iaload, 1) := by decide +kernel
theorem dX5_wedges_25 : decode (mC mX5_wedges) 25 = .ok (.iconst 1, 1) := by decide +kernel
theorem dX5_wedges_26 : decode (mC mX5_wedges) 26 = .ok (.ixor, 1) := by decide +kernel
theorem dX5_wedges_27 : decode (mC mX5_wedges) 27 = .ok (.iastore, 1) := by decide +kernel
theorem dX5_wedges_28 : decode (mC mX5_wedges) 28 = .ok (.aload_n 0, 1) := by decide +kernel
theorem dX5_wedges_29 : decode (mC mX5_wedges) 29 = .ok (.getfield 9, 3) := by decide +kernel
theorem dX5_wedges_32 : decode (mC mX5_wedges) 32 = .ok (.iload_n 1, 1) := by decide +kernel
theorem dX5_wedges_33 : decode (mC mX5_wedges) 33 = .ok (.iconst 4, 1) := by decide +kernel
theorem dX5_wedges_34 : decode (mC mX5_wedges) 34 = .ok (.invokestatic 55, 3) := by decide +kernel
theorem dX5_wedges_37 : decode (mC mX5_wedges) 37 = .ok (.iaload, 1) := by decide +kernel
theorem dX5_wedges_38 : decode (mC mX5_wedges) 38 = .ok (.ireturn, 1) := by decide +kernel
theorem dX5_turns_0 : decode (mC mX5_turns) 0 = .ok (.aload_n 0, 1) := by decide +kernel
theorem dX5_turns_1 : decode (mC mX5_turns) 1 = .ok (.iload_n 1, 1) := by decide +kernel
theorem dX5_turns_2 : decode (mC mX5_turns) 2 = .ok (.invokevirtual 125, 3) := by decide +kernel
theorem dX5_turns_5 : decode (mC mX5_turns) 5 = .ok (.ifCond .ne 9, 3) := by decide +kernel
theorem dX5_turns_8 : decode (mC mX5_turns) 8 = .ok (.aload_n 0, 1) := by decide +kernel
theorem dX5_turns_9 : decode (mC mX5_turns) 9 = .ok (.iconst (-1), 1) := by decide +kernel
theorem dX5_turns_10 : decode (mC mX5_turns) 10 = .ok (.invokevirtual 39, 3) := by decide +kernel
theorem dX5_turns_13 : decode (mC mX5_turns) 13 = .ok (.ireturn, 1) := by decide +kernel
theorem dX5_turns_14 : decode (mC mX5_turns) 14 = .ok (.aload_n 0, 1) := by decide +kernel
theorem dX5_turns_15 : decode (mC mX5_turns) 15 = .ok (.getfield 9, 3) := by decide +kernel
theorem dX5_turns_18 : decode (mC mX5_turns) 18 = .ok (.iload_n 1, 1) := by decide +kernel
theorem dX5_turns_19 : decode (mC mX5_turns) 19 = .ok (.invokestatic 128, 3) := by decide +kernel
theorem dX5_turns_22 : decode (mC mX5_turns) 22 = .ok (.aload_n 0, 1) := by decide +kernel
theorem dX5_turns_23 : decode (mC mX5_turns) 23 = .ok (.getfield 9, 3) := by decide +kernel
theorem dX5_turns_26 : decode (mC mX5_turns) 26 = .ok (.iload_n 1, 1) := by decide +kernel
theorem dX5_turns_27 : decode (mC mX5_turns) 27 = .ok (.iconst 3, 1) := by decide +kernel
theorem dX5_turns_28 : decode (mC mX5_turns) 28 = .ok (.invokestatic 55, 3) := by decide +kernel
theorem dX5_turns_31 : decode (mC mX5_turns) 31 = .ok (.iaload, 1) := by decide +kernel
theorem dX5_turns_32 : decode (mC mX5_turns) 32 = .ok (.ireturn, 1) := by decide +kernel
theorem dX5_areWrong_0 : decode (mC mX5_areWrong) 0 = .ok (.aload_n 0, 1) := by decide +kernel
theorem dX5_areWrong_1 : decode (mC mX5_areWrong) 1 = .ok (.iload_n 1, 1) := by decide +kernel
theorem dX5_areWrong_2 : decode (mC mX5_areWrong) 2 = .ok (.invokevirtual 122, 3) := by decide +kernel
theorem dX5_areWrong_5 : decode (mC mX5_areWrong) 5 = .ok (.ifCond .eq 10, 3) := by decide +kernel
theorem dX5_areWrong_8 : decode (mC mX5_areWrong) 8 = .ok (.iload_n 2, 1) := by decide +kernel
theorem dX5_areWrong_9 : decode (mC mX5_areWrong) 9 = .ok (.invokestatic 111, 3) := by decide +kernel
theorem dX5_areWrong_12 : decode (mC mX5_areWrong) 12 = .ok (.ifCond .ne 7, 3) := by decide +kernel
theorem dX5_areWrong_15 : decode (mC mX5_areWrong) 15 = .ok (.iconst 1, 1) := by decide +kernel
theorem dX5_areWrong_16 : decode (mC mX5_areWrong) 16 = .ok (.goto 4, 3) := by decide +kernel
theorem dX5_areWrong_19 : decode (mC mX5_areWrong) 19 = .ok (.iconst 0, 1) := by decide +kernel
theorem dX5_areWrong_20 : decode (mC mX5_areWrong) 20 = .ok (.ireturn, 1) := by decide +kernel
theorem dX5_sets_0 : decode (mC mX5_sets) 0 = .ok (.aload_n 0, 1) := by decide +kernel
theorem dX5_sets_1 : decode (mC mX5_sets) 1 = .ok (.iload_n 1, 1) := by decide +kernel
theorem dX5_sets_2 : decode (mC mX5_sets) 2 = .ok (.iload_n 3, 1) := by decide +kernel
theorem dX5_sets_3 : decode (mC mX5_sets) 3 = .ok (.invokevirtual 145, 3) := by decide +kernel
theorem dX5_sets_6 : decode (mC mX5_sets) 6 = .ok (.ifCond .eq 9, 3) := by decide +kernel
theorem dX5_sets_9 : decode (mC mX5_sets) 9 = .ok (.aload_n 0, 1) := by decide +kernel
theorem dX5_sets_10 : decode (mC mX5_sets) 10 = .ok (.iconst (-1), 1) := by decide +kernel
theorem dX5_sets_11 : decode (mC mX5_sets) 11 = .ok (.invokevirtual 39, 3) := by decide +kernel
theorem dX5_sets_14 : decode (mC mX5_sets) 14 = .ok (.ireturn, 1) := by decide +kernel
theorem dX5_sets_15 : decode (mC mX5_sets) 15 = .ok (.aload_n 0, 1) := by decide +kernel
theorem dX5_sets_16 : decode (mC mX5_sets) 16 = .ok (.getfield 9, 3) := by decide +kernel
theorem dX5_sets_19 : decode (mC mX5_sets) 19 = .ok (.iload_n 1, 1) := by decide +kernel
theorem dX5_sets_20 : decode (mC mX5_sets) 20 = .ok (.iload_n 2, 1) := by decide +kernel
theorem dX5_sets_21 : decode (mC mX5_sets) 21 = .ok (.invokestatic 51, 3) := by decide +kernel
theorem dX5_sets_24 : decode (mC mX5_sets) 24 = .ok (.iaload, 1) := by decide +kernel
theorem dX5_sets_25 : decode (mC mX5_sets) 25 = .ok (.istore 4, 2) := by decide +kernel
theorem dX5_sets_27 : decode (mC mX5_sets) 27 = .ok (.aload_n 0, 1) := by decide +kernel
theorem dX5_sets_28 : decode (mC mX5_sets) 28 = .ok (.getfield 9, 3) := by decide +kernel
theorem dX5_sets_31 : decode (mC mX5_sets) 31 = .ok (.iload_n 1, 1) := by decide +kernel
theorem dX5_sets_32 : decode (mC mX5_sets) 32 = .ok (.iload_n 2, 1) := by decide +kernel
theorem dX5_sets_33 : decode (mC mX5_sets) 33 = .ok (.invokestatic 51, 3) := by decide +kernel
theorem dX5_sets_36 : decode (mC mX5_sets) 36 = .ok (.iload_n 3, 1) := by decide +kernel
theorem dX5_sets_37 : decode (mC mX5_sets) 37 = .ok (.iastore, 1) := by decide +kernel
theorem dX5_sets_38 : decode (mC mX5_sets) 38 = .ok (.iload 4, 2) := by decide +kernel
theorem dX5_sets_40 : decode (mC mX5_sets) 40 = .ok (.ireturn, 1) := by decide +kernel
theorem dX5_stands_0 : decode (mC mX5_stands) 0 = .ok (.aload_n 0, 1) := by decide +kernel
theorem dX5_stands_1 : decode (mC mX5_stands) 1 = .ok (.iload_n 1, 1) := by decide +kernel
theorem dX5_stands_2 : decode (mC mX5_stands) 2 = .ok (.iconst 0, 1) := by decide +kernel
theorem dX5_stands_3 : decode (mC mX5_stands) 3 = .ok (.iload_n 2, 1) := by decide +kernel
theorem dX5_stands_4 : decode (mC mX5_stands) 4 = .ok (.invokevirtual 148, 3) := by decide +kernel
theorem dX5_stands_7 : decode (mC mX5_stands) 7 = .ok (.ireturn, 1) := by decide +kernel
theorem dX5_wants_0 : decode (mC mX5_wants) 0 = .ok (.aload_n 0, 1) := by decide +kernel
theorem dX5_wants_1 : decode (mC mX5_wants) 1 = .ok (.iload_n 1, 1) := by decide +kernel
theorem dX5_wants_2 : decode (mC mX5_wants) 2 = .ok (.iconst 1, 1) := by decide +kernel
theorem dX5_wants_3 : decode (mC mX5_wants) 3 = .ok (.iload_n 2, 1) := by decide +kernel
theorem dX5_wants_4 : decode (mC mX5_wants) 4 = .ok (.invokevirtual 148, 3) := by decide +kernel
theorem dX5_wants_7 : decode (mC mX5_wants) 7 = .ok (.ireturn, 1) := by decide +kernel
theorem dX5_wrongBy_0 : decode (mC mX5_wrongBy) 0 = .ok (.iload_n 0, 1) := by decide +kernel
theorem dX5_wrongBy_1 : decode (mC mX5_wrongBy) 1 = .ok (.iload_n 1, 1) := by decide +kernel
theorem dX5_wrongBy_2 : decode (mC mX5_wrongBy) 2 = .ok (.if_icmp .ge 8, 3) := by decide +kernel
theorem dX5_wrongBy_5 : decode (mC mX5_wrongBy) 5 = .ok (.bipush (-4), 2) := by decide +kernel
theorem dX5_wrongBy_7 : decode (mC mX5_wrongBy) 7 = .ok (.goto 14, 3) := by decide +kernel
theorem dX5_wrongBy_10 : decode (mC mX5_wrongBy) 10 = .ok (.iload_n 0, 1) := by decide +kernel
theorem dX5_wrongBy_11 : decode (mC mX5_wrongBy) 11 = .ok (.iload_n 2, 1) := by decide +kernel
theorem dX5_wrongBy_12 : decode (mC mX5_wrongBy) 12 = .ok (.if_icmp .le 8, 3) := by decide +kernel
theorem dX5_wrongBy_15 : decode (mC mX5_wrongBy) 15 = .ok (.bipush (-6), 2) := by decide +kernel
theorem dX5_wrongBy_17 : decode (mC mX5_wrongBy) 17 = .ok (.goto 4, 3) := by decide +kernel
theorem dX5_wrongBy_20 : decode (mC mX5_wrongBy) 20 = .ok (.iconst 0, 1) := by decide +kernel
theorem dX5_wrongBy_21 : decode (mC mX5_wrongBy) 21 = .ok (.ireturn, 1) := by decide +kernel
theorem dX5_moods_0 : decode (mC mX5_moods) 0 = .ok (.aload_n 0, 1) := by decide +kernel
theorem dX5_moods_1 : decode (mC mX5_moods) 1 = .ok (.iload_n 1, 1) := by decide +kernel
theorem dX5_moods_2 : decode (mC mX5_moods) 2 = .ok (.invokevirtual 122, 3) := by decide +kernel
theorem dX5_moods_5 : decode (mC mX5_moods) 5 = .ok (.ifCond .eq 13, 3) := by decide +kernel
theorem dX5_moods_8 : decode (mC mX5_moods) 8 = .ok (.iload_n 2, 1) := by decide +kernel
theorem dX5_moods_9 : decode (mC mX5_moods) 9 = .ok (.iconst 0, 1) := by decide +kernel
theorem dX5_moods_10 : decode (mC mX5_moods) 10 = .ok (.bipush 9, 2) := by decide +kernel
theorem dX5_moods_12 : decode (mC mX5_moods) 12 = .ok (.invokestatic 152, 3) := by decide +kernel
theorem dX5_moods_15 : decode (mC mX5_moods) 15 = .ok (.goto 4, 3) := by decide +kernel
theorem dX5_moods_18 : decode (mC mX5_moods) 18 = .ok (.iconst (-1), 1) := by decide +kernel
theorem dX5_moods_19 : decode (mC mX5_moods) 19 = .ok (.istore_n 3, 1) := by decide +kernel
theorem dX5_moods_20 : decode (mC mX5_moods) 20 = .ok (.iload_n 3, 1) := by decide +kernel
theorem dX5_moods_21 : decode (mC mX5_moods) 21 = .ok (.ifCond .eq 9, 3) := by decide +kernel
theorem dX5_moods_24 : decode (mC mX5_moods) 24 = .ok (.aload_n 0, 1) := by decide +kernel
theorem dX5_moods_25 : decode (mC mX5_moods) 25 = .ok (.iload_n 3, 1) := by decide +kernel
theorem dX5_moods_26 : decode (mC mX5_moods) 26 = .ok (.invokevirtual 39, 3) := by decide +kernel
theorem dX5_moods_29 : decode (mC mX5_moods) 29 = .ok (.ireturn, 1) := by decide +kernel
theorem dX5_moods_30 : decode (mC mX5_moods) 30 = .ok (.aload_n 0, 1) := by decide +kernel
theorem dX5_moods_31 : decode (mC mX5_moods) 31 = .ok (.getfield 9, 3) := by decide +kernel
theorem dX5_moods_34 : decode (mC mX5_moods) 34 = .ok (.iload_n 1, 1) := by decide +kernel
theorem dX5_moods_35 : decode (mC mX5_moods) 35 = .ok (.iconst 2, 1) := by decide +kernel
theorem dX5_moods_36 : decode (mC mX5_moods) 36 = .ok (.invokestatic 51, 3) := by decide +kernel
theorem dX5_moods_39 : decode (mC mX5_moods) 39 = .ok (.iaload, 1) := by decide +kernel
theorem dX5_moods_40 : decode (mC mX5_moods) 40 = .ok (.istore 4, 2) := by decide +kernel
theorem dX5_moods_42 : decode (mC mX5_moods) 42 = .ok (.aload_n 0, 1) := by decide +kernel
theorem dX5_moods_43 : decode (mC mX5_moods) 43 = .ok (.getfield 9, 3) := by decide +kernel
theorem dX5_moods_46 : decode (mC mX5_moods) 46 = .ok (.iload_n 1, 1) := by decide +kernel
theorem dX5_moods_47 : decode (mC mX5_moods) 47 = .ok (.iconst 2, 1) := by decide +kernel
theorem dX5_moods_48 : decode (mC mX5_moods) 48 = .ok (.invokestatic 51, 3) := by decide +kernel
theorem dX5_moods_51 : decode (mC mX5_moods) 51 = .ok (.iload_n 2, 1) := by decide +kernel
theorem dX5_moods_52 : decode (mC mX5_moods) 52 = .ok (.iastore, 1) := by decide +kernel
theorem dX5_moods_53 : decode (mC mX5_moods) 53 = .ok (.iload 4, 2) := by decide +kernel
theorem dX5_moods_55 : decode (mC mX5_moods) 55 = .ok (.ireturn, 1) := by decide +kernel
theorem dX5_changes_0 : decode (mC mX5_changes) 0 = .ok (.aload_n 0, 1) := by decide +kernel
theorem dX5_changes_1 : decode (mC mX5_changes) 1 = .ok (.iload_n 1, 1) := by decide +kernel
theorem dX5_changes_2 : decode (mC mX5_changes) 2 = .ok (.invokevirtual 125, 3) := by decide +kernel
theorem dX5_changes_5 : decode (mC mX5_changes) 5 = .ok (.ifCond .ne 7, 3) := by decide +kernel
theorem dX5_changes_8 : decode (mC mX5_changes) 8 = .ok (.iconst (-1), 1) := by decide +kernel
theorem dX5_changes_9 : decode (mC mX5_changes) 9 = .ok (.goto 24, 3) := by decide +kernel
theorem dX5_changes_12 : decode (mC mX5_changes) 12 = .ok (.iload_n 2, 1) := by decide +kernel
theorem dX5_changes_13 : decode (mC mX5_changes) 13 = .ok (.iconst 0, 1) := by decide +kernel
theorem dX5_changes_14 : decode (mC mX5_changes) 14 = .ok (.iconst 5, 1) := by decide +kernel
theorem dX5_changes_15 : decode (mC mX5_changes) 15 = .ok (.invokestatic 43, 3) := by decide +kernel
theorem dX5_changes_18 : decode (mC mX5_changes) 18 = .ok (.ifCond .ne 8, 3) := by decide +kernel
theorem dX5_changes_21 : decode (mC mX5_changes) 21 = .ok (.bipush (-2), 2) := by decide +kernel
theorem dX5_changes_23 : decode (mC mX5_changes) 23 = .ok (.goto 10, 3) := by decide +kernel
theorem dX5_changes_26 : decode (mC mX5_changes) 26 = .ok (.iload_n 3, 1) := by decide +kernel
theorem dX5_changes_27 : decode (mC mX5_changes) 27 = .ok (.iconst 0, 1) := by decide +kernel
theorem dX5_changes_28 : decode (mC mX5_changes) 28 = .ok (.bipush 9, 2) := by decide +kernel
theorem dX5_changes_30 : decode (mC mX5_changes) 30 = .ok (.invokestatic 152, 3) := by decide +kernel
theorem dX5_changes_33 : decode (mC mX5_changes) 33 = .ok (.istore 4, 2) := by decide +kernel
theorem dX5_changes_35 : decode (mC mX5_changes) 35 = .ok (.iload 4, 2) := by decide +kernel
theorem dX5_changes_37 : decode (mC mX5_changes) 37 = .ok (.ifCond .eq 10, 3) := by decide +kernel
theorem dX5_changes_40 : decode (mC mX5_changes) 40 = .ok (.aload_n 0, 1) := by decide +kernel
theorem dX5_changes_41 : decode (mC mX5_changes) 41 = .ok (.iload 4, 2) := by decide +kernel
theorem dX5_changes_43 : decode (mC mX5_changes) 43 = .ok (.invokevirtual 39, 3) := by decide +kernel
theorem dX5_changes_46 : decode (mC mX5_changes) 46 = .ok (.ireturn, 1) := by decide +kernel
theorem dX5_changes_47 : decode (mC mX5_changes) 47 = .ok (.bipush 10, 2) := by decide +kernel
theorem dX5_changes_49 : decode (mC mX5_changes) 49 = .ok (.aload_n 0, 1) := by decide +kernel
theorem dX5_changes_50 : decode (mC mX5_changes) 50 = .ok (.getfield 9, 3) := by decide +kernel
theorem dX5_changes_53 : decode (mC mX5_changes) 53 = .ok (.iload_n 1, 1) := by decide +kernel
theorem dX5_changes_54 : decode (mC mX5_changes) 54 = .ok (.iconst 0, 1) := by decide +kernel
theorem dX5_changes_55 : decode (mC mX5_changes) 55 = .ok (.invokestatic 55, 3) := by decide +kernel
theorem dX5_changes_58 : decode (mC mX5_changes) 58 = .ok (.iaload, 1) := by decide +kernel
theorem dX5_changes_59 : decode (mC mX5_changes) 59 = .ok (.imul, 1) := by decide +kernel
theorem dX5_changes_60 : decode (mC mX5_changes) 60 = .ok (.aload_n 0, 1) := by decide +kernel
theorem dX5_changes_61 : decode (mC mX5_changes) 61 = .ok (.getfield 9, 3) := by decide +kernel
theorem dX5_changes_64 : decode (mC mX5_changes) 64 = .ok (.iload_n 1, 1) := by decide +kernel
theorem dX5_changes_65 : decode (mC mX5_changes) 65 = .ok (.iconst 1, 1) := by decide +kernel
theorem dX5_changes_66 : decode (mC mX5_changes) 66 = .ok (.invokestatic 55, 3) := by decide +kernel
theorem dX5_changes_69 : decode (mC mX5_changes) 69 = .ok (.iaload, 1) := by decide +kernel
theorem dX5_changes_70 : decode (mC mX5_changes) 70 = .ok (.iadd, 1) := by decide +kernel
theorem dX5_changes_71 : decode (mC mX5_changes) 71 = .ok (.istore 5, 2) := by decide +kernel
theorem dX5_changes_73 : decode (mC mX5_changes) 73 = .ok (.aload_n 0, 1) := by decide +kernel
theorem dX5_changes_74 : decode (mC mX5_changes) 74 = .ok (.getfield 9, 3) := by decide +kernel
theorem dX5_changes_77 : decode (mC mX5_changes) 77 = .ok (.iload_n 1, 1) := by decide +kernel
theorem dX5_changes_78 : decode (mC mX5_changes) 78 = .ok (.iconst 0, 1) := by decide +kernel
theorem dX5_changes_79 : decode (mC mX5_changes) 79 = .ok (.invokestatic 55, 3) := by decide +kernel
theorem dX5_changes_82 : decode (mC mX5_changes) 82 = .ok (.iload_n 2, 1) := by decide +kernel
theorem dX5_changes_83 : decode (mC mX5_changes) 83 = .ok (.iastore, 1) := by decide +kernel
theorem dX5_changes_84 : decode (mC mX5_changes) 84 = .ok (.aload_n 0, 1) := by decide +kernel
theorem dX5_changes_85 : decode (mC mX5_changes) 85 = .ok (.getfield 9, 3) := by decide +kernel
theorem dX5_changes_88 : decode (mC mX5_changes) 88 = .ok (.iload_n 1, 1) := by decide +kernel
theorem dX5_changes_89 : decode (mC mX5_changes) 89 = .ok (.iconst 1, 1) := by decide +kernel
theorem dX5_changes_90 : decode (mC mX5_changes) 90 = .ok (.invokestatic 55, 3) := by decide +kernel
theorem dX5_changes_93 : decode (mC mX5_changes) 93 = .ok (.iload_n 3, 1) := by decide +kernel
theorem dX5_changes_94 : decode (mC mX5_changes) 94 = .ok (.iastore, 1) := by decide +kernel
theorem dX5_changes_95 : decode (mC mX5_changes) 95 = .ok (.iload 5, 2) := by decide +kernel
theorem dX5_changes_97 : decode (mC mX5_changes) 97 = .ok (.ireturn, 1) := by decide +kernel
theorem dX5_hours_0 : decode (mC mX5_hours) 0 = .ok (.iload_n 1, 1) := by decide +kernel
theorem dX5_hours_1 : decode (mC mX5_hours) 1 = .ok (.iconst 1, 1) := by decide +kernel
theorem dX5_hours_2 : decode (mC mX5_hours) 2 = .ok (.if_icmp .ge 10, 3) := by decide +kernel
theorem dX5_hours_5 : decode (mC mX5_hours) 5 = .ok (.aload_n 0, 1) := by decide +kernel
theorem dX5_hours_6 : decode (mC mX5_hours) 6 = .ok (.bipush (-4), 2) := by decide +kernel
theorem dX5_hours_8 : decode (mC mX5_hours) 8 = .ok (.invokevirtual 39, 3) := by decide +kernel
theorem dX5_hours_11 : decode (mC mX5_hours) 11 = .ok (.ireturn, 1) := by decide +kernel
theorem dX5_hours_12 : decode (mC mX5_hours) 12 = .ok (.iload_n 1, 1) := by decide +kernel
theorem dX5_hours_13 : decode (mC mX5_hours) 13 = .ok (.bipush 60, 2) := by decide +kernel
theorem dX5_hours_15 : decode (mC mX5_hours) 15 = .ok (.if_icmp .gt 17, 3) := by decide +kernel
theorem dX5_hours_18 : decode (mC mX5_hours) 18 = .ok (.aload_n 0, 1) := by decide +kernel
theorem dX5_hours_19 : decode (mC mX5_hours) 19 = .ok (.getfield 9, 3) := by decide +kernel
theorem dX5_hours_22 : decode (mC mX5_hours) 22 = .ok (.iconst 2, 1) := by decide +kernel
theorem dX5_hours_23 : decode (mC mX5_hours) 23 = .ok (.iaload, 1) := by decide +kernel
theorem dX5_hours_24 : decode (mC mX5_hours) 24 = .ok (.iload_n 1, 1) := by decide +kernel
theorem dX5_hours_25 : decode (mC mX5_hours) 25 = .ok (.iadd, 1) := by decide +kernel
theorem dX5_hours_26 : decode (mC mX5_hours) 26 = .ok (.sipush 999, 3) := by decide +kernel
theorem dX5_hours_29 : decode (mC mX5_hours) 29 = .ok (.if_icmp .le 10, 3) := by decide +kernel
theorem dX5_hours_32 : decode (mC mX5_hours) 32 = .ok (.aload_n 0, 1) := by decide +kernel
theorem dX5_hours_33 : decode (mC mX5_hours) 33 = .ok (.bipush (-6), 2) := by decide +kernel
theorem dX5_hours_35 : decode (mC mX5_hours) 35 = .ok (.invokevirtual 39, 3) := by decide +kernel
theorem dX5_hours_38 : decode (mC mX5_hours) 38 = .ok (.ireturn, 1) := by decide +kernel
theorem dX5_hours_39 : decode (mC mX5_hours) 39 = .ok (.aload_n 0, 1) := by decide +kernel
theorem dX5_hours_40 : decode (mC mX5_hours) 40 = .ok (.aload_n 0, 1) := by decide +kernel
theorem dX5_hours_41 : decode (mC mX5_hours) 41 = .ok (.getfield 9, 3) := by decide +kernel
theorem dX5_hours_44 : decode (mC mX5_hours) 44 = .ok (.iload_n 1, 1) := by decide +kernel
theorem dX5_hours_45 : decode (mC mX5_hours) 45 = .ok (.invokevirtual 132, 3) := by decide +kernel
theorem dX5_hours_48 : decode (mC mX5_hours) 48 = .ok (.aload_n 0, 1) := by decide +kernel
theorem dX5_hours_49 : decode (mC mX5_hours) 49 = .ok (.getfield 9, 3) := by decide +kernel
theorem dX5_hours_52 : decode (mC mX5_hours) 52 = .ok (.invokestatic 155, 3) := by decide +kernel
theorem dX5_hours_55 : decode (mC mX5_hours) 55 = .ok (.invokestatic 159, 3) := by decide +kernel
theorem dX5_hours_58 : decode (mC mX5_hours) 58 = .ok (.ireturn, 1) := by decide +kernel
theorem dX5_takes_0 : decode (mC mX5_takes) 0 = .ok (.aload_n 0, 1) := by decide +kernel
theorem dX5_takes_1 : decode (mC mX5_takes) 1 = .ok (.getfield 9, 3) := by decide +kernel
theorem dX5_takes_4 : decode (mC mX5_takes) 4 = .ok (.aload_n 0, 1) := by decide +kernel
theorem dX5_takes_5 : decode (mC mX5_takes) 5 = .ok (.getfield 13, 3) := by decide +kernel
theorem dX5_takes_8 : decode (mC mX5_takes) 8 = .ok (.invokestatic 138, 3) := by decide +kernel
theorem dX5_takes_11 : decode (mC mX5_takes) 11 = .ok (.aload_n 0, 1) := by decide +kernel
theorem dX5_takes_12 : decode (mC mX5_takes) 12 = .ok (.aload_n 0, 1) := by decide +kernel
theorem dX5_takes_13 : decode (mC mX5_takes) 13 = .ok (.getfield 13, 3) := by decide +kernel
theorem dX5_takes_16 : decode (mC mX5_takes) 16 = .ok (.iload_n 1, 1) := by decide +kernel
theorem dX5_takes_17 : decode (mC mX5_takes) 17 = .ok (.invokevirtual 132, 3) := by decide +kernel
theorem dX5_takes_20 : decode (mC mX5_takes) 20 = .ok (.return_, 1) := by decide +kernel
theorem dX5_personThen_0 : decode (mC mX5_personThen) 0 = .ok (.aload_n 0, 1) := by decide +kernel
theorem dX5_personThen_1 : decode (mC mX5_personThen) 1 = .ok (.iload_n 1, 1) := by decide +kernel
theorem dX5_personThen_2 : decode (mC mX5_personThen) 2 = .ok (.invokevirtual 122, 3) := by decide +kernel
theorem dX5_personThen_5 : decode (mC mX5_personThen) 5 = .ok (.ifCond .eq 13, 3) := by decide +kernel
theorem dX5_personThen_8 : decode (mC mX5_personThen) 8 = .ok (.iload_n 2, 1) := by decide +kernel
theorem dX5_personThen_9 : decode (mC mX5_personThen) 9 = .ok (.iconst 0, 1) := by decide +kernel
theorem dX5_personThen_10 : decode (mC mX5_personThen) 10 = .ok (.bipush 60, 2) := by decide +kernel
theorem dX5_personThen_12 : decode (mC mX5_personThen) 12 = .ok (.invokestatic 152, 3) := by decide +kernel
theorem dX5_personThen_15 : decode (mC mX5_personThen) 15 = .ok (.goto 4, 3) := by decide +kernel
theorem dX5_personThen_18 : decode (mC mX5_personThen) 18 = .ok (.iconst (-1), 1) := by decide +kernel
theorem dX5_personThen_19 : decode (mC mX5_personThen) 19 = .ok (.istore 4, 2) := by decide +kernel
theorem dX5_personThen_21 : decode (mC mX5_personThen) 21 = .ok (.iload 4, 2) := by decide +kernel
theorem dX5_personThen_23 : decode (mC mX5_personThen) 23 = .ok (.ifCond .ne 16, 3) := by decide +kernel
theorem dX5_personThen_26 : decode (mC mX5_personThen) 26 = .ok (.iload_n 3, 1) := by decide +kernel
theorem dX5_personThen_27 : decode (mC mX5_personThen) 27 = .ok (.iconst 0, 1) := by decide +kernel
theorem dX5_personThen_28 : decode (mC mX5_personThen) 28 = .ok (.iconst 1, 1) := by decide +kernel
theorem dX5_personThen_29 : decode (mC mX5_personThen) 29 = .ok (.invokestatic 43, 3) := by decide +kernel
theorem dX5_personThen_32 : decode (mC mX5_personThen) 32 = .ok (.ifCond .ne 7, 3) := by decide +kernel
theorem dX5_personThen_35 : decode (mC mX5_personThen) 35 = .ok (.bipush (-2), 2) := by decide +kernel
theorem dX5_personThen_37 : decode (mC mX5_personThen) 37 = .ok (.istore 4, 2) := by decide +kernel
theorem dX5_personThen_39 : decode (mC mX5_personThen) 39 = .ok (.iload 4, 2) := by decide +kernel
theorem dX5_personThen_41 : decode (mC mX5_personThen) 41 = .ok (.ifCond .eq 10, 3) := by decide +kernel
theorem dX5_personThen_44 : decode (mC mX5_personThen) 44 = .ok (.aload_n 0, 1) := by decide +kernel
theorem dX5_personThen_45 : decode (mC mX5_personThen) 45 = .ok (.iload 4, 2) := by decide +kernel
theorem dX5_personThen_47 : decode (mC mX5_personThen) 47 = .ok (.invokevirtual 39, 3) := by decide +kernel
theorem dX5_personThen_50 : decode (mC mX5_personThen) 50 = .ok (.ireturn, 1) := by decide +kernel
theorem dX5_personThen_51 : decode (mC mX5_personThen) 51 = .ok (.aload_n 0, 1) := by decide +kernel
theorem dX5_personThen_52 : decode (mC mX5_personThen) 52 = .ok (.iload_n 2, 1) := by decide +kernel
theorem dX5_personThen_53 : decode (mC mX5_personThen) 53 = .ok (.invokevirtual 162, 3) := by decide +kernel
theorem dX5_personThen_56 : decode (mC mX5_personThen) 56 = .ok (.aload_n 0, 1) := by decide +kernel
theorem dX5_personThen_57 : decode (mC mX5_personThen) 57 = .ok (.getfield 13, 3) := by decide +kernel
theorem dX5_personThen_60 : decode (mC mX5_personThen) 60 = .ok (.iload_n 1, 1) := by decide +kernel
theorem dX5_personThen_61 : decode (mC mX5_personThen) 61 = .ok (.iload_n 3, 1) := by decide +kernel
theorem dX5_personThen_62 : decode (mC mX5_personThen) 62 = .ok (.ifCond .ne 7, 3) := by decide +kernel
theorem dX5_personThen_65 : decode (mC mX5_personThen) 65 = .ok (.iconst 0, 1) := by decide +kernel
theorem dX5_personThen_66 : decode (mC mX5_personThen) 66 = .ok (.goto 4, 3) := by decide +kernel
theorem dX5_personThen_69 : decode (mC mX5_personThen) 69 = .ok (.iconst 2, 1) := by decide +kernel
theorem dX5_personThen_70 : decode (mC mX5_personThen) 70 = .ok (.invokestatic 51, 3) := by decide +kernel
theorem dX5_personThen_73 : decode (mC mX5_personThen) 73 = .ok (.iaload, 1) := by decide +kernel
theorem dX5_personThen_74 : decode (mC mX5_personThen) 74 = .ok (.ireturn, 1) := by decide +kernel
theorem dX5_letThen_0 : decode (mC mX5_letThen) 0 = .ok (.iload_n 1, 1) := by decide +kernel
theorem dX5_letThen_1 : decode (mC mX5_letThen) 1 = .ok (.iconst 0, 1) := by decide +kernel
theorem dX5_letThen_2 : decode (mC mX5_letThen) 2 = .ok (.bipush 60, 2) := by decide +kernel
theorem dX5_letThen_4 : decode (mC mX5_letThen) 4 = .ok (.invokestatic 152, 3) := by decide +kernel
theorem dX5_letThen_7 : decode (mC mX5_letThen) 7 = .ok (.istore_n 2, 1) := by decide +kernel
theorem dX5_letThen_8 : decode (mC mX5_letThen) 8 = .ok (.iload_n 2, 1) := by decide +kernel
theorem dX5_letThen_9 : decode (mC mX5_letThen) 9 = .ok (.ifCond .eq 9, 3) := by decide +kernel
theorem dX5_letThen_12 : decode (mC mX5_letThen) 12 = .ok (.aload_n 0, 1) := by decide +kernel
theorem dX5_letThen_13 : decode (mC mX5_letThen) 13 = .ok (.iload_n 2, 1) := by decide +kernel
theorem dX5_letThen_14 : decode (mC mX5_letThen) 14 = .ok (.invokevirtual 39, 3) := by decide +kernel
theorem dX5_letThen_17 : decode (mC mX5_letThen) 17 = .ok (.ireturn, 1) := by decide +kernel
theorem dX5_letThen_18 : decode (mC mX5_letThen) 18 = .ok (.aload_n 0, 1) := by decide +kernel
theorem dX5_letThen_19 : decode (mC mX5_letThen) 19 = .ok (.iload_n 1, 1) := by decide +kernel
theorem dX5_letThen_20 : decode (mC mX5_letThen) 20 = .ok (.invokevirtual 162, 3) := by decide +kernel
theorem dX5_letThen_23 : decode (mC mX5_letThen) 23 = .ok (.aload_n 0, 1) := by decide +kernel
theorem dX5_letThen_24 : decode (mC mX5_letThen) 24 = .ok (.getfield 13, 3) := by decide +kernel
theorem dX5_letThen_27 : decode (mC mX5_letThen) 27 = .ok (.iconst 3, 1) := by decide +kernel
theorem dX5_letThen_28 : decode (mC mX5_letThen) 28 = .ok (.iaload, 1) := by decide +kernel
theorem dX5_letThen_29 : decode (mC mX5_letThen) 29 = .ok (.ireturn, 1) := by decide +kernel
theorem dX5_comesTo_0 : decode (mC mX5_comesTo) 0 = .ok (.aload_n 0, 1) := by decide +kernel
theorem dX5_comesTo_1 : decode (mC mX5_comesTo) 1 = .ok (.iconst 0, 1) := by decide +kernel
theorem dX5_comesTo_2 : decode (mC mX5_comesTo) 2 = .ok (.invokevirtual 162, 3) := by decide +kernel
theorem dX5_comesTo_5 : decode (mC mX5_comesTo) 5 = .ok (.iconst 0, 1) := by decide +kernel
theorem dX5_comesTo_6 : decode (mC mX5_comesTo) 6 = .ok (.istore_n 3, 1) := by decide +kernel
theorem dX5_comesTo_7 : decode (mC mX5_comesTo) 7 = .ok (.iload_n 3, 1) := by decide +kernel
theorem dX5_comesTo_8 : decode (mC mX5_comesTo) 8 = .ok (.bipush 60, 2) := by decide +kernel
theorem dX5_comesTo_10 : decode (mC mX5_comesTo) 10 = .ok (.if_icmp .gt 33, 3) := by decide +kernel
theorem dX5_comesTo_13 : decode (mC mX5_comesTo) 13 = .ok (.aload_n 0, 1) := by decide +kernel
theorem dX5_comesTo_14 : decode (mC mX5_comesTo) 14 = .ok (.getfield 13, 3) := by decide +kernel
theorem dX5_comesTo_17 : decode (mC mX5_comesTo) 17 = .ok (.iload_n 1, 1) := by decide +kernel
theorem dX5_comesTo_18 : decode (mC mX5_comesTo) 18 = .ok (.iconst 0, 1) := by decide +kernel
theorem dX5_comesTo_19 : decode (mC mX5_comesTo) 19 = .ok (.invokestatic 51, 3) := by decide +kernel
theorem dX5_comesTo_22 : decode (mC mX5_comesTo) 22 = .ok (.iaload, 1) := by decide +kernel
theorem dX5_comesTo_23 : decode (mC mX5_comesTo) 23 = .ok (.iload_n 2, 1) := by decide +kernel
theorem dX5_comesTo_24 : decode (mC mX5_comesTo) 24 = .ok (.if_icmp .ne 5, 3) := by decide +kernel
theorem dX5_comesTo_27 : decode (mC mX5_comesTo) 27 = .ok (.iload_n 3, 1) := by decide +kernel
theorem dX5_comesTo_28 : decode (mC mX5_comesTo) 28 = .ok (.ireturn, 1) := by decide +kernel
theorem dX5_comesTo_29 : decode (mC mX5_comesTo) 29 = .ok (.aload_n 0, 1) := by decide +kernel
theorem dX5_comesTo_30 : decode (mC mX5_comesTo) 30 = .ok (.aload_n 0, 1) := by decide +kernel
theorem dX5_comesTo_31 : decode (mC mX5_comesTo) 31 = .ok (.getfield 13, 3) := by decide +kernel
theorem dX5_comesTo_34 : decode (mC mX5_comesTo) 34 = .ok (.invokevirtual 87, 3) := by decide +kernel
theorem dX5_comesTo_37 : decode (mC mX5_comesTo) 37 = .ok (.iinc 3 1, 3) := by decide +kernel
theorem dX5_comesTo_40 : decode (mC mX5_comesTo) 40 = .ok (.goto (-33), 3) := by decide +kernel
theorem dX5_comesTo_43 : decode (mC mX5_comesTo) 43 = .ok (.bipush (-9), 2) := by decide +kernel
theorem dX5_comesTo_45 : decode (mC mX5_comesTo) 45 = .ok (.ireturn, 1) := by decide +kernel
theorem dX5_comes_0 : decode (mC mX5_comes) 0 = .ok (.aload_n 0, 1) := by decide +kernel
theorem dX5_comes_1 : decode (mC mX5_comes) 1 = .ok (.iload_n 1, 1) := by decide +kernel
theorem dX5_comes_2 : decode (mC mX5_comes) 2 = .ok (.iload_n 2, 1) := by decide +kernel
theorem dX5_comes_3 : decode (mC mX5_comes) 3 = .ok (.invokevirtual 145, 3) := by decide +kernel
theorem dX5_comes_6 : decode (mC mX5_comes) 6 = .ok (.ifCond .eq 11, 3) := by decide +kernel
theorem dX5_comes_9 : decode (mC mX5_comes) 9 = .ok (.aload_n 0, 1) := by decide +kernel
theorem dX5_comes_10 : decode (mC mX5_comes) 10 = .ok (.iconst (-1), 1) := by decide +kernel
theorem dX5_comes_11 : decode (mC mX5_comes) 11 = .ok (.invokevirtual 39, 3) := by decide +kernel
theorem dX5_comes_14 : decode (mC mX5_comes) 14 = .ok (.goto 9, 3) := by decide +kernel
theorem dX5_comes_17 : decode (mC mX5_comes) 17 = .ok (.aload_n 0, 1) := by decide +kernel
theorem dX5_comes_18 : decode (mC mX5_comes) 18 = .ok (.iload_n 1, 1) := by decide +kernel
theorem dX5_comes_19 : decode (mC mX5_comes) 19 = .ok (.iload_n 2, 1) := by decide +kernel
theorem dX5_comes_20 : decode (mC mX5_comes) 20 = .ok (.invokevirtual 166, 3) := by decide +kernel
theorem dX5_comes_23 : decode (mC mX5_comes) 23 = .ok (.ireturn, 1) := by decide +kernel
theorem dX5_allHome_0 : decode (mC mX5_allHome) 0 = .ok (.aload_n 0, 1) := by decide +kernel
theorem dX5_allHome_1 : decode (mC mX5_allHome) 1 = .ok (.iconst 0, 1) := by decide +kernel
theorem dX5_allHome_2 : decode (mC mX5_allHome) 2 = .ok (.invokevirtual 162, 3) := by decide +kernel
theorem dX5_allHome_5 : decode (mC mX5_allHome) 5 = .ok (.iconst 0, 1) := by decide +kernel
theorem dX5_allHome_6 : decode (mC mX5_allHome) 6 = .ok (.istore_n 1, 1) := by decide +kernel
theorem dX5_allHome_7 : decode (mC mX5_allHome) 7 = .ok (.iload_n 1, 1) := by decide +kernel
theorem dX5_allHome_8 : decode (mC mX5_allHome) 8 = .ok (.bipush 60, 2) := by decide +kernel
theorem dX5_allHome_10 : decode (mC mX5_allHome) 10 = .ok (.if_icmp .gt 38, 3) := by decide +kernel
theorem dX5_allHome_13 : decode (mC mX5_allHome) 13 = .ok (.aload_n 0, 1) := by decide +kernel
theorem dX5_allHome_14 : decode (mC mX5_allHome) 14 = .ok (.getfield 13, 3) := by decide +kernel
theorem dX5_allHome_17 : decode (mC mX5_allHome) 17 = .ok (.invokestatic 155, 3) := by decide +kernel
theorem dX5_allHome_20 : decode (mC mX5_allHome) 20 = .ok (.invokestatic 159, 3) := by decide +kernel
theorem dX5_allHome_23 : decode (mC mX5_allHome) 23 = .ok (.aload_n 0, 1) := by decide +kernel
theorem dX5_allHome_24 : decode (mC mX5_allHome) 24 = .ok (.getfield 13, 3) := by decide +kernel
theorem dX5_allHome_27 : decode (mC mX5_allHome) 27 = .ok (.iconst 1, 1) := by decide +kernel
theorem dX5_allHome_28 : decode (mC mX5_allHome) 28 = .ok (.iaload, 1) := by decide +kernel
theorem dX5_allHome_29 : decode (mC mX5_allHome) 29 = .ok (.if_icmp .ne 5, 3) := by decide +kernel
theorem dX5_allHome_32 : decode (mC mX5_allHome) 32 = .ok (.iload_n 1, 1) := by decide +kernel
theorem dX5_allHome_33 : decode (mC mX5_allHome) 33 = .ok (.ireturn, 1) := by decide +kernel
theorem dX5_allHome_34 : decode (mC mX5_allHome) 34 = .ok (.aload_n 0, 1) := by decide +kernel
theorem dX5_allHome_35 : decode (mC mX5_allHome) 35 = .ok (.aload_n 0, 1) := by decide +kernel
theorem dX5_allHome_36 : decode (mC mX5_allHome) 36 = .ok (.getfield 13, 3) := by decide +kernel
theorem dX5_allHome_39 : decode (mC mX5_allHome) 39 = .ok (.invokevirtual 87, 3) := by decide +kernel
theorem dX5_allHome_42 : decode (mC mX5_allHome) 42 = .ok (.iinc 1 1, 3) := by decide +kernel
theorem dX5_allHome_45 : decode (mC mX5_allHome) 45 = .ok (.goto (-38), 3) := by decide +kernel
theorem dX5_allHome_48 : decode (mC mX5_allHome) 48 = .ok (.bipush (-9), 2) := by decide +kernel
theorem dX5_allHome_50 : decode (mC mX5_allHome) 50 = .ok (.ireturn, 1) := by decide +kernel
theorem dX5_home_0 : decode (mC mX5_home) 0 = .ok (.iload_n 1, 1) := by decide +kernel
theorem dX5_home_1 : decode (mC mX5_home) 1 = .ok (.iconst (-1), 1) := by decide +kernel
theorem dX5_home_2 : decode (mC mX5_home) 2 = .ok (.if_icmp .ne 10, 3) := by decide +kernel
theorem dX5_home_5 : decode (mC mX5_home) 5 = .ok (.aload_n 0, 1) := by decide +kernel
theorem dX5_home_6 : decode (mC mX5_home) 6 = .ok (.invokevirtual 169, 3) := by decide +kernel
theorem dX5_home_9 : decode (mC mX5_home) 9 = .ok (.goto 34, 3) := by decide +kernel
theorem dX5_home_12 : decode (mC mX5_home) 12 = .ok (.aload_n 0, 1) := by decide +kernel
theorem dX5_home_13 : decode (mC mX5_home) 13 = .ok (.iload_n 1, 1) := by decide +kernel
theorem dX5_home_14 : decode (mC mX5_home) 14 = .ok (.invokevirtual 122, 3) := by decide +kernel
theorem dX5_home_17 : decode (mC mX5_home) 17 = .ok (.ifCond .eq 21, 3) := by decide +kernel
theorem dX5_home_20 : decode (mC mX5_home) 20 = .ok (.aload_n 0, 1) := by decide +kernel
theorem dX5_home_21 : decode (mC mX5_home) 21 = .ok (.iload_n 1, 1) := by decide +kernel
theorem dX5_home_22 : decode (mC mX5_home) 22 = .ok (.aload_n 0, 1) := by decide +kernel
theorem dX5_home_23 : decode (mC mX5_home) 23 = .ok (.getfield 9, 3) := by decide +kernel
theorem dX5_home_26 : decode (mC mX5_home) 26 = .ok (.iload_n 1, 1) := by decide +kernel
theorem dX5_home_27 : decode (mC mX5_home) 27 = .ok (.iconst 1, 1) := by decide +kernel
theorem dX5_home_28 : decode (mC mX5_home) 28 = .ok (.invokestatic 51, 3) := by decide +kernel
theorem dX5_home_31 : decode (mC mX5_home) 31 = .ok (.iaload, 1) := by decide +kernel
theorem dX5_home_32 : decode (mC mX5_home) 32 = .ok (.invokevirtual 166, 3) := by decide +kernel
theorem dX5_home_35 : decode (mC mX5_home) 35 = .ok (.goto 8, 3) := by decide +kernel
theorem dX5_home_38 : decode (mC mX5_home) 38 = .ok (.aload_n 0, 1) := by decide +kernel
theorem dX5_home_39 : decode (mC mX5_home) 39 = .ok (.iconst (-1), 1) := by decide +kernel
theorem dX5_home_40 : decode (mC mX5_home) 40 = .ok (.invokevirtual 39, 3) := by decide +kernel
theorem dX5_home_43 : decode (mC mX5_home) 43 = .ok (.ireturn, 1) := by decide +kernel
theorem dX5_shutIn_0 : decode (mC mX5_shutIn) 0 = .ok (.aload_n 0, 1) := by decide +kernel
theorem dX5_shutIn_1 : decode (mC mX5_shutIn) 1 = .ok (.aload_n 0, 1) := by decide +kernel
theorem dX5_shutIn_2 : decode (mC mX5_shutIn) 2 = .ok (.getfield 9, 3) := by decide +kernel
theorem dX5_shutIn_5 : decode (mC mX5_shutIn) 5 = .ok (.invokevirtual 83, 3) := by decide +kernel
theorem dX5_shutIn_8 : decode (mC mX5_shutIn) 8 = .ok (.iconst 0, 1) := by decide +kernel
theorem dX5_shutIn_9 : decode (mC mX5_shutIn) 9 = .ok (.istore_n 1, 1) := by decide +kernel
theorem dX5_shutIn_10 : decode (mC mX5_shutIn) 10 = .ok (.iconst 0, 1) := by decide +kernel
theorem dX5_shutIn_11 : decode (mC mX5_shutIn) 11 = .ok (.istore_n 2, 1) := by decide +kernel
theorem dX5_shutIn_12 : decode (mC mX5_shutIn) 12 = .ok (.iload_n 2, 1) := by decide +kernel
theorem dX5_shutIn_13 : decode (mC mX5_shutIn) 13 = .ok (.aload_n 0, 1) := by decide +kernel
theorem dX5_shutIn_14 : decode (mC mX5_shutIn) 14 = .ok (.getfield 9, 3) := by decide +kernel
theorem dX5_shutIn_17 : decode (mC mX5_shutIn) 17 = .ok (.iconst 1, 1) := by decide +kernel
theorem dX5_shutIn_18 : decode (mC mX5_shutIn) 18 = .ok (.iaload, 1) := by decide +kernel
theorem dX5_shutIn_19 : decode (mC mX5_shutIn) 19 = .ok (.if_icmp .ge 48, 3) := by decide +kernel
theorem dX5_shutIn_22 : decode (mC mX5_shutIn) 22 = .ok (.iload_n 1, 1) := by decide +kernel
theorem dX5_shutIn_23 : decode (mC mX5_shutIn) 23 = .ok (.aload_n 0, 1) := by decide +kernel
theorem dX5_shutIn_24 : decode (mC mX5_shutIn) 24 = .ok (.aload_n 0, 1) := by decide +kernel
theorem dX5_shutIn_25 : decode (mC mX5_shutIn) 25 = .ok (.getfield 9, 3) := by decide +kernel
theorem dX5_shutIn_28 : decode (mC mX5_shutIn) 28 = .ok (.iload_n 2, 1) := by decide +kernel
theorem dX5_shutIn_29 : decode (mC mX5_shutIn) 29 = .ok (.iconst 0, 1) := by decide +kernel
theorem dX5_shutIn_30 : decode (mC mX5_shutIn) 30 = .ok (.invokestatic 51, 3) := by decide +kernel
theorem dX5_shutIn_33 : decode (mC mX5_shutIn) 33 = .ok (.iaload, 1) := by decide +kernel
theorem dX5_shutIn_34 : decode (mC mX5_shutIn) 34 = .ok (.aload_n 0, 1) := by decide +kernel
theorem dX5_shutIn_35 : decode (mC mX5_shutIn) 35 = .ok (.getfield 9, 3) := by decide +kernel
theorem dX5_shutIn_38 : decode (mC mX5_shutIn) 38 = .ok (.iload_n 2, 1) := by decide +kernel
theorem dX5_shutIn_39 : decode (mC mX5_shutIn) 39 = .ok (.iconst 1, 1) := by decide +kernel
theorem dX5_shutIn_40 : decode (mC mX5_shutIn) 40 = .ok (.invokestatic 51, 3) := by decide +kernel
theorem dX5_shutIn_43 : decode (mC mX5_shutIn) 43 = .ok (.iaload, 1) := by decide +kernel
theorem dX5_shutIn_44 : decode (mC mX5_shutIn) 44 = .ok (.invokevirtual 69, 3) := by decide +kernel
theorem dX5_shutIn_47 : decode (mC mX5_shutIn) 47 = .ok (.bipush 99, 2) := by decide +kernel
theorem dX5_shutIn_49 : decode (mC mX5_shutIn) 49 = .ok (.if_icmp .lt 9, 3) := by decide +kernel
theorem dX5_shutIn_52 : decode (mC mX5_shutIn) 52 = .ok (.iconst 1, 1) := by decide +kernel
theorem dX5_shutIn_53 : decode (mC mX5_shutIn) 53 = .ok (.iload_n 2, 1) := by decide +kernel
theorem dX5_shutIn_54 : decode (mC mX5_shutIn) 54 = .ok (.ishl, 1) := by decide +kernel
theorem dX5_shutIn_55 : decode (mC mX5_shutIn) 55 = .ok (.goto 4, 3) := by decide +kernel
theorem dX5_shutIn_58 : decode (mC mX5_shutIn) 58 = .ok (.iconst 0, 1) := by decide +kernel
theorem dX5_shutIn_59 : decode (mC mX5_shutIn) 59 = .ok (.ior, 1) := by decide +kernel
theorem dX5_shutIn_60 : decode (mC mX5_shutIn) 60 = .ok (.istore_n 1, 1) := by decide +kernel
theorem dX5_shutIn_61 : decode (mC mX5_shutIn) 61 = .ok (.iinc 2 1, 3) := by decide +kernel
theorem dX5_shutIn_64 : decode (mC mX5_shutIn) 64 = .ok (.goto (-52), 3) := by decide +kernel
theorem dX5_shutIn_67 : decode (mC mX5_shutIn) 67 = .ok (.iload_n 1, 1) := by decide +kernel
theorem dX5_shutIn_68 : decode (mC mX5_shutIn) 68 = .ok (.ireturn, 1) := by decide +kernel
theorem dX5_isStill_0 : decode (mC mX5_isStill) 0 = .ok (.aload_n 0, 1) := by decide +kernel
theorem dX5_isStill_1 : decode (mC mX5_isStill) 1 = .ok (.iload_n 1, 1) := by decide +kernel
theorem dX5_isStill_2 : decode (mC mX5_isStill) 2 = .ok (.invokevirtual 162, 3) := by decide +kernel
theorem dX5_isStill_5 : decode (mC mX5_isStill) 5 = .ok (.iconst 1, 1) := by decide +kernel
theorem dX5_isStill_6 : decode (mC mX5_isStill) 6 = .ok (.istore_n 2, 1) := by decide +kernel
theorem dX5_isStill_7 : decode (mC mX5_isStill) 7 = .ok (.iconst 0, 1) := by decide +kernel
theorem dX5_isStill_8 : decode (mC mX5_isStill) 8 = .ok (.istore_n 3, 1) := by decide +kernel
theorem dX5_isStill_9 : decode (mC mX5_isStill) 9 = .ok (.iload_n 3, 1) := by decide +kernel
theorem dX5_isStill_10 : decode (mC mX5_isStill) 10 = .ok (.bipush 12, 2) := by decide +kernel
theorem dX5_isStill_12 : decode (mC mX5_isStill) 12 = .ok (.if_icmp .ge 46, 3) := by decide +kernel
theorem dX5_isStill_15 : decode (mC mX5_isStill) 15 = .ok (.aload_n 0, 1) := by decide +kernel
theorem dX5_isStill_16 : decode (mC mX5_isStill) 16 = .ok (.getfield 13, 3) := by decide +kernel
theorem dX5_isStill_19 : decode (mC mX5_isStill) 19 = .ok (.invokestatic 172, 3) := by decide +kernel
theorem dX5_isStill_22 : decode (mC mX5_isStill) 22 = .ok (.istore 4, 2) := by decide +kernel
theorem dX5_isStill_24 : decode (mC mX5_isStill) 24 = .ok (.aload_n 0, 1) := by decide +kernel
theorem dX5_isStill_25 : decode (mC mX5_isStill) 25 = .ok (.aload_n 0, 1) := by decide +kernel
theorem dX5_isStill_26 : decode (mC mX5_isStill) 26 = .ok (.getfield 13, 3) := by decide +kernel
theorem dX5_isStill_29 : decode (mC mX5_isStill) 29 = .ok (.invokevirtual 87, 3) := by decide +kernel
theorem dX5_isStill_32 : decode (mC mX5_isStill) 32 = .ok (.iload_n 2, 1) := by decide +kernel
theorem dX5_isStill_33 : decode (mC mX5_isStill) 33 = .ok (.aload_n 0, 1) := by decide +kernel
theorem dX5_isStill_34 : decode (mC mX5_isStill) 34 = .ok (.getfield 13, 3) := by decide +kernel
theorem dX5_isStill_37 : decode (mC mX5_isStill) 37 = .ok (.invokestatic 172, 3) := by decide +kernel
theorem dX5_isStill_40 : decode (mC mX5_isStill) 40 = .ok (.iload 4, 2) := by decide +kernel
theorem dX5_isStill_42 : decode (mC mX5_isStill) 42 = .ok (.if_icmp .ne 7, 3) := by decide +kernel
theorem dX5_isStill_45 : decode (mC mX5_isStill) 45 = .ok (.iconst 1, 1) := by decide +kernel
theorem dX5_isStill_46 : decode (mC mX5_isStill) 46 = .ok (.goto 4, 3) := by decide +kernel
theorem dX5_isStill_49 : decode (mC mX5_isStill) 49 = .ok (.iconst 0, 1) := by decide +kernel
theorem dX5_isStill_50 : decode (mC mX5_isStill) 50 = .ok (.iand, 1) := by decide +kernel
theorem dX5_isStill_51 : decode (mC mX5_isStill) 51 = .ok (.istore_n 2, 1) := by decide +kernel
theorem dX5_isStill_52 : decode (mC mX5_isStill) 52 = .ok (.iinc 3 1, 3) := by decide +kernel
theorem dX5_isStill_55 : decode (mC mX5_isStill) 55 = .ok (.goto (-46), 3) := by decide +kernel
theorem dX5_isStill_58 : decode (mC mX5_isStill) 58 = .ok (.iload_n 2, 1) := by decide +kernel
theorem dX5_isStill_59 : decode (mC mX5_isStill) 59 = .ok (.ireturn, 1) := by decide +kernel
theorem dX5_whereIn_0 : decode (mC mX5_whereIn) 0 = .ok (.iconst 0, 1) := by decide +kernel
theorem dX5_whereIn_1 : decode (mC mX5_whereIn) 1 = .ok (.istore_n 1, 1) := by decide +kernel
theorem dX5_whereIn_2 : decode (mC mX5_whereIn) 2 = .ok (.iconst 0, 1) := by decide +kernel
theorem dX5_whereIn_3 : decode (mC mX5_whereIn) 3 = .ok (.istore_n 2, 1) := by decide +kernel
theorem dX5_whereIn_4 : decode (mC mX5_whereIn) 4 = .ok (.iload_n 2, 1) := by decide +kernel
theorem dX5_whereIn_5 : decode (mC mX5_whereIn) 5 = .ok (.aload_n 0, 1) := by decide +kernel
theorem dX5_whereIn_6 : decode (mC mX5_whereIn) 6 = .ok (.iconst 1, 1) := by decide +kernel
theorem dX5_whereIn_7 : decode (mC mX5_whereIn) 7 = .ok (.iaload, 1) := by decide +kernel
theorem dX5_whereIn_8 : decode (mC mX5_whereIn) 8 = .ok (.if_icmp .ge 22, 3) := by decide +kernel
theorem dX5_whereIn_11 : decode (mC mX5_whereIn) 11 = .ok (.bipush 8, 2) := by decide +kernel
theorem dX5_whereIn_13 : decode (mC mX5_whereIn) 13 = .ok (.iload_n 1, 1) := by decide +kernel
theorem dX5_whereIn_14 : decode (mC mX5_whereIn) 14 = .ok (.imul, 1) := by decide +kernel
theorem dX5_whereIn_15 : decode (mC mX5_whereIn) 15 = .ok (.aload_n 0, 1) := by decide +kernel
theorem dX5_whereIn_16 : decode (mC mX5_whereIn) 16 = .ok (.iload_n 2, 1) := by decide +kernel
theorem dX5_whereIn_17 : decode (mC mX5_whereIn) 17 = .ok (.iconst 0, 1) := by decide +kernel
theorem dX5_whereIn_18 : decode (mC mX5_whereIn) 18 = .ok (.invokestatic 51, 3) := by decide +kernel
theorem dX5_whereIn_21 : decode (mC mX5_whereIn) 21 = .ok (.iaload, 1) := by decide +kernel
theorem dX5_whereIn_22 : decode (mC mX5_whereIn) 22 = .ok (.iadd, 1) := by decide +kernel
theorem dX5_whereIn_23 : decode (mC mX5_whereIn) 23 = .ok (.istore_n 1, 1) := by decide +kernel
theorem dX5_whereIn_24 : decode (mC mX5_whereIn) 24 = .ok (.iinc 2 1, 3) := by decide +kernel
theorem dX5_whereIn_27 : decode (mC mX5_whereIn) 27 = .ok (.goto (-23), 3) := by decide +kernel
theorem dX5_whereIn_30 : decode (mC mX5_whereIn) 30 = .ok (.iload_n 1, 1) := by decide +kernel
theorem dX5_whereIn_31 : decode (mC mX5_whereIn) 31 = .ok (.ireturn, 1) := by decide +kernel
theorem dX5_stuck_0 : decode (mC mX5_stuck) 0 = .ok (.iconst 0, 1) := by decide +kernel
theorem dX5_stuck_1 : decode (mC mX5_stuck) 1 = .ok (.istore_n 1, 1) := by decide +kernel
theorem dX5_stuck_2 : decode (mC mX5_stuck) 2 = .ok (.iload_n 1, 1) := by decide +kernel
theorem dX5_stuck_3 : decode (mC mX5_stuck) 3 = .ok (.bipush 60, 2) := by decide +kernel
theorem dX5_stuck_5 : decode (mC mX5_stuck) 5 = .ok (.if_icmp .gt 19, 3) := by decide +kernel
theorem dX5_stuck_8 : decode (mC mX5_stuck) 8 = .ok (.aload_n 0, 1) := by decide +kernel
theorem dX5_stuck_9 : decode (mC mX5_stuck) 9 = .ok (.iload_n 1, 1) := by decide +kernel
theorem dX5_stuck_10 : decode (mC mX5_stuck) 10 = .ok (.invokevirtual 175, 3) := by decide +kernel
theorem dX5_stuck_13 : decode (mC mX5_stuck) 13 = .ok (.ifCond .eq 5, 3) := by decide +kernel
theorem dX5_stuck_16 : decode (mC mX5_stuck) 16 = .ok (.iload_n 1, 1) := by decide +kernel
theorem dX5_stuck_17 : decode (mC mX5_stuck) 17 = .ok (.ireturn, 1) := by decide +kernel
theorem dX5_stuck_18 : decode (mC mX5_stuck) 18 = .ok (.iinc 1 1, 3) := by decide +kernel
theorem dX5_stuck_21 : decode (mC mX5_stuck) 21 = .ok (.goto (-19), 3) := by decide +kernel
theorem dX5_stuck_24 : decode (mC mX5_stuck) 24 = .ok (.bipush (-9), 2) := by decide +kernel
theorem dX5_stuck_26 : decode (mC mX5_stuck) 26 = .ok (.ireturn, 1) := by decide +kernel
theorem dX5_way_0 : decode (mC mX5_way) 0 = .ok (.iload_n 1, 1) := by decide +kernel
theorem dX5_way_1 : decode (mC mX5_way) 1 = .ok (.invokestatic 111, 3) := by decide +kernel
theorem dX5_way_4 : decode (mC mX5_way) 4 = .ok (.ifCond .eq 10, 3) := by decide +kernel
theorem dX5_way_7 : decode (mC mX5_way) 7 = .ok (.iload_n 2, 1) := by decide +kernel
theorem dX5_way_8 : decode (mC mX5_way) 8 = .ok (.invokestatic 111, 3) := by decide +kernel
theorem dX5_way_11 : decode (mC mX5_way) 11 = .ok (.ifCond .ne 9, 3) := by decide +kernel
theorem dX5_way_14 : decode (mC mX5_way) 14 = .ok (.aload_n 0, 1) := by decide +kernel
theorem dX5_way_15 : decode (mC mX5_way) 15 = .ok (.iconst (-1), 1) := by decide +kernel
theorem dX5_way_16 : decode (mC mX5_way) 16 = .ok (.invokevirtual 39, 3) := by decide +kernel
theorem dX5_way_19 : decode (mC mX5_way) 19 = .ok (.ireturn, 1) := by decide +kernel
theorem dX5_way_20 : decode (mC mX5_way) 20 = .ok (.iload_n 3, 1) := by decide +kernel
theorem dX5_way_21 : decode (mC mX5_way) 21 = .ok (.iconst 0, 1) := by decide +kernel
theorem dX5_way_22 : decode (mC mX5_way) 22 = .ok (.iconst 1, 1) := by decide +kernel
theorem dX5_way_23 : decode (mC mX5_way) 23 = .ok (.invokestatic 43, 3) := by decide +kernel
theorem dX5_way_26 : decode (mC mX5_way) 26 = .ok (.ifCond .ne 10, 3) := by decide +kernel
theorem dX5_way_29 : decode (mC mX5_way) 29 = .ok (.aload_n 0, 1) := by decide +kernel
theorem dX5_way_30 : decode (mC mX5_way) 30 = .ok (.bipush (-2), 2) := by decide +kernel
theorem dX5_way_32 : decode (mC mX5_way) 32 = .ok (.invokevirtual 39, 3) := by decide +kernel
theorem dX5_way_35 : decode (mC mX5_way) 35 = .ok (.ireturn, 1) := by decide +kernel
theorem dX5_way_36 : decode (mC mX5_way) 36 = .ok (.aload_n 0, 1) := by decide +kernel
theorem dX5_way_37 : decode (mC mX5_way) 37 = .ok (.aload_n 0, 1) := by decide +kernel
theorem dX5_way_38 : decode (mC mX5_way) 38 = .ok (.getfield 9, 3) := by decide +kernel
theorem dX5_way_41 : decode (mC mX5_way) 41 = .ok (.invokevirtual 83, 3) := by decide +kernel
theorem dX5_way_44 : decode (mC mX5_way) 44 = .ok (.aload_n 0, 1) := by decide +kernel
theorem dX5_way_45 : decode (mC mX5_way) 45 = .ok (.iload_n 1, 1) := by decide +kernel
theorem dX5_way_46 : decode (mC mX5_way) 46 = .ok (.iload_n 2, 1) := by decide +kernel
theorem dX5_way_47 : decode (mC mX5_way) 47 = .ok (.invokevirtual 69, 3) := by decide +kernel
theorem dX5_way_50 : decode (mC mX5_way) 50 = .ok (.bipush 99, 2) := by decide +kernel
theorem dX5_way_52 : decode (mC mX5_way) 52 = .ok (.if_icmp .lt 6, 3) := by decide +kernel
theorem dX5_way_55 : decode (mC mX5_way) 55 = .ok (.bipush (-9), 2) := by decide +kernel
theorem dX5_way_57 : decode (mC mX5_way) 57 = .ok (.ireturn, 1) := by decide +kernel
theorem dX5_way_58 : decode (mC mX5_way) 58 = .ok (.iload_n 3, 1) := by decide +kernel
theorem dX5_way_59 : decode (mC mX5_way) 59 = .ok (.ifCond .ne 10, 3) := by decide +kernel
theorem dX5_way_62 : decode (mC mX5_way) 62 = .ok (.aload_n 0, 1) := by decide +kernel
theorem dX5_way_63 : decode (mC mX5_way) 63 = .ok (.iload_n 1, 1) := by decide +kernel
theorem dX5_way_64 : decode (mC mX5_way) 64 = .ok (.iload_n 2, 1) := by decide +kernel
theorem dX5_way_65 : decode (mC mX5_way) 65 = .ok (.invokevirtual 69, 3) := by decide +kernel
theorem dX5_way_68 : decode (mC mX5_way) 68 = .ok (.ireturn, 1) := by decide +kernel
theorem dX5_way_69 : decode (mC mX5_way) 69 = .ok (.iconst 0, 1) := by decide +kernel
theorem dX5_way_70 : decode (mC mX5_way) 70 = .ok (.istore 4, 2) := by decide +kernel
theorem dX5_way_72 : decode (mC mX5_way) 72 = .ok (.iload 4, 2) := by decide +kernel
theorem dX5_way_74 : decode (mC mX5_way) 74 = .ok (.aload_n 0, 1) := by decide +kernel
theorem dX5_way_75 : decode (mC mX5_way) 75 = .ok (.getfield 9, 3) := by decide +kernel
theorem dX5_way_78 : decode (mC mX5_way) 78 = .ok (.iconst 0, 1) := by decide +kernel
theorem dX5_way_79 : decode (mC mX5_way) 79 = .ok (.iaload, 1) := by decide +kernel
theorem dX5_way_80 : decode (mC mX5_way) 80 = .ok (.if_icmp .ge 27, 3) := by decide +kernel
theorem dX5_way_83 : decode (mC mX5_way) 83 = .ok (.aload_n 0, 1) := by decide +kernel
theorem dX5_way_84 : decode (mC mX5_way) 84 = .ok (.aload_n 0, 1) := by decide +kernel
theorem dX5_way_85 : decode (mC mX5_way) 85 = .ok (.getfield 9, 3) := by decide +kernel
theorem dX5_way_88 : decode (mC mX5_way) 88 = .ok (.iload 4, 2) := by decide +kernel
theorem dX5_way_90 : decode (mC mX5_way) 90 = .ok (.iload_n 1, 1) := by decide +kernel
theorem dX5_way_91 : decode (mC mX5_way) 91 = .ok (.iload_n 2, 1) := by decide +kernel
theorem dX5_way_92 : decode (mC mX5_way) 92 = .ok (.invokevirtual 72, 3) := by decide +kernel
theorem dX5_way_95 : decode (mC mX5_way) 95 = .ok (.ifCond .eq 6, 3) := by decide +kernel
theorem dX5_way_98 : decode (mC mX5_way) 98 = .ok (.iload 4, 2) := by decide +kernel
theorem dX5_way_100 : decode (mC mX5_way) 100 = .ok (.ireturn, 1) := by decide +kernel
theorem dX5_way_101 : decode (mC mX5_way) 101 = .ok (.iinc 4 1, 3) := by decide +kernel
theorem dX5_way_104 : decode (mC mX5_way) 104 = .ok (.goto (-32), 3) := by decide +kernel
theorem dX5_way_107 : decode (mC mX5_way) 107 = .ok (.bipush (-9), 2) := by decide +kernel
theorem dX5_way_109 : decode (mC mX5_way) 109 = .ok (.ireturn, 1) := by decide +kernel
theorem dX5_round_0 : decode (mC mX5_round) 0 = .ok (.iload_n 1, 1) := by decide +kernel
theorem dX5_round_1 : decode (mC mX5_round) 1 = .ok (.invokestatic 111, 3) := by decide +kernel
theorem dX5_round_4 : decode (mC mX5_round) 4 = .ok (.ifCond .ne 9, 3) := by decide +kernel
theorem dX5_round_7 : decode (mC mX5_round) 7 = .ok (.aload_n 0, 1) := by decide +kernel
theorem dX5_round_8 : decode (mC mX5_round) 8 = .ok (.iconst (-1), 1) := by decide +kernel
theorem dX5_round_9 : decode (mC mX5_round) 9 = .ok (.invokevirtual 39, 3) := by decide +kernel
theorem dX5_round_12 : decode (mC mX5_round) 12 = .ok (.ireturn, 1) := by decide +kernel
theorem dX5_round_13 : decode (mC mX5_round) 13 = .ok (.aload_n 0, 1) := by decide +kernel
theorem dX5_round_14 : decode (mC mX5_round) 14 = .ok (.aload_n 0, 1) := by decide +kernel
theorem dX5_round_15 : decode (mC mX5_round) 15 = .ok (.getfield 9, 3) := by decide +kernel
theorem dX5_round_18 : decode (mC mX5_round) 18 = .ok (.invokevirtual 83, 3) := by decide +kernel
theorem dX5_round_21 : decode (mC mX5_round) 21 = .ok (.bipush 99, 2) := by decide +kernel
theorem dX5_round_23 : decode (mC mX5_round) 23 = .ok (.istore_n 2, 1) := by decide +kernel
theorem dX5_round_24 : decode (mC mX5_round) 24 = .ok (.iconst 0, 1) := by decide +kernel
theorem dX5_round_25 : decode (mC mX5_round) 25 = .ok (.istore_n 3, 1) := by decide +kernel
theorem dX5_round_26 : decode (mC mX5_round) 26 = .ok (.iload_n 3, 1) := by decide +kernel
theorem dX5_round_27 : decode (mC mX5_round) 27 = .ok (.aload_n 0, 1) := by decide +kernel
theorem dX5_round_28 : decode (mC mX5_round) 28 = .ok (.getfield 9, 3) := by decide +kernel
theorem dX5_round_31 : decode (mC mX5_round) 31 = .ok (.iconst 0, 1) := by decide +kernel
theorem dX5_round_32 : decode (mC mX5_round) 32 = .ok (.iaload, 1) := by decide +kernel
theorem dX5_round_33 : decode (mC mX5_round) 33 = .ok (.if_icmp .ge 45, 3) := by decide +kernel
theorem dX5_round_36 : decode (mC mX5_round) 36 = .ok (.aload_n 0, 1) := by decide +kernel
theorem dX5_round_37 : decode (mC mX5_round) 37 = .ok (.getfield 9, 3) := by decide +kernel
theorem dX5_round_40 : decode (mC mX5_round) 40 = .ok (.iload_n 3, 1) := by decide +kernel
theorem dX5_round_41 : decode (mC mX5_round) 41 = .ok (.iconst 2, 1) := by decide +kernel
theorem dX5_round_42 : decode (mC mX5_round) 42 = .ok (.invokestatic 55, 3) := by decide +kernel
theorem dX5_round_45 : decode (mC mX5_round) 45 = .ok (.iaload, 1) := by decide +kernel
theorem dX5_round_46 : decode (mC mX5_round) 46 = .ok (.iload_n 1, 1) := by decide +kernel
theorem dX5_round_47 : decode (mC mX5_round) 47 = .ok (.if_icmp .ne 25, 3) := by decide +kernel
theorem dX5_round_50 : decode (mC mX5_round) 50 = .ok (.iload_n 2, 1) := by decide +kernel
theorem dX5_round_51 : decode (mC mX5_round) 51 = .ok (.iconst 1, 1) := by decide +kernel
theorem dX5_round_52 : decode (mC mX5_round) 52 = .ok (.aload_n 0, 1) := by decide +kernel
theorem dX5_round_53 : decode (mC mX5_round) 53 = .ok (.aload_n 0, 1) := by decide +kernel
theorem dX5_round_54 : decode (mC mX5_round) 54 = .ok (.getfield 9, 3) := by decide +kernel
theorem dX5_round_57 : decode (mC mX5_round) 57 = .ok (.iload_n 3, 1) := by decide +kernel
theorem dX5_round_58 : decode (mC mX5_round) 58 = .ok (.iconst 3, 1) := by decide +kernel
theorem dX5_round_59 : decode (mC mX5_round) 59 = .ok (.invokestatic 55, 3) := by decide +kernel
theorem dX5_round_62 : decode (mC mX5_round) 62 = .ok (.iaload, 1) := by decide +kernel
theorem dX5_round_63 : decode (mC mX5_round) 63 = .ok (.iload_n 1, 1) := by decide +kernel
theorem dX5_round_64 : decode (mC mX5_round) 64 = .ok (.invokevirtual 69, 3) := by decide +kernel
theorem dX5_round_67 : decode (mC mX5_round) 67 = .ok (.iadd, 1) := by decide +kernel
theorem dX5_round_68 : decode (mC mX5_round) 68 = .ok (.invokestatic 66, 3) := by decide +kernel
theorem dX5_round_71 : decode (mC mX5_round) 71 = .ok (.istore_n 2, 1) := by decide +kernel
theorem dX5_round_72 : decode (mC mX5_round) 72 = .ok (.iinc 3 1, 3) := by decide +kernel
theorem dX5_round_75 : decode (mC mX5_round) 75 = .ok (.goto (-49), 3) := by decide +kernel
theorem dX5_round_78 : decode (mC mX5_round) 78 = .ok (.iload_n 2, 1) := by decide +kernel
theorem dX5_round_79 : decode (mC mX5_round) 79 = .ok (.bipush 99, 2) := by decide +kernel
theorem dX5_round_81 : decode (mC mX5_round) 81 = .ok (.if_icmp .lt 8, 3) := by decide +kernel
theorem dX5_round_84 : decode (mC mX5_round) 84 = .ok (.bipush (-9), 2) := by decide +kernel
theorem dX5_round_86 : decode (mC mX5_round) 86 = .ok (.goto 4, 3) := by decide +kernel
theorem dX5_round_89 : decode (mC mX5_round) 89 = .ok (.iload_n 2, 1) := by decide +kernel
theorem dX5_round_90 : decode (mC mX5_round) 90 = .ok (.ireturn, 1) := by decide +kernel
theorem dX5_reach_0 : decode (mC mX5_reach) 0 = .ok (.iload_n 1, 1) := by decide +kernel
theorem dX5_reach_1 : decode (mC mX5_reach) 1 = .ok (.invokestatic 111, 3) := by decide +kernel
theorem dX5_reach_4 : decode (mC mX5_reach) 4 = .ok (.ifCond .ne 9, 3) := by decide +kernel
theorem dX5_reach_7 : decode (mC mX5_reach) 7 = .ok (.aload_n 0, 1) := by decide +kernel
theorem dX5_reach_8 : decode (mC mX5_reach) 8 = .ok (.iconst (-1), 1) := by decide +kernel
theorem dX5_reach_9 : decode (mC mX5_reach) 9 = .ok (.invokevirtual 39, 3) := by decide +kernel
theorem dX5_reach_12 : decode (mC mX5_reach) 12 = .ok (.ireturn, 1) := by decide +kernel
theorem dX5_reach_13 : decode (mC mX5_reach) 13 = .ok (.aload_n 0, 1) := by decide +kernel
theorem dX5_reach_14 : decode (mC mX5_reach) 14 = .ok (.aload_n 0, 1) := by decide +kernel
theorem dX5_reach_15 : decode (mC mX5_reach) 15 = .ok (.getfield 9, 3) := by decide +kernel
theorem dX5_reach_18 : decode (mC mX5_reach) 18 = .ok (.invokevirtual 83, 3) := by decide +kernel
theorem dX5_reach_21 : decode (mC mX5_reach) 21 = .ok (.iconst 0, 1) := by decide +kernel
theorem dX5_reach_22 : decode (mC mX5_reach) 22 = .ok (.istore_n 2, 1) := by decide +kernel
theorem dX5_reach_23 : decode (mC mX5_reach) 23 = .ok (.iconst 0, 1) := by decide +kernel
theorem dX5_reach_24 : decode (mC mX5_reach) 24 = .ok (.istore_n 3, 1) := by decide +kernel
theorem dX5_reach_25 : decode (mC mX5_reach) 25 = .ok (.iload_n 3, 1) := by decide +kernel
theorem dX5_reach_26 : decode (mC mX5_reach) 26 = .ok (.bipush 8, 2) := by decide +kernel
theorem dX5_reach_28 : decode (mC mX5_reach) 28 = .ok (.if_icmp .ge 30, 3) := by decide +kernel
theorem dX5_reach_31 : decode (mC mX5_reach) 31 = .ok (.iload_n 2, 1) := by decide +kernel
theorem dX5_reach_32 : decode (mC mX5_reach) 32 = .ok (.aload_n 0, 1) := by decide +kernel
theorem dX5_reach_33 : decode (mC mX5_reach) 33 = .ok (.iload_n 1, 1) := by decide +kernel
theorem dX5_reach_34 : decode (mC mX5_reach) 34 = .ok (.iload_n 3, 1) := by decide +kernel
theorem dX5_reach_35 : decode (mC mX5_reach) 35 = .ok (.invokevirtual 69, 3) := by decide +kernel
theorem dX5_reach_38 : decode (mC mX5_reach) 38 = .ok (.bipush 99, 2) := by decide +kernel
theorem dX5_reach_40 : decode (mC mX5_reach) 40 = .ok (.if_icmp .ge 9, 3) := by decide +kernel
theorem dX5_reach_43 : decode (mC mX5_reach) 43 = .ok (.iconst 1, 1) := by decide +kernel
theorem dX5_reach_44 : decode (mC mX5_reach) 44 = .ok (.iload_n 3, 1) := by decide +kernel
theorem dX5_reach_45 : decode (mC mX5_reach) 45 = .ok (.ishl, 1) := by decide +kernel
theorem dX5_reach_46 : decode (mC mX5_reach) 46 = .ok (.goto 4, 3) := by decide +kernel
theorem dX5_reach_49 : decode (mC mX5_reach) 49 = .ok (.iconst 0, 1) := by decide +kernel
theorem dX5_reach_50 : decode (mC mX5_reach) 50 = .ok (.ior, 1) := by decide +kernel
theorem dX5_reach_51 : decode (mC mX5_reach) 51 = .ok (.istore_n 2, 1) := by decide +kernel
theorem dX5_reach_52 : decode (mC mX5_reach) 52 = .ok (.iinc 3 1, 3) := by decide +kernel
theorem dX5_reach_55 : decode (mC mX5_reach) 55 = .ok (.goto (-30), 3) := by decide +kernel
theorem dX5_reach_58 : decode (mC mX5_reach) 58 = .ok (.iload_n 2, 1) := by decide +kernel
theorem dX5_reach_59 : decode (mC mX5_reach) 59 = .ok (.ireturn, 1) := by decide +kernel
theorem dX5_open_0 : decode (mC mX5_open) 0 = .ok (.iconst 0, 1) := by decide +kernel
theorem dX5_open_1 : decode (mC mX5_open) 1 = .ok (.istore_n 1, 1) := by decide +kernel
theorem dX5_open_2 : decode (mC mX5_open) 2 = .ok (.iconst 0, 1) := by decide +kernel
theorem dX5_open_3 : decode (mC mX5_open) 3 = .ok (.istore_n 2, 1) := by decide +kernel
theorem dX5_open_4 : decode (mC mX5_open) 4 = .ok (.iload_n 2, 1) := by decide +kernel
theorem dX5_open_5 : decode (mC mX5_open) 5 = .ok (.aload_n 0, 1) := by decide +kernel
theorem dX5_open_6 : decode (mC mX5_open) 6 = .ok (.getfield 9, 3) := by decide +kernel
theorem dX5_open_9 : decode (mC mX5_open) 9 = .ok (.iconst 0, 1) := by decide +kernel
theorem dX5_open_10 : decode (mC mX5_open) 10 = .ok (.iaload, 1) := by decide +kernel
theorem dX5_open_11 : decode (mC mX5_open) 11 = .ok (.if_icmp .ge 40, 3) := by decide +kernel
theorem dX5_open_14 : decode (mC mX5_open) 14 = .ok (.iload_n 1, 1) := by decide +kernel
theorem dX5_open_15 : decode (mC mX5_open) 15 = .ok (.aload_n 0, 1) := by decide +kernel
theorem dX5_open_16 : decode (mC mX5_open) 16 = .ok (.getfield 9, 3) := by decide +kernel
theorem dX5_open_19 : decode (mC mX5_open) 19 = .ok (.iload_n 2, 1) := by decide +kernel
theorem dX5_open_20 : decode (mC mX5_open) 20 = .ok (.bipush (-9), 2) := by decide +kernel
theorem dX5_open_22 : decode (mC mX5_open) 22 = .ok (.aload_n 0, 1) := by decide +kernel
theorem dX5_open_23 : decode (mC mX5_open) 23 = .ok (.getfield 9, 3) := by decide +kernel
theorem dX5_open_26 : decode (mC mX5_open) 26 = .ok (.iconst 2, 1) := by decide +kernel
theorem dX5_open_27 : decode (mC mX5_open) 27 = .ok (.iaload, 1) := by decide +kernel
theorem dX5_open_28 : decode (mC mX5_open) 28 = .ok (.iconst 1, 1) := by decide +kernel
theorem dX5_open_29 : decode (mC mX5_open) 29 = .ok (.iadd, 1) := by decide +kernel
theorem dX5_open_30 : decode (mC mX5_open) 30 = .ok (.invokestatic 76, 3) := by decide +kernel
theorem dX5_open_33 : decode (mC mX5_open) 33 = .ok (.ifCond .eq 9, 3) := by decide +kernel
theorem dX5_open_36 : decode (mC mX5_open) 36 = .ok (.iconst 1, 1) := by decide +kernel
theorem dX5_open_37 : decode (mC mX5_open) 37 = .ok (.iload_n 2, 1) := by decide +kernel
theorem dX5_open_38 : decode (mC mX5_open) 38 = .ok (.ishl, 1) := by decide +kernel
theorem dX5_open_39 : decode (mC mX5_open) 39 = .ok (.goto 4, 3) := by decide +kernel
theorem dX5_open_42 : decode (mC mX5_open) 42 = .ok (.iconst 0, 1) := by decide +kernel
theorem dX5_open_43 : decode (mC mX5_open) 43 = .ok (.ior, 1) := by decide +kernel
theorem dX5_open_44 : decode (mC mX5_open) 44 = .ok (.istore_n 1, 1) := by decide +kernel
theorem dX5_open_45 : decode (mC mX5_open) 45 = .ok (.iinc 2 1, 3) := by decide +kernel
theorem dX5_open_48 : decode (mC mX5_open) 48 = .ok (.goto (-44), 3) := by decide +kernel
theorem dX5_open_51 : decode (mC mX5_open) 51 = .ok (.iload_n 1, 1) := by decide +kernel
theorem dX5_open_52 : decode (mC mX5_open) 52 = .ok (.ireturn, 1) := by decide +kernel
theorem dX5_helper_0 : decode (mC mX5_helper) 0 = .ok (.iload_n 1, 1) := by decide +kernel
theorem dX5_helper_1 : decode (mC mX5_helper) 1 = .ok (.iconst 0, 1) := by decide +kernel
theorem dX5_helper_2 : decode (mC mX5_helper) 2 = .ok (.bipush 30, 2) := by decide +kernel
theorem dX5_helper_4 : decode (mC mX5_helper) 4 = .ok (.invokestatic 152, 3) := by decide +kernel
theorem dX5_helper_7 : decode (mC mX5_helper) 7 = .ok (.istore_n 3, 1) := by decide +kernel
theorem dX5_helper_8 : decode (mC mX5_helper) 8 = .ok (.iload_n 3, 1) := by decide +kernel
theorem dX5_helper_9 : decode (mC mX5_helper) 9 = .ok (.ifCond .ne 15, 3) := by decide +kernel
theorem dX5_helper_12 : decode (mC mX5_helper) 12 = .ok (.iload_n 2, 1) := by decide +kernel
theorem dX5_helper_13 : decode (mC mX5_helper) 13 = .ok (.iconst 0, 1) := by decide +kernel
theorem dX5_helper_14 : decode (mC mX5_helper) 14 = .ok (.iconst 1, 1) := by decide +kernel
theorem dX5_helper_15 : decode (mC mX5_helper) 15 = .ok (.invokestatic 43, 3) := by decide +kernel
theorem dX5_helper_18 : decode (mC mX5_helper) 18 = .ok (.ifCond .ne 6, 3) := by decide +kernel
theorem dX5_helper_21 : decode (mC mX5_helper) 21 = .ok (.bipush (-2), 2) := by decide +kernel
theorem dX5_helper_23 : decode (mC mX5_helper) 23 = .ok (.istore_n 3, 1) := by decide +kernel
theorem dX5_helper_24 : decode (mC mX5_helper) 24 = .ok (.iload_n 3, 1) := by decide +kernel
theorem dX5_helper_25 : decode (mC mX5_helper) 25 = .ok (.ifCond .eq 9, 3) := by decide +kernel
theorem dX5_helper_28 : decode (mC mX5_helper) 28 = .ok (.aload_n 0, 1) := by decide +kernel
theorem dX5_helper_29 : decode (mC mX5_helper) 29 = .ok (.iload_n 3, 1) := by decide +kernel
theorem dX5_helper_30 : decode (mC mX5_helper) 30 = .ok (.invokevirtual 39, 3) := by decide +kernel
theorem dX5_helper_33 : decode (mC mX5_helper) 33 = .ok (.ireturn, 1) := by decide +kernel
theorem dX5_helper_34 : decode (mC mX5_helper) 34 = .ok (.iconst 0, 1) := by decide +kernel
theorem dX5_helper_35 : decode (mC mX5_helper) 35 = .ok (.istore 4, 2) := by decide +kernel
theorem dX5_helper_37 : decode (mC mX5_helper) 37 = .ok (.iconst (-1), 1) := by decide +kernel
theorem dX5_helper_38 : decode (mC mX5_helper) 38 = .ok (.istore 5, 2) := by decide +kernel
theorem dX5_helper_40 : decode (mC mX5_helper) 40 = .ok (.iconst 0, 1) := by decide +kernel
theorem dX5_helper_41 : decode (mC mX5_helper) 41 = .ok (.istore 6, 2) := by decide +kernel
theorem dX5_helper_43 : decode (mC mX5_helper) 43 = .ok (.iload 6, 2) := by decide +kernel
theorem dX5_helper_45 : decode (mC mX5_helper) 45 = .ok (.bipush 8, 2) := by decide +kernel
theorem dX5_helper_47 : decode (mC mX5_helper) 47 = .ok (.if_icmp .ge 83, 3) := by decide +kernel
theorem dX5_helper_50 : decode (mC mX5_helper) 50 = .ok (.aload_n 0, 1) := by decide +kernel
theorem dX5_helper_51 : decode (mC mX5_helper) 51 = .ok (.getfield 9, 3) := by decide +kernel
theorem dX5_helper_54 : decode (mC mX5_helper) 54 = .ok (.aload_n 0, 1) := by decide +kernel
theorem dX5_helper_55 : decode (mC mX5_helper) 55 = .ok (.getfield 13, 3) := by decide +kernel
theorem dX5_helper_58 : decode (mC mX5_helper) 58 = .ok (.invokestatic 138, 3) := by decide +kernel
theorem dX5_helper_61 : decode (mC mX5_helper) 61 = .ok (.aload_n 0, 1) := by decide +kernel
theorem dX5_helper_62 : decode (mC mX5_helper) 62 = .ok (.getfield 13, 3) := by decide +kernel
theorem dX5_helper_65 : decode (mC mX5_helper) 65 = .ok (.iload 6, 2) := by decide +kernel
theorem dX5_helper_67 : decode (mC mX5_helper) 67 = .ok (.iload 6, 2) := by decide +kernel
theorem dX5_helper_69 : decode (mC mX5_helper) 69 = .ok (.bipush 9, 2) := by decide +kernel
theorem dX5_helper_71 : decode (mC mX5_helper) 71 = .ok (.invokestatic 118, 3) := by decide +kernel
theorem dX5_helper_74 : decode (mC mX5_helper) 74 = .ok (.aload_n 0, 1) := by decide +kernel
theorem dX5_helper_75 : decode (mC mX5_helper) 75 = .ok (.aload_n 0, 1) := by decide +kernel
theorem dX5_helper_76 : decode (mC mX5_helper) 76 = .ok (.getfield 13, 3) := by decide +kernel
theorem dX5_helper_79 : decode (mC mX5_helper) 79 = .ok (.iload_n 1, 1) := by decide +kernel
theorem dX5_helper_80 : decode (mC mX5_helper) 80 = .ok (.invokevirtual 132, 3) := by decide +kernel
theorem dX5_helper_83 : decode (mC mX5_helper) 83 = .ok (.aload_n 0, 1) := by decide +kernel
theorem dX5_helper_84 : decode (mC mX5_helper) 84 = .ok (.getfield 13, 3) := by decide +kernel
theorem dX5_helper_87 : decode (mC mX5_helper) 87 = .ok (.invokestatic 155, 3) := by decide +kernel
theorem dX5_helper_90 : decode (mC mX5_helper) 90 = .ok (.iconst 1, 1) := by decide +kernel
theorem dX5_helper_91 : decode (mC mX5_helper) 91 = .ok (.aload_n 0, 1) := by decide +kernel
theorem dX5_helper_92 : decode (mC mX5_helper) 92 = .ok (.getfield 9, 3) := by decide +kernel
theorem dX5_helper_95 : decode (mC mX5_helper) 95 = .ok (.iconst 1, 1) := by decide +kernel
theorem dX5_helper_96 : decode (mC mX5_helper) 96 = .ok (.iaload, 1) := by decide +kernel
theorem dX5_helper_97 : decode (mC mX5_helper) 97 = .ok (.ishl, 1) := by decide +kernel
theorem dX5_helper_98 : decode (mC mX5_helper) 98 = .ok (.iconst (-1), 1) := by decide +kernel
theorem dX5_helper_99 : decode (mC mX5_helper) 99 = .ok (.ixor, 1) := by decide +kernel
theorem dX5_helper_100 : decode (mC mX5_helper) 100 = .ok (.iand, 1) := by decide +kernel
theorem dX5_helper_101 : decode (mC mX5_helper) 101 = .ok (.invokestatic 159, 3) := by decide +kernel
theorem dX5_helper_104 : decode (mC mX5_helper) 104 = .ok (.istore 7, 2) := by decide +kernel
theorem dX5_helper_106 : decode (mC mX5_helper) 106 = .ok (.iload 7, 2) := by decide +kernel
theorem dX5_helper_108 : decode (mC mX5_helper) 108 = .ok (.iload 5, 2) := by decide +kernel
theorem dX5_helper_110 : decode (mC mX5_helper) 110 = .ok (.if_icmp .gt 6, 3) := by decide +kernel
theorem dX5_helper_113 : decode (mC mX5_helper) 113 = .ok (.goto 11, 3) := by decide +kernel
theorem dX5_helper_116 : decode (mC mX5_helper) 116 = .ok (.iload 6, 2) := by decide +kernel
theorem dX5_helper_118 : decode (mC mX5_helper) 118 = .ok (.istore 4, 2) := by decide +kernel
theorem dX5_helper_120 : decode (mC mX5_helper) 120 = .ok (.iload 7, 2) := by decide +kernel
theorem dX5_helper_122 : decode (mC mX5_helper) 122 = .ok (.istore 5, 2) := by decide +kernel
theorem dX5_helper_124 : decode (mC mX5_helper) 124 = .ok (.iinc 6 1, 3) := by decide +kernel
theorem dX5_helper_127 : decode (mC mX5_helper) 127 = .ok (.goto (-84), 3) := by decide +kernel
theorem dX5_helper_130 : decode (mC mX5_helper) 130 = .ok (.iload_n 2, 1) := by decide +kernel
theorem dX5_helper_131 : decode (mC mX5_helper) 131 = .ok (.ifCond .ne 8, 3) := by decide +kernel
theorem dX5_helper_134 : decode (mC mX5_helper) 134 = .ok (.iload 4, 2) := by decide +kernel
theorem dX5_helper_136 : decode (mC mX5_helper) 136 = .ok (.goto 5, 3) := by decide +kernel
theorem dX5_helper_139 : decode (mC mX5_helper) 139 = .ok (.iload 5, 2) := by decide +kernel
theorem dX5_helper_141 : decode (mC mX5_helper) 141 = .ok (.ireturn, 1) := by decide +kernel
theorem dX5_fewest_0 : decode (mC mX5_fewest) 0 = .ok (.aload_n 0, 1) := by decide +kernel
theorem dX5_fewest_1 : decode (mC mX5_fewest) 1 = .ok (.iload_n 1, 1) := by decide +kernel
theorem dX5_fewest_2 : decode (mC mX5_fewest) 2 = .ok (.invokevirtual 122, 3) := by decide +kernel
theorem dX5_fewest_5 : decode (mC mX5_fewest) 5 = .ok (.ifCond .eq 13, 3) := by decide +kernel
theorem dX5_fewest_8 : decode (mC mX5_fewest) 8 = .ok (.iload_n 2, 1) := by decide +kernel
theorem dX5_fewest_9 : decode (mC mX5_fewest) 9 = .ok (.iconst 0, 1) := by decide +kernel
theorem dX5_fewest_10 : decode (mC mX5_fewest) 10 = .ok (.bipush 30, 2) := by decide +kernel
theorem dX5_fewest_12 : decode (mC mX5_fewest) 12 = .ok (.invokestatic 152, 3) := by decide +kernel
theorem dX5_fewest_15 : decode (mC mX5_fewest) 15 = .ok (.goto 4, 3) := by decide +kernel
theorem dX5_fewest_18 : decode (mC mX5_fewest) 18 = .ok (.iconst (-1), 1) := by decide +kernel
theorem dX5_fewest_19 : decode (mC mX5_fewest) 19 = .ok (.istore_n 3, 1) := by decide +kernel
theorem dX5_fewest_20 : decode (mC mX5_fewest) 20 = .ok (.iload_n 3, 1) := by decide +kernel
theorem dX5_fewest_21 : decode (mC mX5_fewest) 21 = .ok (.ifCond .eq 9, 3) := by decide +kernel
theorem dX5_fewest_24 : decode (mC mX5_fewest) 24 = .ok (.aload_n 0, 1) := by decide +kernel
theorem dX5_fewest_25 : decode (mC mX5_fewest) 25 = .ok (.iload_n 3, 1) := by decide +kernel
theorem dX5_fewest_26 : decode (mC mX5_fewest) 26 = .ok (.invokevirtual 39, 3) := by decide +kernel
theorem dX5_fewest_29 : decode (mC mX5_fewest) 29 = .ok (.ireturn, 1) := by decide +kernel
theorem dX5_fewest_30 : decode (mC mX5_fewest) 30 = .ok (.bipush (-9), 2) := by decide +kernel
theorem dX5_fewest_32 : decode (mC mX5_fewest) 32 = .ok (.istore 4, 2) := by decide +kernel
theorem dX5_fewest_34 : decode (mC mX5_fewest) 34 = .ok (.iconst 0, 1) := by decide +kernel
theorem dX5_fewest_35 : decode (mC mX5_fewest) 35 = .ok (.istore 5, 2) := by decide +kernel
theorem dX5_fewest_37 : decode (mC mX5_fewest) 37 = .ok (.iload 5, 2) := by decide +kernel
theorem dX5_fewest_39 : decode (mC mX5_fewest) 39 = .ok (.iconst 1, 1) := by decide +kernel
theorem dX5_fewest_40 : decode (mC mX5_fewest) 40 = .ok (.aload_n 0, 1) := by decide +kernel
theorem dX5_fewest_41 : decode (mC mX5_fewest) 41 = .ok (.getfield 9, 3) := by decide +kernel
theorem dX5_fewest_44 : decode (mC mX5_fewest) 44 = .ok (.iconst 1, 1) := by decide +kernel
theorem dX5_fewest_45 : decode (mC mX5_fewest) 45 = .ok (.iaload, 1) := by decide +kernel
theorem dX5_fewest_46 : decode (mC mX5_fewest) 46 = .ok (.ishl, 1) := by decide +kernel
theorem dX5_fewest_47 : decode (mC mX5_fewest) 47 = .ok (.if_icmp .ge 129, 3) := by decide +kernel
theorem dX5_fewest_50 : decode (mC mX5_fewest) 50 = .ok (.iload 5, 2) := by decide +kernel
theorem dX5_fewest_52 : decode (mC mX5_fewest) 52 = .ok (.iload_n 1, 1) := by decide +kernel
theorem dX5_fewest_53 : decode (mC mX5_fewest) 53 = .ok (.invokestatic 47, 3) := by decide +kernel
theorem dX5_fewest_56 : decode (mC mX5_fewest) 56 = .ok (.ifCond .ne 114, 3) := by decide +kernel
theorem dX5_fewest_59 : decode (mC mX5_fewest) 59 = .ok (.iload 4, 2) := by decide +kernel
theorem dX5_fewest_61 : decode (mC mX5_fewest) 61 = .ok (.ifCond .lt 19, 3) := by decide +kernel
theorem dX5_fewest_64 : decode (mC mX5_fewest) 64 = .ok (.iload 5, 2) := by decide +kernel
theorem dX5_fewest_66 : decode (mC mX5_fewest) 66 = .ok (.invokestatic 159, 3) := by decide +kernel
theorem dX5_fewest_69 : decode (mC mX5_fewest) 69 = .ok (.iload 4, 2) := by decide +kernel
theorem dX5_fewest_71 : decode (mC mX5_fewest) 71 = .ok (.invokestatic 159, 3) := by decide +kernel
theorem dX5_fewest_74 : decode (mC mX5_fewest) 74 = .ok (.if_icmp .lt 6, 3) := by decide +kernel
theorem dX5_fewest_77 : decode (mC mX5_fewest) 77 = .ok (.goto 93, 3) := by decide +kernel
theorem dX5_fewest_80 : decode (mC mX5_fewest) 80 = .ok (.aload_n 0, 1) := by decide +kernel
theorem dX5_fewest_81 : decode (mC mX5_fewest) 81 = .ok (.getfield 9, 3) := by decide +kernel
theorem dX5_fewest_84 : decode (mC mX5_fewest) 84 = .ok (.aload_n 0, 1) := by decide +kernel
theorem dX5_fewest_85 : decode (mC mX5_fewest) 85 = .ok (.getfield 13, 3) := by decide +kernel
theorem dX5_fewest_88 : decode (mC mX5_fewest) 88 = .ok (.invokestatic 138, 3) := by decide +kernel
theorem dX5_fewest_91 : decode (mC mX5_fewest) 91 = .ok (.iconst 0, 1) := by decide +kernel
theorem dX5_fewest_92 : decode (mC mX5_fewest) 92 = .ok (.istore 6, 2) := by decide +kernel
theorem dX5_fewest_94 : decode (mC mX5_fewest) 94 = .ok (.iload 6, 2) := by decide +kernel
theorem dX5_fewest_96 : decode (mC mX5_fewest) 96 = .ok (.aload_n 0, 1) := by decide +kernel
theorem dX5_fewest_97 : decode (mC mX5_fewest) 97 = .ok (.getfield 9, 3) := by decide +kernel
theorem dX5_fewest_100 : decode (mC mX5_fewest) 100 = .ok (.iconst 1, 1) := by decide +kernel
theorem dX5_fewest_101 : decode (mC mX5_fewest) 101 = .ok (.iaload, 1) := by decide +kernel
theorem dX5_fewest_102 : decode (mC mX5_fewest) 102 = .ok (.if_icmp .ge 41, 3) := by decide +kernel
theorem dX5_fewest_105 : decode (mC mX5_fewest) 105 = .ok (.iload 5, 2) := by decide +kernel
theorem dX5_fewest_107 : decode (mC mX5_fewest) 107 = .ok (.iload 6, 2) := by decide +kernel
theorem dX5_fewest_109 : decode (mC mX5_fewest) 109 = .ok (.invokestatic 47, 3) := by decide +kernel
theorem dX5_fewest_112 : decode (mC mX5_fewest) 112 = .ok (.ifCond .eq 25, 3) := by decide +kernel
theorem dX5_fewest_115 : decode (mC mX5_fewest) 115 = .ok (.aload_n 0, 1) := by decide +kernel
theorem dX5_fewest_116 : decode (mC mX5_fewest) 116 = .ok (.getfield 13, 3) := by decide +kernel
theorem dX5_fewest_119 : decode (mC mX5_fewest) 119 = .ok (.iload 6, 2) := by decide +kernel
theorem dX5_fewest_121 : decode (mC mX5_fewest) 121 = .ok (.iconst 1, 1) := by decide +kernel
theorem dX5_fewest_122 : decode (mC mX5_fewest) 122 = .ok (.invokestatic 51, 3) := by decide +kernel
theorem dX5_fewest_125 : decode (mC mX5_fewest) 125 = .ok (.aload_n 0, 1) := by decide +kernel
theorem dX5_fewest_126 : decode (mC mX5_fewest) 126 = .ok (.getfield 13, 3) := by decide +kernel
theorem dX5_fewest_129 : decode (mC mX5_fewest) 129 = .ok (.iload 6, 2) := by decide +kernel
theorem dX5_fewest_131 : decode (mC mX5_fewest) 131 = .ok (.iconst 0, 1) := by decide +kernel
theorem dX5_fewest_132 : decode (mC mX5_fewest) 132 = .ok (.invokestatic 51, 3) := by decide +kernel
theorem dX5_fewest_135 : decode (mC mX5_fewest) 135 = .ok (.iaload, 1) := by decide +kernel
theorem dX5_fewest_136 : decode (mC mX5_fewest) 136 = .ok (.iastore, 1) := by decide +kernel
theorem dX5_fewest_137 : decode (mC mX5_fewest) 137 = .ok (.iinc 6 1, 3) := by decide +kernel
theorem dX5_fewest_140 : decode (mC mX5_fewest) 140 = .ok (.goto (-46), 3) := by decide +kernel
theorem dX5_fewest_143 : decode (mC mX5_fewest) 143 = .ok (.aload_n 0, 1) := by decide +kernel
theorem dX5_fewest_144 : decode (mC mX5_fewest) 144 = .ok (.aload_n 0, 1) := by decide +kernel
theorem dX5_fewest_145 : decode (mC mX5_fewest) 145 = .ok (.getfield 13, 3) := by decide +kernel
theorem dX5_fewest_148 : decode (mC mX5_fewest) 148 = .ok (.iload_n 2, 1) := by decide +kernel
theorem dX5_fewest_149 : decode (mC mX5_fewest) 149 = .ok (.invokevirtual 132, 3) := by decide +kernel
theorem dX5_fewest_152 : decode (mC mX5_fewest) 152 = .ok (.aload_n 0, 1) := by decide +kernel
theorem dX5_fewest_153 : decode (mC mX5_fewest) 153 = .ok (.getfield 13, 3) := by decide +kernel
theorem dX5_fewest_156 : decode (mC mX5_fewest) 156 = .ok (.invokestatic 155, 3) := by decide +kernel
theorem dX5_fewest_159 : decode (mC mX5_fewest) 159 = .ok (.iload_n 1, 1) := by decide +kernel
theorem dX5_fewest_160 : decode (mC mX5_fewest) 160 = .ok (.invokestatic 47, 3) := by decide +kernel
theorem dX5_fewest_163 : decode (mC mX5_fewest) 163 = .ok (.ifCond .eq 7, 3) := by decide +kernel
theorem dX5_fewest_166 : decode (mC mX5_fewest) 166 = .ok (.iload 5, 2) := by decide +kernel
theorem dX5_fewest_168 : decode (mC mX5_fewest) 168 = .ok (.istore 4, 2) := by decide +kernel
theorem dX5_fewest_170 : decode (mC mX5_fewest) 170 = .ok (.iinc 5 1, 3) := by decide +kernel
theorem dX5_fewest_173 : decode (mC mX5_fewest) 173 = .ok (.goto (-136), 3) := by decide +kernel
theorem dX5_fewest_176 : decode (mC mX5_fewest) 176 = .ok (.iload 4, 2) := by decide +kernel
theorem dX5_fewest_178 : decode (mC mX5_fewest) 178 = .ok (.ireturn, 1) := by decide +kernel
theorem dX5_bestDoor_0 : decode (mC mX5_bestDoor) 0 = .ok (.aload_n 0, 1) := by decide +kernel
theorem dX5_bestDoor_1 : decode (mC mX5_bestDoor) 1 = .ok (.iload_n 1, 1) := by decide +kernel
theorem dX5_bestDoor_2 : decode (mC mX5_bestDoor) 2 = .ok (.invokevirtual 162, 3) := by decide +kernel
theorem dX5_bestDoor_5 : decode (mC mX5_bestDoor) 5 = .ok (.aload_n 0, 1) := by decide +kernel
theorem dX5_bestDoor_6 : decode (mC mX5_bestDoor) 6 = .ok (.getfield 13, 3) := by decide +kernel
theorem dX5_bestDoor_9 : decode (mC mX5_bestDoor) 9 = .ok (.invokestatic 155, 3) := by decide +kernel
theorem dX5_bestDoor_12 : decode (mC mX5_bestDoor) 12 = .ok (.invokestatic 159, 3) := by decide +kernel
theorem dX5_bestDoor_15 : decode (mC mX5_bestDoor) 15 = .ok (.istore_n 3, 1) := by decide +kernel
theorem dX5_bestDoor_16 : decode (mC mX5_bestDoor) 16 = .ok (.bipush (-9), 2) := by decide +kernel
theorem dX5_bestDoor_18 : decode (mC mX5_bestDoor) 18 = .ok (.istore 4, 2) := by decide +kernel
theorem dX5_bestDoor_20 : decode (mC mX5_bestDoor) 20 = .ok (.iconst 0, 1) := by decide +kernel
theorem dX5_bestDoor_21 : decode (mC mX5_bestDoor) 21 = .ok (.istore 5, 2) := by decide +kernel
theorem dX5_bestDoor_23 : decode (mC mX5_bestDoor) 23 = .ok (.iload 5, 2) := by decide +kernel
theorem dX5_bestDoor_25 : decode (mC mX5_bestDoor) 25 = .ok (.aload_n 0, 1) := by decide +kernel
theorem dX5_bestDoor_26 : decode (mC mX5_bestDoor) 26 = .ok (.getfield 9, 3) := by decide +kernel
theorem dX5_bestDoor_29 : decode (mC mX5_bestDoor) 29 = .ok (.iconst 0, 1) := by decide +kernel
theorem dX5_bestDoor_30 : decode (mC mX5_bestDoor) 30 = .ok (.iaload, 1) := by decide +kernel
theorem dX5_bestDoor_31 : decode (mC mX5_bestDoor) 31 = .ok (.if_icmp .ge 89, 3) := by decide +kernel
theorem dX5_bestDoor_34 : decode (mC mX5_bestDoor) 34 = .ok (.aload_n 0, 1) := by decide +kernel
theorem dX5_bestDoor_35 : decode (mC mX5_bestDoor) 35 = .ok (.getfield 9, 3) := by decide +kernel
theorem dX5_bestDoor_38 : decode (mC mX5_bestDoor) 38 = .ok (.aload_n 0, 1) := by decide +kernel
theorem dX5_bestDoor_39 : decode (mC mX5_bestDoor) 39 = .ok (.getfield 13, 3) := by decide +kernel
theorem dX5_bestDoor_42 : decode (mC mX5_bestDoor) 42 = .ok (.invokestatic 138, 3) := by decide +kernel
theorem dX5_bestDoor_45 : decode (mC mX5_bestDoor) 45 = .ok (.iload_n 2, 1) := by decide +kernel
theorem dX5_bestDoor_46 : decode (mC mX5_bestDoor) 46 = .ok (.ifCond .eq 18, 3) := by decide +kernel
theorem dX5_bestDoor_49 : decode (mC mX5_bestDoor) 49 = .ok (.aload_n 0, 1) := by decide +kernel
theorem dX5_bestDoor_50 : decode (mC mX5_bestDoor) 50 = .ok (.getfield 13, 3) := by decide +kernel
theorem dX5_bestDoor_53 : decode (mC mX5_bestDoor) 53 = .ok (.iload 5, 2) := by decide +kernel
theorem dX5_bestDoor_55 : decode (mC mX5_bestDoor) 55 = .ok (.iconst 4, 1) := by decide +kernel
theorem dX5_bestDoor_56 : decode (mC mX5_bestDoor) 56 = .ok (.invokestatic 55, 3) := by decide +kernel
theorem dX5_bestDoor_59 : decode (mC mX5_bestDoor) 59 = .ok (.iconst 1, 1) := by decide +kernel
theorem dX5_bestDoor_60 : decode (mC mX5_bestDoor) 60 = .ok (.iastore, 1) := by decide +kernel
theorem dX5_bestDoor_61 : decode (mC mX5_bestDoor) 61 = .ok (.goto 12, 3) := by decide +kernel
theorem dX5_bestDoor_64 : decode (mC mX5_bestDoor) 64 = .ok (.aload_n 0, 1) := by decide +kernel
theorem dX5_bestDoor_65 : decode (mC mX5_bestDoor) 65 = .ok (.getfield 13, 3) := by decide +kernel
theorem dX5_bestDoor_68 : decode (mC mX5_bestDoor) 68 = .ok (.iload 5, 2) := by decide +kernel
theorem dX5_bestDoor_70 : decode (mC mX5_bestDoor) 70 = .ok (.invokestatic 128, 3) := by decide +kernel
theorem dX5_bestDoor_73 : decode (mC mX5_bestDoor) 73 = .ok (.aload_n 0, 1) := by decide +kernel
theorem dX5_bestDoor_74 : decode (mC mX5_bestDoor) 74 = .ok (.aload_n 0, 1) := by decide +kernel
theorem dX5_bestDoor_75 : decode (mC mX5_bestDoor) 75 = .ok (.getfield 13, 3) := by decide +kernel
theorem dX5_bestDoor_78 : decode (mC mX5_bestDoor) 78 = .ok (.iload_n 1, 1) := by decide +kernel
theorem dX5_bestDoor_79 : decode (mC mX5_bestDoor) 79 = .ok (.invokevirtual 132, 3) := by decide +kernel
theorem dX5_bestDoor_82 : decode (mC mX5_bestDoor) 82 = .ok (.aload_n 0, 1) := by decide +kernel
theorem dX5_bestDoor_83 : decode (mC mX5_bestDoor) 83 = .ok (.getfield 13, 3) := by decide +kernel
theorem dX5_bestDoor_86 : decode (mC mX5_bestDoor) 86 = .ok (.invokestatic 155, 3) := by decide +kernel
theorem dX5_bestDoor_89 : decode (mC mX5_bestDoor) 89 = .ok (.invokestatic 159, 3) := by decide +kernel
theorem dX5_bestDoor_92 : decode (mC mX5_bestDoor) 92 = .ok (.iload_n 3, 1) := by decide +kernel
theorem dX5_bestDoor_93 : decode (mC mX5_bestDoor) 93 = .ok (.if_icmp .gt 6, 3) := by decide +kernel
theorem dX5_bestDoor_96 : decode (mC mX5_bestDoor) 96 = .ok (.goto 18, 3) := by decide +kernel
theorem dX5_bestDoor_99 : decode (mC mX5_bestDoor) 99 = .ok (.iload 5, 2) := by decide +kernel
theorem dX5_bestDoor_101 : decode (mC mX5_bestDoor) 101 = .ok (.istore 4, 2) := by decide +kernel
theorem dX5_bestDoor_103 : decode (mC mX5_bestDoor) 103 = .ok (.aload_n 0, 1) := by decide +kernel
theorem dX5_bestDoor_104 : decode (mC mX5_bestDoor) 104 = .ok (.getfield 13, 3) := by decide +kernel
theorem dX5_bestDoor_107 : decode (mC mX5_bestDoor) 107 = .ok (.invokestatic 155, 3) := by decide +kernel
theorem dX5_bestDoor_110 : decode (mC mX5_bestDoor) 110 = .ok (.invokestatic 159, 3) := by decide +kernel
theorem dX5_bestDoor_113 : decode (mC mX5_bestDoor) 113 = .ok (.istore_n 3, 1) := by decide +kernel
theorem dX5_bestDoor_114 : decode (mC mX5_bestDoor) 114 = .ok (.iinc 5 1, 3) := by decide +kernel
theorem dX5_bestDoor_117 : decode (mC mX5_bestDoor) 117 = .ok (.goto (-94), 3) := by decide +kernel
theorem dX5_bestDoor_120 : decode (mC mX5_bestDoor) 120 = .ok (.iload 4, 2) := by decide +kernel
theorem dX5_bestDoor_122 : decode (mC mX5_bestDoor) 122 = .ok (.ireturn, 1) := by decide +kernel
theorem dX5_turn_0 : decode (mC mX5_turn) 0 = .ok (.iload_n 1, 1) := by decide +kernel
theorem dX5_turn_1 : decode (mC mX5_turn) 1 = .ok (.iconst 0, 1) := by decide +kernel
theorem dX5_turn_2 : decode (mC mX5_turn) 2 = .ok (.bipush 30, 2) := by decide +kernel
theorem dX5_turn_4 : decode (mC mX5_turn) 4 = .ok (.invokestatic 152, 3) := by decide +kernel
theorem dX5_turn_7 : decode (mC mX5_turn) 7 = .ok (.istore_n 2, 1) := by decide +kernel
theorem dX5_turn_8 : decode (mC mX5_turn) 8 = .ok (.iload_n 2, 1) := by decide +kernel
theorem dX5_turn_9 : decode (mC mX5_turn) 9 = .ok (.ifCond .eq 11, 3) := by decide +kernel
theorem dX5_turn_12 : decode (mC mX5_turn) 12 = .ok (.aload_n 0, 1) := by decide +kernel
theorem dX5_turn_13 : decode (mC mX5_turn) 13 = .ok (.iload_n 2, 1) := by decide +kernel
theorem dX5_turn_14 : decode (mC mX5_turn) 14 = .ok (.invokevirtual 39, 3) := by decide +kernel
theorem dX5_turn_17 : decode (mC mX5_turn) 17 = .ok (.goto 9, 3) := by decide +kernel
theorem dX5_turn_20 : decode (mC mX5_turn) 20 = .ok (.aload_n 0, 1) := by decide +kernel
theorem dX5_turn_21 : decode (mC mX5_turn) 21 = .ok (.iload_n 1, 1) := by decide +kernel
theorem dX5_turn_22 : decode (mC mX5_turn) 22 = .ok (.iconst 0, 1) := by decide +kernel
theorem dX5_turn_23 : decode (mC mX5_turn) 23 = .ok (.invokevirtual 178, 3) := by decide +kernel
theorem dX5_turn_26 : decode (mC mX5_turn) 26 = .ok (.ireturn, 1) := by decide +kernel
theorem dX5_wedge_0 : decode (mC mX5_wedge) 0 = .ok (.iload_n 1, 1) := by decide +kernel
theorem dX5_wedge_1 : decode (mC mX5_wedge) 1 = .ok (.iconst 0, 1) := by decide +kernel
theorem dX5_wedge_2 : decode (mC mX5_wedge) 2 = .ok (.bipush 30, 2) := by decide +kernel
theorem dX5_wedge_4 : decode (mC mX5_wedge) 4 = .ok (.invokestatic 152, 3) := by decide +kernel
theorem dX5_wedge_7 : decode (mC mX5_wedge) 7 = .ok (.istore_n 2, 1) := by decide +kernel
theorem dX5_wedge_8 : decode (mC mX5_wedge) 8 = .ok (.iload_n 2, 1) := by decide +kernel
theorem dX5_wedge_9 : decode (mC mX5_wedge) 9 = .ok (.ifCond .eq 11, 3) := by decide +kernel
theorem dX5_wedge_12 : decode (mC mX5_wedge) 12 = .ok (.aload_n 0, 1) := by decide +kernel
theorem dX5_wedge_13 : decode (mC mX5_wedge) 13 = .ok (.iload_n 2, 1) := by decide +kernel
theorem dX5_wedge_14 : decode (mC mX5_wedge) 14 = .ok (.invokevirtual 39, 3) := by decide +kernel
theorem dX5_wedge_17 : decode (mC mX5_wedge) 17 = .ok (.goto 9, 3) := by decide +kernel
theorem dX5_wedge_20 : decode (mC mX5_wedge) 20 = .ok (.aload_n 0, 1) := by decide +kernel
theorem dX5_wedge_21 : decode (mC mX5_wedge) 21 = .ok (.iload_n 1, 1) := by decide +kernel
theorem dX5_wedge_22 : decode (mC mX5_wedge) 22 = .ok (.iconst 1, 1) := by decide +kernel
theorem dX5_wedge_23 : decode (mC mX5_wedge) 23 = .ok (.invokevirtual 178, 3) := by decide +kernel
theorem dX5_wedge_26 : decode (mC mX5_wedge) 26 = .ok (.ireturn, 1) := by decide +kernel
theorem dX5_holds_0 : decode (mC mX5_holds) 0 = .ok (.iload_n 1, 1) := by decide +kernel
theorem dX5_holds_1 : decode (mC mX5_holds) 1 = .ok (.iconst 0, 1) := by decide +kernel
theorem dX5_holds_2 : decode (mC mX5_holds) 2 = .ok (.bipush 30, 2) := by decide +kernel
theorem dX5_holds_4 : decode (mC mX5_holds) 4 = .ok (.invokestatic 152, 3) := by decide +kernel
theorem dX5_holds_7 : decode (mC mX5_holds) 7 = .ok (.istore_n 3, 1) := by decide +kernel
theorem dX5_holds_8 : decode (mC mX5_holds) 8 = .ok (.iload_n 3, 1) := by decide +kernel
theorem dX5_holds_9 : decode (mC mX5_holds) 9 = .ok (.ifCond .ne 15, 3) := by decide +kernel
theorem dX5_holds_12 : decode (mC mX5_holds) 12 = .ok (.iload_n 2, 1) := by decide +kernel
theorem dX5_holds_13 : decode (mC mX5_holds) 13 = .ok (.iconst 0, 1) := by decide +kernel
theorem dX5_holds_14 : decode (mC mX5_holds) 14 = .ok (.iconst 1, 1) := by decide +kernel
theorem dX5_holds_15 : decode (mC mX5_holds) 15 = .ok (.invokestatic 43, 3) := by decide +kernel
theorem dX5_holds_18 : decode (mC mX5_holds) 18 = .ok (.ifCond .ne 6, 3) := by decide +kernel
theorem dX5_holds_21 : decode (mC mX5_holds) 21 = .ok (.bipush (-2), 2) := by decide +kernel
theorem dX5_holds_23 : decode (mC mX5_holds) 23 = .ok (.istore_n 3, 1) := by decide +kernel
theorem dX5_holds_24 : decode (mC mX5_holds) 24 = .ok (.iload_n 3, 1) := by decide +kernel
theorem dX5_holds_25 : decode (mC mX5_holds) 25 = .ok (.ifCond .eq 9, 3) := by decide +kernel
theorem dX5_holds_28 : decode (mC mX5_holds) 28 = .ok (.aload_n 0, 1) := by decide +kernel
theorem dX5_holds_29 : decode (mC mX5_holds) 29 = .ok (.iload_n 3, 1) := by decide +kernel
theorem dX5_holds_30 : decode (mC mX5_holds) 30 = .ok (.invokevirtual 39, 3) := by decide +kernel
theorem dX5_holds_33 : decode (mC mX5_holds) 33 = .ok (.ireturn, 1) := by decide +kernel
theorem dX5_holds_34 : decode (mC mX5_holds) 34 = .ok (.bipush (-9), 2) := by decide +kernel
theorem dX5_holds_36 : decode (mC mX5_holds) 36 = .ok (.istore 4, 2) := by decide +kernel
theorem dX5_holds_38 : decode (mC mX5_holds) 38 = .ok (.ldc 182, 2) := by decide +kernel
theorem dX5_holds_40 : decode (mC mX5_holds) 40 = .ok (.istore 5, 2) := by decide +kernel
theorem dX5_holds_42 : decode (mC mX5_holds) 42 = .ok (.iconst 0, 1) := by decide +kernel
theorem dX5_holds_43 : decode (mC mX5_holds) 43 = .ok (.istore 6, 2) := by decide +kernel
theorem dX5_holds_45 : decode (mC mX5_holds) 45 = .ok (.iload 6, 2) := by decide +kernel
theorem dX5_holds_47 : decode (mC mX5_holds) 47 = .ok (.aload_n 0, 1) := by decide +kernel
theorem dX5_holds_48 : decode (mC mX5_holds) 48 = .ok (.getfield 9, 3) := by decide +kernel
theorem dX5_holds_51 : decode (mC mX5_holds) 51 = .ok (.iconst 1, 1) := by decide +kernel
theorem dX5_holds_52 : decode (mC mX5_holds) 52 = .ok (.iaload, 1) := by decide +kernel
theorem dX5_holds_53 : decode (mC mX5_holds) 53 = .ok (.if_icmp .ge 69, 3) := by decide +kernel
theorem dX5_holds_56 : decode (mC mX5_holds) 56 = .ok (.aload_n 0, 1) := by decide +kernel
theorem dX5_holds_57 : decode (mC mX5_holds) 57 = .ok (.getfield 9, 3) := by decide +kernel
theorem dX5_holds_60 : decode (mC mX5_holds) 60 = .ok (.aload_n 0, 1) := by decide +kernel
theorem dX5_holds_61 : decode (mC mX5_holds) 61 = .ok (.getfield 13, 3) := by decide +kernel
theorem dX5_holds_64 : decode (mC mX5_holds) 64 = .ok (.invokestatic 138, 3) := by decide +kernel
theorem dX5_holds_67 : decode (mC mX5_holds) 67 = .ok (.aload_n 0, 1) := by decide +kernel
theorem dX5_holds_68 : decode (mC mX5_holds) 68 = .ok (.getfield 13, 3) := by decide +kernel
theorem dX5_holds_71 : decode (mC mX5_holds) 71 = .ok (.iconst 4, 1) := by decide +kernel
theorem dX5_holds_72 : decode (mC mX5_holds) 72 = .ok (.iconst 1, 1) := by decide +kernel
theorem dX5_holds_73 : decode (mC mX5_holds) 73 = .ok (.iload 6, 2) := by decide +kernel
theorem dX5_holds_75 : decode (mC mX5_holds) 75 = .ok (.ishl, 1) := by decide +kernel
theorem dX5_holds_76 : decode (mC mX5_holds) 76 = .ok (.iastore, 1) := by decide +kernel
theorem dX5_holds_77 : decode (mC mX5_holds) 77 = .ok (.aload_n 0, 1) := by decide +kernel
theorem dX5_holds_78 : decode (mC mX5_holds) 78 = .ok (.aload_n 0, 1) := by decide +kernel
theorem dX5_holds_79 : decode (mC mX5_holds) 79 = .ok (.getfield 13, 3) := by decide +kernel
theorem dX5_holds_82 : decode (mC mX5_holds) 82 = .ok (.iload_n 1, 1) := by decide +kernel
theorem dX5_holds_83 : decode (mC mX5_holds) 83 = .ok (.invokevirtual 132, 3) := by decide +kernel
theorem dX5_holds_86 : decode (mC mX5_holds) 86 = .ok (.aload_n 0, 1) := by decide +kernel
theorem dX5_holds_87 : decode (mC mX5_holds) 87 = .ok (.getfield 13, 3) := by decide +kernel
theorem dX5_holds_90 : decode (mC mX5_holds) 90 = .ok (.invokestatic 155, 3) := by decide +kernel
theorem dX5_holds_93 : decode (mC mX5_holds) 93 = .ok (.invokestatic 159, 3) := by decide +kernel
theorem dX5_holds_96 : decode (mC mX5_holds) 96 = .ok (.istore 7, 2) := by decide +kernel
theorem dX5_holds_98 : decode (mC mX5_holds) 98 = .ok (.iload 7, 2) := by decide +kernel
theorem dX5_holds_100 : decode (mC mX5_holds) 100 = .ok (.iload 5, 2) := by decide +kernel
theorem dX5_holds_102 : decode (mC mX5_holds) 102 = .ok (.if_icmp .lt 6, 3) := by decide +kernel
theorem dX5_holds_105 : decode (mC mX5_holds) 105 = .ok (.goto 11, 3) := by decide +kernel
theorem dX5_holds_108 : decode (mC mX5_holds) 108 = .ok (.iload 6, 2) := by decide +kernel
theorem dX5_holds_110 : decode (mC mX5_holds) 110 = .ok (.istore 4, 2) := by decide +kernel
theorem dX5_holds_112 : decode (mC mX5_holds) 112 = .ok (.iload 7, 2) := by decide +kernel
theorem dX5_holds_114 : decode (mC mX5_holds) 114 = .ok (.istore 5, 2) := by decide +kernel
theorem dX5_holds_116 : decode (mC mX5_holds) 116 = .ok (.iinc 6 1, 3) := by decide +kernel
theorem dX5_holds_119 : decode (mC mX5_holds) 119 = .ok (.goto (-74), 3) := by decide +kernel
theorem dX5_holds_122 : decode (mC mX5_holds) 122 = .ok (.iload 4, 2) := by decide +kernel
theorem dX5_holds_124 : decode (mC mX5_holds) 124 = .ok (.ifCond .lt 7, 3) := by decide +kernel
theorem dX5_holds_127 : decode (mC mX5_holds) 127 = .ok (.iload_n 2, 1) := by decide +kernel
theorem dX5_holds_128 : decode (mC mX5_holds) 128 = .ok (.ifCond .ne 8, 3) := by decide +kernel
theorem dX5_holds_131 : decode (mC mX5_holds) 131 = .ok (.iload 4, 2) := by decide +kernel
theorem dX5_holds_133 : decode (mC mX5_holds) 133 = .ok (.goto 5, 3) := by decide +kernel
theorem dX5_holds_136 : decode (mC mX5_holds) 136 = .ok (.iload 5, 2) := by decide +kernel
theorem dX5_holds_138 : decode (mC mX5_holds) 138 = .ok (.ireturn, 1) := by decide +kernel
theorem dX5_manyIn_0 : decode (mC mX5_manyIn) 0 = .ok (.iconst 0, 1) := by decide +kernel
theorem dX5_manyIn_1 : decode (mC mX5_manyIn) 1 = .ok (.istore_n 2, 1) := by decide +kernel
theorem dX5_manyIn_2 : decode (mC mX5_manyIn) 2 = .ok (.iconst 0, 1) := by decide +kernel
theorem dX5_manyIn_3 : decode (mC mX5_manyIn) 3 = .ok (.istore_n 3, 1) := by decide +kernel
theorem dX5_manyIn_4 : decode (mC mX5_manyIn) 4 = .ok (.iload_n 3, 1) := by decide +kernel
theorem dX5_manyIn_5 : decode (mC mX5_manyIn) 5 = .ok (.aload_n 0, 1) := by decide +kernel
theorem dX5_manyIn_6 : decode (mC mX5_manyIn) 6 = .ok (.getfield 9, 3) := by decide +kernel
theorem dX5_manyIn_9 : decode (mC mX5_manyIn) 9 = .ok (.iconst 1, 1) := by decide +kernel
theorem dX5_manyIn_10 : decode (mC mX5_manyIn) 10 = .ok (.iaload, 1) := by decide +kernel
theorem dX5_manyIn_11 : decode (mC mX5_manyIn) 11 = .ok (.if_icmp .ge 31, 3) := by decide +kernel
theorem dX5_manyIn_14 : decode (mC mX5_manyIn) 14 = .ok (.iload_n 2, 1) := by decide +kernel
theorem dX5_manyIn_15 : decode (mC mX5_manyIn) 15 = .ok (.aload_n 0, 1) := by decide +kernel
theorem dX5_manyIn_16 : decode (mC mX5_manyIn) 16 = .ok (.getfield 9, 3) := by decide +kernel
theorem dX5_manyIn_19 : decode (mC mX5_manyIn) 19 = .ok (.iload_n 3, 1) := by decide +kernel
theorem dX5_manyIn_20 : decode (mC mX5_manyIn) 20 = .ok (.iconst 0, 1) := by decide +kernel
theorem dX5_manyIn_21 : decode (mC mX5_manyIn) 21 = .ok (.invokestatic 51, 3) := by decide +kernel
theorem dX5_manyIn_24 : decode (mC mX5_manyIn) 24 = .ok (.iaload, 1) := by decide +kernel
theorem dX5_manyIn_25 : decode (mC mX5_manyIn) 25 = .ok (.iload_n 1, 1) := by decide +kernel
theorem dX5_manyIn_26 : decode (mC mX5_manyIn) 26 = .ok (.if_icmp .ne 7, 3) := by decide +kernel
theorem dX5_manyIn_29 : decode (mC mX5_manyIn) 29 = .ok (.iconst 1, 1) := by decide +kernel
theorem dX5_manyIn_30 : decode (mC mX5_manyIn) 30 = .ok (.goto 4, 3) := by decide +kernel
theorem dX5_manyIn_33 : decode (mC mX5_manyIn) 33 = .ok (.iconst 0, 1) := by decide +kernel
theorem dX5_manyIn_34 : decode (mC mX5_manyIn) 34 = .ok (.iadd, 1) := by decide +kernel
theorem dX5_manyIn_35 : decode (mC mX5_manyIn) 35 = .ok (.istore_n 2, 1) := by decide +kernel
theorem dX5_manyIn_36 : decode (mC mX5_manyIn) 36 = .ok (.iinc 3 1, 3) := by decide +kernel
theorem dX5_manyIn_39 : decode (mC mX5_manyIn) 39 = .ok (.goto (-35), 3) := by decide +kernel
theorem dX5_manyIn_42 : decode (mC mX5_manyIn) 42 = .ok (.iload_n 2, 1) := by decide +kernel
theorem dX5_manyIn_43 : decode (mC mX5_manyIn) 43 = .ok (.ireturn, 1) := by decide +kernel
theorem dX5_doorsBy_0 : decode (mC mX5_doorsBy) 0 = .ok (.iconst 0, 1) := by decide +kernel
theorem dX5_doorsBy_1 : decode (mC mX5_doorsBy) 1 = .ok (.istore_n 3, 1) := by decide +kernel
theorem dX5_doorsBy_2 : decode (mC mX5_doorsBy) 2 = .ok (.iconst 0, 1) := by decide +kernel
theorem dX5_doorsBy_3 : decode (mC mX5_doorsBy) 3 = .ok (.istore 4, 2) := by decide +kernel
theorem dX5_doorsBy_5 : decode (mC mX5_doorsBy) 5 = .ok (.iload 4, 2) := by decide +kernel
theorem dX5_doorsBy_7 : decode (mC mX5_doorsBy) 7 = .ok (.aload_n 0, 1) := by decide +kernel
theorem dX5_doorsBy_8 : decode (mC mX5_doorsBy) 8 = .ok (.getfield 9, 3) := by decide +kernel
theorem dX5_doorsBy_11 : decode (mC mX5_doorsBy) 11 = .ok (.iconst 0, 1) := by decide +kernel
theorem dX5_doorsBy_12 : decode (mC mX5_doorsBy) 12 = .ok (.iaload, 1) := by decide +kernel
theorem dX5_doorsBy_13 : decode (mC mX5_doorsBy) 13 = .ok (.if_icmp .ge 35, 3) := by decide +kernel
theorem dX5_doorsBy_16 : decode (mC mX5_doorsBy) 16 = .ok (.iload_n 3, 1) := by decide +kernel
theorem dX5_doorsBy_17 : decode (mC mX5_doorsBy) 17 = .ok (.aload_n 0, 1) := by decide +kernel
theorem dX5_doorsBy_18 : decode (mC mX5_doorsBy) 18 = .ok (.getfield 9, 3) := by decide +kernel
theorem dX5_doorsBy_21 : decode (mC mX5_doorsBy) 21 = .ok (.iload 4, 2) := by decide +kernel
theorem dX5_doorsBy_23 : decode (mC mX5_doorsBy) 23 = .ok (.iload_n 1, 1) := by decide +kernel
theorem dX5_doorsBy_24 : decode (mC mX5_doorsBy) 24 = .ok (.invokestatic 55, 3) := by decide +kernel
theorem dX5_doorsBy_27 : decode (mC mX5_doorsBy) 27 = .ok (.iaload, 1) := by decide +kernel
theorem dX5_doorsBy_28 : decode (mC mX5_doorsBy) 28 = .ok (.iload_n 2, 1) := by decide +kernel
theorem dX5_doorsBy_29 : decode (mC mX5_doorsBy) 29 = .ok (.if_icmp .ne 10, 3) := by decide +kernel
theorem dX5_doorsBy_32 : decode (mC mX5_doorsBy) 32 = .ok (.iconst 1, 1) := by decide +kernel
theorem dX5_doorsBy_33 : decode (mC mX5_doorsBy) 33 = .ok (.iload 4, 2) := by decide +kernel
theorem dX5_doorsBy_35 : decode (mC mX5_doorsBy) 35 = .ok (.ishl, 1) := by decide +kernel
theorem dX5_doorsBy_36 : decode (mC mX5_doorsBy) 36 = .ok (.goto 4, 3) := by decide +kernel
theorem dX5_doorsBy_39 : decode (mC mX5_doorsBy) 39 = .ok (.iconst 0, 1) := by decide +kernel
theorem dX5_doorsBy_40 : decode (mC mX5_doorsBy) 40 = .ok (.ior, 1) := by decide +kernel
theorem dX5_doorsBy_41 : decode (mC mX5_doorsBy) 41 = .ok (.istore_n 3, 1) := by decide +kernel
theorem dX5_doorsBy_42 : decode (mC mX5_doorsBy) 42 = .ok (.iinc 4 1, 3) := by decide +kernel
theorem dX5_doorsBy_45 : decode (mC mX5_doorsBy) 45 = .ok (.goto (-40), 3) := by decide +kernel
theorem dX5_doorsBy_48 : decode (mC mX5_doorsBy) 48 = .ok (.iload_n 3, 1) := by decide +kernel
theorem dX5_doorsBy_49 : decode (mC mX5_doorsBy) 49 = .ok (.ireturn, 1) := by decide +kernel
theorem dX5_crowd_0 : decode (mC mX5_crowd) 0 = .ok (.iload_n 1, 1) := by decide +kernel
theorem dX5_crowd_1 : decode (mC mX5_crowd) 1 = .ok (.iconst 0, 1) := by decide +kernel
theorem dX5_crowd_2 : decode (mC mX5_crowd) 2 = .ok (.iconst 3, 1) := by decide +kernel
theorem dX5_crowd_3 : decode (mC mX5_crowd) 3 = .ok (.invokestatic 43, 3) := by decide +kernel
theorem dX5_crowd_6 : decode (mC mX5_crowd) 6 = .ok (.ifCond .ne 10, 3) := by decide +kernel
theorem dX5_crowd_9 : decode (mC mX5_crowd) 9 = .ok (.aload_n 0, 1) := by decide +kernel
theorem dX5_crowd_10 : decode (mC mX5_crowd) 10 = .ok (.bipush (-2), 2) := by decide +kernel
theorem dX5_crowd_12 : decode (mC mX5_crowd) 12 = .ok (.invokevirtual 39, 3) := by decide +kernel
theorem dX5_crowd_15 : decode (mC mX5_crowd) 15 = .ok (.ireturn, 1) := by decide +kernel
theorem dX5_crowd_16 : decode (mC mX5_crowd) 16 = .ok (.iconst 0, 1) := by decide +kernel
theorem dX5_crowd_17 : decode (mC mX5_crowd) 17 = .ok (.istore_n 2, 1) := by decide +kernel
theorem dX5_crowd_18 : decode (mC mX5_crowd) 18 = .ok (.iconst 0, 1) := by decide +kernel
theorem dX5_crowd_19 : decode (mC mX5_crowd) 19 = .ok (.istore_n 3, 1) := by decide +kernel
theorem dX5_crowd_20 : decode (mC mX5_crowd) 20 = .ok (.iconst 0, 1) := by decide +kernel
theorem dX5_crowd_21 : decode (mC mX5_crowd) 21 = .ok (.istore 4, 2) := by decide +kernel
theorem dX5_crowd_23 : decode (mC mX5_crowd) 23 = .ok (.iload 4, 2) := by decide +kernel
theorem dX5_crowd_25 : decode (mC mX5_crowd) 25 = .ok (.bipush 8, 2) := by decide +kernel
theorem dX5_crowd_27 : decode (mC mX5_crowd) 27 = .ok (.if_icmp .ge 64, 3) := by decide +kernel
theorem dX5_crowd_30 : decode (mC mX5_crowd) 30 = .ok (.aload_n 0, 1) := by decide +kernel
theorem dX5_crowd_31 : decode (mC mX5_crowd) 31 = .ok (.iload 4, 2) := by decide +kernel
theorem dX5_crowd_33 : decode (mC mX5_crowd) 33 = .ok (.invokevirtual 183, 3) := by decide +kernel
theorem dX5_crowd_36 : decode (mC mX5_crowd) 36 = .ok (.aload_n 0, 1) := by decide +kernel
theorem dX5_crowd_37 : decode (mC mX5_crowd) 37 = .ok (.iload_n 2, 1) := by decide +kernel
theorem dX5_crowd_38 : decode (mC mX5_crowd) 38 = .ok (.invokevirtual 183, 3) := by decide +kernel
theorem dX5_crowd_41 : decode (mC mX5_crowd) 41 = .ok (.if_icmp .le 6, 3) := by decide +kernel
theorem dX5_crowd_44 : decode (mC mX5_crowd) 44 = .ok (.iload 4, 2) := by decide +kernel
theorem dX5_crowd_46 : decode (mC mX5_crowd) 46 = .ok (.istore_n 2, 1) := by decide +kernel
theorem dX5_crowd_47 : decode (mC mX5_crowd) 47 = .ok (.iload_n 3, 1) := by decide +kernel
theorem dX5_crowd_48 : decode (mC mX5_crowd) 48 = .ok (.iload_n 1, 1) := by decide +kernel
theorem dX5_crowd_49 : decode (mC mX5_crowd) 49 = .ok (.iconst 2, 1) := by decide +kernel
theorem dX5_crowd_50 : decode (mC mX5_crowd) 50 = .ok (.if_icmp .ne 15, 3) := by decide +kernel
theorem dX5_crowd_53 : decode (mC mX5_crowd) 53 = .ok (.aload_n 0, 1) := by decide +kernel
theorem dX5_crowd_54 : decode (mC mX5_crowd) 54 = .ok (.iload 4, 2) := by decide +kernel
theorem dX5_crowd_56 : decode (mC mX5_crowd) 56 = .ok (.invokevirtual 183, 3) := by decide +kernel
theorem dX5_crowd_59 : decode (mC mX5_crowd) 59 = .ok (.ifCond .ne 23, 3) := by decide +kernel
theorem dX5_crowd_62 : decode (mC mX5_crowd) 62 = .ok (.goto 13, 3) := by decide +kernel
theorem dX5_crowd_65 : decode (mC mX5_crowd) 65 = .ok (.aload_n 0, 1) := by decide +kernel
theorem dX5_crowd_66 : decode (mC mX5_crowd) 66 = .ok (.iconst 2, 1) := by decide +kernel
theorem dX5_crowd_67 : decode (mC mX5_crowd) 67 = .ok (.iload 4, 2) := by decide +kernel
theorem dX5_crowd_69 : decode (mC mX5_crowd) 69 = .ok (.invokevirtual 186, 3) := by decide +kernel
theorem dX5_crowd_72 : decode (mC mX5_crowd) 72 = .ok (.ifCond .ne 10, 3) := by decide +kernel
theorem dX5_crowd_75 : decode (mC mX5_crowd) 75 = .ok (.iconst 1, 1) := by decide +kernel
theorem dX5_crowd_76 : decode (mC mX5_crowd) 76 = .ok (.iload 4, 2) := by decide +kernel
theorem dX5_crowd_78 : decode (mC mX5_crowd) 78 = .ok (.ishl, 1) := by decide +kernel
theorem dX5_crowd_79 : decode (mC mX5_crowd) 79 = .ok (.goto 4, 3) := by decide +kernel
theorem dX5_crowd_82 : decode (mC mX5_crowd) 82 = .ok (.iconst 0, 1) := by decide +kernel
theorem dX5_crowd_83 : decode (mC mX5_crowd) 83 = .ok (.ior, 1) := by decide +kernel
theorem dX5_crowd_84 : decode (mC mX5_crowd) 84 = .ok (.istore_n 3, 1) := by decide +kernel
theorem dX5_crowd_85 : decode (mC mX5_crowd) 85 = .ok (.iinc 4 1, 3) := by decide +kernel
theorem dX5_crowd_88 : decode (mC mX5_crowd) 88 = .ok (.goto (-65), 3) := by decide +kernel
theorem dX5_crowd_91 : decode (mC mX5_crowd) 91 = .ok (.iload_n 1, 1) := by decide +kernel
theorem dX5_crowd_92 : decode (mC mX5_crowd) 92 = .ok (.ifCond .ne 7, 3) := by decide +kernel
theorem dX5_crowd_95 : decode (mC mX5_crowd) 95 = .ok (.iload_n 2, 1) := by decide +kernel
theorem dX5_crowd_96 : decode (mC mX5_crowd) 96 = .ok (.goto 17, 3) := by decide +kernel
theorem dX5_crowd_99 : decode (mC mX5_crowd) 99 = .ok (.iload_n 1, 1) := by decide +kernel
theorem dX5_crowd_100 : decode (mC mX5_crowd) 100 = .ok (.iconst 1, 1) := by decide +kernel
theorem dX5_crowd_101 : decode (mC mX5_crowd) 101 = .ok (.if_icmp .ne 11, 3) := by decide +kernel
theorem dX5_crowd_104 : decode (mC mX5_crowd) 104 = .ok (.aload_n 0, 1) := by decide +kernel
theorem dX5_crowd_105 : decode (mC mX5_crowd) 105 = .ok (.iload_n 2, 1) := by decide +kernel
theorem dX5_crowd_106 : decode (mC mX5_crowd) 106 = .ok (.invokevirtual 183, 3) := by decide +kernel
theorem dX5_crowd_109 : decode (mC mX5_crowd) 109 = .ok (.goto 4, 3) := by decide +kernel
theorem dX5_crowd_112 : decode (mC mX5_crowd) 112 = .ok (.iload_n 3, 1) := by decide +kernel
theorem dX5_crowd_113 : decode (mC mX5_crowd) 113 = .ok (.ireturn, 1) := by decide +kernel
theorem dX5_handles_0 : decode (mC mX5_handles) 0 = .ok (.iload_n 1, 1) := by decide +kernel
theorem dX5_handles_1 : decode (mC mX5_handles) 1 = .ok (.invokestatic 111, 3) := by decide +kernel
theorem dX5_handles_4 : decode (mC mX5_handles) 4 = .ok (.ifCond .eq 12, 3) := by decide +kernel
theorem dX5_handles_7 : decode (mC mX5_handles) 7 = .ok (.aload_n 0, 1) := by decide +kernel
theorem dX5_handles_8 : decode (mC mX5_handles) 8 = .ok (.iconst 3, 1) := by decide +kernel
theorem dX5_handles_9 : decode (mC mX5_handles) 9 = .ok (.iload_n 1, 1) := by decide +kernel
theorem dX5_handles_10 : decode (mC mX5_handles) 10 = .ok (.invokevirtual 186, 3) := by decide +kernel
theorem dX5_handles_13 : decode (mC mX5_handles) 13 = .ok (.goto 8, 3) := by decide +kernel
theorem dX5_handles_16 : decode (mC mX5_handles) 16 = .ok (.aload_n 0, 1) := by decide +kernel
theorem dX5_handles_17 : decode (mC mX5_handles) 17 = .ok (.iconst (-1), 1) := by decide +kernel
theorem dX5_handles_18 : decode (mC mX5_handles) 18 = .ok (.invokevirtual 39, 3) := by decide +kernel
theorem dX5_handles_21 : decode (mC mX5_handles) 21 = .ok (.ireturn, 1) := by decide +kernel
theorem dX5_meet_0 : decode (mC mX5_meet) 0 = .ok (.iload_n 1, 1) := by decide +kernel
theorem dX5_meet_1 : decode (mC mX5_meet) 1 = .ok (.iconst 0, 1) := by decide +kernel
theorem dX5_meet_2 : decode (mC mX5_meet) 2 = .ok (.iconst 1, 1) := by decide +kernel
theorem dX5_meet_3 : decode (mC mX5_meet) 3 = .ok (.invokestatic 43, 3) := by decide +kernel
theorem dX5_meet_6 : decode (mC mX5_meet) 6 = .ok (.ifCond .ne 10, 3) := by decide +kernel
theorem dX5_meet_9 : decode (mC mX5_meet) 9 = .ok (.aload_n 0, 1) := by decide +kernel
theorem dX5_meet_10 : decode (mC mX5_meet) 10 = .ok (.bipush (-2), 2) := by decide +kernel
theorem dX5_meet_12 : decode (mC mX5_meet) 12 = .ok (.invokevirtual 39, 3) := by decide +kernel
theorem dX5_meet_15 : decode (mC mX5_meet) 15 = .ok (.ireturn, 1) := by decide +kernel
theorem dX5_meet_16 : decode (mC mX5_meet) 16 = .ok (.aload_n 0, 1) := by decide +kernel
theorem dX5_meet_17 : decode (mC mX5_meet) 17 = .ok (.aload_n 0, 1) := by decide +kernel
theorem dX5_meet_18 : decode (mC mX5_meet) 18 = .ok (.getfield 9, 3) := by decide +kernel
theorem dX5_meet_21 : decode (mC mX5_meet) 21 = .ok (.invokevirtual 83, 3) := by decide +kernel
theorem dX5_meet_24 : decode (mC mX5_meet) 24 = .ok (.bipush (-9), 2) := by decide +kernel
theorem dX5_meet_26 : decode (mC mX5_meet) 26 = .ok (.istore_n 2, 1) := by decide +kernel
theorem dX5_meet_27 : decode (mC mX5_meet) 27 = .ok (.bipush 99, 2) := by decide +kernel
theorem dX5_meet_29 : decode (mC mX5_meet) 29 = .ok (.istore_n 3, 1) := by decide +kernel
theorem dX5_meet_30 : decode (mC mX5_meet) 30 = .ok (.iconst 0, 1) := by decide +kernel
theorem dX5_meet_31 : decode (mC mX5_meet) 31 = .ok (.istore 4, 2) := by decide +kernel
theorem dX5_meet_33 : decode (mC mX5_meet) 33 = .ok (.iload 4, 2) := by decide +kernel
theorem dX5_meet_35 : decode (mC mX5_meet) 35 = .ok (.bipush 8, 2) := by decide +kernel
theorem dX5_meet_37 : decode (mC mX5_meet) 37 = .ok (.if_icmp .ge 69, 3) := by decide +kernel
theorem dX5_meet_40 : decode (mC mX5_meet) 40 = .ok (.iconst 0, 1) := by decide +kernel
theorem dX5_meet_41 : decode (mC mX5_meet) 41 = .ok (.istore 5, 2) := by decide +kernel
theorem dX5_meet_43 : decode (mC mX5_meet) 43 = .ok (.iconst 0, 1) := by decide +kernel
theorem dX5_meet_44 : decode (mC mX5_meet) 44 = .ok (.istore 6, 2) := by decide +kernel
theorem dX5_meet_46 : decode (mC mX5_meet) 46 = .ok (.iload 6, 2) := by decide +kernel
theorem dX5_meet_48 : decode (mC mX5_meet) 48 = .ok (.aload_n 0, 1) := by decide +kernel
theorem dX5_meet_49 : decode (mC mX5_meet) 49 = .ok (.getfield 9, 3) := by decide +kernel
theorem dX5_meet_52 : decode (mC mX5_meet) 52 = .ok (.iconst 1, 1) := by decide +kernel
theorem dX5_meet_53 : decode (mC mX5_meet) 53 = .ok (.iaload, 1) := by decide +kernel
theorem dX5_meet_54 : decode (mC mX5_meet) 54 = .ok (.if_icmp .ge 31, 3) := by decide +kernel
theorem dX5_meet_57 : decode (mC mX5_meet) 57 = .ok (.iload 5, 2) := by decide +kernel
theorem dX5_meet_59 : decode (mC mX5_meet) 59 = .ok (.aload_n 0, 1) := by decide +kernel
theorem dX5_meet_60 : decode (mC mX5_meet) 60 = .ok (.aload_n 0, 1) := by decide +kernel
theorem dX5_meet_61 : decode (mC mX5_meet) 61 = .ok (.getfield 9, 3) := by decide +kernel
theorem dX5_meet_64 : decode (mC mX5_meet) 64 = .ok (.iload 6, 2) := by decide +kernel
theorem dX5_meet_66 : decode (mC mX5_meet) 66 = .ok (.iconst 0, 1) := by decide +kernel
theorem dX5_meet_67 : decode (mC mX5_meet) 67 = .ok (.invokestatic 51, 3) := by decide +kernel
theorem dX5_meet_70 : decode (mC mX5_meet) 70 = .ok (.iaload, 1) := by decide +kernel
theorem dX5_meet_71 : decode (mC mX5_meet) 71 = .ok (.iload 4, 2) := by decide +kernel
theorem dX5_meet_73 : decode (mC mX5_meet) 73 = .ok (.invokevirtual 69, 3) := by decide +kernel
theorem dX5_meet_76 : decode (mC mX5_meet) 76 = .ok (.iadd, 1) := by decide +kernel
theorem dX5_meet_77 : decode (mC mX5_meet) 77 = .ok (.istore 5, 2) := by decide +kernel
theorem dX5_meet_79 : decode (mC mX5_meet) 79 = .ok (.iinc 6 1, 3) := by decide +kernel
theorem dX5_meet_82 : decode (mC mX5_meet) 82 = .ok (.goto (-36), 3) := by decide +kernel
theorem dX5_meet_85 : decode (mC mX5_meet) 85 = .ok (.iload 5, 2) := by decide +kernel
theorem dX5_meet_87 : decode (mC mX5_meet) 87 = .ok (.iload_n 3, 1) := by decide +kernel
theorem dX5_meet_88 : decode (mC mX5_meet) 88 = .ok (.if_icmp .lt 6, 3) := by decide +kernel
theorem dX5_meet_91 : decode (mC mX5_meet) 91 = .ok (.goto 9, 3) := by decide +kernel
theorem dX5_meet_94 : decode (mC mX5_meet) 94 = .ok (.iload 4, 2) := by decide +kernel
theorem dX5_meet_96 : decode (mC mX5_meet) 96 = .ok (.istore_n 2, 1) := by decide +kernel
theorem dX5_meet_97 : decode (mC mX5_meet) 97 = .ok (.iload 5, 2) := by decide +kernel
theorem dX5_meet_99 : decode (mC mX5_meet) 99 = .ok (.istore_n 3, 1) := by decide +kernel
theorem dX5_meet_100 : decode (mC mX5_meet) 100 = .ok (.iinc 4 1, 3) := by decide +kernel
theorem dX5_meet_103 : decode (mC mX5_meet) 103 = .ok (.goto (-70), 3) := by decide +kernel
theorem dX5_meet_106 : decode (mC mX5_meet) 106 = .ok (.iload_n 2, 1) := by decide +kernel
theorem dX5_meet_107 : decode (mC mX5_meet) 107 = .ok (.ifCond .lt 7, 3) := by decide +kernel
theorem dX5_meet_110 : decode (mC mX5_meet) 110 = .ok (.iload_n 1, 1) := by decide +kernel
theorem dX5_meet_111 : decode (mC mX5_meet) 111 = .ok (.ifCond .ne 7, 3) := by decide +kernel
theorem dX5_meet_114 : decode (mC mX5_meet) 114 = .ok (.iload_n 2, 1) := by decide +kernel
theorem dX5_meet_115 : decode (mC mX5_meet) 115 = .ok (.goto 4, 3) := by decide +kernel
theorem dX5_meet_118 : decode (mC mX5_meet) 118 = .ok (.iload_n 3, 1) := by decide +kernel
theorem dX5_meet_119 : decode (mC mX5_meet) 119 = .ok (.ireturn, 1) := by decide +kernel
theorem dX5_hasBy_0 : decode (mC mX5_hasBy) 0 = .ok (.aload_n 0, 1) := by decide +kernel
theorem dX5_hasBy_1 : decode (mC mX5_hasBy) 1 = .ok (.getfield 9, 3) := by decide +kernel
theorem dX5_hasBy_4 : decode (mC mX5_hasBy) 4 = .ok (.aload_n 0, 1) := by decide +kernel
theorem dX5_hasBy_5 : decode (mC mX5_hasBy) 5 = .ok (.getfield 13, 3) := by decide +kernel
theorem dX5_hasBy_8 : decode (mC mX5_hasBy) 8 = .ok (.invokestatic 138, 3) := by decide +kernel
theorem dX5_hasBy_11 : decode (mC mX5_hasBy) 11 = .ok (.iload_n 3, 1) := by decide +kernel
theorem dX5_hasBy_12 : decode (mC mX5_hasBy) 12 = .ok (.iconst 1, 1) := by decide +kernel
theorem dX5_hasBy_13 : decode (mC mX5_hasBy) 13 = .ok (.if_icmp .ne 23, 3) := by decide +kernel
theorem dX5_hasBy_16 : decode (mC mX5_hasBy) 16 = .ok (.aload_n 0, 1) := by decide +kernel
theorem dX5_hasBy_17 : decode (mC mX5_hasBy) 17 = .ok (.getfield 13, 3) := by decide +kernel
theorem dX5_hasBy_20 : decode (mC mX5_hasBy) 20 = .ok (.iload_n 2, 1) := by decide +kernel
theorem dX5_hasBy_21 : decode (mC mX5_hasBy) 21 = .ok (.iconst 1, 1) := by decide +kernel
theorem dX5_hasBy_22 : decode (mC mX5_hasBy) 22 = .ok (.invokestatic 51, 3) := by decide +kernel
theorem dX5_hasBy_25 : decode (mC mX5_hasBy) 25 = .ok (.aload_n 0, 1) := by decide +kernel
theorem dX5_hasBy_26 : decode (mC mX5_hasBy) 26 = .ok (.getfield 9, 3) := by decide +kernel
theorem dX5_hasBy_29 : decode (mC mX5_hasBy) 29 = .ok (.iload_n 2, 1) := by decide +kernel
theorem dX5_hasBy_30 : decode (mC mX5_hasBy) 30 = .ok (.iconst 0, 1) := by decide +kernel
theorem dX5_hasBy_31 : decode (mC mX5_hasBy) 31 = .ok (.invokestatic 51, 3) := by decide +kernel
theorem dX5_hasBy_34 : decode (mC mX5_hasBy) 34 = .ok (.iaload, 1) := by decide +kernel
theorem dX5_hasBy_35 : decode (mC mX5_hasBy) 35 = .ok (.iastore, 1) := by decide +kernel
theorem dX5_hasBy_36 : decode (mC mX5_hasBy) 36 = .ok (.iload 5, 2) := by decide +kernel
theorem dX5_hasBy_38 : decode (mC mX5_hasBy) 38 = .ok (.iconst 1, 1) := by decide +kernel
theorem dX5_hasBy_39 : decode (mC mX5_hasBy) 39 = .ok (.if_icmp .ne 25, 3) := by decide +kernel
theorem dX5_hasBy_42 : decode (mC mX5_hasBy) 42 = .ok (.aload_n 0, 1) := by decide +kernel
theorem dX5_hasBy_43 : decode (mC mX5_hasBy) 43 = .ok (.getfield 13, 3) := by decide +kernel
theorem dX5_hasBy_46 : decode (mC mX5_hasBy) 46 = .ok (.iload 4, 2) := by decide +kernel
theorem dX5_hasBy_48 : decode (mC mX5_hasBy) 48 = .ok (.iconst 1, 1) := by decide +kernel
theorem dX5_hasBy_49 : decode (mC mX5_hasBy) 49 = .ok (.invokestatic 51, 3) := by decide +kernel
theorem dX5_hasBy_52 : decode (mC mX5_hasBy) 52 = .ok (.aload_n 0, 1) := by decide +kernel
theorem dX5_hasBy_53 : decode (mC mX5_hasBy) 53 = .ok (.getfield 9, 3) := by decide +kernel
theorem dX5_hasBy_56 : decode (mC mX5_hasBy) 56 = .ok (.iload 4, 2) := by decide +kernel
theorem dX5_hasBy_58 : decode (mC mX5_hasBy) 58 = .ok (.iconst 0, 1) := by decide +kernel
theorem dX5_hasBy_59 : decode (mC mX5_hasBy) 59 = .ok (.invokestatic 51, 3) := by decide +kernel
theorem dX5_hasBy_62 : decode (mC mX5_hasBy) 62 = .ok (.iaload, 1) := by decide +kernel
theorem dX5_hasBy_63 : decode (mC mX5_hasBy) 63 = .ok (.iastore, 1) := by decide +kernel
theorem dX5_hasBy_64 : decode (mC mX5_hasBy) 64 = .ok (.aload_n 0, 1) := by decide +kernel
theorem dX5_hasBy_65 : decode (mC mX5_hasBy) 65 = .ok (.aload_n 0, 1) := by decide +kernel
theorem dX5_hasBy_66 : decode (mC mX5_hasBy) 66 = .ok (.getfield 13, 3) := by decide +kernel
theorem dX5_hasBy_69 : decode (mC mX5_hasBy) 69 = .ok (.iload 6, 2) := by decide +kernel
theorem dX5_hasBy_71 : decode (mC mX5_hasBy) 71 = .ok (.invokevirtual 132, 3) := by decide +kernel
theorem dX5_hasBy_74 : decode (mC mX5_hasBy) 74 = .ok (.aload_n 0, 1) := by decide +kernel
theorem dX5_hasBy_75 : decode (mC mX5_hasBy) 75 = .ok (.getfield 13, 3) := by decide +kernel
theorem dX5_hasBy_78 : decode (mC mX5_hasBy) 78 = .ok (.iload_n 1, 1) := by decide +kernel
theorem dX5_hasBy_79 : decode (mC mX5_hasBy) 79 = .ok (.iconst 0, 1) := by decide +kernel
theorem dX5_hasBy_80 : decode (mC mX5_hasBy) 80 = .ok (.invokestatic 51, 3) := by decide +kernel
theorem dX5_hasBy_83 : decode (mC mX5_hasBy) 83 = .ok (.iaload, 1) := by decide +kernel
theorem dX5_hasBy_84 : decode (mC mX5_hasBy) 84 = .ok (.aload_n 0, 1) := by decide +kernel
theorem dX5_hasBy_85 : decode (mC mX5_hasBy) 85 = .ok (.getfield 9, 3) := by decide +kernel
theorem dX5_hasBy_88 : decode (mC mX5_hasBy) 88 = .ok (.iload_n 1, 1) := by decide +kernel
theorem dX5_hasBy_89 : decode (mC mX5_hasBy) 89 = .ok (.iconst 1, 1) := by decide +kernel
theorem dX5_hasBy_90 : decode (mC mX5_hasBy) 90 = .ok (.invokestatic 51, 3) := by decide +kernel
theorem dX5_hasBy_93 : decode (mC mX5_hasBy) 93 = .ok (.iaload, 1) := by decide +kernel
theorem dX5_hasBy_94 : decode (mC mX5_hasBy) 94 = .ok (.if_icmp .ne 7, 3) := by decide +kernel
theorem dX5_hasBy_97 : decode (mC mX5_hasBy) 97 = .ok (.iconst 3, 1) := by decide +kernel
theorem dX5_hasBy_98 : decode (mC mX5_hasBy) 98 = .ok (.goto 15, 3) := by decide +kernel
theorem dX5_hasBy_101 : decode (mC mX5_hasBy) 101 = .ok (.aload_n 0, 1) := by decide +kernel
theorem dX5_hasBy_102 : decode (mC mX5_hasBy) 102 = .ok (.getfield 13, 3) := by decide +kernel
theorem dX5_hasBy_105 : decode (mC mX5_hasBy) 105 = .ok (.iload_n 1, 1) := by decide +kernel
theorem dX5_hasBy_106 : decode (mC mX5_hasBy) 106 = .ok (.iconst 2, 1) := by decide +kernel
theorem dX5_hasBy_107 : decode (mC mX5_hasBy) 107 = .ok (.invokestatic 51, 3) := by decide +kernel
theorem dX5_hasBy_110 : decode (mC mX5_hasBy) 110 = .ok (.iaload, 1) := by decide +kernel
theorem dX5_hasBy_111 : decode (mC mX5_hasBy) 111 = .ok (.iconst 4, 1) := by decide +kernel
theorem dX5_hasBy_112 : decode (mC mX5_hasBy) 112 = .ok (.idiv, 1) := by decide +kernel
theorem dX5_hasBy_113 : decode (mC mX5_hasBy) 113 = .ok (.ireturn, 1) := by decide +kernel
theorem dX5_two_0 : decode (mC mX5_two) 0 = .ok (.aload_n 0, 1) := by decide +kernel
theorem dX5_two_1 : decode (mC mX5_two) 1 = .ok (.iload_n 1, 1) := by decide +kernel
theorem dX5_two_2 : decode (mC mX5_two) 2 = .ok (.invokevirtual 122, 3) := by decide +kernel
theorem dX5_two_5 : decode (mC mX5_two) 5 = .ok (.ifCond .eq 26, 3) := by decide +kernel
theorem dX5_two_8 : decode (mC mX5_two) 8 = .ok (.aload_n 0, 1) := by decide +kernel
theorem dX5_two_9 : decode (mC mX5_two) 9 = .ok (.iload_n 2, 1) := by decide +kernel
theorem dX5_two_10 : decode (mC mX5_two) 10 = .ok (.invokevirtual 122, 3) := by decide +kernel
theorem dX5_two_13 : decode (mC mX5_two) 13 = .ok (.ifCond .eq 18, 3) := by decide +kernel
theorem dX5_two_16 : decode (mC mX5_two) 16 = .ok (.iload_n 1, 1) := by decide +kernel
theorem dX5_two_17 : decode (mC mX5_two) 17 = .ok (.iload_n 2, 1) := by decide +kernel
theorem dX5_two_18 : decode (mC mX5_two) 18 = .ok (.if_icmp .eq 13, 3) := by decide +kernel
theorem dX5_two_21 : decode (mC mX5_two) 21 = .ok (.iload_n 3, 1) := by decide +kernel
theorem dX5_two_22 : decode (mC mX5_two) 22 = .ok (.iconst 0, 1) := by decide +kernel
theorem dX5_two_23 : decode (mC mX5_two) 23 = .ok (.bipush 30, 2) := by decide +kernel
theorem dX5_two_25 : decode (mC mX5_two) 25 = .ok (.invokestatic 152, 3) := by decide +kernel
theorem dX5_two_28 : decode (mC mX5_two) 28 = .ok (.goto 4, 3) := by decide +kernel
theorem dX5_two_31 : decode (mC mX5_two) 31 = .ok (.iconst (-1), 1) := by decide +kernel
theorem dX5_two_32 : decode (mC mX5_two) 32 = .ok (.istore 4, 2) := by decide +kernel
theorem dX5_two_34 : decode (mC mX5_two) 34 = .ok (.iload 4, 2) := by decide +kernel
theorem dX5_two_36 : decode (mC mX5_two) 36 = .ok (.ifCond .eq 10, 3) := by decide +kernel
theorem dX5_two_39 : decode (mC mX5_two) 39 = .ok (.aload_n 0, 1) := by decide +kernel
theorem dX5_two_40 : decode (mC mX5_two) 40 = .ok (.iload 4, 2) := by decide +kernel
theorem dX5_two_42 : decode (mC mX5_two) 42 = .ok (.invokevirtual 39, 3) := by decide +kernel
theorem dX5_two_45 : decode (mC mX5_two) 45 = .ok (.ireturn, 1) := by decide +kernel
theorem dX5_two_46 : decode (mC mX5_two) 46 = .ok (.iconst 0, 1) := by decide +kernel
theorem dX5_two_47 : decode (mC mX5_two) 47 = .ok (.istore 5, 2) := by decide +kernel
theorem dX5_two_49 : decode (mC mX5_two) 49 = .ok (.iload 5, 2) := by decide +kernel
theorem dX5_two_51 : decode (mC mX5_two) 51 = .ok (.iconst 4, 1) := by decide +kernel
theorem dX5_two_52 : decode (mC mX5_two) 52 = .ok (.if_icmp .ge 88, 3) := by decide +kernel
theorem dX5_two_55 : decode (mC mX5_two) 55 = .ok (.iload 5, 2) := by decide +kernel
theorem dX5_two_57 : decode (mC mX5_two) 57 = .ok (.iconst 2, 1) := by decide +kernel
theorem dX5_two_58 : decode (mC mX5_two) 58 = .ok (.idiv, 1) := by decide +kernel
theorem dX5_two_59 : decode (mC mX5_two) 59 = .ok (.istore 6, 2) := by decide +kernel
theorem dX5_two_61 : decode (mC mX5_two) 61 = .ok (.iload 5, 2) := by decide +kernel
theorem dX5_two_63 : decode (mC mX5_two) 63 = .ok (.iconst 2, 1) := by decide +kernel
theorem dX5_two_64 : decode (mC mX5_two) 64 = .ok (.irem, 1) := by decide +kernel
theorem dX5_two_65 : decode (mC mX5_two) 65 = .ok (.istore 7, 2) := by decide +kernel
theorem dX5_two_67 : decode (mC mX5_two) 67 = .ok (.aload_n 0, 1) := by decide +kernel
theorem dX5_two_68 : decode (mC mX5_two) 68 = .ok (.iload_n 1, 1) := by decide +kernel
theorem dX5_two_69 : decode (mC mX5_two) 69 = .ok (.iload_n 1, 1) := by decide +kernel
theorem dX5_two_70 : decode (mC mX5_two) 70 = .ok (.iconst 1, 1) := by decide +kernel
theorem dX5_two_71 : decode (mC mX5_two) 71 = .ok (.iload 6, 2) := by decide +kernel
theorem dX5_two_73 : decode (mC mX5_two) 73 = .ok (.isub, 1) := by decide +kernel
theorem dX5_two_74 : decode (mC mX5_two) 74 = .ok (.iload_n 2, 1) := by decide +kernel
theorem dX5_two_75 : decode (mC mX5_two) 75 = .ok (.iload 7, 2) := by decide +kernel
theorem dX5_two_77 : decode (mC mX5_two) 77 = .ok (.iload_n 3, 1) := by decide +kernel
theorem dX5_two_78 : decode (mC mX5_two) 78 = .ok (.invokevirtual 189, 3) := by decide +kernel
theorem dX5_two_81 : decode (mC mX5_two) 81 = .ok (.aload_n 0, 1) := by decide +kernel
theorem dX5_two_82 : decode (mC mX5_two) 82 = .ok (.iload_n 1, 1) := by decide +kernel
theorem dX5_two_83 : decode (mC mX5_two) 83 = .ok (.iload_n 1, 1) := by decide +kernel
theorem dX5_two_84 : decode (mC mX5_two) 84 = .ok (.iload 6, 2) := by decide +kernel
theorem dX5_two_86 : decode (mC mX5_two) 86 = .ok (.iload_n 2, 1) := by decide +kernel
theorem dX5_two_87 : decode (mC mX5_two) 87 = .ok (.iload 7, 2) := by decide +kernel
theorem dX5_two_89 : decode (mC mX5_two) 89 = .ok (.iload_n 3, 1) := by decide +kernel
theorem dX5_two_90 : decode (mC mX5_two) 90 = .ok (.invokevirtual 189, 3) := by decide +kernel
theorem dX5_two_93 : decode (mC mX5_two) 93 = .ok (.if_icmp .gt 41, 3) := by decide +kernel
theorem dX5_two_96 : decode (mC mX5_two) 96 = .ok (.aload_n 0, 1) := by decide +kernel
theorem dX5_two_97 : decode (mC mX5_two) 97 = .ok (.iload_n 2, 1) := by decide +kernel
theorem dX5_two_98 : decode (mC mX5_two) 98 = .ok (.iload_n 1, 1) := by decide +kernel
theorem dX5_two_99 : decode (mC mX5_two) 99 = .ok (.iload 6, 2) := by decide +kernel
theorem dX5_two_101 : decode (mC mX5_two) 101 = .ok (.iload_n 2, 1) := by decide +kernel
theorem dX5_two_102 : decode (mC mX5_two) 102 = .ok (.iconst 1, 1) := by decide +kernel
theorem dX5_two_103 : decode (mC mX5_two) 103 = .ok (.iload 7, 2) := by decide +kernel
theorem dX5_two_105 : decode (mC mX5_two) 105 = .ok (.isub, 1) := by decide +kernel
theorem dX5_two_106 : decode (mC mX5_two) 106 = .ok (.iload_n 3, 1) := by decide +kernel
theorem dX5_two_107 : decode (mC mX5_two) 107 = .ok (.invokevirtual 189, 3) := by decide +kernel
theorem dX5_two_110 : decode (mC mX5_two) 110 = .ok (.aload_n 0, 1) := by decide +kernel
theorem dX5_two_111 : decode (mC mX5_two) 111 = .ok (.iload_n 2, 1) := by decide +kernel
theorem dX5_two_112 : decode (mC mX5_two) 112 = .ok (.iload_n 1, 1) := by decide +kernel
theorem dX5_two_113 : decode (mC mX5_two) 113 = .ok (.iload 6, 2) := by decide +kernel
theorem dX5_two_115 : decode (mC mX5_two) 115 = .ok (.iload_n 2, 1) := by decide +kernel
theorem dX5_two_116 : decode (mC mX5_two) 116 = .ok (.iload 7, 2) := by decide +kernel
theorem dX5_two_118 : decode (mC mX5_two) 118 = .ok (.iload_n 3, 1) := by decide +kernel
theorem dX5_two_119 : decode (mC mX5_two) 119 = .ok (.invokevirtual 189, 3) := by decide +kernel
theorem dX5_two_122 : decode (mC mX5_two) 122 = .ok (.if_icmp .gt 12, 3) := by decide +kernel
theorem dX5_two_125 : decode (mC mX5_two) 125 = .ok (.bipush 10, 2) := by decide +kernel
theorem dX5_two_127 : decode (mC mX5_two) 127 = .ok (.iload 6, 2) := by decide +kernel
theorem dX5_two_129 : decode (mC mX5_two) 129 = .ok (.imul, 1) := by decide +kernel
theorem dX5_two_130 : decode (mC mX5_two) 130 = .ok (.iload 7, 2) := by decide +kernel
theorem dX5_two_132 : decode (mC mX5_two) 132 = .ok (.iadd, 1) := by decide +kernel
theorem dX5_two_133 : decode (mC mX5_two) 133 = .ok (.ireturn, 1) := by decide +kernel
theorem dX5_two_134 : decode (mC mX5_two) 134 = .ok (.iinc 5 1, 3) := by decide +kernel
theorem dX5_two_137 : decode (mC mX5_two) 137 = .ok (.goto (-88), 3) := by decide +kernel
theorem dX5_two_140 : decode (mC mX5_two) 140 = .ok (.bipush (-9), 2) := by decide +kernel
theorem dX5_two_142 : decode (mC mX5_two) 142 = .ok (.ireturn, 1) := by decide +kernel
theorem dX5_gcd_0 : decode (mC mX5_gcd) 0 = .ok (.lload_n 0, 1) := by decide +kernel
theorem dX5_gcd_1 : decode (mC mX5_gcd) 1 = .ok (.lstore 4, 2) := by decide +kernel
theorem dX5_gcd_3 : decode (mC mX5_gcd) 3 = .ok (.lload_n 2, 1) := by decide +kernel
theorem dX5_gcd_4 : decode (mC mX5_gcd) 4 = .ok (.lstore 6, 2) := by decide +kernel
theorem dX5_gcd_6 : decode (mC mX5_gcd) 6 = .ok (.lload 6, 2) := by decide +kernel
theorem dX5_gcd_8 : decode (mC mX5_gcd) 8 = .ok (.lconst 0, 1) := by decide +kernel
theorem dX5_gcd_9 : decode (mC mX5_gcd) 9 = .ok (.lcmp, 1) := by decide +kernel
theorem dX5_gcd_10 : decode (mC mX5_gcd) 10 = .ok (.ifCond .eq 21, 3) := by decide +kernel
theorem dX5_gcd_13 : decode (mC mX5_gcd) 13 = .ok (.lload 4, 2) := by decide +kernel
theorem dX5_gcd_15 : decode (mC mX5_gcd) 15 = .ok (.lload 6, 2) := by decide +kernel
theorem dX5_gcd_17 : decode (mC mX5_gcd) 17 = .ok (.lrem, 1) := by decide +kernel
theorem dX5_gcd_18 : decode (mC mX5_gcd) 18 = .ok (.lstore 8, 2) := by decide +kernel
theorem dX5_gcd_20 : decode (mC mX5_gcd) 20 = .ok (.lload 6, 2) := by decide +kernel
theorem dX5_gcd_22 : decode (mC mX5_gcd) 22 = .ok (.lstore 4, 2) := by decide +kernel
theorem dX5_gcd_24 : decode (mC mX5_gcd) 24 = .ok (.lload 8, 2) := by decide +kernel
theorem dX5_gcd_26 : decode (mC mX5_gcd) 26 = .ok (.lstore 6, 2) := by decide +kernel
theorem dX5_gcd_28 : decode (mC mX5_gcd) 28 = .ok (.goto (-22), 3) := by decide +kernel
theorem dX5_gcd_31 : decode (mC mX5_gcd) 31 = .ok (.lload 4, 2) := by decide +kernel
theorem dX5_gcd_33 : decode (mC mX5_gcd) 33 = .ok (.lreturn, 1) := by decide +kernel
theorem dX5_partOf_0 : decode (mC mX5_partOf) 0 = .ok (.lload_n 0, 1) := by decide +kernel
theorem dX5_partOf_1 : decode (mC mX5_partOf) 1 = .ok (.lconst 0, 1) := by decide +kernel
theorem dX5_partOf_2 : decode (mC mX5_partOf) 2 = .ok (.lcmp, 1) := by decide +kernel
theorem dX5_partOf_3 : decode (mC mX5_partOf) 3 = .ok (.ifCond .ne 7, 3) := by decide +kernel
theorem dX5_partOf_6 : decode (mC mX5_partOf) 6 = .ok (.iload 4, 2) := by decide +kernel
theorem dX5_partOf_8 : decode (mC mX5_partOf) 8 = .ok (.i2l, 1) := by decide +kernel
theorem dX5_partOf_9 : decode (mC mX5_partOf) 9 = .ok (.lreturn, 1) := by decide +kernel
theorem dX5_partOf_10 : decode (mC mX5_partOf) 10 = .ok (.iload 4, 2) := by decide +kernel
theorem dX5_partOf_12 : decode (mC mX5_partOf) 12 = .ok (.ifCond .ne 7, 3) := by decide +kernel
theorem dX5_partOf_15 : decode (mC mX5_partOf) 15 = .ok (.lload_n 0, 1) := by decide +kernel
theorem dX5_partOf_16 : decode (mC mX5_partOf) 16 = .ok (.goto 4, 3) := by decide +kernel
theorem dX5_partOf_19 : decode (mC mX5_partOf) 19 = .ok (.lload_n 2, 1) := by decide +kernel
theorem dX5_partOf_20 : decode (mC mX5_partOf) 20 = .ok (.lload_n 0, 1) := by decide +kernel
theorem dX5_partOf_21 : decode (mC mX5_partOf) 21 = .ok (.lload_n 2, 1) := by decide +kernel
theorem dX5_partOf_22 : decode (mC mX5_partOf) 22 = .ok (.invokestatic 193, 3) := by decide +kernel
theorem dX5_partOf_25 : decode (mC mX5_partOf) 25 = .ok (.ldiv, 1) := by decide +kernel
theorem dX5_partOf_26 : decode (mC mX5_partOf) 26 = .ok (.lreturn, 1) := by decide +kernel
theorem dX5_hourBy_0 : decode (mC mX5_hourBy) 0 = .ok (.iconst 0, 1) := by decide +kernel
theorem dX5_hourBy_1 : decode (mC mX5_hourBy) 1 = .ok (.istore_n 2, 1) := by decide +kernel
theorem dX5_hourBy_2 : decode (mC mX5_hourBy) 2 = .ok (.iload_n 2, 1) := by decide +kernel
theorem dX5_hourBy_3 : decode (mC mX5_hourBy) 3 = .ok (.aload_n 0, 1) := by decide +kernel
theorem dX5_hourBy_4 : decode (mC mX5_hourBy) 4 = .ok (.getfield 13, 3) := by decide +kernel
theorem dX5_hourBy_7 : decode (mC mX5_hourBy) 7 = .ok (.iconst 0, 1) := by decide +kernel
theorem dX5_hourBy_8 : decode (mC mX5_hourBy) 8 = .ok (.iaload, 1) := by decide +kernel
theorem dX5_hourBy_9 : decode (mC mX5_hourBy) 9 = .ok (.if_icmp .ge 37, 3) := by decide +kernel
theorem dX5_hourBy_12 : decode (mC mX5_hourBy) 12 = .ok (.aload_n 0, 1) := by decide +kernel
theorem dX5_hourBy_13 : decode (mC mX5_hourBy) 13 = .ok (.getfield 13, 3) := by decide +kernel
theorem dX5_hourBy_16 : decode (mC mX5_hourBy) 16 = .ok (.iload_n 2, 1) := by decide +kernel
theorem dX5_hourBy_17 : decode (mC mX5_hourBy) 17 = .ok (.iconst 4, 1) := by decide +kernel
theorem dX5_hourBy_18 : decode (mC mX5_hourBy) 18 = .ok (.invokestatic 55, 3) := by decide +kernel
theorem dX5_hourBy_21 : decode (mC mX5_hourBy) 21 = .ok (.iload_n 1, 1) := by decide +kernel
theorem dX5_hourBy_22 : decode (mC mX5_hourBy) 22 = .ok (.ifCond .eq 7, 3) := by decide +kernel
theorem dX5_hourBy_25 : decode (mC mX5_hourBy) 25 = .ok (.iconst 1, 1) := by decide +kernel
theorem dX5_hourBy_26 : decode (mC mX5_hourBy) 26 = .ok (.goto 13, 3) := by decide +kernel
theorem dX5_hourBy_29 : decode (mC mX5_hourBy) 29 = .ok (.aload_n 0, 1) := by decide +kernel
theorem dX5_hourBy_30 : decode (mC mX5_hourBy) 30 = .ok (.getfield 9, 3) := by decide +kernel
theorem dX5_hourBy_33 : decode (mC mX5_hourBy) 33 = .ok (.iload_n 2, 1) := by decide +kernel
theorem dX5_hourBy_34 : decode (mC mX5_hourBy) 34 = .ok (.iconst 4, 1) := by decide +kernel
theorem dX5_hourBy_35 : decode (mC mX5_hourBy) 35 = .ok (.invokestatic 55, 3) := by decide +kernel
theorem dX5_hourBy_38 : decode (mC mX5_hourBy) 38 = .ok (.iaload, 1) := by decide +kernel
theorem dX5_hourBy_39 : decode (mC mX5_hourBy) 39 = .ok (.iastore, 1) := by decide +kernel
theorem dX5_hourBy_40 : decode (mC mX5_hourBy) 40 = .ok (.iinc 2 1, 3) := by decide +kernel
theorem dX5_hourBy_43 : decode (mC mX5_hourBy) 43 = .ok (.goto (-41), 3) := by decide +kernel
theorem dX5_hourBy_46 : decode (mC mX5_hourBy) 46 = .ok (.aload_n 0, 1) := by decide +kernel
theorem dX5_hourBy_47 : decode (mC mX5_hourBy) 47 = .ok (.aload_n 0, 1) := by decide +kernel
theorem dX5_hourBy_48 : decode (mC mX5_hourBy) 48 = .ok (.getfield 13, 3) := by decide +kernel
theorem dX5_hourBy_51 : decode (mC mX5_hourBy) 51 = .ok (.invokevirtual 87, 3) := by decide +kernel
theorem dX5_hourBy_54 : decode (mC mX5_hourBy) 54 = .ok (.return_, 1) := by decide +kernel
theorem dX5_fire_0 : decode (mC mX5_fire) 0 = .ok (.aload_n 0, 1) := by decide +kernel
theorem dX5_fire_1 : decode (mC mX5_fire) 1 = .ok (.iload_n 1, 1) := by decide +kernel
theorem dX5_fire_2 : decode (mC mX5_fire) 2 = .ok (.iload_n 2, 1) := by decide +kernel
theorem dX5_fire_3 : decode (mC mX5_fire) 3 = .ok (.invokevirtual 145, 3) := by decide +kernel
theorem dX5_fire_6 : decode (mC mX5_fire) 6 = .ok (.ifCond .eq 9, 3) := by decide +kernel
theorem dX5_fire_9 : decode (mC mX5_fire) 9 = .ok (.aload_n 0, 1) := by decide +kernel
theorem dX5_fire_10 : decode (mC mX5_fire) 10 = .ok (.iconst (-1), 1) := by decide +kernel
theorem dX5_fire_11 : decode (mC mX5_fire) 11 = .ok (.invokevirtual 197, 3) := by decide +kernel
theorem dX5_fire_14 : decode (mC mX5_fire) 14 = .ok (.lreturn, 1) := by decide +kernel
theorem dX5_fire_15 : decode (mC mX5_fire) 15 = .ok (.iload_n 3, 1) := by decide +kernel
theorem dX5_fire_16 : decode (mC mX5_fire) 16 = .ok (.ifCond .lt 9, 3) := by decide +kernel
theorem dX5_fire_19 : decode (mC mX5_fire) 19 = .ok (.iload 4, 2) := by decide +kernel
theorem dX5_fire_21 : decode (mC mX5_fire) 21 = .ok (.iconst 2, 1) := by decide +kernel
theorem dX5_fire_22 : decode (mC mX5_fire) 22 = .ok (.if_icmp .ge 10, 3) := by decide +kernel
theorem dX5_fire_25 : decode (mC mX5_fire) 25 = .ok (.aload_n 0, 1) := by decide +kernel
theorem dX5_fire_26 : decode (mC mX5_fire) 26 = .ok (.bipush (-4), 2) := by decide +kernel
theorem dX5_fire_28 : decode (mC mX5_fire) 28 = .ok (.invokevirtual 197, 3) := by decide +kernel
theorem dX5_fire_31 : decode (mC mX5_fire) 31 = .ok (.lreturn, 1) := by decide +kernel
theorem dX5_fire_32 : decode (mC mX5_fire) 32 = .ok (.iload_n 3, 1) := by decide +kernel
theorem dX5_fire_33 : decode (mC mX5_fire) 33 = .ok (.bipush 7, 2) := by decide +kernel
theorem dX5_fire_35 : decode (mC mX5_fire) 35 = .ok (.if_icmp .gt 10, 3) := by decide +kernel
theorem dX5_fire_38 : decode (mC mX5_fire) 38 = .ok (.iload 4, 2) := by decide +kernel
theorem dX5_fire_40 : decode (mC mX5_fire) 40 = .ok (.bipush 20, 2) := by decide +kernel
theorem dX5_fire_42 : decode (mC mX5_fire) 42 = .ok (.if_icmp .le 10, 3) := by decide +kernel
theorem dX5_fire_45 : decode (mC mX5_fire) 45 = .ok (.aload_n 0, 1) := by decide +kernel
theorem dX5_fire_46 : decode (mC mX5_fire) 46 = .ok (.bipush (-6), 2) := by decide +kernel
theorem dX5_fire_48 : decode (mC mX5_fire) 48 = .ok (.invokevirtual 197, 3) := by decide +kernel
theorem dX5_fire_51 : decode (mC mX5_fire) 51 = .ok (.lreturn, 1) := by decide +kernel
theorem dX5_fire_52 : decode (mC mX5_fire) 52 = .ok (.iload 5, 2) := by decide +kernel
theorem dX5_fire_54 : decode (mC mX5_fire) 54 = .ok (.iconst 0, 1) := by decide +kernel
theorem dX5_fire_55 : decode (mC mX5_fire) 55 = .ok (.iconst 1, 1) := by decide +kernel
theorem dX5_fire_56 : decode (mC mX5_fire) 56 = .ok (.invokestatic 43, 3) := by decide +kernel
theorem dX5_fire_59 : decode (mC mX5_fire) 59 = .ok (.ifCond .ne 10, 3) := by decide +kernel
theorem dX5_fire_62 : decode (mC mX5_fire) 62 = .ok (.aload_n 0, 1) := by decide +kernel
theorem dX5_fire_63 : decode (mC mX5_fire) 63 = .ok (.bipush (-2), 2) := by decide +kernel
theorem dX5_fire_65 : decode (mC mX5_fire) 65 = .ok (.invokevirtual 197, 3) := by decide +kernel
theorem dX5_fire_68 : decode (mC mX5_fire) 68 = .ok (.lreturn, 1) := by decide +kernel
theorem dX5_fire_69 : decode (mC mX5_fire) 69 = .ok (.lconst 0, 1) := by decide +kernel
theorem dX5_fire_70 : decode (mC mX5_fire) 70 = .ok (.lstore 6, 2) := by decide +kernel
theorem dX5_fire_72 : decode (mC mX5_fire) 72 = .ok (.lconst 1, 1) := by decide +kernel
theorem dX5_fire_73 : decode (mC mX5_fire) 73 = .ok (.lstore 8, 2) := by decide +kernel
theorem dX5_fire_75 : decode (mC mX5_fire) 75 = .ok (.iconst 0, 1) := by decide +kernel
theorem dX5_fire_76 : decode (mC mX5_fire) 76 = .ok (.istore 10, 2) := by decide +kernel
theorem dX5_fire_78 : decode (mC mX5_fire) 78 = .ok (.iload 10, 2) := by decide +kernel
theorem dX5_fire_80 : decode (mC mX5_fire) 80 = .ok (.iload_n 3, 1) := by decide +kernel
theorem dX5_fire_81 : decode (mC mX5_fire) 81 = .ok (.if_icmp .ge 17, 3) := by decide +kernel
theorem dX5_fire_84 : decode (mC mX5_fire) 84 = .ok (.lload 8, 2) := by decide +kernel
theorem dX5_fire_86 : decode (mC mX5_fire) 86 = .ok (.iload 4, 2) := by decide +kernel
theorem dX5_fire_88 : decode (mC mX5_fire) 88 = .ok (.i2l, 1) := by decide +kernel
theorem dX5_fire_89 : decode (mC mX5_fire) 89 = .ok (.lmul, 1) := by decide +kernel
theorem dX5_fire_90 : decode (mC mX5_fire) 90 = .ok (.lstore 8, 2) := by decide +kernel
theorem dX5_fire_92 : decode (mC mX5_fire) 92 = .ok (.iinc 10 1, 3) := by decide +kernel
theorem dX5_fire_95 : decode (mC mX5_fire) 95 = .ok (.goto (-17), 3) := by decide +kernel
theorem dX5_fire_98 : decode (mC mX5_fire) 98 = .ok (.iconst 0, 1) := by decide +kernel
theorem dX5_fire_99 : decode (mC mX5_fire) 99 = .ok (.istore 10, 2) := by decide +kernel
theorem dX5_fire_101 : decode (mC mX5_fire) 101 = .ok (.iload 10, 2) := by decide +kernel
theorem dX5_fire_103 : decode (mC mX5_fire) 103 = .ok (.iconst 1, 1) := by decide +kernel
theorem dX5_fire_104 : decode (mC mX5_fire) 104 = .ok (.iload_n 3, 1) := by decide +kernel
theorem dX5_fire_105 : decode (mC mX5_fire) 105 = .ok (.ishl, 1) := by decide +kernel
theorem dX5_fire_106 : decode (mC mX5_fire) 106 = .ok (.if_icmp .ge 92, 3) := by decide +kernel
theorem dX5_fire_109 : decode (mC mX5_fire) 109 = .ok (.lconst 1, 1) := by decide +kernel
theorem dX5_fire_110 : decode (mC mX5_fire) 110 = .ok (.lstore 11, 2) := by decide +kernel
theorem dX5_fire_112 : decode (mC mX5_fire) 112 = .ok (.aload_n 0, 1) := by decide +kernel
theorem dX5_fire_113 : decode (mC mX5_fire) 113 = .ok (.iconst 0, 1) := by decide +kernel
theorem dX5_fire_114 : decode (mC mX5_fire) 114 = .ok (.invokevirtual 162, 3) := by decide +kernel
theorem dX5_fire_117 : decode (mC mX5_fire) 117 = .ok (.iconst 0, 1) := by decide +kernel
theorem dX5_fire_118 : decode (mC mX5_fire) 118 = .ok (.istore 13, 2) := by decide +kernel
theorem dX5_fire_120 : decode (mC mX5_fire) 120 = .ok (.iload 13, 2) := by decide +kernel
theorem dX5_fire_122 : decode (mC mX5_fire) 122 = .ok (.iload_n 3, 1) := by decide +kernel
theorem dX5_fire_123 : decode (mC mX5_fire) 123 = .ok (.if_icmp .ge 44, 3) := by decide +kernel
theorem dX5_fire_126 : decode (mC mX5_fire) 126 = .ok (.lload 11, 2) := by decide +kernel
theorem dX5_fire_128 : decode (mC mX5_fire) 128 = .ok (.iload 10, 2) := by decide +kernel
theorem dX5_fire_130 : decode (mC mX5_fire) 130 = .ok (.iload 13, 2) := by decide +kernel
theorem dX5_fire_132 : decode (mC mX5_fire) 132 = .ok (.invokestatic 47, 3) := by decide +kernel
theorem dX5_fire_135 : decode (mC mX5_fire) 135 = .ok (.ifCond .eq 7, 3) := by decide +kernel
theorem dX5_fire_138 : decode (mC mX5_fire) 138 = .ok (.lconst 1, 1) := by decide +kernel
theorem dX5_fire_139 : decode (mC mX5_fire) 139 = .ok (.goto 8, 3) := by decide +kernel
theorem dX5_fire_142 : decode (mC mX5_fire) 142 = .ok (.iload 4, 2) := by decide +kernel
theorem dX5_fire_144 : decode (mC mX5_fire) 144 = .ok (.iconst 1, 1) := by decide +kernel
theorem dX5_fire_145 : decode (mC mX5_fire) 145 = .ok (.isub, 1) := by decide +kernel
theorem dX5_fire_146 : decode (mC mX5_fire) 146 = .ok (.i2l, 1) := by decide +kernel
theorem dX5_fire_147 : decode (mC mX5_fire) 147 = .ok (.lmul, 1) := by decide +kernel
theorem dX5_fire_148 : decode (mC mX5_fire) 148 = .ok (.lstore 11, 2) := by decide +kernel
theorem dX5_fire_150 : decode (mC mX5_fire) 150 = .ok (.aload_n 0, 1) := by decide +kernel
theorem dX5_fire_151 : decode (mC mX5_fire) 151 = .ok (.iload 10, 2) := by decide +kernel
theorem dX5_fire_153 : decode (mC mX5_fire) 153 = .ok (.iload 13, 2) := by decide +kernel
theorem dX5_fire_155 : decode (mC mX5_fire) 155 = .ok (.invokestatic 47, 3) := by decide +kernel
theorem dX5_fire_158 : decode (mC mX5_fire) 158 = .ok (.invokevirtual 201, 3) := by decide +kernel
theorem dX5_fire_161 : decode (mC mX5_fire) 161 = .ok (.iinc 13 1, 3) := by decide +kernel
theorem dX5_fire_164 : decode (mC mX5_fire) 164 = .ok (.goto (-44), 3) := by decide +kernel
theorem dX5_fire_167 : decode (mC mX5_fire) 167 = .ok (.lload 6, 2) := by decide +kernel
theorem dX5_fire_169 : decode (mC mX5_fire) 169 = .ok (.aload_n 0, 1) := by decide +kernel
theorem dX5_fire_170 : decode (mC mX5_fire) 170 = .ok (.getfield 13, 3) := by decide +kernel
theorem dX5_fire_173 : decode (mC mX5_fire) 173 = .ok (.iload_n 1, 1) := by decide +kernel
theorem dX5_fire_174 : decode (mC mX5_fire) 174 = .ok (.iconst 0, 1) := by decide +kernel
theorem dX5_fire_175 : decode (mC mX5_fire) 175 = .ok (.invokestatic 51, 3) := by decide +kernel
theorem dX5_fire_178 : decode (mC mX5_fire) 178 = .ok (.iaload, 1) := by decide +kernel
theorem dX5_fire_179 : decode (mC mX5_fire) 179 = .ok (.iload_n 2, 1) := by decide +kernel
theorem dX5_fire_180 : decode (mC mX5_fire) 180 = .ok (.if_icmp .ne 8, 3) := by decide +kernel
theorem dX5_fire_183 : decode (mC mX5_fire) 183 = .ok (.lload 11, 2) := by decide +kernel
theorem dX5_fire_185 : decode (mC mX5_fire) 185 = .ok (.goto 4, 3) := by decide +kernel
theorem dX5_fire_188 : decode (mC mX5_fire) 188 = .ok (.lconst 0, 1) := by decide +kernel
theorem dX5_fire_189 : decode (mC mX5_fire) 189 = .ok (.ladd, 1) := by decide +kernel
theorem dX5_fire_190 : decode (mC mX5_fire) 190 = .ok (.lstore 6, 2) := by decide +kernel
theorem dX5_fire_192 : decode (mC mX5_fire) 192 = .ok (.iinc 10 1, 3) := by decide +kernel
theorem dX5_fire_195 : decode (mC mX5_fire) 195 = .ok (.goto (-94), 3) := by decide +kernel
theorem dX5_fire_198 : decode (mC mX5_fire) 198 = .ok (.lload 6, 2) := by decide +kernel
theorem dX5_fire_200 : decode (mC mX5_fire) 200 = .ok (.lload 8, 2) := by decide +kernel
theorem dX5_fire_202 : decode (mC mX5_fire) 202 = .ok (.iload 5, 2) := by decide +kernel
theorem dX5_fire_204 : decode (mC mX5_fire) 204 = .ok (.invokestatic 205, 3) := by decide +kernel
theorem dX5_fire_207 : decode (mC mX5_fire) 207 = .ok (.lreturn, 1) := by decide +kernel
theorem dX5_allMoods_0 : decode (mC mX5_allMoods) 0 = .ok (.iconst 0, 1) := by decide +kernel
theorem dX5_allMoods_1 : decode (mC mX5_allMoods) 1 = .ok (.istore_n 1, 1) := by decide +kernel
theorem dX5_allMoods_2 : decode (mC mX5_allMoods) 2 = .ok (.iconst 0, 1) := by decide +kernel
theorem dX5_allMoods_3 : decode (mC mX5_allMoods) 3 = .ok (.istore_n 2, 1) := by decide +kernel
theorem dX5_allMoods_4 : decode (mC mX5_allMoods) 4 = .ok (.iload_n 2, 1) := by decide +kernel
theorem dX5_allMoods_5 : decode (mC mX5_allMoods) 5 = .ok (.aload_n 0, 1) := by decide +kernel
theorem dX5_allMoods_6 : decode (mC mX5_allMoods) 6 = .ok (.getfield 9, 3) := by decide +kernel
theorem dX5_allMoods_9 : decode (mC mX5_allMoods) 9 = .ok (.iconst 1, 1) := by decide +kernel
theorem dX5_allMoods_10 : decode (mC mX5_allMoods) 10 = .ok (.iaload, 1) := by decide +kernel
theorem dX5_allMoods_11 : decode (mC mX5_allMoods) 11 = .ok (.if_icmp .ge 22, 3) := by decide +kernel
theorem dX5_allMoods_14 : decode (mC mX5_allMoods) 14 = .ok (.iload_n 1, 1) := by decide +kernel
theorem dX5_allMoods_15 : decode (mC mX5_allMoods) 15 = .ok (.aload_n 0, 1) := by decide +kernel
theorem dX5_allMoods_16 : decode (mC mX5_allMoods) 16 = .ok (.getfield 9, 3) := by decide +kernel
theorem dX5_allMoods_19 : decode (mC mX5_allMoods) 19 = .ok (.iload_n 2, 1) := by decide +kernel
theorem dX5_allMoods_20 : decode (mC mX5_allMoods) 20 = .ok (.iconst 2, 1) := by decide +kernel
theorem dX5_allMoods_21 : decode (mC mX5_allMoods) 21 = .ok (.invokestatic 51, 3) := by decide +kernel
theorem dX5_allMoods_24 : decode (mC mX5_allMoods) 24 = .ok (.iaload, 1) := by decide +kernel
theorem dX5_allMoods_25 : decode (mC mX5_allMoods) 25 = .ok (.iadd, 1) := by decide +kernel
theorem dX5_allMoods_26 : decode (mC mX5_allMoods) 26 = .ok (.istore_n 1, 1) := by decide +kernel
theorem dX5_allMoods_27 : decode (mC mX5_allMoods) 27 = .ok (.iinc 2 1, 3) := by decide +kernel
theorem dX5_allMoods_30 : decode (mC mX5_allMoods) 30 = .ok (.goto (-26), 3) := by decide +kernel
theorem dX5_allMoods_33 : decode (mC mX5_allMoods) 33 = .ok (.iload_n 1, 1) := by decide +kernel
theorem dX5_allMoods_34 : decode (mC mX5_allMoods) 34 = .ok (.ireturn, 1) := by decide +kernel
theorem dX5_mean_0 : decode (mC mX5_mean) 0 = .ok (.iload_n 1, 1) := by decide +kernel
theorem dX5_mean_1 : decode (mC mX5_mean) 1 = .ok (.iconst 0, 1) := by decide +kernel
theorem dX5_mean_2 : decode (mC mX5_mean) 2 = .ok (.iconst 1, 1) := by decide +kernel
theorem dX5_mean_3 : decode (mC mX5_mean) 3 = .ok (.invokestatic 43, 3) := by decide +kernel
theorem dX5_mean_6 : decode (mC mX5_mean) 6 = .ok (.ifCond .eq 22, 3) := by decide +kernel
theorem dX5_mean_9 : decode (mC mX5_mean) 9 = .ok (.aload_n 0, 1) := by decide +kernel
theorem dX5_mean_10 : decode (mC mX5_mean) 10 = .ok (.invokevirtual 209, 3) := by decide +kernel
theorem dX5_mean_13 : decode (mC mX5_mean) 13 = .ok (.i2l, 1) := by decide +kernel
theorem dX5_mean_14 : decode (mC mX5_mean) 14 = .ok (.aload_n 0, 1) := by decide +kernel
theorem dX5_mean_15 : decode (mC mX5_mean) 15 = .ok (.getfield 9, 3) := by decide +kernel
theorem dX5_mean_18 : decode (mC mX5_mean) 18 = .ok (.iconst 1, 1) := by decide +kernel
theorem dX5_mean_19 : decode (mC mX5_mean) 19 = .ok (.iaload, 1) := by decide +kernel
theorem dX5_mean_20 : decode (mC mX5_mean) 20 = .ok (.i2l, 1) := by decide +kernel
theorem dX5_mean_21 : decode (mC mX5_mean) 21 = .ok (.iload_n 1, 1) := by decide +kernel
theorem dX5_mean_22 : decode (mC mX5_mean) 22 = .ok (.invokestatic 205, 3) := by decide +kernel
theorem dX5_mean_25 : decode (mC mX5_mean) 25 = .ok (.goto 9, 3) := by decide +kernel
theorem dX5_mean_28 : decode (mC mX5_mean) 28 = .ok (.aload_n 0, 1) := by decide +kernel
theorem dX5_mean_29 : decode (mC mX5_mean) 29 = .ok (.bipush (-2), 2) := by decide +kernel
theorem dX5_mean_31 : decode (mC mX5_mean) 31 = .ok (.invokevirtual 197, 3) := by decide +kernel
theorem dX5_mean_34 : decode (mC mX5_mean) 34 = .ok (.lreturn, 1) := by decide +kernel
theorem dX5_whatIs_0 : decode (mC mX5_whatIs) 0 = .ok (.aload_n 0, 1) := by decide +kernel
theorem dX5_whatIs_1 : decode (mC mX5_whatIs) 1 = .ok (.iload_n 1, 1) := by decide +kernel
theorem dX5_whatIs_2 : decode (mC mX5_whatIs) 2 = .ok (.invokevirtual 122, 3) := by decide +kernel
theorem dX5_whatIs_5 : decode (mC mX5_whatIs) 5 = .ok (.ifCond .eq 11, 3) := by decide +kernel
theorem dX5_whatIs_8 : decode (mC mX5_whatIs) 8 = .ok (.aload_n 0, 1) := by decide +kernel
theorem dX5_whatIs_9 : decode (mC mX5_whatIs) 9 = .ok (.iload_n 2, 1) := by decide +kernel
theorem dX5_whatIs_10 : decode (mC mX5_whatIs) 10 = .ok (.invokevirtual 125, 3) := by decide +kernel
theorem dX5_whatIs_13 : decode (mC mX5_whatIs) 13 = .ok (.ifCond .ne 9, 3) := by decide +kernel
theorem dX5_whatIs_16 : decode (mC mX5_whatIs) 16 = .ok (.aload_n 0, 1) := by decide +kernel
theorem dX5_whatIs_17 : decode (mC mX5_whatIs) 17 = .ok (.iconst (-1), 1) := by decide +kernel
theorem dX5_whatIs_18 : decode (mC mX5_whatIs) 18 = .ok (.invokevirtual 39, 3) := by decide +kernel
theorem dX5_whatIs_21 : decode (mC mX5_whatIs) 21 = .ok (.ireturn, 1) := by decide +kernel
theorem dX5_whatIs_22 : decode (mC mX5_whatIs) 22 = .ok (.iload_n 3, 1) := by decide +kernel
theorem dX5_whatIs_23 : decode (mC mX5_whatIs) 23 = .ok (.iconst 0, 1) := by decide +kernel
theorem dX5_whatIs_24 : decode (mC mX5_whatIs) 24 = .ok (.iconst 1, 1) := by decide +kernel
theorem dX5_whatIs_25 : decode (mC mX5_whatIs) 25 = .ok (.invokestatic 43, 3) := by decide +kernel
theorem dX5_whatIs_28 : decode (mC mX5_whatIs) 28 = .ok (.ifCond .ne 10, 3) := by decide +kernel
theorem dX5_whatIs_31 : decode (mC mX5_whatIs) 31 = .ok (.aload_n 0, 1) := by decide +kernel
theorem dX5_whatIs_32 : decode (mC mX5_whatIs) 32 = .ok (.bipush (-2), 2) := by decide +kernel
theorem dX5_whatIs_34 : decode (mC mX5_whatIs) 34 = .ok (.invokevirtual 39, 3) := by decide +kernel
theorem dX5_whatIs_37 : decode (mC mX5_whatIs) 37 = .ok (.ireturn, 1) := by decide +kernel
theorem dX5_whatIs_38 : decode (mC mX5_whatIs) 38 = .ok (.iconst 0, 1) := by decide +kernel
theorem dX5_whatIs_39 : decode (mC mX5_whatIs) 39 = .ok (.istore 4, 2) := by decide +kernel
theorem dX5_whatIs_41 : decode (mC mX5_whatIs) 41 = .ok (.iconst 0, 1) := by decide +kernel
theorem dX5_whatIs_42 : decode (mC mX5_whatIs) 42 = .ok (.istore 5, 2) := by decide +kernel
theorem dX5_whatIs_44 : decode (mC mX5_whatIs) 44 = .ok (.iload 5, 2) := by decide +kernel
theorem dX5_whatIs_46 : decode (mC mX5_whatIs) 46 = .ok (.iload_n 3, 1) := by decide +kernel
theorem dX5_whatIs_47 : decode (mC mX5_whatIs) 47 = .ok (.ifCond .ne 8, 3) := by decide +kernel
theorem dX5_whatIs_50 : decode (mC mX5_whatIs) 50 = .ok (.bipush 6, 2) := by decide +kernel
theorem dX5_whatIs_52 : decode (mC mX5_whatIs) 52 = .ok (.goto 5, 3) := by decide +kernel
theorem dX5_whatIs_55 : decode (mC mX5_whatIs) 55 = .ok (.bipush 8, 2) := by decide +kernel
theorem dX5_whatIs_57 : decode (mC mX5_whatIs) 57 = .ok (.if_icmp .ge 115, 3) := by decide +kernel
theorem dX5_whatIs_60 : decode (mC mX5_whatIs) 60 = .ok (.iconst 1, 1) := by decide +kernel
theorem dX5_whatIs_61 : decode (mC mX5_whatIs) 61 = .ok (.istore 6, 2) := by decide +kernel
theorem dX5_whatIs_63 : decode (mC mX5_whatIs) 63 = .ok (.aload_n 0, 1) := by decide +kernel
theorem dX5_whatIs_64 : decode (mC mX5_whatIs) 64 = .ok (.iconst 0, 1) := by decide +kernel
theorem dX5_whatIs_65 : decode (mC mX5_whatIs) 65 = .ok (.invokevirtual 162, 3) := by decide +kernel
theorem dX5_whatIs_68 : decode (mC mX5_whatIs) 68 = .ok (.aload_n 0, 1) := by decide +kernel
theorem dX5_whatIs_69 : decode (mC mX5_whatIs) 69 = .ok (.getfield 13, 3) := by decide +kernel
theorem dX5_whatIs_72 : decode (mC mX5_whatIs) 72 = .ok (.iload_n 3, 1) := by decide +kernel
theorem dX5_whatIs_73 : decode (mC mX5_whatIs) 73 = .ok (.ifCond .ne 11, 3) := by decide +kernel
theorem dX5_whatIs_76 : decode (mC mX5_whatIs) 76 = .ok (.iload_n 2, 1) := by decide +kernel
theorem dX5_whatIs_77 : decode (mC mX5_whatIs) 77 = .ok (.iconst 0, 1) := by decide +kernel
theorem dX5_whatIs_78 : decode (mC mX5_whatIs) 78 = .ok (.invokestatic 55, 3) := by decide +kernel
theorem dX5_whatIs_81 : decode (mC mX5_whatIs) 81 = .ok (.goto 8, 3) := by decide +kernel
theorem dX5_whatIs_84 : decode (mC mX5_whatIs) 84 = .ok (.iload_n 1, 1) := by decide +kernel
theorem dX5_whatIs_85 : decode (mC mX5_whatIs) 85 = .ok (.iconst 1, 1) := by decide +kernel
theorem dX5_whatIs_86 : decode (mC mX5_whatIs) 86 = .ok (.invokestatic 51, 3) := by decide +kernel
theorem dX5_whatIs_89 : decode (mC mX5_whatIs) 89 = .ok (.iload 5, 2) := by decide +kernel
theorem dX5_whatIs_91 : decode (mC mX5_whatIs) 91 = .ok (.iastore, 1) := by decide +kernel
theorem dX5_whatIs_92 : decode (mC mX5_whatIs) 92 = .ok (.iconst 0, 1) := by decide +kernel
theorem dX5_whatIs_93 : decode (mC mX5_whatIs) 93 = .ok (.istore 7, 2) := by decide +kernel
theorem dX5_whatIs_95 : decode (mC mX5_whatIs) 95 = .ok (.iload 7, 2) := by decide +kernel
theorem dX5_whatIs_97 : decode (mC mX5_whatIs) 97 = .ok (.aload_n 0, 1) := by decide +kernel
theorem dX5_whatIs_98 : decode (mC mX5_whatIs) 98 = .ok (.getfield 212, 3) := by decide +kernel
theorem dX5_whatIs_101 : decode (mC mX5_whatIs) 101 = .ok (.if_icmp .ge 47, 3) := by decide +kernel
theorem dX5_whatIs_104 : decode (mC mX5_whatIs) 104 = .ok (.iload 6, 2) := by decide +kernel
theorem dX5_whatIs_106 : decode (mC mX5_whatIs) 106 = .ok (.aload_n 0, 1) := by decide +kernel
theorem dX5_whatIs_107 : decode (mC mX5_whatIs) 107 = .ok (.getfield 13, 3) := by decide +kernel
theorem dX5_whatIs_110 : decode (mC mX5_whatIs) 110 = .ok (.iload_n 1, 1) := by decide +kernel
theorem dX5_whatIs_111 : decode (mC mX5_whatIs) 111 = .ok (.iconst 0, 1) := by decide +kernel
theorem dX5_whatIs_112 : decode (mC mX5_whatIs) 112 = .ok (.invokestatic 51, 3) := by decide +kernel
theorem dX5_whatIs_115 : decode (mC mX5_whatIs) 115 = .ok (.iaload, 1) := by decide +kernel
theorem dX5_whatIs_116 : decode (mC mX5_whatIs) 116 = .ok (.aload_n 0, 1) := by decide +kernel
theorem dX5_whatIs_117 : decode (mC mX5_whatIs) 117 = .ok (.getfield 28, 3) := by decide +kernel
theorem dX5_whatIs_120 : decode (mC mX5_whatIs) 120 = .ok (.iload 7, 2) := by decide +kernel
theorem dX5_whatIs_122 : decode (mC mX5_whatIs) 122 = .ok (.iaload, 1) := by decide +kernel
theorem dX5_whatIs_123 : decode (mC mX5_whatIs) 123 = .ok (.if_icmp .ne 7, 3) := by decide +kernel
theorem dX5_whatIs_126 : decode (mC mX5_whatIs) 126 = .ok (.iconst 1, 1) := by decide +kernel
theorem dX5_whatIs_127 : decode (mC mX5_whatIs) 127 = .ok (.goto 4, 3) := by decide +kernel
theorem dX5_whatIs_130 : decode (mC mX5_whatIs) 130 = .ok (.iconst 0, 1) := by decide +kernel
theorem dX5_whatIs_131 : decode (mC mX5_whatIs) 131 = .ok (.iand, 1) := by decide +kernel
theorem dX5_whatIs_132 : decode (mC mX5_whatIs) 132 = .ok (.istore 6, 2) := by decide +kernel
theorem dX5_whatIs_134 : decode (mC mX5_whatIs) 134 = .ok (.aload_n 0, 1) := by decide +kernel
theorem dX5_whatIs_135 : decode (mC mX5_whatIs) 135 = .ok (.aload_n 0, 1) := by decide +kernel
theorem dX5_whatIs_136 : decode (mC mX5_whatIs) 136 = .ok (.getfield 13, 3) := by decide +kernel
theorem dX5_whatIs_139 : decode (mC mX5_whatIs) 139 = .ok (.invokevirtual 87, 3) := by decide +kernel
theorem dX5_whatIs_142 : decode (mC mX5_whatIs) 142 = .ok (.iinc 7 1, 3) := by decide +kernel
theorem dX5_whatIs_145 : decode (mC mX5_whatIs) 145 = .ok (.goto (-50), 3) := by decide +kernel
theorem dX5_whatIs_148 : decode (mC mX5_whatIs) 148 = .ok (.iload 4, 2) := by decide +kernel
theorem dX5_whatIs_150 : decode (mC mX5_whatIs) 150 = .ok (.iload 6, 2) := by decide +kernel
theorem dX5_whatIs_152 : decode (mC mX5_whatIs) 152 = .ok (.ifCond .eq 10, 3) := by decide +kernel
theorem dX5_whatIs_155 : decode (mC mX5_whatIs) 155 = .ok (.iconst 1, 1) := by decide +kernel
theorem dX5_whatIs_156 : decode (mC mX5_whatIs) 156 = .ok (.iload 5, 2) := by decide +kernel
theorem dX5_whatIs_158 : decode (mC mX5_whatIs) 158 = .ok (.ishl, 1) := by decide +kernel
theorem dX5_whatIs_159 : decode (mC mX5_whatIs) 159 = .ok (.goto 4, 3) := by decide +kernel
theorem dX5_whatIs_162 : decode (mC mX5_whatIs) 162 = .ok (.iconst 0, 1) := by decide +kernel
theorem dX5_whatIs_163 : decode (mC mX5_whatIs) 163 = .ok (.ior, 1) := by decide +kernel
theorem dX5_whatIs_164 : decode (mC mX5_whatIs) 164 = .ok (.istore 4, 2) := by decide +kernel
theorem dX5_whatIs_166 : decode (mC mX5_whatIs) 166 = .ok (.iinc 5 1, 3) := by decide +kernel
theorem dX5_whatIs_169 : decode (mC mX5_whatIs) 169 = .ok (.goto (-125), 3) := by decide +kernel
theorem dX5_whatIs_172 : decode (mC mX5_whatIs) 172 = .ok (.iload 4, 2) := by decide +kernel
theorem dX5_whatIs_174 : decode (mC mX5_whatIs) 174 = .ok (.ireturn, 1) := by decide +kernel
theorem dX5_row_0 : decode (mC mX5_row) 0 = .ok (.iload_n 1, 1) := by decide +kernel
theorem dX5_row_1 : decode (mC mX5_row) 1 = .ok (.iconst 0, 1) := by decide +kernel
theorem dX5_row_2 : decode (mC mX5_row) 2 = .ok (.bipush 99, 2) := by decide +kernel
theorem dX5_row_4 : decode (mC mX5_row) 4 = .ok (.invokestatic 152, 3) := by decide +kernel
theorem dX5_row_7 : decode (mC mX5_row) 7 = .ok (.istore_n 2, 1) := by decide +kernel
theorem dX5_row_8 : decode (mC mX5_row) 8 = .ok (.iload_n 2, 1) := by decide +kernel
theorem dX5_row_9 : decode (mC mX5_row) 9 = .ok (.ifCond .ne 15, 3) := by decide +kernel
theorem dX5_row_12 : decode (mC mX5_row) 12 = .ok (.aload_n 0, 1) := by decide +kernel
theorem dX5_row_13 : decode (mC mX5_row) 13 = .ok (.getfield 212, 3) := by decide +kernel
theorem dX5_row_16 : decode (mC mX5_row) 16 = .ok (.bipush 16, 2) := by decide +kernel
theorem dX5_row_18 : decode (mC mX5_row) 18 = .ok (.if_icmp .ne 6, 3) := by decide +kernel
theorem dX5_row_21 : decode (mC mX5_row) 21 = .ok (.bipush (-6), 2) := by decide +kernel
theorem dX5_row_23 : decode (mC mX5_row) 23 = .ok (.istore_n 2, 1) := by decide +kernel
theorem dX5_row_24 : decode (mC mX5_row) 24 = .ok (.iload_n 2, 1) := by decide +kernel
theorem dX5_row_25 : decode (mC mX5_row) 25 = .ok (.ifCond .eq 9, 3) := by decide +kernel
theorem dX5_row_28 : decode (mC mX5_row) 28 = .ok (.aload_n 0, 1) := by decide +kernel
theorem dX5_row_29 : decode (mC mX5_row) 29 = .ok (.iload_n 2, 1) := by decide +kernel
theorem dX5_row_30 : decode (mC mX5_row) 30 = .ok (.invokevirtual 39, 3) := by decide +kernel
theorem dX5_row_33 : decode (mC mX5_row) 33 = .ok (.ireturn, 1) := by decide +kernel
theorem dX5_row_34 : decode (mC mX5_row) 34 = .ok (.aload_n 0, 1) := by decide +kernel
theorem dX5_row_35 : decode (mC mX5_row) 35 = .ok (.getfield 28, 3) := by decide +kernel
theorem dX5_row_38 : decode (mC mX5_row) 38 = .ok (.aload_n 0, 1) := by decide +kernel
theorem dX5_row_39 : decode (mC mX5_row) 39 = .ok (.getfield 212, 3) := by decide +kernel
theorem dX5_row_42 : decode (mC mX5_row) 42 = .ok (.iload_n 1, 1) := by decide +kernel
theorem dX5_row_43 : decode (mC mX5_row) 43 = .ok (.iastore, 1) := by decide +kernel
theorem dX5_row_44 : decode (mC mX5_row) 44 = .ok (.aload_n 0, 1) := by decide +kernel
theorem dX5_row_45 : decode (mC mX5_row) 45 = .ok (.dup, 1) := by decide +kernel
theorem dX5_row_46 : decode (mC mX5_row) 46 = .ok (.getfield 212, 3) := by decide +kernel
theorem dX5_row_49 : decode (mC mX5_row) 49 = .ok (.iconst 1, 1) := by decide +kernel
theorem dX5_row_50 : decode (mC mX5_row) 50 = .ok (.iadd, 1) := by decide +kernel
theorem dX5_row_51 : decode (mC mX5_row) 51 = .ok (.putfield 212, 3) := by decide +kernel
theorem dX5_row_54 : decode (mC mX5_row) 54 = .ok (.aload_n 0, 1) := by decide +kernel
theorem dX5_row_55 : decode (mC mX5_row) 55 = .ok (.getfield 212, 3) := by decide +kernel
theorem dX5_row_58 : decode (mC mX5_row) 58 = .ok (.ireturn, 1) := by decide +kernel
theorem dX5_judge_0 : decode (mC mX5_judge) 0 = .ok (.aload_n 0, 1) := by decide +kernel
theorem dX5_judge_1 : decode (mC mX5_judge) 1 = .ok (.getfield 212, 3) := by decide +kernel
theorem dX5_judge_4 : decode (mC mX5_judge) 4 = .ok (.istore_n 1, 1) := by decide +kernel
theorem dX5_judge_5 : decode (mC mX5_judge) 5 = .ok (.aload_n 0, 1) := by decide +kernel
theorem dX5_judge_6 : decode (mC mX5_judge) 6 = .ok (.iconst 0, 1) := by decide +kernel
theorem dX5_judge_7 : decode (mC mX5_judge) 7 = .ok (.putfield 212, 3) := by decide +kernel
theorem dX5_judge_10 : decode (mC mX5_judge) 10 = .ok (.iconst 0, 1) := by decide +kernel
theorem dX5_judge_11 : decode (mC mX5_judge) 11 = .ok (.istore_n 2, 1) := by decide +kernel
theorem dX5_judge_12 : decode (mC mX5_judge) 12 = .ok (.iload_n 2, 1) := by decide +kernel
theorem dX5_judge_13 : decode (mC mX5_judge) 13 = .ok (.iload_n 1, 1) := by decide +kernel
theorem dX5_judge_14 : decode (mC mX5_judge) 14 = .ok (.if_icmp .ge 38, 3) := by decide +kernel
theorem dX5_judge_17 : decode (mC mX5_judge) 17 = .ok (.aload_n 0, 1) := by decide +kernel
theorem dX5_judge_18 : decode (mC mX5_judge) 18 = .ok (.iload_n 2, 1) := by decide +kernel
theorem dX5_judge_19 : decode (mC mX5_judge) 19 = .ok (.invokevirtual 122, 3) := by decide +kernel
theorem dX5_judge_22 : decode (mC mX5_judge) 22 = .ok (.ifCond .eq 22, 3) := by decide +kernel
theorem dX5_judge_25 : decode (mC mX5_judge) 25 = .ok (.aload_n 0, 1) := by decide +kernel
theorem dX5_judge_26 : decode (mC mX5_judge) 26 = .ok (.getfield 9, 3) := by decide +kernel
theorem dX5_judge_29 : decode (mC mX5_judge) 29 = .ok (.iload_n 2, 1) := by decide +kernel
theorem dX5_judge_30 : decode (mC mX5_judge) 30 = .ok (.iconst 0, 1) := by decide +kernel
theorem dX5_judge_31 : decode (mC mX5_judge) 31 = .ok (.invokestatic 51, 3) := by decide +kernel
theorem dX5_judge_34 : decode (mC mX5_judge) 34 = .ok (.iaload, 1) := by decide +kernel
theorem dX5_judge_35 : decode (mC mX5_judge) 35 = .ok (.aload_n 0, 1) := by decide +kernel
theorem dX5_judge_36 : decode (mC mX5_judge) 36 = .ok (.getfield 28, 3) := by decide +kernel
theorem dX5_judge_39 : decode (mC mX5_judge) 39 = .ok (.iload_n 2, 1) := by decide +kernel
theorem dX5_judge_40 : decode (mC mX5_judge) 40 = .ok (.iaload, 1) := by decide +kernel
theorem dX5_judge_41 : decode (mC mX5_judge) 41 = .ok (.if_icmp .eq 5, 3) := by decide +kernel
theorem dX5_judge_44 : decode (mC mX5_judge) 44 = .ok (.iload_n 2, 1) := by decide +kernel
theorem dX5_judge_45 : decode (mC mX5_judge) 45 = .ok (.ireturn, 1) := by decide +kernel
theorem dX5_judge_46 : decode (mC mX5_judge) 46 = .ok (.iinc 2 1, 3) := by decide +kernel
theorem dX5_judge_49 : decode (mC mX5_judge) 49 = .ok (.goto (-37), 3) := by decide +kernel
theorem dX5_judge_52 : decode (mC mX5_judge) 52 = .ok (.bipush (-9), 2) := by decide +kernel
theorem dX5_judge_54 : decode (mC mX5_judge) 54 = .ok (.ireturn, 1) := by decide +kernel
theorem dX5_clear_0 : decode (mC mX5_clear) 0 = .ok (.aload_n 0, 1) := by decide +kernel
theorem dX5_clear_1 : decode (mC mX5_clear) 1 = .ok (.getfield 212, 3) := by decide +kernel
theorem dX5_clear_4 : decode (mC mX5_clear) 4 = .ok (.istore_n 1, 1) := by decide +kernel
theorem dX5_clear_5 : decode (mC mX5_clear) 5 = .ok (.aload_n 0, 1) := by decide +kernel
theorem dX5_clear_6 : decode (mC mX5_clear) 6 = .ok (.iconst 0, 1) := by decide +kernel
theorem dX5_clear_7 : decode (mC mX5_clear) 7 = .ok (.putfield 212, 3) := by decide +kernel
theorem dX5_clear_10 : decode (mC mX5_clear) 10 = .ok (.iload_n 1, 1) := by decide +kernel
theorem dX5_clear_11 : decode (mC mX5_clear) 11 = .ok (.ireturn, 1) := by decide +kernel
theorem dX5_drawn_0 : decode (mC mX5_drawn) 0 = .ok (.aload_n 0, 1) := by decide +kernel
theorem dX5_drawn_1 : decode (mC mX5_drawn) 1 = .ok (.aload_n 0, 1) := by decide +kernel
theorem dX5_drawn_2 : decode (mC mX5_drawn) 2 = .ok (.getfield 215, 3) := by decide +kernel
theorem dX5_drawn_5 : decode (mC mX5_drawn) 5 = .ok (.ldc 218, 2) := by decide +kernel
theorem dX5_drawn_7 : decode (mC mX5_drawn) 7 = .ok (.imul, 1) := by decide +kernel
theorem dX5_drawn_8 : decode (mC mX5_drawn) 8 = .ok (.ldc 219, 2) := by decide +kernel
theorem dX5_drawn_10 : decode (mC mX5_drawn) 10 = .ok (.iadd, 1) := by decide +kernel
theorem dX5_drawn_11 : decode (mC mX5_drawn) 11 = .ok (.putfield 215, 3) := by decide +kernel
theorem dX5_drawn_14 : decode (mC mX5_drawn) 14 = .ok (.aload_n 0, 1) := by decide +kernel
theorem dX5_drawn_15 : decode (mC mX5_drawn) 15 = .ok (.getfield 215, 3) := by decide +kernel
theorem dX5_drawn_18 : decode (mC mX5_drawn) 18 = .ok (.ldc 220, 2) := by decide +kernel
theorem dX5_drawn_20 : decode (mC mX5_drawn) 20 = .ok (.iand, 1) := by decide +kernel
theorem dX5_drawn_21 : decode (mC mX5_drawn) 21 = .ok (.sipush 256, 3) := by decide +kernel
theorem dX5_drawn_24 : decode (mC mX5_drawn) 24 = .ok (.idiv, 1) := by decide +kernel
theorem dX5_drawn_25 : decode (mC mX5_drawn) 25 = .ok (.iload_n 1, 1) := by decide +kernel
theorem dX5_drawn_26 : decode (mC mX5_drawn) 26 = .ok (.irem, 1) := by decide +kernel
theorem dX5_drawn_27 : decode (mC mX5_drawn) 27 = .ok (.ireturn, 1) := by decide +kernel
theorem dX5_lots_0 : decode (mC mX5_lots) 0 = .ok (.iload_n 1, 1) := by decide +kernel
theorem dX5_lots_1 : decode (mC mX5_lots) 1 = .ok (.iconst 1, 1) := by decide +kernel
theorem dX5_lots_2 : decode (mC mX5_lots) 2 = .ok (.if_icmp .ge 10, 3) := by decide +kernel
theorem dX5_lots_5 : decode (mC mX5_lots) 5 = .ok (.aload_n 0, 1) := by decide +kernel
theorem dX5_lots_6 : decode (mC mX5_lots) 6 = .ok (.bipush (-4), 2) := by decide +kernel
theorem dX5_lots_8 : decode (mC mX5_lots) 8 = .ok (.invokevirtual 39, 3) := by decide +kernel
theorem dX5_lots_11 : decode (mC mX5_lots) 11 = .ok (.ireturn, 1) := by decide +kernel
theorem dX5_lots_12 : decode (mC mX5_lots) 12 = .ok (.iload_n 1, 1) := by decide +kernel
theorem dX5_lots_13 : decode (mC mX5_lots) 13 = .ok (.bipush 20, 2) := by decide +kernel
theorem dX5_lots_15 : decode (mC mX5_lots) 15 = .ok (.if_icmp .le 10, 3) := by decide +kernel
theorem dX5_lots_18 : decode (mC mX5_lots) 18 = .ok (.aload_n 0, 1) := by decide +kernel
theorem dX5_lots_19 : decode (mC mX5_lots) 19 = .ok (.bipush (-6), 2) := by decide +kernel
theorem dX5_lots_21 : decode (mC mX5_lots) 21 = .ok (.invokevirtual 39, 3) := by decide +kernel
theorem dX5_lots_24 : decode (mC mX5_lots) 24 = .ok (.ireturn, 1) := by decide +kernel
theorem dX5_lots_25 : decode (mC mX5_lots) 25 = .ok (.iload_n 3, 1) := by decide +kernel
theorem dX5_lots_26 : decode (mC mX5_lots) 26 = .ok (.iconst 0, 1) := by decide +kernel
theorem dX5_lots_27 : decode (mC mX5_lots) 27 = .ok (.iconst 1, 1) := by decide +kernel
theorem dX5_lots_28 : decode (mC mX5_lots) 28 = .ok (.invokestatic 43, 3) := by decide +kernel
theorem dX5_lots_31 : decode (mC mX5_lots) 31 = .ok (.ifCond .ne 10, 3) := by decide +kernel
theorem dX5_lots_34 : decode (mC mX5_lots) 34 = .ok (.aload_n 0, 1) := by decide +kernel
theorem dX5_lots_35 : decode (mC mX5_lots) 35 = .ok (.bipush (-2), 2) := by decide +kernel
theorem dX5_lots_37 : decode (mC mX5_lots) 37 = .ok (.invokevirtual 39, 3) := by decide +kernel
theorem dX5_lots_40 : decode (mC mX5_lots) 40 = .ok (.ireturn, 1) := by decide +kernel
theorem dX5_lots_41 : decode (mC mX5_lots) 41 = .ok (.aload_n 0, 1) := by decide +kernel
theorem dX5_lots_42 : decode (mC mX5_lots) 42 = .ok (.iload_n 2, 1) := by decide +kernel
theorem dX5_lots_43 : decode (mC mX5_lots) 43 = .ok (.putfield 215, 3) := by decide +kernel
theorem dX5_lots_46 : decode (mC mX5_lots) 46 = .ok (.iconst 0, 1) := by decide +kernel
theorem dX5_lots_47 : decode (mC mX5_lots) 47 = .ok (.istore 4, 2) := by decide +kernel
theorem dX5_lots_49 : decode (mC mX5_lots) 49 = .ok (.iconst 0, 1) := by decide +kernel
theorem dX5_lots_50 : decode (mC mX5_lots) 50 = .ok (.istore 5, 2) := by decide +kernel
theorem dX5_lots_52 : decode (mC mX5_lots) 52 = .ok (.iload 5, 2) := by decide +kernel
theorem dX5_lots_54 : decode (mC mX5_lots) 54 = .ok (.iload_n 1, 1) := by decide +kernel
theorem dX5_lots_55 : decode (mC mX5_lots) 55 = .ok (.if_icmp .ge 119, 3) := by decide +kernel
theorem dX5_lots_58 : decode (mC mX5_lots) 58 = .ok (.aload_n 0, 1) := by decide +kernel
theorem dX5_lots_59 : decode (mC mX5_lots) 59 = .ok (.getfield 9, 3) := by decide +kernel
theorem dX5_lots_62 : decode (mC mX5_lots) 62 = .ok (.aload_n 0, 1) := by decide +kernel
theorem dX5_lots_63 : decode (mC mX5_lots) 63 = .ok (.getfield 13, 3) := by decide +kernel
theorem dX5_lots_66 : decode (mC mX5_lots) 66 = .ok (.invokestatic 138, 3) := by decide +kernel
theorem dX5_lots_69 : decode (mC mX5_lots) 69 = .ok (.iconst 0, 1) := by decide +kernel
theorem dX5_lots_70 : decode (mC mX5_lots) 70 = .ok (.istore 6, 2) := by decide +kernel
theorem dX5_lots_72 : decode (mC mX5_lots) 72 = .ok (.iload 6, 2) := by decide +kernel
theorem dX5_lots_74 : decode (mC mX5_lots) 74 = .ok (.aload_n 0, 1) := by decide +kernel
theorem dX5_lots_75 : decode (mC mX5_lots) 75 = .ok (.getfield 9, 3) := by decide +kernel
theorem dX5_lots_78 : decode (mC mX5_lots) 78 = .ok (.iconst 1, 1) := by decide +kernel
theorem dX5_lots_79 : decode (mC mX5_lots) 79 = .ok (.iaload, 1) := by decide +kernel
theorem dX5_lots_80 : decode (mC mX5_lots) 80 = .ok (.if_icmp .ge 43, 3) := by decide +kernel
theorem dX5_lots_83 : decode (mC mX5_lots) 83 = .ok (.aload_n 0, 1) := by decide +kernel
theorem dX5_lots_84 : decode (mC mX5_lots) 84 = .ok (.getfield 13, 3) := by decide +kernel
theorem dX5_lots_87 : decode (mC mX5_lots) 87 = .ok (.iload 6, 2) := by decide +kernel
theorem dX5_lots_89 : decode (mC mX5_lots) 89 = .ok (.iconst 0, 1) := by decide +kernel
theorem dX5_lots_90 : decode (mC mX5_lots) 90 = .ok (.invokestatic 51, 3) := by decide +kernel
theorem dX5_lots_93 : decode (mC mX5_lots) 93 = .ok (.aload_n 0, 1) := by decide +kernel
theorem dX5_lots_94 : decode (mC mX5_lots) 94 = .ok (.bipush 8, 2) := by decide +kernel
theorem dX5_lots_96 : decode (mC mX5_lots) 96 = .ok (.invokevirtual 221, 3) := by decide +kernel
theorem dX5_lots_99 : decode (mC mX5_lots) 99 = .ok (.iastore, 1) := by decide +kernel
theorem dX5_lots_100 : decode (mC mX5_lots) 100 = .ok (.aload_n 0, 1) := by decide +kernel
theorem dX5_lots_101 : decode (mC mX5_lots) 101 = .ok (.getfield 13, 3) := by decide +kernel
theorem dX5_lots_104 : decode (mC mX5_lots) 104 = .ok (.iload 6, 2) := by decide +kernel
theorem dX5_lots_106 : decode (mC mX5_lots) 106 = .ok (.iconst 1, 1) := by decide +kernel
theorem dX5_lots_107 : decode (mC mX5_lots) 107 = .ok (.invokestatic 51, 3) := by decide +kernel
theorem dX5_lots_110 : decode (mC mX5_lots) 110 = .ok (.aload_n 0, 1) := by decide +kernel
theorem dX5_lots_111 : decode (mC mX5_lots) 111 = .ok (.bipush 8, 2) := by decide +kernel
theorem dX5_lots_113 : decode (mC mX5_lots) 113 = .ok (.invokevirtual 221, 3) := by decide +kernel
theorem dX5_lots_116 : decode (mC mX5_lots) 116 = .ok (.iastore, 1) := by decide +kernel
theorem dX5_lots_117 : decode (mC mX5_lots) 117 = .ok (.iinc 6 1, 3) := by decide +kernel
theorem dX5_lots_120 : decode (mC mX5_lots) 120 = .ok (.goto (-48), 3) := by decide +kernel
theorem dX5_lots_123 : decode (mC mX5_lots) 123 = .ok (.aload_n 0, 1) := by decide +kernel
theorem dX5_lots_124 : decode (mC mX5_lots) 124 = .ok (.aload_n 0, 1) := by decide +kernel
theorem dX5_lots_125 : decode (mC mX5_lots) 125 = .ok (.getfield 13, 3) := by decide +kernel
theorem dX5_lots_128 : decode (mC mX5_lots) 128 = .ok (.bipush 8, 2) := by decide +kernel
theorem dX5_lots_130 : decode (mC mX5_lots) 130 = .ok (.invokevirtual 132, 3) := by decide +kernel
theorem dX5_lots_133 : decode (mC mX5_lots) 133 = .ok (.iload 4, 2) := by decide +kernel
theorem dX5_lots_135 : decode (mC mX5_lots) 135 = .ok (.iload_n 3, 1) := by decide +kernel
theorem dX5_lots_136 : decode (mC mX5_lots) 136 = .ok (.ifCond .ne 16, 3) := by decide +kernel
theorem dX5_lots_139 : decode (mC mX5_lots) 139 = .ok (.aload_n 0, 1) := by decide +kernel
theorem dX5_lots_140 : decode (mC mX5_lots) 140 = .ok (.getfield 13, 3) := by decide +kernel
theorem dX5_lots_143 : decode (mC mX5_lots) 143 = .ok (.invokestatic 155, 3) := by decide +kernel
theorem dX5_lots_146 : decode (mC mX5_lots) 146 = .ok (.invokestatic 159, 3) := by decide +kernel
theorem dX5_lots_149 : decode (mC mX5_lots) 149 = .ok (.goto 16, 3) := by decide +kernel
theorem dX5_lots_152 : decode (mC mX5_lots) 152 = .ok (.aload_n 0, 1) := by decide +kernel
theorem dX5_lots_153 : decode (mC mX5_lots) 153 = .ok (.getfield 13, 3) := by decide +kernel
theorem dX5_lots_156 : decode (mC mX5_lots) 156 = .ok (.iconst 3, 1) := by decide +kernel
theorem dX5_lots_157 : decode (mC mX5_lots) 157 = .ok (.iaload, 1) := by decide +kernel
theorem dX5_lots_158 : decode (mC mX5_lots) 158 = .ok (.aload_n 0, 1) := by decide +kernel
theorem dX5_lots_159 : decode (mC mX5_lots) 159 = .ok (.getfield 9, 3) := by decide +kernel
theorem dX5_lots_162 : decode (mC mX5_lots) 162 = .ok (.iconst 3, 1) := by decide +kernel
theorem dX5_lots_163 : decode (mC mX5_lots) 163 = .ok (.iaload, 1) := by decide +kernel
theorem dX5_lots_164 : decode (mC mX5_lots) 164 = .ok (.isub, 1) := by decide +kernel
theorem dX5_lots_165 : decode (mC mX5_lots) 165 = .ok (.iadd, 1) := by decide +kernel
theorem dX5_lots_166 : decode (mC mX5_lots) 166 = .ok (.istore 4, 2) := by decide +kernel
theorem dX5_lots_168 : decode (mC mX5_lots) 168 = .ok (.iinc 5 1, 3) := by decide +kernel
theorem dX5_lots_171 : decode (mC mX5_lots) 171 = .ok (.goto (-119), 3) := by decide +kernel
theorem dX5_lots_174 : decode (mC mX5_lots) 174 = .ok (.iload 4, 2) := by decide +kernel
theorem dX5_lots_176 : decode (mC mX5_lots) 176 = .ok (.ireturn, 1) := by decide +kernel
theorem dX5_image_0 : decode (mC mX5_image) 0 = .ok (.aload_n 0, 1) := by decide +kernel
theorem dX5_image_1 : decode (mC mX5_image) 1 = .ok (.getfield 9, 3) := by decide +kernel
theorem dX5_image_4 : decode (mC mX5_image) 4 = .ok (.aload_n 0, 1) := by decide +kernel
theorem dX5_image_5 : decode (mC mX5_image) 5 = .ok (.getfield 16, 3) := by decide +kernel
theorem dX5_image_8 : decode (mC mX5_image) 8 = .ok (.invokestatic 138, 3) := by decide +kernel
theorem dX5_image_11 : decode (mC mX5_image) 11 = .ok (.aload_n 0, 1) := by decide +kernel
theorem dX5_image_12 : decode (mC mX5_image) 12 = .ok (.iconst 1, 1) := by decide +kernel
theorem dX5_image_13 : decode (mC mX5_image) 13 = .ok (.putfield 224, 3) := by decide +kernel
theorem dX5_image_16 : decode (mC mX5_image) 16 = .ok (.aload_n 0, 1) := by decide +kernel
theorem dX5_image_17 : decode (mC mX5_image) 17 = .ok (.getfield 9, 3) := by decide +kernel
theorem dX5_image_20 : decode (mC mX5_image) 20 = .ok (.iconst 2, 1) := by decide +kernel
theorem dX5_image_21 : decode (mC mX5_image) 21 = .ok (.iaload, 1) := by decide +kernel
theorem dX5_image_22 : decode (mC mX5_image) 22 = .ok (.ireturn, 1) := by decide +kernel
theorem dX5_on_0 : decode (mC mX5_on) 0 = .ok (.aload_n 0, 1) := by decide +kernel
theorem dX5_on_1 : decode (mC mX5_on) 1 = .ok (.getfield 224, 3) := by decide +kernel
theorem dX5_on_4 : decode (mC mX5_on) 4 = .ok (.ifCond .ne 10, 3) := by decide +kernel
theorem dX5_on_7 : decode (mC mX5_on) 7 = .ok (.aload_n 0, 1) := by decide +kernel
theorem dX5_on_8 : decode (mC mX5_on) 8 = .ok (.bipush (-3), 2) := by decide +kernel
theorem dX5_on_10 : decode (mC mX5_on) 10 = .ok (.invokevirtual 39, 3) := by decide +kernel
theorem dX5_on_13 : decode (mC mX5_on) 13 = .ok (.ireturn, 1) := by decide +kernel
theorem dX5_on_14 : decode (mC mX5_on) 14 = .ok (.aload_n 0, 1) := by decide +kernel
theorem dX5_on_15 : decode (mC mX5_on) 15 = .ok (.getfield 16, 3) := by decide +kernel
theorem dX5_on_18 : decode (mC mX5_on) 18 = .ok (.aload_n 0, 1) := by decide +kernel
theorem dX5_on_19 : decode (mC mX5_on) 19 = .ok (.getfield 9, 3) := by decide +kernel
theorem dX5_on_22 : decode (mC mX5_on) 22 = .ok (.invokestatic 138, 3) := by decide +kernel
theorem dX5_on_25 : decode (mC mX5_on) 25 = .ok (.aload_n 0, 1) := by decide +kernel
theorem dX5_on_26 : decode (mC mX5_on) 26 = .ok (.getfield 9, 3) := by decide +kernel
theorem dX5_on_29 : decode (mC mX5_on) 29 = .ok (.iconst 2, 1) := by decide +kernel
theorem dX5_on_30 : decode (mC mX5_on) 30 = .ok (.iaload, 1) := by decide +kernel
theorem dX5_on_31 : decode (mC mX5_on) 31 = .ok (.ireturn, 1) := by decide +kernel
theorem dX5_count_0 : decode (mC mX5_count) 0 = .ok (.iload_n 1, 1) := by decide +kernel
theorem dX5_count_1 : decode (mC mX5_count) 1 = .ok (.bipush 11, 2) := by decide +kernel
theorem dX5_count_3 : decode (mC mX5_count) 3 = .ok (.bipush 16, 2) := by decide +kernel
theorem dX5_count_5 : decode (mC mX5_count) 5 = .ok (.invokestatic 43, 3) := by decide +kernel
theorem dX5_count_8 : decode (mC mX5_count) 8 = .ok (.ifCond .eq 13, 3) := by decide +kernel
theorem dX5_count_11 : decode (mC mX5_count) 11 = .ok (.aload_n 0, 1) := by decide +kernel
theorem dX5_count_12 : decode (mC mX5_count) 12 = .ok (.getfield 31, 3) := by decide +kernel
theorem dX5_count_15 : decode (mC mX5_count) 15 = .ok (.iload_n 1, 1) := by decide +kernel
theorem dX5_count_16 : decode (mC mX5_count) 16 = .ok (.bipush 10, 2) := by decide +kernel
theorem dX5_count_18 : decode (mC mX5_count) 18 = .ok (.isub, 1) := by decide +kernel
theorem dX5_count_19 : decode (mC mX5_count) 19 = .ok (.iaload, 1) := by decide +kernel
theorem dX5_count_20 : decode (mC mX5_count) 20 = .ok (.ireturn, 1) := by decide +kernel
theorem dX5_count_21 : decode (mC mX5_count) 21 = .ok (.iload_n 1, 1) := by decide +kernel
theorem dX5_count_22 : decode (mC mX5_count) 22 = .ok (.tableswitch 76 0 7 #[46, 46, 46, 46, 53, 61, 66, 71], 46) := by decide +kernel
theorem dX5_count_68 : decode (mC mX5_count) 68 = .ok (.aload_n 0, 1) := by decide +kernel
theorem dX5_count_69 : decode (mC mX5_count) 69 = .ok (.getfield 9, 3) := by decide +kernel
theorem dX5_count_72 : decode (mC mX5_count) 72 = .ok (.iload_n 1, 1) := by decide +kernel
theorem dX5_count_73 : decode (mC mX5_count) 73 = .ok (.iaload, 1) := by decide +kernel
theorem dX5_count_74 : decode (mC mX5_count) 74 = .ok (.ireturn, 1) := by decide +kernel
theorem dX5_count_75 : decode (mC mX5_count) 75 = .ok (.aload_n 0, 1) := by decide +kernel
theorem dX5_count_76 : decode (mC mX5_count) 76 = .ok (.getfield 9, 3) := by decide +kernel
theorem dX5_count_79 : decode (mC mX5_count) 79 = .ok (.invokestatic 155, 3) := by decide +kernel
theorem dX5_count_82 : decode (mC mX5_count) 82 = .ok (.ireturn, 1) := by decide +kernel
theorem dX5_count_83 : decode (mC mX5_count) 83 = .ok (.aload_n 0, 1) := by decide +kernel
theorem dX5_count_84 : decode (mC mX5_count) 84 = .ok (.invokevirtual 209, 3) := by decide +kernel
theorem dX5_count_87 : decode (mC mX5_count) 87 = .ok (.ireturn, 1) := by decide +kernel
theorem dX5_count_88 : decode (mC mX5_count) 88 = .ok (.aload_n 0, 1) := by decide +kernel
theorem dX5_count_89 : decode (mC mX5_count) 89 = .ok (.getfield 212, 3) := by decide +kernel
theorem dX5_count_92 : decode (mC mX5_count) 92 = .ok (.ireturn, 1) := by decide +kernel
theorem dX5_count_93 : decode (mC mX5_count) 93 = .ok (.aload_n 0, 1) := by decide +kernel
theorem dX5_count_94 : decode (mC mX5_count) 94 = .ok (.getfield 90, 3) := by decide +kernel
theorem dX5_count_97 : decode (mC mX5_count) 97 = .ok (.ireturn, 1) := by decide +kernel
theorem dX5_count_98 : decode (mC mX5_count) 98 = .ok (.bipush (-9), 2) := by decide +kernel
theorem dX5_count_100 : decode (mC mX5_count) 100 = .ok (.ireturn, 1) := by decide +kernel

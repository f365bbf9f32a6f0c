theorem dX0_init_0 : decode (mC mX0_init) 0 = .ok (.aload_n 0, 1) := by decide +kernel
theorem dX0_init_1 : decode (mC mX0_init) 1 = .ok (.invokespecial 3, 3) := by decide +kernel
theorem dX0_init_4 : decode (mC mX0_init) 4 = .ok (.aload_n 0, 1) := by decide +kernel
theorem dX0_init_5 : decode (mC mX0_init) 5 = .ok (.bipush 9, 2) := by decide +kernel
theorem dX0_init_7 : decode (mC mX0_init) 7 = .ok (.newarray .int, 2) := by decide +kernel
theorem dX0_init_9 : decode (mC mX0_init) 9 = .ok (.putfield 9, 3) := by decide +kernel
theorem dX0_init_12 : decode (mC mX0_init) 12 = .ok (.aload_n 0, 1) := by decide +kernel
theorem dX0_init_13 : decode (mC mX0_init) 13 = .ok (.bipush 9, 2) := by decide +kernel
theorem dX0_init_15 : decode (mC mX0_init) 15 = .ok (.newarray .int, 2) := by decide +kernel
theorem dX0_init_17 : decode (mC mX0_init) 17 = .ok (.putfield 15, 3) := by decide +kernel
theorem dX0_init_20 : decode (mC mX0_init) 20 = .ok (.aload_n 0, 1) := by decide +kernel
theorem dX0_init_21 : decode (mC mX0_init) 21 = .ok (.bipush 9, 2) := by decide +kernel
theorem dX0_init_23 : decode (mC mX0_init) 23 = .ok (.newarray .int, 2) := by decide +kernel
theorem dX0_init_25 : decode (mC mX0_init) 25 = .ok (.putfield 18, 3) := by decide +kernel
theorem dX0_init_28 : decode (mC mX0_init) 28 = .ok (.aload_n 0, 1) := by decide +kernel
theorem dX0_init_29 : decode (mC mX0_init) 29 = .ok (.bipush 9, 2) := by decide +kernel
theorem dX0_init_31 : decode (mC mX0_init) 31 = .ok (.newarray .int, 2) := by decide +kernel
theorem dX0_init_33 : decode (mC mX0_init) 33 = .ok (.putfield 21, 3) := by decide +kernel
theorem dX0_init_36 : decode (mC mX0_init) 36 = .ok (.aload_n 0, 1) := by decide +kernel
theorem dX0_init_37 : decode (mC mX0_init) 37 = .ok (.bipush 9, 2) := by decide +kernel
theorem dX0_init_39 : decode (mC mX0_init) 39 = .ok (.newarray .int, 2) := by decide +kernel
theorem dX0_init_41 : decode (mC mX0_init) 41 = .ok (.putfield 24, 3) := by decide +kernel
theorem dX0_init_44 : decode (mC mX0_init) 44 = .ok (.aload_n 0, 1) := by decide +kernel
theorem dX0_init_45 : decode (mC mX0_init) 45 = .ok (.bipush 64, 2) := by decide +kernel
theorem dX0_init_47 : decode (mC mX0_init) 47 = .ok (.newarray .int, 2) := by decide +kernel
theorem dX0_init_49 : decode (mC mX0_init) 49 = .ok (.putfield 27, 3) := by decide +kernel
theorem dX0_init_52 : decode (mC mX0_init) 52 = .ok (.aload_n 0, 1) := by decide +kernel
theorem dX0_init_53 : decode (mC mX0_init) 53 = .ok (.bipush 64, 2) := by decide +kernel
theorem dX0_init_55 : decode (mC mX0_init) 55 = .ok (.newarray .int, 2) := by decide +kernel
theorem dX0_init_57 : decode (mC mX0_init) 57 = .ok (.putfield 30, 3) := by decide +kernel
theorem dX0_init_60 : decode (mC mX0_init) 60 = .ok (.aload_n 0, 1) := by decide +kernel
theorem dX0_init_61 : decode (mC mX0_init) 61 = .ok (.invokevirtual 33, 3) := by decide +kernel
theorem dX0_init_64 : decode (mC mX0_init) 64 = .ok (.return_, 1) := by decide +kernel
theorem dX0_become_0 : decode (mC mX0_become) 0 = .ok (.aload_n 1, 1) := by decide +kernel
theorem dX0_become_1 : decode (mC mX0_become) 1 = .ok (.getfield 9, 3) := by decide +kernel
theorem dX0_become_4 : decode (mC mX0_become) 4 = .ok (.aload_n 0, 1) := by decide +kernel
theorem dX0_become_5 : decode (mC mX0_become) 5 = .ok (.getfield 9, 3) := by decide +kernel
theorem dX0_become_8 : decode (mC mX0_become) 8 = .ok (.invokestatic 36, 3) := by decide +kernel
theorem dX0_become_11 : decode (mC mX0_become) 11 = .ok (.aload_n 1, 1) := by decide +kernel
theorem dX0_become_12 : decode (mC mX0_become) 12 = .ok (.getfield 15, 3) := by decide +kernel
theorem dX0_become_15 : decode (mC mX0_become) 15 = .ok (.aload_n 0, 1) := by decide +kernel
theorem dX0_become_16 : decode (mC mX0_become) 16 = .ok (.getfield 15, 3) := by decide +kernel
theorem dX0_become_19 : decode (mC mX0_become) 19 = .ok (.invokestatic 36, 3) := by decide +kernel
theorem dX0_become_22 : decode (mC mX0_become) 22 = .ok (.aload_n 1, 1) := by decide +kernel
theorem dX0_become_23 : decode (mC mX0_become) 23 = .ok (.getfield 18, 3) := by decide +kernel
theorem dX0_become_26 : decode (mC mX0_become) 26 = .ok (.aload_n 0, 1) := by decide +kernel
theorem dX0_become_27 : decode (mC mX0_become) 27 = .ok (.getfield 18, 3) := by decide +kernel
theorem dX0_become_30 : decode (mC mX0_become) 30 = .ok (.invokestatic 36, 3) := by decide +kernel
theorem dX0_become_33 : decode (mC mX0_become) 33 = .ok (.aload_n 1, 1) := by decide +kernel
theorem dX0_become_34 : decode (mC mX0_become) 34 = .ok (.getfield 21, 3) := by decide +kernel
theorem dX0_become_37 : decode (mC mX0_become) 37 = .ok (.aload_n 0, 1) := by decide +kernel
theorem dX0_become_38 : decode (mC mX0_become) 38 = .ok (.getfield 21, 3) := by decide +kernel
theorem dX0_become_41 : decode (mC mX0_become) 41 = .ok (.invokestatic 36, 3) := by decide +kernel
theorem dX0_become_44 : decode (mC mX0_become) 44 = .ok (.aload_n 1, 1) := by decide +kernel
theorem dX0_become_45 : decode (mC mX0_become) 45 = .ok (.getfield 24, 3) := by decide +kernel
theorem dX0_become_48 : decode (mC mX0_become) 48 = .ok (.aload_n 0, 1) := by decide +kernel
theorem dX0_become_49 : decode (mC mX0_become) 49 = .ok (.getfield 24, 3) := by decide +kernel
theorem dX0_become_52 : decode (mC mX0_become) 52 = .ok (.invokestatic 36, 3) := by decide +kernel
theorem dX0_become_55 : decode (mC mX0_become) 55 = .ok (.aload_n 1, 1) := by decide +kernel
theorem dX0_become_56 : decode (mC mX0_become) 56 = .ok (.getfield 27, 3) := by decide +kernel
theorem dX0_become_59 : decode (mC mX0_become) 59 = .ok (.aload_n 0, 1) := by decide +kernel
theorem dX0_become_60 : decode (mC mX0_become) 60 = .ok (.getfield 27, 3) := by decide +kernel
theorem dX0_become_63 : decode (mC mX0_become) 63 = .ok (.invokestatic 36, 3) := by decide +kernel
theorem dX0_become_66 : decode (mC mX0_become) 66 = .ok (.aload_n 1, 1) := by decide +kernel
theorem dX0_become_67 : decode (mC mX0_become) 67 = .ok (.getfield 30, 3) := by decide +kernel
theorem dX0_become_70 : decode (mC mX0_become) 70 = .ok (.aload_n 0, 1) := by decide +kernel
theorem dX0_become_71 : decode (mC mX0_become) 71 = .ok (.getfield 30, 3) := by decide +kernel
theorem dX0_become_74 : decode (mC mX0_become) 74 = .ok (.invokestatic 36, 3) := by decide +kernel
theorem dX0_become_77 : decode (mC mX0_become) 77 = .ok (.aload_n 0, 1) := by decide +kernel
theorem dX0_become_78 : decode (mC mX0_become) 78 = .ok (.aload_n 1, 1) := by decide +kernel
theorem dX0_become_79 : decode (mC mX0_become) 79 = .ok (.getfield 40, 3) := by decide +kernel
theorem dX0_become_82 : decode (mC mX0_become) 82 = .ok (.putfield 40, 3) := by decide +kernel
theorem dX0_become_85 : decode (mC mX0_become) 85 = .ok (.return_, 1) := by decide +kernel
theorem dX0_has_0 : decode (mC mX0_has) 0 = .ok (.iload_n 1, 1) := by decide +kernel
theorem dX0_has_1 : decode (mC mX0_has) 1 = .ok (.ifCond .lt 15, 3) := by decide +kernel
theorem dX0_has_4 : decode (mC mX0_has) 4 = .ok (.iload_n 1, 1) := by decide +kernel
theorem dX0_has_5 : decode (mC mX0_has) 5 = .ok (.aload_n 0, 1) := by decide +kernel
theorem dX0_has_6 : decode (mC mX0_has) 6 = .ok (.getfield 40, 3) := by decide +kernel
theorem dX0_has_9 : decode (mC mX0_has) 9 = .ok (.if_icmp .ge 7, 3) := by decide +kernel
theorem dX0_has_12 : decode (mC mX0_has) 12 = .ok (.iconst 1, 1) := by decide +kernel
theorem dX0_has_13 : decode (mC mX0_has) 13 = .ok (.goto 4, 3) := by decide +kernel
theorem dX0_has_16 : decode (mC mX0_has) 16 = .ok (.iconst 0, 1) := by decide +kernel
theorem dX0_has_17 : decode (mC mX0_has) 17 = .ok (.ireturn, 1) := by decide +kernel
theorem dX0_addDoor_0 : decode (mC mX0_addDoor) 0 = .ok (.aload_n 0, 1) := by decide +kernel
theorem dX0_addDoor_1 : decode (mC mX0_addDoor) 1 = .ok (.getfield 40, 3) := by decide +kernel
theorem dX0_addDoor_4 : decode (mC mX0_addDoor) 4 = .ok (.bipush 9, 2) := by decide +kernel
theorem dX0_addDoor_6 : decode (mC mX0_addDoor) 6 = .ok (.if_icmp .ge 24, 3) := by decide +kernel
theorem dX0_addDoor_9 : decode (mC mX0_addDoor) 9 = .ok (.iload_n 3, 1) := by decide +kernel
theorem dX0_addDoor_10 : decode (mC mX0_addDoor) 10 = .ok (.invokestatic 44, 3) := by decide +kernel
theorem dX0_addDoor_13 : decode (mC mX0_addDoor) 13 = .ok (.ifCond .eq 17, 3) := by decide +kernel
theorem dX0_addDoor_16 : decode (mC mX0_addDoor) 16 = .ok (.iload 4, 2) := by decide +kernel
theorem dX0_addDoor_18 : decode (mC mX0_addDoor) 18 = .ok (.invokestatic 44, 3) := by decide +kernel
theorem dX0_addDoor_21 : decode (mC mX0_addDoor) 21 = .ok (.ifCond .eq 9, 3) := by decide +kernel
theorem dX0_addDoor_24 : decode (mC mX0_addDoor) 24 = .ok (.iload_n 3, 1) := by decide +kernel
theorem dX0_addDoor_25 : decode (mC mX0_addDoor) 25 = .ok (.iload 4, 2) := by decide +kernel
theorem dX0_addDoor_27 : decode (mC mX0_addDoor) 27 = .ok (.if_icmp .ne 5, 3) := by decide +kernel
theorem dX0_addDoor_30 : decode (mC mX0_addDoor) 30 = .ok (.iconst 0, 1) := by decide +kernel
theorem dX0_addDoor_31 : decode (mC mX0_addDoor) 31 = .ok (.ireturn, 1) := by decide +kernel
theorem dX0_addDoor_32 : decode (mC mX0_addDoor) 32 = .ok (.aload_n 0, 1) := by decide +kernel
theorem dX0_addDoor_33 : decode (mC mX0_addDoor) 33 = .ok (.getfield 9, 3) := by decide +kernel
theorem dX0_addDoor_36 : decode (mC mX0_addDoor) 36 = .ok (.aload_n 0, 1) := by decide +kernel
theorem dX0_addDoor_37 : decode (mC mX0_addDoor) 37 = .ok (.getfield 40, 3) := by decide +kernel
theorem dX0_addDoor_40 : decode (mC mX0_addDoor) 40 = .ok (.iload_n 1, 1) := by decide +kernel
theorem dX0_addDoor_41 : decode (mC mX0_addDoor) 41 = .ok (.invokestatic 48, 3) := by decide +kernel
theorem dX0_addDoor_44 : decode (mC mX0_addDoor) 44 = .ok (.aload_n 0, 1) := by decide +kernel
theorem dX0_addDoor_45 : decode (mC mX0_addDoor) 45 = .ok (.getfield 15, 3) := by decide +kernel
theorem dX0_addDoor_48 : decode (mC mX0_addDoor) 48 = .ok (.aload_n 0, 1) := by decide +kernel
theorem dX0_addDoor_49 : decode (mC mX0_addDoor) 49 = .ok (.getfield 40, 3) := by decide +kernel
theorem dX0_addDoor_52 : decode (mC mX0_addDoor) 52 = .ok (.iload_n 2, 1) := by decide +kernel
theorem dX0_addDoor_53 : decode (mC mX0_addDoor) 53 = .ok (.invokestatic 48, 3) := by decide +kernel
theorem dX0_addDoor_56 : decode (mC mX0_addDoor) 56 = .ok (.aload_n 0, 1) := by decide +kernel
theorem dX0_addDoor_57 : decode (mC mX0_addDoor) 57 = .ok (.getfield 18, 3) := by decide +kernel
theorem dX0_addDoor_60 : decode (mC mX0_addDoor) 60 = .ok (.aload_n 0, 1) := by decide +kernel
theorem dX0_addDoor_61 : decode (mC mX0_addDoor) 61 = .ok (.getfield 40, 3) := by decide +kernel
theorem dX0_addDoor_64 : decode (mC mX0_addDoor) 64 = .ok (.iload_n 3, 1) := by decide +kernel
theorem dX0_addDoor_65 : decode (mC mX0_addDoor) 65 = .ok (.invokestatic 48, 3) := by decide +kernel
theorem dX0_addDoor_68 : decode (mC mX0_addDoor) 68 = .ok (.aload_n 0, 1) := by decide +kernel
theorem dX0_addDoor_69 : decode (mC mX0_addDoor) 69 = .ok (.getfield 21, 3) := by decide +kernel
theorem dX0_addDoor_72 : decode (mC mX0_addDoor) 72 = .ok (.aload_n 0, 1) := by decide +kernel
theorem dX0_addDoor_73 : decode (mC mX0_addDoor) 73 = .ok (.getfield 40, 3) := by decide +kernel
theorem dX0_addDoor_76 : decode (mC mX0_addDoor) 76 = .ok (.iload 4, 2) := by decide +kernel
theorem dX0_addDoor_78 : decode (mC mX0_addDoor) 78 = .ok (.invokestatic 48, 3) := by decide +kernel
theorem dX0_addDoor_81 : decode (mC mX0_addDoor) 81 = .ok (.aload_n 0, 1) := by decide +kernel
theorem dX0_addDoor_82 : decode (mC mX0_addDoor) 82 = .ok (.getfield 24, 3) := by decide +kernel
theorem dX0_addDoor_85 : decode (mC mX0_addDoor) 85 = .ok (.aload_n 0, 1) := by decide +kernel
theorem dX0_addDoor_86 : decode (mC mX0_addDoor) 86 = .ok (.getfield 40, 3) := by decide +kernel
theorem dX0_addDoor_89 : decode (mC mX0_addDoor) 89 = .ok (.iconst 0, 1) := by decide +kernel
theorem dX0_addDoor_90 : decode (mC mX0_addDoor) 90 = .ok (.invokestatic 48, 3) := by decide +kernel
theorem dX0_addDoor_93 : decode (mC mX0_addDoor) 93 = .ok (.aload_n 0, 1) := by decide +kernel
theorem dX0_addDoor_94 : decode (mC mX0_addDoor) 94 = .ok (.dup, 1) := by decide +kernel
theorem dX0_addDoor_95 : decode (mC mX0_addDoor) 95 = .ok (.getfield 40, 3) := by decide +kernel
theorem dX0_addDoor_98 : decode (mC mX0_addDoor) 98 = .ok (.iconst 1, 1) := by decide +kernel
theorem dX0_addDoor_99 : decode (mC mX0_addDoor) 99 = .ok (.iadd, 1) := by decide +kernel
theorem dX0_addDoor_100 : decode (mC mX0_addDoor) 100 = .ok (.putfield 40, 3) := by decide +kernel
theorem dX0_addDoor_103 : decode (mC mX0_addDoor) 103 = .ok (.aload_n 0, 1) := by decide +kernel
theorem dX0_addDoor_104 : decode (mC mX0_addDoor) 104 = .ok (.invokevirtual 33, 3) := by decide +kernel
theorem dX0_addDoor_107 : decode (mC mX0_addDoor) 107 = .ok (.iconst 1, 1) := by decide +kernel
theorem dX0_addDoor_108 : decode (mC mX0_addDoor) 108 = .ok (.ireturn, 1) := by decide +kernel
theorem dX0_wedgeOrNot_0 : decode (mC mX0_wedgeOrNot) 0 = .ok (.aload_n 0, 1) := by decide +kernel
theorem dX0_wedgeOrNot_1 : decode (mC mX0_wedgeOrNot) 1 = .ok (.getfield 24, 3) := by decide +kernel
theorem dX0_wedgeOrNot_4 : decode (mC mX0_wedgeOrNot) 4 = .ok (.iload_n 1, 1) := by decide +kernel
theorem dX0_wedgeOrNot_5 : decode (mC mX0_wedgeOrNot) 5 = .ok (.iconst 1, 1) := by decide +kernel
theorem dX0_wedgeOrNot_6 : decode (mC mX0_wedgeOrNot) 6 = .ok (.aload_n 0, 1) := by decide +kernel
theorem dX0_wedgeOrNot_7 : decode (mC mX0_wedgeOrNot) 7 = .ok (.getfield 24, 3) := by decide +kernel
theorem dX0_wedgeOrNot_10 : decode (mC mX0_wedgeOrNot) 10 = .ok (.iload_n 1, 1) := by decide +kernel
theorem dX0_wedgeOrNot_11 : decode (mC mX0_wedgeOrNot) 11 = .ok (.invokestatic 52, 3) := by decide +kernel
theorem dX0_wedgeOrNot_14 : decode (mC mX0_wedgeOrNot) 14 = .ok (.isub, 1) := by decide +kernel
theorem dX0_wedgeOrNot_15 : decode (mC mX0_wedgeOrNot) 15 = .ok (.invokestatic 48, 3) := by decide +kernel
theorem dX0_wedgeOrNot_18 : decode (mC mX0_wedgeOrNot) 18 = .ok (.aload_n 0, 1) := by decide +kernel
theorem dX0_wedgeOrNot_19 : decode (mC mX0_wedgeOrNot) 19 = .ok (.getfield 24, 3) := by decide +kernel
theorem dX0_wedgeOrNot_22 : decode (mC mX0_wedgeOrNot) 22 = .ok (.iload_n 1, 1) := by decide +kernel
theorem dX0_wedgeOrNot_23 : decode (mC mX0_wedgeOrNot) 23 = .ok (.invokestatic 52, 3) := by decide +kernel
theorem dX0_wedgeOrNot_26 : decode (mC mX0_wedgeOrNot) 26 = .ok (.ireturn, 1) := by decide +kernel
theorem dX0_changeSides_0 : decode (mC mX0_changeSides) 0 = .ok (.aload_n 0, 1) := by decide +kernel
theorem dX0_changeSides_1 : decode (mC mX0_changeSides) 1 = .ok (.getfield 18, 3) := by decide +kernel
theorem dX0_changeSides_4 : decode (mC mX0_changeSides) 4 = .ok (.iload_n 1, 1) := by decide +kernel
theorem dX0_changeSides_5 : decode (mC mX0_changeSides) 5 = .ok (.invokestatic 52, 3) := by decide +kernel
theorem dX0_changeSides_8 : decode (mC mX0_changeSides) 8 = .ok (.istore_n 2, 1) := by decide +kernel
theorem dX0_changeSides_9 : decode (mC mX0_changeSides) 9 = .ok (.aload_n 0, 1) := by decide +kernel
theorem dX0_changeSides_10 : decode (mC mX0_changeSides) 10 = .ok (.getfield 18, 3) := by decide +kernel
theorem dX0_changeSides_13 : decode (mC mX0_changeSides) 13 = .ok (.iload_n 1, 1) := by decide +kernel
theorem dX0_changeSides_14 : decode (mC mX0_changeSides) 14 = .ok (.aload_n 0, 1) := by decide +kernel
theorem dX0_changeSides_15 : decode (mC mX0_changeSides) 15 = .ok (.getfield 21, 3) := by decide +kernel
theorem dX0_changeSides_18 : decode (mC mX0_changeSides) 18 = .ok (.iload_n 1, 1) := by decide +kernel
theorem dX0_changeSides_19 : decode (mC mX0_changeSides) 19 = .ok (.invokestatic 52, 3) := by decide +kernel
theorem dX0_changeSides_22 : decode (mC mX0_changeSides) 22 = .ok (.invokestatic 48, 3) := by decide +kernel
theorem dX0_changeSides_25 : decode (mC mX0_changeSides) 25 = .ok (.aload_n 0, 1) := by decide +kernel
theorem dX0_changeSides_26 : decode (mC mX0_changeSides) 26 = .ok (.getfield 21, 3) := by decide +kernel
theorem dX0_changeSides_29 : decode (mC mX0_changeSides) 29 = .ok (.iload_n 1, 1) := by decide +kernel
theorem dX0_changeSides_30 : decode (mC mX0_changeSides) 30 = .ok (.iload_n 2, 1) := by decide +kernel
theorem dX0_changeSides_31 : decode (mC mX0_changeSides) 31 = .ok (.invokestatic 48, 3) := by decide +kernel
theorem dX0_changeSides_34 : decode (mC mX0_changeSides) 34 = .ok (.aload_n 0, 1) := by decide +kernel
theorem dX0_changeSides_35 : decode (mC mX0_changeSides) 35 = .ok (.invokevirtual 33, 3) := by decide +kernel
theorem dX0_changeSides_38 : decode (mC mX0_changeSides) 38 = .ok (.iload_n 2, 1) := by decide +kernel
theorem dX0_changeSides_39 : decode (mC mX0_changeSides) 39 = .ok (.ireturn, 1) := by decide +kernel
theorem dX0_wayBetween_0 : decode (mC mX0_wayBetween) 0 = .ok (.iload_n 1, 1) := by decide +kernel
theorem dX0_wayBetween_1 : decode (mC mX0_wayBetween) 1 = .ok (.invokestatic 44, 3) := by decide +kernel
theorem dX0_wayBetween_4 : decode (mC mX0_wayBetween) 4 = .ok (.ifCond .eq 26, 3) := by decide +kernel
theorem dX0_wayBetween_7 : decode (mC mX0_wayBetween) 7 = .ok (.iload_n 2, 1) := by decide +kernel
theorem dX0_wayBetween_8 : decode (mC mX0_wayBetween) 8 = .ok (.invokestatic 44, 3) := by decide +kernel
theorem dX0_wayBetween_11 : decode (mC mX0_wayBetween) 11 = .ok (.ifCond .eq 19, 3) := by decide +kernel
theorem dX0_wayBetween_14 : decode (mC mX0_wayBetween) 14 = .ok (.aload_n 0, 1) := by decide +kernel
theorem dX0_wayBetween_15 : decode (mC mX0_wayBetween) 15 = .ok (.getfield 27, 3) := by decide +kernel
theorem dX0_wayBetween_18 : decode (mC mX0_wayBetween) 18 = .ok (.iload_n 1, 1) := by decide +kernel
theorem dX0_wayBetween_19 : decode (mC mX0_wayBetween) 19 = .ok (.bipush 8, 2) := by decide +kernel
theorem dX0_wayBetween_21 : decode (mC mX0_wayBetween) 21 = .ok (.imul, 1) := by decide +kernel
theorem dX0_wayBetween_22 : decode (mC mX0_wayBetween) 22 = .ok (.iload_n 2, 1) := by decide +kernel
theorem dX0_wayBetween_23 : decode (mC mX0_wayBetween) 23 = .ok (.iadd, 1) := by decide +kernel
theorem dX0_wayBetween_24 : decode (mC mX0_wayBetween) 24 = .ok (.invokestatic 52, 3) := by decide +kernel
theorem dX0_wayBetween_27 : decode (mC mX0_wayBetween) 27 = .ok (.goto 6, 3) := by decide +kernel
theorem dX0_wayBetween_30 : decode (mC mX0_wayBetween) 30 = .ok (.sipush 1000, 3) := by decide +kernel
theorem dX0_wayBetween_33 : decode (mC mX0_wayBetween) 33 = .ok (.ireturn, 1) := by decide +kernel
theorem dX0_firstDoors_0 : decode (mC mX0_firstDoors) 0 = .ok (.iload_n 1, 1) := by decide +kernel
theorem dX0_firstDoors_1 : decode (mC mX0_firstDoors) 1 = .ok (.invokestatic 44, 3) := by decide +kernel
theorem dX0_firstDoors_4 : decode (mC mX0_firstDoors) 4 = .ok (.ifCond .eq 26, 3) := by decide +kernel
theorem dX0_firstDoors_7 : decode (mC mX0_firstDoors) 7 = .ok (.iload_n 2, 1) := by decide +kernel
theorem dX0_firstDoors_8 : decode (mC mX0_firstDoors) 8 = .ok (.invokestatic 44, 3) := by decide +kernel
theorem dX0_firstDoors_11 : decode (mC mX0_firstDoors) 11 = .ok (.ifCond .eq 19, 3) := by decide +kernel
theorem dX0_firstDoors_14 : decode (mC mX0_firstDoors) 14 = .ok (.aload_n 0, 1) := by decide +kernel
theorem dX0_firstDoors_15 : decode (mC mX0_firstDoors) 15 = .ok (.getfield 30, 3) := by decide +kernel
theorem dX0_firstDoors_18 : decode (mC mX0_firstDoors) 18 = .ok (.iload_n 1, 1) := by decide +kernel
theorem dX0_firstDoors_19 : decode (mC mX0_firstDoors) 19 = .ok (.bipush 8, 2) := by decide +kernel
theorem dX0_firstDoors_21 : decode (mC mX0_firstDoors) 21 = .ok (.imul, 1) := by decide +kernel
theorem dX0_firstDoors_22 : decode (mC mX0_firstDoors) 22 = .ok (.iload_n 2, 1) := by decide +kernel
theorem dX0_firstDoors_23 : decode (mC mX0_firstDoors) 23 = .ok (.iadd, 1) := by decide +kernel
theorem dX0_firstDoors_24 : decode (mC mX0_firstDoors) 24 = .ok (.invokestatic 52, 3) := by decide +kernel
theorem dX0_firstDoors_27 : decode (mC mX0_firstDoors) 27 = .ok (.goto 4, 3) := by decide +kernel
theorem dX0_firstDoors_30 : decode (mC mX0_firstDoors) 30 = .ok (.iconst 0, 1) := by decide +kernel
theorem dX0_firstDoors_31 : decode (mC mX0_firstDoors) 31 = .ok (.ireturn, 1) := by decide +kernel
theorem dX0_measureWays_0 : decode (mC mX0_measureWays) 0 = .ok (.iconst 0, 1) := by decide +kernel
theorem dX0_measureWays_1 : decode (mC mX0_measureWays) 1 = .ok (.istore_n 1, 1) := by decide +kernel
theorem dX0_measureWays_2 : decode (mC mX0_measureWays) 2 = .ok (.iload_n 1, 1) := by decide +kernel
theorem dX0_measureWays_3 : decode (mC mX0_measureWays) 3 = .ok (.bipush 64, 2) := by decide +kernel
theorem dX0_measureWays_5 : decode (mC mX0_measureWays) 5 = .ok (.if_icmp .ge 35, 3) := by decide +kernel
theorem dX0_measureWays_8 : decode (mC mX0_measureWays) 8 = .ok (.aload_n 0, 1) := by decide +kernel
theorem dX0_measureWays_9 : decode (mC mX0_measureWays) 9 = .ok (.getfield 27, 3) := by decide +kernel
theorem dX0_measureWays_12 : decode (mC mX0_measureWays) 12 = .ok (.iload_n 1, 1) := by decide +kernel
theorem dX0_measureWays_13 : decode (mC mX0_measureWays) 13 = .ok (.iload_n 1, 1) := by decide +kernel
theorem dX0_measureWays_14 : decode (mC mX0_measureWays) 14 = .ok (.bipush 8, 2) := by decide +kernel
theorem dX0_measureWays_16 : decode (mC mX0_measureWays) 16 = .ok (.idiv, 1) := by decide +kernel
theorem dX0_measureWays_17 : decode (mC mX0_measureWays) 17 = .ok (.iload_n 1, 1) := by decide +kernel
theorem dX0_measureWays_18 : decode (mC mX0_measureWays) 18 = .ok (.bipush 8, 2) := by decide +kernel
theorem dX0_measureWays_20 : decode (mC mX0_measureWays) 20 = .ok (.irem, 1) := by decide +kernel
theorem dX0_measureWays_21 : decode (mC mX0_measureWays) 21 = .ok (.if_icmp .ne 7, 3) := by decide +kernel
theorem dX0_measureWays_24 : decode (mC mX0_measureWays) 24 = .ok (.iconst 0, 1) := by decide +kernel
theorem dX0_measureWays_25 : decode (mC mX0_measureWays) 25 = .ok (.goto 6, 3) := by decide +kernel
theorem dX0_measureWays_28 : decode (mC mX0_measureWays) 28 = .ok (.sipush 1000, 3) := by decide +kernel
theorem dX0_measureWays_31 : decode (mC mX0_measureWays) 31 = .ok (.invokestatic 48, 3) := by decide +kernel
theorem dX0_measureWays_34 : decode (mC mX0_measureWays) 34 = .ok (.iinc 1 1, 3) := by decide +kernel
theorem dX0_measureWays_37 : decode (mC mX0_measureWays) 37 = .ok (.goto (-35), 3) := by decide +kernel
theorem dX0_measureWays_40 : decode (mC mX0_measureWays) 40 = .ok (.iconst 1, 1) := by decide +kernel
theorem dX0_measureWays_41 : decode (mC mX0_measureWays) 41 = .ok (.istore_n 1, 1) := by decide +kernel
theorem dX0_measureWays_42 : decode (mC mX0_measureWays) 42 = .ok (.iconst 1, 1) := by decide +kernel
theorem dX0_measureWays_43 : decode (mC mX0_measureWays) 43 = .ok (.istore_n 2, 1) := by decide +kernel
theorem dX0_measureWays_44 : decode (mC mX0_measureWays) 44 = .ok (.iload_n 2, 1) := by decide +kernel
theorem dX0_measureWays_45 : decode (mC mX0_measureWays) 45 = .ok (.bipush 8, 2) := by decide +kernel
theorem dX0_measureWays_47 : decode (mC mX0_measureWays) 47 = .ok (.if_icmp .ge 56, 3) := by decide +kernel
theorem dX0_measureWays_50 : decode (mC mX0_measureWays) 50 = .ok (.iload_n 1, 1) := by decide +kernel
theorem dX0_measureWays_51 : decode (mC mX0_measureWays) 51 = .ok (.ifCond .eq 52, 3) := by decide +kernel
theorem dX0_measureWays_54 : decode (mC mX0_measureWays) 54 = .ok (.iconst 0, 1) := by decide +kernel
theorem dX0_measureWays_55 : decode (mC mX0_measureWays) 55 = .ok (.istore_n 1, 1) := by decide +kernel
theorem dX0_measureWays_56 : decode (mC mX0_measureWays) 56 = .ok (.iconst 0, 1) := by decide +kernel
theorem dX0_measureWays_57 : decode (mC mX0_measureWays) 57 = .ok (.istore_n 3, 1) := by decide +kernel
theorem dX0_measureWays_58 : decode (mC mX0_measureWays) 58 = .ok (.iload_n 3, 1) := by decide +kernel
theorem dX0_measureWays_59 : decode (mC mX0_measureWays) 59 = .ok (.aload_n 0, 1) := by decide +kernel
theorem dX0_measureWays_60 : decode (mC mX0_measureWays) 60 = .ok (.getfield 40, 3) := by decide +kernel
theorem dX0_measureWays_63 : decode (mC mX0_measureWays) 63 = .ok (.if_icmp .ge 34, 3) := by decide +kernel
theorem dX0_measureWays_66 : decode (mC mX0_measureWays) 66 = .ok (.aload_n 0, 1) := by decide +kernel
theorem dX0_measureWays_67 : decode (mC mX0_measureWays) 67 = .ok (.aload_n 0, 1) := by decide +kernel
theorem dX0_measureWays_68 : decode (mC mX0_measureWays) 68 = .ok (.getfield 18, 3) := by decide +kernel
theorem dX0_measureWays_71 : decode (mC mX0_measureWays) 71 = .ok (.iload_n 3, 1) := by decide +kernel
theorem dX0_measureWays_72 : decode (mC mX0_measureWays) 72 = .ok (.invokestatic 52, 3) := by decide +kernel
theorem dX0_measureWays_75 : decode (mC mX0_measureWays) 75 = .ok (.aload_n 0, 1) := by decide +kernel
theorem dX0_measureWays_76 : decode (mC mX0_measureWays) 76 = .ok (.getfield 21, 3) := by decide +kernel
theorem dX0_measureWays_79 : decode (mC mX0_measureWays) 79 = .ok (.iload_n 3, 1) := by decide +kernel
theorem dX0_measureWays_80 : decode (mC mX0_measureWays) 80 = .ok (.invokestatic 52, 3) := by decide +kernel
theorem dX0_measureWays_83 : decode (mC mX0_measureWays) 83 = .ok (.invokevirtual 56, 3) := by decide +kernel
theorem dX0_measureWays_86 : decode (mC mX0_measureWays) 86 = .ok (.ifCond .eq 5, 3) := by decide +kernel
theorem dX0_measureWays_89 : decode (mC mX0_measureWays) 89 = .ok (.iconst 1, 1) := by decide +kernel
theorem dX0_measureWays_90 : decode (mC mX0_measureWays) 90 = .ok (.istore_n 1, 1) := by decide +kernel
theorem dX0_measureWays_91 : decode (mC mX0_measureWays) 91 = .ok (.iinc 3 1, 3) := by decide +kernel
theorem dX0_measureWays_94 : decode (mC mX0_measureWays) 94 = .ok (.goto (-36), 3) := by decide +kernel
theorem dX0_measureWays_97 : decode (mC mX0_measureWays) 97 = .ok (.iinc 2 1, 3) := by decide +kernel
theorem dX0_measureWays_100 : decode (mC mX0_measureWays) 100 = .ok (.goto (-56), 3) := by decide +kernel
theorem dX0_measureWays_103 : decode (mC mX0_measureWays) 103 = .ok (.aload_n 0, 1) := by decide +kernel
theorem dX0_measureWays_104 : decode (mC mX0_measureWays) 104 = .ok (.invokevirtual 60, 3) := by decide +kernel
theorem dX0_measureWays_107 : decode (mC mX0_measureWays) 107 = .ok (.return_, 1) := by decide +kernel
theorem dX0_shortenWaysBy_0 : decode (mC mX0_shortenWaysBy) 0 = .ok (.iconst 0, 1) := by decide +kernel
theorem dX0_shortenWaysBy_1 : decode (mC mX0_shortenWaysBy) 1 = .ok (.istore_n 3, 1) := by decide +kernel
theorem dX0_shortenWaysBy_2 : decode (mC mX0_shortenWaysBy) 2 = .ok (.iconst 0, 1) := by decide +kernel
theorem dX0_shortenWaysBy_3 : decode (mC mX0_shortenWaysBy) 3 = .ok (.istore 4, 2) := by decide +kernel
theorem dX0_shortenWaysBy_5 : decode (mC mX0_shortenWaysBy) 5 = .ok (.iload 4, 2) := by decide +kernel
theorem dX0_shortenWaysBy_7 : decode (mC mX0_shortenWaysBy) 7 = .ok (.bipush 8, 2) := by decide +kernel
theorem dX0_shortenWaysBy_9 : decode (mC mX0_shortenWaysBy) 9 = .ok (.if_icmp .ge 64, 3) := by decide +kernel
theorem dX0_shortenWaysBy_12 : decode (mC mX0_shortenWaysBy) 12 = .ok (.iconst 1, 1) := by decide +kernel
theorem dX0_shortenWaysBy_13 : decode (mC mX0_shortenWaysBy) 13 = .ok (.aload_n 0, 1) := by decide +kernel
theorem dX0_shortenWaysBy_14 : decode (mC mX0_shortenWaysBy) 14 = .ok (.getfield 27, 3) := by decide +kernel
theorem dX0_shortenWaysBy_17 : decode (mC mX0_shortenWaysBy) 17 = .ok (.iload_n 2, 1) := by decide +kernel
theorem dX0_shortenWaysBy_18 : decode (mC mX0_shortenWaysBy) 18 = .ok (.bipush 8, 2) := by decide +kernel
theorem dX0_shortenWaysBy_20 : decode (mC mX0_shortenWaysBy) 20 = .ok (.imul, 1) := by decide +kernel
theorem dX0_shortenWaysBy_21 : decode (mC mX0_shortenWaysBy) 21 = .ok (.iload 4, 2) := by decide +kernel
theorem dX0_shortenWaysBy_23 : decode (mC mX0_shortenWaysBy) 23 = .ok (.iadd, 1) := by decide +kernel
theorem dX0_shortenWaysBy_24 : decode (mC mX0_shortenWaysBy) 24 = .ok (.invokestatic 52, 3) := by decide +kernel
theorem dX0_shortenWaysBy_27 : decode (mC mX0_shortenWaysBy) 27 = .ok (.iadd, 1) := by decide +kernel
theorem dX0_shortenWaysBy_28 : decode (mC mX0_shortenWaysBy) 28 = .ok (.istore 5, 2) := by decide +kernel
theorem dX0_shortenWaysBy_30 : decode (mC mX0_shortenWaysBy) 30 = .ok (.iload 5, 2) := by decide +kernel
theorem dX0_shortenWaysBy_32 : decode (mC mX0_shortenWaysBy) 32 = .ok (.aload_n 0, 1) := by decide +kernel
theorem dX0_shortenWaysBy_33 : decode (mC mX0_shortenWaysBy) 33 = .ok (.getfield 27, 3) := by decide +kernel
theorem dX0_shortenWaysBy_36 : decode (mC mX0_shortenWaysBy) 36 = .ok (.iload_n 1, 1) := by decide +kernel
theorem dX0_shortenWaysBy_37 : decode (mC mX0_shortenWaysBy) 37 = .ok (.bipush 8, 2) := by decide +kernel
theorem dX0_shortenWaysBy_39 : decode (mC mX0_shortenWaysBy) 39 = .ok (.imul, 1) := by decide +kernel
theorem dX0_shortenWaysBy_40 : decode (mC mX0_shortenWaysBy) 40 = .ok (.iload 4, 2) := by decide +kernel
theorem dX0_shortenWaysBy_42 : decode (mC mX0_shortenWaysBy) 42 = .ok (.iadd, 1) := by decide +kernel
theorem dX0_shortenWaysBy_43 : decode (mC mX0_shortenWaysBy) 43 = .ok (.invokestatic 52, 3) := by decide +kernel
theorem dX0_shortenWaysBy_46 : decode (mC mX0_shortenWaysBy) 46 = .ok (.if_icmp .ge 21, 3) := by decide +kernel
theorem dX0_shortenWaysBy_49 : decode (mC mX0_shortenWaysBy) 49 = .ok (.aload_n 0, 1) := by decide +kernel
theorem dX0_shortenWaysBy_50 : decode (mC mX0_shortenWaysBy) 50 = .ok (.getfield 27, 3) := by decide +kernel
theorem dX0_shortenWaysBy_53 : decode (mC mX0_shortenWaysBy) 53 = .ok (.iload_n 1, 1) := by decide +kernel
theorem dX0_shortenWaysBy_54 : decode (mC mX0_shortenWaysBy) 54 = .ok (.bipush 8, 2) := by decide +kernel
theorem dX0_shortenWaysBy_56 : decode (mC mX0_shortenWaysBy) 56 = .ok (.imul, 1) := by decide +kernel
theorem dX0_shortenWaysBy_57 : decode (mC mX0_shortenWaysBy) 57 = .ok (.iload 4, 2) := by decide +kernel
theorem dX0_shortenWaysBy_59 : decode (mC mX0_shortenWaysBy) 59 = .ok (.iadd, 1) := by decide +kernel
theorem dX0_shortenWaysBy_60 : decode (mC mX0_shortenWaysBy) 60 = .ok (.iload 5, 2) := by decide +kernel
theorem dX0_shortenWaysBy_62 : decode (mC mX0_shortenWaysBy) 62 = .ok (.invokestatic 48, 3) := by decide +kernel
theorem dX0_shortenWaysBy_65 : decode (mC mX0_shortenWaysBy) 65 = .ok (.iconst 1, 1) := by decide +kernel
theorem dX0_shortenWaysBy_66 : decode (mC mX0_shortenWaysBy) 66 = .ok (.istore_n 3, 1) := by decide +kernel
theorem dX0_shortenWaysBy_67 : decode (mC mX0_shortenWaysBy) 67 = .ok (.iinc 4 1, 3) := by decide +kernel
theorem dX0_shortenWaysBy_70 : decode (mC mX0_shortenWaysBy) 70 = .ok (.goto (-65), 3) := by decide +kernel
theorem dX0_shortenWaysBy_73 : decode (mC mX0_shortenWaysBy) 73 = .ok (.iload_n 3, 1) := by decide +kernel
theorem dX0_shortenWaysBy_74 : decode (mC mX0_shortenWaysBy) 74 = .ok (.ireturn, 1) := by decide +kernel
theorem dX0_findFirsts_0 : decode (mC mX0_findFirsts) 0 = .ok (.iconst 0, 1) := by decide +kernel
theorem dX0_findFirsts_1 : decode (mC mX0_findFirsts) 1 = .ok (.istore_n 1, 1) := by decide +kernel
theorem dX0_findFirsts_2 : decode (mC mX0_findFirsts) 2 = .ok (.iload_n 1, 1) := by decide +kernel
theorem dX0_findFirsts_3 : decode (mC mX0_findFirsts) 3 = .ok (.bipush 64, 2) := by decide +kernel
theorem dX0_findFirsts_5 : decode (mC mX0_findFirsts) 5 = .ok (.if_icmp .ge 18, 3) := by decide +kernel
theorem dX0_findFirsts_8 : decode (mC mX0_findFirsts) 8 = .ok (.aload_n 0, 1) := by decide +kernel
theorem dX0_findFirsts_9 : decode (mC mX0_findFirsts) 9 = .ok (.getfield 30, 3) := by decide +kernel
theorem dX0_findFirsts_12 : decode (mC mX0_findFirsts) 12 = .ok (.iload_n 1, 1) := by decide +kernel
theorem dX0_findFirsts_13 : decode (mC mX0_findFirsts) 13 = .ok (.iconst 0, 1) := by decide +kernel
theorem dX0_findFirsts_14 : decode (mC mX0_findFirsts) 14 = .ok (.invokestatic 48, 3) := by decide +kernel
theorem dX0_findFirsts_17 : decode (mC mX0_findFirsts) 17 = .ok (.iinc 1 1, 3) := by decide +kernel
theorem dX0_findFirsts_20 : decode (mC mX0_findFirsts) 20 = .ok (.goto (-18), 3) := by decide +kernel
theorem dX0_findFirsts_23 : decode (mC mX0_findFirsts) 23 = .ok (.iconst 0, 1) := by decide +kernel
theorem dX0_findFirsts_24 : decode (mC mX0_findFirsts) 24 = .ok (.istore_n 1, 1) := by decide +kernel
theorem dX0_findFirsts_25 : decode (mC mX0_findFirsts) 25 = .ok (.iload_n 1, 1) := by decide +kernel
theorem dX0_findFirsts_26 : decode (mC mX0_findFirsts) 26 = .ok (.aload_n 0, 1) := by decide +kernel
theorem dX0_findFirsts_27 : decode (mC mX0_findFirsts) 27 = .ok (.getfield 40, 3) := by decide +kernel
theorem dX0_findFirsts_30 : decode (mC mX0_findFirsts) 30 = .ok (.bipush 8, 2) := by decide +kernel
theorem dX0_findFirsts_32 : decode (mC mX0_findFirsts) 32 = .ok (.imul, 1) := by decide +kernel
theorem dX0_findFirsts_33 : decode (mC mX0_findFirsts) 33 = .ok (.if_icmp .ge 91, 3) := by decide +kernel
theorem dX0_findFirsts_36 : decode (mC mX0_findFirsts) 36 = .ok (.iload_n 1, 1) := by decide +kernel
theorem dX0_findFirsts_37 : decode (mC mX0_findFirsts) 37 = .ok (.bipush 8, 2) := by decide +kernel
theorem dX0_findFirsts_39 : decode (mC mX0_findFirsts) 39 = .ok (.idiv, 1) := by decide +kernel
theorem dX0_findFirsts_40 : decode (mC mX0_findFirsts) 40 = .ok (.istore_n 2, 1) := by decide +kernel
theorem dX0_findFirsts_41 : decode (mC mX0_findFirsts) 41 = .ok (.aload_n 0, 1) := by decide +kernel
theorem dX0_findFirsts_42 : decode (mC mX0_findFirsts) 42 = .ok (.getfield 18, 3) := by decide +kernel
theorem dX0_findFirsts_45 : decode (mC mX0_findFirsts) 45 = .ok (.iload_n 2, 1) := by decide +kernel
theorem dX0_findFirsts_46 : decode (mC mX0_findFirsts) 46 = .ok (.invokestatic 52, 3) := by decide +kernel
theorem dX0_findFirsts_49 : decode (mC mX0_findFirsts) 49 = .ok (.bipush 8, 2) := by decide +kernel
theorem dX0_findFirsts_51 : decode (mC mX0_findFirsts) 51 = .ok (.imul, 1) := by decide +kernel
theorem dX0_findFirsts_52 : decode (mC mX0_findFirsts) 52 = .ok (.iload_n 1, 1) := by decide +kernel
theorem dX0_findFirsts_53 : decode (mC mX0_findFirsts) 53 = .ok (.bipush 8, 2) := by decide +kernel
theorem dX0_findFirsts_55 : decode (mC mX0_findFirsts) 55 = .ok (.irem, 1) := by decide +kernel
theorem dX0_findFirsts_56 : decode (mC mX0_findFirsts) 56 = .ok (.iadd, 1) := by decide +kernel
theorem dX0_findFirsts_57 : decode (mC mX0_findFirsts) 57 = .ok (.istore_n 3, 1) := by decide +kernel
theorem dX0_findFirsts_58 : decode (mC mX0_findFirsts) 58 = .ok (.aload_n 0, 1) := by decide +kernel
theorem dX0_findFirsts_59 : decode (mC mX0_findFirsts) 59 = .ok (.getfield 21, 3) := by decide +kernel
theorem dX0_findFirsts_62 : decode (mC mX0_findFirsts) 62 = .ok (.iload_n 2, 1) := by decide +kernel
theorem dX0_findFirsts_63 : decode (mC mX0_findFirsts) 63 = .ok (.invokestatic 52, 3) := by decide +kernel
theorem dX0_findFirsts_66 : decode (mC mX0_findFirsts) 66 = .ok (.bipush 8, 2) := by decide +kernel
theorem dX0_findFirsts_68 : decode (mC mX0_findFirsts) 68 = .ok (.imul, 1) := by decide +kernel
theorem dX0_findFirsts_69 : decode (mC mX0_findFirsts) 69 = .ok (.iload_n 1, 1) := by decide +kernel
theorem dX0_findFirsts_70 : decode (mC mX0_findFirsts) 70 = .ok (.bipush 8, 2) := by decide +kernel
theorem dX0_findFirsts_72 : decode (mC mX0_findFirsts) 72 = .ok (.irem, 1) := by decide +kernel
theorem dX0_findFirsts_73 : decode (mC mX0_findFirsts) 73 = .ok (.iadd, 1) := by decide +kernel
theorem dX0_findFirsts_74 : decode (mC mX0_findFirsts) 74 = .ok (.istore 4, 2) := by decide +kernel
theorem dX0_findFirsts_76 : decode (mC mX0_findFirsts) 76 = .ok (.iconst 1, 1) := by decide +kernel
theorem dX0_findFirsts_77 : decode (mC mX0_findFirsts) 77 = .ok (.aload_n 0, 1) := by decide +kernel
theorem dX0_findFirsts_78 : decode (mC mX0_findFirsts) 78 = .ok (.getfield 27, 3) := by decide +kernel
theorem dX0_findFirsts_81 : decode (mC mX0_findFirsts) 81 = .ok (.iload 4, 2) := by decide +kernel
theorem dX0_findFirsts_83 : decode (mC mX0_findFirsts) 83 = .ok (.invokestatic 52, 3) := by decide +kernel
theorem dX0_findFirsts_86 : decode (mC mX0_findFirsts) 86 = .ok (.iadd, 1) := by decide +kernel
theorem dX0_findFirsts_87 : decode (mC mX0_findFirsts) 87 = .ok (.aload_n 0, 1) := by decide +kernel
theorem dX0_findFirsts_88 : decode (mC mX0_findFirsts) 88 = .ok (.getfield 27, 3) := by decide +kernel
theorem dX0_findFirsts_91 : decode (mC mX0_findFirsts) 91 = .ok (.iload_n 3, 1) := by decide +kernel
theorem dX0_findFirsts_92 : decode (mC mX0_findFirsts) 92 = .ok (.invokestatic 52, 3) := by decide +kernel
theorem dX0_findFirsts_95 : decode (mC mX0_findFirsts) 95 = .ok (.if_icmp .ne 23, 3) := by decide +kernel
theorem dX0_findFirsts_98 : decode (mC mX0_findFirsts) 98 = .ok (.aload_n 0, 1) := by decide +kernel
theorem dX0_findFirsts_99 : decode (mC mX0_findFirsts) 99 = .ok (.getfield 30, 3) := by decide +kernel
theorem dX0_findFirsts_102 : decode (mC mX0_findFirsts) 102 = .ok (.iload_n 3, 1) := by decide +kernel
theorem dX0_findFirsts_103 : decode (mC mX0_findFirsts) 103 = .ok (.aload_n 0, 1) := by decide +kernel
theorem dX0_findFirsts_104 : decode (mC mX0_findFirsts) 104 = .ok (.getfield 30, 3) := by decide +kernel
theorem dX0_findFirsts_107 : decode (mC mX0_findFirsts) 107 = .ok (.iload_n 3, 1) := by decide +kernel
theorem dX0_findFirsts_108 : decode (mC mX0_findFirsts) 108 = .ok (.invokestatic 52, 3) := by decide +kernel
theorem dX0_findFirsts_111 : decode (mC mX0_findFirsts) 111 = .ok (.iconst 1, 1) := by decide +kernel
theorem dX0_findFirsts_112 : decode (mC mX0_findFirsts) 112 = .ok (.iload_n 2, 1) := by decide +kernel
theorem dX0_findFirsts_113 : decode (mC mX0_findFirsts) 113 = .ok (.ishl, 1) := by decide +kernel
theorem dX0_findFirsts_114 : decode (mC mX0_findFirsts) 114 = .ok (.ior, 1) := by decide +kernel
theorem dX0_findFirsts_115 : decode (mC mX0_findFirsts) 115 = .ok (.invokestatic 48, 3) := by decide +kernel
theorem dX0_findFirsts_118 : decode (mC mX0_findFirsts) 118 = .ok (.iinc 1 1, 3) := by decide +kernel
theorem dX0_findFirsts_121 : decode (mC mX0_findFirsts) 121 = .ok (.goto (-96), 3) := by decide +kernel
theorem dX0_findFirsts_124 : decode (mC mX0_findFirsts) 124 = .ok (.return_, 1) := by decide +kernel
theorem dX0_opensBy_0 : decode (mC mX0_opensBy) 0 = .ok (.aload_n 0, 1) := by decide +kernel
theorem dX0_opensBy_1 : decode (mC mX0_opensBy) 1 = .ok (.getfield 15, 3) := by decide +kernel
theorem dX0_opensBy_4 : decode (mC mX0_opensBy) 4 = .ok (.iload_n 1, 1) := by decide +kernel
theorem dX0_opensBy_5 : decode (mC mX0_opensBy) 5 = .ok (.invokestatic 52, 3) := by decide +kernel
theorem dX0_opensBy_8 : decode (mC mX0_opensBy) 8 = .ok (.istore 5, 2) := by decide +kernel
theorem dX0_opensBy_10 : decode (mC mX0_opensBy) 10 = .ok (.iconst 1, 1) := by decide +kernel
theorem dX0_opensBy_11 : decode (mC mX0_opensBy) 11 = .ok (.iload 5, 2) := by decide +kernel
theorem dX0_opensBy_13 : decode (mC mX0_opensBy) 13 = .ok (.iconst 3, 1) := by decide +kernel
theorem dX0_opensBy_14 : decode (mC mX0_opensBy) 14 = .ok (.idiv, 1) := by decide +kernel
theorem dX0_opensBy_15 : decode (mC mX0_opensBy) 15 = .ok (.iconst 2, 1) := by decide +kernel
theorem dX0_opensBy_16 : decode (mC mX0_opensBy) 16 = .ok (.iadd, 1) := by decide +kernel
theorem dX0_opensBy_17 : decode (mC mX0_opensBy) 17 = .ok (.invokestatic 63, 3) := by decide +kernel
theorem dX0_opensBy_20 : decode (mC mX0_opensBy) 20 = .ok (.istore 6, 2) := by decide +kernel
theorem dX0_opensBy_22 : decode (mC mX0_opensBy) 22 = .ok (.iload_n 3, 1) := by decide +kernel
theorem dX0_opensBy_23 : decode (mC mX0_opensBy) 23 = .ok (.iconst 1, 1) := by decide +kernel
theorem dX0_opensBy_24 : decode (mC mX0_opensBy) 24 = .ok (.if_icmp .lt 7, 3) := by decide +kernel
theorem dX0_opensBy_27 : decode (mC mX0_opensBy) 27 = .ok (.iconst 1, 1) := by decide +kernel
theorem dX0_opensBy_28 : decode (mC mX0_opensBy) 28 = .ok (.goto 4, 3) := by decide +kernel
theorem dX0_opensBy_31 : decode (mC mX0_opensBy) 31 = .ok (.iconst 0, 1) := by decide +kernel
theorem dX0_opensBy_32 : decode (mC mX0_opensBy) 32 = .ok (.istore 7, 2) := by decide +kernel
theorem dX0_opensBy_34 : decode (mC mX0_opensBy) 34 = .ok (.iload 7, 2) := by decide +kernel
theorem dX0_opensBy_36 : decode (mC mX0_opensBy) 36 = .ok (.ifCond .eq 14, 3) := by decide +kernel
theorem dX0_opensBy_39 : decode (mC mX0_opensBy) 39 = .ok (.iload_n 2, 1) := by decide +kernel
theorem dX0_opensBy_40 : decode (mC mX0_opensBy) 40 = .ok (.iload 6, 2) := by decide +kernel
theorem dX0_opensBy_42 : decode (mC mX0_opensBy) 42 = .ok (.irem, 1) := by decide +kernel
theorem dX0_opensBy_43 : decode (mC mX0_opensBy) 43 = .ok (.ifCond .ne 7, 3) := by decide +kernel
theorem dX0_opensBy_46 : decode (mC mX0_opensBy) 46 = .ok (.iconst 1, 1) := by decide +kernel
theorem dX0_opensBy_47 : decode (mC mX0_opensBy) 47 = .ok (.goto 4, 3) := by decide +kernel
theorem dX0_opensBy_50 : decode (mC mX0_opensBy) 50 = .ok (.iconst 0, 1) := by decide +kernel
theorem dX0_opensBy_51 : decode (mC mX0_opensBy) 51 = .ok (.istore 8, 2) := by decide +kernel
theorem dX0_opensBy_53 : decode (mC mX0_opensBy) 53 = .ok (.iload 7, 2) := by decide +kernel
theorem dX0_opensBy_55 : decode (mC mX0_opensBy) 55 = .ok (.ifCond .ne 10, 3) := by decide +kernel
theorem dX0_opensBy_58 : decode (mC mX0_opensBy) 58 = .ok (.iload_n 2, 1) := by decide +kernel
theorem dX0_opensBy_59 : decode (mC mX0_opensBy) 59 = .ok (.iconst 2, 1) := by decide +kernel
theorem dX0_opensBy_60 : decode (mC mX0_opensBy) 60 = .ok (.irem, 1) := by decide +kernel
theorem dX0_opensBy_61 : decode (mC mX0_opensBy) 61 = .ok (.iconst 1, 1) := by decide +kernel
theorem dX0_opensBy_62 : decode (mC mX0_opensBy) 62 = .ok (.if_icmp .ne 7, 3) := by decide +kernel
theorem dX0_opensBy_65 : decode (mC mX0_opensBy) 65 = .ok (.iconst 1, 1) := by decide +kernel
theorem dX0_opensBy_66 : decode (mC mX0_opensBy) 66 = .ok (.goto 4, 3) := by decide +kernel
theorem dX0_opensBy_69 : decode (mC mX0_opensBy) 69 = .ok (.iconst 0, 1) := by decide +kernel
theorem dX0_opensBy_70 : decode (mC mX0_opensBy) 70 = .ok (.istore 9, 2) := by decide +kernel
theorem dX0_opensBy_72 : decode (mC mX0_opensBy) 72 = .ok (.aload_n 0, 1) := by decide +kernel
theorem dX0_opensBy_73 : decode (mC mX0_opensBy) 73 = .ok (.getfield 9, 3) := by decide +kernel
theorem dX0_opensBy_76 : decode (mC mX0_opensBy) 76 = .ok (.iload_n 1, 1) := by decide +kernel
theorem dX0_opensBy_77 : decode (mC mX0_opensBy) 77 = .ok (.invokestatic 52, 3) := by decide +kernel
theorem dX0_opensBy_80 : decode (mC mX0_opensBy) 80 = .ok (.tableswitch 100 0 5 #[40, 43, 46, 64, 67, 84], 40) := by decide +kernel
theorem dX0_opensBy_120 : decode (mC mX0_opensBy) 120 = .ok (.iload 7, 2) := by decide +kernel
theorem dX0_opensBy_122 : decode (mC mX0_opensBy) 122 = .ok (.ireturn, 1) := by decide +kernel
theorem dX0_opensBy_123 : decode (mC mX0_opensBy) 123 = .ok (.iload 8, 2) := by decide +kernel
theorem dX0_opensBy_125 : decode (mC mX0_opensBy) 125 = .ok (.ireturn, 1) := by decide +kernel
theorem dX0_opensBy_126 : decode (mC mX0_opensBy) 126 = .ok (.iload 7, 2) := by decide +kernel
theorem dX0_opensBy_128 : decode (mC mX0_opensBy) 128 = .ok (.ifCond .eq 14, 3) := by decide +kernel
theorem dX0_opensBy_131 : decode (mC mX0_opensBy) 131 = .ok (.iload 4, 2) := by decide +kernel
theorem dX0_opensBy_133 : decode (mC mX0_opensBy) 133 = .ok (.iload 5, 2) := by decide +kernel
theorem dX0_opensBy_135 : decode (mC mX0_opensBy) 135 = .ok (.if_icmp .lt 7, 3) := by decide +kernel
theorem dX0_opensBy_138 : decode (mC mX0_opensBy) 138 = .ok (.iconst 1, 1) := by decide +kernel
theorem dX0_opensBy_139 : decode (mC mX0_opensBy) 139 = .ok (.goto 4, 3) := by decide +kernel
theorem dX0_opensBy_142 : decode (mC mX0_opensBy) 142 = .ok (.iconst 0, 1) := by decide +kernel
theorem dX0_opensBy_143 : decode (mC mX0_opensBy) 143 = .ok (.ireturn, 1) := by decide +kernel
theorem dX0_opensBy_144 : decode (mC mX0_opensBy) 144 = .ok (.iload 9, 2) := by decide +kernel
theorem dX0_opensBy_146 : decode (mC mX0_opensBy) 146 = .ok (.ireturn, 1) := by decide +kernel
theorem dX0_opensBy_147 : decode (mC mX0_opensBy) 147 = .ok (.iload 9, 2) := by decide +kernel
theorem dX0_opensBy_149 : decode (mC mX0_opensBy) 149 = .ok (.ifCond .ne 9, 3) := by decide +kernel
theorem dX0_opensBy_152 : decode (mC mX0_opensBy) 152 = .ok (.iload_n 2, 1) := by decide +kernel
theorem dX0_opensBy_153 : decode (mC mX0_opensBy) 153 = .ok (.iconst 2, 1) := by decide +kernel
theorem dX0_opensBy_154 : decode (mC mX0_opensBy) 154 = .ok (.irem, 1) := by decide +kernel
theorem dX0_opensBy_155 : decode (mC mX0_opensBy) 155 = .ok (.ifCond .ne 7, 3) := by decide +kernel
theorem dX0_opensBy_158 : decode (mC mX0_opensBy) 158 = .ok (.iconst 1, 1) := by decide +kernel
theorem dX0_opensBy_159 : decode (mC mX0_opensBy) 159 = .ok (.goto 4, 3) := by decide +kernel
theorem dX0_opensBy_162 : decode (mC mX0_opensBy) 162 = .ok (.iconst 0, 1) := by decide +kernel
theorem dX0_opensBy_163 : decode (mC mX0_opensBy) 163 = .ok (.ireturn, 1) := by decide +kernel
theorem dX0_opensBy_164 : decode (mC mX0_opensBy) 164 = .ok (.iload 8, 2) := by decide +kernel
theorem dX0_opensBy_166 : decode (mC mX0_opensBy) 166 = .ok (.ifCond .eq 12, 3) := by decide +kernel
theorem dX0_opensBy_169 : decode (mC mX0_opensBy) 169 = .ok (.iload_n 3, 1) := by decide +kernel
theorem dX0_opensBy_170 : decode (mC mX0_opensBy) 170 = .ok (.iconst 2, 1) := by decide +kernel
theorem dX0_opensBy_171 : decode (mC mX0_opensBy) 171 = .ok (.if_icmp .lt 7, 3) := by decide +kernel
theorem dX0_opensBy_174 : decode (mC mX0_opensBy) 174 = .ok (.iconst 1, 1) := by decide +kernel
theorem dX0_opensBy_175 : decode (mC mX0_opensBy) 175 = .ok (.goto 4, 3) := by decide +kernel
theorem dX0_opensBy_178 : decode (mC mX0_opensBy) 178 = .ok (.iconst 0, 1) := by decide +kernel
theorem dX0_opensBy_179 : decode (mC mX0_opensBy) 179 = .ok (.ireturn, 1) := by decide +kernel
theorem dX0_opensBy_180 : decode (mC mX0_opensBy) 180 = .ok (.iconst 0, 1) := by decide +kernel
theorem dX0_opensBy_181 : decode (mC mX0_opensBy) 181 = .ok (.ireturn, 1) := by decide +kernel
theorem dX1_init_0 : decode (mC mX1_init) 0 = .ok (.aload_n 0, 1) := by decide +kernel
theorem dX1_init_1 : decode (mC mX1_init) 1 = .ok (.invokespecial 3, 3) := by decide +kernel
theorem dX1_init_4 : decode (mC mX1_init) 4 = .ok (.aload_n 0, 1) := by decide +kernel
theorem dX1_init_5 : decode (mC mX1_init) 5 = .ok (.new 9, 3) := by decide +kernel
theorem dX1_init_8 : decode (mC mX1_init) 8 = .ok (.dup, 1) := by decide +kernel
theorem dX1_init_9 : decode (mC mX1_init) 9 = .ok (.bipush 96, 2) := by decide +kernel
theorem dX1_init_11 : decode (mC mX1_init) 11 = .ok (.invokespecial 11, 3) := by decide +kernel
theorem dX1_init_14 : decode (mC mX1_init) 14 = .ok (.putfield 14, 3) := by decide +kernel
theorem dX1_init_17 : decode (mC mX1_init) 17 = .ok (.return_, 1) := by decide +kernel
theorem dX1_lengthAt_0 : decode (mC mX1_lengthAt) 0 = .ok (.aload_n 0, 1) := by decide +kernel
theorem dX1_lengthAt_1 : decode (mC mX1_lengthAt) 1 = .ok (.getfield 14, 3) := by decide +kernel
theorem dX1_lengthAt_4 : decode (mC mX1_lengthAt) 4 = .ok (.getfield 20, 3) := by decide +kernel
theorem dX1_lengthAt_7 : decode (mC mX1_lengthAt) 7 = .ok (.iload_n 1, 1) := by decide +kernel
theorem dX1_lengthAt_8 : decode (mC mX1_lengthAt) 8 = .ok (.invokestatic 24, 3) := by decide +kernel
theorem dX1_lengthAt_11 : decode (mC mX1_lengthAt) 11 = .ok (.tableswitch 102 100 119 #[93, 102, 102, 98, 98, 102, 102, 102, 102, 102, 102, 102, 96, 102, 98, 102, 100, 102, 102, 100], 93) := by decide +kernel
theorem dX1_lengthAt_104 : decode (mC mX1_lengthAt) 104 = .ok (.bipush 6, 2) := by decide +kernel
theorem dX1_lengthAt_106 : decode (mC mX1_lengthAt) 106 = .ok (.ireturn, 1) := by decide +kernel
theorem dX1_lengthAt_107 : decode (mC mX1_lengthAt) 107 = .ok (.iconst 5, 1) := by decide +kernel
theorem dX1_lengthAt_108 : decode (mC mX1_lengthAt) 108 = .ok (.ireturn, 1) := by decide +kernel
theorem dX1_lengthAt_109 : decode (mC mX1_lengthAt) 109 = .ok (.iconst 4, 1) := by decide +kernel
theorem dX1_lengthAt_110 : decode (mC mX1_lengthAt) 110 = .ok (.ireturn, 1) := by decide +kernel
theorem dX1_lengthAt_111 : decode (mC mX1_lengthAt) 111 = .ok (.iconst 3, 1) := by decide +kernel
theorem dX1_lengthAt_112 : decode (mC mX1_lengthAt) 112 = .ok (.ireturn, 1) := by decide +kernel
theorem dX1_lengthAt_113 : decode (mC mX1_lengthAt) 113 = .ok (.iconst 0, 1) := by decide +kernel
theorem dX1_lengthAt_114 : decode (mC mX1_lengthAt) 114 = .ok (.ireturn, 1) := by decide +kernel
theorem dX1_shapeFault_0 : decode (mC mX1_shapeFault) 0 = .ok (.iconst 0, 1) := by decide +kernel
theorem dX1_shapeFault_1 : decode (mC mX1_shapeFault) 1 = .ok (.istore_n 1, 1) := by decide +kernel
theorem dX1_shapeFault_2 : decode (mC mX1_shapeFault) 2 = .ok (.iconst 0, 1) := by decide +kernel
theorem dX1_shapeFault_3 : decode (mC mX1_shapeFault) 3 = .ok (.istore_n 2, 1) := by decide +kernel
theorem dX1_shapeFault_4 : decode (mC mX1_shapeFault) 4 = .ok (.iload_n 2, 1) := by decide +kernel
theorem dX1_shapeFault_5 : decode (mC mX1_shapeFault) 5 = .ok (.aload_n 0, 1) := by decide +kernel
theorem dX1_shapeFault_6 : decode (mC mX1_shapeFault) 6 = .ok (.getfield 14, 3) := by decide +kernel
theorem dX1_shapeFault_9 : decode (mC mX1_shapeFault) 9 = .ok (.getfield 28, 3) := by decide +kernel
theorem dX1_shapeFault_12 : decode (mC mX1_shapeFault) 12 = .ok (.if_icmp .ge 37, 3) := by decide +kernel
theorem dX1_shapeFault_15 : decode (mC mX1_shapeFault) 15 = .ok (.aload_n 0, 1) := by decide +kernel
theorem dX1_shapeFault_16 : decode (mC mX1_shapeFault) 16 = .ok (.iload_n 1, 1) := by decide +kernel
theorem dX1_shapeFault_17 : decode (mC mX1_shapeFault) 17 = .ok (.iload_n 2, 1) := by decide +kernel
theorem dX1_shapeFault_18 : decode (mC mX1_shapeFault) 18 = .ok (.invokevirtual 32, 3) := by decide +kernel
theorem dX1_shapeFault_21 : decode (mC mX1_shapeFault) 21 = .ok (.ifCond .ne 5, 3) := by decide +kernel
theorem dX1_shapeFault_24 : decode (mC mX1_shapeFault) 24 = .ok (.iload_n 2, 1) := by decide +kernel
theorem dX1_shapeFault_25 : decode (mC mX1_shapeFault) 25 = .ok (.ireturn, 1) := by decide +kernel
theorem dX1_shapeFault_26 : decode (mC mX1_shapeFault) 26 = .ok (.iload_n 2, 1) := by decide +kernel
theorem dX1_shapeFault_27 : decode (mC mX1_shapeFault) 27 = .ok (.iload_n 1, 1) := by decide +kernel
theorem dX1_shapeFault_28 : decode (mC mX1_shapeFault) 28 = .ok (.isub, 1) := by decide +kernel
theorem dX1_shapeFault_29 : decode (mC mX1_shapeFault) 29 = .ok (.iconst 1, 1) := by decide +kernel
theorem dX1_shapeFault_30 : decode (mC mX1_shapeFault) 30 = .ok (.iadd, 1) := by decide +kernel
theorem dX1_shapeFault_31 : decode (mC mX1_shapeFault) 31 = .ok (.aload_n 0, 1) := by decide +kernel
theorem dX1_shapeFault_32 : decode (mC mX1_shapeFault) 32 = .ok (.iload_n 1, 1) := by decide +kernel
theorem dX1_shapeFault_33 : decode (mC mX1_shapeFault) 33 = .ok (.invokevirtual 36, 3) := by decide +kernel
theorem dX1_shapeFault_36 : decode (mC mX1_shapeFault) 36 = .ok (.if_icmp .ne 7, 3) := by decide +kernel
theorem dX1_shapeFault_39 : decode (mC mX1_shapeFault) 39 = .ok (.iload_n 2, 1) := by decide +kernel
theorem dX1_shapeFault_40 : decode (mC mX1_shapeFault) 40 = .ok (.iconst 1, 1) := by decide +kernel
theorem dX1_shapeFault_41 : decode (mC mX1_shapeFault) 41 = .ok (.iadd, 1) := by decide +kernel
theorem dX1_shapeFault_42 : decode (mC mX1_shapeFault) 42 = .ok (.istore_n 1, 1) := by decide +kernel
theorem dX1_shapeFault_43 : decode (mC mX1_shapeFault) 43 = .ok (.iinc 2 1, 3) := by decide +kernel
theorem dX1_shapeFault_46 : decode (mC mX1_shapeFault) 46 = .ok (.goto (-42), 3) := by decide +kernel
theorem dX1_shapeFault_49 : decode (mC mX1_shapeFault) 49 = .ok (.aload_n 0, 1) := by decide +kernel
theorem dX1_shapeFault_50 : decode (mC mX1_shapeFault) 50 = .ok (.getfield 14, 3) := by decide +kernel
theorem dX1_shapeFault_53 : decode (mC mX1_shapeFault) 53 = .ok (.getfield 28, 3) := by decide +kernel
theorem dX1_shapeFault_56 : decode (mC mX1_shapeFault) 56 = .ok (.ifCond .eq 14, 3) := by decide +kernel
theorem dX1_shapeFault_59 : decode (mC mX1_shapeFault) 59 = .ok (.iload_n 1, 1) := by decide +kernel
theorem dX1_shapeFault_60 : decode (mC mX1_shapeFault) 60 = .ok (.aload_n 0, 1) := by decide +kernel
theorem dX1_shapeFault_61 : decode (mC mX1_shapeFault) 61 = .ok (.getfield 14, 3) := by decide +kernel
theorem dX1_shapeFault_64 : decode (mC mX1_shapeFault) 64 = .ok (.getfield 28, 3) := by decide +kernel
theorem dX1_shapeFault_67 : decode (mC mX1_shapeFault) 67 = .ok (.if_icmp .ge 13, 3) := by decide +kernel
theorem dX1_shapeFault_70 : decode (mC mX1_shapeFault) 70 = .ok (.aload_n 0, 1) := by decide +kernel
theorem dX1_shapeFault_71 : decode (mC mX1_shapeFault) 71 = .ok (.getfield 14, 3) := by decide +kernel
theorem dX1_shapeFault_74 : decode (mC mX1_shapeFault) 74 = .ok (.getfield 28, 3) := by decide +kernel
theorem dX1_shapeFault_77 : decode (mC mX1_shapeFault) 77 = .ok (.goto 5, 3) := by decide +kernel
theorem dX1_shapeFault_80 : decode (mC mX1_shapeFault) 80 = .ok (.bipush (-9), 2) := by decide +kernel
theorem dX1_shapeFault_82 : decode (mC mX1_shapeFault) 82 = .ok (.ireturn, 1) := by decide +kernel
theorem dX1_fitsShape_0 : decode (mC mX1_fitsShape) 0 = .ok (.aload_n 0, 1) := by decide +kernel
theorem dX1_fitsShape_1 : decode (mC mX1_fitsShape) 1 = .ok (.iload_n 1, 1) := by decide +kernel
theorem dX1_fitsShape_2 : decode (mC mX1_fitsShape) 2 = .ok (.invokevirtual 36, 3) := by decide +kernel
theorem dX1_fitsShape_5 : decode (mC mX1_fitsShape) 5 = .ok (.istore_n 3, 1) := by decide +kernel
theorem dX1_fitsShape_6 : decode (mC mX1_fitsShape) 6 = .ok (.iload_n 2, 1) := by decide +kernel
theorem dX1_fitsShape_7 : decode (mC mX1_fitsShape) 7 = .ok (.iload_n 1, 1) := by decide +kernel
theorem dX1_fitsShape_8 : decode (mC mX1_fitsShape) 8 = .ok (.if_icmp .ne 13, 3) := by decide +kernel
theorem dX1_fitsShape_11 : decode (mC mX1_fitsShape) 11 = .ok (.iload_n 3, 1) := by decide +kernel
theorem dX1_fitsShape_12 : decode (mC mX1_fitsShape) 12 = .ok (.ifCond .le 7, 3) := by decide +kernel
theorem dX1_fitsShape_15 : decode (mC mX1_fitsShape) 15 = .ok (.iconst 1, 1) := by decide +kernel
theorem dX1_fitsShape_16 : decode (mC mX1_fitsShape) 16 = .ok (.goto 4, 3) := by decide +kernel
theorem dX1_fitsShape_19 : decode (mC mX1_fitsShape) 19 = .ok (.iconst 0, 1) := by decide +kernel
theorem dX1_fitsShape_20 : decode (mC mX1_fitsShape) 20 = .ok (.ireturn, 1) := by decide +kernel
theorem dX1_fitsShape_21 : decode (mC mX1_fitsShape) 21 = .ok (.aload_n 0, 1) := by decide +kernel
theorem dX1_fitsShape_22 : decode (mC mX1_fitsShape) 22 = .ok (.getfield 14, 3) := by decide +kernel
theorem dX1_fitsShape_25 : decode (mC mX1_fitsShape) 25 = .ok (.getfield 20, 3) := by decide +kernel
theorem dX1_fitsShape_28 : decode (mC mX1_fitsShape) 28 = .ok (.iload_n 2, 1) := by decide +kernel
theorem dX1_fitsShape_29 : decode (mC mX1_fitsShape) 29 = .ok (.invokestatic 24, 3) := by decide +kernel
theorem dX1_fitsShape_32 : decode (mC mX1_fitsShape) 32 = .ok (.istore 4, 2) := by decide +kernel
theorem dX1_fitsShape_34 : decode (mC mX1_fitsShape) 34 = .ok (.iload_n 2, 1) := by decide +kernel
theorem dX1_fitsShape_35 : decode (mC mX1_fitsShape) 35 = .ok (.iload_n 1, 1) := by decide +kernel
theorem dX1_fitsShape_36 : decode (mC mX1_fitsShape) 36 = .ok (.isub, 1) := by decide +kernel
theorem dX1_fitsShape_37 : decode (mC mX1_fitsShape) 37 = .ok (.iload_n 3, 1) := by decide +kernel
theorem dX1_fitsShape_38 : decode (mC mX1_fitsShape) 38 = .ok (.iconst 1, 1) := by decide +kernel
theorem dX1_fitsShape_39 : decode (mC mX1_fitsShape) 39 = .ok (.isub, 1) := by decide +kernel
theorem dX1_fitsShape_40 : decode (mC mX1_fitsShape) 40 = .ok (.if_icmp .ne 16, 3) := by decide +kernel
theorem dX1_fitsShape_43 : decode (mC mX1_fitsShape) 43 = .ok (.iload 4, 2) := by decide +kernel
theorem dX1_fitsShape_45 : decode (mC mX1_fitsShape) 45 = .ok (.bipush 59, 2) := by decide +kernel
theorem dX1_fitsShape_47 : decode (mC mX1_fitsShape) 47 = .ok (.if_icmp .ne 7, 3) := by decide +kernel
theorem dX1_fitsShape_50 : decode (mC mX1_fitsShape) 50 = .ok (.iconst 1, 1) := by decide +kernel
theorem dX1_fitsShape_51 : decode (mC mX1_fitsShape) 51 = .ok (.goto 4, 3) := by decide +kernel
theorem dX1_fitsShape_54 : decode (mC mX1_fitsShape) 54 = .ok (.iconst 0, 1) := by decide +kernel
theorem dX1_fitsShape_55 : decode (mC mX1_fitsShape) 55 = .ok (.ireturn, 1) := by decide +kernel
theorem dX1_fitsShape_56 : decode (mC mX1_fitsShape) 56 = .ok (.iload_n 2, 1) := by decide +kernel
theorem dX1_fitsShape_57 : decode (mC mX1_fitsShape) 57 = .ok (.iload_n 1, 1) := by decide +kernel
theorem dX1_fitsShape_58 : decode (mC mX1_fitsShape) 58 = .ok (.isub, 1) := by decide +kernel
theorem dX1_fitsShape_59 : decode (mC mX1_fitsShape) 59 = .ok (.iconst 1, 1) := by decide +kernel
theorem dX1_fitsShape_60 : decode (mC mX1_fitsShape) 60 = .ok (.if_icmp .ne 35, 3) := by decide +kernel
theorem dX1_fitsShape_63 : decode (mC mX1_fitsShape) 63 = .ok (.aload_n 0, 1) := by decide +kernel
theorem dX1_fitsShape_64 : decode (mC mX1_fitsShape) 64 = .ok (.getfield 14, 3) := by decide +kernel
theorem dX1_fitsShape_67 : decode (mC mX1_fitsShape) 67 = .ok (.getfield 20, 3) := by decide +kernel
theorem dX1_fitsShape_70 : decode (mC mX1_fitsShape) 70 = .ok (.iload_n 1, 1) := by decide +kernel
theorem dX1_fitsShape_71 : decode (mC mX1_fitsShape) 71 = .ok (.invokestatic 24, 3) := by decide +kernel
theorem dX1_fitsShape_74 : decode (mC mX1_fitsShape) 74 = .ok (.bipush 100, 2) := by decide +kernel
theorem dX1_fitsShape_76 : decode (mC mX1_fitsShape) 76 = .ok (.if_icmp .ne 19, 3) := by decide +kernel
theorem dX1_fitsShape_79 : decode (mC mX1_fitsShape) 79 = .ok (.iload 4, 2) := by decide +kernel
theorem dX1_fitsShape_81 : decode (mC mX1_fitsShape) 81 = .ok (.invokestatic 40, 3) := by decide +kernel
theorem dX1_fitsShape_84 : decode (mC mX1_fitsShape) 84 = .ok (.bipush (-9), 2) := by decide +kernel
theorem dX1_fitsShape_86 : decode (mC mX1_fitsShape) 86 = .ok (.if_icmp .eq 7, 3) := by decide +kernel
theorem dX1_fitsShape_89 : decode (mC mX1_fitsShape) 89 = .ok (.iconst 1, 1) := by decide +kernel
theorem dX1_fitsShape_90 : decode (mC mX1_fitsShape) 90 = .ok (.goto 4, 3) := by decide +kernel
theorem dX1_fitsShape_93 : decode (mC mX1_fitsShape) 93 = .ok (.iconst 0, 1) := by decide +kernel
theorem dX1_fitsShape_94 : decode (mC mX1_fitsShape) 94 = .ok (.ireturn, 1) := by decide +kernel
theorem dX1_fitsShape_95 : decode (mC mX1_fitsShape) 95 = .ok (.iload 4, 2) := by decide +kernel
theorem dX1_fitsShape_97 : decode (mC mX1_fitsShape) 97 = .ok (.bipush 48, 2) := by decide +kernel
theorem dX1_fitsShape_99 : decode (mC mX1_fitsShape) 99 = .ok (.if_icmp .lt 14, 3) := by decide +kernel
theorem dX1_fitsShape_102 : decode (mC mX1_fitsShape) 102 = .ok (.iload 4, 2) := by decide +kernel
theorem dX1_fitsShape_104 : decode (mC mX1_fitsShape) 104 = .ok (.bipush 57, 2) := by decide +kernel
theorem dX1_fitsShape_106 : decode (mC mX1_fitsShape) 106 = .ok (.if_icmp .gt 7, 3) := by decide +kernel
theorem dX1_fitsShape_109 : decode (mC mX1_fitsShape) 109 = .ok (.iconst 1, 1) := by decide +kernel
theorem dX1_fitsShape_110 : decode (mC mX1_fitsShape) 110 = .ok (.goto 4, 3) := by decide +kernel
theorem dX1_fitsShape_113 : decode (mC mX1_fitsShape) 113 = .ok (.iconst 0, 1) := by decide +kernel
theorem dX1_fitsShape_114 : decode (mC mX1_fitsShape) 114 = .ok (.ireturn, 1) := by decide +kernel
theorem dX1_kindOf_0 : decode (mC mX1_kindOf) 0 = .ok (.iload_n 0, 1) := by decide +kernel
theorem dX1_kindOf_1 : decode (mC mX1_kindOf) 1 = .ok (.tableswitch 99 98 115 #[97, 93, 99, 99, 99, 99, 99, 99, 99, 91, 99, 99, 99, 95, 87, 99, 99, 89], 87) := by decide +kernel
theorem dX1_kindOf_88 : decode (mC mX1_kindOf) 88 = .ok (.iconst 0, 1) := by decide +kernel
theorem dX1_kindOf_89 : decode (mC mX1_kindOf) 89 = .ok (.ireturn, 1) := by decide +kernel
theorem dX1_kindOf_90 : decode (mC mX1_kindOf) 90 = .ok (.iconst 1, 1) := by decide +kernel
theorem dX1_kindOf_91 : decode (mC mX1_kindOf) 91 = .ok (.ireturn, 1) := by decide +kernel
theorem dX1_kindOf_92 : decode (mC mX1_kindOf) 92 = .ok (.iconst 2, 1) := by decide +kernel
theorem dX1_kindOf_93 : decode (mC mX1_kindOf) 93 = .ok (.ireturn, 1) := by decide +kernel
theorem dX1_kindOf_94 : decode (mC mX1_kindOf) 94 = .ok (.iconst 3, 1) := by decide +kernel
theorem dX1_kindOf_95 : decode (mC mX1_kindOf) 95 = .ok (.ireturn, 1) := by decide +kernel
theorem dX1_kindOf_96 : decode (mC mX1_kindOf) 96 = .ok (.iconst 4, 1) := by decide +kernel
theorem dX1_kindOf_97 : decode (mC mX1_kindOf) 97 = .ok (.ireturn, 1) := by decide +kernel
theorem dX1_kindOf_98 : decode (mC mX1_kindOf) 98 = .ok (.iconst 5, 1) := by decide +kernel
theorem dX1_kindOf_99 : decode (mC mX1_kindOf) 99 = .ok (.ireturn, 1) := by decide +kernel
theorem dX1_kindOf_100 : decode (mC mX1_kindOf) 100 = .ok (.bipush (-9), 2) := by decide +kernel
theorem dX1_kindOf_102 : decode (mC mX1_kindOf) 102 = .ok (.ireturn, 1) := by decide +kernel
theorem dX1_digitAt_0 : decode (mC mX1_digitAt) 0 = .ok (.aload_n 0, 1) := by decide +kernel
theorem dX1_digitAt_1 : decode (mC mX1_digitAt) 1 = .ok (.getfield 14, 3) := by decide +kernel
theorem dX1_digitAt_4 : decode (mC mX1_digitAt) 4 = .ok (.getfield 20, 3) := by decide +kernel
theorem dX1_digitAt_7 : decode (mC mX1_digitAt) 7 = .ok (.iload_n 1, 1) := by decide +kernel
theorem dX1_digitAt_8 : decode (mC mX1_digitAt) 8 = .ok (.invokestatic 24, 3) := by decide +kernel
theorem dX1_digitAt_11 : decode (mC mX1_digitAt) 11 = .ok (.bipush 48, 2) := by decide +kernel
theorem dX1_digitAt_13 : decode (mC mX1_digitAt) 13 = .ok (.isub, 1) := by decide +kernel
theorem dX1_digitAt_14 : decode (mC mX1_digitAt) 14 = .ok (.ireturn, 1) := by decide +kernel
theorem dX1_tell_0 : decode (mC mX1_tell) 0 = .ok (.aload_n 0, 1) := by decide +kernel
theorem dX1_tell_1 : decode (mC mX1_tell) 1 = .ok (.iload_n 1, 1) := by decide +kernel
theorem dX1_tell_2 : decode (mC mX1_tell) 2 = .ok (.iconst 1, 1) := by decide +kernel
theorem dX1_tell_3 : decode (mC mX1_tell) 3 = .ok (.iadd, 1) := by decide +kernel
theorem dX1_tell_4 : decode (mC mX1_tell) 4 = .ok (.invokevirtual 43, 3) := by decide +kernel
theorem dX1_tell_7 : decode (mC mX1_tell) 7 = .ok (.istore_n 3, 1) := by decide +kernel
theorem dX1_tell_8 : decode (mC mX1_tell) 8 = .ok (.aload_n 0, 1) := by decide +kernel
theorem dX1_tell_9 : decode (mC mX1_tell) 9 = .ok (.iload_n 1, 1) := by decide +kernel
theorem dX1_tell_10 : decode (mC mX1_tell) 10 = .ok (.iconst 2, 1) := by decide +kernel
theorem dX1_tell_11 : decode (mC mX1_tell) 11 = .ok (.iadd, 1) := by decide +kernel
theorem dX1_tell_12 : decode (mC mX1_tell) 12 = .ok (.invokevirtual 43, 3) := by decide +kernel
theorem dX1_tell_15 : decode (mC mX1_tell) 15 = .ok (.istore 4, 2) := by decide +kernel
theorem dX1_tell_17 : decode (mC mX1_tell) 17 = .ok (.aload_n 0, 1) := by decide +kernel
theorem dX1_tell_18 : decode (mC mX1_tell) 18 = .ok (.iload_n 1, 1) := by decide +kernel
theorem dX1_tell_19 : decode (mC mX1_tell) 19 = .ok (.iconst 3, 1) := by decide +kernel
theorem dX1_tell_20 : decode (mC mX1_tell) 20 = .ok (.iadd, 1) := by decide +kernel
theorem dX1_tell_21 : decode (mC mX1_tell) 21 = .ok (.invokevirtual 43, 3) := by decide +kernel
theorem dX1_tell_24 : decode (mC mX1_tell) 24 = .ok (.istore 5, 2) := by decide +kernel
theorem dX1_tell_26 : decode (mC mX1_tell) 26 = .ok (.aload_n 0, 1) := by decide +kernel
theorem dX1_tell_27 : decode (mC mX1_tell) 27 = .ok (.getfield 14, 3) := by decide +kernel
theorem dX1_tell_30 : decode (mC mX1_tell) 30 = .ok (.getfield 20, 3) := by decide +kernel
theorem dX1_tell_33 : decode (mC mX1_tell) 33 = .ok (.iload_n 1, 1) := by decide +kernel
theorem dX1_tell_34 : decode (mC mX1_tell) 34 = .ok (.invokestatic 24, 3) := by decide +kernel
theorem dX1_tell_37 : decode (mC mX1_tell) 37 = .ok (.tableswitch 253 100 119 #[95, 253, 253, 140, 191, 253, 253, 253, 253, 253, 253, 253, 130, 253, 152, 253, 164, 253, 253, 164], 95) := by decide +kernel
theorem dX1_tell_132 : decode (mC mX1_tell) 132 = .ok (.aload_n 2, 1) := by decide +kernel
theorem dX1_tell_133 : decode (mC mX1_tell) 133 = .ok (.getfield 46, 3) := by decide +kernel
theorem dX1_tell_136 : decode (mC mX1_tell) 136 = .ok (.aload_n 0, 1) := by decide +kernel
theorem dX1_tell_137 : decode (mC mX1_tell) 137 = .ok (.getfield 14, 3) := by decide +kernel
theorem dX1_tell_140 : decode (mC mX1_tell) 140 = .ok (.getfield 20, 3) := by decide +kernel
theorem dX1_tell_143 : decode (mC mX1_tell) 143 = .ok (.iload_n 1, 1) := by decide +kernel
theorem dX1_tell_144 : decode (mC mX1_tell) 144 = .ok (.iconst 1, 1) := by decide +kernel
theorem dX1_tell_145 : decode (mC mX1_tell) 145 = .ok (.iadd, 1) := by decide +kernel
theorem dX1_tell_146 : decode (mC mX1_tell) 146 = .ok (.invokestatic 24, 3) := by decide +kernel
theorem dX1_tell_149 : decode (mC mX1_tell) 149 = .ok (.invokestatic 40, 3) := by decide +kernel
theorem dX1_tell_152 : decode (mC mX1_tell) 152 = .ok (.iload 4, 2) := by decide +kernel
theorem dX1_tell_154 : decode (mC mX1_tell) 154 = .ok (.iload 5, 2) := by decide +kernel
theorem dX1_tell_156 : decode (mC mX1_tell) 156 = .ok (.aload_n 0, 1) := by decide +kernel
theorem dX1_tell_157 : decode (mC mX1_tell) 157 = .ok (.iload_n 1, 1) := by decide +kernel
theorem dX1_tell_158 : decode (mC mX1_tell) 158 = .ok (.iconst 4, 1) := by decide +kernel
theorem dX1_tell_159 : decode (mC mX1_tell) 159 = .ok (.iadd, 1) := by decide +kernel
theorem dX1_tell_160 : decode (mC mX1_tell) 160 = .ok (.invokevirtual 43, 3) := by decide +kernel
theorem dX1_tell_163 : decode (mC mX1_tell) 163 = .ok (.invokevirtual 52, 3) := by decide +kernel
theorem dX1_tell_166 : decode (mC mX1_tell) 166 = .ok (.ireturn, 1) := by decide +kernel
theorem dX1_tell_167 : decode (mC mX1_tell) 167 = .ok (.aload_n 2, 1) := by decide +kernel
theorem dX1_tell_168 : decode (mC mX1_tell) 168 = .ok (.iload_n 3, 1) := by decide +kernel
theorem dX1_tell_169 : decode (mC mX1_tell) 169 = .ok (.iload 4, 2) := by decide +kernel
theorem dX1_tell_171 : decode (mC mX1_tell) 171 = .ok (.iload 5, 2) := by decide +kernel
theorem dX1_tell_173 : decode (mC mX1_tell) 173 = .ok (.invokestatic 58, 3) := by decide +kernel
theorem dX1_tell_176 : decode (mC mX1_tell) 176 = .ok (.ireturn, 1) := by decide +kernel
theorem dX1_tell_177 : decode (mC mX1_tell) 177 = .ok (.aload_n 2, 1) := by decide +kernel
theorem dX1_tell_178 : decode (mC mX1_tell) 178 = .ok (.aload_n 2, 1) := by decide +kernel
theorem dX1_tell_179 : decode (mC mX1_tell) 179 = .ok (.getfield 62, 3) := by decide +kernel
theorem dX1_tell_182 : decode (mC mX1_tell) 182 = .ok (.iload_n 3, 1) := by decide +kernel
theorem dX1_tell_183 : decode (mC mX1_tell) 183 = .ok (.iload 4, 2) := by decide +kernel
theorem dX1_tell_185 : decode (mC mX1_tell) 185 = .ok (.invokestatic 65, 3) := by decide +kernel
theorem dX1_tell_188 : decode (mC mX1_tell) 188 = .ok (.ireturn, 1) := by decide +kernel
theorem dX1_tell_189 : decode (mC mX1_tell) 189 = .ok (.aload_n 2, 1) := by decide +kernel
theorem dX1_tell_190 : decode (mC mX1_tell) 190 = .ok (.aload_n 2, 1) := by decide +kernel
theorem dX1_tell_191 : decode (mC mX1_tell) 191 = .ok (.getfield 69, 3) := by decide +kernel
theorem dX1_tell_194 : decode (mC mX1_tell) 194 = .ok (.iload_n 3, 1) := by decide +kernel
theorem dX1_tell_195 : decode (mC mX1_tell) 195 = .ok (.iload 4, 2) := by decide +kernel
theorem dX1_tell_197 : decode (mC mX1_tell) 197 = .ok (.invokestatic 65, 3) := by decide +kernel
theorem dX1_tell_200 : decode (mC mX1_tell) 200 = .ok (.ireturn, 1) := by decide +kernel
theorem dX1_tell_201 : decode (mC mX1_tell) 201 = .ok (.aload_n 2, 1) := by decide +kernel
theorem dX1_tell_202 : decode (mC mX1_tell) 202 = .ok (.iload_n 3, 1) := by decide +kernel
theorem dX1_tell_203 : decode (mC mX1_tell) 203 = .ok (.aload_n 0, 1) := by decide +kernel
theorem dX1_tell_204 : decode (mC mX1_tell) 204 = .ok (.getfield 14, 3) := by decide +kernel
theorem dX1_tell_207 : decode (mC mX1_tell) 207 = .ok (.getfield 20, 3) := by decide +kernel
theorem dX1_tell_210 : decode (mC mX1_tell) 210 = .ok (.iload_n 1, 1) := by decide +kernel
theorem dX1_tell_211 : decode (mC mX1_tell) 211 = .ok (.invokestatic 24, 3) := by decide +kernel
theorem dX1_tell_214 : decode (mC mX1_tell) 214 = .ok (.bipush 116, 2) := by decide +kernel
theorem dX1_tell_216 : decode (mC mX1_tell) 216 = .ok (.if_icmp .ne 7, 3) := by decide +kernel
theorem dX1_tell_219 : decode (mC mX1_tell) 219 = .ok (.iconst 1, 1) := by decide +kernel
theorem dX1_tell_220 : decode (mC mX1_tell) 220 = .ok (.goto 4, 3) := by decide +kernel
theorem dX1_tell_223 : decode (mC mX1_tell) 223 = .ok (.iconst 0, 1) := by decide +kernel
theorem dX1_tell_224 : decode (mC mX1_tell) 224 = .ok (.invokestatic 72, 3) := by decide +kernel
theorem dX1_tell_227 : decode (mC mX1_tell) 227 = .ok (.ireturn, 1) := by decide +kernel
theorem dX1_tell_228 : decode (mC mX1_tell) 228 = .ok (.bipush 10, 2) := by decide +kernel
theorem dX1_tell_230 : decode (mC mX1_tell) 230 = .ok (.iload_n 3, 1) := by decide +kernel
theorem dX1_tell_231 : decode (mC mX1_tell) 231 = .ok (.imul, 1) := by decide +kernel
theorem dX1_tell_232 : decode (mC mX1_tell) 232 = .ok (.iload 4, 2) := by decide +kernel
theorem dX1_tell_234 : decode (mC mX1_tell) 234 = .ok (.iadd, 1) := by decide +kernel
theorem dX1_tell_235 : decode (mC mX1_tell) 235 = .ok (.istore 6, 2) := by decide +kernel
theorem dX1_tell_237 : decode (mC mX1_tell) 237 = .ok (.iload 6, 2) := by decide +kernel
theorem dX1_tell_239 : decode (mC mX1_tell) 239 = .ok (.iconst 1, 1) := by decide +kernel
theorem dX1_tell_240 : decode (mC mX1_tell) 240 = .ok (.if_icmp .lt 27, 3) := by decide +kernel
theorem dX1_tell_243 : decode (mC mX1_tell) 243 = .ok (.iload 6, 2) := by decide +kernel
theorem dX1_tell_245 : decode (mC mX1_tell) 245 = .ok (.bipush 60, 2) := by decide +kernel
theorem dX1_tell_247 : decode (mC mX1_tell) 247 = .ok (.if_icmp .gt 20, 3) := by decide +kernel
theorem dX1_tell_250 : decode (mC mX1_tell) 250 = .ok (.aload_n 2, 1) := by decide +kernel
theorem dX1_tell_251 : decode (mC mX1_tell) 251 = .ok (.getfield 76, 3) := by decide +kernel
theorem dX1_tell_254 : decode (mC mX1_tell) 254 = .ok (.iload 6, 2) := by decide +kernel
theorem dX1_tell_256 : decode (mC mX1_tell) 256 = .ok (.iadd, 1) := by decide +kernel
theorem dX1_tell_257 : decode (mC mX1_tell) 257 = .ok (.sipush 999, 3) := by decide +kernel
theorem dX1_tell_260 : decode (mC mX1_tell) 260 = .ok (.if_icmp .gt 7, 3) := by decide +kernel
theorem dX1_tell_263 : decode (mC mX1_tell) 263 = .ok (.iconst 1, 1) := by decide +kernel
theorem dX1_tell_264 : decode (mC mX1_tell) 264 = .ok (.goto 4, 3) := by decide +kernel
theorem dX1_tell_267 : decode (mC mX1_tell) 267 = .ok (.iconst 0, 1) := by decide +kernel
theorem dX1_tell_268 : decode (mC mX1_tell) 268 = .ok (.istore 7, 2) := by decide +kernel
theorem dX1_tell_270 : decode (mC mX1_tell) 270 = .ok (.aload_n 2, 1) := by decide +kernel
theorem dX1_tell_271 : decode (mC mX1_tell) 271 = .ok (.iload 7, 2) := by decide +kernel
theorem dX1_tell_273 : decode (mC mX1_tell) 273 = .ok (.ifCond .eq 8, 3) := by decide +kernel
theorem dX1_tell_276 : decode (mC mX1_tell) 276 = .ok (.iload 6, 2) := by decide +kernel
theorem dX1_tell_278 : decode (mC mX1_tell) 278 = .ok (.goto 4, 3) := by decide +kernel
theorem dX1_tell_281 : decode (mC mX1_tell) 281 = .ok (.iconst 0, 1) := by decide +kernel
theorem dX1_tell_282 : decode (mC mX1_tell) 282 = .ok (.iconst 0, 1) := by decide +kernel
theorem dX1_tell_283 : decode (mC mX1_tell) 283 = .ok (.invokevirtual 79, 3) := by decide +kernel
theorem dX1_tell_286 : decode (mC mX1_tell) 286 = .ok (.pop, 1) := by decide +kernel
theorem dX1_tell_287 : decode (mC mX1_tell) 287 = .ok (.iload 7, 2) := by decide +kernel
theorem dX1_tell_289 : decode (mC mX1_tell) 289 = .ok (.ireturn, 1) := by decide +kernel
theorem dX1_tell_290 : decode (mC mX1_tell) 290 = .ok (.iconst 0, 1) := by decide +kernel
theorem dX1_tell_291 : decode (mC mX1_tell) 291 = .ok (.ireturn, 1) := by decide +kernel
theorem dX1_tellPerson_0 : decode (mC mX1_tellPerson) 0 = .ok (.aload_n 0, 1) := by decide +kernel
theorem dX1_tellPerson_1 : decode (mC mX1_tellPerson) 1 = .ok (.getfield 83, 3) := by decide +kernel
theorem dX1_tellPerson_4 : decode (mC mX1_tellPerson) 4 = .ok (.bipush 6, 2) := by decide +kernel
theorem dX1_tellPerson_6 : decode (mC mX1_tellPerson) 6 = .ok (.if_icmp .ge 17, 3) := by decide +kernel
theorem dX1_tellPerson_9 : decode (mC mX1_tellPerson) 9 = .ok (.iload_n 1, 1) := by decide +kernel
theorem dX1_tellPerson_10 : decode (mC mX1_tellPerson) 10 = .ok (.invokestatic 84, 3) := by decide +kernel
theorem dX1_tellPerson_13 : decode (mC mX1_tellPerson) 13 = .ok (.ifCond .eq 10, 3) := by decide +kernel
theorem dX1_tellPerson_16 : decode (mC mX1_tellPerson) 16 = .ok (.iload_n 2, 1) := by decide +kernel
theorem dX1_tellPerson_17 : decode (mC mX1_tellPerson) 17 = .ok (.invokestatic 84, 3) := by decide +kernel
theorem dX1_tellPerson_20 : decode (mC mX1_tellPerson) 20 = .ok (.ifCond .ne 5, 3) := by decide +kernel
theorem dX1_tellPerson_23 : decode (mC mX1_tellPerson) 23 = .ok (.iconst 0, 1) := by decide +kernel
theorem dX1_tellPerson_24 : decode (mC mX1_tellPerson) 24 = .ok (.ireturn, 1) := by decide +kernel
theorem dX1_tellPerson_25 : decode (mC mX1_tellPerson) 25 = .ok (.aload_n 0, 1) := by decide +kernel
theorem dX1_tellPerson_26 : decode (mC mX1_tellPerson) 26 = .ok (.iload_n 1, 1) := by decide +kernel
theorem dX1_tellPerson_27 : decode (mC mX1_tellPerson) 27 = .ok (.iload_n 2, 1) := by decide +kernel
theorem dX1_tellPerson_28 : decode (mC mX1_tellPerson) 28 = .ok (.iload_n 3, 1) := by decide +kernel
theorem dX1_tellPerson_29 : decode (mC mX1_tellPerson) 29 = .ok (.invokevirtual 88, 3) := by decide +kernel
theorem dX1_tellPerson_32 : decode (mC mX1_tellPerson) 32 = .ok (.iconst 1, 1) := by decide +kernel
theorem dX1_tellPerson_33 : decode (mC mX1_tellPerson) 33 = .ok (.ireturn, 1) := by decide +kernel
theorem dX1_tellRoom_0 : decode (mC mX1_tellRoom) 0 = .ok (.aload_n 0, 1) := by decide +kernel
theorem dX1_tellRoom_1 : decode (mC mX1_tellRoom) 1 = .ok (.iload_n 2, 1) := by decide +kernel
theorem dX1_tellRoom_2 : decode (mC mX1_tellRoom) 2 = .ok (.invokevirtual 92, 3) := by decide +kernel
theorem dX1_tellRoom_5 : decode (mC mX1_tellRoom) 5 = .ok (.ifCond .eq 10, 3) := by decide +kernel
theorem dX1_tellRoom_8 : decode (mC mX1_tellRoom) 8 = .ok (.iload_n 3, 1) := by decide +kernel
theorem dX1_tellRoom_9 : decode (mC mX1_tellRoom) 9 = .ok (.invokestatic 84, 3) := by decide +kernel
theorem dX1_tellRoom_12 : decode (mC mX1_tellRoom) 12 = .ok (.ifCond .ne 5, 3) := by decide +kernel
theorem dX1_tellRoom_15 : decode (mC mX1_tellRoom) 15 = .ok (.iconst 0, 1) := by decide +kernel
theorem dX1_tellRoom_16 : decode (mC mX1_tellRoom) 16 = .ok (.ireturn, 1) := by decide +kernel
theorem dX1_tellRoom_17 : decode (mC mX1_tellRoom) 17 = .ok (.aload_n 1, 1) := by decide +kernel
theorem dX1_tellRoom_18 : decode (mC mX1_tellRoom) 18 = .ok (.iload_n 2, 1) := by decide +kernel
theorem dX1_tellRoom_19 : decode (mC mX1_tellRoom) 19 = .ok (.iload_n 3, 1) := by decide +kernel
theorem dX1_tellRoom_20 : decode (mC mX1_tellRoom) 20 = .ok (.invokestatic 95, 3) := by decide +kernel
theorem dX1_tellRoom_23 : decode (mC mX1_tellRoom) 23 = .ok (.iconst 1, 1) := by decide +kernel
theorem dX1_tellRoom_24 : decode (mC mX1_tellRoom) 24 = .ok (.ireturn, 1) := by decide +kernel
theorem dX1_tellDoor_0 : decode (mC mX1_tellDoor) 0 = .ok (.aload_n 0, 1) := by decide +kernel
theorem dX1_tellDoor_1 : decode (mC mX1_tellDoor) 1 = .ok (.getfield 46, 3) := by decide +kernel
theorem dX1_tellDoor_4 : decode (mC mX1_tellDoor) 4 = .ok (.iload_n 1, 1) := by decide +kernel
theorem dX1_tellDoor_5 : decode (mC mX1_tellDoor) 5 = .ok (.invokevirtual 99, 3) := by decide +kernel
theorem dX1_tellDoor_8 : decode (mC mX1_tellDoor) 8 = .ok (.ifCond .ne 5, 3) := by decide +kernel
theorem dX1_tellDoor_11 : decode (mC mX1_tellDoor) 11 = .ok (.iconst 0, 1) := by decide +kernel
theorem dX1_tellDoor_12 : decode (mC mX1_tellDoor) 12 = .ok (.ireturn, 1) := by decide +kernel
theorem dX1_tellDoor_13 : decode (mC mX1_tellDoor) 13 = .ok (.iload_n 2, 1) := by decide +kernel
theorem dX1_tellDoor_14 : decode (mC mX1_tellDoor) 14 = .ok (.ifCond .eq 15, 3) := by decide +kernel
theorem dX1_tellDoor_17 : decode (mC mX1_tellDoor) 17 = .ok (.aload_n 0, 1) := by decide +kernel
theorem dX1_tellDoor_18 : decode (mC mX1_tellDoor) 18 = .ok (.getfield 46, 3) := by decide +kernel
theorem dX1_tellDoor_21 : decode (mC mX1_tellDoor) 21 = .ok (.iload_n 1, 1) := by decide +kernel
theorem dX1_tellDoor_22 : decode (mC mX1_tellDoor) 22 = .ok (.invokevirtual 100, 3) := by decide +kernel
theorem dX1_tellDoor_25 : decode (mC mX1_tellDoor) 25 = .ok (.pop, 1) := by decide +kernel
theorem dX1_tellDoor_26 : decode (mC mX1_tellDoor) 26 = .ok (.goto 12, 3) := by decide +kernel
theorem dX1_tellDoor_29 : decode (mC mX1_tellDoor) 29 = .ok (.aload_n 0, 1) := by decide +kernel
theorem dX1_tellDoor_30 : decode (mC mX1_tellDoor) 30 = .ok (.getfield 46, 3) := by decide +kernel
theorem dX1_tellDoor_33 : decode (mC mX1_tellDoor) 33 = .ok (.iload_n 1, 1) := by decide +kernel
theorem dX1_tellDoor_34 : decode (mC mX1_tellDoor) 34 = .ok (.invokevirtual 103, 3) := by decide +kernel
theorem dX1_tellDoor_37 : decode (mC mX1_tellDoor) 37 = .ok (.pop, 1) := by decide +kernel
theorem dX1_tellDoor_38 : decode (mC mX1_tellDoor) 38 = .ok (.iconst 1, 1) := by decide +kernel
theorem dX1_tellDoor_39 : decode (mC mX1_tellDoor) 39 = .ok (.ireturn, 1) := by decide +kernel
theorem dX2_init_0 : decode (mC mX2_init) 0 = .ok (.aload_n 0, 1) := by decide +kernel
theorem dX2_init_1 : decode (mC mX2_init) 1 = .ok (.invokespecial 1, 3) := by decide +kernel
theorem dX2_init_4 : decode (mC mX2_init) 4 = .ok (.aload_n 0, 1) := by decide +kernel
theorem dX2_init_5 : decode (mC mX2_init) 5 = .ok (.iconst 0, 1) := by decide +kernel
theorem dX2_init_6 : decode (mC mX2_init) 6 = .ok (.iload_n 1, 1) := by decide +kernel
theorem dX2_init_7 : decode (mC mX2_init) 7 = .ok (.invokestatic 7, 3) := by decide +kernel
theorem dX2_init_10 : decode (mC mX2_init) 10 = .ok (.newarray .int, 2) := by decide +kernel
theorem dX2_init_12 : decode (mC mX2_init) 12 = .ok (.putfield 13, 3) := by decide +kernel
theorem dX2_init_15 : decode (mC mX2_init) 15 = .ok (.return_, 1) := by decide +kernel
theorem dX2_isFull_0 : decode (mC mX2_isFull) 0 = .ok (.aload_n 0, 1) := by decide +kernel
theorem dX2_isFull_1 : decode (mC mX2_isFull) 1 = .ok (.getfield 19, 3) := by decide +kernel
theorem dX2_isFull_4 : decode (mC mX2_isFull) 4 = .ok (.aload_n 0, 1) := by decide +kernel
theorem dX2_isFull_5 : decode (mC mX2_isFull) 5 = .ok (.getfield 13, 3) := by decide +kernel
theorem dX2_isFull_8 : decode (mC mX2_isFull) 8 = .ok (.arraylength, 1) := by decide +kernel
theorem dX2_isFull_9 : decode (mC mX2_isFull) 9 = .ok (.if_icmp .lt 7, 3) := by decide +kernel
theorem dX2_isFull_12 : decode (mC mX2_isFull) 12 = .ok (.iconst 1, 1) := by decide +kernel
theorem dX2_isFull_13 : decode (mC mX2_isFull) 13 = .ok (.goto 4, 3) := by decide +kernel
theorem dX2_isFull_16 : decode (mC mX2_isFull) 16 = .ok (.iconst 0, 1) := by decide +kernel
theorem dX2_isFull_17 : decode (mC mX2_isFull) 17 = .ok (.ireturn, 1) := by decide +kernel
theorem dX2_add_0 : decode (mC mX2_add) 0 = .ok (.aload_n 0, 1) := by decide +kernel
theorem dX2_add_1 : decode (mC mX2_add) 1 = .ok (.invokevirtual 23, 3) := by decide +kernel
theorem dX2_add_4 : decode (mC mX2_add) 4 = .ok (.ifCond .ne 25, 3) := by decide +kernel
theorem dX2_add_7 : decode (mC mX2_add) 7 = .ok (.aload_n 0, 1) := by decide +kernel
theorem dX2_add_8 : decode (mC mX2_add) 8 = .ok (.getfield 13, 3) := by decide +kernel
theorem dX2_add_11 : decode (mC mX2_add) 11 = .ok (.aload_n 0, 1) := by decide +kernel
theorem dX2_add_12 : decode (mC mX2_add) 12 = .ok (.getfield 19, 3) := by decide +kernel
theorem dX2_add_15 : decode (mC mX2_add) 15 = .ok (.iload_n 1, 1) := by decide +kernel
theorem dX2_add_16 : decode (mC mX2_add) 16 = .ok (.invokestatic 27, 3) := by decide +kernel
theorem dX2_add_19 : decode (mC mX2_add) 19 = .ok (.aload_n 0, 1) := by decide +kernel
theorem dX2_add_20 : decode (mC mX2_add) 20 = .ok (.dup, 1) := by decide +kernel
theorem dX2_add_21 : decode (mC mX2_add) 21 = .ok (.getfield 19, 3) := by decide +kernel
theorem dX2_add_24 : decode (mC mX2_add) 24 = .ok (.iconst 1, 1) := by decide +kernel
theorem dX2_add_25 : decode (mC mX2_add) 25 = .ok (.iadd, 1) := by decide +kernel
theorem dX2_add_26 : decode (mC mX2_add) 26 = .ok (.putfield 19, 3) := by decide +kernel
theorem dX2_add_29 : decode (mC mX2_add) 29 = .ok (.aload_n 0, 1) := by decide +kernel
theorem dX2_add_30 : decode (mC mX2_add) 30 = .ok (.getfield 19, 3) := by decide +kernel
theorem dX2_add_33 : decode (mC mX2_add) 33 = .ok (.ireturn, 1) := by decide +kernel
theorem dX2_empty_0 : decode (mC mX2_empty) 0 = .ok (.aload_n 0, 1) := by decide +kernel
theorem dX2_empty_1 : decode (mC mX2_empty) 1 = .ok (.getfield 19, 3) := by decide +kernel
theorem dX2_empty_4 : decode (mC mX2_empty) 4 = .ok (.istore_n 1, 1) := by decide +kernel
theorem dX2_empty_5 : decode (mC mX2_empty) 5 = .ok (.aload_n 0, 1) := by decide +kernel
theorem dX2_empty_6 : decode (mC mX2_empty) 6 = .ok (.iconst 0, 1) := by decide +kernel
theorem dX2_empty_7 : decode (mC mX2_empty) 7 = .ok (.putfield 19, 3) := by decide +kernel
theorem dX2_empty_10 : decode (mC mX2_empty) 10 = .ok (.iload_n 1, 1) := by decide +kernel
theorem dX2_empty_11 : decode (mC mX2_empty) 11 = .ok (.ireturn, 1) := by decide +kernel
theorem dX3_init_0 : decode (mC mX3_init) 0 = .ok (.aload_n 0, 1) := by decide +kernel
theorem dX3_init_1 : decode (mC mX3_init) 1 = .ok (.invokespecial 3, 3) := by decide +kernel
theorem dX3_init_4 : decode (mC mX3_init) 4 = .ok (.aload_n 0, 1) := by decide +kernel
theorem dX3_init_5 : decode (mC mX3_init) 5 = .ok (.new 9, 3) := by decide +kernel
theorem dX3_init_8 : decode (mC mX3_init) 8 = .ok (.dup, 1) := by decide +kernel
theorem dX3_init_9 : decode (mC mX3_init) 9 = .ok (.invokespecial 11, 3) := by decide +kernel
theorem dX3_init_12 : decode (mC mX3_init) 12 = .ok (.putfield 12, 3) := by decide +kernel
theorem dX3_init_15 : decode (mC mX3_init) 15 = .ok (.aload_n 0, 1) := by decide +kernel
theorem dX3_init_16 : decode (mC mX3_init) 16 = .ok (.bipush 7, 2) := by decide +kernel
theorem dX3_init_18 : decode (mC mX3_init) 18 = .ok (.newarray .int, 2) := by decide +kernel
theorem dX3_init_20 : decode (mC mX3_init) 20 = .ok (.putfield 18, 3) := by decide +kernel
theorem dX3_init_23 : decode (mC mX3_init) 23 = .ok (.aload_n 0, 1) := by decide +kernel
theorem dX3_init_24 : decode (mC mX3_init) 24 = .ok (.bipush 7, 2) := by decide +kernel
theorem dX3_init_26 : decode (mC mX3_init) 26 = .ok (.newarray .int, 2) := by decide +kernel
theorem dX3_init_28 : decode (mC mX3_init) 28 = .ok (.putfield 22, 3) := by decide +kernel
theorem dX3_init_31 : decode (mC mX3_init) 31 = .ok (.aload_n 0, 1) := by decide +kernel
theorem dX3_init_32 : decode (mC mX3_init) 32 = .ok (.bipush 7, 2) := by decide +kernel
theorem dX3_init_34 : decode (mC mX3_init) 34 = .ok (.newarray .int, 2) := by decide +kernel
theorem dX3_init_36 : decode (mC mX3_init) 36 = .ok (.putfield 25, 3) := by decide +kernel
theorem dX3_init_39 : decode (mC mX3_init) 39 = .ok (.return_, 1) := by decide +kernel
theorem dX3_become_0 : decode (mC mX3_become) 0 = .ok (.aload_n 0, 1) := by decide +kernel
theorem dX3_become_1 : decode (mC mX3_become) 1 = .ok (.getfield 12, 3) := by decide +kernel
theorem dX3_become_4 : decode (mC mX3_become) 4 = .ok (.aload_n 1, 1) := by decide +kernel
theorem dX3_become_5 : decode (mC mX3_become) 5 = .ok (.getfield 12, 3) := by decide +kernel
theorem dX3_become_8 : decode (mC mX3_become) 8 = .ok (.invokevirtual 28, 3) := by decide +kernel
theorem dX3_become_11 : decode (mC mX3_become) 11 = .ok (.aload_n 1, 1) := by decide +kernel
theorem dX3_become_12 : decode (mC mX3_become) 12 = .ok (.getfield 18, 3) := by decide +kernel
theorem dX3_become_15 : decode (mC mX3_become) 15 = .ok (.aload_n 0, 1) := by decide +kernel
theorem dX3_become_16 : decode (mC mX3_become) 16 = .ok (.getfield 18, 3) := by decide +kernel
theorem dX3_become_19 : decode (mC mX3_become) 19 = .ok (.invokestatic 32, 3) := by decide +kernel
theorem dX3_become_22 : decode (mC mX3_become) 22 = .ok (.aload_n 1, 1) := by decide +kernel
theorem dX3_become_23 : decode (mC mX3_become) 23 = .ok (.getfield 22, 3) := by decide +kernel
theorem dX3_become_26 : decode (mC mX3_become) 26 = .ok (.aload_n 0, 1) := by decide +kernel
theorem dX3_become_27 : decode (mC mX3_become) 27 = .ok (.getfield 22, 3) := by decide +kernel
theorem dX3_become_30 : decode (mC mX3_become) 30 = .ok (.invokestatic 32, 3) := by decide +kernel
theorem dX3_become_33 : decode (mC mX3_become) 33 = .ok (.aload_n 1, 1) := by decide +kernel
theorem dX3_become_34 : decode (mC mX3_become) 34 = .ok (.getfield 25, 3) := by decide +kernel
theorem dX3_become_37 : decode (mC mX3_become) 37 = .ok (.aload_n 0, 1) := by decide +kernel
theorem dX3_become_38 : decode (mC mX3_become) 38 = .ok (.getfield 25, 3) := by decide +kernel
theorem dX3_become_41 : decode (mC mX3_become) 41 = .ok (.invokestatic 32, 3) := by decide +kernel
theorem dX3_become_44 : decode (mC mX3_become) 44 = .ok (.aload_n 0, 1) := by decide +kernel
theorem dX3_become_45 : decode (mC mX3_become) 45 = .ok (.aload_n 1, 1) := by decide +kernel
theorem dX3_become_46 : decode (mC mX3_become) 46 = .ok (.getfield 36, 3) := by decide +kernel
theorem dX3_become_49 : decode (mC mX3_become) 49 = .ok (.putfield 36, 3) := by decide +kernel
theorem dX3_become_52 : decode (mC mX3_become) 52 = .ok (.aload_n 0, 1) := by decide +kernel
theorem dX3_become_53 : decode (mC mX3_become) 53 = .ok (.aload_n 1, 1) := by decide +kernel
theorem dX3_become_54 : decode (mC mX3_become) 54 = .ok (.getfield 40, 3) := by decide +kernel
theorem dX3_become_57 : decode (mC mX3_become) 57 = .ok (.putfield 40, 3) := by decide +kernel
theorem dX3_become_60 : decode (mC mX3_become) 60 = .ok (.aload_n 0, 1) := by decide +kernel
theorem dX3_become_61 : decode (mC mX3_become) 61 = .ok (.aload_n 1, 1) := by decide +kernel
theorem dX3_become_62 : decode (mC mX3_become) 62 = .ok (.getfield 43, 3) := by decide +kernel
theorem dX3_become_65 : decode (mC mX3_become) 65 = .ok (.putfield 43, 3) := by decide +kernel
theorem dX3_become_68 : decode (mC mX3_become) 68 = .ok (.return_, 1) := by decide +kernel
theorem dX3_has_0 : decode (mC mX3_has) 0 = .ok (.iload_n 1, 1) := by decide +kernel
theorem dX3_has_1 : decode (mC mX3_has) 1 = .ok (.ifCond .lt 15, 3) := by decide +kernel
theorem dX3_has_4 : decode (mC mX3_has) 4 = .ok (.iload_n 1, 1) := by decide +kernel
theorem dX3_has_5 : decode (mC mX3_has) 5 = .ok (.aload_n 0, 1) := by decide +kernel
theorem dX3_has_6 : decode (mC mX3_has) 6 = .ok (.getfield 36, 3) := by decide +kernel
theorem dX3_has_9 : decode (mC mX3_has) 9 = .ok (.if_icmp .ge 7, 3) := by decide +kernel
theorem dX3_has_12 : decode (mC mX3_has) 12 = .ok (.iconst 1, 1) := by decide +kernel
theorem dX3_has_13 : decode (mC mX3_has) 13 = .ok (.goto 4, 3) := by decide +kernel
theorem dX3_has_16 : decode (mC mX3_has) 16 = .ok (.iconst 0, 1) := by decide +kernel
theorem dX3_has_17 : decode (mC mX3_has) 17 = .ok (.ireturn, 1) := by decide +kernel
theorem dX3_isHome_0 : decode (mC mX3_isHome) 0 = .ok (.aload_n 0, 1) := by decide +kernel
theorem dX3_isHome_1 : decode (mC mX3_isHome) 1 = .ok (.getfield 18, 3) := by decide +kernel
theorem dX3_isHome_4 : decode (mC mX3_isHome) 4 = .ok (.iload_n 1, 1) := by decide +kernel
theorem dX3_isHome_5 : decode (mC mX3_isHome) 5 = .ok (.invokestatic 46, 3) := by decide +kernel
theorem dX3_isHome_8 : decode (mC mX3_isHome) 8 = .ok (.aload_n 0, 1) := by decide +kernel
theorem dX3_isHome_9 : decode (mC mX3_isHome) 9 = .ok (.getfield 22, 3) := by decide +kernel
theorem dX3_isHome_12 : decode (mC mX3_isHome) 12 = .ok (.iload_n 1, 1) := by decide +kernel
theorem dX3_isHome_13 : decode (mC mX3_isHome) 13 = .ok (.invokestatic 46, 3) := by decide +kernel
theorem dX3_isHome_16 : decode (mC mX3_isHome) 16 = .ok (.if_icmp .ne 7, 3) := by decide +kernel
theorem dX3_isHome_19 : decode (mC mX3_isHome) 19 = .ok (.iconst 1, 1) := by decide +kernel
theorem dX3_isHome_20 : decode (mC mX3_isHome) 20 = .ok (.goto 4, 3) := by decide +kernel
theorem dX3_isHome_23 : decode (mC mX3_isHome) 23 = .ok (.iconst 0, 1) := by decide +kernel
theorem dX3_isHome_24 : decode (mC mX3_isHome) 24 = .ok (.ireturn, 1) := by decide +kernel
theorem dX3_addPerson_0 : decode (mC mX3_addPerson) 0 = .ok (.aload_n 0, 1) := by decide +kernel
theorem dX3_addPerson_1 : decode (mC mX3_addPerson) 1 = .ok (.getfield 36, 3) := by decide +kernel
theorem dX3_addPerson_4 : decode (mC mX3_addPerson) 4 = .ok (.bipush 6, 2) := by decide +kernel
theorem dX3_addPerson_6 : decode (mC mX3_addPerson) 6 = .ok (.if_icmp .gt 49, 3) := by decide +kernel
theorem dX3_addPerson_9 : decode (mC mX3_addPerson) 9 = .ok (.aload_n 0, 1) := by decide +kernel
theorem dX3_addPerson_10 : decode (mC mX3_addPerson) 10 = .ok (.getfield 18, 3) := by decide +kernel
theorem dX3_addPerson_13 : decode (mC mX3_addPerson) 13 = .ok (.aload_n 0, 1) := by decide +kernel
theorem dX3_addPerson_14 : decode (mC mX3_addPerson) 14 = .ok (.getfield 36, 3) := by decide +kernel
theorem dX3_addPerson_17 : decode (mC mX3_addPerson) 17 = .ok (.iload_n 1, 1) := by decide +kernel
theorem dX3_addPerson_18 : decode (mC mX3_addPerson) 18 = .ok (.invokestatic 50, 3) := by decide +kernel
theorem dX3_addPerson_21 : decode (mC mX3_addPerson) 21 = .ok (.aload_n 0, 1) := by decide +kernel
theorem dX3_addPerson_22 : decode (mC mX3_addPerson) 22 = .ok (.getfield 22, 3) := by decide +kernel
theorem dX3_addPerson_25 : decode (mC mX3_addPerson) 25 = .ok (.aload_n 0, 1) := by decide +kernel
theorem dX3_addPerson_26 : decode (mC mX3_addPerson) 26 = .ok (.getfield 36, 3) := by decide +kernel
theorem dX3_addPerson_29 : decode (mC mX3_addPerson) 29 = .ok (.iload_n 2, 1) := by decide +kernel
theorem dX3_addPerson_30 : decode (mC mX3_addPerson) 30 = .ok (.invokestatic 50, 3) := by decide +kernel
theorem dX3_addPerson_33 : decode (mC mX3_addPerson) 33 = .ok (.aload_n 0, 1) := by decide +kernel
theorem dX3_addPerson_34 : decode (mC mX3_addPerson) 34 = .ok (.getfield 25, 3) := by decide +kernel
theorem dX3_addPerson_37 : decode (mC mX3_addPerson) 37 = .ok (.aload_n 0, 1) := by decide +kernel
theorem dX3_addPerson_38 : decode (mC mX3_addPerson) 38 = .ok (.getfield 36, 3) := by decide +kernel
theorem dX3_addPerson_41 : decode (mC mX3_addPerson) 41 = .ok (.iload_n 3, 1) := by decide +kernel
theorem dX3_addPerson_42 : decode (mC mX3_addPerson) 42 = .ok (.invokestatic 50, 3) := by decide +kernel
theorem dX3_addPerson_45 : decode (mC mX3_addPerson) 45 = .ok (.aload_n 0, 1) := by decide +kernel
theorem dX3_addPerson_46 : decode (mC mX3_addPerson) 46 = .ok (.dup, 1) := by decide +kernel
theorem dX3_addPerson_47 : decode (mC mX3_addPerson) 47 = .ok (.getfield 36, 3) := by decide +kernel
theorem dX3_addPerson_50 : decode (mC mX3_addPerson) 50 = .ok (.iconst 1, 1) := by decide +kernel
theorem dX3_addPerson_51 : decode (mC mX3_addPerson) 51 = .ok (.iadd, 1) := by decide +kernel
theorem dX3_addPerson_52 : decode (mC mX3_addPerson) 52 = .ok (.putfield 36, 3) := by decide +kernel
theorem dX3_addPerson_55 : decode (mC mX3_addPerson) 55 = .ok (.return_, 1) := by decide +kernel
theorem dX3_removePerson_0 : decode (mC mX3_removePerson) 0 = .ok (.aload_n 0, 1) := by decide +kernel
theorem dX3_removePerson_1 : decode (mC mX3_removePerson) 1 = .ok (.iload_n 1, 1) := by decide +kernel
theorem dX3_removePerson_2 : decode (mC mX3_removePerson) 2 = .ok (.invokevirtual 54, 3) := by decide +kernel
theorem dX3_removePerson_5 : decode (mC mX3_removePerson) 5 = .ok (.ifCond .ne 4, 3) := by decide +kernel
theorem dX3_removePerson_8 : decode (mC mX3_removePerson) 8 = .ok (.return_, 1) := by decide +kernel
theorem dX3_removePerson_9 : decode (mC mX3_removePerson) 9 = .ok (.iload_n 1, 1) := by decide +kernel
theorem dX3_removePerson_10 : decode (mC mX3_removePerson) 10 = .ok (.istore_n 2, 1) := by decide +kernel
theorem dX3_removePerson_11 : decode (mC mX3_removePerson) 11 = .ok (.iload_n 2, 1) := by decide +kernel
theorem dX3_removePerson_12 : decode (mC mX3_removePerson) 12 = .ok (.iconst 1, 1) := by decide +kernel
theorem dX3_removePerson_13 : decode (mC mX3_removePerson) 13 = .ok (.iadd, 1) := by decide +kernel
theorem dX3_removePerson_14 : decode (mC mX3_removePerson) 14 = .ok (.aload_n 0, 1) := by decide +kernel
theorem dX3_removePerson_15 : decode (mC mX3_removePerson) 15 = .ok (.getfield 36, 3) := by decide +kernel
theorem dX3_removePerson_18 : decode (mC mX3_removePerson) 18 = .ok (.if_icmp .ge 63, 3) := by decide +kernel
theorem dX3_removePerson_21 : decode (mC mX3_removePerson) 21 = .ok (.aload_n 0, 1) := by decide +kernel
theorem dX3_removePerson_22 : decode (mC mX3_removePerson) 22 = .ok (.getfield 18, 3) := by decide +kernel
theorem dX3_removePerson_25 : decode (mC mX3_removePerson) 25 = .ok (.iload_n 2, 1) := by decide +kernel
theorem dX3_removePerson_26 : decode (mC mX3_removePerson) 26 = .ok (.aload_n 0, 1) := by decide +kernel
theorem dX3_removePerson_27 : decode (mC mX3_removePerson) 27 = .ok (.getfield 18, 3) := by decide +kernel
theorem dX3_removePerson_30 : decode (mC mX3_removePerson) 30 = .ok (.iload_n 2, 1) := by decide +kernel
theorem dX3_removePerson_31 : decode (mC mX3_removePerson) 31 = .ok (.iconst 1, 1) := by decide +kernel
theorem dX3_removePerson_32 : decode (mC mX3_removePerson) 32 = .ok (.iadd, 1) := by decide +kernel
theorem dX3_removePerson_33 : decode (mC mX3_removePerson) 33 = .ok (.invokestatic 46, 3) := by decide +kernel
theorem dX3_removePerson_36 : decode (mC mX3_removePerson) 36 = .ok (.invokestatic 50, 3) := by decide +kernel
theorem dX3_removePerson_39 : decode (mC mX3_removePerson) 39 = .ok (.aload_n 0, 1) := by decide +kernel
theorem dX3_removePerson_40 : decode (mC mX3_removePerson) 40 = .ok (.getfield 22, 3) := by decide +kernel
theorem dX3_removePerson_43 : decode (mC mX3_removePerson) 43 = .ok (.iload_n 2, 1) := by decide +kernel
theorem dX3_removePerson_44 : decode (mC mX3_removePerson) 44 = .ok (.aload_n 0, 1) := by decide +kernel
theorem dX3_removePerson_45 : decode (mC mX3_removePerson) 45 = .ok (.getfield 22, 3) := by decide +kernel
theorem dX3_removePerson_48 : decode (mC mX3_removePerson) 48 = .ok (.iload_n 2, 1) := by decide +kernel
theorem dX3_removePerson_49 : decode (mC mX3_removePerson) 49 = .ok (.iconst 1, 1) := by decide +kernel
theorem dX3_removePerson_50 : decode (mC mX3_removePerson) 50 = .ok (.iadd, 1) := by decide +kernel
theorem dX3_removePerson_51 : decode (mC mX3_removePerson) 51 = .ok (.invokestatic 46, 3) := by decide +kernel
theorem dX3_removePerson_54 : decode (mC mX3_removePerson) 54 = .ok (.invokestatic 50, 3) := by decide +kernel
theorem dX3_removePerson_57 : decode (mC mX3_removePerson) 57 = .ok (.aload_n 0, 1) := by decide +kernel
theorem dX3_removePerson_58 : decode (mC mX3_removePerson) 58 = .ok (.getfield 25, 3) := by decide +kernel
theorem dX3_removePerson_61 : decode (mC mX3_removePerson) 61 = .ok (.iload_n 2, 1) := by decide +kernel
theorem dX3_removePerson_62 : decode (mC mX3_removePerson) 62 = .ok (.aload_n 0, 1) := by decide +kernel
theorem dX3_removePerson_63 : decode (mC mX3_removePerson) 63 = .ok (.getfield 25, 3) := by decide +kernel
theorem dX3_removePerson_66 : decode (mC mX3_removePerson) 66 = .ok (.iload_n 2, 1) := by decide +kernel
theorem dX3_removePerson_67 : decode (mC mX3_removePerson) 67 = .ok (.iconst 1, 1) := by decide +kernel
theorem dX3_removePerson_68 : decode (mC mX3_removePerson) 68 = .ok (.iadd, 1) := by decide +kernel
theorem dX3_removePerson_69 : decode (mC mX3_removePerson) 69 = .ok (.invokestatic 46, 3) := by decide +kernel
theorem dX3_removePerson_72 : decode (mC mX3_removePerson) 72 = .ok (.invokestatic 50, 3) := by decide +kernel
theorem dX3_removePerson_75 : decode (mC mX3_removePerson) 75 = .ok (.iinc 2 1, 3) := by decide +kernel
theorem dX3_removePerson_78 : decode (mC mX3_removePerson) 78 = .ok (.goto (-67), 3) := by decide +kernel
theorem dX3_removePerson_81 : decode (mC mX3_removePerson) 81 = .ok (.aload_n 0, 1) := by decide +kernel
theorem dX3_removePerson_82 : decode (mC mX3_removePerson) 82 = .ok (.dup, 1) := by decide +kernel
theorem dX3_removePerson_83 : decode (mC mX3_removePerson) 83 = .ok (.getfield 36, 3) := by decide +kernel
theorem dX3_removePerson_86 : decode (mC mX3_removePerson) 86 = .ok (.iconst 1, 1) := by decide +kernel
theorem dX3_removePerson_87 : decode (mC mX3_removePerson) 87 = .ok (.isub, 1) := by decide +kernel
theorem dX3_removePerson_88 : decode (mC mX3_removePerson) 88 = .ok (.putfield 36, 3) := by decide +kernel
theorem dX3_removePerson_91 : decode (mC mX3_removePerson) 91 = .ok (.return_, 1) := by decide +kernel
theorem dX3_stay_0 : decode (mC mX3_stay) 0 = .ok (.aload_n 0, 1) := by decide +kernel
theorem dX3_stay_1 : decode (mC mX3_stay) 1 = .ok (.getfield 22, 3) := by decide +kernel
theorem dX3_stay_4 : decode (mC mX3_stay) 4 = .ok (.iload_n 1, 1) := by decide +kernel
theorem dX3_stay_5 : decode (mC mX3_stay) 5 = .ok (.aload_n 0, 1) := by decide +kernel
theorem dX3_stay_6 : decode (mC mX3_stay) 6 = .ok (.getfield 18, 3) := by decide +kernel
theorem dX3_stay_9 : decode (mC mX3_stay) 9 = .ok (.iload_n 1, 1) := by decide +kernel
theorem dX3_stay_10 : decode (mC mX3_stay) 10 = .ok (.invokestatic 46, 3) := by decide +kernel
theorem dX3_stay_13 : decode (mC mX3_stay) 13 = .ok (.invokestatic 50, 3) := by decide +kernel
theorem dX3_stay_16 : decode (mC mX3_stay) 16 = .ok (.return_, 1) := by decide +kernel
theorem dX3_goHours_0 : decode (mC mX3_goHours) 0 = .ok (.iconst 0, 1) := by decide +kernel
theorem dX3_goHours_1 : decode (mC mX3_goHours) 1 = .ok (.istore_n 3, 1) := by decide +kernel
theorem dX3_goHours_2 : decode (mC mX3_goHours) 2 = .ok (.iconst 0, 1) := by decide +kernel
theorem dX3_goHours_3 : decode (mC mX3_goHours) 3 = .ok (.istore 4, 2) := by decide +kernel
theorem dX3_goHours_5 : decode (mC mX3_goHours) 5 = .ok (.iload 4, 2) := by decide +kernel
theorem dX3_goHours_7 : decode (mC mX3_goHours) 7 = .ok (.iload_n 1, 1) := by decide +kernel
theorem dX3_goHours_8 : decode (mC mX3_goHours) 8 = .ok (.if_icmp .ge 131, 3) := by decide +kernel
theorem dX3_goHours_11 : decode (mC mX3_goHours) 11 = .ok (.aload_n 0, 1) := by decide +kernel
theorem dX3_goHours_12 : decode (mC mX3_goHours) 12 = .ok (.dup, 1) := by decide +kernel
theorem dX3_goHours_13 : decode (mC mX3_goHours) 13 = .ok (.getfield 40, 3) := by decide +kernel
theorem dX3_goHours_16 : decode (mC mX3_goHours) 16 = .ok (.iconst 1, 1) := by decide +kernel
theorem dX3_goHours_17 : decode (mC mX3_goHours) 17 = .ok (.iadd, 1) := by decide +kernel
theorem dX3_goHours_18 : decode (mC mX3_goHours) 18 = .ok (.putfield 40, 3) := by decide +kernel
theorem dX3_goHours_21 : decode (mC mX3_goHours) 21 = .ok (.iconst 0, 1) := by decide +kernel
theorem dX3_goHours_22 : decode (mC mX3_goHours) 22 = .ok (.istore 5, 2) := by decide +kernel
theorem dX3_goHours_24 : decode (mC mX3_goHours) 24 = .ok (.iload 5, 2) := by decide +kernel
theorem dX3_goHours_26 : decode (mC mX3_goHours) 26 = .ok (.aload_n 0, 1) := by decide +kernel
theorem dX3_goHours_27 : decode (mC mX3_goHours) 27 = .ok (.getfield 36, 3) := by decide +kernel
theorem dX3_goHours_30 : decode (mC mX3_goHours) 30 = .ok (.if_icmp .ge 103, 3) := by decide +kernel
theorem dX3_goHours_33 : decode (mC mX3_goHours) 33 = .ok (.aload_n 0, 1) := by decide +kernel
theorem dX3_goHours_34 : decode (mC mX3_goHours) 34 = .ok (.iload 5, 2) := by decide +kernel
theorem dX3_goHours_36 : decode (mC mX3_goHours) 36 = .ok (.aload_n 0, 1) := by decide +kernel
theorem dX3_goHours_37 : decode (mC mX3_goHours) 37 = .ok (.getfield 40, 3) := by decide +kernel
theorem dX3_goHours_40 : decode (mC mX3_goHours) 40 = .ok (.iload_n 2, 1) := by decide +kernel
theorem dX3_goHours_41 : decode (mC mX3_goHours) 41 = .ok (.invokevirtual 58, 3) := by decide +kernel
theorem dX3_goHours_44 : decode (mC mX3_goHours) 44 = .ok (.istore 6, 2) := by decide +kernel
theorem dX3_goHours_46 : decode (mC mX3_goHours) 46 = .ok (.iload 6, 2) := by decide +kernel
theorem dX3_goHours_48 : decode (mC mX3_goHours) 48 = .ok (.ifCond .lt 46, 3) := by decide +kernel
theorem dX3_goHours_51 : decode (mC mX3_goHours) 51 = .ok (.aload_n 0, 1) := by decide +kernel
theorem dX3_goHours_52 : decode (mC mX3_goHours) 52 = .ok (.getfield 18, 3) := by decide +kernel
theorem dX3_goHours_55 : decode (mC mX3_goHours) 55 = .ok (.iload 5, 2) := by decide +kernel
theorem dX3_goHours_57 : decode (mC mX3_goHours) 57 = .ok (.aload_n 0, 1) := by decide +kernel
theorem dX3_goHours_58 : decode (mC mX3_goHours) 58 = .ok (.getfield 12, 3) := by decide +kernel
theorem dX3_goHours_61 : decode (mC mX3_goHours) 61 = .ok (.getfield 62, 3) := by decide +kernel
theorem dX3_goHours_64 : decode (mC mX3_goHours) 64 = .ok (.iload 6, 2) := by decide +kernel
theorem dX3_goHours_66 : decode (mC mX3_goHours) 66 = .ok (.invokestatic 46, 3) := by decide +kernel
theorem dX3_goHours_69 : decode (mC mX3_goHours) 69 = .ok (.invokestatic 50, 3) := by decide +kernel
theorem dX3_goHours_72 : decode (mC mX3_goHours) 72 = .ok (.aload_n 0, 1) := by decide +kernel
theorem dX3_goHours_73 : decode (mC mX3_goHours) 73 = .ok (.sipush 9999, 3) := by decide +kernel
theorem dX3_goHours_76 : decode (mC mX3_goHours) 76 = .ok (.aload_n 0, 1) := by decide +kernel
theorem dX3_goHours_77 : decode (mC mX3_goHours) 77 = .ok (.getfield 43, 3) := by decide +kernel
theorem dX3_goHours_80 : decode (mC mX3_goHours) 80 = .ok (.iconst 1, 1) := by decide +kernel
theorem dX3_goHours_81 : decode (mC mX3_goHours) 81 = .ok (.iadd, 1) := by decide +kernel
theorem dX3_goHours_82 : decode (mC mX3_goHours) 82 = .ok (.invokestatic 65, 3) := by decide +kernel
theorem dX3_goHours_85 : decode (mC mX3_goHours) 85 = .ok (.putfield 43, 3) := by decide +kernel
theorem dX3_goHours_88 : decode (mC mX3_goHours) 88 = .ok (.iinc 3 1, 3) := by decide +kernel
theorem dX3_goHours_91 : decode (mC mX3_goHours) 91 = .ok (.goto 36, 3) := by decide +kernel
theorem dX3_goHours_94 : decode (mC mX3_goHours) 94 = .ok (.aload_n 0, 1) := by decide +kernel
theorem dX3_goHours_95 : decode (mC mX3_goHours) 95 = .ok (.iload 5, 2) := by decide +kernel
theorem dX3_goHours_97 : decode (mC mX3_goHours) 97 = .ok (.invokevirtual 71, 3) := by decide +kernel
theorem dX3_goHours_100 : decode (mC mX3_goHours) 100 = .ok (.ifCond .ne 27, 3) := by decide +kernel
theorem dX3_goHours_103 : decode (mC mX3_goHours) 103 = .ok (.aload_n 0, 1) := by decide +kernel
theorem dX3_goHours_104 : decode (mC mX3_goHours) 104 = .ok (.getfield 25, 3) := by decide +kernel
theorem dX3_goHours_107 : decode (mC mX3_goHours) 107 = .ok (.iload 5, 2) := by decide +kernel
theorem dX3_goHours_109 : decode (mC mX3_goHours) 109 = .ok (.iconst 0, 1) := by decide +kernel
theorem dX3_goHours_110 : decode (mC mX3_goHours) 110 = .ok (.aload_n 0, 1) := by decide +kernel
theorem dX3_goHours_111 : decode (mC mX3_goHours) 111 = .ok (.getfield 25, 3) := by decide +kernel
theorem dX3_goHours_114 : decode (mC mX3_goHours) 114 = .ok (.iload 5, 2) := by decide +kernel
theorem dX3_goHours_116 : decode (mC mX3_goHours) 116 = .ok (.invokestatic 46, 3) := by decide +kernel
theorem dX3_goHours_119 : decode (mC mX3_goHours) 119 = .ok (.iconst 1, 1) := by decide +kernel
theorem dX3_goHours_120 : decode (mC mX3_goHours) 120 = .ok (.isub, 1) := by decide +kernel
theorem dX3_goHours_121 : decode (mC mX3_goHours) 121 = .ok (.invokestatic 74, 3) := by decide +kernel
theorem dX3_goHours_124 : decode (mC mX3_goHours) 124 = .ok (.invokestatic 50, 3) := by decide +kernel
theorem dX3_goHours_127 : decode (mC mX3_goHours) 127 = .ok (.iinc 5 1, 3) := by decide +kernel
theorem dX3_goHours_130 : decode (mC mX3_goHours) 130 = .ok (.goto (-106), 3) := by decide +kernel
theorem dX3_goHours_133 : decode (mC mX3_goHours) 133 = .ok (.iinc 4 1, 3) := by decide +kernel
theorem dX3_goHours_136 : decode (mC mX3_goHours) 136 = .ok (.goto (-131), 3) := by decide +kernel
theorem dX3_goHours_139 : decode (mC mX3_goHours) 139 = .ok (.iload_n 3, 1) := by decide +kernel
theorem dX3_goHours_140 : decode (mC mX3_goHours) 140 = .ok (.ireturn, 1) := by decide +kernel
theorem dX3_doorFor_0 : decode (mC mX3_doorFor) 0 = .ok (.aload_n 0, 1) := by decide +kernel
theorem dX3_doorFor_1 : decode (mC mX3_doorFor) 1 = .ok (.getfield 12, 3) := by decide +kernel
theorem dX3_doorFor_4 : decode (mC mX3_doorFor) 4 = .ok (.aload_n 0, 1) := by decide +kernel
theorem dX3_doorFor_5 : decode (mC mX3_doorFor) 5 = .ok (.getfield 18, 3) := by decide +kernel
theorem dX3_doorFor_8 : decode (mC mX3_doorFor) 8 = .ok (.iload_n 1, 1) := by decide +kernel
theorem dX3_doorFor_9 : decode (mC mX3_doorFor) 9 = .ok (.invokestatic 46, 3) := by decide +kernel
theorem dX3_doorFor_12 : decode (mC mX3_doorFor) 12 = .ok (.aload_n 0, 1) := by decide +kernel
theorem dX3_doorFor_13 : decode (mC mX3_doorFor) 13 = .ok (.getfield 22, 3) := by decide +kernel
theorem dX3_doorFor_16 : decode (mC mX3_doorFor) 16 = .ok (.iload_n 1, 1) := by decide +kernel
theorem dX3_doorFor_17 : decode (mC mX3_doorFor) 17 = .ok (.invokestatic 46, 3) := by decide +kernel
theorem dX3_doorFor_20 : decode (mC mX3_doorFor) 20 = .ok (.invokevirtual 77, 3) := by decide +kernel
theorem dX3_doorFor_23 : decode (mC mX3_doorFor) 23 = .ok (.istore 4, 2) := by decide +kernel
theorem dX3_doorFor_25 : decode (mC mX3_doorFor) 25 = .ok (.iconst 0, 1) := by decide +kernel
theorem dX3_doorFor_26 : decode (mC mX3_doorFor) 26 = .ok (.istore 5, 2) := by decide +kernel
theorem dX3_doorFor_28 : decode (mC mX3_doorFor) 28 = .ok (.iload 5, 2) := by decide +kernel
theorem dX3_doorFor_30 : decode (mC mX3_doorFor) 30 = .ok (.aload_n 0, 1) := by decide +kernel
theorem dX3_doorFor_31 : decode (mC mX3_doorFor) 31 = .ok (.getfield 12, 3) := by decide +kernel
theorem dX3_doorFor_34 : decode (mC mX3_doorFor) 34 = .ok (.getfield 80, 3) := by decide +kernel
theorem dX3_doorFor_37 : decode (mC mX3_doorFor) 37 = .ok (.if_icmp .ge 44, 3) := by decide +kernel
theorem dX3_doorFor_40 : decode (mC mX3_doorFor) 40 = .ok (.iload 4, 2) := by decide +kernel
theorem dX3_doorFor_42 : decode (mC mX3_doorFor) 42 = .ok (.iload 5, 2) := by decide +kernel
theorem dX3_doorFor_44 : decode (mC mX3_doorFor) 44 = .ok (.ishr, 1) := by decide +kernel
theorem dX3_doorFor_45 : decode (mC mX3_doorFor) 45 = .ok (.ifCond .eq 36, 3) := by decide +kernel
theorem dX3_doorFor_48 : decode (mC mX3_doorFor) 48 = .ok (.iload 4, 2) := by decide +kernel
theorem dX3_doorFor_50 : decode (mC mX3_doorFor) 50 = .ok (.iload 5, 2) := by decide +kernel
theorem dX3_doorFor_52 : decode (mC mX3_doorFor) 52 = .ok (.invokestatic 81, 3) := by decide +kernel
theorem dX3_doorFor_55 : decode (mC mX3_doorFor) 55 = .ok (.ifCond .eq 20, 3) := by decide +kernel
theorem dX3_doorFor_58 : decode (mC mX3_doorFor) 58 = .ok (.iload_n 3, 1) := by decide +kernel
theorem dX3_doorFor_59 : decode (mC mX3_doorFor) 59 = .ok (.ifCond .ne 13, 3) := by decide +kernel
theorem dX3_doorFor_62 : decode (mC mX3_doorFor) 62 = .ok (.aload_n 0, 1) := by decide +kernel
theorem dX3_doorFor_63 : decode (mC mX3_doorFor) 63 = .ok (.iload 5, 2) := by decide +kernel
theorem dX3_doorFor_65 : decode (mC mX3_doorFor) 65 = .ok (.iload_n 2, 1) := by decide +kernel
theorem dX3_doorFor_66 : decode (mC mX3_doorFor) 66 = .ok (.invokevirtual 85, 3) := by decide +kernel
theorem dX3_doorFor_69 : decode (mC mX3_doorFor) 69 = .ok (.ifCond .eq 6, 3) := by decide +kernel
theorem dX3_doorFor_72 : decode (mC mX3_doorFor) 72 = .ok (.iload 5, 2) := by decide +kernel
theorem dX3_doorFor_74 : decode (mC mX3_doorFor) 74 = .ok (.ireturn, 1) := by decide +kernel
theorem dX3_doorFor_75 : decode (mC mX3_doorFor) 75 = .ok (.iinc 5 1, 3) := by decide +kernel
theorem dX3_doorFor_78 : decode (mC mX3_doorFor) 78 = .ok (.goto (-50), 3) := by decide +kernel
theorem dX3_doorFor_81 : decode (mC mX3_doorFor) 81 = .ok (.bipush (-9), 2) := by decide +kernel
theorem dX3_doorFor_83 : decode (mC mX3_doorFor) 83 = .ok (.ireturn, 1) := by decide +kernel
theorem dX3_opens_0 : decode (mC mX3_opens) 0 = .ok (.aload_n 0, 1) := by decide +kernel
theorem dX3_opens_1 : decode (mC mX3_opens) 1 = .ok (.getfield 12, 3) := by decide +kernel
theorem dX3_opens_4 : decode (mC mX3_opens) 4 = .ok (.getfield 88, 3) := by decide +kernel
theorem dX3_opens_7 : decode (mC mX3_opens) 7 = .ok (.iload_n 1, 1) := by decide +kernel
theorem dX3_opens_8 : decode (mC mX3_opens) 8 = .ok (.invokestatic 46, 3) := by decide +kernel
theorem dX3_opens_11 : decode (mC mX3_opens) 11 = .ok (.iconst 1, 1) := by decide +kernel
theorem dX3_opens_12 : decode (mC mX3_opens) 12 = .ok (.if_icmp .ne 5, 3) := by decide +kernel
theorem dX3_opens_15 : decode (mC mX3_opens) 15 = .ok (.iconst 1, 1) := by decide +kernel
theorem dX3_opens_16 : decode (mC mX3_opens) 16 = .ok (.ireturn, 1) := by decide +kernel
theorem dX3_opens_17 : decode (mC mX3_opens) 17 = .ok (.aload_n 0, 1) := by decide +kernel
theorem dX3_opens_18 : decode (mC mX3_opens) 18 = .ok (.getfield 12, 3) := by decide +kernel
theorem dX3_opens_21 : decode (mC mX3_opens) 21 = .ok (.getfield 62, 3) := by decide +kernel
theorem dX3_opens_24 : decode (mC mX3_opens) 24 = .ok (.iload_n 1, 1) := by decide +kernel
theorem dX3_opens_25 : decode (mC mX3_opens) 25 = .ok (.invokestatic 46, 3) := by decide +kernel
theorem dX3_opens_28 : decode (mC mX3_opens) 28 = .ok (.istore_n 3, 1) := by decide +kernel
theorem dX3_opens_29 : decode (mC mX3_opens) 29 = .ok (.iconst 0, 1) := by decide +kernel
theorem dX3_opens_30 : decode (mC mX3_opens) 30 = .ok (.istore 4, 2) := by decide +kernel
theorem dX3_opens_32 : decode (mC mX3_opens) 32 = .ok (.iconst 0, 1) := by decide +kernel
theorem dX3_opens_33 : decode (mC mX3_opens) 33 = .ok (.istore 5, 2) := by decide +kernel
theorem dX3_opens_35 : decode (mC mX3_opens) 35 = .ok (.iconst 0, 1) := by decide +kernel
theorem dX3_opens_36 : decode (mC mX3_opens) 36 = .ok (.istore 6, 2) := by decide +kernel
theorem dX3_opens_38 : decode (mC mX3_opens) 38 = .ok (.iload 6, 2) := by decide +kernel
theorem dX3_opens_40 : decode (mC mX3_opens) 40 = .ok (.aload_n 0, 1) := by decide +kernel
theorem dX3_opens_41 : decode (mC mX3_opens) 41 = .ok (.getfield 36, 3) := by decide +kernel
theorem dX3_opens_44 : decode (mC mX3_opens) 44 = .ok (.if_icmp .ge 41, 3) := by decide +kernel
theorem dX3_opens_47 : decode (mC mX3_opens) 47 = .ok (.aload_n 0, 1) := by decide +kernel
theorem dX3_opens_48 : decode (mC mX3_opens) 48 = .ok (.getfield 18, 3) := by decide +kernel
theorem dX3_opens_51 : decode (mC mX3_opens) 51 = .ok (.iload 6, 2) := by decide +kernel
theorem dX3_opens_53 : decode (mC mX3_opens) 53 = .ok (.invokestatic 46, 3) := by decide +kernel
theorem dX3_opens_56 : decode (mC mX3_opens) 56 = .ok (.iload_n 3, 1) := by decide +kernel
theorem dX3_opens_57 : decode (mC mX3_opens) 57 = .ok (.if_icmp .ne 22, 3) := by decide +kernel
theorem dX3_opens_60 : decode (mC mX3_opens) 60 = .ok (.iinc 4 1, 3) := by decide +kernel
theorem dX3_opens_63 : decode (mC mX3_opens) 63 = .ok (.iload 5, 2) := by decide +kernel
theorem dX3_opens_65 : decode (mC mX3_opens) 65 = .ok (.aload_n 0, 1) := by decide +kernel
theorem dX3_opens_66 : decode (mC mX3_opens) 66 = .ok (.getfield 25, 3) := by decide +kernel
theorem dX3_opens_69 : decode (mC mX3_opens) 69 = .ok (.iload 6, 2) := by decide +kernel
theorem dX3_opens_71 : decode (mC mX3_opens) 71 = .ok (.invokestatic 46, 3) := by decide +kernel
theorem dX3_opens_74 : decode (mC mX3_opens) 74 = .ok (.invokestatic 74, 3) := by decide +kernel
theorem dX3_opens_77 : decode (mC mX3_opens) 77 = .ok (.istore 5, 2) := by decide +kernel
theorem dX3_opens_79 : decode (mC mX3_opens) 79 = .ok (.iinc 6 1, 3) := by decide +kernel
theorem dX3_opens_82 : decode (mC mX3_opens) 82 = .ok (.goto (-44), 3) := by decide +kernel
theorem dX3_opens_85 : decode (mC mX3_opens) 85 = .ok (.aload_n 0, 1) := by decide +kernel
theorem dX3_opens_86 : decode (mC mX3_opens) 86 = .ok (.getfield 12, 3) := by decide +kernel
theorem dX3_opens_89 : decode (mC mX3_opens) 89 = .ok (.iload_n 1, 1) := by decide +kernel
theorem dX3_opens_90 : decode (mC mX3_opens) 90 = .ok (.iload_n 2, 1) := by decide +kernel
theorem dX3_opens_91 : decode (mC mX3_opens) 91 = .ok (.iload 4, 2) := by decide +kernel
theorem dX3_opens_93 : decode (mC mX3_opens) 93 = .ok (.iload 5, 2) := by decide +kernel
theorem dX3_opens_95 : decode (mC mX3_opens) 95 = .ok (.invokevirtual 91, 3) := by decide +kernel
theorem dX3_opens_98 : decode (mC mX3_opens) 98 = .ok (.ireturn, 1) := by decide +kernel
theorem dX3_countIn_0 : decode (mC mX3_countIn) 0 = .ok (.aload_n 0, 1) := by decide +kernel
theorem dX3_countIn_1 : decode (mC mX3_countIn) 1 = .ok (.getfield 18, 3) := by decide +kernel
theorem dX3_countIn_4 : decode (mC mX3_countIn) 4 = .ok (.aload_n 0, 1) := by decide +kernel
theorem dX3_countIn_5 : decode (mC mX3_countIn) 5 = .ok (.getfield 36, 3) := by decide +kernel
theorem dX3_countIn_8 : decode (mC mX3_countIn) 8 = .ok (.iload_n 1, 1) := by decide +kernel
theorem dX3_countIn_9 : decode (mC mX3_countIn) 9 = .ok (.invokestatic 95, 3) := by decide +kernel
theorem dX3_countIn_12 : decode (mC mX3_countIn) 12 = .ok (.invokestatic 99, 3) := by decide +kernel
theorem dX3_countIn_15 : decode (mC mX3_countIn) 15 = .ok (.ireturn, 1) := by decide +kernel
theorem dX3_homeBits_0 : decode (mC mX3_homeBits) 0 = .ok (.iconst 0, 1) := by decide +kernel
theorem dX3_homeBits_1 : decode (mC mX3_homeBits) 1 = .ok (.istore_n 1, 1) := by decide +kernel
theorem dX3_homeBits_2 : decode (mC mX3_homeBits) 2 = .ok (.iconst 0, 1) := by decide +kernel
theorem dX3_homeBits_3 : decode (mC mX3_homeBits) 3 = .ok (.istore_n 2, 1) := by decide +kernel
theorem dX3_homeBits_4 : decode (mC mX3_homeBits) 4 = .ok (.iload_n 2, 1) := by decide +kernel
theorem dX3_homeBits_5 : decode (mC mX3_homeBits) 5 = .ok (.aload_n 0, 1) := by decide +kernel
theorem dX3_homeBits_6 : decode (mC mX3_homeBits) 6 = .ok (.getfield 36, 3) := by decide +kernel
theorem dX3_homeBits_9 : decode (mC mX3_homeBits) 9 = .ok (.if_icmp .ge 23, 3) := by decide +kernel
theorem dX3_homeBits_12 : decode (mC mX3_homeBits) 12 = .ok (.aload_n 0, 1) := by decide +kernel
theorem dX3_homeBits_13 : decode (mC mX3_homeBits) 13 = .ok (.iload_n 2, 1) := by decide +kernel
theorem dX3_homeBits_14 : decode (mC mX3_homeBits) 14 = .ok (.invokevirtual 71, 3) := by decide +kernel
theorem dX3_homeBits_17 : decode (mC mX3_homeBits) 17 = .ok (.ifCond .eq 9, 3) := by decide +kernel
theorem dX3_homeBits_20 : decode (mC mX3_homeBits) 20 = .ok (.iload_n 1, 1) := by decide +kernel
theorem dX3_homeBits_21 : decode (mC mX3_homeBits) 21 = .ok (.iconst 1, 1) := by decide +kernel
theorem dX3_homeBits_22 : decode (mC mX3_homeBits) 22 = .ok (.iload_n 2, 1) := by decide +kernel
theorem dX3_homeBits_23 : decode (mC mX3_homeBits) 23 = .ok (.ishl, 1) := by decide +kernel
theorem dX3_homeBits_24 : decode (mC mX3_homeBits) 24 = .ok (.ior, 1) := by decide +kernel
theorem dX3_homeBits_25 : decode (mC mX3_homeBits) 25 = .ok (.istore_n 1, 1) := by decide +kernel
theorem dX3_homeBits_26 : decode (mC mX3_homeBits) 26 = .ok (.iinc 2 1, 3) := by decide +kernel
theorem dX3_homeBits_29 : decode (mC mX3_homeBits) 29 = .ok (.goto (-25), 3) := by decide +kernel
theorem dX3_homeBits_32 : decode (mC mX3_homeBits) 32 = .ok (.iload_n 1, 1) := by decide +kernel
theorem dX3_homeBits_33 : decode (mC mX3_homeBits) 33 = .ok (.ireturn, 1) := by decide +kernel
theorem dX3_homeCount_0 : decode (mC mX3_homeCount) 0 = .ok (.aload_n 0, 1) := by decide +kernel
theorem dX3_homeCount_1 : decode (mC mX3_homeCount) 1 = .ok (.invokevirtual 105, 3) := by decide +kernel
theorem dX3_homeCount_4 : decode (mC mX3_homeCount) 4 = .ok (.invokestatic 99, 3) := by decide +kernel
theorem dX3_homeCount_7 : decode (mC mX3_homeCount) 7 = .ok (.ireturn, 1) := by decide +kernel
theorem dX3_moodsTogether_0 : decode (mC mX3_moodsTogether) 0 = .ok (.iconst 0, 1) := by decide +kernel
theorem dX3_moodsTogether_1 : decode (mC mX3_moodsTogether) 1 = .ok (.istore_n 1, 1) := by decide +kernel
theorem dX3_moodsTogether_2 : decode (mC mX3_moodsTogether) 2 = .ok (.iconst 0, 1) := by decide +kernel
theorem dX3_moodsTogether_3 : decode (mC mX3_moodsTogether) 3 = .ok (.istore_n 2, 1) := by decide +kernel
theorem dX3_moodsTogether_4 : decode (mC mX3_moodsTogether) 4 = .ok (.iload_n 2, 1) := by decide +kernel
theorem dX3_moodsTogether_5 : decode (mC mX3_moodsTogether) 5 = .ok (.aload_n 0, 1) := by decide +kernel
theorem dX3_moodsTogether_6 : decode (mC mX3_moodsTogether) 6 = .ok (.getfield 36, 3) := by decide +kernel
theorem dX3_moodsTogether_9 : decode (mC mX3_moodsTogether) 9 = .ok (.if_icmp .ge 20, 3) := by decide +kernel
theorem dX3_moodsTogether_12 : decode (mC mX3_moodsTogether) 12 = .ok (.iload_n 1, 1) := by decide +kernel
theorem dX3_moodsTogether_13 : decode (mC mX3_moodsTogether) 13 = .ok (.aload_n 0, 1) := by decide +kernel
theorem dX3_moodsTogether_14 : decode (mC mX3_moodsTogether) 14 = .ok (.getfield 25, 3) := by decide +kernel
theorem dX3_moodsTogether_17 : decode (mC mX3_moodsTogether) 17 = .ok (.iload_n 2, 1) := by decide +kernel
theorem dX3_moodsTogether_18 : decode (mC mX3_moodsTogether) 18 = .ok (.invokestatic 46, 3) := by decide +kernel
theorem dX3_moodsTogether_21 : decode (mC mX3_moodsTogether) 21 = .ok (.iadd, 1) := by decide +kernel
theorem dX3_moodsTogether_22 : decode (mC mX3_moodsTogether) 22 = .ok (.istore_n 1, 1) := by decide +kernel
theorem dX3_moodsTogether_23 : decode (mC mX3_moodsTogether) 23 = .ok (.iinc 2 1, 3) := by decide +kernel
theorem dX3_moodsTogether_26 : decode (mC mX3_moodsTogether) 26 = .ok (.goto (-22), 3) := by decide +kernel
theorem dX3_moodsTogether_29 : decode (mC mX3_moodsTogether) 29 = .ok (.iload_n 1, 1) := by decide +kernel
theorem dX3_moodsTogether_30 : decode (mC mX3_moodsTogether) 30 = .ok (.ireturn, 1) := by decide +kernel
theorem dJ6_bitCount_0f7a4_0 : decode (mC mJ6_bitCount_0f7a4) 0 = .ok (.iload_n 0, 1) := by decide +kernel
theorem dJ6_bitCount_0f7a4_1 : decode (mC mJ6_bitCount_0f7a4) 1 = .ok (.iload_n 0, 1) := by decide +kernel
theorem dJ6_bitCount_0f7a4_2 : decode (mC mJ6_bitCount_0f7a4) 2 = .ok (.iconst 1, 1) := by decide +kernel
theorem dJ6_bitCount_0f7a4_3 : decode (mC mJ6_bitCount_0f7a4) 3 = .ok (.iushr, 1) := by decide +kernel
theorem dJ6_bitCount_0f7a4_4 : decode (mC mJ6_bitCount_0f7a4) 4 = .ok (.ldc_w 265, 3) := by decide +kernel
theorem dJ6_bitCount_0f7a4_7 : decode (mC mJ6_bitCount_0f7a4) 7 = .ok (.iand, 1) := by decide +kernel
theorem dJ6_bitCount_0f7a4_8 : decode (mC mJ6_bitCount_0f7a4) 8 = .ok (.isub, 1) := by decide +kernel
theorem dJ6_bitCount_0f7a4_9 : decode (mC mJ6_bitCount_0f7a4) 9 = .ok (.istore_n 0, 1) := by decide +kernel
theorem dJ6_bitCount_0f7a4_10 : decode (mC mJ6_bitCount_0f7a4) 10 = .ok (.iload_n 0, 1) := by decide +kernel
theorem dJ6_bitCount_0f7a4_11 : decode (mC mJ6_bitCount_0f7a4) 11 = .ok (.ldc_w 266, 3) := by decide +kernel
theorem dJ6_bitCount_0f7a4_14 : decode (mC mJ6_bitCount_0f7a4) 14 = .ok (.iand, 1) := by decide +kernel
theorem dJ6_bitCount_0f7a4_15 : decode (mC mJ6_bitCount_0f7a4) 15 = .ok (.iload_n 0, 1) := by decide +kernel
theorem dJ6_bitCount_0f7a4_16 : decode (mC mJ6_bitCount_0f7a4) 16 = .ok (.iconst 2, 1) := by decide +kernel
theorem dJ6_bitCount_0f7a4_17 : decode (mC mJ6_bitCount_0f7a4) 17 = .ok (.iushr, 1) := by decide +kernel
theorem dJ6_bitCount_0f7a4_18 : decode (mC mJ6_bitCount_0f7a4) 18 = .ok (.ldc_w 266, 3) := by decide +kernel
theorem dJ6_bitCount_0f7a4_21 : decode (mC mJ6_bitCount_0f7a4) 21 = .ok (.iand, 1) := by decide +kernel
theorem dJ6_bitCount_0f7a4_22 : decode (mC mJ6_bitCount_0f7a4) 22 = .ok (.iadd, 1) := by decide +kernel
theorem dJ6_bitCount_0f7a4_23 : decode (mC mJ6_bitCount_0f7a4) 23 = .ok (.istore_n 0, 1) := by decide +kernel
theorem dJ6_bitCount_0f7a4_24 : decode (mC mJ6_bitCount_0f7a4) 24 = .ok (.iload_n 0, 1) := by decide +kernel
theorem dJ6_bitCount_0f7a4_25 : decode (mC mJ6_bitCount_0f7a4) 25 = .ok (.iload_n 0, 1) := by decide +kernel
theorem dJ6_bitCount_0f7a4_26 : decode (mC mJ6_bitCount_0f7a4) 26 = .ok (.iconst 4, 1) := by decide +kernel
theorem dJ6_bitCount_0f7a4_27 : decode (mC mJ6_bitCount_0f7a4) 27 = .ok (.iushr, 1) := by decide +kernel
theorem dJ6_bitCount_0f7a4_28 : decode (mC mJ6_bitCount_0f7a4) 28 = .ok (.iadd, 1) := by decide +kernel
theorem dJ6_bitCount_0f7a4_29 : decode (mC mJ6_bitCount_0f7a4) 29 = .ok (.ldc_w 267, 3) := by decide +kernel
theorem dJ6_bitCount_0f7a4_32 : decode (mC mJ6_bitCount_0f7a4) 32 = .ok (.iand, 1) := by decide +kernel
theorem dJ6_bitCount_0f7a4_33 : decode (mC mJ6_bitCount_0f7a4) 33 = .ok (.istore_n 0, 1) := by decide +kernel
theorem dJ6_bitCount_0f7a4_34 : decode (mC mJ6_bitCount_0f7a4) 34 = .ok (.iload_n 0, 1) := by decide +kernel
theorem dJ6_bitCount_0f7a4_35 : decode (mC mJ6_bitCount_0f7a4) 35 = .ok (.iload_n 0, 1) := by decide +kernel
theorem dJ6_bitCount_0f7a4_36 : decode (mC mJ6_bitCount_0f7a4) 36 = .ok (.bipush 8, 2) := by decide +kernel
theorem dJ6_bitCount_0f7a4_38 : decode (mC mJ6_bitCount_0f7a4) 38 = .ok (.iushr, 1) := by decide +kernel
theorem dJ6_bitCount_0f7a4_39 : decode (mC mJ6_bitCount_0f7a4) 39 = .ok (.iadd, 1) := by decide +kernel
theorem dJ6_bitCount_0f7a4_40 : decode (mC mJ6_bitCount_0f7a4) 40 = .ok (.istore_n 0, 1) := by decide +kernel
theorem dJ6_bitCount_0f7a4_41 : decode (mC mJ6_bitCount_0f7a4) 41 = .ok (.iload_n 0, 1) := by decide +kernel
theorem dJ6_bitCount_0f7a4_42 : decode (mC mJ6_bitCount_0f7a4) 42 = .ok (.iload_n 0, 1) := by decide +kernel
theorem dJ6_bitCount_0f7a4_43 : decode (mC mJ6_bitCount_0f7a4) 43 = .ok (.bipush 16, 2) := by decide +kernel
theorem dJ6_bitCount_0f7a4_45 : decode (mC mJ6_bitCount_0f7a4) 45 = .ok (.iushr, 1) := by decide +kernel
theorem dJ6_bitCount_0f7a4_46 : decode (mC mJ6_bitCount_0f7a4) 46 = .ok (.iadd, 1) := by decide +kernel
theorem dJ6_bitCount_0f7a4_47 : decode (mC mJ6_bitCount_0f7a4) 47 = .ok (.istore_n 0, 1) := by decide +kernel
theorem dJ6_bitCount_0f7a4_48 : decode (mC mJ6_bitCount_0f7a4) 48 = .ok (.iload_n 0, 1) := by decide +kernel
theorem dJ6_bitCount_0f7a4_49 : decode (mC mJ6_bitCount_0f7a4) 49 = .ok (.bipush 63, 2) := by decide +kernel
theorem dJ6_bitCount_0f7a4_51 : decode (mC mJ6_bitCount_0f7a4) 51 = .ok (.iand, 1) := by decide +kernel
theorem dJ6_bitCount_0f7a4_52 : decode (mC mJ6_bitCount_0f7a4) 52 = .ok (.ireturn, 1) := by decide +kernel

theorem dX4_init_0 : decode (mC mX4_init) 0 = .ok (.aload_n 0, 1) := by decide +kernel
theorem dX4_init_1 : decode (mC mX4_init) 1 = .ok (.invokespecial 1, 3) := by decide +kernel
theorem dX4_init_4 : decode (mC mX4_init) 4 = .ok (.aload_n 0, 1) := by decide +kernel
theorem dX4_init_5 : decode (mC mX4_init) 5 = .ok (.new 7, 3) := by decide +kernel
theorem dX4_init_8 : decode (mC mX4_init) 8 = .ok (.dup, 1) := by decide +kernel
theorem dX4_init_9 : decode (mC mX4_init) 9 = .ok (.invokespecial 9, 3) := by decide +kernel
theorem dX4_init_12 : decode (mC mX4_init) 12 = .ok (.putfield 10, 3) := by decide +kernel
theorem dX4_init_15 : decode (mC mX4_init) 15 = .ok (.aload_n 0, 1) := by decide +kernel
theorem dX4_init_16 : decode (mC mX4_init) 16 = .ok (.new 7, 3) := by decide +kernel
theorem dX4_init_19 : decode (mC mX4_init) 19 = .ok (.dup, 1) := by decide +kernel
theorem dX4_init_20 : decode (mC mX4_init) 20 = .ok (.invokespecial 9, 3) := by decide +kernel
theorem dX4_init_23 : decode (mC mX4_init) 23 = .ok (.putfield 16, 3) := by decide +kernel
theorem dX4_init_26 : decode (mC mX4_init) 26 = .ok (.aload_n 0, 1) := by decide +kernel
theorem dX4_init_27 : decode (mC mX4_init) 27 = .ok (.new 7, 3) := by decide +kernel
theorem dX4_init_30 : decode (mC mX4_init) 30 = .ok (.dup, 1) := by decide +kernel
theorem dX4_init_31 : decode (mC mX4_init) 31 = .ok (.invokespecial 9, 3) := by decide +kernel
theorem dX4_init_34 : decode (mC mX4_init) 34 = .ok (.putfield 19, 3) := by decide +kernel
theorem dX4_init_37 : decode (mC mX4_init) 37 = .ok (.aload_n 0, 1) := by decide +kernel
theorem dX4_init_38 : decode (mC mX4_init) 38 = .ok (.new 22, 3) := by decide +kernel
theorem dX4_init_41 : decode (mC mX4_init) 41 = .ok (.dup, 1) := by decide +kernel
theorem dX4_init_42 : decode (mC mX4_init) 42 = .ok (.invokespecial 24, 3) := by decide +kernel
theorem dX4_init_45 : decode (mC mX4_init) 45 = .ok (.putfield 25, 3) := by decide +kernel
theorem dX4_init_48 : decode (mC mX4_init) 48 = .ok (.aload_n 0, 1) := by decide +kernel
theorem dX4_init_49 : decode (mC mX4_init) 49 = .ok (.new 29, 3) := by decide +kernel
theorem dX4_init_52 : decode (mC mX4_init) 52 = .ok (.dup, 1) := by decide +kernel
theorem dX4_init_53 : decode (mC mX4_init) 53 = .ok (.bipush 16, 2) := by decide +kernel
theorem dX4_init_55 : decode (mC mX4_init) 55 = .ok (.invokespecial 31, 3) := by decide +kernel
theorem dX4_init_58 : decode (mC mX4_init) 58 = .ok (.putfield 34, 3) := by decide +kernel
theorem dX4_init_61 : decode (mC mX4_init) 61 = .ok (.aload_n 0, 1) := by decide +kernel
theorem dX4_init_62 : decode (mC mX4_init) 62 = .ok (.bipush 7, 2) := by decide +kernel
theorem dX4_init_64 : decode (mC mX4_init) 64 = .ok (.newarray .int, 2) := by decide +kernel
theorem dX4_init_66 : decode (mC mX4_init) 66 = .ok (.putfield 38, 3) := by decide +kernel
theorem dX4_init_69 : decode (mC mX4_init) 69 = .ok (.aload_n 0, 1) := by decide +kernel
theorem dX4_init_70 : decode (mC mX4_init) 70 = .ok (.bipush 8, 2) := by decide +kernel
theorem dX4_init_72 : decode (mC mX4_init) 72 = .ok (.newarray .int, 2) := by decide +kernel
theorem dX4_init_74 : decode (mC mX4_init) 74 = .ok (.putfield 42, 3) := by decide +kernel
theorem dX4_init_77 : decode (mC mX4_init) 77 = .ok (.return_, 1) := by decide +kernel
theorem dX4_letter_0 : decode (mC mX4_letter) 0 = .ok (.iload_n 1, 1) := by decide +kernel
theorem dX4_letter_1 : decode (mC mX4_letter) 1 = .ok (.ifCond .ge 10, 3) := by decide +kernel
theorem dX4_letter_4 : decode (mC mX4_letter) 4 = .ok (.aload_n 0, 1) := by decide +kernel
theorem dX4_letter_5 : decode (mC mX4_letter) 5 = .ok (.bipush (-4), 2) := by decide +kernel
theorem dX4_letter_7 : decode (mC mX4_letter) 7 = .ok (.invokevirtual 45, 3) := by decide +kernel
theorem dX4_letter_10 : decode (mC mX4_letter) 10 = .ok (.ireturn, 1) := by decide +kernel
theorem dX4_letter_11 : decode (mC mX4_letter) 11 = .ok (.iload_n 1, 1) := by decide +kernel
theorem dX4_letter_12 : decode (mC mX4_letter) 12 = .ok (.sipush 255, 3) := by decide +kernel
theorem dX4_letter_15 : decode (mC mX4_letter) 15 = .ok (.if_icmp .gt 16, 3) := by decide +kernel
theorem dX4_letter_18 : decode (mC mX4_letter) 18 = .ok (.aload_n 0, 1) := by decide +kernel
theorem dX4_letter_19 : decode (mC mX4_letter) 19 = .ok (.getfield 25, 3) := by decide +kernel
theorem dX4_letter_22 : decode (mC mX4_letter) 22 = .ok (.getfield 49, 3) := by decide +kernel
theorem dX4_letter_25 : decode (mC mX4_letter) 25 = .ok (.invokevirtual 52, 3) := by decide +kernel
theorem dX4_letter_28 : decode (mC mX4_letter) 28 = .ok (.ifCond .eq 10, 3) := by decide +kernel
theorem dX4_letter_31 : decode (mC mX4_letter) 31 = .ok (.aload_n 0, 1) := by decide +kernel
theorem dX4_letter_32 : decode (mC mX4_letter) 32 = .ok (.bipush (-6), 2) := by decide +kernel
theorem dX4_letter_34 : decode (mC mX4_letter) 34 = .ok (.invokevirtual 45, 3) := by decide +kernel
theorem dX4_letter_37 : decode (mC mX4_letter) 37 = .ok (.ireturn, 1) := by decide +kernel
theorem dX4_letter_38 : decode (mC mX4_letter) 38 = .ok (.aload_n 0, 1) := by decide +kernel
theorem dX4_letter_39 : decode (mC mX4_letter) 39 = .ok (.getfield 25, 3) := by decide +kernel
theorem dX4_letter_42 : decode (mC mX4_letter) 42 = .ok (.getfield 49, 3) := by decide +kernel
theorem dX4_letter_45 : decode (mC mX4_letter) 45 = .ok (.iload_n 1, 1) := by decide +kernel
theorem dX4_letter_46 : decode (mC mX4_letter) 46 = .ok (.invokevirtual 56, 3) := by decide +kernel
theorem dX4_letter_49 : decode (mC mX4_letter) 49 = .ok (.ireturn, 1) := by decide +kernel
theorem dX4_town_0 : decode (mC mX4_town) 0 = .ok (.aload_n 0, 1) := by decide +kernel
theorem dX4_town_1 : decode (mC mX4_town) 1 = .ok (.getfield 25, 3) := by decide +kernel
theorem dX4_town_4 : decode (mC mX4_town) 4 = .ok (.invokevirtual 59, 3) := by decide +kernel
theorem dX4_town_7 : decode (mC mX4_town) 7 = .ok (.istore_n 1, 1) := by decide +kernel
theorem dX4_town_8 : decode (mC mX4_town) 8 = .ok (.iload_n 1, 1) := by decide +kernel
theorem dX4_town_9 : decode (mC mX4_town) 9 = .ok (.ifCond .lt 11, 3) := by decide +kernel
theorem dX4_town_12 : decode (mC mX4_town) 12 = .ok (.sipush (-1000), 3) := by decide +kernel
theorem dX4_town_15 : decode (mC mX4_town) 15 = .ok (.iload_n 1, 1) := by decide +kernel
theorem dX4_town_16 : decode (mC mX4_town) 16 = .ok (.isub, 1) := by decide +kernel
theorem dX4_town_17 : decode (mC mX4_town) 17 = .ok (.goto 7, 3) := by decide +kernel
theorem dX4_town_20 : decode (mC mX4_town) 20 = .ok (.aload_n 0, 1) := by decide +kernel
theorem dX4_town_21 : decode (mC mX4_town) 21 = .ok (.invokevirtual 63, 3) := by decide +kernel
theorem dX4_town_24 : decode (mC mX4_town) 24 = .ok (.istore_n 2, 1) := by decide +kernel
theorem dX4_town_25 : decode (mC mX4_town) 25 = .ok (.aload_n 0, 1) := by decide +kernel
theorem dX4_town_26 : decode (mC mX4_town) 26 = .ok (.getfield 25, 3) := by decide +kernel
theorem dX4_town_29 : decode (mC mX4_town) 29 = .ok (.getfield 49, 3) := by decide +kernel
theorem dX4_town_32 : decode (mC mX4_town) 32 = .ok (.invokevirtual 66, 3) := by decide +kernel
theorem dX4_town_35 : decode (mC mX4_town) 35 = .ok (.pop, 1) := by decide +kernel
theorem dX4_town_36 : decode (mC mX4_town) 36 = .ok (.iload_n 2, 1) := by decide +kernel
theorem dX4_town_37 : decode (mC mX4_town) 37 = .ok (.ireturn, 1) := by decide +kernel
theorem dX4_tellStatements_0 : decode (mC mX4_tellStatements) 0 = .ok (.aload_n 0, 1) := by decide +kernel
theorem dX4_tellStatements_1 : decode (mC mX4_tellStatements) 1 = .ok (.getfield 16, 3) := by decide +kernel
theorem dX4_tellStatements_4 : decode (mC mX4_tellStatements) 4 = .ok (.aload_n 0, 1) := by decide +kernel
theorem dX4_tellStatements_5 : decode (mC mX4_tellStatements) 5 = .ok (.getfield 10, 3) := by decide +kernel
theorem dX4_tellStatements_8 : decode (mC mX4_tellStatements) 8 = .ok (.invokevirtual 69, 3) := by decide +kernel
theorem dX4_tellStatements_11 : decode (mC mX4_tellStatements) 11 = .ok (.iconst 0, 1) := by decide +kernel
theorem dX4_tellStatements_12 : decode (mC mX4_tellStatements) 12 = .ok (.istore_n 1, 1) := by decide +kernel
theorem dX4_tellStatements_13 : decode (mC mX4_tellStatements) 13 = .ok (.iconst 0, 1) := by decide +kernel
theorem dX4_tellStatements_14 : decode (mC mX4_tellStatements) 14 = .ok (.istore_n 2, 1) := by decide +kernel
theorem dX4_tellStatements_15 : decode (mC mX4_tellStatements) 15 = .ok (.iload_n 2, 1) := by decide +kernel
theorem dX4_tellStatements_16 : decode (mC mX4_tellStatements) 16 = .ok (.aload_n 0, 1) := by decide +kernel
theorem dX4_tellStatements_17 : decode (mC mX4_tellStatements) 17 = .ok (.getfield 25, 3) := by decide +kernel
theorem dX4_tellStatements_20 : decode (mC mX4_tellStatements) 20 = .ok (.getfield 49, 3) := by decide +kernel
theorem dX4_tellStatements_23 : decode (mC mX4_tellStatements) 23 = .ok (.getfield 73, 3) := by decide +kernel
theorem dX4_tellStatements_26 : decode (mC mX4_tellStatements) 26 = .ok (.if_icmp .ge 45, 3) := by decide +kernel
theorem dX4_tellStatements_29 : decode (mC mX4_tellStatements) 29 = .ok (.aload_n 0, 1) := by decide +kernel
theorem dX4_tellStatements_30 : decode (mC mX4_tellStatements) 30 = .ok (.getfield 25, 3) := by decide +kernel
theorem dX4_tellStatements_33 : decode (mC mX4_tellStatements) 33 = .ok (.iload_n 2, 1) := by decide +kernel
theorem dX4_tellStatements_34 : decode (mC mX4_tellStatements) 34 = .ok (.aload_n 0, 1) := by decide +kernel
theorem dX4_tellStatements_35 : decode (mC mX4_tellStatements) 35 = .ok (.getfield 16, 3) := by decide +kernel
theorem dX4_tellStatements_38 : decode (mC mX4_tellStatements) 38 = .ok (.invokevirtual 77, 3) := by decide +kernel
theorem dX4_tellStatements_41 : decode (mC mX4_tellStatements) 41 = .ok (.ifCond .ne 9, 3) := by decide +kernel
theorem dX4_tellStatements_44 : decode (mC mX4_tellStatements) 44 = .ok (.sipush (-2000), 3) := by decide +kernel
theorem dX4_tellStatements_47 : decode (mC mX4_tellStatements) 47 = .ok (.iload_n 2, 1) := by decide +kernel
theorem dX4_tellStatements_48 : decode (mC mX4_tellStatements) 48 = .ok (.isub, 1) := by decide +kernel
theorem dX4_tellStatements_49 : decode (mC mX4_tellStatements) 49 = .ok (.ireturn, 1) := by decide +kernel
theorem dX4_tellStatements_50 : decode (mC mX4_tellStatements) 50 = .ok (.iinc 1 1, 3) := by decide +kernel
theorem dX4_tellStatements_53 : decode (mC mX4_tellStatements) 53 = .ok (.iload_n 2, 1) := by decide +kernel
theorem dX4_tellStatements_54 : decode (mC mX4_tellStatements) 54 = .ok (.iconst 1, 1) := by decide +kernel
theorem dX4_tellStatements_55 : decode (mC mX4_tellStatements) 55 = .ok (.aload_n 0, 1) := by decide +kernel
theorem dX4_tellStatements_56 : decode (mC mX4_tellStatements) 56 = .ok (.getfield 25, 3) := by decide +kernel
theorem dX4_tellStatements_59 : decode (mC mX4_tellStatements) 59 = .ok (.iload_n 2, 1) := by decide +kernel
theorem dX4_tellStatements_60 : decode (mC mX4_tellStatements) 60 = .ok (.invokevirtual 81, 3) := by decide +kernel
theorem dX4_tellStatements_63 : decode (mC mX4_tellStatements) 63 = .ok (.invokestatic 84, 3) := by decide +kernel
theorem dX4_tellStatements_66 : decode (mC mX4_tellStatements) 66 = .ok (.iadd, 1) := by decide +kernel
theorem dX4_tellStatements_67 : decode (mC mX4_tellStatements) 67 = .ok (.istore_n 2, 1) := by decide +kernel
theorem dX4_tellStatements_68 : decode (mC mX4_tellStatements) 68 = .ok (.goto (-53), 3) := by decide +kernel
theorem dX4_tellStatements_71 : decode (mC mX4_tellStatements) 71 = .ok (.aload_n 0, 1) := by decide +kernel
theorem dX4_tellStatements_72 : decode (mC mX4_tellStatements) 72 = .ok (.getfield 10, 3) := by decide +kernel
theorem dX4_tellStatements_75 : decode (mC mX4_tellStatements) 75 = .ok (.aload_n 0, 1) := by decide +kernel
theorem dX4_tellStatements_76 : decode (mC mX4_tellStatements) 76 = .ok (.getfield 16, 3) := by decide +kernel
theorem dX4_tellStatements_79 : decode (mC mX4_tellStatements) 79 = .ok (.invokevirtual 69, 3) := by decide +kernel
theorem dX4_tellStatements_82 : decode (mC mX4_tellStatements) 82 = .ok (.iload_n 1, 1) := by decide +kernel
theorem dX4_tellStatements_83 : decode (mC mX4_tellStatements) 83 = .ok (.ireturn, 1) := by decide +kernel
theorem dX4_door_0 : decode (mC mX4_door) 0 = .ok (.aload_n 0, 1) := by decide +kernel
theorem dX4_door_1 : decode (mC mX4_door) 1 = .ok (.getfield 10, 3) := by decide +kernel
theorem dX4_door_4 : decode (mC mX4_door) 4 = .ok (.getfield 90, 3) := by decide +kernel
theorem dX4_door_7 : decode (mC mX4_door) 7 = .ok (.iload_n 1, 1) := by decide +kernel
theorem dX4_door_8 : decode (mC mX4_door) 8 = .ok (.invokevirtual 94, 3) := by decide +kernel
theorem dX4_door_11 : decode (mC mX4_door) 11 = .ok (.ifCond .ne 9, 3) := by decide +kernel
theorem dX4_door_14 : decode (mC mX4_door) 14 = .ok (.aload_n 0, 1) := by decide +kernel
theorem dX4_door_15 : decode (mC mX4_door) 15 = .ok (.iconst (-1), 1) := by decide +kernel
theorem dX4_door_16 : decode (mC mX4_door) 16 = .ok (.invokevirtual 45, 3) := by decide +kernel
theorem dX4_door_19 : decode (mC mX4_door) 19 = .ok (.ireturn, 1) := by decide +kernel
theorem dX4_door_20 : decode (mC mX4_door) 20 = .ok (.iload_n 2, 1) := by decide +kernel
theorem dX4_door_21 : decode (mC mX4_door) 21 = .ok (.tableswitch 110 0 4 #[35, 50, 65, 80, 95], 35) := by decide +kernel
theorem dX4_door_56 : decode (mC mX4_door) 56 = .ok (.aload_n 0, 1) := by decide +kernel
theorem dX4_door_57 : decode (mC mX4_door) 57 = .ok (.getfield 10, 3) := by decide +kernel
theorem dX4_door_60 : decode (mC mX4_door) 60 = .ok (.getfield 90, 3) := by decide +kernel
theorem dX4_door_63 : decode (mC mX4_door) 63 = .ok (.getfield 100, 3) := by decide +kernel
theorem dX4_door_66 : decode (mC mX4_door) 66 = .ok (.iload_n 1, 1) := by decide +kernel
theorem dX4_door_67 : decode (mC mX4_door) 67 = .ok (.invokestatic 103, 3) := by decide +kernel
theorem dX4_door_70 : decode (mC mX4_door) 70 = .ok (.ireturn, 1) := by decide +kernel
theorem dX4_door_71 : decode (mC mX4_door) 71 = .ok (.aload_n 0, 1) := by decide +kernel
theorem dX4_door_72 : decode (mC mX4_door) 72 = .ok (.getfield 10, 3) := by decide +kernel
theorem dX4_door_75 : decode (mC mX4_door) 75 = .ok (.getfield 90, 3) := by decide +kernel
theorem dX4_door_78 : decode (mC mX4_door) 78 = .ok (.getfield 107, 3) := by decide +kernel
theorem dX4_door_81 : decode (mC mX4_door) 81 = .ok (.iload_n 1, 1) := by decide +kernel
theorem dX4_door_82 : decode (mC mX4_door) 82 = .ok (.invokestatic 103, 3) := by decide +kernel
theorem dX4_door_85 : decode (mC mX4_door) 85 = .ok (.ireturn, 1) := by decide +kernel
theorem dX4_door_86 : decode (mC mX4_door) 86 = .ok (.aload_n 0, 1) := by decide +kernel
theorem dX4_door_87 : decode (mC mX4_door) 87 = .ok (.getfield 10, 3) := by decide +kernel
theorem dX4_door_90 : decode (mC mX4_door) 90 = .ok (.getfield 90, 3) := by decide +kernel
theorem dX4_door_93 : decode (mC mX4_door) 93 = .ok (.getfield 110, 3) := by decide +kernel
theorem dX4_door_96 : decode (mC mX4_door) 96 = .ok (.iload_n 1, 1) := by decide +kernel
theorem dX4_door_97 : decode (mC mX4_door) 97 = .ok (.invokestatic 103, 3) := by decide +kernel
theorem dX4_door_100 : decode (mC mX4_door) 100 = .ok (.ireturn, 1) := by decide +kernel
theorem dX4_door_101 : decode (mC mX4_door) 101 = .ok (.aload_n 0, 1) := by decide +kernel
theorem dX4_door_102 : decode (mC mX4_door) 102 = .ok (.getfield 10, 3) := by decide +kernel
theorem dX4_door_105 : decode (mC mX4_door) 105 = .ok (.getfield 90, 3) := by decide +kernel
theorem dX4_door_108 : decode (mC mX4_door) 108 = .ok (.getfield 113, 3) := by decide +kernel
theorem dX4_door_111 : decode (mC mX4_door) 111 = .ok (.iload_n 1, 1) := by decide +kernel
theorem dX4_door_112 : decode (mC mX4_door) 112 = .ok (.invokestatic 103, 3) := by decide +kernel
theorem dX4_door_115 : decode (mC mX4_door) 115 = .ok (.ireturn, 1) := by decide +kernel
theorem dX4_door_116 : decode (mC mX4_door) 116 = .ok (.aload_n 0, 1) := by decide +kernel
theorem dX4_door_117 : decode (mC mX4_door) 117 = .ok (.getfield 10, 3) := by decide +kernel
theorem dX4_door_120 : decode (mC mX4_door) 120 = .ok (.getfield 90, 3) := by decide +kernel
theorem dX4_door_123 : decode (mC mX4_door) 123 = .ok (.getfield 116, 3) := by decide +kernel
theorem dX4_door_126 : decode (mC mX4_door) 126 = .ok (.iload_n 1, 1) := by decide +kernel
theorem dX4_door_127 : decode (mC mX4_door) 127 = .ok (.invokestatic 103, 3) := by decide +kernel
theorem dX4_door_130 : decode (mC mX4_door) 130 = .ok (.ireturn, 1) := by decide +kernel
theorem dX4_door_131 : decode (mC mX4_door) 131 = .ok (.aload_n 0, 1) := by decide +kernel
theorem dX4_door_132 : decode (mC mX4_door) 132 = .ok (.bipush (-2), 2) := by decide +kernel
theorem dX4_door_134 : decode (mC mX4_door) 134 = .ok (.invokevirtual 45, 3) := by decide +kernel
theorem dX4_door_137 : decode (mC mX4_door) 137 = .ok (.ireturn, 1) := by decide +kernel
theorem dX4_person_0 : decode (mC mX4_person) 0 = .ok (.aload_n 0, 1) := by decide +kernel
theorem dX4_person_1 : decode (mC mX4_person) 1 = .ok (.getfield 10, 3) := by decide +kernel
theorem dX4_person_4 : decode (mC mX4_person) 4 = .ok (.iload_n 1, 1) := by decide +kernel
theorem dX4_person_5 : decode (mC mX4_person) 5 = .ok (.invokevirtual 119, 3) := by decide +kernel
theorem dX4_person_8 : decode (mC mX4_person) 8 = .ok (.ifCond .ne 9, 3) := by decide +kernel
theorem dX4_person_11 : decode (mC mX4_person) 11 = .ok (.aload_n 0, 1) := by decide +kernel
theorem dX4_person_12 : decode (mC mX4_person) 12 = .ok (.iconst (-1), 1) := by decide +kernel
theorem dX4_person_13 : decode (mC mX4_person) 13 = .ok (.invokevirtual 45, 3) := by decide +kernel
theorem dX4_person_16 : decode (mC mX4_person) 16 = .ok (.ireturn, 1) := by decide +kernel
theorem dX4_person_17 : decode (mC mX4_person) 17 = .ok (.iload_n 2, 1) := by decide +kernel
theorem dX4_person_18 : decode (mC mX4_person) 18 = .ok (.tableswitch 85 0 3 #[30, 42, 54, 66], 30) := by decide +kernel
theorem dX4_person_48 : decode (mC mX4_person) 48 = .ok (.aload_n 0, 1) := by decide +kernel
theorem dX4_person_49 : decode (mC mX4_person) 49 = .ok (.getfield 10, 3) := by decide +kernel
theorem dX4_person_52 : decode (mC mX4_person) 52 = .ok (.getfield 120, 3) := by decide +kernel
theorem dX4_person_55 : decode (mC mX4_person) 55 = .ok (.iload_n 1, 1) := by decide +kernel
theorem dX4_person_56 : decode (mC mX4_person) 56 = .ok (.invokestatic 103, 3) := by decide +kernel
theorem dX4_person_59 : decode (mC mX4_person) 59 = .ok (.ireturn, 1) := by decide +kernel
theorem dX4_person_60 : decode (mC mX4_person) 60 = .ok (.aload_n 0, 1) := by decide +kernel
theorem dX4_person_61 : decode (mC mX4_person) 61 = .ok (.getfield 10, 3) := by decide +kernel
theorem dX4_person_64 : decode (mC mX4_person) 64 = .ok (.getfield 123, 3) := by decide +kernel
theorem dX4_person_67 : decode (mC mX4_person) 67 = .ok (.iload_n 1, 1) := by decide +kernel
theorem dX4_person_68 : decode (mC mX4_person) 68 = .ok (.invokestatic 103, 3) := by decide +kernel
theorem dX4_person_71 : decode (mC mX4_person) 71 = .ok (.ireturn, 1) := by decide +kernel
theorem dX4_person_72 : decode (mC mX4_person) 72 = .ok (.aload_n 0, 1) := by decide +kernel
theorem dX4_person_73 : decode (mC mX4_person) 73 = .ok (.getfield 10, 3) := by decide +kernel
theorem dX4_person_76 : decode (mC mX4_person) 76 = .ok (.getfield 126, 3) := by decide +kernel
theorem dX4_person_79 : decode (mC mX4_person) 79 = .ok (.iload_n 1, 1) := by decide +kernel
theorem dX4_person_80 : decode (mC mX4_person) 80 = .ok (.invokestatic 103, 3) := by decide +kernel
theorem dX4_person_83 : decode (mC mX4_person) 83 = .ok (.ireturn, 1) := by decide +kernel
theorem dX4_person_84 : decode (mC mX4_person) 84 = .ok (.aload_n 0, 1) := by decide +kernel
theorem dX4_person_85 : decode (mC mX4_person) 85 = .ok (.getfield 10, 3) := by decide +kernel
theorem dX4_person_88 : decode (mC mX4_person) 88 = .ok (.iload_n 1, 1) := by decide +kernel
theorem dX4_person_89 : decode (mC mX4_person) 89 = .ok (.aload_n 0, 1) := by decide +kernel
theorem dX4_person_90 : decode (mC mX4_person) 90 = .ok (.getfield 10, 3) := by decide +kernel
theorem dX4_person_93 : decode (mC mX4_person) 93 = .ok (.getfield 129, 3) := by decide +kernel
theorem dX4_person_96 : decode (mC mX4_person) 96 = .ok (.iconst 1, 1) := by decide +kernel
theorem dX4_person_97 : decode (mC mX4_person) 97 = .ok (.iadd, 1) := by decide +kernel
theorem dX4_person_98 : decode (mC mX4_person) 98 = .ok (.iconst 0, 1) := by decide +kernel
theorem dX4_person_99 : decode (mC mX4_person) 99 = .ok (.invokevirtual 132, 3) := by decide +kernel
theorem dX4_person_102 : decode (mC mX4_person) 102 = .ok (.ireturn, 1) := by decide +kernel
theorem dX4_person_103 : decode (mC mX4_person) 103 = .ok (.aload_n 0, 1) := by decide +kernel
theorem dX4_person_104 : decode (mC mX4_person) 104 = .ok (.bipush (-2), 2) := by decide +kernel
theorem dX4_person_106 : decode (mC mX4_person) 106 = .ok (.invokevirtual 45, 3) := by decide +kernel
theorem dX4_person_109 : decode (mC mX4_person) 109 = .ok (.ireturn, 1) := by decide +kernel
theorem dX4_wedges_0 : decode (mC mX4_wedges) 0 = .ok (.aload_n 0, 1) := by decide +kernel
theorem dX4_wedges_1 : decode (mC mX4_wedges) 1 = .ok (.getfield 10, 3) := by decide +kernel
theorem dX4_wedges_4 : decode (mC mX4_wedges) 4 = .ok (.getfield 90, 3) := by decide +kernel
theorem dX4_wedges_7 : decode (mC mX4_wedges) 7 = .ok (.iload_n 1, 1) := by decide +kernel
theorem dX4_wedges_8 : decode (mC mX4_wedges) 8 = .ok (.invokevirtual 94, 3) := by decide +kernel
theorem dX4_wedges_11 : decode (mC mX4_wedges) 11 = .ok (.ifCond .ne 9, 3) := by decide +kernel
theorem dX4_wedges_14 : decode (mC mX4_wedges) 14 = .ok (.aload_n 0, 1) := by decide +kernel
theorem dX4_wedges_15 : decode (mC mX4_wedges) 15 = .ok (.iconst (-1), 1) := by decide +kernel
theorem dX4_wedges_16 : decode (mC mX4_wedges) 16 = .ok (.invokevirtual 45, 3) := by decide +kernel
theorem dX4_wedges_19 : decode (mC mX4_wedges) 19 = .ok (.ireturn, 1) := by decide +kernel
theorem dX4_wedges_20 : decode (mC mX4_wedges) 20 = .ok (.aload_n 0, 1) := by decide +kernel
theorem dX4_wedges_21 : decode (mC mX4_wedges) 21 = .ok (.getfield 10, 3) := by decide +kernel
theorem dX4_wedges_24 : decode (mC mX4_wedges) 24 = .ok (.getfield 90, 3) := by decide +kernel
theorem dX4_wedges_27 : decode (mC mX4_wedges) 27 = .ok (.iload_n 1, 1) := by decide +kernel
theorem dX4_wedges_28 : decode (mC mX4_wedges) 28 = .ok (.invokevirtual 136, 3) := by decide +kernel
theorem dX4_wedges_31 : decode (mC mX4_wedges) 31 = .ok (.ireturn, 1) := by decide +kernel
theorem dX4_turns_0 : decode (mC mX4_turns) 0 = .ok (.aload_n 0, 1) := by decide +kernel
theorem dX4_turns_1 : decode (mC mX4_turns) 1 = .ok (.getfield 10, 3) := by decide +kernel
theorem dX4_turns_4 : decode (mC mX4_turns) 4 = .ok (.getfield 90, 3) := by decide +kernel
theorem dX4_turns_7 : decode (mC mX4_turns) 7 = .ok (.iload_n 1, 1) := by decide +kernel
theorem dX4_turns_8 : decode (mC mX4_turns) 8 = .ok (.invokevirtual 94, 3) := by decide +kernel
theorem dX4_turns_11 : decode (mC mX4_turns) 11 = .ok (.ifCond .ne 9, 3) := by decide +kernel
theorem dX4_turns_14 : decode (mC mX4_turns) 14 = .ok (.aload_n 0, 1) := by decide +kernel
theorem dX4_turns_15 : decode (mC mX4_turns) 15 = .ok (.iconst (-1), 1) := by decide +kernel
theorem dX4_turns_16 : decode (mC mX4_turns) 16 = .ok (.invokevirtual 45, 3) := by decide +kernel
theorem dX4_turns_19 : decode (mC mX4_turns) 19 = .ok (.ireturn, 1) := by decide +kernel
theorem dX4_turns_20 : decode (mC mX4_turns) 20 = .ok (.aload_n 0, 1) := by decide +kernel
theorem dX4_turns_21 : decode (mC mX4_turns) 21 = .ok (.getfield 10, 3) := by decide +kernel
theorem dX4_turns_24 : decode (mC mX4_turns) 24 = .ok (.getfield 90, 3) := by decide +kernel
theorem dX4_turns_27 : decode (mC mX4_turns) 27 = .ok (.iload_n 1, 1) := by decide +kernel
theorem dX4_turns_28 : decode (mC mX4_turns) 28 = .ok (.invokevirtual 139, 3) := by decide +kernel
theorem dX4_turns_31 : decode (mC mX4_turns) 31 = .ok (.ireturn, 1) := by decide +kernel
theorem dX4_stands_0 : decode (mC mX4_stands) 0 = .ok (.aload_n 0, 1) := by decide +kernel
theorem dX4_stands_1 : decode (mC mX4_stands) 1 = .ok (.getfield 10, 3) := by decide +kernel
theorem dX4_stands_4 : decode (mC mX4_stands) 4 = .ok (.iload_n 1, 1) := by decide +kernel
theorem dX4_stands_5 : decode (mC mX4_stands) 5 = .ok (.invokevirtual 119, 3) := by decide +kernel
theorem dX4_stands_8 : decode (mC mX4_stands) 8 = .ok (.ifCond .eq 10, 3) := by decide +kernel
theorem dX4_stands_11 : decode (mC mX4_stands) 11 = .ok (.iload_n 2, 1) := by decide +kernel
theorem dX4_stands_12 : decode (mC mX4_stands) 12 = .ok (.invokestatic 142, 3) := by decide +kernel
theorem dX4_stands_15 : decode (mC mX4_stands) 15 = .ok (.ifCond .ne 9, 3) := by decide +kernel
theorem dX4_stands_18 : decode (mC mX4_stands) 18 = .ok (.aload_n 0, 1) := by decide +kernel
theorem dX4_stands_19 : decode (mC mX4_stands) 19 = .ok (.iconst (-1), 1) := by decide +kernel
theorem dX4_stands_20 : decode (mC mX4_stands) 20 = .ok (.invokevirtual 45, 3) := by decide +kernel
theorem dX4_stands_23 : decode (mC mX4_stands) 23 = .ok (.ireturn, 1) := by decide +kernel
theorem dX4_stands_24 : decode (mC mX4_stands) 24 = .ok (.aload_n 0, 1) := by decide +kernel
theorem dX4_stands_25 : decode (mC mX4_stands) 25 = .ok (.getfield 10, 3) := by decide +kernel
theorem dX4_stands_28 : decode (mC mX4_stands) 28 = .ok (.getfield 120, 3) := by decide +kernel
theorem dX4_stands_31 : decode (mC mX4_stands) 31 = .ok (.iload_n 1, 1) := by decide +kernel
theorem dX4_stands_32 : decode (mC mX4_stands) 32 = .ok (.iload_n 2, 1) := by decide +kernel
theorem dX4_stands_33 : decode (mC mX4_stands) 33 = .ok (.invokestatic 145, 3) := by decide +kernel
theorem dX4_stands_36 : decode (mC mX4_stands) 36 = .ok (.ireturn, 1) := by decide +kernel
theorem dX4_wants_0 : decode (mC mX4_wants) 0 = .ok (.aload_n 0, 1) := by decide +kernel
theorem dX4_wants_1 : decode (mC mX4_wants) 1 = .ok (.getfield 10, 3) := by decide +kernel
theorem dX4_wants_4 : decode (mC mX4_wants) 4 = .ok (.iload_n 1, 1) := by decide +kernel
theorem dX4_wants_5 : decode (mC mX4_wants) 5 = .ok (.invokevirtual 119, 3) := by decide +kernel
theorem dX4_wants_8 : decode (mC mX4_wants) 8 = .ok (.ifCond .eq 10, 3) := by decide +kernel
theorem dX4_wants_11 : decode (mC mX4_wants) 11 = .ok (.iload_n 2, 1) := by decide +kernel
theorem dX4_wants_12 : decode (mC mX4_wants) 12 = .ok (.invokestatic 142, 3) := by decide +kernel
theorem dX4_wants_15 : decode (mC mX4_wants) 15 = .ok (.ifCond .ne 9, 3) := by decide +kernel
theorem dX4_wants_18 : decode (mC mX4_wants) 18 = .ok (.aload_n 0, 1) := by decide +kernel
theorem dX4_wants_19 : decode (mC mX4_wants) 19 = .ok (.iconst (-1), 1) := by decide +kernel
theorem dX4_wants_20 : decode (mC mX4_wants) 20 = .ok (.invokevirtual 45, 3) := by decide +kernel
theorem dX4_wants_23 : decode (mC mX4_wants) 23 = .ok (.ireturn, 1) := by decide +kernel
theorem dX4_wants_24 : decode (mC mX4_wants) 24 = .ok (.aload_n 0, 1) := by decide +kernel
theorem dX4_wants_25 : decode (mC mX4_wants) 25 = .ok (.getfield 10, 3) := by decide +kernel
theorem dX4_wants_28 : decode (mC mX4_wants) 28 = .ok (.getfield 123, 3) := by decide +kernel
theorem dX4_wants_31 : decode (mC mX4_wants) 31 = .ok (.iload_n 1, 1) := by decide +kernel
theorem dX4_wants_32 : decode (mC mX4_wants) 32 = .ok (.iload_n 2, 1) := by decide +kernel
theorem dX4_wants_33 : decode (mC mX4_wants) 33 = .ok (.invokestatic 145, 3) := by decide +kernel
theorem dX4_wants_36 : decode (mC mX4_wants) 36 = .ok (.ireturn, 1) := by decide +kernel
theorem dX4_moods_0 : decode (mC mX4_moods) 0 = .ok (.aload_n 0, 1) := by decide +kernel
theorem dX4_moods_1 : decode (mC mX4_moods) 1 = .ok (.getfield 10, 3) := by decide +kernel
theorem dX4_moods_4 : decode (mC mX4_moods) 4 = .ok (.iload_n 1, 1) := by decide +kernel
theorem dX4_moods_5 : decode (mC mX4_moods) 5 = .ok (.invokevirtual 119, 3) := by decide +kernel
theorem dX4_moods_8 : decode (mC mX4_moods) 8 = .ok (.ifCond .ne 9, 3) := by decide +kernel
theorem dX4_moods_11 : decode (mC mX4_moods) 11 = .ok (.aload_n 0, 1) := by decide +kernel
theorem dX4_moods_12 : decode (mC mX4_moods) 12 = .ok (.iconst (-1), 1) := by decide +kernel
theorem dX4_moods_13 : decode (mC mX4_moods) 13 = .ok (.invokevirtual 45, 3) := by decide +kernel
theorem dX4_moods_16 : decode (mC mX4_moods) 16 = .ok (.ireturn, 1) := by decide +kernel
theorem dX4_moods_17 : decode (mC mX4_moods) 17 = .ok (.iload_n 2, 1) := by decide +kernel
theorem dX4_moods_18 : decode (mC mX4_moods) 18 = .ok (.ifCond .lt 9, 3) := by decide +kernel
theorem dX4_moods_21 : decode (mC mX4_moods) 21 = .ok (.iload_n 2, 1) := by decide +kernel
theorem dX4_moods_22 : decode (mC mX4_moods) 22 = .ok (.bipush 9, 2) := by decide +kernel
theorem dX4_moods_24 : decode (mC mX4_moods) 24 = .ok (.if_icmp .le 9, 3) := by decide +kernel
theorem dX4_moods_27 : decode (mC mX4_moods) 27 = .ok (.aload_n 0, 1) := by decide +kernel
theorem dX4_moods_28 : decode (mC mX4_moods) 28 = .ok (.iload_n 2, 1) := by decide +kernel
theorem dX4_moods_29 : decode (mC mX4_moods) 29 = .ok (.invokevirtual 149, 3) := by decide +kernel
theorem dX4_moods_32 : decode (mC mX4_moods) 32 = .ok (.ireturn, 1) := by decide +kernel
theorem dX4_moods_33 : decode (mC mX4_moods) 33 = .ok (.aload_n 0, 1) := by decide +kernel
theorem dX4_moods_34 : decode (mC mX4_moods) 34 = .ok (.getfield 10, 3) := by decide +kernel
theorem dX4_moods_37 : decode (mC mX4_moods) 37 = .ok (.getfield 126, 3) := by decide +kernel
theorem dX4_moods_40 : decode (mC mX4_moods) 40 = .ok (.iload_n 1, 1) := by decide +kernel
theorem dX4_moods_41 : decode (mC mX4_moods) 41 = .ok (.iload_n 2, 1) := by decide +kernel
theorem dX4_moods_42 : decode (mC mX4_moods) 42 = .ok (.invokestatic 145, 3) := by decide +kernel
theorem dX4_moods_45 : decode (mC mX4_moods) 45 = .ok (.ireturn, 1) := by decide +kernel
theorem dX4_changes_0 : decode (mC mX4_changes) 0 = .ok (.aload_n 0, 1) := by decide +kernel
theorem dX4_changes_1 : decode (mC mX4_changes) 1 = .ok (.getfield 10, 3) := by decide +kernel
theorem dX4_changes_4 : decode (mC mX4_changes) 4 = .ok (.getfield 90, 3) := by decide +kernel
theorem dX4_changes_7 : decode (mC mX4_changes) 7 = .ok (.iload_n 1, 1) := by decide +kernel
theorem dX4_changes_8 : decode (mC mX4_changes) 8 = .ok (.invokevirtual 94, 3) := by decide +kernel
theorem dX4_changes_11 : decode (mC mX4_changes) 11 = .ok (.ifCond .ne 9, 3) := by decide +kernel
theorem dX4_changes_14 : decode (mC mX4_changes) 14 = .ok (.aload_n 0, 1) := by decide +kernel
theorem dX4_changes_15 : decode (mC mX4_changes) 15 = .ok (.iconst (-1), 1) := by decide +kernel
theorem dX4_changes_16 : decode (mC mX4_changes) 16 = .ok (.invokevirtual 45, 3) := by decide +kernel
theorem dX4_changes_19 : decode (mC mX4_changes) 19 = .ok (.ireturn, 1) := by decide +kernel
theorem dX4_changes_20 : decode (mC mX4_changes) 20 = .ok (.iload_n 2, 1) := by decide +kernel
theorem dX4_changes_21 : decode (mC mX4_changes) 21 = .ok (.ifCond .lt 9, 3) := by decide +kernel
theorem dX4_changes_24 : decode (mC mX4_changes) 24 = .ok (.iload_n 2, 1) := by decide +kernel
theorem dX4_changes_25 : decode (mC mX4_changes) 25 = .ok (.bipush 6, 2) := by decide +kernel
theorem dX4_changes_27 : decode (mC mX4_changes) 27 = .ok (.if_icmp .lt 10, 3) := by decide +kernel
theorem dX4_changes_30 : decode (mC mX4_changes) 30 = .ok (.aload_n 0, 1) := by decide +kernel
theorem dX4_changes_31 : decode (mC mX4_changes) 31 = .ok (.bipush (-2), 2) := by decide +kernel
theorem dX4_changes_33 : decode (mC mX4_changes) 33 = .ok (.invokevirtual 45, 3) := by decide +kernel
theorem dX4_changes_36 : decode (mC mX4_changes) 36 = .ok (.ireturn, 1) := by decide +kernel
theorem dX4_changes_37 : decode (mC mX4_changes) 37 = .ok (.iload_n 3, 1) := by decide +kernel
theorem dX4_changes_38 : decode (mC mX4_changes) 38 = .ok (.ifCond .lt 9, 3) := by decide +kernel
theorem dX4_changes_41 : decode (mC mX4_changes) 41 = .ok (.iload_n 3, 1) := by decide +kernel
theorem dX4_changes_42 : decode (mC mX4_changes) 42 = .ok (.bipush 9, 2) := by decide +kernel
theorem dX4_changes_44 : decode (mC mX4_changes) 44 = .ok (.if_icmp .le 9, 3) := by decide +kernel
theorem dX4_changes_47 : decode (mC mX4_changes) 47 = .ok (.aload_n 0, 1) := by decide +kernel
theorem dX4_changes_48 : decode (mC mX4_changes) 48 = .ok (.iload_n 3, 1) := by decide +kernel
theorem dX4_changes_49 : decode (mC mX4_changes) 49 = .ok (.invokevirtual 149, 3) := by decide +kernel
theorem dX4_changes_52 : decode (mC mX4_changes) 52 = .ok (.ireturn, 1) := by decide +kernel
theorem dX4_changes_53 : decode (mC mX4_changes) 53 = .ok (.bipush 10, 2) := by decide +kernel
theorem dX4_changes_55 : decode (mC mX4_changes) 55 = .ok (.aload_n 0, 1) := by decide +kernel
theorem dX4_changes_56 : decode (mC mX4_changes) 56 = .ok (.getfield 10, 3) := by decide +kernel
theorem dX4_changes_59 : decode (mC mX4_changes) 59 = .ok (.getfield 90, 3) := by decide +kernel
theorem dX4_changes_62 : decode (mC mX4_changes) 62 = .ok (.getfield 100, 3) := by decide +kernel
theorem dX4_changes_65 : decode (mC mX4_changes) 65 = .ok (.iload_n 1, 1) := by decide +kernel
theorem dX4_changes_66 : decode (mC mX4_changes) 66 = .ok (.iload_n 2, 1) := by decide +kernel
theorem dX4_changes_67 : decode (mC mX4_changes) 67 = .ok (.invokestatic 145, 3) := by decide +kernel
theorem dX4_changes_70 : decode (mC mX4_changes) 70 = .ok (.imul, 1) := by decide +kernel
theorem dX4_changes_71 : decode (mC mX4_changes) 71 = .ok (.aload_n 0, 1) := by decide +kernel
theorem dX4_changes_72 : decode (mC mX4_changes) 72 = .ok (.getfield 10, 3) := by decide +kernel
theorem dX4_changes_75 : decode (mC mX4_changes) 75 = .ok (.getfield 90, 3) := by decide +kernel
theorem dX4_changes_78 : decode (mC mX4_changes) 78 = .ok (.getfield 107, 3) := by decide +kernel
theorem dX4_changes_81 : decode (mC mX4_changes) 81 = .ok (.iload_n 1, 1) := by decide +kernel
theorem dX4_changes_82 : decode (mC mX4_changes) 82 = .ok (.iload_n 3, 1) := by decide +kernel
theorem dX4_changes_83 : decode (mC mX4_changes) 83 = .ok (.invokestatic 145, 3) := by decide +kernel
theorem dX4_changes_86 : decode (mC mX4_changes) 86 = .ok (.iadd, 1) := by decide +kernel
theorem dX4_changes_87 : decode (mC mX4_changes) 87 = .ok (.ireturn, 1) := by decide +kernel
theorem dX4_hours_0 : decode (mC mX4_hours) 0 = .ok (.iload_n 1, 1) := by decide +kernel
theorem dX4_hours_1 : decode (mC mX4_hours) 1 = .ok (.iconst 1, 1) := by decide +kernel
theorem dX4_hours_2 : decode (mC mX4_hours) 2 = .ok (.if_icmp .ge 10, 3) := by decide +kernel
theorem dX4_hours_5 : decode (mC mX4_hours) 5 = .ok (.aload_n 0, 1) := by decide +kernel
theorem dX4_hours_6 : decode (mC mX4_hours) 6 = .ok (.bipush (-4), 2) := by decide +kernel
theorem dX4_hours_8 : decode (mC mX4_hours) 8 = .ok (.invokevirtual 45, 3) := by decide +kernel
theorem dX4_hours_11 : decode (mC mX4_hours) 11 = .ok (.ireturn, 1) := by decide +kernel
theorem dX4_hours_12 : decode (mC mX4_hours) 12 = .ok (.iload_n 1, 1) := by decide +kernel
theorem dX4_hours_13 : decode (mC mX4_hours) 13 = .ok (.bipush 60, 2) := by decide +kernel
theorem dX4_hours_15 : decode (mC mX4_hours) 15 = .ok (.if_icmp .gt 18, 3) := by decide +kernel
theorem dX4_hours_18 : decode (mC mX4_hours) 18 = .ok (.aload_n 0, 1) := by decide +kernel
theorem dX4_hours_19 : decode (mC mX4_hours) 19 = .ok (.getfield 10, 3) := by decide +kernel
theorem dX4_hours_22 : decode (mC mX4_hours) 22 = .ok (.getfield 129, 3) := by decide +kernel
theorem dX4_hours_25 : decode (mC mX4_hours) 25 = .ok (.iload_n 1, 1) := by decide +kernel
theorem dX4_hours_26 : decode (mC mX4_hours) 26 = .ok (.iadd, 1) := by decide +kernel
theorem dX4_hours_27 : decode (mC mX4_hours) 27 = .ok (.sipush 999, 3) := by decide +kernel
theorem dX4_hours_30 : decode (mC mX4_hours) 30 = .ok (.if_icmp .le 10, 3) := by decide +kernel
theorem dX4_hours_33 : decode (mC mX4_hours) 33 = .ok (.aload_n 0, 1) := by decide +kernel
theorem dX4_hours_34 : decode (mC mX4_hours) 34 = .ok (.bipush (-6), 2) := by decide +kernel
theorem dX4_hours_36 : decode (mC mX4_hours) 36 = .ok (.invokevirtual 45, 3) := by decide +kernel
theorem dX4_hours_39 : decode (mC mX4_hours) 39 = .ok (.ireturn, 1) := by decide +kernel
theorem dX4_hours_40 : decode (mC mX4_hours) 40 = .ok (.aload_n 0, 1) := by decide +kernel
theorem dX4_hours_41 : decode (mC mX4_hours) 41 = .ok (.getfield 10, 3) := by decide +kernel
theorem dX4_hours_44 : decode (mC mX4_hours) 44 = .ok (.iload_n 1, 1) := by decide +kernel
theorem dX4_hours_45 : decode (mC mX4_hours) 45 = .ok (.iconst 0, 1) := by decide +kernel
theorem dX4_hours_46 : decode (mC mX4_hours) 46 = .ok (.invokevirtual 152, 3) := by decide +kernel
theorem dX4_hours_49 : decode (mC mX4_hours) 49 = .ok (.pop, 1) := by decide +kernel
theorem dX4_hours_50 : decode (mC mX4_hours) 50 = .ok (.aload_n 0, 1) := by decide +kernel
theorem dX4_hours_51 : decode (mC mX4_hours) 51 = .ok (.getfield 10, 3) := by decide +kernel
theorem dX4_hours_54 : decode (mC mX4_hours) 54 = .ok (.invokevirtual 156, 3) := by decide +kernel
theorem dX4_hours_57 : decode (mC mX4_hours) 57 = .ok (.ireturn, 1) := by decide +kernel
theorem dX4_personThen_0 : decode (mC mX4_personThen) 0 = .ok (.aload_n 0, 1) := by decide +kernel
theorem dX4_personThen_1 : decode (mC mX4_personThen) 1 = .ok (.getfield 10, 3) := by decide +kernel
theorem dX4_personThen_4 : decode (mC mX4_personThen) 4 = .ok (.iload_n 1, 1) := by decide +kernel
theorem dX4_personThen_5 : decode (mC mX4_personThen) 5 = .ok (.invokevirtual 119, 3) := by decide +kernel
theorem dX4_personThen_8 : decode (mC mX4_personThen) 8 = .ok (.ifCond .ne 9, 3) := by decide +kernel
theorem dX4_personThen_11 : decode (mC mX4_personThen) 11 = .ok (.aload_n 0, 1) := by decide +kernel
theorem dX4_personThen_12 : decode (mC mX4_personThen) 12 = .ok (.iconst (-1), 1) := by decide +kernel
theorem dX4_personThen_13 : decode (mC mX4_personThen) 13 = .ok (.invokevirtual 45, 3) := by decide +kernel
theorem dX4_personThen_16 : decode (mC mX4_personThen) 16 = .ok (.ireturn, 1) := by decide +kernel
theorem dX4_personThen_17 : decode (mC mX4_personThen) 17 = .ok (.iload_n 2, 1) := by decide +kernel
theorem dX4_personThen_18 : decode (mC mX4_personThen) 18 = .ok (.ifCond .lt 9, 3) := by decide +kernel
theorem dX4_personThen_21 : decode (mC mX4_personThen) 21 = .ok (.iload_n 2, 1) := by decide +kernel
theorem dX4_personThen_22 : decode (mC mX4_personThen) 22 = .ok (.bipush 60, 2) := by decide +kernel
theorem dX4_personThen_24 : decode (mC mX4_personThen) 24 = .ok (.if_icmp .le 9, 3) := by decide +kernel
theorem dX4_personThen_27 : decode (mC mX4_personThen) 27 = .ok (.aload_n 0, 1) := by decide +kernel
theorem dX4_personThen_28 : decode (mC mX4_personThen) 28 = .ok (.iload_n 2, 1) := by decide +kernel
theorem dX4_personThen_29 : decode (mC mX4_personThen) 29 = .ok (.invokevirtual 149, 3) := by decide +kernel
theorem dX4_personThen_32 : decode (mC mX4_personThen) 32 = .ok (.ireturn, 1) := by decide +kernel
theorem dX4_personThen_33 : decode (mC mX4_personThen) 33 = .ok (.iload_n 3, 1) := by decide +kernel
theorem dX4_personThen_34 : decode (mC mX4_personThen) 34 = .ok (.invokestatic 159, 3) := by decide +kernel
theorem dX4_personThen_37 : decode (mC mX4_personThen) 37 = .ok (.ifCond .ne 10, 3) := by decide +kernel
theorem dX4_personThen_40 : decode (mC mX4_personThen) 40 = .ok (.aload_n 0, 1) := by decide +kernel
theorem dX4_personThen_41 : decode (mC mX4_personThen) 41 = .ok (.bipush (-2), 2) := by decide +kernel
theorem dX4_personThen_43 : decode (mC mX4_personThen) 43 = .ok (.invokevirtual 45, 3) := by decide +kernel
theorem dX4_personThen_46 : decode (mC mX4_personThen) 46 = .ok (.ireturn, 1) := by decide +kernel
theorem dX4_personThen_47 : decode (mC mX4_personThen) 47 = .ok (.aload_n 0, 1) := by decide +kernel
theorem dX4_personThen_48 : decode (mC mX4_personThen) 48 = .ok (.getfield 16, 3) := by decide +kernel
theorem dX4_personThen_51 : decode (mC mX4_personThen) 51 = .ok (.aload_n 0, 1) := by decide +kernel
theorem dX4_personThen_52 : decode (mC mX4_personThen) 52 = .ok (.getfield 10, 3) := by decide +kernel
theorem dX4_personThen_55 : decode (mC mX4_personThen) 55 = .ok (.invokevirtual 69, 3) := by decide +kernel
theorem dX4_personThen_58 : decode (mC mX4_personThen) 58 = .ok (.aload_n 0, 1) := by decide +kernel
theorem dX4_personThen_59 : decode (mC mX4_personThen) 59 = .ok (.getfield 16, 3) := by decide +kernel
theorem dX4_personThen_62 : decode (mC mX4_personThen) 62 = .ok (.iload_n 2, 1) := by decide +kernel
theorem dX4_personThen_63 : decode (mC mX4_personThen) 63 = .ok (.iconst 0, 1) := by decide +kernel
theorem dX4_personThen_64 : decode (mC mX4_personThen) 64 = .ok (.invokevirtual 152, 3) := by decide +kernel
theorem dX4_personThen_67 : decode (mC mX4_personThen) 67 = .ok (.pop, 1) := by decide +kernel
theorem dX4_personThen_68 : decode (mC mX4_personThen) 68 = .ok (.iload_n 3, 1) := by decide +kernel
theorem dX4_personThen_69 : decode (mC mX4_personThen) 69 = .ok (.ifCond .ne 13, 3) := by decide +kernel
theorem dX4_personThen_72 : decode (mC mX4_personThen) 72 = .ok (.aload_n 0, 1) := by decide +kernel
theorem dX4_personThen_73 : decode (mC mX4_personThen) 73 = .ok (.getfield 16, 3) := by decide +kernel
theorem dX4_personThen_76 : decode (mC mX4_personThen) 76 = .ok (.getfield 120, 3) := by decide +kernel
theorem dX4_personThen_79 : decode (mC mX4_personThen) 79 = .ok (.goto 10, 3) := by decide +kernel
theorem dX4_personThen_82 : decode (mC mX4_personThen) 82 = .ok (.aload_n 0, 1) := by decide +kernel
theorem dX4_personThen_83 : decode (mC mX4_personThen) 83 = .ok (.getfield 16, 3) := by decide +kernel
theorem dX4_personThen_86 : decode (mC mX4_personThen) 86 = .ok (.getfield 126, 3) := by decide +kernel
theorem dX4_personThen_89 : decode (mC mX4_personThen) 89 = .ok (.iload_n 1, 1) := by decide +kernel
theorem dX4_personThen_90 : decode (mC mX4_personThen) 90 = .ok (.invokestatic 103, 3) := by decide +kernel
theorem dX4_personThen_93 : decode (mC mX4_personThen) 93 = .ok (.ireturn, 1) := by decide +kernel
theorem dX4_letThen_0 : decode (mC mX4_letThen) 0 = .ok (.iload_n 1, 1) := by decide +kernel
theorem dX4_letThen_1 : decode (mC mX4_letThen) 1 = .ok (.ifCond .lt 9, 3) := by decide +kernel
theorem dX4_letThen_4 : decode (mC mX4_letThen) 4 = .ok (.iload_n 1, 1) := by decide +kernel
theorem dX4_letThen_5 : decode (mC mX4_letThen) 5 = .ok (.bipush 60, 2) := by decide +kernel
theorem dX4_letThen_7 : decode (mC mX4_letThen) 7 = .ok (.if_icmp .le 9, 3) := by decide +kernel
theorem dX4_letThen_10 : decode (mC mX4_letThen) 10 = .ok (.aload_n 0, 1) := by decide +kernel
theorem dX4_letThen_11 : decode (mC mX4_letThen) 11 = .ok (.iload_n 1, 1) := by decide +kernel
theorem dX4_letThen_12 : decode (mC mX4_letThen) 12 = .ok (.invokevirtual 149, 3) := by decide +kernel
theorem dX4_letThen_15 : decode (mC mX4_letThen) 15 = .ok (.ireturn, 1) := by decide +kernel
theorem dX4_letThen_16 : decode (mC mX4_letThen) 16 = .ok (.aload_n 0, 1) := by decide +kernel
theorem dX4_letThen_17 : decode (mC mX4_letThen) 17 = .ok (.getfield 16, 3) := by decide +kernel
theorem dX4_letThen_20 : decode (mC mX4_letThen) 20 = .ok (.aload_n 0, 1) := by decide +kernel
theorem dX4_letThen_21 : decode (mC mX4_letThen) 21 = .ok (.getfield 10, 3) := by decide +kernel
theorem dX4_letThen_24 : decode (mC mX4_letThen) 24 = .ok (.invokevirtual 69, 3) := by decide +kernel
theorem dX4_letThen_27 : decode (mC mX4_letThen) 27 = .ok (.aload_n 0, 1) := by decide +kernel
theorem dX4_letThen_28 : decode (mC mX4_letThen) 28 = .ok (.getfield 16, 3) := by decide +kernel
theorem dX4_letThen_31 : decode (mC mX4_letThen) 31 = .ok (.iload_n 1, 1) := by decide +kernel
theorem dX4_letThen_32 : decode (mC mX4_letThen) 32 = .ok (.iconst 0, 1) := by decide +kernel
theorem dX4_letThen_33 : decode (mC mX4_letThen) 33 = .ok (.invokevirtual 152, 3) := by decide +kernel
theorem dX4_letThen_36 : decode (mC mX4_letThen) 36 = .ok (.pop, 1) := by decide +kernel
theorem dX4_letThen_37 : decode (mC mX4_letThen) 37 = .ok (.aload_n 0, 1) := by decide +kernel
theorem dX4_letThen_38 : decode (mC mX4_letThen) 38 = .ok (.getfield 16, 3) := by decide +kernel
theorem dX4_letThen_41 : decode (mC mX4_letThen) 41 = .ok (.getfield 162, 3) := by decide +kernel
theorem dX4_letThen_44 : decode (mC mX4_letThen) 44 = .ok (.ireturn, 1) := by decide +kernel
theorem dX4_comes_0 : decode (mC mX4_comes) 0 = .ok (.aload_n 0, 1) := by decide +kernel
theorem dX4_comes_1 : decode (mC mX4_comes) 1 = .ok (.getfield 10, 3) := by decide +kernel
theorem dX4_comes_4 : decode (mC mX4_comes) 4 = .ok (.iload_n 1, 1) := by decide +kernel
theorem dX4_comes_5 : decode (mC mX4_comes) 5 = .ok (.invokevirtual 119, 3) := by decide +kernel
theorem dX4_comes_8 : decode (mC mX4_comes) 8 = .ok (.ifCond .eq 10, 3) := by decide +kernel
theorem dX4_comes_11 : decode (mC mX4_comes) 11 = .ok (.iload_n 2, 1) := by decide +kernel
theorem dX4_comes_12 : decode (mC mX4_comes) 12 = .ok (.invokestatic 142, 3) := by decide +kernel
theorem dX4_comes_15 : decode (mC mX4_comes) 15 = .ok (.ifCond .ne 9, 3) := by decide +kernel
theorem dX4_comes_18 : decode (mC mX4_comes) 18 = .ok (.aload_n 0, 1) := by decide +kernel
theorem dX4_comes_19 : decode (mC mX4_comes) 19 = .ok (.iconst (-1), 1) := by decide +kernel
theorem dX4_comes_20 : decode (mC mX4_comes) 20 = .ok (.invokevirtual 45, 3) := by decide +kernel
theorem dX4_comes_23 : decode (mC mX4_comes) 23 = .ok (.ireturn, 1) := by decide +kernel
theorem dX4_comes_24 : decode (mC mX4_comes) 24 = .ok (.aload_n 0, 1) := by decide +kernel
theorem dX4_comes_25 : decode (mC mX4_comes) 25 = .ok (.iload_n 1, 1) := by decide +kernel
theorem dX4_comes_26 : decode (mC mX4_comes) 26 = .ok (.iload_n 2, 1) := by decide +kernel
theorem dX4_comes_27 : decode (mC mX4_comes) 27 = .ok (.invokevirtual 165, 3) := by decide +kernel
theorem dX4_comes_30 : decode (mC mX4_comes) 30 = .ok (.ireturn, 1) := by decide +kernel
theorem dX4_home_0 : decode (mC mX4_home) 0 = .ok (.iload_n 1, 1) := by decide +kernel
theorem dX4_home_1 : decode (mC mX4_home) 1 = .ok (.iconst (-1), 1) := by decide +kernel
theorem dX4_home_2 : decode (mC mX4_home) 2 = .ok (.if_icmp .ne 8, 3) := by decide +kernel
theorem dX4_home_5 : decode (mC mX4_home) 5 = .ok (.aload_n 0, 1) := by decide +kernel
theorem dX4_home_6 : decode (mC mX4_home) 6 = .ok (.invokevirtual 168, 3) := by decide +kernel
theorem dX4_home_9 : decode (mC mX4_home) 9 = .ok (.ireturn, 1) := by decide +kernel
theorem dX4_home_10 : decode (mC mX4_home) 10 = .ok (.aload_n 0, 1) := by decide +kernel
theorem dX4_home_11 : decode (mC mX4_home) 11 = .ok (.getfield 10, 3) := by decide +kernel
theorem dX4_home_14 : decode (mC mX4_home) 14 = .ok (.iload_n 1, 1) := by decide +kernel
theorem dX4_home_15 : decode (mC mX4_home) 15 = .ok (.invokevirtual 119, 3) := by decide +kernel
theorem dX4_home_18 : decode (mC mX4_home) 18 = .ok (.ifCond .ne 9, 3) := by decide +kernel
theorem dX4_home_21 : decode (mC mX4_home) 21 = .ok (.aload_n 0, 1) := by decide +kernel
theorem dX4_home_22 : decode (mC mX4_home) 22 = .ok (.iconst (-1), 1) := by decide +kernel
theorem dX4_home_23 : decode (mC mX4_home) 23 = .ok (.invokevirtual 45, 3) := by decide +kernel
theorem dX4_home_26 : decode (mC mX4_home) 26 = .ok (.ireturn, 1) := by decide +kernel
theorem dX4_home_27 : decode (mC mX4_home) 27 = .ok (.aload_n 0, 1) := by decide +kernel
theorem dX4_home_28 : decode (mC mX4_home) 28 = .ok (.iload_n 1, 1) := by decide +kernel
theorem dX4_home_29 : decode (mC mX4_home) 29 = .ok (.aload_n 0, 1) := by decide +kernel
theorem dX4_home_30 : decode (mC mX4_home) 30 = .ok (.getfield 10, 3) := by decide +kernel
theorem dX4_home_33 : decode (mC mX4_home) 33 = .ok (.getfield 123, 3) := by decide +kernel
theorem dX4_home_36 : decode (mC mX4_home) 36 = .ok (.iload_n 1, 1) := by decide +kernel
theorem dX4_home_37 : decode (mC mX4_home) 37 = .ok (.invokestatic 103, 3) := by decide +kernel
theorem dX4_home_40 : decode (mC mX4_home) 40 = .ok (.invokevirtual 165, 3) := by decide +kernel
theorem dX4_home_43 : decode (mC mX4_home) 43 = .ok (.ireturn, 1) := by decide +kernel
theorem dX4_firstHourIn_0 : decode (mC mX4_firstHourIn) 0 = .ok (.aload_n 0, 1) := by decide +kernel
theorem dX4_firstHourIn_1 : decode (mC mX4_firstHourIn) 1 = .ok (.getfield 16, 3) := by decide +kernel
theorem dX4_firstHourIn_4 : decode (mC mX4_firstHourIn) 4 = .ok (.aload_n 0, 1) := by decide +kernel
theorem dX4_firstHourIn_5 : decode (mC mX4_firstHourIn) 5 = .ok (.getfield 10, 3) := by decide +kernel
theorem dX4_firstHourIn_8 : decode (mC mX4_firstHourIn) 8 = .ok (.invokevirtual 69, 3) := by decide +kernel
theorem dX4_firstHourIn_11 : decode (mC mX4_firstHourIn) 11 = .ok (.iconst 0, 1) := by decide +kernel
theorem dX4_firstHourIn_12 : decode (mC mX4_firstHourIn) 12 = .ok (.istore_n 3, 1) := by decide +kernel
theorem dX4_firstHourIn_13 : decode (mC mX4_firstHourIn) 13 = .ok (.iload_n 3, 1) := by decide +kernel
theorem dX4_firstHourIn_14 : decode (mC mX4_firstHourIn) 14 = .ok (.bipush 60, 2) := by decide +kernel
theorem dX4_firstHourIn_16 : decode (mC mX4_firstHourIn) 16 = .ok (.if_icmp .gt 36, 3) := by decide +kernel
theorem dX4_firstHourIn_19 : decode (mC mX4_firstHourIn) 19 = .ok (.aload_n 0, 1) := by decide +kernel
theorem dX4_firstHourIn_20 : decode (mC mX4_firstHourIn) 20 = .ok (.getfield 16, 3) := by decide +kernel
theorem dX4_firstHourIn_23 : decode (mC mX4_firstHourIn) 23 = .ok (.getfield 120, 3) := by decide +kernel
theorem dX4_firstHourIn_26 : decode (mC mX4_firstHourIn) 26 = .ok (.iload_n 1, 1) := by decide +kernel
theorem dX4_firstHourIn_27 : decode (mC mX4_firstHourIn) 27 = .ok (.invokestatic 103, 3) := by decide +kernel
theorem dX4_firstHourIn_30 : decode (mC mX4_firstHourIn) 30 = .ok (.iload_n 2, 1) := by decide +kernel
theorem dX4_firstHourIn_31 : decode (mC mX4_firstHourIn) 31 = .ok (.if_icmp .ne 5, 3) := by decide +kernel
theorem dX4_firstHourIn_34 : decode (mC mX4_firstHourIn) 34 = .ok (.iload_n 3, 1) := by decide +kernel
theorem dX4_firstHourIn_35 : decode (mC mX4_firstHourIn) 35 = .ok (.ireturn, 1) := by decide +kernel
theorem dX4_firstHourIn_36 : decode (mC mX4_firstHourIn) 36 = .ok (.aload_n 0, 1) := by decide +kernel
theorem dX4_firstHourIn_37 : decode (mC mX4_firstHourIn) 37 = .ok (.getfield 16, 3) := by decide +kernel
theorem dX4_firstHourIn_40 : decode (mC mX4_firstHourIn) 40 = .ok (.iconst 1, 1) := by decide +kernel
theorem dX4_firstHourIn_41 : decode (mC mX4_firstHourIn) 41 = .ok (.iconst 0, 1) := by decide +kernel
theorem dX4_firstHourIn_42 : decode (mC mX4_firstHourIn) 42 = .ok (.invokevirtual 152, 3) := by decide +kernel
theorem dX4_firstHourIn_45 : decode (mC mX4_firstHourIn) 45 = .ok (.pop, 1) := by decide +kernel
theorem dX4_firstHourIn_46 : decode (mC mX4_firstHourIn) 46 = .ok (.iinc 3 1, 3) := by decide +kernel
theorem dX4_firstHourIn_49 : decode (mC mX4_firstHourIn) 49 = .ok (.goto (-36), 3) := by decide +kernel
theorem dX4_firstHourIn_52 : decode (mC mX4_firstHourIn) 52 = .ok (.bipush (-9), 2) := by decide +kernel
theorem dX4_firstHourIn_54 : decode (mC mX4_firstHourIn) 54 = .ok (.ireturn, 1) := by decide +kernel
theorem dX4_firstHourAllHome_0 : decode (mC mX4_firstHourAllHome) 0 = .ok (.aload_n 0, 1) := by decide +kernel
theorem dX4_firstHourAllHome_1 : decode (mC mX4_firstHourAllHome) 1 = .ok (.getfield 16, 3) := by decide +kernel
theorem dX4_firstHourAllHome_4 : decode (mC mX4_firstHourAllHome) 4 = .ok (.aload_n 0, 1) := by decide +kernel
theorem dX4_firstHourAllHome_5 : decode (mC mX4_firstHourAllHome) 5 = .ok (.getfield 10, 3) := by decide +kernel
theorem dX4_firstHourAllHome_8 : decode (mC mX4_firstHourAllHome) 8 = .ok (.invokevirtual 69, 3) := by decide +kernel
theorem dX4_firstHourAllHome_11 : decode (mC mX4_firstHourAllHome) 11 = .ok (.iconst 0, 1) := by decide +kernel
theorem dX4_firstHourAllHome_12 : decode (mC mX4_firstHourAllHome) 12 = .ok (.istore_n 1, 1) := by decide +kernel
theorem dX4_firstHourAllHome_13 : decode (mC mX4_firstHourAllHome) 13 = .ok (.iload_n 1, 1) := by decide +kernel
theorem dX4_firstHourAllHome_14 : decode (mC mX4_firstHourAllHome) 14 = .ok (.bipush 60, 2) := by decide +kernel
theorem dX4_firstHourAllHome_16 : decode (mC mX4_firstHourAllHome) 16 = .ok (.if_icmp .gt 38, 3) := by decide +kernel
theorem dX4_firstHourAllHome_19 : decode (mC mX4_firstHourAllHome) 19 = .ok (.aload_n 0, 1) := by decide +kernel
theorem dX4_firstHourAllHome_20 : decode (mC mX4_firstHourAllHome) 20 = .ok (.getfield 16, 3) := by decide +kernel
theorem dX4_firstHourAllHome_23 : decode (mC mX4_firstHourAllHome) 23 = .ok (.invokevirtual 156, 3) := by decide +kernel
theorem dX4_firstHourAllHome_26 : decode (mC mX4_firstHourAllHome) 26 = .ok (.aload_n 0, 1) := by decide +kernel
theorem dX4_firstHourAllHome_27 : decode (mC mX4_firstHourAllHome) 27 = .ok (.getfield 16, 3) := by decide +kernel
theorem dX4_firstHourAllHome_30 : decode (mC mX4_firstHourAllHome) 30 = .ok (.getfield 171, 3) := by decide +kernel
theorem dX4_firstHourAllHome_33 : decode (mC mX4_firstHourAllHome) 33 = .ok (.if_icmp .ne 5, 3) := by decide +kernel
theorem dX4_firstHourAllHome_36 : decode (mC mX4_firstHourAllHome) 36 = .ok (.iload_n 1, 1) := by decide +kernel
theorem dX4_firstHourAllHome_37 : decode (mC mX4_firstHourAllHome) 37 = .ok (.ireturn, 1) := by decide +kernel
theorem dX4_firstHourAllHome_38 : decode (mC mX4_firstHourAllHome) 38 = .ok (.aload_n 0, 1) := by decide +kernel
theorem dX4_firstHourAllHome_39 : decode (mC mX4_firstHourAllHome) 39 = .ok (.getfield 16, 3) := by decide +kernel
theorem dX4_firstHourAllHome_42 : decode (mC mX4_firstHourAllHome) 42 = .ok (.iconst 1, 1) := by decide +kernel
theorem dX4_firstHourAllHome_43 : decode (mC mX4_firstHourAllHome) 43 = .ok (.iconst 0, 1) := by decide +kernel
theorem dX4_firstHourAllHome_44 : decode (mC mX4_firstHourAllHome) 44 = .ok (.invokevirtual 152, 3) := by decide +kernel
theorem dX4_firstHourAllHome_47 : decode (mC mX4_firstHourAllHome) 47 = .ok (.pop, 1) := by decide +kernel
theorem dX4_firstHourAllHome_48 : decode (mC mX4_firstHourAllHome) 48 = .ok (.iinc 1 1, 3) := by decide +kernel
theorem dX4_firstHourAllHome_51 : decode (mC mX4_firstHourAllHome) 51 = .ok (.goto (-38), 3) := by decide +kernel
theorem dX4_firstHourAllHome_54 : decode (mC mX4_firstHourAllHome) 54 = .ok (.bipush (-9), 2) := by decide +kernel
theorem dX4_firstHourAllHome_56 : decode (mC mX4_firstHourAllHome) 56 = .ok (.ireturn, 1) := by decide +kernel
theorem dX4_shutIn_0 : decode (mC mX4_shutIn) 0 = .ok (.iconst 0, 1) := by decide +kernel
theorem dX4_shutIn_1 : decode (mC mX4_shutIn) 1 = .ok (.istore_n 1, 1) := by decide +kernel
theorem dX4_shutIn_2 : decode (mC mX4_shutIn) 2 = .ok (.iconst 0, 1) := by decide +kernel
theorem dX4_shutIn_3 : decode (mC mX4_shutIn) 3 = .ok (.istore_n 2, 1) := by decide +kernel
theorem dX4_shutIn_4 : decode (mC mX4_shutIn) 4 = .ok (.iload_n 2, 1) := by decide +kernel
theorem dX4_shutIn_5 : decode (mC mX4_shutIn) 5 = .ok (.aload_n 0, 1) := by decide +kernel
theorem dX4_shutIn_6 : decode (mC mX4_shutIn) 6 = .ok (.getfield 10, 3) := by decide +kernel
theorem dX4_shutIn_9 : decode (mC mX4_shutIn) 9 = .ok (.getfield 171, 3) := by decide +kernel
theorem dX4_shutIn_12 : decode (mC mX4_shutIn) 12 = .ok (.if_icmp .ge 53, 3) := by decide +kernel
theorem dX4_shutIn_15 : decode (mC mX4_shutIn) 15 = .ok (.aload_n 0, 1) := by decide +kernel
theorem dX4_shutIn_16 : decode (mC mX4_shutIn) 16 = .ok (.getfield 10, 3) := by decide +kernel
theorem dX4_shutIn_19 : decode (mC mX4_shutIn) 19 = .ok (.getfield 90, 3) := by decide +kernel
theorem dX4_shutIn_22 : decode (mC mX4_shutIn) 22 = .ok (.aload_n 0, 1) := by decide +kernel
theorem dX4_shutIn_23 : decode (mC mX4_shutIn) 23 = .ok (.getfield 10, 3) := by decide +kernel
theorem dX4_shutIn_26 : decode (mC mX4_shutIn) 26 = .ok (.getfield 120, 3) := by decide +kernel
theorem dX4_shutIn_29 : decode (mC mX4_shutIn) 29 = .ok (.iload_n 2, 1) := by decide +kernel
theorem dX4_shutIn_30 : decode (mC mX4_shutIn) 30 = .ok (.invokestatic 103, 3) := by decide +kernel
theorem dX4_shutIn_33 : decode (mC mX4_shutIn) 33 = .ok (.aload_n 0, 1) := by decide +kernel
theorem dX4_shutIn_34 : decode (mC mX4_shutIn) 34 = .ok (.getfield 10, 3) := by decide +kernel
theorem dX4_shutIn_37 : decode (mC mX4_shutIn) 37 = .ok (.getfield 123, 3) := by decide +kernel
theorem dX4_shutIn_40 : decode (mC mX4_shutIn) 40 = .ok (.iload_n 2, 1) := by decide +kernel
theorem dX4_shutIn_41 : decode (mC mX4_shutIn) 41 = .ok (.invokestatic 103, 3) := by decide +kernel
theorem dX4_shutIn_44 : decode (mC mX4_shutIn) 44 = .ok (.invokevirtual 172, 3) := by decide +kernel
theorem dX4_shutIn_47 : decode (mC mX4_shutIn) 47 = .ok (.sipush 1000, 3) := by decide +kernel
theorem dX4_shutIn_50 : decode (mC mX4_shutIn) 50 = .ok (.if_icmp .ne 9, 3) := by decide +kernel
theorem dX4_shutIn_53 : decode (mC mX4_shutIn) 53 = .ok (.iload_n 1, 1) := by decide +kernel
theorem dX4_shutIn_54 : decode (mC mX4_shutIn) 54 = .ok (.iconst 1, 1) := by decide +kernel
theorem dX4_shutIn_55 : decode (mC mX4_shutIn) 55 = .ok (.iload_n 2, 1) := by decide +kernel
theorem dX4_shutIn_56 : decode (mC mX4_shutIn) 56 = .ok (.ishl, 1) := by decide +kernel
theorem dX4_shutIn_57 : decode (mC mX4_shutIn) 57 = .ok (.ior, 1) := by decide +kernel
theorem dX4_shutIn_58 : decode (mC mX4_shutIn) 58 = .ok (.istore_n 1, 1) := by decide +kernel
theorem dX4_shutIn_59 : decode (mC mX4_shutIn) 59 = .ok (.iinc 2 1, 3) := by decide +kernel
theorem dX4_shutIn_62 : decode (mC mX4_shutIn) 62 = .ok (.goto (-58), 3) := by decide +kernel
theorem dX4_shutIn_65 : decode (mC mX4_shutIn) 65 = .ok (.iload_n 1, 1) := by decide +kernel
theorem dX4_shutIn_66 : decode (mC mX4_shutIn) 66 = .ok (.ireturn, 1) := by decide +kernel
theorem dX4_stuck_0 : decode (mC mX4_stuck) 0 = .ok (.aload_n 0, 1) := by decide +kernel
theorem dX4_stuck_1 : decode (mC mX4_stuck) 1 = .ok (.getfield 16, 3) := by decide +kernel
theorem dX4_stuck_4 : decode (mC mX4_stuck) 4 = .ok (.aload_n 0, 1) := by decide +kernel
theorem dX4_stuck_5 : decode (mC mX4_stuck) 5 = .ok (.getfield 10, 3) := by decide +kernel
theorem dX4_stuck_8 : decode (mC mX4_stuck) 8 = .ok (.invokevirtual 69, 3) := by decide +kernel
theorem dX4_stuck_11 : decode (mC mX4_stuck) 11 = .ok (.iconst 0, 1) := by decide +kernel
theorem dX4_stuck_12 : decode (mC mX4_stuck) 12 = .ok (.istore_n 1, 1) := by decide +kernel
theorem dX4_stuck_13 : decode (mC mX4_stuck) 13 = .ok (.iconst 1, 1) := by decide +kernel
theorem dX4_stuck_14 : decode (mC mX4_stuck) 14 = .ok (.istore_n 2, 1) := by decide +kernel
theorem dX4_stuck_15 : decode (mC mX4_stuck) 15 = .ok (.iload_n 2, 1) := by decide +kernel
theorem dX4_stuck_16 : decode (mC mX4_stuck) 16 = .ok (.bipush 72, 2) := by decide +kernel
theorem dX4_stuck_18 : decode (mC mX4_stuck) 18 = .ok (.if_icmp .gt 40, 3) := by decide +kernel
theorem dX4_stuck_21 : decode (mC mX4_stuck) 21 = .ok (.aload_n 0, 1) := by decide +kernel
theorem dX4_stuck_22 : decode (mC mX4_stuck) 22 = .ok (.getfield 16, 3) := by decide +kernel
theorem dX4_stuck_25 : decode (mC mX4_stuck) 25 = .ok (.iconst 1, 1) := by decide +kernel
theorem dX4_stuck_26 : decode (mC mX4_stuck) 26 = .ok (.iconst 0, 1) := by decide +kernel
theorem dX4_stuck_27 : decode (mC mX4_stuck) 27 = .ok (.invokevirtual 152, 3) := by decide +kernel
theorem dX4_stuck_30 : decode (mC mX4_stuck) 30 = .ok (.ifCond .ne 9, 3) := by decide +kernel
theorem dX4_stuck_33 : decode (mC mX4_stuck) 33 = .ok (.iload_n 1, 1) := by decide +kernel
theorem dX4_stuck_34 : decode (mC mX4_stuck) 34 = .ok (.iconst 1, 1) := by decide +kernel
theorem dX4_stuck_35 : decode (mC mX4_stuck) 35 = .ok (.iadd, 1) := by decide +kernel
theorem dX4_stuck_36 : decode (mC mX4_stuck) 36 = .ok (.goto 4, 3) := by decide +kernel
theorem dX4_stuck_39 : decode (mC mX4_stuck) 39 = .ok (.iconst 0, 1) := by decide +kernel
theorem dX4_stuck_40 : decode (mC mX4_stuck) 40 = .ok (.istore_n 1, 1) := by decide +kernel
theorem dX4_stuck_41 : decode (mC mX4_stuck) 41 = .ok (.iload_n 1, 1) := by decide +kernel
theorem dX4_stuck_42 : decode (mC mX4_stuck) 42 = .ok (.bipush 12, 2) := by decide +kernel
theorem dX4_stuck_44 : decode (mC mX4_stuck) 44 = .ok (.if_icmp .ne 8, 3) := by decide +kernel
theorem dX4_stuck_47 : decode (mC mX4_stuck) 47 = .ok (.iload_n 2, 1) := by decide +kernel
theorem dX4_stuck_48 : decode (mC mX4_stuck) 48 = .ok (.bipush 12, 2) := by decide +kernel
theorem dX4_stuck_50 : decode (mC mX4_stuck) 50 = .ok (.isub, 1) := by decide +kernel
theorem dX4_stuck_51 : decode (mC mX4_stuck) 51 = .ok (.ireturn, 1) := by decide +kernel
theorem dX4_stuck_52 : decode (mC mX4_stuck) 52 = .ok (.iinc 2 1, 3) := by decide +kernel
theorem dX4_stuck_55 : decode (mC mX4_stuck) 55 = .ok (.goto (-40), 3) := by decide +kernel
theorem dX4_stuck_58 : decode (mC mX4_stuck) 58 = .ok (.bipush (-9), 2) := by decide +kernel
theorem dX4_stuck_60 : decode (mC mX4_stuck) 60 = .ok (.ireturn, 1) := by decide +kernel
theorem dX4_way_0 : decode (mC mX4_way) 0 = .ok (.iload_n 1, 1) := by decide +kernel
theorem dX4_way_1 : decode (mC mX4_way) 1 = .ok (.invokestatic 142, 3) := by decide +kernel
theorem dX4_way_4 : decode (mC mX4_way) 4 = .ok (.ifCond .eq 10, 3) := by decide +kernel
theorem dX4_way_7 : decode (mC mX4_way) 7 = .ok (.iload_n 2, 1) := by decide +kernel
theorem dX4_way_8 : decode (mC mX4_way) 8 = .ok (.invokestatic 142, 3) := by decide +kernel
theorem dX4_way_11 : decode (mC mX4_way) 11 = .ok (.ifCond .ne 9, 3) := by decide +kernel
theorem dX4_way_14 : decode (mC mX4_way) 14 = .ok (.aload_n 0, 1) := by decide +kernel
theorem dX4_way_15 : decode (mC mX4_way) 15 = .ok (.iconst (-1), 1) := by decide +kernel
theorem dX4_way_16 : decode (mC mX4_way) 16 = .ok (.invokevirtual 45, 3) := by decide +kernel
theorem dX4_way_19 : decode (mC mX4_way) 19 = .ok (.ireturn, 1) := by decide +kernel
theorem dX4_way_20 : decode (mC mX4_way) 20 = .ok (.iload_n 3, 1) := by decide +kernel
theorem dX4_way_21 : decode (mC mX4_way) 21 = .ok (.invokestatic 159, 3) := by decide +kernel
theorem dX4_way_24 : decode (mC mX4_way) 24 = .ok (.ifCond .ne 10, 3) := by decide +kernel
theorem dX4_way_27 : decode (mC mX4_way) 27 = .ok (.aload_n 0, 1) := by decide +kernel
theorem dX4_way_28 : decode (mC mX4_way) 28 = .ok (.bipush (-2), 2) := by decide +kernel
theorem dX4_way_30 : decode (mC mX4_way) 30 = .ok (.invokevirtual 45, 3) := by decide +kernel
theorem dX4_way_33 : decode (mC mX4_way) 33 = .ok (.ireturn, 1) := by decide +kernel
theorem dX4_way_34 : decode (mC mX4_way) 34 = .ok (.iload_n 3, 1) := by decide +kernel
theorem dX4_way_35 : decode (mC mX4_way) 35 = .ok (.ifCond .ne 19, 3) := by decide +kernel
theorem dX4_way_38 : decode (mC mX4_way) 38 = .ok (.aload_n 0, 1) := by decide +kernel
theorem dX4_way_39 : decode (mC mX4_way) 39 = .ok (.getfield 10, 3) := by decide +kernel
theorem dX4_way_42 : decode (mC mX4_way) 42 = .ok (.getfield 90, 3) := by decide +kernel
theorem dX4_way_45 : decode (mC mX4_way) 45 = .ok (.iload_n 1, 1) := by decide +kernel
theorem dX4_way_46 : decode (mC mX4_way) 46 = .ok (.iload_n 2, 1) := by decide +kernel
theorem dX4_way_47 : decode (mC mX4_way) 47 = .ok (.invokevirtual 172, 3) := by decide +kernel
theorem dX4_way_50 : decode (mC mX4_way) 50 = .ok (.invokestatic 175, 3) := by decide +kernel
theorem dX4_way_53 : decode (mC mX4_way) 53 = .ok (.ireturn, 1) := by decide +kernel
theorem dX4_way_54 : decode (mC mX4_way) 54 = .ok (.aload_n 0, 1) := by decide +kernel
theorem dX4_way_55 : decode (mC mX4_way) 55 = .ok (.getfield 10, 3) := by decide +kernel
theorem dX4_way_58 : decode (mC mX4_way) 58 = .ok (.getfield 90, 3) := by decide +kernel
theorem dX4_way_61 : decode (mC mX4_way) 61 = .ok (.iload_n 1, 1) := by decide +kernel
theorem dX4_way_62 : decode (mC mX4_way) 62 = .ok (.iload_n 2, 1) := by decide +kernel
theorem dX4_way_63 : decode (mC mX4_way) 63 = .ok (.invokevirtual 178, 3) := by decide +kernel
theorem dX4_way_66 : decode (mC mX4_way) 66 = .ok (.istore 4, 2) := by decide +kernel
theorem dX4_way_68 : decode (mC mX4_way) 68 = .ok (.iconst 0, 1) := by decide +kernel
theorem dX4_way_69 : decode (mC mX4_way) 69 = .ok (.istore 5, 2) := by decide +kernel
theorem dX4_way_71 : decode (mC mX4_way) 71 = .ok (.iload 5, 2) := by decide +kernel
theorem dX4_way_73 : decode (mC mX4_way) 73 = .ok (.aload_n 0, 1) := by decide +kernel
theorem dX4_way_74 : decode (mC mX4_way) 74 = .ok (.getfield 10, 3) := by decide +kernel
theorem dX4_way_77 : decode (mC mX4_way) 77 = .ok (.getfield 90, 3) := by decide +kernel
theorem dX4_way_80 : decode (mC mX4_way) 80 = .ok (.getfield 181, 3) := by decide +kernel
theorem dX4_way_83 : decode (mC mX4_way) 83 = .ok (.if_icmp .ge 22, 3) := by decide +kernel
theorem dX4_way_86 : decode (mC mX4_way) 86 = .ok (.iload 4, 2) := by decide +kernel
theorem dX4_way_88 : decode (mC mX4_way) 88 = .ok (.iload 5, 2) := by decide +kernel
theorem dX4_way_90 : decode (mC mX4_way) 90 = .ok (.invokestatic 182, 3) := by decide +kernel
theorem dX4_way_93 : decode (mC mX4_way) 93 = .ok (.ifCond .eq 6, 3) := by decide +kernel
theorem dX4_way_96 : decode (mC mX4_way) 96 = .ok (.iload 5, 2) := by decide +kernel
theorem dX4_way_98 : decode (mC mX4_way) 98 = .ok (.ireturn, 1) := by decide +kernel
theorem dX4_way_99 : decode (mC mX4_way) 99 = .ok (.iinc 5 1, 3) := by decide +kernel
theorem dX4_way_102 : decode (mC mX4_way) 102 = .ok (.goto (-31), 3) := by decide +kernel
theorem dX4_way_105 : decode (mC mX4_way) 105 = .ok (.bipush (-9), 2) := by decide +kernel
theorem dX4_way_107 : decode (mC mX4_way) 107 = .ok (.ireturn, 1) := by decide +kernel
theorem dX4_round_0 : decode (mC mX4_round) 0 = .ok (.iload_n 1, 1) := by decide +kernel
theorem dX4_round_1 : decode (mC mX4_round) 1 = .ok (.invokestatic 142, 3) := by decide +kernel
theorem dX4_round_4 : decode (mC mX4_round) 4 = .ok (.ifCond .ne 9, 3) := by decide +kernel
theorem dX4_round_7 : decode (mC mX4_round) 7 = .ok (.aload_n 0, 1) := by decide +kernel
theorem dX4_round_8 : decode (mC mX4_round) 8 = .ok (.iconst (-1), 1) := by decide +kernel
theorem dX4_round_9 : decode (mC mX4_round) 9 = .ok (.invokevirtual 45, 3) := by decide +kernel
theorem dX4_round_12 : decode (mC mX4_round) 12 = .ok (.ireturn, 1) := by decide +kernel
theorem dX4_round_13 : decode (mC mX4_round) 13 = .ok (.sipush 1000, 3) := by decide +kernel
theorem dX4_round_16 : decode (mC mX4_round) 16 = .ok (.istore_n 2, 1) := by decide +kernel
theorem dX4_round_17 : decode (mC mX4_round) 17 = .ok (.iconst 0, 1) := by decide +kernel
theorem dX4_round_18 : decode (mC mX4_round) 18 = .ok (.istore_n 3, 1) := by decide +kernel
theorem dX4_round_19 : decode (mC mX4_round) 19 = .ok (.iload_n 3, 1) := by decide +kernel
theorem dX4_round_20 : decode (mC mX4_round) 20 = .ok (.aload_n 0, 1) := by decide +kernel
theorem dX4_round_21 : decode (mC mX4_round) 21 = .ok (.getfield 10, 3) := by decide +kernel
theorem dX4_round_24 : decode (mC mX4_round) 24 = .ok (.getfield 90, 3) := by decide +kernel
theorem dX4_round_27 : decode (mC mX4_round) 27 = .ok (.getfield 181, 3) := by decide +kernel
theorem dX4_round_30 : decode (mC mX4_round) 30 = .ok (.if_icmp .ge 59, 3) := by decide +kernel
theorem dX4_round_33 : decode (mC mX4_round) 33 = .ok (.aload_n 0, 1) := by decide +kernel
theorem dX4_round_34 : decode (mC mX4_round) 34 = .ok (.getfield 10, 3) := by decide +kernel
theorem dX4_round_37 : decode (mC mX4_round) 37 = .ok (.getfield 90, 3) := by decide +kernel
theorem dX4_round_40 : decode (mC mX4_round) 40 = .ok (.getfield 110, 3) := by decide +kernel
theorem dX4_round_43 : decode (mC mX4_round) 43 = .ok (.iload_n 3, 1) := by decide +kernel
theorem dX4_round_44 : decode (mC mX4_round) 44 = .ok (.invokestatic 103, 3) := by decide +kernel
theorem dX4_round_47 : decode (mC mX4_round) 47 = .ok (.iload_n 1, 1) := by decide +kernel
theorem dX4_round_48 : decode (mC mX4_round) 48 = .ok (.if_icmp .ne 35, 3) := by decide +kernel
theorem dX4_round_51 : decode (mC mX4_round) 51 = .ok (.iload_n 2, 1) := by decide +kernel
theorem dX4_round_52 : decode (mC mX4_round) 52 = .ok (.iconst 1, 1) := by decide +kernel
theorem dX4_round_53 : decode (mC mX4_round) 53 = .ok (.aload_n 0, 1) := by decide +kernel
theorem dX4_round_54 : decode (mC mX4_round) 54 = .ok (.getfield 10, 3) := by decide +kernel
theorem dX4_round_57 : decode (mC mX4_round) 57 = .ok (.getfield 90, 3) := by decide +kernel
theorem dX4_round_60 : decode (mC mX4_round) 60 = .ok (.aload_n 0, 1) := by decide +kernel
theorem dX4_round_61 : decode (mC mX4_round) 61 = .ok (.getfield 10, 3) := by decide +kernel
theorem dX4_round_64 : decode (mC mX4_round) 64 = .ok (.getfield 90, 3) := by decide +kernel
theorem dX4_round_67 : decode (mC mX4_round) 67 = .ok (.getfield 113, 3) := by decide +kernel
theorem dX4_round_70 : decode (mC mX4_round) 70 = .ok (.iload_n 3, 1) := by decide +kernel
theorem dX4_round_71 : decode (mC mX4_round) 71 = .ok (.invokestatic 103, 3) := by decide +kernel
theorem dX4_round_74 : decode (mC mX4_round) 74 = .ok (.iload_n 1, 1) := by decide +kernel
theorem dX4_round_75 : decode (mC mX4_round) 75 = .ok (.invokevirtual 172, 3) := by decide +kernel
theorem dX4_round_78 : decode (mC mX4_round) 78 = .ok (.iadd, 1) := by decide +kernel
theorem dX4_round_79 : decode (mC mX4_round) 79 = .ok (.invokestatic 186, 3) := by decide +kernel
theorem dX4_round_82 : decode (mC mX4_round) 82 = .ok (.istore_n 2, 1) := by decide +kernel
theorem dX4_round_83 : decode (mC mX4_round) 83 = .ok (.iinc 3 1, 3) := by decide +kernel
theorem dX4_round_86 : decode (mC mX4_round) 86 = .ok (.goto (-67), 3) := by decide +kernel
theorem dX4_round_89 : decode (mC mX4_round) 89 = .ok (.iload_n 2, 1) := by decide +kernel
theorem dX4_round_90 : decode (mC mX4_round) 90 = .ok (.invokestatic 175, 3) := by decide +kernel
theorem dX4_round_93 : decode (mC mX4_round) 93 = .ok (.ireturn, 1) := by decide +kernel
theorem dX4_reach_0 : decode (mC mX4_reach) 0 = .ok (.iload_n 1, 1) := by decide +kernel
theorem dX4_reach_1 : decode (mC mX4_reach) 1 = .ok (.invokestatic 142, 3) := by decide +kernel
theorem dX4_reach_4 : decode (mC mX4_reach) 4 = .ok (.ifCond .ne 9, 3) := by decide +kernel
theorem dX4_reach_7 : decode (mC mX4_reach) 7 = .ok (.aload_n 0, 1) := by decide +kernel
theorem dX4_reach_8 : decode (mC mX4_reach) 8 = .ok (.iconst (-1), 1) := by decide +kernel
theorem dX4_reach_9 : decode (mC mX4_reach) 9 = .ok (.invokevirtual 45, 3) := by decide +kernel
theorem dX4_reach_12 : decode (mC mX4_reach) 12 = .ok (.ireturn, 1) := by decide +kernel
theorem dX4_reach_13 : decode (mC mX4_reach) 13 = .ok (.iconst 0, 1) := by decide +kernel
theorem dX4_reach_14 : decode (mC mX4_reach) 14 = .ok (.istore_n 2, 1) := by decide +kernel
theorem dX4_reach_15 : decode (mC mX4_reach) 15 = .ok (.iconst 0, 1) := by decide +kernel
theorem dX4_reach_16 : decode (mC mX4_reach) 16 = .ok (.istore_n 3, 1) := by decide +kernel
theorem dX4_reach_17 : decode (mC mX4_reach) 17 = .ok (.iload_n 3, 1) := by decide +kernel
theorem dX4_reach_18 : decode (mC mX4_reach) 18 = .ok (.bipush 8, 2) := by decide +kernel
theorem dX4_reach_20 : decode (mC mX4_reach) 20 = .ok (.if_icmp .ge 33, 3) := by decide +kernel
theorem dX4_reach_23 : decode (mC mX4_reach) 23 = .ok (.aload_n 0, 1) := by decide +kernel
theorem dX4_reach_24 : decode (mC mX4_reach) 24 = .ok (.getfield 10, 3) := by decide +kernel
theorem dX4_reach_27 : decode (mC mX4_reach) 27 = .ok (.getfield 90, 3) := by decide +kernel
theorem dX4_reach_30 : decode (mC mX4_reach) 30 = .ok (.iload_n 1, 1) := by decide +kernel
theorem dX4_reach_31 : decode (mC mX4_reach) 31 = .ok (.iload_n 3, 1) := by decide +kernel
theorem dX4_reach_32 : decode (mC mX4_reach) 32 = .ok (.invokevirtual 172, 3) := by decide +kernel
theorem dX4_reach_35 : decode (mC mX4_reach) 35 = .ok (.sipush 1000, 3) := by decide +kernel
theorem dX4_reach_38 : decode (mC mX4_reach) 38 = .ok (.if_icmp .eq 9, 3) := by decide +kernel
theorem dX4_reach_41 : decode (mC mX4_reach) 41 = .ok (.iload_n 2, 1) := by decide +kernel
theorem dX4_reach_42 : decode (mC mX4_reach) 42 = .ok (.iconst 1, 1) := by decide +kernel
theorem dX4_reach_43 : decode (mC mX4_reach) 43 = .ok (.iload_n 3, 1) := by decide +kernel
theorem dX4_reach_44 : decode (mC mX4_reach) 44 = .ok (.ishl, 1) := by decide +kernel
theorem dX4_reach_45 : decode (mC mX4_reach) 45 = .ok (.ior, 1) := by decide +kernel
theorem dX4_reach_46 : decode (mC mX4_reach) 46 = .ok (.istore_n 2, 1) := by decide +kernel
theorem dX4_reach_47 : decode (mC mX4_reach) 47 = .ok (.iinc 3 1, 3) := by decide +kernel
theorem dX4_reach_50 : decode (mC mX4_reach) 50 = .ok (.goto (-33), 3) := by decide +kernel
theorem dX4_reach_53 : decode (mC mX4_reach) 53 = .ok (.iload_n 2, 1) := by decide +kernel
theorem dX4_reach_54 : decode (mC mX4_reach) 54 = .ok (.ireturn, 1) := by decide +kernel
theorem dX4_open_0 : decode (mC mX4_open) 0 = .ok (.iconst 0, 1) := by decide +kernel
theorem dX4_open_1 : decode (mC mX4_open) 1 = .ok (.istore_n 1, 1) := by decide +kernel
theorem dX4_open_2 : decode (mC mX4_open) 2 = .ok (.iconst 0, 1) := by decide +kernel
theorem dX4_open_3 : decode (mC mX4_open) 3 = .ok (.istore_n 2, 1) := by decide +kernel
theorem dX4_open_4 : decode (mC mX4_open) 4 = .ok (.iload_n 2, 1) := by decide +kernel
theorem dX4_open_5 : decode (mC mX4_open) 5 = .ok (.aload_n 0, 1) := by decide +kernel
theorem dX4_open_6 : decode (mC mX4_open) 6 = .ok (.getfield 10, 3) := by decide +kernel
theorem dX4_open_9 : decode (mC mX4_open) 9 = .ok (.getfield 90, 3) := by decide +kernel
theorem dX4_open_12 : decode (mC mX4_open) 12 = .ok (.getfield 181, 3) := by decide +kernel
theorem dX4_open_15 : decode (mC mX4_open) 15 = .ok (.if_icmp .ge 35, 3) := by decide +kernel
theorem dX4_open_18 : decode (mC mX4_open) 18 = .ok (.aload_n 0, 1) := by decide +kernel
theorem dX4_open_19 : decode (mC mX4_open) 19 = .ok (.getfield 10, 3) := by decide +kernel
theorem dX4_open_22 : decode (mC mX4_open) 22 = .ok (.iload_n 2, 1) := by decide +kernel
theorem dX4_open_23 : decode (mC mX4_open) 23 = .ok (.aload_n 0, 1) := by decide +kernel
theorem dX4_open_24 : decode (mC mX4_open) 24 = .ok (.getfield 10, 3) := by decide +kernel
theorem dX4_open_27 : decode (mC mX4_open) 27 = .ok (.getfield 129, 3) := by decide +kernel
theorem dX4_open_30 : decode (mC mX4_open) 30 = .ok (.iconst 1, 1) := by decide +kernel
theorem dX4_open_31 : decode (mC mX4_open) 31 = .ok (.iadd, 1) := by decide +kernel
theorem dX4_open_32 : decode (mC mX4_open) 32 = .ok (.invokevirtual 189, 3) := by decide +kernel
theorem dX4_open_35 : decode (mC mX4_open) 35 = .ok (.ifCond .eq 9, 3) := by decide +kernel
theorem dX4_open_38 : decode (mC mX4_open) 38 = .ok (.iload_n 1, 1) := by decide +kernel
theorem dX4_open_39 : decode (mC mX4_open) 39 = .ok (.iconst 1, 1) := by decide +kernel
theorem dX4_open_40 : decode (mC mX4_open) 40 = .ok (.iload_n 2, 1) := by decide +kernel
theorem dX4_open_41 : decode (mC mX4_open) 41 = .ok (.ishl, 1) := by decide +kernel
theorem dX4_open_42 : decode (mC mX4_open) 42 = .ok (.ior, 1) := by decide +kernel
theorem dX4_open_43 : decode (mC mX4_open) 43 = .ok (.istore_n 1, 1) := by decide +kernel
theorem dX4_open_44 : decode (mC mX4_open) 44 = .ok (.iinc 2 1, 3) := by decide +kernel
theorem dX4_open_47 : decode (mC mX4_open) 47 = .ok (.goto (-43), 3) := by decide +kernel
theorem dX4_open_50 : decode (mC mX4_open) 50 = .ok (.iload_n 1, 1) := by decide +kernel
theorem dX4_open_51 : decode (mC mX4_open) 51 = .ok (.ireturn, 1) := by decide +kernel
theorem dX4_helper_0 : decode (mC mX4_helper) 0 = .ok (.iload_n 1, 1) := by decide +kernel
theorem dX4_helper_1 : decode (mC mX4_helper) 1 = .ok (.ifCond .lt 9, 3) := by decide +kernel
theorem dX4_helper_4 : decode (mC mX4_helper) 4 = .ok (.iload_n 1, 1) := by decide +kernel
theorem dX4_helper_5 : decode (mC mX4_helper) 5 = .ok (.bipush 30, 2) := by decide +kernel
theorem dX4_helper_7 : decode (mC mX4_helper) 7 = .ok (.if_icmp .le 9, 3) := by decide +kernel
theorem dX4_helper_10 : decode (mC mX4_helper) 10 = .ok (.aload_n 0, 1) := by decide +kernel
theorem dX4_helper_11 : decode (mC mX4_helper) 11 = .ok (.iload_n 1, 1) := by decide +kernel
theorem dX4_helper_12 : decode (mC mX4_helper) 12 = .ok (.invokevirtual 149, 3) := by decide +kernel
theorem dX4_helper_15 : decode (mC mX4_helper) 15 = .ok (.ireturn, 1) := by decide +kernel
theorem dX4_helper_16 : decode (mC mX4_helper) 16 = .ok (.iload_n 2, 1) := by decide +kernel
theorem dX4_helper_17 : decode (mC mX4_helper) 17 = .ok (.invokestatic 159, 3) := by decide +kernel
theorem dX4_helper_20 : decode (mC mX4_helper) 20 = .ok (.ifCond .ne 10, 3) := by decide +kernel
theorem dX4_helper_23 : decode (mC mX4_helper) 23 = .ok (.aload_n 0, 1) := by decide +kernel
theorem dX4_helper_24 : decode (mC mX4_helper) 24 = .ok (.bipush (-2), 2) := by decide +kernel
theorem dX4_helper_26 : decode (mC mX4_helper) 26 = .ok (.invokevirtual 45, 3) := by decide +kernel
theorem dX4_helper_29 : decode (mC mX4_helper) 29 = .ok (.ireturn, 1) := by decide +kernel
theorem dX4_helper_30 : decode (mC mX4_helper) 30 = .ok (.bipush (-9), 2) := by decide +kernel
theorem dX4_helper_32 : decode (mC mX4_helper) 32 = .ok (.istore_n 3, 1) := by decide +kernel
theorem dX4_helper_33 : decode (mC mX4_helper) 33 = .ok (.iconst (-1), 1) := by decide +kernel
theorem dX4_helper_34 : decode (mC mX4_helper) 34 = .ok (.istore 4, 2) := by decide +kernel
theorem dX4_helper_36 : decode (mC mX4_helper) 36 = .ok (.iconst 0, 1) := by decide +kernel
theorem dX4_helper_37 : decode (mC mX4_helper) 37 = .ok (.istore 5, 2) := by decide +kernel
theorem dX4_helper_39 : decode (mC mX4_helper) 39 = .ok (.iload 5, 2) := by decide +kernel
theorem dX4_helper_41 : decode (mC mX4_helper) 41 = .ok (.bipush 8, 2) := by decide +kernel
theorem dX4_helper_43 : decode (mC mX4_helper) 43 = .ok (.if_icmp .ge 32, 3) := by decide +kernel
theorem dX4_helper_46 : decode (mC mX4_helper) 46 = .ok (.aload_n 0, 1) := by decide +kernel
theorem dX4_helper_47 : decode (mC mX4_helper) 47 = .ok (.iload 5, 2) := by decide +kernel
theorem dX4_helper_49 : decode (mC mX4_helper) 49 = .ok (.iload_n 1, 1) := by decide +kernel
theorem dX4_helper_50 : decode (mC mX4_helper) 50 = .ok (.invokevirtual 192, 3) := by decide +kernel
theorem dX4_helper_53 : decode (mC mX4_helper) 53 = .ok (.istore 6, 2) := by decide +kernel
theorem dX4_helper_55 : decode (mC mX4_helper) 55 = .ok (.iload 6, 2) := by decide +kernel
theorem dX4_helper_57 : decode (mC mX4_helper) 57 = .ok (.iload 4, 2) := by decide +kernel
theorem dX4_helper_59 : decode (mC mX4_helper) 59 = .ok (.if_icmp .le 10, 3) := by decide +kernel
theorem dX4_helper_62 : decode (mC mX4_helper) 62 = .ok (.iload 6, 2) := by decide +kernel
theorem dX4_helper_64 : decode (mC mX4_helper) 64 = .ok (.istore 4, 2) := by decide +kernel
theorem dX4_helper_66 : decode (mC mX4_helper) 66 = .ok (.iload 5, 2) := by decide +kernel
theorem dX4_helper_68 : decode (mC mX4_helper) 68 = .ok (.istore_n 3, 1) := by decide +kernel
theorem dX4_helper_69 : decode (mC mX4_helper) 69 = .ok (.iinc 5 1, 3) := by decide +kernel
theorem dX4_helper_72 : decode (mC mX4_helper) 72 = .ok (.goto (-33), 3) := by decide +kernel
theorem dX4_helper_75 : decode (mC mX4_helper) 75 = .ok (.iload_n 2, 1) := by decide +kernel
theorem dX4_helper_76 : decode (mC mX4_helper) 76 = .ok (.ifCond .ne 7, 3) := by decide +kernel
theorem dX4_helper_79 : decode (mC mX4_helper) 79 = .ok (.iload_n 3, 1) := by decide +kernel
theorem dX4_helper_80 : decode (mC mX4_helper) 80 = .ok (.goto 5, 3) := by decide +kernel
theorem dX4_helper_83 : decode (mC mX4_helper) 83 = .ok (.iload 4, 2) := by decide +kernel
theorem dX4_helper_85 : decode (mC mX4_helper) 85 = .ok (.ireturn, 1) := by decide +kernel
theorem dX4_homeWithHelper_0 : decode (mC mX4_homeWithHelper) 0 = .ok (.aload_n 0, 1) := by decide +kernel
theorem dX4_homeWithHelper_1 : decode (mC mX4_homeWithHelper) 1 = .ok (.getfield 16, 3) := by decide +kernel
theorem dX4_homeWithHelper_4 : decode (mC mX4_homeWithHelper) 4 = .ok (.aload_n 0, 1) := by decide +kernel
theorem dX4_homeWithHelper_5 : decode (mC mX4_homeWithHelper) 5 = .ok (.getfield 10, 3) := by decide +kernel
theorem dX4_homeWithHelper_8 : decode (mC mX4_homeWithHelper) 8 = .ok (.invokevirtual 69, 3) := by decide +kernel
theorem dX4_homeWithHelper_11 : decode (mC mX4_homeWithHelper) 11 = .ok (.aload_n 0, 1) := by decide +kernel
theorem dX4_homeWithHelper_12 : decode (mC mX4_homeWithHelper) 12 = .ok (.getfield 16, 3) := by decide +kernel
theorem dX4_homeWithHelper_15 : decode (mC mX4_homeWithHelper) 15 = .ok (.iload_n 1, 1) := by decide +kernel
theorem dX4_homeWithHelper_16 : decode (mC mX4_homeWithHelper) 16 = .ok (.iload_n 1, 1) := by decide +kernel
theorem dX4_homeWithHelper_17 : decode (mC mX4_homeWithHelper) 17 = .ok (.bipush 9, 2) := by decide +kernel
theorem dX4_homeWithHelper_19 : decode (mC mX4_homeWithHelper) 19 = .ok (.invokevirtual 195, 3) := by decide +kernel
theorem dX4_homeWithHelper_22 : decode (mC mX4_homeWithHelper) 22 = .ok (.aload_n 0, 1) := by decide +kernel
theorem dX4_homeWithHelper_23 : decode (mC mX4_homeWithHelper) 23 = .ok (.getfield 16, 3) := by decide +kernel
theorem dX4_homeWithHelper_26 : decode (mC mX4_homeWithHelper) 26 = .ok (.iload_n 2, 1) := by decide +kernel
theorem dX4_homeWithHelper_27 : decode (mC mX4_homeWithHelper) 27 = .ok (.iconst 0, 1) := by decide +kernel
theorem dX4_homeWithHelper_28 : decode (mC mX4_homeWithHelper) 28 = .ok (.invokevirtual 152, 3) := by decide +kernel
theorem dX4_homeWithHelper_31 : decode (mC mX4_homeWithHelper) 31 = .ok (.pop, 1) := by decide +kernel
theorem dX4_homeWithHelper_32 : decode (mC mX4_homeWithHelper) 32 = .ok (.aload_n 0, 1) := by decide +kernel
theorem dX4_homeWithHelper_33 : decode (mC mX4_homeWithHelper) 33 = .ok (.getfield 16, 3) := by decide +kernel
theorem dX4_homeWithHelper_36 : decode (mC mX4_homeWithHelper) 36 = .ok (.invokevirtual 156, 3) := by decide +kernel
theorem dX4_homeWithHelper_39 : decode (mC mX4_homeWithHelper) 39 = .ok (.iconst 1, 1) := by decide +kernel
theorem dX4_homeWithHelper_40 : decode (mC mX4_homeWithHelper) 40 = .ok (.isub, 1) := by decide +kernel
theorem dX4_homeWithHelper_41 : decode (mC mX4_homeWithHelper) 41 = .ok (.ireturn, 1) := by decide +kernel
theorem dX4_fewest_0 : decode (mC mX4_fewest) 0 = .ok (.aload_n 0, 1) := by decide +kernel
theorem dX4_fewest_1 : decode (mC mX4_fewest) 1 = .ok (.getfield 10, 3) := by decide +kernel
theorem dX4_fewest_4 : decode (mC mX4_fewest) 4 = .ok (.iload_n 1, 1) := by decide +kernel
theorem dX4_fewest_5 : decode (mC mX4_fewest) 5 = .ok (.invokevirtual 119, 3) := by decide +kernel
theorem dX4_fewest_8 : decode (mC mX4_fewest) 8 = .ok (.ifCond .ne 9, 3) := by decide +kernel
theorem dX4_fewest_11 : decode (mC mX4_fewest) 11 = .ok (.aload_n 0, 1) := by decide +kernel
theorem dX4_fewest_12 : decode (mC mX4_fewest) 12 = .ok (.iconst (-1), 1) := by decide +kernel
theorem dX4_fewest_13 : decode (mC mX4_fewest) 13 = .ok (.invokevirtual 45, 3) := by decide +kernel
theorem dX4_fewest_16 : decode (mC mX4_fewest) 16 = .ok (.ireturn, 1) := by decide +kernel
theorem dX4_fewest_17 : decode (mC mX4_fewest) 17 = .ok (.iload_n 2, 1) := by decide +kernel
theorem dX4_fewest_18 : decode (mC mX4_fewest) 18 = .ok (.ifCond .lt 9, 3) := by decide +kernel
theorem dX4_fewest_21 : decode (mC mX4_fewest) 21 = .ok (.iload_n 2, 1) := by decide +kernel
theorem dX4_fewest_22 : decode (mC mX4_fewest) 22 = .ok (.bipush 30, 2) := by decide +kernel
theorem dX4_fewest_24 : decode (mC mX4_fewest) 24 = .ok (.if_icmp .le 9, 3) := by decide +kernel
theorem dX4_fewest_27 : decode (mC mX4_fewest) 27 = .ok (.aload_n 0, 1) := by decide +kernel
theorem dX4_fewest_28 : decode (mC mX4_fewest) 28 = .ok (.iload_n 2, 1) := by decide +kernel
theorem dX4_fewest_29 : decode (mC mX4_fewest) 29 = .ok (.invokevirtual 149, 3) := by decide +kernel
theorem dX4_fewest_32 : decode (mC mX4_fewest) 32 = .ok (.ireturn, 1) := by decide +kernel
theorem dX4_fewest_33 : decode (mC mX4_fewest) 33 = .ok (.bipush (-9), 2) := by decide +kernel
theorem dX4_fewest_35 : decode (mC mX4_fewest) 35 = .ok (.istore_n 3, 1) := by decide +kernel
theorem dX4_fewest_36 : decode (mC mX4_fewest) 36 = .ok (.iconst 0, 1) := by decide +kernel
theorem dX4_fewest_37 : decode (mC mX4_fewest) 37 = .ok (.istore 4, 2) := by decide +kernel
theorem dX4_fewest_39 : decode (mC mX4_fewest) 39 = .ok (.iload 4, 2) := by decide +kernel
theorem dX4_fewest_41 : decode (mC mX4_fewest) 41 = .ok (.iconst 1, 1) := by decide +kernel
theorem dX4_fewest_42 : decode (mC mX4_fewest) 42 = .ok (.aload_n 0, 1) := by decide +kernel
theorem dX4_fewest_43 : decode (mC mX4_fewest) 43 = .ok (.getfield 10, 3) := by decide +kernel
theorem dX4_fewest_46 : decode (mC mX4_fewest) 46 = .ok (.getfield 171, 3) := by decide +kernel
theorem dX4_fewest_49 : decode (mC mX4_fewest) 49 = .ok (.ishl, 1) := by decide +kernel
theorem dX4_fewest_50 : decode (mC mX4_fewest) 50 = .ok (.if_icmp .ge 62, 3) := by decide +kernel
theorem dX4_fewest_53 : decode (mC mX4_fewest) 53 = .ok (.iload_n 3, 1) := by decide +kernel
theorem dX4_fewest_54 : decode (mC mX4_fewest) 54 = .ok (.bipush (-9), 2) := by decide +kernel
theorem dX4_fewest_56 : decode (mC mX4_fewest) 56 = .ok (.if_icmp .eq 15, 3) := by decide +kernel
theorem dX4_fewest_59 : decode (mC mX4_fewest) 59 = .ok (.iload 4, 2) := by decide +kernel
theorem dX4_fewest_61 : decode (mC mX4_fewest) 61 = .ok (.invokestatic 199, 3) := by decide +kernel
theorem dX4_fewest_64 : decode (mC mX4_fewest) 64 = .ok (.iload_n 3, 1) := by decide +kernel
theorem dX4_fewest_65 : decode (mC mX4_fewest) 65 = .ok (.invokestatic 199, 3) := by decide +kernel
theorem dX4_fewest_68 : decode (mC mX4_fewest) 68 = .ok (.if_icmp .ge 7, 3) := by decide +kernel
theorem dX4_fewest_71 : decode (mC mX4_fewest) 71 = .ok (.iconst 1, 1) := by decide +kernel
theorem dX4_fewest_72 : decode (mC mX4_fewest) 72 = .ok (.goto 4, 3) := by decide +kernel
theorem dX4_fewest_75 : decode (mC mX4_fewest) 75 = .ok (.iconst 0, 1) := by decide +kernel
theorem dX4_fewest_76 : decode (mC mX4_fewest) 76 = .ok (.istore 5, 2) := by decide +kernel
theorem dX4_fewest_78 : decode (mC mX4_fewest) 78 = .ok (.iload 5, 2) := by decide +kernel
theorem dX4_fewest_80 : decode (mC mX4_fewest) 80 = .ok (.ifCond .eq 26, 3) := by decide +kernel
theorem dX4_fewest_83 : decode (mC mX4_fewest) 83 = .ok (.iload 4, 2) := by decide +kernel
theorem dX4_fewest_85 : decode (mC mX4_fewest) 85 = .ok (.iload_n 1, 1) := by decide +kernel
theorem dX4_fewest_86 : decode (mC mX4_fewest) 86 = .ok (.invokestatic 182, 3) := by decide +kernel
theorem dX4_fewest_89 : decode (mC mX4_fewest) 89 = .ok (.ifCond .ne 17, 3) := by decide +kernel
theorem dX4_fewest_92 : decode (mC mX4_fewest) 92 = .ok (.aload_n 0, 1) := by decide +kernel
theorem dX4_fewest_93 : decode (mC mX4_fewest) 93 = .ok (.iload_n 1, 1) := by decide +kernel
theorem dX4_fewest_94 : decode (mC mX4_fewest) 94 = .ok (.iload 4, 2) := by decide +kernel
theorem dX4_fewest_96 : decode (mC mX4_fewest) 96 = .ok (.iload_n 2, 1) := by decide +kernel
theorem dX4_fewest_97 : decode (mC mX4_fewest) 97 = .ok (.invokevirtual 204, 3) := by decide +kernel
theorem dX4_fewest_100 : decode (mC mX4_fewest) 100 = .ok (.ifCond .eq 6, 3) := by decide +kernel
theorem dX4_fewest_103 : decode (mC mX4_fewest) 103 = .ok (.iload 4, 2) := by decide +kernel
theorem dX4_fewest_105 : decode (mC mX4_fewest) 105 = .ok (.istore_n 3, 1) := by decide +kernel
theorem dX4_fewest_106 : decode (mC mX4_fewest) 106 = .ok (.iinc 4 1, 3) := by decide +kernel
theorem dX4_fewest_109 : decode (mC mX4_fewest) 109 = .ok (.goto (-70), 3) := by decide +kernel
theorem dX4_fewest_112 : decode (mC mX4_fewest) 112 = .ok (.iload_n 3, 1) := by decide +kernel
theorem dX4_fewest_113 : decode (mC mX4_fewest) 113 = .ok (.ireturn, 1) := by decide +kernel
theorem dX4_isHomeWhileStay_0 : decode (mC mX4_isHomeWhileStay) 0 = .ok (.aload_n 0, 1) := by decide +kernel
theorem dX4_isHomeWhileStay_1 : decode (mC mX4_isHomeWhileStay) 1 = .ok (.getfield 16, 3) := by decide +kernel
theorem dX4_isHomeWhileStay_4 : decode (mC mX4_isHomeWhileStay) 4 = .ok (.aload_n 0, 1) := by decide +kernel
theorem dX4_isHomeWhileStay_5 : decode (mC mX4_isHomeWhileStay) 5 = .ok (.getfield 10, 3) := by decide +kernel
theorem dX4_isHomeWhileStay_8 : decode (mC mX4_isHomeWhileStay) 8 = .ok (.invokevirtual 69, 3) := by decide +kernel
theorem dX4_isHomeWhileStay_11 : decode (mC mX4_isHomeWhileStay) 11 = .ok (.iconst 0, 1) := by decide +kernel
theorem dX4_isHomeWhileStay_12 : decode (mC mX4_isHomeWhileStay) 12 = .ok (.istore 4, 2) := by decide +kernel
theorem dX4_isHomeWhileStay_14 : decode (mC mX4_isHomeWhileStay) 14 = .ok (.iload 4, 2) := by decide +kernel
theorem dX4_isHomeWhileStay_16 : decode (mC mX4_isHomeWhileStay) 16 = .ok (.aload_n 0, 1) := by decide +kernel
theorem dX4_isHomeWhileStay_17 : decode (mC mX4_isHomeWhileStay) 17 = .ok (.getfield 16, 3) := by decide +kernel
theorem dX4_isHomeWhileStay_20 : decode (mC mX4_isHomeWhileStay) 20 = .ok (.getfield 171, 3) := by decide +kernel
theorem dX4_isHomeWhileStay_23 : decode (mC mX4_isHomeWhileStay) 23 = .ok (.if_icmp .ge 27, 3) := by decide +kernel
theorem dX4_isHomeWhileStay_26 : decode (mC mX4_isHomeWhileStay) 26 = .ok (.iload_n 2, 1) := by decide +kernel
theorem dX4_isHomeWhileStay_27 : decode (mC mX4_isHomeWhileStay) 27 = .ok (.iload 4, 2) := by decide +kernel
theorem dX4_isHomeWhileStay_29 : decode (mC mX4_isHomeWhileStay) 29 = .ok (.invokestatic 182, 3) := by decide +kernel
theorem dX4_isHomeWhileStay_32 : decode (mC mX4_isHomeWhileStay) 32 = .ok (.ifCond .eq 12, 3) := by decide +kernel
theorem dX4_isHomeWhileStay_35 : decode (mC mX4_isHomeWhileStay) 35 = .ok (.aload_n 0, 1) := by decide +kernel
theorem dX4_isHomeWhileStay_36 : decode (mC mX4_isHomeWhileStay) 36 = .ok (.getfield 16, 3) := by decide +kernel
theorem dX4_isHomeWhileStay_39 : decode (mC mX4_isHomeWhileStay) 39 = .ok (.iload 4, 2) := by decide +kernel
theorem dX4_isHomeWhileStay_41 : decode (mC mX4_isHomeWhileStay) 41 = .ok (.invokevirtual 208, 3) := by decide +kernel
theorem dX4_isHomeWhileStay_44 : decode (mC mX4_isHomeWhileStay) 44 = .ok (.iinc 4 1, 3) := by decide +kernel
theorem dX4_isHomeWhileStay_47 : decode (mC mX4_isHomeWhileStay) 47 = .ok (.goto (-33), 3) := by decide +kernel
theorem dX4_isHomeWhileStay_50 : decode (mC mX4_isHomeWhileStay) 50 = .ok (.aload_n 0, 1) := by decide +kernel
theorem dX4_isHomeWhileStay_51 : decode (mC mX4_isHomeWhileStay) 51 = .ok (.getfield 16, 3) := by decide +kernel
theorem dX4_isHomeWhileStay_54 : decode (mC mX4_isHomeWhileStay) 54 = .ok (.iload_n 3, 1) := by decide +kernel
theorem dX4_isHomeWhileStay_55 : decode (mC mX4_isHomeWhileStay) 55 = .ok (.iconst 0, 1) := by decide +kernel
theorem dX4_isHomeWhileStay_56 : decode (mC mX4_isHomeWhileStay) 56 = .ok (.invokevirtual 152, 3) := by decide +kernel
theorem dX4_isHomeWhileStay_59 : decode (mC mX4_isHomeWhileStay) 59 = .ok (.pop, 1) := by decide +kernel
theorem dX4_isHomeWhileStay_60 : decode (mC mX4_isHomeWhileStay) 60 = .ok (.aload_n 0, 1) := by decide +kernel
theorem dX4_isHomeWhileStay_61 : decode (mC mX4_isHomeWhileStay) 61 = .ok (.getfield 16, 3) := by decide +kernel
theorem dX4_isHomeWhileStay_64 : decode (mC mX4_isHomeWhileStay) 64 = .ok (.iload_n 1, 1) := by decide +kernel
theorem dX4_isHomeWhileStay_65 : decode (mC mX4_isHomeWhileStay) 65 = .ok (.invokevirtual 211, 3) := by decide +kernel
theorem dX4_isHomeWhileStay_68 : decode (mC mX4_isHomeWhileStay) 68 = .ok (.ireturn, 1) := by decide +kernel
theorem dX4_turn_0 : decode (mC mX4_turn) 0 = .ok (.iload_n 1, 1) := by decide +kernel
theorem dX4_turn_1 : decode (mC mX4_turn) 1 = .ok (.ifCond .lt 9, 3) := by decide +kernel
theorem dX4_turn_4 : decode (mC mX4_turn) 4 = .ok (.iload_n 1, 1) := by decide +kernel
theorem dX4_turn_5 : decode (mC mX4_turn) 5 = .ok (.bipush 30, 2) := by decide +kernel
theorem dX4_turn_7 : decode (mC mX4_turn) 7 = .ok (.if_icmp .le 9, 3) := by decide +kernel
theorem dX4_turn_10 : decode (mC mX4_turn) 10 = .ok (.aload_n 0, 1) := by decide +kernel
theorem dX4_turn_11 : decode (mC mX4_turn) 11 = .ok (.iload_n 1, 1) := by decide +kernel
theorem dX4_turn_12 : decode (mC mX4_turn) 12 = .ok (.invokevirtual 149, 3) := by decide +kernel
theorem dX4_turn_15 : decode (mC mX4_turn) 15 = .ok (.ireturn, 1) := by decide +kernel
theorem dX4_turn_16 : decode (mC mX4_turn) 16 = .ok (.aload_n 0, 1) := by decide +kernel
theorem dX4_turn_17 : decode (mC mX4_turn) 17 = .ok (.iload_n 1, 1) := by decide +kernel
theorem dX4_turn_18 : decode (mC mX4_turn) 18 = .ok (.iconst 1, 1) := by decide +kernel
theorem dX4_turn_19 : decode (mC mX4_turn) 19 = .ok (.invokevirtual 214, 3) := by decide +kernel
theorem dX4_turn_22 : decode (mC mX4_turn) 22 = .ok (.ireturn, 1) := by decide +kernel
theorem dX4_wedge_0 : decode (mC mX4_wedge) 0 = .ok (.iload_n 1, 1) := by decide +kernel
theorem dX4_wedge_1 : decode (mC mX4_wedge) 1 = .ok (.ifCond .lt 9, 3) := by decide +kernel
theorem dX4_wedge_4 : decode (mC mX4_wedge) 4 = .ok (.iload_n 1, 1) := by decide +kernel
theorem dX4_wedge_5 : decode (mC mX4_wedge) 5 = .ok (.bipush 30, 2) := by decide +kernel
theorem dX4_wedge_7 : decode (mC mX4_wedge) 7 = .ok (.if_icmp .le 9, 3) := by decide +kernel
theorem dX4_wedge_10 : decode (mC mX4_wedge) 10 = .ok (.aload_n 0, 1) := by decide +kernel
theorem dX4_wedge_11 : decode (mC mX4_wedge) 11 = .ok (.iload_n 1, 1) := by decide +kernel
theorem dX4_wedge_12 : decode (mC mX4_wedge) 12 = .ok (.invokevirtual 149, 3) := by decide +kernel
theorem dX4_wedge_15 : decode (mC mX4_wedge) 15 = .ok (.ireturn, 1) := by decide +kernel
theorem dX4_wedge_16 : decode (mC mX4_wedge) 16 = .ok (.aload_n 0, 1) := by decide +kernel
theorem dX4_wedge_17 : decode (mC mX4_wedge) 17 = .ok (.iload_n 1, 1) := by decide +kernel
theorem dX4_wedge_18 : decode (mC mX4_wedge) 18 = .ok (.iconst 0, 1) := by decide +kernel
theorem dX4_wedge_19 : decode (mC mX4_wedge) 19 = .ok (.invokevirtual 214, 3) := by decide +kernel
theorem dX4_wedge_22 : decode (mC mX4_wedge) 22 = .ok (.ireturn, 1) := by decide +kernel
theorem dX4_doorToChange_0 : decode (mC mX4_doorToChange) 0 = .ok (.aload_n 0, 1) := by decide +kernel
theorem dX4_doorToChange_1 : decode (mC mX4_doorToChange) 1 = .ok (.getfield 16, 3) := by decide +kernel
theorem dX4_doorToChange_4 : decode (mC mX4_doorToChange) 4 = .ok (.aload_n 0, 1) := by decide +kernel
theorem dX4_doorToChange_5 : decode (mC mX4_doorToChange) 5 = .ok (.getfield 10, 3) := by decide +kernel
theorem dX4_doorToChange_8 : decode (mC mX4_doorToChange) 8 = .ok (.invokevirtual 69, 3) := by decide +kernel
theorem dX4_doorToChange_11 : decode (mC mX4_doorToChange) 11 = .ok (.aload_n 0, 1) := by decide +kernel
theorem dX4_doorToChange_12 : decode (mC mX4_doorToChange) 12 = .ok (.getfield 16, 3) := by decide +kernel
theorem dX4_doorToChange_15 : decode (mC mX4_doorToChange) 15 = .ok (.iload_n 1, 1) := by decide +kernel
theorem dX4_doorToChange_16 : decode (mC mX4_doorToChange) 16 = .ok (.iconst 0, 1) := by decide +kernel
theorem dX4_doorToChange_17 : decode (mC mX4_doorToChange) 17 = .ok (.invokevirtual 152, 3) := by decide +kernel
theorem dX4_doorToChange_20 : decode (mC mX4_doorToChange) 20 = .ok (.pop, 1) := by decide +kernel
theorem dX4_doorToChange_21 : decode (mC mX4_doorToChange) 21 = .ok (.aload_n 0, 1) := by decide +kernel
theorem dX4_doorToChange_22 : decode (mC mX4_doorToChange) 22 = .ok (.getfield 16, 3) := by decide +kernel
theorem dX4_doorToChange_25 : decode (mC mX4_doorToChange) 25 = .ok (.invokevirtual 156, 3) := by decide +kernel
theorem dX4_doorToChange_28 : decode (mC mX4_doorToChange) 28 = .ok (.istore_n 3, 1) := by decide +kernel
theorem dX4_doorToChange_29 : decode (mC mX4_doorToChange) 29 = .ok (.bipush (-9), 2) := by decide +kernel
theorem dX4_doorToChange_31 : decode (mC mX4_doorToChange) 31 = .ok (.istore 4, 2) := by decide +kernel
theorem dX4_doorToChange_33 : decode (mC mX4_doorToChange) 33 = .ok (.iconst 0, 1) := by decide +kernel
theorem dX4_doorToChange_34 : decode (mC mX4_doorToChange) 34 = .ok (.istore 5, 2) := by decide +kernel
theorem dX4_doorToChange_36 : decode (mC mX4_doorToChange) 36 = .ok (.iload 5, 2) := by decide +kernel
theorem dX4_doorToChange_38 : decode (mC mX4_doorToChange) 38 = .ok (.aload_n 0, 1) := by decide +kernel
theorem dX4_doorToChange_39 : decode (mC mX4_doorToChange) 39 = .ok (.getfield 10, 3) := by decide +kernel
theorem dX4_doorToChange_42 : decode (mC mX4_doorToChange) 42 = .ok (.getfield 90, 3) := by decide +kernel
theorem dX4_doorToChange_45 : decode (mC mX4_doorToChange) 45 = .ok (.getfield 181, 3) := by decide +kernel
theorem dX4_doorToChange_48 : decode (mC mX4_doorToChange) 48 = .ok (.if_icmp .ge 89, 3) := by decide +kernel
theorem dX4_doorToChange_51 : decode (mC mX4_doorToChange) 51 = .ok (.aload_n 0, 1) := by decide +kernel
theorem dX4_doorToChange_52 : decode (mC mX4_doorToChange) 52 = .ok (.getfield 16, 3) := by decide +kernel
theorem dX4_doorToChange_55 : decode (mC mX4_doorToChange) 55 = .ok (.aload_n 0, 1) := by decide +kernel
theorem dX4_doorToChange_56 : decode (mC mX4_doorToChange) 56 = .ok (.getfield 10, 3) := by decide +kernel
theorem dX4_doorToChange_59 : decode (mC mX4_doorToChange) 59 = .ok (.invokevirtual 69, 3) := by decide +kernel
theorem dX4_doorToChange_62 : decode (mC mX4_doorToChange) 62 = .ok (.iload_n 2, 1) := by decide +kernel
theorem dX4_doorToChange_63 : decode (mC mX4_doorToChange) 63 = .ok (.ifCond .eq 19, 3) := by decide +kernel
theorem dX4_doorToChange_66 : decode (mC mX4_doorToChange) 66 = .ok (.aload_n 0, 1) := by decide +kernel
theorem dX4_doorToChange_67 : decode (mC mX4_doorToChange) 67 = .ok (.getfield 16, 3) := by decide +kernel
theorem dX4_doorToChange_70 : decode (mC mX4_doorToChange) 70 = .ok (.getfield 90, 3) := by decide +kernel
theorem dX4_doorToChange_73 : decode (mC mX4_doorToChange) 73 = .ok (.iload 5, 2) := by decide +kernel
theorem dX4_doorToChange_75 : decode (mC mX4_doorToChange) 75 = .ok (.invokevirtual 139, 3) := by decide +kernel
theorem dX4_doorToChange_78 : decode (mC mX4_doorToChange) 78 = .ok (.pop, 1) := by decide +kernel
theorem dX4_doorToChange_79 : decode (mC mX4_doorToChange) 79 = .ok (.goto 19, 3) := by decide +kernel
theorem dX4_doorToChange_82 : decode (mC mX4_doorToChange) 82 = .ok (.aload_n 0, 1) := by decide +kernel
theorem dX4_doorToChange_83 : decode (mC mX4_doorToChange) 83 = .ok (.getfield 16, 3) := by decide +kernel
theorem dX4_doorToChange_86 : decode (mC mX4_doorToChange) 86 = .ok (.getfield 90, 3) := by decide +kernel
theorem dX4_doorToChange_89 : decode (mC mX4_doorToChange) 89 = .ok (.getfield 116, 3) := by decide +kernel
theorem dX4_doorToChange_92 : decode (mC mX4_doorToChange) 92 = .ok (.iload 5, 2) := by decide +kernel
theorem dX4_doorToChange_94 : decode (mC mX4_doorToChange) 94 = .ok (.iconst 1, 1) := by decide +kernel
theorem dX4_doorToChange_95 : decode (mC mX4_doorToChange) 95 = .ok (.invokestatic 217, 3) := by decide +kernel
theorem dX4_doorToChange_98 : decode (mC mX4_doorToChange) 98 = .ok (.aload_n 0, 1) := by decide +kernel
theorem dX4_doorToChange_99 : decode (mC mX4_doorToChange) 99 = .ok (.getfield 16, 3) := by decide +kernel
theorem dX4_doorToChange_102 : decode (mC mX4_doorToChange) 102 = .ok (.iload_n 1, 1) := by decide +kernel
theorem dX4_doorToChange_103 : decode (mC mX4_doorToChange) 103 = .ok (.iconst 0, 1) := by decide +kernel
theorem dX4_doorToChange_104 : decode (mC mX4_doorToChange) 104 = .ok (.invokevirtual 152, 3) := by decide +kernel
theorem dX4_doorToChange_107 : decode (mC mX4_doorToChange) 107 = .ok (.pop, 1) := by decide +kernel
theorem dX4_doorToChange_108 : decode (mC mX4_doorToChange) 108 = .ok (.aload_n 0, 1) := by decide +kernel
theorem dX4_doorToChange_109 : decode (mC mX4_doorToChange) 109 = .ok (.getfield 16, 3) := by decide +kernel
theorem dX4_doorToChange_112 : decode (mC mX4_doorToChange) 112 = .ok (.invokevirtual 156, 3) := by decide +kernel
theorem dX4_doorToChange_115 : decode (mC mX4_doorToChange) 115 = .ok (.iload_n 3, 1) := by decide +kernel
theorem dX4_doorToChange_116 : decode (mC mX4_doorToChange) 116 = .ok (.if_icmp .le 15, 3) := by decide +kernel
theorem dX4_doorToChange_119 : decode (mC mX4_doorToChange) 119 = .ok (.aload_n 0, 1) := by decide +kernel
theorem dX4_doorToChange_120 : decode (mC mX4_doorToChange) 120 = .ok (.getfield 16, 3) := by decide +kernel
theorem dX4_doorToChange_123 : decode (mC mX4_doorToChange) 123 = .ok (.invokevirtual 156, 3) := by decide +kernel
theorem dX4_doorToChange_126 : decode (mC mX4_doorToChange) 126 = .ok (.istore_n 3, 1) := by decide +kernel
theorem dX4_doorToChange_127 : decode (mC mX4_doorToChange) 127 = .ok (.iload 5, 2) := by decide +kernel
theorem dX4_doorToChange_129 : decode (mC mX4_doorToChange) 129 = .ok (.istore 4, 2) := by decide +kernel
theorem dX4_doorToChange_131 : decode (mC mX4_doorToChange) 131 = .ok (.iinc 5 1, 3) := by decide +kernel
theorem dX4_doorToChange_134 : decode (mC mX4_doorToChange) 134 = .ok (.goto (-98), 3) := by decide +kernel
theorem dX4_doorToChange_137 : decode (mC mX4_doorToChange) 137 = .ok (.iload 4, 2) := by decide +kernel
theorem dX4_doorToChange_139 : decode (mC mX4_doorToChange) 139 = .ok (.ireturn, 1) := by decide +kernel
theorem dX4_holds_0 : decode (mC mX4_holds) 0 = .ok (.iload_n 1, 1) := by decide +kernel
theorem dX4_holds_1 : decode (mC mX4_holds) 1 = .ok (.ifCond .lt 9, 3) := by decide +kernel
theorem dX4_holds_4 : decode (mC mX4_holds) 4 = .ok (.iload_n 1, 1) := by decide +kernel
theorem dX4_holds_5 : decode (mC mX4_holds) 5 = .ok (.bipush 30, 2) := by decide +kernel
theorem dX4_holds_7 : decode (mC mX4_holds) 7 = .ok (.if_icmp .le 9, 3) := by decide +kernel
theorem dX4_holds_10 : decode (mC mX4_holds) 10 = .ok (.aload_n 0, 1) := by decide +kernel
theorem dX4_holds_11 : decode (mC mX4_holds) 11 = .ok (.iload_n 1, 1) := by decide +kernel
theorem dX4_holds_12 : decode (mC mX4_holds) 12 = .ok (.invokevirtual 149, 3) := by decide +kernel
theorem dX4_holds_15 : decode (mC mX4_holds) 15 = .ok (.ireturn, 1) := by decide +kernel
theorem dX4_holds_16 : decode (mC mX4_holds) 16 = .ok (.iload_n 2, 1) := by decide +kernel
theorem dX4_holds_17 : decode (mC mX4_holds) 17 = .ok (.invokestatic 159, 3) := by decide +kernel
theorem dX4_holds_20 : decode (mC mX4_holds) 20 = .ok (.ifCond .ne 10, 3) := by decide +kernel
theorem dX4_holds_23 : decode (mC mX4_holds) 23 = .ok (.aload_n 0, 1) := by decide +kernel
theorem dX4_holds_24 : decode (mC mX4_holds) 24 = .ok (.bipush (-2), 2) := by decide +kernel
theorem dX4_holds_26 : decode (mC mX4_holds) 26 = .ok (.invokevirtual 45, 3) := by decide +kernel
theorem dX4_holds_29 : decode (mC mX4_holds) 29 = .ok (.ireturn, 1) := by decide +kernel
theorem dX4_holds_30 : decode (mC mX4_holds) 30 = .ok (.bipush (-9), 2) := by decide +kernel
theorem dX4_holds_32 : decode (mC mX4_holds) 32 = .ok (.istore_n 3, 1) := by decide +kernel
theorem dX4_holds_33 : decode (mC mX4_holds) 33 = .ok (.bipush (-9), 2) := by decide +kernel
theorem dX4_holds_35 : decode (mC mX4_holds) 35 = .ok (.istore 4, 2) := by decide +kernel
theorem dX4_holds_37 : decode (mC mX4_holds) 37 = .ok (.iconst 0, 1) := by decide +kernel
theorem dX4_holds_38 : decode (mC mX4_holds) 38 = .ok (.istore 5, 2) := by decide +kernel
theorem dX4_holds_40 : decode (mC mX4_holds) 40 = .ok (.iload 5, 2) := by decide +kernel
theorem dX4_holds_42 : decode (mC mX4_holds) 42 = .ok (.aload_n 0, 1) := by decide +kernel
theorem dX4_holds_43 : decode (mC mX4_holds) 43 = .ok (.getfield 10, 3) := by decide +kernel
theorem dX4_holds_46 : decode (mC mX4_holds) 46 = .ok (.getfield 171, 3) := by decide +kernel
theorem dX4_holds_49 : decode (mC mX4_holds) 49 = .ok (.if_icmp .ge 69, 3) := by decide +kernel
theorem dX4_holds_52 : decode (mC mX4_holds) 52 = .ok (.aload_n 0, 1) := by decide +kernel
theorem dX4_holds_53 : decode (mC mX4_holds) 53 = .ok (.getfield 16, 3) := by decide +kernel
theorem dX4_holds_56 : decode (mC mX4_holds) 56 = .ok (.aload_n 0, 1) := by decide +kernel
theorem dX4_holds_57 : decode (mC mX4_holds) 57 = .ok (.getfield 10, 3) := by decide +kernel
theorem dX4_holds_60 : decode (mC mX4_holds) 60 = .ok (.invokevirtual 69, 3) := by decide +kernel
theorem dX4_holds_63 : decode (mC mX4_holds) 63 = .ok (.aload_n 0, 1) := by decide +kernel
theorem dX4_holds_64 : decode (mC mX4_holds) 64 = .ok (.getfield 16, 3) := by decide +kernel
theorem dX4_holds_67 : decode (mC mX4_holds) 67 = .ok (.iload 5, 2) := by decide +kernel
theorem dX4_holds_69 : decode (mC mX4_holds) 69 = .ok (.invokevirtual 221, 3) := by decide +kernel
theorem dX4_holds_72 : decode (mC mX4_holds) 72 = .ok (.aload_n 0, 1) := by decide +kernel
theorem dX4_holds_73 : decode (mC mX4_holds) 73 = .ok (.getfield 16, 3) := by decide +kernel
theorem dX4_holds_76 : decode (mC mX4_holds) 76 = .ok (.iload_n 1, 1) := by decide +kernel
theorem dX4_holds_77 : decode (mC mX4_holds) 77 = .ok (.iconst 0, 1) := by decide +kernel
theorem dX4_holds_78 : decode (mC mX4_holds) 78 = .ok (.invokevirtual 152, 3) := by decide +kernel
theorem dX4_holds_81 : decode (mC mX4_holds) 81 = .ok (.pop, 1) := by decide +kernel
theorem dX4_holds_82 : decode (mC mX4_holds) 82 = .ok (.iload_n 3, 1) := by decide +kernel
theorem dX4_holds_83 : decode (mC mX4_holds) 83 = .ok (.bipush (-9), 2) := by decide +kernel
theorem dX4_holds_85 : decode (mC mX4_holds) 85 = .ok (.if_icmp .eq 15, 3) := by decide +kernel
theorem dX4_holds_88 : decode (mC mX4_holds) 88 = .ok (.aload_n 0, 1) := by decide +kernel
theorem dX4_holds_89 : decode (mC mX4_holds) 89 = .ok (.getfield 16, 3) := by decide +kernel
theorem dX4_holds_92 : decode (mC mX4_holds) 92 = .ok (.invokevirtual 156, 3) := by decide +kernel
theorem dX4_holds_95 : decode (mC mX4_holds) 95 = .ok (.iload 4, 2) := by decide +kernel
theorem dX4_holds_97 : decode (mC mX4_holds) 97 = .ok (.if_icmp .ge 15, 3) := by decide +kernel
theorem dX4_holds_100 : decode (mC mX4_holds) 100 = .ok (.aload_n 0, 1) := by decide +kernel
theorem dX4_holds_101 : decode (mC mX4_holds) 101 = .ok (.getfield 16, 3) := by decide +kernel
theorem dX4_holds_104 : decode (mC mX4_holds) 104 = .ok (.invokevirtual 156, 3) := by decide +kernel
theorem dX4_holds_107 : decode (mC mX4_holds) 107 = .ok (.istore 4, 2) := by decide +kernel
theorem dX4_holds_109 : decode (mC mX4_holds) 109 = .ok (.iload 5, 2) := by decide +kernel
theorem dX4_holds_111 : decode (mC mX4_holds) 111 = .ok (.istore_n 3, 1) := by decide +kernel
theorem dX4_holds_112 : decode (mC mX4_holds) 112 = .ok (.iinc 5 1, 3) := by decide +kernel
theorem dX4_holds_115 : decode (mC mX4_holds) 115 = .ok (.goto (-75), 3) := by decide +kernel
theorem dX4_holds_118 : decode (mC mX4_holds) 118 = .ok (.iload_n 2, 1) := by decide +kernel
theorem dX4_holds_119 : decode (mC mX4_holds) 119 = .ok (.ifCond .ne 7, 3) := by decide +kernel
theorem dX4_holds_122 : decode (mC mX4_holds) 122 = .ok (.iload_n 3, 1) := by decide +kernel
theorem dX4_holds_123 : decode (mC mX4_holds) 123 = .ok (.goto 5, 3) := by decide +kernel
theorem dX4_holds_126 : decode (mC mX4_holds) 126 = .ok (.iload 4, 2) := by decide +kernel
theorem dX4_holds_128 : decode (mC mX4_holds) 128 = .ok (.ireturn, 1) := by decide +kernel
theorem dX4_crowd_0 : decode (mC mX4_crowd) 0 = .ok (.iload_n 1, 1) := by decide +kernel
theorem dX4_crowd_1 : decode (mC mX4_crowd) 1 = .ok (.tableswitch 58 0 3 #[31, 36, 48, 53], 31) := by decide +kernel
theorem dX4_crowd_32 : decode (mC mX4_crowd) 32 = .ok (.aload_n 0, 1) := by decide +kernel
theorem dX4_crowd_33 : decode (mC mX4_crowd) 33 = .ok (.invokevirtual 224, 3) := by decide +kernel
theorem dX4_crowd_36 : decode (mC mX4_crowd) 36 = .ok (.ireturn, 1) := by decide +kernel
theorem dX4_crowd_37 : decode (mC mX4_crowd) 37 = .ok (.aload_n 0, 1) := by decide +kernel
theorem dX4_crowd_38 : decode (mC mX4_crowd) 38 = .ok (.getfield 10, 3) := by decide +kernel
theorem dX4_crowd_41 : decode (mC mX4_crowd) 41 = .ok (.aload_n 0, 1) := by decide +kernel
theorem dX4_crowd_42 : decode (mC mX4_crowd) 42 = .ok (.invokevirtual 224, 3) := by decide +kernel
theorem dX4_crowd_45 : decode (mC mX4_crowd) 45 = .ok (.invokevirtual 227, 3) := by decide +kernel
theorem dX4_crowd_48 : decode (mC mX4_crowd) 48 = .ok (.ireturn, 1) := by decide +kernel
theorem dX4_crowd_49 : decode (mC mX4_crowd) 49 = .ok (.aload_n 0, 1) := by decide +kernel
theorem dX4_crowd_50 : decode (mC mX4_crowd) 50 = .ok (.invokevirtual 230, 3) := by decide +kernel
theorem dX4_crowd_53 : decode (mC mX4_crowd) 53 = .ok (.ireturn, 1) := by decide +kernel
theorem dX4_crowd_54 : decode (mC mX4_crowd) 54 = .ok (.aload_n 0, 1) := by decide +kernel
theorem dX4_crowd_55 : decode (mC mX4_crowd) 55 = .ok (.invokevirtual 233, 3) := by decide +kernel
theorem dX4_crowd_58 : decode (mC mX4_crowd) 58 = .ok (.ireturn, 1) := by decide +kernel
theorem dX4_crowd_59 : decode (mC mX4_crowd) 59 = .ok (.aload_n 0, 1) := by decide +kernel
theorem dX4_crowd_60 : decode (mC mX4_crowd) 60 = .ok (.bipush (-2), 2) := by decide +kernel
theorem dX4_crowd_62 : decode (mC mX4_crowd) 62 = .ok (.invokevirtual 45, 3) := by decide +kernel
theorem dX4_crowd_65 : decode (mC mX4_crowd) 65 = .ok (.ireturn, 1) := by decide +kernel
theorem dX4_crowdedRoom_0 : decode (mC mX4_crowdedRoom) 0 = .ok (.iconst 0, 1) := by decide +kernel
theorem dX4_crowdedRoom_1 : decode (mC mX4_crowdedRoom) 1 = .ok (.istore_n 1, 1) := by decide +kernel
theorem dX4_crowdedRoom_2 : decode (mC mX4_crowdedRoom) 2 = .ok (.iconst 1, 1) := by decide +kernel
theorem dX4_crowdedRoom_3 : decode (mC mX4_crowdedRoom) 3 = .ok (.istore_n 2, 1) := by decide +kernel
theorem dX4_crowdedRoom_4 : decode (mC mX4_crowdedRoom) 4 = .ok (.iload_n 2, 1) := by decide +kernel
theorem dX4_crowdedRoom_5 : decode (mC mX4_crowdedRoom) 5 = .ok (.bipush 8, 2) := by decide +kernel
theorem dX4_crowdedRoom_7 : decode (mC mX4_crowdedRoom) 7 = .ok (.if_icmp .ge 30, 3) := by decide +kernel
theorem dX4_crowdedRoom_10 : decode (mC mX4_crowdedRoom) 10 = .ok (.aload_n 0, 1) := by decide +kernel
theorem dX4_crowdedRoom_11 : decode (mC mX4_crowdedRoom) 11 = .ok (.getfield 10, 3) := by decide +kernel
theorem dX4_crowdedRoom_14 : decode (mC mX4_crowdedRoom) 14 = .ok (.iload_n 2, 1) := by decide +kernel
theorem dX4_crowdedRoom_15 : decode (mC mX4_crowdedRoom) 15 = .ok (.invokevirtual 227, 3) := by decide +kernel
theorem dX4_crowdedRoom_18 : decode (mC mX4_crowdedRoom) 18 = .ok (.aload_n 0, 1) := by decide +kernel
theorem dX4_crowdedRoom_19 : decode (mC mX4_crowdedRoom) 19 = .ok (.getfield 10, 3) := by decide +kernel
theorem dX4_crowdedRoom_22 : decode (mC mX4_crowdedRoom) 22 = .ok (.iload_n 1, 1) := by decide +kernel
theorem dX4_crowdedRoom_23 : decode (mC mX4_crowdedRoom) 23 = .ok (.invokevirtual 227, 3) := by decide +kernel
theorem dX4_crowdedRoom_26 : decode (mC mX4_crowdedRoom) 26 = .ok (.if_icmp .le 5, 3) := by decide +kernel
theorem dX4_crowdedRoom_29 : decode (mC mX4_crowdedRoom) 29 = .ok (.iload_n 2, 1) := by decide +kernel
theorem dX4_crowdedRoom_30 : decode (mC mX4_crowdedRoom) 30 = .ok (.istore_n 1, 1) := by decide +kernel
theorem dX4_crowdedRoom_31 : decode (mC mX4_crowdedRoom) 31 = .ok (.iinc 2 1, 3) := by decide +kernel
theorem dX4_crowdedRoom_34 : decode (mC mX4_crowdedRoom) 34 = .ok (.goto (-30), 3) := by decide +kernel
theorem dX4_crowdedRoom_37 : decode (mC mX4_crowdedRoom) 37 = .ok (.iload_n 1, 1) := by decide +kernel
theorem dX4_crowdedRoom_38 : decode (mC mX4_crowdedRoom) 38 = .ok (.ireturn, 1) := by decide +kernel
theorem dX4_emptyRooms_0 : decode (mC mX4_emptyRooms) 0 = .ok (.iconst 0, 1) := by decide +kernel
theorem dX4_emptyRooms_1 : decode (mC mX4_emptyRooms) 1 = .ok (.istore_n 1, 1) := by decide +kernel
theorem dX4_emptyRooms_2 : decode (mC mX4_emptyRooms) 2 = .ok (.iconst 0, 1) := by decide +kernel
theorem dX4_emptyRooms_3 : decode (mC mX4_emptyRooms) 3 = .ok (.istore_n 2, 1) := by decide +kernel
theorem dX4_emptyRooms_4 : decode (mC mX4_emptyRooms) 4 = .ok (.iload_n 2, 1) := by decide +kernel
theorem dX4_emptyRooms_5 : decode (mC mX4_emptyRooms) 5 = .ok (.bipush 8, 2) := by decide +kernel
theorem dX4_emptyRooms_7 : decode (mC mX4_emptyRooms) 7 = .ok (.if_icmp .ge 26, 3) := by decide +kernel
theorem dX4_emptyRooms_10 : decode (mC mX4_emptyRooms) 10 = .ok (.aload_n 0, 1) := by decide +kernel
theorem dX4_emptyRooms_11 : decode (mC mX4_emptyRooms) 11 = .ok (.getfield 10, 3) := by decide +kernel
theorem dX4_emptyRooms_14 : decode (mC mX4_emptyRooms) 14 = .ok (.iload_n 2, 1) := by decide +kernel
theorem dX4_emptyRooms_15 : decode (mC mX4_emptyRooms) 15 = .ok (.invokevirtual 227, 3) := by decide +kernel
theorem dX4_emptyRooms_18 : decode (mC mX4_emptyRooms) 18 = .ok (.ifCond .ne 9, 3) := by decide +kernel
theorem dX4_emptyRooms_21 : decode (mC mX4_emptyRooms) 21 = .ok (.iload_n 1, 1) := by decide +kernel
theorem dX4_emptyRooms_22 : decode (mC mX4_emptyRooms) 22 = .ok (.iconst 1, 1) := by decide +kernel
theorem dX4_emptyRooms_23 : decode (mC mX4_emptyRooms) 23 = .ok (.iload_n 2, 1) := by decide +kernel
theorem dX4_emptyRooms_24 : decode (mC mX4_emptyRooms) 24 = .ok (.ishl, 1) := by decide +kernel
theorem dX4_emptyRooms_25 : decode (mC mX4_emptyRooms) 25 = .ok (.ior, 1) := by decide +kernel
theorem dX4_emptyRooms_26 : decode (mC mX4_emptyRooms) 26 = .ok (.istore_n 1, 1) := by decide +kernel
theorem dX4_emptyRooms_27 : decode (mC mX4_emptyRooms) 27 = .ok (.iinc 2 1, 3) := by decide +kernel
theorem dX4_emptyRooms_30 : decode (mC mX4_emptyRooms) 30 = .ok (.goto (-26), 3) := by decide +kernel
theorem dX4_emptyRooms_33 : decode (mC mX4_emptyRooms) 33 = .ok (.iload_n 1, 1) := by decide +kernel
theorem dX4_emptyRooms_34 : decode (mC mX4_emptyRooms) 34 = .ok (.ireturn, 1) := by decide +kernel
theorem dX4_deadRooms_0 : decode (mC mX4_deadRooms) 0 = .ok (.iconst 0, 1) := by decide +kernel
theorem dX4_deadRooms_1 : decode (mC mX4_deadRooms) 1 = .ok (.istore_n 1, 1) := by decide +kernel
theorem dX4_deadRooms_2 : decode (mC mX4_deadRooms) 2 = .ok (.iconst 0, 1) := by decide +kernel
theorem dX4_deadRooms_3 : decode (mC mX4_deadRooms) 3 = .ok (.istore_n 2, 1) := by decide +kernel
theorem dX4_deadRooms_4 : decode (mC mX4_deadRooms) 4 = .ok (.iload_n 2, 1) := by decide +kernel
theorem dX4_deadRooms_5 : decode (mC mX4_deadRooms) 5 = .ok (.bipush 8, 2) := by decide +kernel
theorem dX4_deadRooms_7 : decode (mC mX4_deadRooms) 7 = .ok (.if_icmp .ge 42, 3) := by decide +kernel
theorem dX4_deadRooms_10 : decode (mC mX4_deadRooms) 10 = .ok (.aload_n 0, 1) := by decide +kernel
theorem dX4_deadRooms_11 : decode (mC mX4_deadRooms) 11 = .ok (.getfield 10, 3) := by decide +kernel
theorem dX4_deadRooms_14 : decode (mC mX4_deadRooms) 14 = .ok (.getfield 90, 3) := by decide +kernel
theorem dX4_deadRooms_17 : decode (mC mX4_deadRooms) 17 = .ok (.getfield 110, 3) := by decide +kernel
theorem dX4_deadRooms_20 : decode (mC mX4_deadRooms) 20 = .ok (.aload_n 0, 1) := by decide +kernel
theorem dX4_deadRooms_21 : decode (mC mX4_deadRooms) 21 = .ok (.getfield 10, 3) := by decide +kernel
theorem dX4_deadRooms_24 : decode (mC mX4_deadRooms) 24 = .ok (.getfield 90, 3) := by decide +kernel
theorem dX4_deadRooms_27 : decode (mC mX4_deadRooms) 27 = .ok (.getfield 181, 3) := by decide +kernel
theorem dX4_deadRooms_30 : decode (mC mX4_deadRooms) 30 = .ok (.iload_n 2, 1) := by decide +kernel
theorem dX4_deadRooms_31 : decode (mC mX4_deadRooms) 31 = .ok (.invokestatic 236, 3) := by decide +kernel
theorem dX4_deadRooms_34 : decode (mC mX4_deadRooms) 34 = .ok (.ifCond .ne 9, 3) := by decide +kernel
theorem dX4_deadRooms_37 : decode (mC mX4_deadRooms) 37 = .ok (.iload_n 1, 1) := by decide +kernel
theorem dX4_deadRooms_38 : decode (mC mX4_deadRooms) 38 = .ok (.iconst 1, 1) := by decide +kernel
theorem dX4_deadRooms_39 : decode (mC mX4_deadRooms) 39 = .ok (.iload_n 2, 1) := by decide +kernel
theorem dX4_deadRooms_40 : decode (mC mX4_deadRooms) 40 = .ok (.ishl, 1) := by decide +kernel
theorem dX4_deadRooms_41 : decode (mC mX4_deadRooms) 41 = .ok (.ior, 1) := by decide +kernel
theorem dX4_deadRooms_42 : decode (mC mX4_deadRooms) 42 = .ok (.istore_n 1, 1) := by decide +kernel
theorem dX4_deadRooms_43 : decode (mC mX4_deadRooms) 43 = .ok (.iinc 2 1, 3) := by decide +kernel
theorem dX4_deadRooms_46 : decode (mC mX4_deadRooms) 46 = .ok (.goto (-42), 3) := by decide +kernel
theorem dX4_deadRooms_49 : decode (mC mX4_deadRooms) 49 = .ok (.iload_n 1, 1) := by decide +kernel
theorem dX4_deadRooms_50 : decode (mC mX4_deadRooms) 50 = .ok (.ireturn, 1) := by decide +kernel
theorem dX4_handles_0 : decode (mC mX4_handles) 0 = .ok (.iload_n 1, 1) := by decide +kernel
theorem dX4_handles_1 : decode (mC mX4_handles) 1 = .ok (.invokestatic 142, 3) := by decide +kernel
theorem dX4_handles_4 : decode (mC mX4_handles) 4 = .ok (.ifCond .ne 9, 3) := by decide +kernel
theorem dX4_handles_7 : decode (mC mX4_handles) 7 = .ok (.aload_n 0, 1) := by decide +kernel
theorem dX4_handles_8 : decode (mC mX4_handles) 8 = .ok (.iconst (-1), 1) := by decide +kernel
theorem dX4_handles_9 : decode (mC mX4_handles) 9 = .ok (.invokevirtual 45, 3) := by decide +kernel
theorem dX4_handles_12 : decode (mC mX4_handles) 12 = .ok (.ireturn, 1) := by decide +kernel
theorem dX4_handles_13 : decode (mC mX4_handles) 13 = .ok (.aload_n 0, 1) := by decide +kernel
theorem dX4_handles_14 : decode (mC mX4_handles) 14 = .ok (.getfield 10, 3) := by decide +kernel
theorem dX4_handles_17 : decode (mC mX4_handles) 17 = .ok (.getfield 90, 3) := by decide +kernel
theorem dX4_handles_20 : decode (mC mX4_handles) 20 = .ok (.getfield 113, 3) := by decide +kernel
theorem dX4_handles_23 : decode (mC mX4_handles) 23 = .ok (.aload_n 0, 1) := by decide +kernel
theorem dX4_handles_24 : decode (mC mX4_handles) 24 = .ok (.getfield 10, 3) := by decide +kernel
theorem dX4_handles_27 : decode (mC mX4_handles) 27 = .ok (.getfield 90, 3) := by decide +kernel
theorem dX4_handles_30 : decode (mC mX4_handles) 30 = .ok (.getfield 181, 3) := by decide +kernel
theorem dX4_handles_33 : decode (mC mX4_handles) 33 = .ok (.iload_n 1, 1) := by decide +kernel
theorem dX4_handles_34 : decode (mC mX4_handles) 34 = .ok (.invokestatic 236, 3) := by decide +kernel
theorem dX4_handles_37 : decode (mC mX4_handles) 37 = .ok (.ireturn, 1) := by decide +kernel
theorem dX4_meet_0 : decode (mC mX4_meet) 0 = .ok (.iload_n 1, 1) := by decide +kernel
theorem dX4_meet_1 : decode (mC mX4_meet) 1 = .ok (.invokestatic 159, 3) := by decide +kernel
theorem dX4_meet_4 : decode (mC mX4_meet) 4 = .ok (.ifCond .ne 10, 3) := by decide +kernel
theorem dX4_meet_7 : decode (mC mX4_meet) 7 = .ok (.aload_n 0, 1) := by decide +kernel
theorem dX4_meet_8 : decode (mC mX4_meet) 8 = .ok (.bipush (-2), 2) := by decide +kernel
theorem dX4_meet_10 : decode (mC mX4_meet) 10 = .ok (.invokevirtual 45, 3) := by decide +kernel
theorem dX4_meet_13 : decode (mC mX4_meet) 13 = .ok (.ireturn, 1) := by decide +kernel
theorem dX4_meet_14 : decode (mC mX4_meet) 14 = .ok (.bipush (-9), 2) := by decide +kernel
theorem dX4_meet_16 : decode (mC mX4_meet) 16 = .ok (.istore_n 2, 1) := by decide +kernel
theorem dX4_meet_17 : decode (mC mX4_meet) 17 = .ok (.sipush 1000, 3) := by decide +kernel
theorem dX4_meet_20 : decode (mC mX4_meet) 20 = .ok (.istore_n 3, 1) := by decide +kernel
theorem dX4_meet_21 : decode (mC mX4_meet) 21 = .ok (.iconst 0, 1) := by decide +kernel
theorem dX4_meet_22 : decode (mC mX4_meet) 22 = .ok (.istore 4, 2) := by decide +kernel
theorem dX4_meet_24 : decode (mC mX4_meet) 24 = .ok (.iload 4, 2) := by decide +kernel
theorem dX4_meet_26 : decode (mC mX4_meet) 26 = .ok (.bipush 8, 2) := by decide +kernel
theorem dX4_meet_28 : decode (mC mX4_meet) 28 = .ok (.if_icmp .ge 29, 3) := by decide +kernel
theorem dX4_meet_31 : decode (mC mX4_meet) 31 = .ok (.aload_n 0, 1) := by decide +kernel
theorem dX4_meet_32 : decode (mC mX4_meet) 32 = .ok (.iload 4, 2) := by decide +kernel
theorem dX4_meet_34 : decode (mC mX4_meet) 34 = .ok (.invokevirtual 239, 3) := by decide +kernel
theorem dX4_meet_37 : decode (mC mX4_meet) 37 = .ok (.istore 5, 2) := by decide +kernel
theorem dX4_meet_39 : decode (mC mX4_meet) 39 = .ok (.iload 5, 2) := by decide +kernel
theorem dX4_meet_41 : decode (mC mX4_meet) 41 = .ok (.iload_n 3, 1) := by decide +kernel
theorem dX4_meet_42 : decode (mC mX4_meet) 42 = .ok (.if_icmp .ge 9, 3) := by decide +kernel
theorem dX4_meet_45 : decode (mC mX4_meet) 45 = .ok (.iload 5, 2) := by decide +kernel
theorem dX4_meet_47 : decode (mC mX4_meet) 47 = .ok (.istore_n 3, 1) := by decide +kernel
theorem dX4_meet_48 : decode (mC mX4_meet) 48 = .ok (.iload 4, 2) := by decide +kernel
theorem dX4_meet_50 : decode (mC mX4_meet) 50 = .ok (.istore_n 2, 1) := by decide +kernel
theorem dX4_meet_51 : decode (mC mX4_meet) 51 = .ok (.iinc 4 1, 3) := by decide +kernel
theorem dX4_meet_54 : decode (mC mX4_meet) 54 = .ok (.goto (-30), 3) := by decide +kernel
theorem dX4_meet_57 : decode (mC mX4_meet) 57 = .ok (.iload_n 1, 1) := by decide +kernel
theorem dX4_meet_58 : decode (mC mX4_meet) 58 = .ok (.ifCond .ne 7, 3) := by decide +kernel
theorem dX4_meet_61 : decode (mC mX4_meet) 61 = .ok (.iload_n 2, 1) := by decide +kernel
theorem dX4_meet_62 : decode (mC mX4_meet) 62 = .ok (.goto 7, 3) := by decide +kernel
theorem dX4_meet_65 : decode (mC mX4_meet) 65 = .ok (.iload_n 3, 1) := by decide +kernel
theorem dX4_meet_66 : decode (mC mX4_meet) 66 = .ok (.invokestatic 175, 3) := by decide +kernel
theorem dX4_meet_69 : decode (mC mX4_meet) 69 = .ok (.ireturn, 1) := by decide +kernel
theorem dX4_waysOfAllTo_0 : decode (mC mX4_waysOfAllTo) 0 = .ok (.iconst 0, 1) := by decide +kernel
theorem dX4_waysOfAllTo_1 : decode (mC mX4_waysOfAllTo) 1 = .ok (.istore_n 2, 1) := by decide +kernel
theorem dX4_waysOfAllTo_2 : decode (mC mX4_waysOfAllTo) 2 = .ok (.iconst 0, 1) := by decide +kernel
theorem dX4_waysOfAllTo_3 : decode (mC mX4_waysOfAllTo) 3 = .ok (.istore_n 3, 1) := by decide +kernel
theorem dX4_waysOfAllTo_4 : decode (mC mX4_waysOfAllTo) 4 = .ok (.iload_n 3, 1) := by decide +kernel
theorem dX4_waysOfAllTo_5 : decode (mC mX4_waysOfAllTo) 5 = .ok (.aload_n 0, 1) := by decide +kernel
theorem dX4_waysOfAllTo_6 : decode (mC mX4_waysOfAllTo) 6 = .ok (.getfield 10, 3) := by decide +kernel
theorem dX4_waysOfAllTo_9 : decode (mC mX4_waysOfAllTo) 9 = .ok (.getfield 171, 3) := by decide +kernel
theorem dX4_waysOfAllTo_12 : decode (mC mX4_waysOfAllTo) 12 = .ok (.if_icmp .ge 34, 3) := by decide +kernel
theorem dX4_waysOfAllTo_15 : decode (mC mX4_waysOfAllTo) 15 = .ok (.iload_n 2, 1) := by decide +kernel
theorem dX4_waysOfAllTo_16 : decode (mC mX4_waysOfAllTo) 16 = .ok (.aload_n 0, 1) := by decide +kernel
theorem dX4_waysOfAllTo_17 : decode (mC mX4_waysOfAllTo) 17 = .ok (.getfield 10, 3) := by decide +kernel
theorem dX4_waysOfAllTo_20 : decode (mC mX4_waysOfAllTo) 20 = .ok (.getfield 90, 3) := by decide +kernel
theorem dX4_waysOfAllTo_23 : decode (mC mX4_waysOfAllTo) 23 = .ok (.aload_n 0, 1) := by decide +kernel
theorem dX4_waysOfAllTo_24 : decode (mC mX4_waysOfAllTo) 24 = .ok (.getfield 10, 3) := by decide +kernel
theorem dX4_waysOfAllTo_27 : decode (mC mX4_waysOfAllTo) 27 = .ok (.getfield 120, 3) := by decide +kernel
theorem dX4_waysOfAllTo_30 : decode (mC mX4_waysOfAllTo) 30 = .ok (.iload_n 3, 1) := by decide +kernel
theorem dX4_waysOfAllTo_31 : decode (mC mX4_waysOfAllTo) 31 = .ok (.invokestatic 103, 3) := by decide +kernel
theorem dX4_waysOfAllTo_34 : decode (mC mX4_waysOfAllTo) 34 = .ok (.iload_n 1, 1) := by decide +kernel
theorem dX4_waysOfAllTo_35 : decode (mC mX4_waysOfAllTo) 35 = .ok (.invokevirtual 172, 3) := by decide +kernel
theorem dX4_waysOfAllTo_38 : decode (mC mX4_waysOfAllTo) 38 = .ok (.iadd, 1) := by decide +kernel
theorem dX4_waysOfAllTo_39 : decode (mC mX4_waysOfAllTo) 39 = .ok (.istore_n 2, 1) := by decide +kernel
theorem dX4_waysOfAllTo_40 : decode (mC mX4_waysOfAllTo) 40 = .ok (.iinc 3 1, 3) := by decide +kernel
theorem dX4_waysOfAllTo_43 : decode (mC mX4_waysOfAllTo) 43 = .ok (.goto (-39), 3) := by decide +kernel
theorem dX4_waysOfAllTo_46 : decode (mC mX4_waysOfAllTo) 46 = .ok (.iload_n 2, 1) := by decide +kernel
theorem dX4_waysOfAllTo_47 : decode (mC mX4_waysOfAllTo) 47 = .ok (.sipush 1000, 3) := by decide +kernel
theorem dX4_waysOfAllTo_50 : decode (mC mX4_waysOfAllTo) 50 = .ok (.invokestatic 186, 3) := by decide +kernel
theorem dX4_waysOfAllTo_53 : decode (mC mX4_waysOfAllTo) 53 = .ok (.ireturn, 1) := by decide +kernel
theorem dX4_two_0 : decode (mC mX4_two) 0 = .ok (.aload_n 0, 1) := by decide +kernel
theorem dX4_two_1 : decode (mC mX4_two) 1 = .ok (.getfield 10, 3) := by decide +kernel
theorem dX4_two_4 : decode (mC mX4_two) 4 = .ok (.iload_n 1, 1) := by decide +kernel
theorem dX4_two_5 : decode (mC mX4_two) 5 = .ok (.invokevirtual 119, 3) := by decide +kernel
theorem dX4_two_8 : decode (mC mX4_two) 8 = .ok (.ifCond .eq 19, 3) := by decide +kernel
theorem dX4_two_11 : decode (mC mX4_two) 11 = .ok (.aload_n 0, 1) := by decide +kernel
theorem dX4_two_12 : decode (mC mX4_two) 12 = .ok (.getfield 10, 3) := by decide +kernel
theorem dX4_two_15 : decode (mC mX4_two) 15 = .ok (.iload_n 2, 1) := by decide +kernel
theorem dX4_two_16 : decode (mC mX4_two) 16 = .ok (.invokevirtual 119, 3) := by decide +kernel
theorem dX4_two_19 : decode (mC mX4_two) 19 = .ok (.ifCond .eq 8, 3) := by decide +kernel
theorem dX4_two_22 : decode (mC mX4_two) 22 = .ok (.iload_n 1, 1) := by decide +kernel
theorem dX4_two_23 : decode (mC mX4_two) 23 = .ok (.iload_n 2, 1) := by decide +kernel
theorem dX4_two_24 : decode (mC mX4_two) 24 = .ok (.if_icmp .ne 9, 3) := by decide +kernel
theorem dX4_two_27 : decode (mC mX4_two) 27 = .ok (.aload_n 0, 1) := by decide +kernel
theorem dX4_two_28 : decode (mC mX4_two) 28 = .ok (.iconst (-1), 1) := by decide +kernel
theorem dX4_two_29 : decode (mC mX4_two) 29 = .ok (.invokevirtual 45, 3) := by decide +kernel
theorem dX4_two_32 : decode (mC mX4_two) 32 = .ok (.ireturn, 1) := by decide +kernel
theorem dX4_two_33 : decode (mC mX4_two) 33 = .ok (.iload_n 3, 1) := by decide +kernel
theorem dX4_two_34 : decode (mC mX4_two) 34 = .ok (.ifCond .lt 9, 3) := by decide +kernel
theorem dX4_two_37 : decode (mC mX4_two) 37 = .ok (.iload_n 3, 1) := by decide +kernel
theorem dX4_two_38 : decode (mC mX4_two) 38 = .ok (.bipush 30, 2) := by decide +kernel
theorem dX4_two_40 : decode (mC mX4_two) 40 = .ok (.if_icmp .le 9, 3) := by decide +kernel
theorem dX4_two_43 : decode (mC mX4_two) 43 = .ok (.aload_n 0, 1) := by decide +kernel
theorem dX4_two_44 : decode (mC mX4_two) 44 = .ok (.iload_n 3, 1) := by decide +kernel
theorem dX4_two_45 : decode (mC mX4_two) 45 = .ok (.invokevirtual 149, 3) := by decide +kernel
theorem dX4_two_48 : decode (mC mX4_two) 48 = .ok (.ireturn, 1) := by decide +kernel
theorem dX4_two_49 : decode (mC mX4_two) 49 = .ok (.iconst 0, 1) := by decide +kernel
theorem dX4_two_50 : decode (mC mX4_two) 50 = .ok (.istore 4, 2) := by decide +kernel
theorem dX4_two_52 : decode (mC mX4_two) 52 = .ok (.iload 4, 2) := by decide +kernel
theorem dX4_two_54 : decode (mC mX4_two) 54 = .ok (.iconst 4, 1) := by decide +kernel
theorem dX4_two_55 : decode (mC mX4_two) 55 = .ok (.if_icmp .ge 18, 3) := by decide +kernel
theorem dX4_two_58 : decode (mC mX4_two) 58 = .ok (.aload_n 0, 1) := by decide +kernel
theorem dX4_two_59 : decode (mC mX4_two) 59 = .ok (.iload_n 1, 1) := by decide +kernel
theorem dX4_two_60 : decode (mC mX4_two) 60 = .ok (.iload_n 2, 1) := by decide +kernel
theorem dX4_two_61 : decode (mC mX4_two) 61 = .ok (.iload 4, 2) := by decide +kernel
theorem dX4_two_63 : decode (mC mX4_two) 63 = .ok (.iload_n 3, 1) := by decide +kernel
theorem dX4_two_64 : decode (mC mX4_two) 64 = .ok (.invokevirtual 242, 3) := by decide +kernel
theorem dX4_two_67 : decode (mC mX4_two) 67 = .ok (.iinc 4 1, 3) := by decide +kernel
theorem dX4_two_70 : decode (mC mX4_two) 70 = .ok (.goto (-18), 3) := by decide +kernel
theorem dX4_two_73 : decode (mC mX4_two) 73 = .ok (.iconst 0, 1) := by decide +kernel
theorem dX4_two_74 : decode (mC mX4_two) 74 = .ok (.istore 4, 2) := by decide +kernel
theorem dX4_two_76 : decode (mC mX4_two) 76 = .ok (.iload 4, 2) := by decide +kernel
theorem dX4_two_78 : decode (mC mX4_two) 78 = .ok (.iconst 4, 1) := by decide +kernel
theorem dX4_two_79 : decode (mC mX4_two) 79 = .ok (.if_icmp .ge 96, 3) := by decide +kernel
theorem dX4_two_82 : decode (mC mX4_two) 82 = .ok (.aload_n 0, 1) := by decide +kernel
theorem dX4_two_83 : decode (mC mX4_two) 83 = .ok (.getfield 42, 3) := by decide +kernel
theorem dX4_two_86 : decode (mC mX4_two) 86 = .ok (.iload 4, 2) := by decide +kernel
theorem dX4_two_88 : decode (mC mX4_two) 88 = .ok (.invokestatic 103, 3) := by decide +kernel
theorem dX4_two_91 : decode (mC mX4_two) 91 = .ok (.aload_n 0, 1) := by decide +kernel
theorem dX4_two_92 : decode (mC mX4_two) 92 = .ok (.getfield 42, 3) := by decide +kernel
theorem dX4_two_95 : decode (mC mX4_two) 95 = .ok (.iload 4, 2) := by decide +kernel
theorem dX4_two_97 : decode (mC mX4_two) 97 = .ok (.iconst 2, 1) := by decide +kernel
theorem dX4_two_98 : decode (mC mX4_two) 98 = .ok (.ixor, 1) := by decide +kernel
theorem dX4_two_99 : decode (mC mX4_two) 99 = .ok (.invokestatic 103, 3) := by decide +kernel
theorem dX4_two_102 : decode (mC mX4_two) 102 = .ok (.if_icmp .lt 7, 3) := by decide +kernel
theorem dX4_two_105 : decode (mC mX4_two) 105 = .ok (.iconst 1, 1) := by decide +kernel
theorem dX4_two_106 : decode (mC mX4_two) 106 = .ok (.goto 4, 3) := by decide +kernel
theorem dX4_two_109 : decode (mC mX4_two) 109 = .ok (.iconst 0, 1) := by decide +kernel
theorem dX4_two_110 : decode (mC mX4_two) 110 = .ok (.istore 5, 2) := by decide +kernel
theorem dX4_two_112 : decode (mC mX4_two) 112 = .ok (.aload_n 0, 1) := by decide +kernel
theorem dX4_two_113 : decode (mC mX4_two) 113 = .ok (.getfield 42, 3) := by decide +kernel
theorem dX4_two_116 : decode (mC mX4_two) 116 = .ok (.iconst 4, 1) := by decide +kernel
theorem dX4_two_117 : decode (mC mX4_two) 117 = .ok (.iload 4, 2) := by decide +kernel
theorem dX4_two_119 : decode (mC mX4_two) 119 = .ok (.iadd, 1) := by decide +kernel
theorem dX4_two_120 : decode (mC mX4_two) 120 = .ok (.invokestatic 103, 3) := by decide +kernel
theorem dX4_two_123 : decode (mC mX4_two) 123 = .ok (.aload_n 0, 1) := by decide +kernel
theorem dX4_two_124 : decode (mC mX4_two) 124 = .ok (.getfield 42, 3) := by decide +kernel
theorem dX4_two_127 : decode (mC mX4_two) 127 = .ok (.iconst 4, 1) := by decide +kernel
theorem dX4_two_128 : decode (mC mX4_two) 128 = .ok (.iload 4, 2) := by decide +kernel
theorem dX4_two_130 : decode (mC mX4_two) 130 = .ok (.iconst 1, 1) := by decide +kernel
theorem dX4_two_131 : decode (mC mX4_two) 131 = .ok (.ixor, 1) := by decide +kernel
theorem dX4_two_132 : decode (mC mX4_two) 132 = .ok (.iadd, 1) := by decide +kernel
theorem dX4_two_133 : decode (mC mX4_two) 133 = .ok (.invokestatic 103, 3) := by decide +kernel
theorem dX4_two_136 : decode (mC mX4_two) 136 = .ok (.if_icmp .lt 7, 3) := by decide +kernel
theorem dX4_two_139 : decode (mC mX4_two) 139 = .ok (.iconst 1, 1) := by decide +kernel
theorem dX4_two_140 : decode (mC mX4_two) 140 = .ok (.goto 4, 3) := by decide +kernel
theorem dX4_two_143 : decode (mC mX4_two) 143 = .ok (.iconst 0, 1) := by decide +kernel
theorem dX4_two_144 : decode (mC mX4_two) 144 = .ok (.istore 6, 2) := by decide +kernel
theorem dX4_two_146 : decode (mC mX4_two) 146 = .ok (.iload 5, 2) := by decide +kernel
theorem dX4_two_148 : decode (mC mX4_two) 148 = .ok (.ifCond .eq 21, 3) := by decide +kernel
theorem dX4_two_151 : decode (mC mX4_two) 151 = .ok (.iload 6, 2) := by decide +kernel
theorem dX4_two_153 : decode (mC mX4_two) 153 = .ok (.ifCond .eq 16, 3) := by decide +kernel
theorem dX4_two_156 : decode (mC mX4_two) 156 = .ok (.bipush 10, 2) := by decide +kernel
theorem dX4_two_158 : decode (mC mX4_two) 158 = .ok (.iload 4, 2) := by decide +kernel
theorem dX4_two_160 : decode (mC mX4_two) 160 = .ok (.iconst 2, 1) := by decide +kernel
theorem dX4_two_161 : decode (mC mX4_two) 161 = .ok (.idiv, 1) := by decide +kernel
theorem dX4_two_162 : decode (mC mX4_two) 162 = .ok (.imul, 1) := by decide +kernel
theorem dX4_two_163 : decode (mC mX4_two) 163 = .ok (.iload 4, 2) := by decide +kernel
theorem dX4_two_165 : decode (mC mX4_two) 165 = .ok (.iconst 2, 1) := by decide +kernel
theorem dX4_two_166 : decode (mC mX4_two) 166 = .ok (.irem, 1) := by decide +kernel
theorem dX4_two_167 : decode (mC mX4_two) 167 = .ok (.iadd, 1) := by decide +kernel
theorem dX4_two_168 : decode (mC mX4_two) 168 = .ok (.ireturn, 1) := by decide +kernel
theorem dX4_two_169 : decode (mC mX4_two) 169 = .ok (.iinc 4 1, 3) := by decide +kernel
theorem dX4_two_172 : decode (mC mX4_two) 172 = .ok (.goto (-96), 3) := by decide +kernel
theorem dX4_two_175 : decode (mC mX4_two) 175 = .ok (.bipush (-9), 2) := by decide +kernel
theorem dX4_two_177 : decode (mC mX4_two) 177 = .ok (.ireturn, 1) := by decide +kernel
theorem dX4_tryPair_0 : decode (mC mX4_tryPair) 0 = .ok (.aload_n 0, 1) := by decide +kernel
theorem dX4_tryPair_1 : decode (mC mX4_tryPair) 1 = .ok (.getfield 16, 3) := by decide +kernel
theorem dX4_tryPair_4 : decode (mC mX4_tryPair) 4 = .ok (.aload_n 0, 1) := by decide +kernel
theorem dX4_tryPair_5 : decode (mC mX4_tryPair) 5 = .ok (.getfield 10, 3) := by decide +kernel
theorem dX4_tryPair_8 : decode (mC mX4_tryPair) 8 = .ok (.invokevirtual 69, 3) := by decide +kernel
theorem dX4_tryPair_11 : decode (mC mX4_tryPair) 11 = .ok (.iload_n 3, 1) := by decide +kernel
theorem dX4_tryPair_12 : decode (mC mX4_tryPair) 12 = .ok (.iconst 1, 1) := by decide +kernel
theorem dX4_tryPair_13 : decode (mC mX4_tryPair) 13 = .ok (.invokestatic 182, 3) := by decide +kernel
theorem dX4_tryPair_16 : decode (mC mX4_tryPair) 16 = .ok (.ifCond .eq 11, 3) := by decide +kernel
theorem dX4_tryPair_19 : decode (mC mX4_tryPair) 19 = .ok (.aload_n 0, 1) := by decide +kernel
theorem dX4_tryPair_20 : decode (mC mX4_tryPair) 20 = .ok (.getfield 16, 3) := by decide +kernel
theorem dX4_tryPair_23 : decode (mC mX4_tryPair) 23 = .ok (.iload_n 1, 1) := by decide +kernel
theorem dX4_tryPair_24 : decode (mC mX4_tryPair) 24 = .ok (.invokevirtual 208, 3) := by decide +kernel
theorem dX4_tryPair_27 : decode (mC mX4_tryPair) 27 = .ok (.iload_n 3, 1) := by decide +kernel
theorem dX4_tryPair_28 : decode (mC mX4_tryPair) 28 = .ok (.iconst 0, 1) := by decide +kernel
theorem dX4_tryPair_29 : decode (mC mX4_tryPair) 29 = .ok (.invokestatic 182, 3) := by decide +kernel
theorem dX4_tryPair_32 : decode (mC mX4_tryPair) 32 = .ok (.ifCond .eq 11, 3) := by decide +kernel
theorem dX4_tryPair_35 : decode (mC mX4_tryPair) 35 = .ok (.aload_n 0, 1) := by decide +kernel
theorem dX4_tryPair_36 : decode (mC mX4_tryPair) 36 = .ok (.getfield 16, 3) := by decide +kernel
theorem dX4_tryPair_39 : decode (mC mX4_tryPair) 39 = .ok (.iload_n 2, 1) := by decide +kernel
theorem dX4_tryPair_40 : decode (mC mX4_tryPair) 40 = .ok (.invokevirtual 208, 3) := by decide +kernel
theorem dX4_tryPair_43 : decode (mC mX4_tryPair) 43 = .ok (.aload_n 0, 1) := by decide +kernel
theorem dX4_tryPair_44 : decode (mC mX4_tryPair) 44 = .ok (.getfield 16, 3) := by decide +kernel
theorem dX4_tryPair_47 : decode (mC mX4_tryPair) 47 = .ok (.iload 4, 2) := by decide +kernel
theorem dX4_tryPair_49 : decode (mC mX4_tryPair) 49 = .ok (.iconst 0, 1) := by decide +kernel
theorem dX4_tryPair_50 : decode (mC mX4_tryPair) 50 = .ok (.invokevirtual 152, 3) := by decide +kernel
theorem dX4_tryPair_53 : decode (mC mX4_tryPair) 53 = .ok (.pop, 1) := by decide +kernel
theorem dX4_tryPair_54 : decode (mC mX4_tryPair) 54 = .ok (.aload_n 0, 1) := by decide +kernel
theorem dX4_tryPair_55 : decode (mC mX4_tryPair) 55 = .ok (.getfield 42, 3) := by decide +kernel
theorem dX4_tryPair_58 : decode (mC mX4_tryPair) 58 = .ok (.iload_n 3, 1) := by decide +kernel
theorem dX4_tryPair_59 : decode (mC mX4_tryPair) 59 = .ok (.aload_n 0, 1) := by decide +kernel
theorem dX4_tryPair_60 : decode (mC mX4_tryPair) 60 = .ok (.iload_n 1, 1) := by decide +kernel
theorem dX4_tryPair_61 : decode (mC mX4_tryPair) 61 = .ok (.invokevirtual 246, 3) := by decide +kernel
theorem dX4_tryPair_64 : decode (mC mX4_tryPair) 64 = .ok (.invokestatic 217, 3) := by decide +kernel
theorem dX4_tryPair_67 : decode (mC mX4_tryPair) 67 = .ok (.aload_n 0, 1) := by decide +kernel
theorem dX4_tryPair_68 : decode (mC mX4_tryPair) 68 = .ok (.getfield 42, 3) := by decide +kernel
theorem dX4_tryPair_71 : decode (mC mX4_tryPair) 71 = .ok (.iconst 4, 1) := by decide +kernel
theorem dX4_tryPair_72 : decode (mC mX4_tryPair) 72 = .ok (.iload_n 3, 1) := by decide +kernel
theorem dX4_tryPair_73 : decode (mC mX4_tryPair) 73 = .ok (.iadd, 1) := by decide +kernel
theorem dX4_tryPair_74 : decode (mC mX4_tryPair) 74 = .ok (.aload_n 0, 1) := by decide +kernel
theorem dX4_tryPair_75 : decode (mC mX4_tryPair) 75 = .ok (.iload_n 2, 1) := by decide +kernel
theorem dX4_tryPair_76 : decode (mC mX4_tryPair) 76 = .ok (.invokevirtual 246, 3) := by decide +kernel
theorem dX4_tryPair_79 : decode (mC mX4_tryPair) 79 = .ok (.invokestatic 217, 3) := by decide +kernel
theorem dX4_tryPair_82 : decode (mC mX4_tryPair) 82 = .ok (.return_, 1) := by decide +kernel
theorem dX4_gainOf_0 : decode (mC mX4_gainOf) 0 = .ok (.aload_n 0, 1) := by decide +kernel
theorem dX4_gainOf_1 : decode (mC mX4_gainOf) 1 = .ok (.getfield 16, 3) := by decide +kernel
theorem dX4_gainOf_4 : decode (mC mX4_gainOf) 4 = .ok (.getfield 120, 3) := by decide +kernel
theorem dX4_gainOf_7 : decode (mC mX4_gainOf) 7 = .ok (.iload_n 1, 1) := by decide +kernel
theorem dX4_gainOf_8 : decode (mC mX4_gainOf) 8 = .ok (.invokestatic 103, 3) := by decide +kernel
theorem dX4_gainOf_11 : decode (mC mX4_gainOf) 11 = .ok (.aload_n 0, 1) := by decide +kernel
theorem dX4_gainOf_12 : decode (mC mX4_gainOf) 12 = .ok (.getfield 10, 3) := by decide +kernel
theorem dX4_gainOf_15 : decode (mC mX4_gainOf) 15 = .ok (.getfield 123, 3) := by decide +kernel
theorem dX4_gainOf_18 : decode (mC mX4_gainOf) 18 = .ok (.iload_n 1, 1) := by decide +kernel
theorem dX4_gainOf_19 : decode (mC mX4_gainOf) 19 = .ok (.invokestatic 103, 3) := by decide +kernel
theorem dX4_gainOf_22 : decode (mC mX4_gainOf) 22 = .ok (.if_icmp .ne 7, 3) := by decide +kernel
theorem dX4_gainOf_25 : decode (mC mX4_gainOf) 25 = .ok (.iconst 3, 1) := by decide +kernel
theorem dX4_gainOf_26 : decode (mC mX4_gainOf) 26 = .ok (.goto 16, 3) := by decide +kernel
theorem dX4_gainOf_29 : decode (mC mX4_gainOf) 29 = .ok (.aload_n 0, 1) := by decide +kernel
theorem dX4_gainOf_30 : decode (mC mX4_gainOf) 30 = .ok (.getfield 16, 3) := by decide +kernel
theorem dX4_gainOf_33 : decode (mC mX4_gainOf) 33 = .ok (.getfield 126, 3) := by decide +kernel
theorem dX4_gainOf_36 : decode (mC mX4_gainOf) 36 = .ok (.iload_n 1, 1) := by decide +kernel
theorem dX4_gainOf_37 : decode (mC mX4_gainOf) 37 = .ok (.invokestatic 103, 3) := by decide +kernel
theorem dX4_gainOf_40 : decode (mC mX4_gainOf) 40 = .ok (.iconst 4, 1) := by decide +kernel
theorem dX4_gainOf_41 : decode (mC mX4_gainOf) 41 = .ok (.idiv, 1) := by decide +kernel
theorem dX4_gainOf_42 : decode (mC mX4_gainOf) 42 = .ok (.ireturn, 1) := by decide +kernel
theorem dX4_fire_0 : decode (mC mX4_fire) 0 = .ok (.aload_n 0, 1) := by decide +kernel
theorem dX4_fire_1 : decode (mC mX4_fire) 1 = .ok (.getfield 10, 3) := by decide +kernel
theorem dX4_fire_4 : decode (mC mX4_fire) 4 = .ok (.iload_n 1, 1) := by decide +kernel
theorem dX4_fire_5 : decode (mC mX4_fire) 5 = .ok (.invokevirtual 119, 3) := by decide +kernel
theorem dX4_fire_8 : decode (mC mX4_fire) 8 = .ok (.ifCond .eq 10, 3) := by decide +kernel
theorem dX4_fire_11 : decode (mC mX4_fire) 11 = .ok (.iload_n 2, 1) := by decide +kernel
theorem dX4_fire_12 : decode (mC mX4_fire) 12 = .ok (.invokestatic 142, 3) := by decide +kernel
theorem dX4_fire_15 : decode (mC mX4_fire) 15 = .ok (.ifCond .ne 9, 3) := by decide +kernel
theorem dX4_fire_18 : decode (mC mX4_fire) 18 = .ok (.aload_n 0, 1) := by decide +kernel
theorem dX4_fire_19 : decode (mC mX4_fire) 19 = .ok (.iconst (-1), 1) := by decide +kernel
theorem dX4_fire_20 : decode (mC mX4_fire) 20 = .ok (.invokevirtual 249, 3) := by decide +kernel
theorem dX4_fire_23 : decode (mC mX4_fire) 23 = .ok (.lreturn, 1) := by decide +kernel
theorem dX4_fire_24 : decode (mC mX4_fire) 24 = .ok (.iload_n 3, 1) := by decide +kernel
theorem dX4_fire_25 : decode (mC mX4_fire) 25 = .ok (.ifCond .lt 9, 3) := by decide +kernel
theorem dX4_fire_28 : decode (mC mX4_fire) 28 = .ok (.iload 4, 2) := by decide +kernel
theorem dX4_fire_30 : decode (mC mX4_fire) 30 = .ok (.iconst 2, 1) := by decide +kernel
theorem dX4_fire_31 : decode (mC mX4_fire) 31 = .ok (.if_icmp .ge 10, 3) := by decide +kernel
theorem dX4_fire_34 : decode (mC mX4_fire) 34 = .ok (.aload_n 0, 1) := by decide +kernel
theorem dX4_fire_35 : decode (mC mX4_fire) 35 = .ok (.bipush (-4), 2) := by decide +kernel
theorem dX4_fire_37 : decode (mC mX4_fire) 37 = .ok (.invokevirtual 249, 3) := by decide +kernel
theorem dX4_fire_40 : decode (mC mX4_fire) 40 = .ok (.lreturn, 1) := by decide +kernel
theorem dX4_fire_41 : decode (mC mX4_fire) 41 = .ok (.iload_n 3, 1) := by decide +kernel
theorem dX4_fire_42 : decode (mC mX4_fire) 42 = .ok (.bipush 7, 2) := by decide +kernel
theorem dX4_fire_44 : decode (mC mX4_fire) 44 = .ok (.if_icmp .gt 10, 3) := by decide +kernel
theorem dX4_fire_47 : decode (mC mX4_fire) 47 = .ok (.iload 4, 2) := by decide +kernel
theorem dX4_fire_49 : decode (mC mX4_fire) 49 = .ok (.bipush 20, 2) := by decide +kernel
theorem dX4_fire_51 : decode (mC mX4_fire) 51 = .ok (.if_icmp .le 10, 3) := by decide +kernel
theorem dX4_fire_54 : decode (mC mX4_fire) 54 = .ok (.aload_n 0, 1) := by decide +kernel
theorem dX4_fire_55 : decode (mC mX4_fire) 55 = .ok (.bipush (-6), 2) := by decide +kernel
theorem dX4_fire_57 : decode (mC mX4_fire) 57 = .ok (.invokevirtual 249, 3) := by decide +kernel
theorem dX4_fire_60 : decode (mC mX4_fire) 60 = .ok (.lreturn, 1) := by decide +kernel
theorem dX4_fire_61 : decode (mC mX4_fire) 61 = .ok (.iload 5, 2) := by decide +kernel
theorem dX4_fire_63 : decode (mC mX4_fire) 63 = .ok (.invokestatic 159, 3) := by decide +kernel
theorem dX4_fire_66 : decode (mC mX4_fire) 66 = .ok (.ifCond .ne 10, 3) := by decide +kernel
theorem dX4_fire_69 : decode (mC mX4_fire) 69 = .ok (.aload_n 0, 1) := by decide +kernel
theorem dX4_fire_70 : decode (mC mX4_fire) 70 = .ok (.bipush (-2), 2) := by decide +kernel
theorem dX4_fire_72 : decode (mC mX4_fire) 72 = .ok (.invokevirtual 249, 3) := by decide +kernel
theorem dX4_fire_75 : decode (mC mX4_fire) 75 = .ok (.lreturn, 1) := by decide +kernel
theorem dX4_fire_76 : decode (mC mX4_fire) 76 = .ok (.lconst 0, 1) := by decide +kernel
theorem dX4_fire_77 : decode (mC mX4_fire) 77 = .ok (.lstore 6, 2) := by decide +kernel
theorem dX4_fire_79 : decode (mC mX4_fire) 79 = .ok (.iconst 0, 1) := by decide +kernel
theorem dX4_fire_80 : decode (mC mX4_fire) 80 = .ok (.istore 8, 2) := by decide +kernel
theorem dX4_fire_82 : decode (mC mX4_fire) 82 = .ok (.iload 8, 2) := by decide +kernel
theorem dX4_fire_84 : decode (mC mX4_fire) 84 = .ok (.iconst 1, 1) := by decide +kernel
theorem dX4_fire_85 : decode (mC mX4_fire) 85 = .ok (.iload_n 3, 1) := by decide +kernel
theorem dX4_fire_86 : decode (mC mX4_fire) 86 = .ok (.ishl, 1) := by decide +kernel
theorem dX4_fire_87 : decode (mC mX4_fire) 87 = .ok (.if_icmp .ge 40, 3) := by decide +kernel
theorem dX4_fire_90 : decode (mC mX4_fire) 90 = .ok (.aload_n 0, 1) := by decide +kernel
theorem dX4_fire_91 : decode (mC mX4_fire) 91 = .ok (.iload_n 1, 1) := by decide +kernel
theorem dX4_fire_92 : decode (mC mX4_fire) 92 = .ok (.iload_n 2, 1) := by decide +kernel
theorem dX4_fire_93 : decode (mC mX4_fire) 93 = .ok (.iload_n 3, 1) := by decide +kernel
theorem dX4_fire_94 : decode (mC mX4_fire) 94 = .ok (.iload 8, 2) := by decide +kernel
theorem dX4_fire_96 : decode (mC mX4_fire) 96 = .ok (.invokevirtual 253, 3) := by decide +kernel
theorem dX4_fire_99 : decode (mC mX4_fire) 99 = .ok (.ifCond .eq 22, 3) := by decide +kernel
theorem dX4_fire_102 : decode (mC mX4_fire) 102 = .ok (.lload 6, 2) := by decide +kernel
theorem dX4_fire_104 : decode (mC mX4_fire) 104 = .ok (.iload 4, 2) := by decide +kernel
theorem dX4_fire_106 : decode (mC mX4_fire) 106 = .ok (.iconst 1, 1) := by decide +kernel
theorem dX4_fire_107 : decode (mC mX4_fire) 107 = .ok (.isub, 1) := by decide +kernel
theorem dX4_fire_108 : decode (mC mX4_fire) 108 = .ok (.iload_n 3, 1) := by decide +kernel
theorem dX4_fire_109 : decode (mC mX4_fire) 109 = .ok (.iload 8, 2) := by decide +kernel
theorem dX4_fire_111 : decode (mC mX4_fire) 111 = .ok (.invokestatic 199, 3) := by decide +kernel
theorem dX4_fire_114 : decode (mC mX4_fire) 114 = .ok (.isub, 1) := by decide +kernel
theorem dX4_fire_115 : decode (mC mX4_fire) 115 = .ok (.invokestatic 257, 3) := by decide +kernel
theorem dX4_fire_118 : decode (mC mX4_fire) 118 = .ok (.ladd, 1) := by decide +kernel
theorem dX4_fire_119 : decode (mC mX4_fire) 119 = .ok (.lstore 6, 2) := by decide +kernel
theorem dX4_fire_121 : decode (mC mX4_fire) 121 = .ok (.iinc 8 1, 3) := by decide +kernel
theorem dX4_fire_124 : decode (mC mX4_fire) 124 = .ok (.goto (-42), 3) := by decide +kernel
theorem dX4_fire_127 : decode (mC mX4_fire) 127 = .ok (.lload 6, 2) := by decide +kernel
theorem dX4_fire_129 : decode (mC mX4_fire) 129 = .ok (.iload 4, 2) := by decide +kernel
theorem dX4_fire_131 : decode (mC mX4_fire) 131 = .ok (.iload_n 3, 1) := by decide +kernel
theorem dX4_fire_132 : decode (mC mX4_fire) 132 = .ok (.invokestatic 257, 3) := by decide +kernel
theorem dX4_fire_135 : decode (mC mX4_fire) 135 = .ok (.iload 5, 2) := by decide +kernel
theorem dX4_fire_137 : decode (mC mX4_fire) 137 = .ok (.invokestatic 261, 3) := by decide +kernel
theorem dX4_fire_140 : decode (mC mX4_fire) 140 = .ok (.lreturn, 1) := by decide +kernel
theorem dX4_isInBehindFires_0 : decode (mC mX4_isInBehindFires) 0 = .ok (.aload_n 0, 1) := by decide +kernel
theorem dX4_isInBehindFires_1 : decode (mC mX4_isInBehindFires) 1 = .ok (.getfield 16, 3) := by decide +kernel
theorem dX4_isInBehindFires_4 : decode (mC mX4_isInBehindFires) 4 = .ok (.aload_n 0, 1) := by decide +kernel
theorem dX4_isInBehindFires_5 : decode (mC mX4_isInBehindFires) 5 = .ok (.getfield 10, 3) := by decide +kernel
theorem dX4_isInBehindFires_8 : decode (mC mX4_isInBehindFires) 8 = .ok (.invokevirtual 69, 3) := by decide +kernel
theorem dX4_isInBehindFires_11 : decode (mC mX4_isInBehindFires) 11 = .ok (.iconst 0, 1) := by decide +kernel
theorem dX4_isInBehindFires_12 : decode (mC mX4_isInBehindFires) 12 = .ok (.istore 5, 2) := by decide +kernel
theorem dX4_isInBehindFires_14 : decode (mC mX4_isInBehindFires) 14 = .ok (.iload 5, 2) := by decide +kernel
theorem dX4_isInBehindFires_16 : decode (mC mX4_isInBehindFires) 16 = .ok (.iload_n 3, 1) := by decide +kernel
theorem dX4_isInBehindFires_17 : decode (mC mX4_isInBehindFires) 17 = .ok (.if_icmp .ge 25, 3) := by decide +kernel
theorem dX4_isInBehindFires_20 : decode (mC mX4_isInBehindFires) 20 = .ok (.aload_n 0, 1) := by decide +kernel
theorem dX4_isInBehindFires_21 : decode (mC mX4_isInBehindFires) 21 = .ok (.getfield 16, 3) := by decide +kernel
theorem dX4_isInBehindFires_24 : decode (mC mX4_isInBehindFires) 24 = .ok (.iconst 1, 1) := by decide +kernel
theorem dX4_isInBehindFires_25 : decode (mC mX4_isInBehindFires) 25 = .ok (.iload 4, 2) := by decide +kernel
theorem dX4_isInBehindFires_27 : decode (mC mX4_isInBehindFires) 27 = .ok (.iload 5, 2) := by decide +kernel
theorem dX4_isInBehindFires_29 : decode (mC mX4_isInBehindFires) 29 = .ok (.invokestatic 182, 3) := by decide +kernel
theorem dX4_isInBehindFires_32 : decode (mC mX4_isInBehindFires) 32 = .ok (.invokevirtual 152, 3) := by decide +kernel
theorem dX4_isInBehindFires_35 : decode (mC mX4_isInBehindFires) 35 = .ok (.pop, 1) := by decide +kernel
theorem dX4_isInBehindFires_36 : decode (mC mX4_isInBehindFires) 36 = .ok (.iinc 5 1, 3) := by decide +kernel
theorem dX4_isInBehindFires_39 : decode (mC mX4_isInBehindFires) 39 = .ok (.goto (-25), 3) := by decide +kernel
theorem dX4_isInBehindFires_42 : decode (mC mX4_isInBehindFires) 42 = .ok (.aload_n 0, 1) := by decide +kernel
theorem dX4_isInBehindFires_43 : decode (mC mX4_isInBehindFires) 43 = .ok (.getfield 16, 3) := by decide +kernel
theorem dX4_isInBehindFires_46 : decode (mC mX4_isInBehindFires) 46 = .ok (.getfield 120, 3) := by decide +kernel
theorem dX4_isInBehindFires_49 : decode (mC mX4_isInBehindFires) 49 = .ok (.iload_n 1, 1) := by decide +kernel
theorem dX4_isInBehindFires_50 : decode (mC mX4_isInBehindFires) 50 = .ok (.invokestatic 103, 3) := by decide +kernel
theorem dX4_isInBehindFires_53 : decode (mC mX4_isInBehindFires) 53 = .ok (.iload_n 2, 1) := by decide +kernel
theorem dX4_isInBehindFires_54 : decode (mC mX4_isInBehindFires) 54 = .ok (.if_icmp .ne 7, 3) := by decide +kernel
theorem dX4_isInBehindFires_57 : decode (mC mX4_isInBehindFires) 57 = .ok (.iconst 1, 1) := by decide +kernel
theorem dX4_isInBehindFires_58 : decode (mC mX4_isInBehindFires) 58 = .ok (.goto 4, 3) := by decide +kernel
theorem dX4_isInBehindFires_61 : decode (mC mX4_isInBehindFires) 61 = .ok (.iconst 0, 1) := by decide +kernel
theorem dX4_isInBehindFires_62 : decode (mC mX4_isInBehindFires) 62 = .ok (.ireturn, 1) := by decide +kernel
theorem dX4_mean_0 : decode (mC mX4_mean) 0 = .ok (.iload_n 1, 1) := by decide +kernel
theorem dX4_mean_1 : decode (mC mX4_mean) 1 = .ok (.invokestatic 159, 3) := by decide +kernel
theorem dX4_mean_4 : decode (mC mX4_mean) 4 = .ok (.ifCond .ne 10, 3) := by decide +kernel
theorem dX4_mean_7 : decode (mC mX4_mean) 7 = .ok (.aload_n 0, 1) := by decide +kernel
theorem dX4_mean_8 : decode (mC mX4_mean) 8 = .ok (.bipush (-2), 2) := by decide +kernel
theorem dX4_mean_10 : decode (mC mX4_mean) 10 = .ok (.invokevirtual 249, 3) := by decide +kernel
theorem dX4_mean_13 : decode (mC mX4_mean) 13 = .ok (.lreturn, 1) := by decide +kernel
theorem dX4_mean_14 : decode (mC mX4_mean) 14 = .ok (.aload_n 0, 1) := by decide +kernel
theorem dX4_mean_15 : decode (mC mX4_mean) 15 = .ok (.getfield 10, 3) := by decide +kernel
theorem dX4_mean_18 : decode (mC mX4_mean) 18 = .ok (.invokevirtual 265, 3) := by decide +kernel
theorem dX4_mean_21 : decode (mC mX4_mean) 21 = .ok (.i2l, 1) := by decide +kernel
theorem dX4_mean_22 : decode (mC mX4_mean) 22 = .ok (.iconst 1, 1) := by decide +kernel
theorem dX4_mean_23 : decode (mC mX4_mean) 23 = .ok (.aload_n 0, 1) := by decide +kernel
theorem dX4_mean_24 : decode (mC mX4_mean) 24 = .ok (.getfield 10, 3) := by decide +kernel
theorem dX4_mean_27 : decode (mC mX4_mean) 27 = .ok (.getfield 171, 3) := by decide +kernel
theorem dX4_mean_30 : decode (mC mX4_mean) 30 = .ok (.invokestatic 84, 3) := by decide +kernel
theorem dX4_mean_33 : decode (mC mX4_mean) 33 = .ok (.i2l, 1) := by decide +kernel
theorem dX4_mean_34 : decode (mC mX4_mean) 34 = .ok (.iload_n 1, 1) := by decide +kernel
theorem dX4_mean_35 : decode (mC mX4_mean) 35 = .ok (.invokestatic 261, 3) := by decide +kernel
theorem dX4_mean_38 : decode (mC mX4_mean) 38 = .ok (.lreturn, 1) := by decide +kernel
theorem dX4_whatIs_0 : decode (mC mX4_whatIs) 0 = .ok (.aload_n 0, 1) := by decide +kernel
theorem dX4_whatIs_1 : decode (mC mX4_whatIs) 1 = .ok (.getfield 10, 3) := by decide +kernel
theorem dX4_whatIs_4 : decode (mC mX4_whatIs) 4 = .ok (.iload_n 1, 1) := by decide +kernel
theorem dX4_whatIs_5 : decode (mC mX4_whatIs) 5 = .ok (.invokevirtual 119, 3) := by decide +kernel
theorem dX4_whatIs_8 : decode (mC mX4_whatIs) 8 = .ok (.ifCond .eq 17, 3) := by decide +kernel
theorem dX4_whatIs_11 : decode (mC mX4_whatIs) 11 = .ok (.aload_n 0, 1) := by decide +kernel
theorem dX4_whatIs_12 : decode (mC mX4_whatIs) 12 = .ok (.getfield 10, 3) := by decide +kernel
theorem dX4_whatIs_15 : decode (mC mX4_whatIs) 15 = .ok (.getfield 90, 3) := by decide +kernel
theorem dX4_whatIs_18 : decode (mC mX4_whatIs) 18 = .ok (.iload_n 2, 1) := by decide +kernel
theorem dX4_whatIs_19 : decode (mC mX4_whatIs) 19 = .ok (.invokevirtual 94, 3) := by decide +kernel
theorem dX4_whatIs_22 : decode (mC mX4_whatIs) 22 = .ok (.ifCond .ne 9, 3) := by decide +kernel
theorem dX4_whatIs_25 : decode (mC mX4_whatIs) 25 = .ok (.aload_n 0, 1) := by decide +kernel
theorem dX4_whatIs_26 : decode (mC mX4_whatIs) 26 = .ok (.iconst (-1), 1) := by decide +kernel
theorem dX4_whatIs_27 : decode (mC mX4_whatIs) 27 = .ok (.invokevirtual 45, 3) := by decide +kernel
theorem dX4_whatIs_30 : decode (mC mX4_whatIs) 30 = .ok (.ireturn, 1) := by decide +kernel
theorem dX4_whatIs_31 : decode (mC mX4_whatIs) 31 = .ok (.iload_n 3, 1) := by decide +kernel
theorem dX4_whatIs_32 : decode (mC mX4_whatIs) 32 = .ok (.invokestatic 159, 3) := by decide +kernel
theorem dX4_whatIs_35 : decode (mC mX4_whatIs) 35 = .ok (.ifCond .ne 10, 3) := by decide +kernel
theorem dX4_whatIs_38 : decode (mC mX4_whatIs) 38 = .ok (.aload_n 0, 1) := by decide +kernel
theorem dX4_whatIs_39 : decode (mC mX4_whatIs) 39 = .ok (.bipush (-2), 2) := by decide +kernel
theorem dX4_whatIs_41 : decode (mC mX4_whatIs) 41 = .ok (.invokevirtual 45, 3) := by decide +kernel
theorem dX4_whatIs_44 : decode (mC mX4_whatIs) 44 = .ok (.ireturn, 1) := by decide +kernel
theorem dX4_whatIs_45 : decode (mC mX4_whatIs) 45 = .ok (.iload_n 3, 1) := by decide +kernel
theorem dX4_whatIs_46 : decode (mC mX4_whatIs) 46 = .ok (.ifCond .ne 12, 3) := by decide +kernel
theorem dX4_whatIs_49 : decode (mC mX4_whatIs) 49 = .ok (.aload_n 0, 1) := by decide +kernel
theorem dX4_whatIs_50 : decode (mC mX4_whatIs) 50 = .ok (.iload_n 1, 1) := by decide +kernel
theorem dX4_whatIs_51 : decode (mC mX4_whatIs) 51 = .ok (.iload_n 2, 1) := by decide +kernel
theorem dX4_whatIs_52 : decode (mC mX4_whatIs) 52 = .ok (.invokevirtual 268, 3) := by decide +kernel
theorem dX4_whatIs_55 : decode (mC mX4_whatIs) 55 = .ok (.goto 8, 3) := by decide +kernel
theorem dX4_whatIs_58 : decode (mC mX4_whatIs) 58 = .ok (.aload_n 0, 1) := by decide +kernel
theorem dX4_whatIs_59 : decode (mC mX4_whatIs) 59 = .ok (.iload_n 1, 1) := by decide +kernel
theorem dX4_whatIs_60 : decode (mC mX4_whatIs) 60 = .ok (.invokevirtual 271, 3) := by decide +kernel
theorem dX4_whatIs_63 : decode (mC mX4_whatIs) 63 = .ok (.ireturn, 1) := by decide +kernel
theorem dX4_kindsByRow_0 : decode (mC mX4_kindsByRow) 0 = .ok (.iconst 0, 1) := by decide +kernel
theorem dX4_kindsByRow_1 : decode (mC mX4_kindsByRow) 1 = .ok (.istore_n 3, 1) := by decide +kernel
theorem dX4_kindsByRow_2 : decode (mC mX4_kindsByRow) 2 = .ok (.iconst 0, 1) := by decide +kernel
theorem dX4_kindsByRow_3 : decode (mC mX4_kindsByRow) 3 = .ok (.istore 4, 2) := by decide +kernel
theorem dX4_kindsByRow_5 : decode (mC mX4_kindsByRow) 5 = .ok (.iload 4, 2) := by decide +kernel
theorem dX4_kindsByRow_7 : decode (mC mX4_kindsByRow) 7 = .ok (.bipush 6, 2) := by decide +kernel
theorem dX4_kindsByRow_9 : decode (mC mX4_kindsByRow) 9 = .ok (.if_icmp .ge 51, 3) := by decide +kernel
theorem dX4_kindsByRow_12 : decode (mC mX4_kindsByRow) 12 = .ok (.aload_n 0, 1) := by decide +kernel
theorem dX4_kindsByRow_13 : decode (mC mX4_kindsByRow) 13 = .ok (.getfield 16, 3) := by decide +kernel
theorem dX4_kindsByRow_16 : decode (mC mX4_kindsByRow) 16 = .ok (.aload_n 0, 1) := by decide +kernel
theorem dX4_kindsByRow_17 : decode (mC mX4_kindsByRow) 17 = .ok (.getfield 10, 3) := by decide +kernel
theorem dX4_kindsByRow_20 : decode (mC mX4_kindsByRow) 20 = .ok (.invokevirtual 69, 3) := by decide +kernel
theorem dX4_kindsByRow_23 : decode (mC mX4_kindsByRow) 23 = .ok (.aload_n 0, 1) := by decide +kernel
theorem dX4_kindsByRow_24 : decode (mC mX4_kindsByRow) 24 = .ok (.getfield 16, 3) := by decide +kernel
theorem dX4_kindsByRow_27 : decode (mC mX4_kindsByRow) 27 = .ok (.getfield 90, 3) := by decide +kernel
theorem dX4_kindsByRow_30 : decode (mC mX4_kindsByRow) 30 = .ok (.getfield 100, 3) := by decide +kernel
theorem dX4_kindsByRow_33 : decode (mC mX4_kindsByRow) 33 = .ok (.iload_n 2, 1) := by decide +kernel
theorem dX4_kindsByRow_34 : decode (mC mX4_kindsByRow) 34 = .ok (.iload 4, 2) := by decide +kernel
theorem dX4_kindsByRow_36 : decode (mC mX4_kindsByRow) 36 = .ok (.invokestatic 217, 3) := by decide +kernel
theorem dX4_kindsByRow_39 : decode (mC mX4_kindsByRow) 39 = .ok (.aload_n 0, 1) := by decide +kernel
theorem dX4_kindsByRow_40 : decode (mC mX4_kindsByRow) 40 = .ok (.iload_n 1, 1) := by decide +kernel
theorem dX4_kindsByRow_41 : decode (mC mX4_kindsByRow) 41 = .ok (.invokevirtual 274, 3) := by decide +kernel
theorem dX4_kindsByRow_44 : decode (mC mX4_kindsByRow) 44 = .ok (.ifCond .eq 10, 3) := by decide +kernel
theorem dX4_kindsByRow_47 : decode (mC mX4_kindsByRow) 47 = .ok (.iload_n 3, 1) := by decide +kernel
theorem dX4_kindsByRow_48 : decode (mC mX4_kindsByRow) 48 = .ok (.iconst 1, 1) := by decide +kernel
theorem dX4_kindsByRow_49 : decode (mC mX4_kindsByRow) 49 = .ok (.iload 4, 2) := by decide +kernel
theorem dX4_kindsByRow_51 : decode (mC mX4_kindsByRow) 51 = .ok (.ishl, 1) := by decide +kernel
theorem dX4_kindsByRow_52 : decode (mC mX4_kindsByRow) 52 = .ok (.ior, 1) := by decide +kernel
theorem dX4_kindsByRow_53 : decode (mC mX4_kindsByRow) 53 = .ok (.istore_n 3, 1) := by decide +kernel
theorem dX4_kindsByRow_54 : decode (mC mX4_kindsByRow) 54 = .ok (.iinc 4 1, 3) := by decide +kernel
theorem dX4_kindsByRow_57 : decode (mC mX4_kindsByRow) 57 = .ok (.goto (-52), 3) := by decide +kernel
theorem dX4_kindsByRow_60 : decode (mC mX4_kindsByRow) 60 = .ok (.iload_n 3, 1) := by decide +kernel
theorem dX4_kindsByRow_61 : decode (mC mX4_kindsByRow) 61 = .ok (.ireturn, 1) := by decide +kernel
theorem dX4_goalsByRow_0 : decode (mC mX4_goalsByRow) 0 = .ok (.iconst 0, 1) := by decide +kernel
theorem dX4_goalsByRow_1 : decode (mC mX4_goalsByRow) 1 = .ok (.istore_n 2, 1) := by decide +kernel
theorem dX4_goalsByRow_2 : decode (mC mX4_goalsByRow) 2 = .ok (.iconst 0, 1) := by decide +kernel
theorem dX4_goalsByRow_3 : decode (mC mX4_goalsByRow) 3 = .ok (.istore_n 3, 1) := by decide +kernel
theorem dX4_goalsByRow_4 : decode (mC mX4_goalsByRow) 4 = .ok (.iload_n 3, 1) := by decide +kernel
theorem dX4_goalsByRow_5 : decode (mC mX4_goalsByRow) 5 = .ok (.bipush 8, 2) := by decide +kernel
theorem dX4_goalsByRow_7 : decode (mC mX4_goalsByRow) 7 = .ok (.if_icmp .ge 46, 3) := by decide +kernel
theorem dX4_goalsByRow_10 : decode (mC mX4_goalsByRow) 10 = .ok (.aload_n 0, 1) := by decide +kernel
theorem dX4_goalsByRow_11 : decode (mC mX4_goalsByRow) 11 = .ok (.getfield 16, 3) := by decide +kernel
theorem dX4_goalsByRow_14 : decode (mC mX4_goalsByRow) 14 = .ok (.aload_n 0, 1) := by decide +kernel
theorem dX4_goalsByRow_15 : decode (mC mX4_goalsByRow) 15 = .ok (.getfield 10, 3) := by decide +kernel
theorem dX4_goalsByRow_18 : decode (mC mX4_goalsByRow) 18 = .ok (.invokevirtual 69, 3) := by decide +kernel
theorem dX4_goalsByRow_21 : decode (mC mX4_goalsByRow) 21 = .ok (.aload_n 0, 1) := by decide +kernel
theorem dX4_goalsByRow_22 : decode (mC mX4_goalsByRow) 22 = .ok (.getfield 16, 3) := by decide +kernel
theorem dX4_goalsByRow_25 : decode (mC mX4_goalsByRow) 25 = .ok (.getfield 123, 3) := by decide +kernel
theorem dX4_goalsByRow_28 : decode (mC mX4_goalsByRow) 28 = .ok (.iload_n 1, 1) := by decide +kernel
theorem dX4_goalsByRow_29 : decode (mC mX4_goalsByRow) 29 = .ok (.iload_n 3, 1) := by decide +kernel
theorem dX4_goalsByRow_30 : decode (mC mX4_goalsByRow) 30 = .ok (.invokestatic 217, 3) := by decide +kernel
theorem dX4_goalsByRow_33 : decode (mC mX4_goalsByRow) 33 = .ok (.aload_n 0, 1) := by decide +kernel
theorem dX4_goalsByRow_34 : decode (mC mX4_goalsByRow) 34 = .ok (.iload_n 1, 1) := by decide +kernel
theorem dX4_goalsByRow_35 : decode (mC mX4_goalsByRow) 35 = .ok (.invokevirtual 274, 3) := by decide +kernel
theorem dX4_goalsByRow_38 : decode (mC mX4_goalsByRow) 38 = .ok (.ifCond .eq 9, 3) := by decide +kernel
theorem dX4_goalsByRow_41 : decode (mC mX4_goalsByRow) 41 = .ok (.iload_n 2, 1) := by decide +kernel
theorem dX4_goalsByRow_42 : decode (mC mX4_goalsByRow) 42 = .ok (.iconst 1, 1) := by decide +kernel
theorem dX4_goalsByRow_43 : decode (mC mX4_goalsByRow) 43 = .ok (.iload_n 3, 1) := by decide +kernel
theorem dX4_goalsByRow_44 : decode (mC mX4_goalsByRow) 44 = .ok (.ishl, 1) := by decide +kernel
theorem dX4_goalsByRow_45 : decode (mC mX4_goalsByRow) 45 = .ok (.ior, 1) := by decide +kernel
theorem dX4_goalsByRow_46 : decode (mC mX4_goalsByRow) 46 = .ok (.istore_n 2, 1) := by decide +kernel
theorem dX4_goalsByRow_47 : decode (mC mX4_goalsByRow) 47 = .ok (.iinc 3 1, 3) := by decide +kernel
theorem dX4_goalsByRow_50 : decode (mC mX4_goalsByRow) 50 = .ok (.goto (-46), 3) := by decide +kernel
theorem dX4_goalsByRow_53 : decode (mC mX4_goalsByRow) 53 = .ok (.iload_n 2, 1) := by decide +kernel
theorem dX4_goalsByRow_54 : decode (mC mX4_goalsByRow) 54 = .ok (.ireturn, 1) := by decide +kernel
theorem dX4_isMindAsRow_0 : decode (mC mX4_isMindAsRow) 0 = .ok (.iconst 0, 1) := by decide +kernel
theorem dX4_isMindAsRow_1 : decode (mC mX4_isMindAsRow) 1 = .ok (.istore_n 2, 1) := by decide +kernel
theorem dX4_isMindAsRow_2 : decode (mC mX4_isMindAsRow) 2 = .ok (.iload_n 2, 1) := by decide +kernel
theorem dX4_isMindAsRow_3 : decode (mC mX4_isMindAsRow) 3 = .ok (.aload_n 0, 1) := by decide +kernel
theorem dX4_isMindAsRow_4 : decode (mC mX4_isMindAsRow) 4 = .ok (.getfield 34, 3) := by decide +kernel
theorem dX4_isMindAsRow_7 : decode (mC mX4_isMindAsRow) 7 = .ok (.getfield 73, 3) := by decide +kernel
theorem dX4_isMindAsRow_10 : decode (mC mX4_isMindAsRow) 10 = .ok (.if_icmp .ge 46, 3) := by decide +kernel
theorem dX4_isMindAsRow_13 : decode (mC mX4_isMindAsRow) 13 = .ok (.aload_n 0, 1) := by decide +kernel
theorem dX4_isMindAsRow_14 : decode (mC mX4_isMindAsRow) 14 = .ok (.getfield 16, 3) := by decide +kernel
theorem dX4_isMindAsRow_17 : decode (mC mX4_isMindAsRow) 17 = .ok (.getfield 120, 3) := by decide +kernel
theorem dX4_isMindAsRow_20 : decode (mC mX4_isMindAsRow) 20 = .ok (.iload_n 1, 1) := by decide +kernel
theorem dX4_isMindAsRow_21 : decode (mC mX4_isMindAsRow) 21 = .ok (.invokestatic 103, 3) := by decide +kernel
theorem dX4_isMindAsRow_24 : decode (mC mX4_isMindAsRow) 24 = .ok (.aload_n 0, 1) := by decide +kernel
theorem dX4_isMindAsRow_25 : decode (mC mX4_isMindAsRow) 25 = .ok (.getfield 34, 3) := by decide +kernel
theorem dX4_isMindAsRow_28 : decode (mC mX4_isMindAsRow) 28 = .ok (.getfield 277, 3) := by decide +kernel
theorem dX4_isMindAsRow_31 : decode (mC mX4_isMindAsRow) 31 = .ok (.iload_n 2, 1) := by decide +kernel
theorem dX4_isMindAsRow_32 : decode (mC mX4_isMindAsRow) 32 = .ok (.invokestatic 103, 3) := by decide +kernel
theorem dX4_isMindAsRow_35 : decode (mC mX4_isMindAsRow) 35 = .ok (.if_icmp .eq 5, 3) := by decide +kernel
theorem dX4_isMindAsRow_38 : decode (mC mX4_isMindAsRow) 38 = .ok (.iconst 0, 1) := by decide +kernel
theorem dX4_isMindAsRow_39 : decode (mC mX4_isMindAsRow) 39 = .ok (.ireturn, 1) := by decide +kernel
theorem dX4_isMindAsRow_40 : decode (mC mX4_isMindAsRow) 40 = .ok (.aload_n 0, 1) := by decide +kernel
theorem dX4_isMindAsRow_41 : decode (mC mX4_isMindAsRow) 41 = .ok (.getfield 16, 3) := by decide +kernel
theorem dX4_isMindAsRow_44 : decode (mC mX4_isMindAsRow) 44 = .ok (.iconst 1, 1) := by decide +kernel
theorem dX4_isMindAsRow_45 : decode (mC mX4_isMindAsRow) 45 = .ok (.iconst 0, 1) := by decide +kernel
theorem dX4_isMindAsRow_46 : decode (mC mX4_isMindAsRow) 46 = .ok (.invokevirtual 152, 3) := by decide +kernel
theorem dX4_isMindAsRow_49 : decode (mC mX4_isMindAsRow) 49 = .ok (.pop, 1) := by decide +kernel
theorem dX4_isMindAsRow_50 : decode (mC mX4_isMindAsRow) 50 = .ok (.iinc 2 1, 3) := by decide +kernel
theorem dX4_isMindAsRow_53 : decode (mC mX4_isMindAsRow) 53 = .ok (.goto (-51), 3) := by decide +kernel
theorem dX4_isMindAsRow_56 : decode (mC mX4_isMindAsRow) 56 = .ok (.iconst 1, 1) := by decide +kernel
theorem dX4_isMindAsRow_57 : decode (mC mX4_isMindAsRow) 57 = .ok (.ireturn, 1) := by decide +kernel
theorem dX4_row_0 : decode (mC mX4_row) 0 = .ok (.iload_n 1, 1) := by decide +kernel
theorem dX4_row_1 : decode (mC mX4_row) 1 = .ok (.ifCond .ge 10, 3) := by decide +kernel
theorem dX4_row_4 : decode (mC mX4_row) 4 = .ok (.aload_n 0, 1) := by decide +kernel
theorem dX4_row_5 : decode (mC mX4_row) 5 = .ok (.bipush (-4), 2) := by decide +kernel
theorem dX4_row_7 : decode (mC mX4_row) 7 = .ok (.invokevirtual 45, 3) := by decide +kernel
theorem dX4_row_10 : decode (mC mX4_row) 10 = .ok (.ireturn, 1) := by decide +kernel
theorem dX4_row_11 : decode (mC mX4_row) 11 = .ok (.iload_n 1, 1) := by decide +kernel
theorem dX4_row_12 : decode (mC mX4_row) 12 = .ok (.bipush 99, 2) := by decide +kernel
theorem dX4_row_14 : decode (mC mX4_row) 14 = .ok (.if_icmp .gt 13, 3) := by decide +kernel
theorem dX4_row_17 : decode (mC mX4_row) 17 = .ok (.aload_n 0, 1) := by decide +kernel
theorem dX4_row_18 : decode (mC mX4_row) 18 = .ok (.getfield 34, 3) := by decide +kernel
theorem dX4_row_21 : decode (mC mX4_row) 21 = .ok (.invokevirtual 52, 3) := by decide +kernel
theorem dX4_row_24 : decode (mC mX4_row) 24 = .ok (.ifCond .eq 10, 3) := by decide +kernel
theorem dX4_row_27 : decode (mC mX4_row) 27 = .ok (.aload_n 0, 1) := by decide +kernel
theorem dX4_row_28 : decode (mC mX4_row) 28 = .ok (.bipush (-6), 2) := by decide +kernel
theorem dX4_row_30 : decode (mC mX4_row) 30 = .ok (.invokevirtual 45, 3) := by decide +kernel
theorem dX4_row_33 : decode (mC mX4_row) 33 = .ok (.ireturn, 1) := by decide +kernel
theorem dX4_row_34 : decode (mC mX4_row) 34 = .ok (.aload_n 0, 1) := by decide +kernel
theorem dX4_row_35 : decode (mC mX4_row) 35 = .ok (.getfield 34, 3) := by decide +kernel
theorem dX4_row_38 : decode (mC mX4_row) 38 = .ok (.iload_n 1, 1) := by decide +kernel
theorem dX4_row_39 : decode (mC mX4_row) 39 = .ok (.invokevirtual 56, 3) := by decide +kernel
theorem dX4_row_42 : decode (mC mX4_row) 42 = .ok (.ireturn, 1) := by decide +kernel
theorem dX4_judge_0 : decode (mC mX4_judge) 0 = .ok (.aload_n 0, 1) := by decide +kernel
theorem dX4_judge_1 : decode (mC mX4_judge) 1 = .ok (.getfield 34, 3) := by decide +kernel
theorem dX4_judge_4 : decode (mC mX4_judge) 4 = .ok (.invokevirtual 66, 3) := by decide +kernel
theorem dX4_judge_7 : decode (mC mX4_judge) 7 = .ok (.istore_n 1, 1) := by decide +kernel
theorem dX4_judge_8 : decode (mC mX4_judge) 8 = .ok (.iconst 0, 1) := by decide +kernel
theorem dX4_judge_9 : decode (mC mX4_judge) 9 = .ok (.istore_n 2, 1) := by decide +kernel
theorem dX4_judge_10 : decode (mC mX4_judge) 10 = .ok (.iload_n 2, 1) := by decide +kernel
theorem dX4_judge_11 : decode (mC mX4_judge) 11 = .ok (.iload_n 1, 1) := by decide +kernel
theorem dX4_judge_12 : decode (mC mX4_judge) 12 = .ok (.if_icmp .ge 47, 3) := by decide +kernel
theorem dX4_judge_15 : decode (mC mX4_judge) 15 = .ok (.aload_n 0, 1) := by decide +kernel
theorem dX4_judge_16 : decode (mC mX4_judge) 16 = .ok (.getfield 10, 3) := by decide +kernel
theorem dX4_judge_19 : decode (mC mX4_judge) 19 = .ok (.iload_n 2, 1) := by decide +kernel
theorem dX4_judge_20 : decode (mC mX4_judge) 20 = .ok (.invokevirtual 119, 3) := by decide +kernel
theorem dX4_judge_23 : decode (mC mX4_judge) 23 = .ok (.ifCond .eq 28, 3) := by decide +kernel
theorem dX4_judge_26 : decode (mC mX4_judge) 26 = .ok (.aload_n 0, 1) := by decide +kernel
theorem dX4_judge_27 : decode (mC mX4_judge) 27 = .ok (.getfield 10, 3) := by decide +kernel
theorem dX4_judge_30 : decode (mC mX4_judge) 30 = .ok (.getfield 120, 3) := by decide +kernel
theorem dX4_judge_33 : decode (mC mX4_judge) 33 = .ok (.iload_n 2, 1) := by decide +kernel
theorem dX4_judge_34 : decode (mC mX4_judge) 34 = .ok (.invokestatic 103, 3) := by decide +kernel
theorem dX4_judge_37 : decode (mC mX4_judge) 37 = .ok (.aload_n 0, 1) := by decide +kernel
theorem dX4_judge_38 : decode (mC mX4_judge) 38 = .ok (.getfield 34, 3) := by decide +kernel
theorem dX4_judge_41 : decode (mC mX4_judge) 41 = .ok (.getfield 277, 3) := by decide +kernel
theorem dX4_judge_44 : decode (mC mX4_judge) 44 = .ok (.iload_n 2, 1) := by decide +kernel
theorem dX4_judge_45 : decode (mC mX4_judge) 45 = .ok (.invokestatic 103, 3) := by decide +kernel
theorem dX4_judge_48 : decode (mC mX4_judge) 48 = .ok (.if_icmp .eq 5, 3) := by decide +kernel
theorem dX4_judge_51 : decode (mC mX4_judge) 51 = .ok (.iload_n 2, 1) := by decide +kernel
theorem dX4_judge_52 : decode (mC mX4_judge) 52 = .ok (.ireturn, 1) := by decide +kernel
theorem dX4_judge_53 : decode (mC mX4_judge) 53 = .ok (.iinc 2 1, 3) := by decide +kernel
theorem dX4_judge_56 : decode (mC mX4_judge) 56 = .ok (.goto (-46), 3) := by decide +kernel
theorem dX4_judge_59 : decode (mC mX4_judge) 59 = .ok (.bipush (-9), 2) := by decide +kernel
theorem dX4_judge_61 : decode (mC mX4_judge) 61 = .ok (.ireturn, 1) := by decide +kernel
theorem dX4_clear_0 : decode (mC mX4_clear) 0 = .ok (.aload_n 0, 1) := by decide +kernel
theorem dX4_clear_1 : decode (mC mX4_clear) 1 = .ok (.getfield 34, 3) := by decide +kernel
theorem dX4_clear_4 : decode (mC mX4_clear) 4 = .ok (.invokevirtual 66, 3) := by decide +kernel
theorem dX4_clear_7 : decode (mC mX4_clear) 7 = .ok (.ireturn, 1) := by decide +kernel
theorem dX4_lots_0 : decode (mC mX4_lots) 0 = .ok (.iload_n 1, 1) := by decide +kernel
theorem dX4_lots_1 : decode (mC mX4_lots) 1 = .ok (.iconst 1, 1) := by decide +kernel
theorem dX4_lots_2 : decode (mC mX4_lots) 2 = .ok (.if_icmp .ge 10, 3) := by decide +kernel
theorem dX4_lots_5 : decode (mC mX4_lots) 5 = .ok (.aload_n 0, 1) := by decide +kernel
theorem dX4_lots_6 : decode (mC mX4_lots) 6 = .ok (.bipush (-4), 2) := by decide +kernel
theorem dX4_lots_8 : decode (mC mX4_lots) 8 = .ok (.invokevirtual 45, 3) := by decide +kernel
theorem dX4_lots_11 : decode (mC mX4_lots) 11 = .ok (.ireturn, 1) := by decide +kernel
theorem dX4_lots_12 : decode (mC mX4_lots) 12 = .ok (.iload_n 1, 1) := by decide +kernel
theorem dX4_lots_13 : decode (mC mX4_lots) 13 = .ok (.bipush 20, 2) := by decide +kernel
theorem dX4_lots_15 : decode (mC mX4_lots) 15 = .ok (.if_icmp .le 10, 3) := by decide +kernel
theorem dX4_lots_18 : decode (mC mX4_lots) 18 = .ok (.aload_n 0, 1) := by decide +kernel
theorem dX4_lots_19 : decode (mC mX4_lots) 19 = .ok (.bipush (-6), 2) := by decide +kernel
theorem dX4_lots_21 : decode (mC mX4_lots) 21 = .ok (.invokevirtual 45, 3) := by decide +kernel
theorem dX4_lots_24 : decode (mC mX4_lots) 24 = .ok (.ireturn, 1) := by decide +kernel
theorem dX4_lots_25 : decode (mC mX4_lots) 25 = .ok (.iload_n 3, 1) := by decide +kernel
theorem dX4_lots_26 : decode (mC mX4_lots) 26 = .ok (.invokestatic 159, 3) := by decide +kernel
theorem dX4_lots_29 : decode (mC mX4_lots) 29 = .ok (.ifCond .ne 10, 3) := by decide +kernel
theorem dX4_lots_32 : decode (mC mX4_lots) 32 = .ok (.aload_n 0, 1) := by decide +kernel
theorem dX4_lots_33 : decode (mC mX4_lots) 33 = .ok (.bipush (-2), 2) := by decide +kernel
theorem dX4_lots_35 : decode (mC mX4_lots) 35 = .ok (.invokevirtual 45, 3) := by decide +kernel
theorem dX4_lots_38 : decode (mC mX4_lots) 38 = .ok (.ireturn, 1) := by decide +kernel
theorem dX4_lots_39 : decode (mC mX4_lots) 39 = .ok (.iload_n 2, 1) := by decide +kernel
theorem dX4_lots_40 : decode (mC mX4_lots) 40 = .ok (.istore 4, 2) := by decide +kernel
theorem dX4_lots_42 : decode (mC mX4_lots) 42 = .ok (.iconst 0, 1) := by decide +kernel
theorem dX4_lots_43 : decode (mC mX4_lots) 43 = .ok (.istore 5, 2) := by decide +kernel
theorem dX4_lots_45 : decode (mC mX4_lots) 45 = .ok (.iconst 0, 1) := by decide +kernel
theorem dX4_lots_46 : decode (mC mX4_lots) 46 = .ok (.istore 6, 2) := by decide +kernel
theorem dX4_lots_48 : decode (mC mX4_lots) 48 = .ok (.iconst 0, 1) := by decide +kernel
theorem dX4_lots_49 : decode (mC mX4_lots) 49 = .ok (.istore 7, 2) := by decide +kernel
theorem dX4_lots_51 : decode (mC mX4_lots) 51 = .ok (.iload 7, 2) := by decide +kernel
theorem dX4_lots_53 : decode (mC mX4_lots) 53 = .ok (.iload_n 1, 1) := by decide +kernel
theorem dX4_lots_54 : decode (mC mX4_lots) 54 = .ok (.if_icmp .ge 71, 3) := by decide +kernel
theorem dX4_lots_57 : decode (mC mX4_lots) 57 = .ok (.aload_n 0, 1) := by decide +kernel
theorem dX4_lots_58 : decode (mC mX4_lots) 58 = .ok (.getfield 16, 3) := by decide +kernel
theorem dX4_lots_61 : decode (mC mX4_lots) 61 = .ok (.aload_n 0, 1) := by decide +kernel
theorem dX4_lots_62 : decode (mC mX4_lots) 62 = .ok (.getfield 10, 3) := by decide +kernel
theorem dX4_lots_65 : decode (mC mX4_lots) 65 = .ok (.invokevirtual 69, 3) := by decide +kernel
theorem dX4_lots_68 : decode (mC mX4_lots) 68 = .ok (.aload_n 0, 1) := by decide +kernel
theorem dX4_lots_69 : decode (mC mX4_lots) 69 = .ok (.iload 4, 2) := by decide +kernel
theorem dX4_lots_71 : decode (mC mX4_lots) 71 = .ok (.invokevirtual 280, 3) := by decide +kernel
theorem dX4_lots_74 : decode (mC mX4_lots) 74 = .ok (.istore 4, 2) := by decide +kernel
theorem dX4_lots_76 : decode (mC mX4_lots) 76 = .ok (.aload_n 0, 1) := by decide +kernel
theorem dX4_lots_77 : decode (mC mX4_lots) 77 = .ok (.getfield 16, 3) := by decide +kernel
theorem dX4_lots_80 : decode (mC mX4_lots) 80 = .ok (.bipush 8, 2) := by decide +kernel
theorem dX4_lots_82 : decode (mC mX4_lots) 82 = .ok (.iconst 0, 1) := by decide +kernel
theorem dX4_lots_83 : decode (mC mX4_lots) 83 = .ok (.invokevirtual 152, 3) := by decide +kernel
theorem dX4_lots_86 : decode (mC mX4_lots) 86 = .ok (.pop, 1) := by decide +kernel
theorem dX4_lots_87 : decode (mC mX4_lots) 87 = .ok (.iload 5, 2) := by decide +kernel
theorem dX4_lots_89 : decode (mC mX4_lots) 89 = .ok (.aload_n 0, 1) := by decide +kernel
theorem dX4_lots_90 : decode (mC mX4_lots) 90 = .ok (.getfield 16, 3) := by decide +kernel
theorem dX4_lots_93 : decode (mC mX4_lots) 93 = .ok (.invokevirtual 156, 3) := by decide +kernel
theorem dX4_lots_96 : decode (mC mX4_lots) 96 = .ok (.iadd, 1) := by decide +kernel
theorem dX4_lots_97 : decode (mC mX4_lots) 97 = .ok (.istore 5, 2) := by decide +kernel
theorem dX4_lots_99 : decode (mC mX4_lots) 99 = .ok (.iload 6, 2) := by decide +kernel
theorem dX4_lots_101 : decode (mC mX4_lots) 101 = .ok (.aload_n 0, 1) := by decide +kernel
theorem dX4_lots_102 : decode (mC mX4_lots) 102 = .ok (.getfield 16, 3) := by decide +kernel
theorem dX4_lots_105 : decode (mC mX4_lots) 105 = .ok (.getfield 162, 3) := by decide +kernel
theorem dX4_lots_108 : decode (mC mX4_lots) 108 = .ok (.aload_n 0, 1) := by decide +kernel
theorem dX4_lots_109 : decode (mC mX4_lots) 109 = .ok (.getfield 10, 3) := by decide +kernel
theorem dX4_lots_112 : decode (mC mX4_lots) 112 = .ok (.getfield 162, 3) := by decide +kernel
theorem dX4_lots_115 : decode (mC mX4_lots) 115 = .ok (.isub, 1) := by decide +kernel
theorem dX4_lots_116 : decode (mC mX4_lots) 116 = .ok (.iadd, 1) := by decide +kernel
theorem dX4_lots_117 : decode (mC mX4_lots) 117 = .ok (.istore 6, 2) := by decide +kernel
theorem dX4_lots_119 : decode (mC mX4_lots) 119 = .ok (.iinc 7 1, 3) := by decide +kernel
theorem dX4_lots_122 : decode (mC mX4_lots) 122 = .ok (.goto (-71), 3) := by decide +kernel
theorem dX4_lots_125 : decode (mC mX4_lots) 125 = .ok (.iload_n 3, 1) := by decide +kernel
theorem dX4_lots_126 : decode (mC mX4_lots) 126 = .ok (.ifCond .ne 8, 3) := by decide +kernel
theorem dX4_lots_129 : decode (mC mX4_lots) 129 = .ok (.iload 5, 2) := by decide +kernel
theorem dX4_lots_131 : decode (mC mX4_lots) 131 = .ok (.goto 5, 3) := by decide +kernel
theorem dX4_lots_134 : decode (mC mX4_lots) 134 = .ok (.iload 6, 2) := by decide +kernel
theorem dX4_lots_136 : decode (mC mX4_lots) 136 = .ok (.ireturn, 1) := by decide +kernel
theorem dX4_placeByLot_0 : decode (mC mX4_placeByLot) 0 = .ok (.iload_n 1, 1) := by decide +kernel
theorem dX4_placeByLot_1 : decode (mC mX4_placeByLot) 1 = .ok (.istore_n 2, 1) := by decide +kernel
theorem dX4_placeByLot_2 : decode (mC mX4_placeByLot) 2 = .ok (.iconst 0, 1) := by decide +kernel
theorem dX4_placeByLot_3 : decode (mC mX4_placeByLot) 3 = .ok (.istore_n 3, 1) := by decide +kernel
theorem dX4_placeByLot_4 : decode (mC mX4_placeByLot) 4 = .ok (.iload_n 3, 1) := by decide +kernel
theorem dX4_placeByLot_5 : decode (mC mX4_placeByLot) 5 = .ok (.aload_n 0, 1) := by decide +kernel
theorem dX4_placeByLot_6 : decode (mC mX4_placeByLot) 6 = .ok (.getfield 16, 3) := by decide +kernel
theorem dX4_placeByLot_9 : decode (mC mX4_placeByLot) 9 = .ok (.getfield 171, 3) := by decide +kernel
theorem dX4_placeByLot_12 : decode (mC mX4_placeByLot) 12 = .ok (.if_icmp .ge 49, 3) := by decide +kernel
theorem dX4_placeByLot_15 : decode (mC mX4_placeByLot) 15 = .ok (.iload_n 2, 1) := by decide +kernel
theorem dX4_placeByLot_16 : decode (mC mX4_placeByLot) 16 = .ok (.invokestatic 283, 3) := by decide +kernel
theorem dX4_placeByLot_19 : decode (mC mX4_placeByLot) 19 = .ok (.istore_n 2, 1) := by decide +kernel
theorem dX4_placeByLot_20 : decode (mC mX4_placeByLot) 20 = .ok (.aload_n 0, 1) := by decide +kernel
theorem dX4_placeByLot_21 : decode (mC mX4_placeByLot) 21 = .ok (.getfield 16, 3) := by decide +kernel
theorem dX4_placeByLot_24 : decode (mC mX4_placeByLot) 24 = .ok (.getfield 120, 3) := by decide +kernel
theorem dX4_placeByLot_27 : decode (mC mX4_placeByLot) 27 = .ok (.iload_n 3, 1) := by decide +kernel
theorem dX4_placeByLot_28 : decode (mC mX4_placeByLot) 28 = .ok (.iload_n 2, 1) := by decide +kernel
theorem dX4_placeByLot_29 : decode (mC mX4_placeByLot) 29 = .ok (.invokestatic 286, 3) := by decide +kernel
theorem dX4_placeByLot_32 : decode (mC mX4_placeByLot) 32 = .ok (.invokestatic 217, 3) := by decide +kernel
theorem dX4_placeByLot_35 : decode (mC mX4_placeByLot) 35 = .ok (.iload_n 2, 1) := by decide +kernel
theorem dX4_placeByLot_36 : decode (mC mX4_placeByLot) 36 = .ok (.invokestatic 283, 3) := by decide +kernel
theorem dX4_placeByLot_39 : decode (mC mX4_placeByLot) 39 = .ok (.istore_n 2, 1) := by decide +kernel
theorem dX4_placeByLot_40 : decode (mC mX4_placeByLot) 40 = .ok (.aload_n 0, 1) := by decide +kernel
theorem dX4_placeByLot_41 : decode (mC mX4_placeByLot) 41 = .ok (.getfield 16, 3) := by decide +kernel
theorem dX4_placeByLot_44 : decode (mC mX4_placeByLot) 44 = .ok (.getfield 123, 3) := by decide +kernel
theorem dX4_placeByLot_47 : decode (mC mX4_placeByLot) 47 = .ok (.iload_n 3, 1) := by decide +kernel
theorem dX4_placeByLot_48 : decode (mC mX4_placeByLot) 48 = .ok (.iload_n 2, 1) := by decide +kernel
theorem dX4_placeByLot_49 : decode (mC mX4_placeByLot) 49 = .ok (.invokestatic 286, 3) := by decide +kernel
theorem dX4_placeByLot_52 : decode (mC mX4_placeByLot) 52 = .ok (.invokestatic 217, 3) := by decide +kernel
theorem dX4_placeByLot_55 : decode (mC mX4_placeByLot) 55 = .ok (.iinc 3 1, 3) := by decide +kernel
theorem dX4_placeByLot_58 : decode (mC mX4_placeByLot) 58 = .ok (.goto (-54), 3) := by decide +kernel
theorem dX4_placeByLot_61 : decode (mC mX4_placeByLot) 61 = .ok (.iload_n 2, 1) := by decide +kernel
theorem dX4_placeByLot_62 : decode (mC mX4_placeByLot) 62 = .ok (.ireturn, 1) := by decide +kernel
theorem dX4_nextSeed_0 : decode (mC mX4_nextSeed) 0 = .ok (.iload_n 0, 1) := by decide +kernel
theorem dX4_nextSeed_1 : decode (mC mX4_nextSeed) 1 = .ok (.ldc_w 289, 3) := by decide +kernel
theorem dX4_nextSeed_4 : decode (mC mX4_nextSeed) 4 = .ok (.imul, 1) := by decide +kernel
theorem dX4_nextSeed_5 : decode (mC mX4_nextSeed) 5 = .ok (.ldc_w 290, 3) := by decide +kernel
theorem dX4_nextSeed_8 : decode (mC mX4_nextSeed) 8 = .ok (.iadd, 1) := by decide +kernel
theorem dX4_nextSeed_9 : decode (mC mX4_nextSeed) 9 = .ok (.ireturn, 1) := by decide +kernel
theorem dX4_draw_0 : decode (mC mX4_draw) 0 = .ok (.iload_n 0, 1) := by decide +kernel
theorem dX4_draw_1 : decode (mC mX4_draw) 1 = .ok (.ldc_w 291, 3) := by decide +kernel
theorem dX4_draw_4 : decode (mC mX4_draw) 4 = .ok (.iand, 1) := by decide +kernel
theorem dX4_draw_5 : decode (mC mX4_draw) 5 = .ok (.sipush 256, 3) := by decide +kernel
theorem dX4_draw_8 : decode (mC mX4_draw) 8 = .ok (.idiv, 1) := by decide +kernel
theorem dX4_draw_9 : decode (mC mX4_draw) 9 = .ok (.bipush 8, 2) := by decide +kernel
theorem dX4_draw_11 : decode (mC mX4_draw) 11 = .ok (.irem, 1) := by decide +kernel
theorem dX4_draw_12 : decode (mC mX4_draw) 12 = .ok (.ireturn, 1) := by decide +kernel
theorem dX4_image_0 : decode (mC mX4_image) 0 = .ok (.aload_n 0, 1) := by decide +kernel
theorem dX4_image_1 : decode (mC mX4_image) 1 = .ok (.getfield 19, 3) := by decide +kernel
theorem dX4_image_4 : decode (mC mX4_image) 4 = .ok (.aload_n 0, 1) := by decide +kernel
theorem dX4_image_5 : decode (mC mX4_image) 5 = .ok (.getfield 10, 3) := by decide +kernel
theorem dX4_image_8 : decode (mC mX4_image) 8 = .ok (.invokevirtual 69, 3) := by decide +kernel
theorem dX4_image_11 : decode (mC mX4_image) 11 = .ok (.aload_n 0, 1) := by decide +kernel
theorem dX4_image_12 : decode (mC mX4_image) 12 = .ok (.iconst 1, 1) := by decide +kernel
theorem dX4_image_13 : decode (mC mX4_image) 13 = .ok (.putfield 292, 3) := by decide +kernel
theorem dX4_image_16 : decode (mC mX4_image) 16 = .ok (.aload_n 0, 1) := by decide +kernel
theorem dX4_image_17 : decode (mC mX4_image) 17 = .ok (.getfield 10, 3) := by decide +kernel
theorem dX4_image_20 : decode (mC mX4_image) 20 = .ok (.getfield 129, 3) := by decide +kernel
theorem dX4_image_23 : decode (mC mX4_image) 23 = .ok (.ireturn, 1) := by decide +kernel
theorem dX4_on_0 : decode (mC mX4_on) 0 = .ok (.aload_n 0, 1) := by decide +kernel
theorem dX4_on_1 : decode (mC mX4_on) 1 = .ok (.getfield 292, 3) := by decide +kernel
theorem dX4_on_4 : decode (mC mX4_on) 4 = .ok (.ifCond .ne 10, 3) := by decide +kernel
theorem dX4_on_7 : decode (mC mX4_on) 7 = .ok (.aload_n 0, 1) := by decide +kernel
theorem dX4_on_8 : decode (mC mX4_on) 8 = .ok (.bipush (-3), 2) := by decide +kernel
theorem dX4_on_10 : decode (mC mX4_on) 10 = .ok (.invokevirtual 45, 3) := by decide +kernel
theorem dX4_on_13 : decode (mC mX4_on) 13 = .ok (.ireturn, 1) := by decide +kernel
theorem dX4_on_14 : decode (mC mX4_on) 14 = .ok (.aload_n 0, 1) := by decide +kernel
theorem dX4_on_15 : decode (mC mX4_on) 15 = .ok (.getfield 10, 3) := by decide +kernel
theorem dX4_on_18 : decode (mC mX4_on) 18 = .ok (.aload_n 0, 1) := by decide +kernel
theorem dX4_on_19 : decode (mC mX4_on) 19 = .ok (.getfield 19, 3) := by decide +kernel
theorem dX4_on_22 : decode (mC mX4_on) 22 = .ok (.invokevirtual 69, 3) := by decide +kernel
theorem dX4_on_25 : decode (mC mX4_on) 25 = .ok (.aload_n 0, 1) := by decide +kernel
theorem dX4_on_26 : decode (mC mX4_on) 26 = .ok (.getfield 10, 3) := by decide +kernel
theorem dX4_on_29 : decode (mC mX4_on) 29 = .ok (.getfield 129, 3) := by decide +kernel
theorem dX4_on_32 : decode (mC mX4_on) 32 = .ok (.ireturn, 1) := by decide +kernel
theorem dX4_count_0 : decode (mC mX4_count) 0 = .ok (.iload_n 1, 1) := by decide +kernel
theorem dX4_count_1 : decode (mC mX4_count) 1 = .ok (.tableswitch 117 0 7 #[47, 58, 66, 74, 82, 90, 98, 106], 47) := by decide +kernel
theorem dX4_count_48 : decode (mC mX4_count) 48 = .ok (.aload_n 0, 1) := by decide +kernel
theorem dX4_count_49 : decode (mC mX4_count) 49 = .ok (.getfield 10, 3) := by decide +kernel
theorem dX4_count_52 : decode (mC mX4_count) 52 = .ok (.getfield 90, 3) := by decide +kernel
theorem dX4_count_55 : decode (mC mX4_count) 55 = .ok (.getfield 181, 3) := by decide +kernel
theorem dX4_count_58 : decode (mC mX4_count) 58 = .ok (.ireturn, 1) := by decide +kernel
theorem dX4_count_59 : decode (mC mX4_count) 59 = .ok (.aload_n 0, 1) := by decide +kernel
theorem dX4_count_60 : decode (mC mX4_count) 60 = .ok (.getfield 10, 3) := by decide +kernel
theorem dX4_count_63 : decode (mC mX4_count) 63 = .ok (.getfield 171, 3) := by decide +kernel
theorem dX4_count_66 : decode (mC mX4_count) 66 = .ok (.ireturn, 1) := by decide +kernel
theorem dX4_count_67 : decode (mC mX4_count) 67 = .ok (.aload_n 0, 1) := by decide +kernel
theorem dX4_count_68 : decode (mC mX4_count) 68 = .ok (.getfield 10, 3) := by decide +kernel
theorem dX4_count_71 : decode (mC mX4_count) 71 = .ok (.getfield 129, 3) := by decide +kernel
theorem dX4_count_74 : decode (mC mX4_count) 74 = .ok (.ireturn, 1) := by decide +kernel
theorem dX4_count_75 : decode (mC mX4_count) 75 = .ok (.aload_n 0, 1) := by decide +kernel
theorem dX4_count_76 : decode (mC mX4_count) 76 = .ok (.getfield 10, 3) := by decide +kernel
theorem dX4_count_79 : decode (mC mX4_count) 79 = .ok (.getfield 162, 3) := by decide +kernel
theorem dX4_count_82 : decode (mC mX4_count) 82 = .ok (.ireturn, 1) := by decide +kernel
theorem dX4_count_83 : decode (mC mX4_count) 83 = .ok (.aload_n 0, 1) := by decide +kernel
theorem dX4_count_84 : decode (mC mX4_count) 84 = .ok (.getfield 10, 3) := by decide +kernel
theorem dX4_count_87 : decode (mC mX4_count) 87 = .ok (.invokevirtual 296, 3) := by decide +kernel
theorem dX4_count_90 : decode (mC mX4_count) 90 = .ok (.ireturn, 1) := by decide +kernel
theorem dX4_count_91 : decode (mC mX4_count) 91 = .ok (.aload_n 0, 1) := by decide +kernel
theorem dX4_count_92 : decode (mC mX4_count) 92 = .ok (.getfield 10, 3) := by decide +kernel
theorem dX4_count_95 : decode (mC mX4_count) 95 = .ok (.invokevirtual 265, 3) := by decide +kernel
theorem dX4_count_98 : decode (mC mX4_count) 98 = .ok (.ireturn, 1) := by decide +kernel
theorem dX4_count_99 : decode (mC mX4_count) 99 = .ok (.aload_n 0, 1) := by decide +kernel
theorem dX4_count_100 : decode (mC mX4_count) 100 = .ok (.getfield 34, 3) := by decide +kernel
theorem dX4_count_103 : decode (mC mX4_count) 103 = .ok (.getfield 73, 3) := by decide +kernel
theorem dX4_count_106 : decode (mC mX4_count) 106 = .ok (.ireturn, 1) := by decide +kernel
theorem dX4_count_107 : decode (mC mX4_count) 107 = .ok (.aload_n 0, 1) := by decide +kernel
theorem dX4_count_108 : decode (mC mX4_count) 108 = .ok (.getfield 25, 3) := by decide +kernel
theorem dX4_count_111 : decode (mC mX4_count) 111 = .ok (.getfield 49, 3) := by decide +kernel
theorem dX4_count_114 : decode (mC mX4_count) 114 = .ok (.getfield 73, 3) := by decide +kernel
theorem dX4_count_117 : decode (mC mX4_count) 117 = .ok (.ireturn, 1) := by decide +kernel
theorem dX4_count_118 : decode (mC mX4_count) 118 = .ok (.iload_n 1, 1) := by decide +kernel
theorem dX4_count_119 : decode (mC mX4_count) 119 = .ok (.bipush 10, 2) := by decide +kernel
theorem dX4_count_121 : decode (mC mX4_count) 121 = .ok (.if_icmp .le 23, 3) := by decide +kernel
theorem dX4_count_124 : decode (mC mX4_count) 124 = .ok (.iload_n 1, 1) := by decide +kernel
theorem dX4_count_125 : decode (mC mX4_count) 125 = .ok (.bipush 16, 2) := by decide +kernel
theorem dX4_count_127 : decode (mC mX4_count) 127 = .ok (.if_icmp .gt 17, 3) := by decide +kernel
theorem dX4_count_130 : decode (mC mX4_count) 130 = .ok (.aload_n 0, 1) := by decide +kernel
theorem dX4_count_131 : decode (mC mX4_count) 131 = .ok (.getfield 38, 3) := by decide +kernel
theorem dX4_count_134 : decode (mC mX4_count) 134 = .ok (.iload_n 1, 1) := by decide +kernel
theorem dX4_count_135 : decode (mC mX4_count) 135 = .ok (.bipush 10, 2) := by decide +kernel
theorem dX4_count_137 : decode (mC mX4_count) 137 = .ok (.isub, 1) := by decide +kernel
theorem dX4_count_138 : decode (mC mX4_count) 138 = .ok (.invokestatic 103, 3) := by decide +kernel
theorem dX4_count_141 : decode (mC mX4_count) 141 = .ok (.goto 5, 3) := by decide +kernel
theorem dX4_count_144 : decode (mC mX4_count) 144 = .ok (.bipush (-9), 2) := by decide +kernel
theorem dX4_count_146 : decode (mC mX4_count) 146 = .ok (.ireturn, 1) := by decide +kernel
theorem dX4_refused_0 : decode (mC mX4_refused) 0 = .ok (.aload_n 0, 1) := by decide +kernel
theorem dX4_refused_1 : decode (mC mX4_refused) 1 = .ok (.getfield 38, 3) := by decide +kernel
theorem dX4_refused_4 : decode (mC mX4_refused) 4 = .ok (.iload_n 1, 1) := by decide +kernel
theorem dX4_refused_5 : decode (mC mX4_refused) 5 = .ok (.ineg, 1) := by decide +kernel
theorem dX4_refused_6 : decode (mC mX4_refused) 6 = .ok (.aload_n 0, 1) := by decide +kernel
theorem dX4_refused_7 : decode (mC mX4_refused) 7 = .ok (.getfield 38, 3) := by decide +kernel
theorem dX4_refused_10 : decode (mC mX4_refused) 10 = .ok (.iload_n 1, 1) := by decide +kernel
theorem dX4_refused_11 : decode (mC mX4_refused) 11 = .ok (.ineg, 1) := by decide +kernel
theorem dX4_refused_12 : decode (mC mX4_refused) 12 = .ok (.invokestatic 103, 3) := by decide +kernel
theorem dX4_refused_15 : decode (mC mX4_refused) 15 = .ok (.iconst 1, 1) := by decide +kernel
theorem dX4_refused_16 : decode (mC mX4_refused) 16 = .ok (.iadd, 1) := by decide +kernel
theorem dX4_refused_17 : decode (mC mX4_refused) 17 = .ok (.invokestatic 217, 3) := by decide +kernel
theorem dX4_refused_20 : decode (mC mX4_refused) 20 = .ok (.iload_n 1, 1) := by decide +kernel
theorem dX4_refused_21 : decode (mC mX4_refused) 21 = .ok (.ireturn, 1) := by decide +kernel
theorem dX4_refusedNumber_0 : decode (mC mX4_refusedNumber) 0 = .ok (.aload_n 0, 1) := by decide +kernel
theorem dX4_refusedNumber_1 : decode (mC mX4_refusedNumber) 1 = .ok (.iload_n 1, 1) := by decide +kernel
theorem dX4_refusedNumber_2 : decode (mC mX4_refusedNumber) 2 = .ok (.ifCond .ge 8, 3) := by decide +kernel
theorem dX4_refusedNumber_5 : decode (mC mX4_refusedNumber) 5 = .ok (.bipush (-4), 2) := by decide +kernel
theorem dX4_refusedNumber_7 : decode (mC mX4_refusedNumber) 7 = .ok (.goto 5, 3) := by decide +kernel
theorem dX4_refusedNumber_10 : decode (mC mX4_refusedNumber) 10 = .ok (.bipush (-6), 2) := by decide +kernel
theorem dX4_refusedNumber_12 : decode (mC mX4_refusedNumber) 12 = .ok (.invokevirtual 45, 3) := by decide +kernel
theorem dX4_refusedNumber_15 : decode (mC mX4_refusedNumber) 15 = .ok (.ireturn, 1) := by decide +kernel
theorem dX4_refusedLong_0 : decode (mC mX4_refusedLong) 0 = .ok (.ldc2_w 299, 3) := by decide +kernel
theorem dX4_refusedLong_3 : decode (mC mX4_refusedLong) 3 = .ok (.aload_n 0, 1) := by decide +kernel
theorem dX4_refusedLong_4 : decode (mC mX4_refusedLong) 4 = .ok (.iload_n 1, 1) := by decide +kernel
theorem dX4_refusedLong_5 : decode (mC mX4_refusedLong) 5 = .ok (.invokevirtual 45, 3) := by decide +kernel
theorem dX4_refusedLong_8 : decode (mC mX4_refusedLong) 8 = .ok (.i2l, 1) := by decide +kernel
theorem dX4_refusedLong_9 : decode (mC mX4_refusedLong) 9 = .ok (.lsub, 1) := by decide +kernel
theorem dX4_refusedLong_10 : decode (mC mX4_refusedLong) 10 = .ok (.lreturn, 1) := by decide +kernel
theorem dX4_at_0 : decode (mC mX4_at) 0 = .ok (.iload_n 1, 1) := by decide +kernel
theorem dX4_at_1 : decode (mC mX4_at) 1 = .ok (.ifCond .lt 15, 3) := by decide +kernel
theorem dX4_at_4 : decode (mC mX4_at) 4 = .ok (.iload_n 1, 1) := by decide +kernel
theorem dX4_at_5 : decode (mC mX4_at) 5 = .ok (.aload_n 0, 1) := by decide +kernel
theorem dX4_at_6 : decode (mC mX4_at) 6 = .ok (.arraylength, 1) := by decide +kernel
theorem dX4_at_7 : decode (mC mX4_at) 7 = .ok (.if_icmp .ge 9, 3) := by decide +kernel
theorem dX4_at_10 : decode (mC mX4_at) 10 = .ok (.aload_n 0, 1) := by decide +kernel
theorem dX4_at_11 : decode (mC mX4_at) 11 = .ok (.iload_n 1, 1) := by decide +kernel
theorem dX4_at_12 : decode (mC mX4_at) 12 = .ok (.iaload, 1) := by decide +kernel
theorem dX4_at_13 : decode (mC mX4_at) 13 = .ok (.goto 5, 3) := by decide +kernel
theorem dX4_at_16 : decode (mC mX4_at) 16 = .ok (.bipush (-9), 2) := by decide +kernel
theorem dX4_at_18 : decode (mC mX4_at) 18 = .ok (.ireturn, 1) := by decide +kernel
theorem dX4_put_0 : decode (mC mX4_put) 0 = .ok (.iload_n 1, 1) := by decide +kernel
theorem dX4_put_1 : decode (mC mX4_put) 1 = .ok (.ifCond .lt 13, 3) := by decide +kernel
theorem dX4_put_4 : decode (mC mX4_put) 4 = .ok (.iload_n 1, 1) := by decide +kernel
theorem dX4_put_5 : decode (mC mX4_put) 5 = .ok (.aload_n 0, 1) := by decide +kernel
theorem dX4_put_6 : decode (mC mX4_put) 6 = .ok (.arraylength, 1) := by decide +kernel
theorem dX4_put_7 : decode (mC mX4_put) 7 = .ok (.if_icmp .ge 7, 3) := by decide +kernel
theorem dX4_put_10 : decode (mC mX4_put) 10 = .ok (.aload_n 0, 1) := by decide +kernel
theorem dX4_put_11 : decode (mC mX4_put) 11 = .ok (.iload_n 1, 1) := by decide +kernel
theorem dX4_put_12 : decode (mC mX4_put) 12 = .ok (.iload_n 2, 1) := by decide +kernel
theorem dX4_put_13 : decode (mC mX4_put) 13 = .ok (.iastore, 1) := by decide +kernel
theorem dX4_put_14 : decode (mC mX4_put) 14 = .ok (.return_, 1) := by decide +kernel
theorem dX4_exchange_0 : decode (mC mX4_exchange) 0 = .ok (.aload_n 0, 1) := by decide +kernel
theorem dX4_exchange_1 : decode (mC mX4_exchange) 1 = .ok (.iload_n 1, 1) := by decide +kernel
theorem dX4_exchange_2 : decode (mC mX4_exchange) 2 = .ok (.invokestatic 103, 3) := by decide +kernel
theorem dX4_exchange_5 : decode (mC mX4_exchange) 5 = .ok (.istore_n 3, 1) := by decide +kernel
theorem dX4_exchange_6 : decode (mC mX4_exchange) 6 = .ok (.aload_n 0, 1) := by decide +kernel
theorem dX4_exchange_7 : decode (mC mX4_exchange) 7 = .ok (.iload_n 1, 1) := by decide +kernel
theorem dX4_exchange_8 : decode (mC mX4_exchange) 8 = .ok (.iload_n 2, 1) := by decide +kernel
theorem dX4_exchange_9 : decode (mC mX4_exchange) 9 = .ok (.invokestatic 217, 3) := by decide +kernel
theorem dX4_exchange_12 : decode (mC mX4_exchange) 12 = .ok (.iload_n 3, 1) := by decide +kernel
theorem dX4_exchange_13 : decode (mC mX4_exchange) 13 = .ok (.ireturn, 1) := by decide +kernel
theorem dX4_bitsOf_0 : decode (mC mX4_bitsOf) 0 = .ok (.iconst 0, 1) := by decide +kernel
theorem dX4_bitsOf_1 : decode (mC mX4_bitsOf) 1 = .ok (.istore_n 3, 1) := by decide +kernel
theorem dX4_bitsOf_2 : decode (mC mX4_bitsOf) 2 = .ok (.iconst 0, 1) := by decide +kernel
theorem dX4_bitsOf_3 : decode (mC mX4_bitsOf) 3 = .ok (.istore 4, 2) := by decide +kernel
theorem dX4_bitsOf_5 : decode (mC mX4_bitsOf) 5 = .ok (.iload 4, 2) := by decide +kernel
theorem dX4_bitsOf_7 : decode (mC mX4_bitsOf) 7 = .ok (.iload_n 1, 1) := by decide +kernel
theorem dX4_bitsOf_8 : decode (mC mX4_bitsOf) 8 = .ok (.if_icmp .ge 26, 3) := by decide +kernel
theorem dX4_bitsOf_11 : decode (mC mX4_bitsOf) 11 = .ok (.aload_n 0, 1) := by decide +kernel
theorem dX4_bitsOf_12 : decode (mC mX4_bitsOf) 12 = .ok (.iload 4, 2) := by decide +kernel
theorem dX4_bitsOf_14 : decode (mC mX4_bitsOf) 14 = .ok (.invokestatic 103, 3) := by decide +kernel
theorem dX4_bitsOf_17 : decode (mC mX4_bitsOf) 17 = .ok (.iload_n 2, 1) := by decide +kernel
theorem dX4_bitsOf_18 : decode (mC mX4_bitsOf) 18 = .ok (.if_icmp .ne 10, 3) := by decide +kernel
theorem dX4_bitsOf_21 : decode (mC mX4_bitsOf) 21 = .ok (.iload_n 3, 1) := by decide +kernel
theorem dX4_bitsOf_22 : decode (mC mX4_bitsOf) 22 = .ok (.iconst 1, 1) := by decide +kernel
theorem dX4_bitsOf_23 : decode (mC mX4_bitsOf) 23 = .ok (.iload 4, 2) := by decide +kernel
theorem dX4_bitsOf_25 : decode (mC mX4_bitsOf) 25 = .ok (.ishl, 1) := by decide +kernel
theorem dX4_bitsOf_26 : decode (mC mX4_bitsOf) 26 = .ok (.ior, 1) := by decide +kernel
theorem dX4_bitsOf_27 : decode (mC mX4_bitsOf) 27 = .ok (.istore_n 3, 1) := by decide +kernel
theorem dX4_bitsOf_28 : decode (mC mX4_bitsOf) 28 = .ok (.iinc 4 1, 3) := by decide +kernel
theorem dX4_bitsOf_31 : decode (mC mX4_bitsOf) 31 = .ok (.goto (-26), 3) := by decide +kernel
theorem dX4_bitsOf_34 : decode (mC mX4_bitsOf) 34 = .ok (.iload_n 3, 1) := by decide +kernel
theorem dX4_bitsOf_35 : decode (mC mX4_bitsOf) 35 = .ok (.ireturn, 1) := by decide +kernel
theorem dX4_copy_0 : decode (mC mX4_copy) 0 = .ok (.aload_n 0, 1) := by decide +kernel
theorem dX4_copy_1 : decode (mC mX4_copy) 1 = .ok (.iconst 0, 1) := by decide +kernel
theorem dX4_copy_2 : decode (mC mX4_copy) 2 = .ok (.aload_n 1, 1) := by decide +kernel
theorem dX4_copy_3 : decode (mC mX4_copy) 3 = .ok (.iconst 0, 1) := by decide +kernel
theorem dX4_copy_4 : decode (mC mX4_copy) 4 = .ok (.aload_n 0, 1) := by decide +kernel
theorem dX4_copy_5 : decode (mC mX4_copy) 5 = .ok (.arraylength, 1) := by decide +kernel
theorem dX4_copy_6 : decode (mC mX4_copy) 6 = .ok (.aload_n 1, 1) := by decide +kernel
theorem dX4_copy_7 : decode (mC mX4_copy) 7 = .ok (.arraylength, 1) := by decide +kernel
theorem dX4_copy_8 : decode (mC mX4_copy) 8 = .ok (.invokestatic 186, 3) := by decide +kernel
theorem dX4_copy_11 : decode (mC mX4_copy) 11 = .ok (.invokestatic 301, 3) := by decide +kernel
theorem dX4_copy_14 : decode (mC mX4_copy) 14 = .ok (.return_, 1) := by decide +kernel
theorem dX4_isRoom_0 : decode (mC mX4_isRoom) 0 = .ok (.iload_n 0, 1) := by decide +kernel
theorem dX4_isRoom_1 : decode (mC mX4_isRoom) 1 = .ok (.ifCond .lt 13, 3) := by decide +kernel
theorem dX4_isRoom_4 : decode (mC mX4_isRoom) 4 = .ok (.iload_n 0, 1) := by decide +kernel
theorem dX4_isRoom_5 : decode (mC mX4_isRoom) 5 = .ok (.bipush 8, 2) := by decide +kernel
theorem dX4_isRoom_7 : decode (mC mX4_isRoom) 7 = .ok (.if_icmp .ge 7, 3) := by decide +kernel
theorem dX4_isRoom_10 : decode (mC mX4_isRoom) 10 = .ok (.iconst 1, 1) := by decide +kernel
theorem dX4_isRoom_11 : decode (mC mX4_isRoom) 11 = .ok (.goto 4, 3) := by decide +kernel
theorem dX4_isRoom_14 : decode (mC mX4_isRoom) 14 = .ok (.iconst 0, 1) := by decide +kernel
theorem dX4_isRoom_15 : decode (mC mX4_isRoom) 15 = .ok (.ireturn, 1) := by decide +kernel
theorem dX4_isHalf_0 : decode (mC mX4_isHalf) 0 = .ok (.iload_n 0, 1) := by decide +kernel
theorem dX4_isHalf_1 : decode (mC mX4_isHalf) 1 = .ok (.ifCond .eq 8, 3) := by decide +kernel
theorem dX4_isHalf_4 : decode (mC mX4_isHalf) 4 = .ok (.iload_n 0, 1) := by decide +kernel
theorem dX4_isHalf_5 : decode (mC mX4_isHalf) 5 = .ok (.iconst 1, 1) := by decide +kernel
theorem dX4_isHalf_6 : decode (mC mX4_isHalf) 6 = .ok (.if_icmp .ne 7, 3) := by decide +kernel
theorem dX4_isHalf_9 : decode (mC mX4_isHalf) 9 = .ok (.iconst 1, 1) := by decide +kernel
theorem dX4_isHalf_10 : decode (mC mX4_isHalf) 10 = .ok (.goto 4, 3) := by decide +kernel
theorem dX4_isHalf_13 : decode (mC mX4_isHalf) 13 = .ok (.iconst 0, 1) := by decide +kernel
theorem dX4_isHalf_14 : decode (mC mX4_isHalf) 14 = .ok (.ireturn, 1) := by decide +kernel
theorem dX4_hasBit_0 : decode (mC mX4_hasBit) 0 = .ok (.iload_n 0, 1) := by decide +kernel
theorem dX4_hasBit_1 : decode (mC mX4_hasBit) 1 = .ok (.iload_n 1, 1) := by decide +kernel
theorem dX4_hasBit_2 : decode (mC mX4_hasBit) 2 = .ok (.ishr, 1) := by decide +kernel
theorem dX4_hasBit_3 : decode (mC mX4_hasBit) 3 = .ok (.iconst 1, 1) := by decide +kernel
theorem dX4_hasBit_4 : decode (mC mX4_hasBit) 4 = .ok (.iand, 1) := by decide +kernel
theorem dX4_hasBit_5 : decode (mC mX4_hasBit) 5 = .ok (.iconst 1, 1) := by decide +kernel
theorem dX4_hasBit_6 : decode (mC mX4_hasBit) 6 = .ok (.if_icmp .ne 7, 3) := by decide +kernel
theorem dX4_hasBit_9 : decode (mC mX4_hasBit) 9 = .ok (.iconst 1, 1) := by decide +kernel
theorem dX4_hasBit_10 : decode (mC mX4_hasBit) 10 = .ok (.goto 4, 3) := by decide +kernel
theorem dX4_hasBit_13 : decode (mC mX4_hasBit) 13 = .ok (.iconst 0, 1) := by decide +kernel
theorem dX4_hasBit_14 : decode (mC mX4_hasBit) 14 = .ok (.ireturn, 1) := by decide +kernel
theorem dX4_toldWay_0 : decode (mC mX4_toldWay) 0 = .ok (.iload_n 0, 1) := by decide +kernel
theorem dX4_toldWay_1 : decode (mC mX4_toldWay) 1 = .ok (.sipush 1000, 3) := by decide +kernel
theorem dX4_toldWay_4 : decode (mC mX4_toldWay) 4 = .ok (.if_icmp .lt 8, 3) := by decide +kernel
theorem dX4_toldWay_7 : decode (mC mX4_toldWay) 7 = .ok (.bipush (-9), 2) := by decide +kernel
theorem dX4_toldWay_9 : decode (mC mX4_toldWay) 9 = .ok (.goto 4, 3) := by decide +kernel
theorem dX4_toldWay_12 : decode (mC mX4_toldWay) 12 = .ok (.iload_n 0, 1) := by decide +kernel
theorem dX4_toldWay_13 : decode (mC mX4_toldWay) 13 = .ok (.ireturn, 1) := by decide +kernel
theorem dX4_power_0 : decode (mC mX4_power) 0 = .ok (.lconst 1, 1) := by decide +kernel
theorem dX4_power_1 : decode (mC mX4_power) 1 = .ok (.lstore_n 2, 1) := by decide +kernel
theorem dX4_power_2 : decode (mC mX4_power) 2 = .ok (.iconst 0, 1) := by decide +kernel
theorem dX4_power_3 : decode (mC mX4_power) 3 = .ok (.istore 4, 2) := by decide +kernel
theorem dX4_power_5 : decode (mC mX4_power) 5 = .ok (.iload 4, 2) := by decide +kernel
theorem dX4_power_7 : decode (mC mX4_power) 7 = .ok (.iload_n 1, 1) := by decide +kernel
theorem dX4_power_8 : decode (mC mX4_power) 8 = .ok (.if_icmp .ge 14, 3) := by decide +kernel
theorem dX4_power_11 : decode (mC mX4_power) 11 = .ok (.lload_n 2, 1) := by decide +kernel
theorem dX4_power_12 : decode (mC mX4_power) 12 = .ok (.iload_n 0, 1) := by decide +kernel
theorem dX4_power_13 : decode (mC mX4_power) 13 = .ok (.i2l, 1) := by decide +kernel
theorem dX4_power_14 : decode (mC mX4_power) 14 = .ok (.lmul, 1) := by decide +kernel
theorem dX4_power_15 : decode (mC mX4_power) 15 = .ok (.lstore_n 2, 1) := by decide +kernel
theorem dX4_power_16 : decode (mC mX4_power) 16 = .ok (.iinc 4 1, 3) := by decide +kernel
theorem dX4_power_19 : decode (mC mX4_power) 19 = .ok (.goto (-14), 3) := by decide +kernel
theorem dX4_power_22 : decode (mC mX4_power) 22 = .ok (.lload_n 2, 1) := by decide +kernel
theorem dX4_power_23 : decode (mC mX4_power) 23 = .ok (.lreturn, 1) := by decide +kernel
theorem dX4_partOf_0 : decode (mC mX4_partOf) 0 = .ok (.lload_n 0, 1) := by decide +kernel
theorem dX4_partOf_1 : decode (mC mX4_partOf) 1 = .ok (.lload_n 2, 1) := by decide +kernel
theorem dX4_partOf_2 : decode (mC mX4_partOf) 2 = .ok (.invokestatic 307, 3) := by decide +kernel
theorem dX4_partOf_5 : decode (mC mX4_partOf) 5 = .ok (.lstore 5, 2) := by decide +kernel
theorem dX4_partOf_7 : decode (mC mX4_partOf) 7 = .ok (.lload 5, 2) := by decide +kernel
theorem dX4_partOf_9 : decode (mC mX4_partOf) 9 = .ok (.lconst 1, 1) := by decide +kernel
theorem dX4_partOf_10 : decode (mC mX4_partOf) 10 = .ok (.lcmp, 1) := by decide +kernel
theorem dX4_partOf_11 : decode (mC mX4_partOf) 11 = .ok (.ifCond .ge 7, 3) := by decide +kernel
theorem dX4_partOf_14 : decode (mC mX4_partOf) 14 = .ok (.iload 4, 2) := by decide +kernel
theorem dX4_partOf_16 : decode (mC mX4_partOf) 16 = .ok (.i2l, 1) := by decide +kernel
theorem dX4_partOf_17 : decode (mC mX4_partOf) 17 = .ok (.lreturn, 1) := by decide +kernel
theorem dX4_partOf_18 : decode (mC mX4_partOf) 18 = .ok (.iload 4, 2) := by decide +kernel
theorem dX4_partOf_20 : decode (mC mX4_partOf) 20 = .ok (.ifCond .ne 7, 3) := by decide +kernel
theorem dX4_partOf_23 : decode (mC mX4_partOf) 23 = .ok (.lload_n 0, 1) := by decide +kernel
theorem dX4_partOf_24 : decode (mC mX4_partOf) 24 = .ok (.goto 4, 3) := by decide +kernel
theorem dX4_partOf_27 : decode (mC mX4_partOf) 27 = .ok (.lload_n 2, 1) := by decide +kernel
theorem dX4_partOf_28 : decode (mC mX4_partOf) 28 = .ok (.lload 5, 2) := by decide +kernel
theorem dX4_partOf_30 : decode (mC mX4_partOf) 30 = .ok (.ldiv, 1) := by decide +kernel
theorem dX4_partOf_31 : decode (mC mX4_partOf) 31 = .ok (.lreturn, 1) := by decide +kernel
theorem dX4_commonDivisor_0 : decode (mC mX4_commonDivisor) 0 = .ok (.lload_n 0, 1) := by decide +kernel
theorem dX4_commonDivisor_1 : decode (mC mX4_commonDivisor) 1 = .ok (.lstore 4, 2) := by decide +kernel
theorem dX4_commonDivisor_3 : decode (mC mX4_commonDivisor) 3 = .ok (.lload_n 2, 1) := by decide +kernel
theorem dX4_commonDivisor_4 : decode (mC mX4_commonDivisor) 4 = .ok (.lstore 6, 2) := by decide +kernel
theorem dX4_commonDivisor_6 : decode (mC mX4_commonDivisor) 6 = .ok (.iconst 0, 1) := by decide +kernel
theorem dX4_commonDivisor_7 : decode (mC mX4_commonDivisor) 7 = .ok (.istore 8, 2) := by decide +kernel
theorem dX4_commonDivisor_9 : decode (mC mX4_commonDivisor) 9 = .ok (.iload 8, 2) := by decide +kernel
theorem dX4_commonDivisor_11 : decode (mC mX4_commonDivisor) 11 = .ok (.sipush 200, 3) := by decide +kernel
theorem dX4_commonDivisor_14 : decode (mC mX4_commonDivisor) 14 = .ok (.if_icmp .ge 31, 3) := by decide +kernel
theorem dX4_commonDivisor_17 : decode (mC mX4_commonDivisor) 17 = .ok (.lload 6, 2) := by decide +kernel
theorem dX4_commonDivisor_19 : decode (mC mX4_commonDivisor) 19 = .ok (.lconst 0, 1) := by decide +kernel
theorem dX4_commonDivisor_20 : decode (mC mX4_commonDivisor) 20 = .ok (.lcmp, 1) := by decide +kernel
theorem dX4_commonDivisor_21 : decode (mC mX4_commonDivisor) 21 = .ok (.ifCond .eq 24, 3) := by decide +kernel
theorem dX4_commonDivisor_24 : decode (mC mX4_commonDivisor) 24 = .ok (.lload 4, 2) := by decide +kernel
theorem dX4_commonDivisor_26 : decode (mC mX4_commonDivisor) 26 = .ok (.lload 6, 2) := by decide +kernel
theorem dX4_commonDivisor_28 : decode (mC mX4_commonDivisor) 28 = .ok (.lrem, 1) := by decide +kernel
theorem dX4_commonDivisor_29 : decode (mC mX4_commonDivisor) 29 = .ok (.lstore 9, 2) := by decide +kernel
theorem dX4_commonDivisor_31 : decode (mC mX4_commonDivisor) 31 = .ok (.lload 6, 2) := by decide +kernel
theorem dX4_commonDivisor_33 : decode (mC mX4_commonDivisor) 33 = .ok (.lstore 4, 2) := by decide +kernel
theorem dX4_commonDivisor_35 : decode (mC mX4_commonDivisor) 35 = .ok (.lload 9, 2) := by decide +kernel
theorem dX4_commonDivisor_37 : decode (mC mX4_commonDivisor) 37 = .ok (.lstore 6, 2) := by decide +kernel
theorem dX4_commonDivisor_39 : decode (mC mX4_commonDivisor) 39 = .ok (.iinc 8 1, 3) := by decide +kernel
theorem dX4_commonDivisor_42 : decode (mC mX4_commonDivisor) 42 = .ok (.goto (-33), 3) := by decide +kernel
theorem dX4_commonDivisor_45 : decode (mC mX4_commonDivisor) 45 = .ok (.lload 4, 2) := by decide +kernel
theorem dX4_commonDivisor_47 : decode (mC mX4_commonDivisor) 47 = .ok (.lreturn, 1) := by decide +kernel

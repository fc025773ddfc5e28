theorem dX11_is_0 : decode cX11_is 0 = .ok (.iload_n 2, 1) := by decide +kernel
theorem dX11_is_1 : decode cX11_is 1 = .ok (.i2l, 1) := by decide +kernel
theorem dX11_is_2 : decode cX11_is 2 = .ok (.lconst 0, 1) := by decide +kernel
theorem dX11_is_3 : decode cX11_is 3 = .ok (.aload_n 0, 1) := by decide +kernel
theorem dX11_is_4 : decode cX11_is 4 = .ok (.getfield 7, 3) := by decide +kernel
theorem dX11_is_7 : decode cX11_is 7 = .ok (.iload_n 1, 1) := by decide +kernel
theorem dX11_is_8 : decode cX11_is 8 = .ok (.iaload, 1) := by decide +kernel
theorem dX11_is_9 : decode cX11_is 9 = .ok (.iconst 1, 1) := by decide +kernel
theorem dX11_is_10 : decode cX11_is 10 = .ok (.isub, 1) := by decide +kernel
theorem dX11_is_11 : decode cX11_is 11 = .ok (.i2l, 1) := by decide +kernel
theorem dX11_is_12 : decode cX11_is 12 = .ok (.invokestatic 67, 3) := by decide +kernel
theorem dX11_is_15 : decode cX11_is 15 = .ok (.ireturn, 1) := by decide +kernel
theorem dX11_one_0 : decode cX11_one 0 = .ok (.aload_n 0, 1) := by decide +kernel
theorem dX11_one_1 : decode cX11_one 1 = .ok (.getfield 7, 3) := by decide +kernel
theorem dX11_one_4 : decode cX11_one 4 = .ok (.iload_n 1, 1) := by decide +kernel
theorem dX11_one_5 : decode cX11_one 5 = .ok (.dup2, 1) := by decide +kernel
theorem dX11_one_6 : decode cX11_one 6 = .ok (.iaload, 1) := by decide +kernel
theorem dX11_one_7 : decode cX11_one 7 = .ok (.iconst 1, 1) := by decide +kernel
theorem dX11_one_8 : decode cX11_one 8 = .ok (.iadd, 1) := by decide +kernel
theorem dX11_one_9 : decode cX11_one 9 = .ok (.iastore, 1) := by decide +kernel
theorem dX11_one_10 : decode cX11_one 10 = .ok (.aload_n 0, 1) := by decide +kernel
theorem dX11_one_11 : decode cX11_one 11 = .ok (.iconst 0, 1) := by decide +kernel
theorem dX11_one_12 : decode cX11_one 12 = .ok (.putfield 71, 3) := by decide +kernel
theorem dX11_one_15 : decode cX11_one 15 = .ok (.aload_n 0, 1) := by decide +kernel
theorem dX11_one_16 : decode cX11_one 16 = .ok (.getfield 7, 3) := by decide +kernel
theorem dX11_one_19 : decode cX11_one 19 = .ok (.iload_n 1, 1) := by decide +kernel
theorem dX11_one_20 : decode cX11_one 20 = .ok (.iaload, 1) := by decide +kernel
theorem dX11_one_21 : decode cX11_one 21 = .ok (.iconst 1, 1) := by decide +kernel
theorem dX11_one_22 : decode cX11_one 22 = .ok (.isub, 1) := by decide +kernel
theorem dX11_one_23 : decode cX11_one 23 = .ok (.ireturn, 1) := by decide +kernel
theorem dX11_sizeOf_0 : decode cX11_sizeOf 0 = .ok (.iconst 0, 1) := by decide +kernel
theorem dX11_sizeOf_1 : decode cX11_sizeOf 1 = .ok (.istore_n 1, 1) := by decide +kernel
theorem dX11_sizeOf_2 : decode cX11_sizeOf 2 = .ok (.iload_n 0, 1) := by decide +kernel
theorem dX11_sizeOf_3 : decode cX11_sizeOf 3 = .ok (.istore_n 2, 1) := by decide +kernel
theorem dX11_sizeOf_4 : decode cX11_sizeOf 4 = .ok (.iload_n 2, 1) := by decide +kernel
theorem dX11_sizeOf_5 : decode cX11_sizeOf 5 = .ok (.ifCond .le 16, 3) := by decide +kernel
theorem dX11_sizeOf_8 : decode cX11_sizeOf 8 = .ok (.iload_n 1, 1) := by decide +kernel
theorem dX11_sizeOf_9 : decode cX11_sizeOf 9 = .ok (.iload_n 2, 1) := by decide +kernel
theorem dX11_sizeOf_10 : decode cX11_sizeOf 10 = .ok (.iconst 1, 1) := by decide +kernel
theorem dX11_sizeOf_11 : decode cX11_sizeOf 11 = .ok (.iand, 1) := by decide +kernel
theorem dX11_sizeOf_12 : decode cX11_sizeOf 12 = .ok (.iadd, 1) := by decide +kernel
theorem dX11_sizeOf_13 : decode cX11_sizeOf 13 = .ok (.istore_n 1, 1) := by decide +kernel
theorem dX11_sizeOf_14 : decode cX11_sizeOf 14 = .ok (.iload_n 2, 1) := by decide +kernel
theorem dX11_sizeOf_15 : decode cX11_sizeOf 15 = .ok (.iconst 1, 1) := by decide +kernel
theorem dX11_sizeOf_16 : decode cX11_sizeOf 16 = .ok (.ishr, 1) := by decide +kernel
theorem dX11_sizeOf_17 : decode cX11_sizeOf 17 = .ok (.istore_n 2, 1) := by decide +kernel
theorem dX11_sizeOf_18 : decode cX11_sizeOf 18 = .ok (.goto (-14), 3) := by decide +kernel
theorem dX11_sizeOf_21 : decode cX11_sizeOf 21 = .ok (.iload_n 1, 1) := by decide +kernel
theorem dX11_sizeOf_22 : decode cX11_sizeOf 22 = .ok (.ireturn, 1) := by decide +kernel
theorem dX11_people_0 : decode cX11_people 0 = .ok (.iconst 1, 1) := by decide +kernel
theorem dX11_people_1 : decode cX11_people 1 = .ok (.aload_n 0, 1) := by decide +kernel
theorem dX11_people_2 : decode cX11_people 2 = .ok (.getfield 7, 3) := by decide +kernel
theorem dX11_people_5 : decode cX11_people 5 = .ok (.iconst 0, 1) := by decide +kernel
theorem dX11_people_6 : decode cX11_people 6 = .ok (.iaload, 1) := by decide +kernel
theorem dX11_people_7 : decode cX11_people 7 = .ok (.ishl, 1) := by decide +kernel
theorem dX11_people_8 : decode cX11_people 8 = .ok (.iconst 1, 1) := by decide +kernel
theorem dX11_people_9 : decode cX11_people 9 = .ok (.isub, 1) := by decide +kernel
theorem dX11_people_10 : decode cX11_people 10 = .ok (.ireturn, 1) := by decide +kernel
theorem dX11_isDay_0 : decode cX11_isDay 0 = .ok (.iload_n 0, 1) := by decide +kernel
theorem dX11_isDay_1 : decode cX11_isDay 1 = .ok (.i2l, 1) := by decide +kernel
theorem dX11_isDay_2 : decode cX11_isDay 2 = .ok (.lconst 0, 1) := by decide +kernel
theorem dX11_isDay_3 : decode cX11_isDay 3 = .ok (.ldc2_w 75, 3) := by decide +kernel
theorem dX11_isDay_6 : decode cX11_isDay 6 = .ok (.invokestatic 67, 3) := by decide +kernel
theorem dX11_isDay_9 : decode cX11_isDay 9 = .ok (.ireturn, 1) := by decide +kernel
theorem dX11_person_0 : decode cX11_person 0 = .ok (.iload_n 1, 1) := by decide +kernel
theorem dX11_person_1 : decode cX11_person 1 = .ok (.i2l, 1) := by decide +kernel
theorem dX11_person_2 : decode cX11_person 2 = .ok (.lconst 0, 1) := by decide +kernel
theorem dX11_person_3 : decode cX11_person 3 = .ok (.ldc2_w 77, 3) := by decide +kernel
theorem dX11_person_6 : decode cX11_person 6 = .ok (.invokestatic 67, 3) := by decide +kernel
theorem dX11_person_9 : decode cX11_person 9 = .ok (.ifCond .eq 40, 3) := by decide +kernel
theorem dX11_person_12 : decode cX11_person 12 = .ok (.iload_n 2, 1) := by decide +kernel
theorem dX11_person_13 : decode cX11_person 13 = .ok (.i2l, 1) := by decide +kernel
theorem dX11_person_14 : decode cX11_person 14 = .ok (.lconst 0, 1) := by decide +kernel
theorem dX11_person_15 : decode cX11_person 15 = .ok (.ldc2_w 77, 3) := by decide +kernel
theorem dX11_person_18 : decode cX11_person 18 = .ok (.invokestatic 67, 3) := by decide +kernel
theorem dX11_person_21 : decode cX11_person 21 = .ok (.ifCond .eq 28, 3) := by decide +kernel
theorem dX11_person_24 : decode cX11_person 24 = .ok (.iload_n 3, 1) := by decide +kernel
theorem dX11_person_25 : decode cX11_person 25 = .ok (.i2l, 1) := by decide +kernel
theorem dX11_person_26 : decode cX11_person 26 = .ok (.lconst 0, 1) := by decide +kernel
theorem dX11_person_27 : decode cX11_person 27 = .ok (.ldc2_w 79, 3) := by decide +kernel
theorem dX11_person_30 : decode cX11_person 30 = .ok (.invokestatic 67, 3) := by decide +kernel
theorem dX11_person_33 : decode cX11_person 33 = .ok (.ifCond .eq 16, 3) := by decide +kernel
theorem dX11_person_36 : decode cX11_person 36 = .ok (.iload 4, 2) := by decide +kernel
theorem dX11_person_38 : decode cX11_person 38 = .ok (.i2l, 1) := by decide +kernel
theorem dX11_person_39 : decode cX11_person 39 = .ok (.lconst 0, 1) := by decide +kernel
theorem dX11_person_40 : decode cX11_person 40 = .ok (.ldc2_w 81, 3) := by decide +kernel
theorem dX11_person_43 : decode cX11_person 43 = .ok (.invokestatic 67, 3) := by decide +kernel
theorem dX11_person_46 : decode cX11_person 46 = .ok (.ifCond .ne 6, 3) := by decide +kernel
theorem dX11_person_49 : decode cX11_person 49 = .ok (.bipush (-2), 2) := by decide +kernel
theorem dX11_person_51 : decode cX11_person 51 = .ok (.ireturn, 1) := by decide +kernel
theorem dX11_person_52 : decode cX11_person 52 = .ok (.aload_n 0, 1) := by decide +kernel
theorem dX11_person_53 : decode cX11_person 53 = .ok (.getfield 7, 3) := by decide +kernel
theorem dX11_person_56 : decode cX11_person 56 = .ok (.iconst 0, 1) := by decide +kernel
theorem dX11_person_57 : decode cX11_person 57 = .ok (.iaload, 1) := by decide +kernel
theorem dX11_person_58 : decode cX11_person 58 = .ok (.bipush 30, 2) := by decide +kernel
theorem dX11_person_60 : decode cX11_person 60 = .ok (.if_icmp .ne 6, 3) := by decide +kernel
theorem dX11_person_63 : decode cX11_person 63 = .ok (.bipush (-4), 2) := by decide +kernel
theorem dX11_person_65 : decode cX11_person 65 = .ok (.ireturn, 1) := by decide +kernel
theorem dX11_person_66 : decode cX11_person 66 = .ok (.bipush 10, 2) := by decide +kernel
theorem dX11_person_68 : decode cX11_person 68 = .ok (.iconst 4, 1) := by decide +kernel
theorem dX11_person_69 : decode cX11_person 69 = .ok (.aload_n 0, 1) := by decide +kernel
theorem dX11_person_70 : decode cX11_person 70 = .ok (.getfield 7, 3) := by decide +kernel
theorem dX11_person_73 : decode cX11_person 73 = .ok (.iconst 0, 1) := by decide +kernel
theorem dX11_person_74 : decode cX11_person 74 = .ok (.iaload, 1) := by decide +kernel
theorem dX11_person_75 : decode cX11_person 75 = .ok (.imul, 1) := by decide +kernel
theorem dX11_person_76 : decode cX11_person 76 = .ok (.iadd, 1) := by decide +kernel
theorem dX11_person_77 : decode cX11_person 77 = .ok (.istore 5, 2) := by decide +kernel
theorem dX11_person_79 : decode cX11_person 79 = .ok (.aload_n 0, 1) := by decide +kernel
theorem dX11_person_80 : decode cX11_person 80 = .ok (.getfield 7, 3) := by decide +kernel
theorem dX11_person_83 : decode cX11_person 83 = .ok (.iload 5, 2) := by decide +kernel
theorem dX11_person_85 : decode cX11_person 85 = .ok (.iload_n 1, 1) := by decide +kernel
theorem dX11_person_86 : decode cX11_person 86 = .ok (.iastore, 1) := by decide +kernel
theorem dX11_person_87 : decode cX11_person 87 = .ok (.aload_n 0, 1) := by decide +kernel
theorem dX11_person_88 : decode cX11_person 88 = .ok (.getfield 7, 3) := by decide +kernel
theorem dX11_person_91 : decode cX11_person 91 = .ok (.iload 5, 2) := by decide +kernel
theorem dX11_person_93 : decode cX11_person 93 = .ok (.iconst 1, 1) := by decide +kernel
theorem dX11_person_94 : decode cX11_person 94 = .ok (.iadd, 1) := by decide +kernel
theorem dX11_person_95 : decode cX11_person 95 = .ok (.iload_n 2, 1) := by decide +kernel
theorem dX11_person_96 : decode cX11_person 96 = .ok (.iastore, 1) := by decide +kernel
theorem dX11_person_97 : decode cX11_person 97 = .ok (.aload_n 0, 1) := by decide +kernel
theorem dX11_person_98 : decode cX11_person 98 = .ok (.getfield 7, 3) := by decide +kernel
theorem dX11_person_101 : decode cX11_person 101 = .ok (.iload 5, 2) := by decide +kernel
theorem dX11_person_103 : decode cX11_person 103 = .ok (.iconst 2, 1) := by decide +kernel
theorem dX11_person_104 : decode cX11_person 104 = .ok (.iadd, 1) := by decide +kernel
theorem dX11_person_105 : decode cX11_person 105 = .ok (.iload_n 3, 1) := by decide +kernel
theorem dX11_person_106 : decode cX11_person 106 = .ok (.iastore, 1) := by decide +kernel
theorem dX11_person_107 : decode cX11_person 107 = .ok (.aload_n 0, 1) := by decide +kernel
theorem dX11_person_108 : decode cX11_person 108 = .ok (.getfield 7, 3) := by decide +kernel
theorem dX11_person_111 : decode cX11_person 111 = .ok (.iload 5, 2) := by decide +kernel
theorem dX11_person_113 : decode cX11_person 113 = .ok (.iconst 3, 1) := by decide +kernel
theorem dX11_person_114 : decode cX11_person 114 = .ok (.iadd, 1) := by decide +kernel
theorem dX11_person_115 : decode cX11_person 115 = .ok (.iload 4, 2) := by decide +kernel
theorem dX11_person_117 : decode cX11_person 117 = .ok (.iastore, 1) := by decide +kernel
theorem dX11_person_118 : decode cX11_person 118 = .ok (.aload_n 0, 1) := by decide +kernel
theorem dX11_person_119 : decode cX11_person 119 = .ok (.iconst 0, 1) := by decide +kernel
theorem dX11_person_120 : decode cX11_person 120 = .ok (.invokevirtual 83, 3) := by decide +kernel
theorem dX11_person_123 : decode cX11_person 123 = .ok (.ireturn, 1) := by decide +kernel
theorem dX11_kin_0 : decode cX11_kin 0 = .ok (.aload_n 0, 1) := by decide +kernel
theorem dX11_kin_1 : decode cX11_kin 1 = .ok (.iconst 0, 1) := by decide +kernel
theorem dX11_kin_2 : decode cX11_kin 2 = .ok (.iload_n 1, 1) := by decide +kernel
theorem dX11_kin_3 : decode cX11_kin 3 = .ok (.invokevirtual 87, 3) := by decide +kernel
theorem dX11_kin_6 : decode cX11_kin 6 = .ok (.ifCond .eq 22, 3) := by decide +kernel
theorem dX11_kin_9 : decode cX11_kin 9 = .ok (.iload_n 2, 1) := by decide +kernel
theorem dX11_kin_10 : decode cX11_kin 10 = .ok (.i2l, 1) := by decide +kernel
theorem dX11_kin_11 : decode cX11_kin 11 = .ok (.lconst 0, 1) := by decide +kernel
theorem dX11_kin_12 : decode cX11_kin 12 = .ok (.ldc2_w 91, 3) := by decide +kernel
theorem dX11_kin_15 : decode cX11_kin 15 = .ok (.invokestatic 67, 3) := by decide +kernel
theorem dX11_kin_18 : decode cX11_kin 18 = .ok (.ifCond .eq 10, 3) := by decide +kernel
theorem dX11_kin_21 : decode cX11_kin 21 = .ok (.iload_n 3, 1) := by decide +kernel
theorem dX11_kin_22 : decode cX11_kin 22 = .ok (.invokestatic 93, 3) := by decide +kernel
theorem dX11_kin_25 : decode cX11_kin 25 = .ok (.ifCond .ne 6, 3) := by decide +kernel
theorem dX11_kin_28 : decode cX11_kin 28 = .ok (.bipush (-2), 2) := by decide +kernel
theorem dX11_kin_30 : decode cX11_kin 30 = .ok (.ireturn, 1) := by decide +kernel
theorem dX11_kin_31 : decode cX11_kin 31 = .ok (.aload_n 0, 1) := by decide +kernel
theorem dX11_kin_32 : decode cX11_kin 32 = .ok (.getfield 7, 3) := by decide +kernel
theorem dX11_kin_35 : decode cX11_kin 35 = .ok (.iconst 1, 1) := by decide +kernel
theorem dX11_kin_36 : decode cX11_kin 36 = .ok (.iaload, 1) := by decide +kernel
theorem dX11_kin_37 : decode cX11_kin 37 = .ok (.bipush 40, 2) := by decide +kernel
theorem dX11_kin_39 : decode cX11_kin 39 = .ok (.if_icmp .ne 6, 3) := by decide +kernel
theorem dX11_kin_42 : decode cX11_kin 42 = .ok (.bipush (-4), 2) := by decide +kernel
theorem dX11_kin_44 : decode cX11_kin 44 = .ok (.ireturn, 1) := by decide +kernel
theorem dX11_kin_45 : decode cX11_kin 45 = .ok (.sipush 130, 3) := by decide +kernel
theorem dX11_kin_48 : decode cX11_kin 48 = .ok (.iconst 3, 1) := by decide +kernel
theorem dX11_kin_49 : decode cX11_kin 49 = .ok (.aload_n 0, 1) := by decide +kernel
theorem dX11_kin_50 : decode cX11_kin 50 = .ok (.getfield 7, 3) := by decide +kernel
theorem dX11_kin_53 : decode cX11_kin 53 = .ok (.iconst 1, 1) := by decide +kernel
theorem dX11_kin_54 : decode cX11_kin 54 = .ok (.iaload, 1) := by decide +kernel
theorem dX11_kin_55 : decode cX11_kin 55 = .ok (.imul, 1) := by decide +kernel
theorem dX11_kin_56 : decode cX11_kin 56 = .ok (.iadd, 1) := by decide +kernel
theorem dX11_kin_57 : decode cX11_kin 57 = .ok (.istore 4, 2) := by decide +kernel
theorem dX11_kin_59 : decode cX11_kin 59 = .ok (.aload_n 0, 1) := by decide +kernel
theorem dX11_kin_60 : decode cX11_kin 60 = .ok (.getfield 7, 3) := by decide +kernel
theorem dX11_kin_63 : decode cX11_kin 63 = .ok (.iload 4, 2) := by decide +kernel
theorem dX11_kin_65 : decode cX11_kin 65 = .ok (.iload_n 1, 1) := by decide +kernel
theorem dX11_kin_66 : decode cX11_kin 66 = .ok (.iastore, 1) := by decide +kernel
theorem dX11_kin_67 : decode cX11_kin 67 = .ok (.aload_n 0, 1) := by decide +kernel
theorem dX11_kin_68 : decode cX11_kin 68 = .ok (.getfield 7, 3) := by decide +kernel
theorem dX11_kin_71 : decode cX11_kin 71 = .ok (.iload 4, 2) := by decide +kernel
theorem dX11_kin_73 : decode cX11_kin 73 = .ok (.iconst 1, 1) := by decide +kernel
theorem dX11_kin_74 : decode cX11_kin 74 = .ok (.iadd, 1) := by decide +kernel
theorem dX11_kin_75 : decode cX11_kin 75 = .ok (.iload_n 2, 1) := by decide +kernel
theorem dX11_kin_76 : decode cX11_kin 76 = .ok (.iastore, 1) := by decide +kernel
theorem dX11_kin_77 : decode cX11_kin 77 = .ok (.aload_n 0, 1) := by decide +kernel
theorem dX11_kin_78 : decode cX11_kin 78 = .ok (.getfield 7, 3) := by decide +kernel
theorem dX11_kin_81 : decode cX11_kin 81 = .ok (.iload 4, 2) := by decide +kernel
theorem dX11_kin_83 : decode cX11_kin 83 = .ok (.iconst 2, 1) := by decide +kernel
theorem dX11_kin_84 : decode cX11_kin 84 = .ok (.iadd, 1) := by decide +kernel
theorem dX11_kin_85 : decode cX11_kin 85 = .ok (.iload_n 3, 1) := by decide +kernel
theorem dX11_kin_86 : decode cX11_kin 86 = .ok (.iastore, 1) := by decide +kernel
theorem dX11_kin_87 : decode cX11_kin 87 = .ok (.aload_n 0, 1) := by decide +kernel
theorem dX11_kin_88 : decode cX11_kin 88 = .ok (.iconst 1, 1) := by decide +kernel
theorem dX11_kin_89 : decode cX11_kin 89 = .ok (.invokevirtual 83, 3) := by decide +kernel
theorem dX11_kin_92 : decode cX11_kin 92 = .ok (.ireturn, 1) := by decide +kernel
theorem dX11_roll_0 : decode cX11_roll 0 = .ok (.iload_n 1, 1) := by decide +kernel
theorem dX11_roll_1 : decode cX11_roll 1 = .ok (.i2l, 1) := by decide +kernel
theorem dX11_roll_2 : decode cX11_roll 2 = .ok (.lconst 0, 1) := by decide +kernel
theorem dX11_roll_3 : decode cX11_roll 3 = .ok (.aload_n 0, 1) := by decide +kernel
theorem dX11_roll_4 : decode cX11_roll 4 = .ok (.invokevirtual 97, 3) := by decide +kernel
theorem dX11_roll_7 : decode cX11_roll 7 = .ok (.i2l, 1) := by decide +kernel
theorem dX11_roll_8 : decode cX11_roll 8 = .ok (.invokestatic 67, 3) := by decide +kernel
theorem dX11_roll_11 : decode cX11_roll 11 = .ok (.ifCond .eq 22, 3) := by decide +kernel
theorem dX11_roll_14 : decode cX11_roll 14 = .ok (.iload_n 2, 1) := by decide +kernel
theorem dX11_roll_15 : decode cX11_roll 15 = .ok (.i2l, 1) := by decide +kernel
theorem dX11_roll_16 : decode cX11_roll 16 = .ok (.lconst 0, 1) := by decide +kernel
theorem dX11_roll_17 : decode cX11_roll 17 = .ok (.ldc2_w 101, 3) := by decide +kernel
theorem dX11_roll_20 : decode cX11_roll 20 = .ok (.invokestatic 67, 3) := by decide +kernel
theorem dX11_roll_23 : decode cX11_roll 23 = .ok (.ifCond .eq 10, 3) := by decide +kernel
theorem dX11_roll_26 : decode cX11_roll 26 = .ok (.iload_n 3, 1) := by decide +kernel
theorem dX11_roll_27 : decode cX11_roll 27 = .ok (.invokestatic 93, 3) := by decide +kernel
theorem dX11_roll_30 : decode cX11_roll 30 = .ok (.ifCond .ne 6, 3) := by decide +kernel
theorem dX11_roll_33 : decode cX11_roll 33 = .ok (.bipush (-2), 2) := by decide +kernel
theorem dX11_roll_35 : decode cX11_roll 35 = .ok (.ireturn, 1) := by decide +kernel
theorem dX11_roll_36 : decode cX11_roll 36 = .ok (.aload_n 0, 1) := by decide +kernel
theorem dX11_roll_37 : decode cX11_roll 37 = .ok (.getfield 7, 3) := by decide +kernel
theorem dX11_roll_40 : decode cX11_roll 40 = .ok (.iconst 2, 1) := by decide +kernel
theorem dX11_roll_41 : decode cX11_roll 41 = .ok (.iaload, 1) := by decide +kernel
theorem dX11_roll_42 : decode cX11_roll 42 = .ok (.iconst 4, 1) := by decide +kernel
theorem dX11_roll_43 : decode cX11_roll 43 = .ok (.if_icmp .ne 6, 3) := by decide +kernel
theorem dX11_roll_46 : decode cX11_roll 46 = .ok (.bipush (-4), 2) := by decide +kernel
theorem dX11_roll_48 : decode cX11_roll 48 = .ok (.ireturn, 1) := by decide +kernel
theorem dX11_roll_49 : decode cX11_roll 49 = .ok (.sipush 250, 3) := by decide +kernel
theorem dX11_roll_52 : decode cX11_roll 52 = .ok (.iconst 3, 1) := by decide +kernel
theorem dX11_roll_53 : decode cX11_roll 53 = .ok (.aload_n 0, 1) := by decide +kernel
theorem dX11_roll_54 : decode cX11_roll 54 = .ok (.getfield 7, 3) := by decide +kernel
theorem dX11_roll_57 : decode cX11_roll 57 = .ok (.iconst 2, 1) := by decide +kernel
theorem dX11_roll_58 : decode cX11_roll 58 = .ok (.iaload, 1) := by decide +kernel
theorem dX11_roll_59 : decode cX11_roll 59 = .ok (.imul, 1) := by decide +kernel
theorem dX11_roll_60 : decode cX11_roll 60 = .ok (.iadd, 1) := by decide +kernel
theorem dX11_roll_61 : decode cX11_roll 61 = .ok (.istore 4, 2) := by decide +kernel
theorem dX11_roll_63 : decode cX11_roll 63 = .ok (.aload_n 0, 1) := by decide +kernel
theorem dX11_roll_64 : decode cX11_roll 64 = .ok (.getfield 7, 3) := by decide +kernel
theorem dX11_roll_67 : decode cX11_roll 67 = .ok (.iload 4, 2) := by decide +kernel
theorem dX11_roll_69 : decode cX11_roll 69 = .ok (.iload_n 1, 1) := by decide +kernel
theorem dX11_roll_70 : decode cX11_roll 70 = .ok (.iastore, 1) := by decide +kernel
theorem dX11_roll_71 : decode cX11_roll 71 = .ok (.aload_n 0, 1) := by decide +kernel
theorem dX11_roll_72 : decode cX11_roll 72 = .ok (.getfield 7, 3) := by decide +kernel
theorem dX11_roll_75 : decode cX11_roll 75 = .ok (.iload 4, 2) := by decide +kernel
theorem dX11_roll_77 : decode cX11_roll 77 = .ok (.iconst 1, 1) := by decide +kernel
theorem dX11_roll_78 : decode cX11_roll 78 = .ok (.iadd, 1) := by decide +kernel
theorem dX11_roll_79 : decode cX11_roll 79 = .ok (.iload_n 2, 1) := by decide +kernel
theorem dX11_roll_80 : decode cX11_roll 80 = .ok (.iastore, 1) := by decide +kernel
theorem dX11_roll_81 : decode cX11_roll 81 = .ok (.aload_n 0, 1) := by decide +kernel
theorem dX11_roll_82 : decode cX11_roll 82 = .ok (.getfield 7, 3) := by decide +kernel
theorem dX11_roll_85 : decode cX11_roll 85 = .ok (.iload 4, 2) := by decide +kernel
theorem dX11_roll_87 : decode cX11_roll 87 = .ok (.iconst 2, 1) := by decide +kernel
theorem dX11_roll_88 : decode cX11_roll 88 = .ok (.iadd, 1) := by decide +kernel
theorem dX11_roll_89 : decode cX11_roll 89 = .ok (.iload_n 3, 1) := by decide +kernel
theorem dX11_roll_90 : decode cX11_roll 90 = .ok (.iastore, 1) := by decide +kernel
theorem dX11_roll_91 : decode cX11_roll 91 = .ok (.aload_n 0, 1) := by decide +kernel
theorem dX11_roll_92 : decode cX11_roll 92 = .ok (.iconst 2, 1) := by decide +kernel
theorem dX11_roll_93 : decode cX11_roll 93 = .ok (.invokevirtual 83, 3) := by decide +kernel
theorem dX11_roll_96 : decode cX11_roll 96 = .ok (.ireturn, 1) := by decide +kernel
theorem dX11_theRoll_0 : decode cX11_theRoll 0 = .ok (.iconst (-1), 1) := by decide +kernel
theorem dX11_theRoll_1 : decode cX11_theRoll 1 = .ok (.istore_n 2, 1) := by decide +kernel
theorem dX11_theRoll_2 : decode cX11_theRoll 2 = .ok (.iconst 0, 1) := by decide +kernel
theorem dX11_theRoll_3 : decode cX11_theRoll 3 = .ok (.istore_n 3, 1) := by decide +kernel
theorem dX11_theRoll_4 : decode cX11_theRoll 4 = .ok (.iload_n 3, 1) := by decide +kernel
theorem dX11_theRoll_5 : decode cX11_theRoll 5 = .ok (.aload_n 0, 1) := by decide +kernel
theorem dX11_theRoll_6 : decode cX11_theRoll 6 = .ok (.getfield 7, 3) := by decide +kernel
theorem dX11_theRoll_9 : decode cX11_theRoll 9 = .ok (.iconst 2, 1) := by decide +kernel
theorem dX11_theRoll_10 : decode cX11_theRoll 10 = .ok (.iaload, 1) := by decide +kernel
theorem dX11_theRoll_11 : decode cX11_theRoll 11 = .ok (.if_icmp .ge 81, 3) := by decide +kernel
theorem dX11_theRoll_14 : decode cX11_theRoll 14 = .ok (.aload_n 0, 1) := by decide +kernel
theorem dX11_theRoll_15 : decode cX11_theRoll 15 = .ok (.getfield 7, 3) := by decide +kernel
theorem dX11_theRoll_18 : decode cX11_theRoll 18 = .ok (.sipush 250, 3) := by decide +kernel
theorem dX11_theRoll_21 : decode cX11_theRoll 21 = .ok (.iconst 3, 1) := by decide +kernel
theorem dX11_theRoll_22 : decode cX11_theRoll 22 = .ok (.iload_n 3, 1) := by decide +kernel
theorem dX11_theRoll_23 : decode cX11_theRoll 23 = .ok (.imul, 1) := by decide +kernel
theorem dX11_theRoll_24 : decode cX11_theRoll 24 = .ok (.iadd, 1) := by decide +kernel
theorem dX11_theRoll_25 : decode cX11_theRoll 25 = .ok (.iconst 2, 1) := by decide +kernel
theorem dX11_theRoll_26 : decode cX11_theRoll 26 = .ok (.iadd, 1) := by decide +kernel
theorem dX11_theRoll_27 : decode cX11_theRoll 27 = .ok (.iaload, 1) := by decide +kernel
theorem dX11_theRoll_28 : decode cX11_theRoll 28 = .ok (.iload_n 1, 1) := by decide +kernel
theorem dX11_theRoll_29 : decode cX11_theRoll 29 = .ok (.if_icmp .gt 7, 3) := by decide +kernel
theorem dX11_theRoll_32 : decode cX11_theRoll 32 = .ok (.iconst 1, 1) := by decide +kernel
theorem dX11_theRoll_33 : decode cX11_theRoll 33 = .ok (.goto 4, 3) := by decide +kernel
theorem dX11_theRoll_36 : decode cX11_theRoll 36 = .ok (.iconst 0, 1) := by decide +kernel
theorem dX11_theRoll_37 : decode cX11_theRoll 37 = .ok (.istore 4, 2) := by decide +kernel
theorem dX11_theRoll_39 : decode cX11_theRoll 39 = .ok (.iload 4, 2) := by decide +kernel
theorem dX11_theRoll_41 : decode cX11_theRoll 41 = .ok (.ifCond .eq 43, 3) := by decide +kernel
theorem dX11_theRoll_44 : decode cX11_theRoll 44 = .ok (.iload_n 2, 1) := by decide +kernel
theorem dX11_theRoll_45 : decode cX11_theRoll 45 = .ok (.iconst (-1), 1) := by decide +kernel
theorem dX11_theRoll_46 : decode cX11_theRoll 46 = .ok (.if_icmp .eq 34, 3) := by decide +kernel
theorem dX11_theRoll_49 : decode cX11_theRoll 49 = .ok (.aload_n 0, 1) := by decide +kernel
theorem dX11_theRoll_50 : decode cX11_theRoll 50 = .ok (.getfield 7, 3) := by decide +kernel
theorem dX11_theRoll_53 : decode cX11_theRoll 53 = .ok (.sipush 250, 3) := by decide +kernel
theorem dX11_theRoll_56 : decode cX11_theRoll 56 = .ok (.iconst 3, 1) := by decide +kernel
theorem dX11_theRoll_57 : decode cX11_theRoll 57 = .ok (.iload_n 3, 1) := by decide +kernel
theorem dX11_theRoll_58 : decode cX11_theRoll 58 = .ok (.imul, 1) := by decide +kernel
theorem dX11_theRoll_59 : decode cX11_theRoll 59 = .ok (.iadd, 1) := by decide +kernel
theorem dX11_theRoll_60 : decode cX11_theRoll 60 = .ok (.iconst 1, 1) := by decide +kernel
theorem dX11_theRoll_61 : decode cX11_theRoll 61 = .ok (.iadd, 1) := by decide +kernel
theorem dX11_theRoll_62 : decode cX11_theRoll 62 = .ok (.iaload, 1) := by decide +kernel
theorem dX11_theRoll_63 : decode cX11_theRoll 63 = .ok (.aload_n 0, 1) := by decide +kernel
theorem dX11_theRoll_64 : decode cX11_theRoll 64 = .ok (.getfield 7, 3) := by decide +kernel
theorem dX11_theRoll_67 : decode cX11_theRoll 67 = .ok (.sipush 250, 3) := by decide +kernel
theorem dX11_theRoll_70 : decode cX11_theRoll 70 = .ok (.iconst 3, 1) := by decide +kernel
theorem dX11_theRoll_71 : decode cX11_theRoll 71 = .ok (.iload_n 2, 1) := by decide +kernel
theorem dX11_theRoll_72 : decode cX11_theRoll 72 = .ok (.imul, 1) := by decide +kernel
theorem dX11_theRoll_73 : decode cX11_theRoll 73 = .ok (.iadd, 1) := by decide +kernel
theorem dX11_theRoll_74 : decode cX11_theRoll 74 = .ok (.iconst 1, 1) := by decide +kernel
theorem dX11_theRoll_75 : decode cX11_theRoll 75 = .ok (.iadd, 1) := by decide +kernel
theorem dX11_theRoll_76 : decode cX11_theRoll 76 = .ok (.iaload, 1) := by decide +kernel
theorem dX11_theRoll_77 : decode cX11_theRoll 77 = .ok (.if_icmp .lt 7, 3) := by decide +kernel
theorem dX11_theRoll_80 : decode cX11_theRoll 80 = .ok (.iload_n 3, 1) := by decide +kernel
theorem dX11_theRoll_81 : decode cX11_theRoll 81 = .ok (.goto 4, 3) := by decide +kernel
theorem dX11_theRoll_84 : decode cX11_theRoll 84 = .ok (.iload_n 2, 1) := by decide +kernel
theorem dX11_theRoll_85 : decode cX11_theRoll 85 = .ok (.istore_n 2, 1) := by decide +kernel
theorem dX11_theRoll_86 : decode cX11_theRoll 86 = .ok (.iinc 3 1, 3) := by decide +kernel
theorem dX11_theRoll_89 : decode cX11_theRoll 89 = .ok (.goto (-85), 3) := by decide +kernel
theorem dX11_theRoll_92 : decode cX11_theRoll 92 = .ok (.iload_n 2, 1) := by decide +kernel
theorem dX11_theRoll_93 : decode cX11_theRoll 93 = .ok (.iconst (-1), 1) := by decide +kernel
theorem dX11_theRoll_94 : decode cX11_theRoll 94 = .ok (.if_icmp .ne 10, 3) := by decide +kernel
theorem dX11_theRoll_97 : decode cX11_theRoll 97 = .ok (.aload_n 0, 1) := by decide +kernel
theorem dX11_theRoll_98 : decode cX11_theRoll 98 = .ok (.invokevirtual 97, 3) := by decide +kernel
theorem dX11_theRoll_101 : decode cX11_theRoll 101 = .ok (.goto 15, 3) := by decide +kernel
theorem dX11_theRoll_104 : decode cX11_theRoll 104 = .ok (.aload_n 0, 1) := by decide +kernel
theorem dX11_theRoll_105 : decode cX11_theRoll 105 = .ok (.getfield 7, 3) := by decide +kernel
theorem dX11_theRoll_108 : decode cX11_theRoll 108 = .ok (.sipush 250, 3) := by decide +kernel
theorem dX11_theRoll_111 : decode cX11_theRoll 111 = .ok (.iconst 3, 1) := by decide +kernel
theorem dX11_theRoll_112 : decode cX11_theRoll 112 = .ok (.iload_n 2, 1) := by decide +kernel
theorem dX11_theRoll_113 : decode cX11_theRoll 113 = .ok (.imul, 1) := by decide +kernel
theorem dX11_theRoll_114 : decode cX11_theRoll 114 = .ok (.iadd, 1) := by decide +kernel
theorem dX11_theRoll_115 : decode cX11_theRoll 115 = .ok (.iaload, 1) := by decide +kernel
theorem dX11_theRoll_116 : decode cX11_theRoll 116 = .ok (.ireturn, 1) := by decide +kernel
theorem dX11_rollOf_0 : decode cX11_rollOf 0 = .ok (.iload_n 1, 1) := by decide +kernel
theorem dX11_rollOf_1 : decode cX11_rollOf 1 = .ok (.invokestatic 93, 3) := by decide +kernel
theorem dX11_rollOf_4 : decode cX11_rollOf 4 = .ok (.ifCond .eq 11, 3) := by decide +kernel
theorem dX11_rollOf_7 : decode cX11_rollOf 7 = .ok (.aload_n 0, 1) := by decide +kernel
theorem dX11_rollOf_8 : decode cX11_rollOf 8 = .ok (.iload_n 1, 1) := by decide +kernel
theorem dX11_rollOf_9 : decode cX11_rollOf 9 = .ok (.invokevirtual 103, 3) := by decide +kernel
theorem dX11_rollOf_12 : decode cX11_rollOf 12 = .ok (.goto 5, 3) := by decide +kernel
theorem dX11_rollOf_15 : decode cX11_rollOf 15 = .ok (.bipush (-2), 2) := by decide +kernel
theorem dX11_rollOf_17 : decode cX11_rollOf 17 = .ok (.ireturn, 1) := by decide +kernel
theorem dX11_settles_0 : decode cX11_settles 0 = .ok (.aload_n 0, 1) := by decide +kernel
theorem dX11_settles_1 : decode cX11_settles 1 = .ok (.getfield 110, 3) := by decide +kernel
theorem dX11_settles_4 : decode cX11_settles 4 = .ok (.ifCond .le 48, 3) := by decide +kernel
theorem dX11_settles_7 : decode cX11_settles 7 = .ok (.aload_n 0, 1) := by decide +kernel
theorem dX11_settles_8 : decode cX11_settles 8 = .ok (.getfield 26, 3) := by decide +kernel
theorem dX11_settles_11 : decode cX11_settles 11 = .ok (.aload_n 0, 1) := by decide +kernel
theorem dX11_settles_12 : decode cX11_settles 12 = .ok (.getfield 110, 3) := by decide +kernel
theorem dX11_settles_15 : decode cX11_settles 15 = .ok (.iconst 1, 1) := by decide +kernel
theorem dX11_settles_16 : decode cX11_settles 16 = .ok (.isub, 1) := by decide +kernel
theorem dX11_settles_17 : decode cX11_settles 17 = .ok (.iaload, 1) := by decide +kernel
theorem dX11_settles_18 : decode cX11_settles 18 = .ok (.invokestatic 113, 3) := by decide +kernel
theorem dX11_settles_21 : decode cX11_settles 21 = .ok (.iload_n 1, 1) := by decide +kernel
theorem dX11_settles_22 : decode cX11_settles 22 = .ok (.if_icmp .lt 30, 3) := by decide +kernel
theorem dX11_settles_25 : decode cX11_settles 25 = .ok (.aload_n 0, 1) := by decide +kernel
theorem dX11_settles_26 : decode cX11_settles 26 = .ok (.dup, 1) := by decide +kernel
theorem dX11_settles_27 : decode cX11_settles 27 = .ok (.getfield 110, 3) := by decide +kernel
theorem dX11_settles_30 : decode cX11_settles 30 = .ok (.iconst 1, 1) := by decide +kernel
theorem dX11_settles_31 : decode cX11_settles 31 = .ok (.isub, 1) := by decide +kernel
theorem dX11_settles_32 : decode cX11_settles 32 = .ok (.putfield 110, 3) := by decide +kernel
theorem dX11_settles_35 : decode cX11_settles 35 = .ok (.aload_n 0, 1) := by decide +kernel
theorem dX11_settles_36 : decode cX11_settles 36 = .ok (.aload_n 0, 1) := by decide +kernel
theorem dX11_settles_37 : decode cX11_settles 37 = .ok (.getfield 26, 3) := by decide +kernel
theorem dX11_settles_40 : decode cX11_settles 40 = .ok (.aload_n 0, 1) := by decide +kernel
theorem dX11_settles_41 : decode cX11_settles 41 = .ok (.getfield 110, 3) := by decide +kernel
theorem dX11_settles_44 : decode cX11_settles 44 = .ok (.iaload, 1) := by decide +kernel
theorem dX11_settles_45 : decode cX11_settles 45 = .ok (.iconst 0, 1) := by decide +kernel
theorem dX11_settles_46 : decode cX11_settles 46 = .ok (.invokevirtual 116, 3) := by decide +kernel
theorem dX11_settles_49 : decode cX11_settles 49 = .ok (.goto (-49), 3) := by decide +kernel
theorem dX11_settles_52 : decode cX11_settles 52 = .ok (.return_, 1) := by decide +kernel
theorem dX11_reads_0 : decode cX11_reads 0 = .ok (.aload_n 0, 1) := by decide +kernel
theorem dX11_reads_1 : decode cX11_reads 1 = .ok (.getfield 7, 3) := by decide +kernel
theorem dX11_reads_4 : decode cX11_reads 4 = .ok (.iload_n 1, 1) := by decide +kernel
theorem dX11_reads_5 : decode cX11_reads 5 = .ok (.iaload, 1) := by decide +kernel
theorem dX11_reads_6 : decode cX11_reads 6 = .ok (.istore_n 2, 1) := by decide +kernel
theorem dX11_reads_7 : decode cX11_reads 7 = .ok (.aload_n 0, 1) := by decide +kernel
theorem dX11_reads_8 : decode cX11_reads 8 = .ok (.iconst 0, 1) := by decide +kernel
theorem dX11_reads_9 : decode cX11_reads 9 = .ok (.putfield 106, 3) := by decide +kernel
theorem dX11_reads_12 : decode cX11_reads 12 = .ok (.aload_n 0, 1) := by decide +kernel
theorem dX11_reads_13 : decode cX11_reads 13 = .ok (.iconst 0, 1) := by decide +kernel
theorem dX11_reads_14 : decode cX11_reads 14 = .ok (.putfield 110, 3) := by decide +kernel
theorem dX11_reads_17 : decode cX11_reads 17 = .ok (.iconst 0, 1) := by decide +kernel
theorem dX11_reads_18 : decode cX11_reads 18 = .ok (.istore_n 3, 1) := by decide +kernel
theorem dX11_reads_19 : decode cX11_reads 19 = .ok (.iconst 0, 1) := by decide +kernel
theorem dX11_reads_20 : decode cX11_reads 20 = .ok (.istore 4, 2) := by decide +kernel
theorem dX11_reads_22 : decode cX11_reads 22 = .ok (.iconst 0, 1) := by decide +kernel
theorem dX11_reads_23 : decode cX11_reads 23 = .ok (.istore 5, 2) := by decide +kernel
theorem dX11_reads_25 : decode cX11_reads 25 = .ok (.iload 5, 2) := by decide +kernel
theorem dX11_reads_27 : decode cX11_reads 27 = .ok (.iload_n 2, 1) := by decide +kernel
theorem dX11_reads_28 : decode cX11_reads 28 = .ok (.if_icmp .ge 347, 3) := by decide +kernel
theorem dX11_reads_31 : decode cX11_reads 31 = .ok (.aload_n 0, 1) := by decide +kernel
theorem dX11_reads_32 : decode cX11_reads 32 = .ok (.getfield 7, 3) := by decide +kernel
theorem dX11_reads_35 : decode cX11_reads 35 = .ok (.iload_n 1, 1) := by decide +kernel
theorem dX11_reads_36 : decode cX11_reads 36 = .ok (.iconst 1, 1) := by decide +kernel
theorem dX11_reads_37 : decode cX11_reads 37 = .ok (.iadd, 1) := by decide +kernel
theorem dX11_reads_38 : decode cX11_reads 38 = .ok (.iload 5, 2) := by decide +kernel
theorem dX11_reads_40 : decode cX11_reads 40 = .ok (.iadd, 1) := by decide +kernel
theorem dX11_reads_41 : decode cX11_reads 41 = .ok (.iaload, 1) := by decide +kernel
theorem dX11_reads_42 : decode cX11_reads 42 = .ok (.istore 6, 2) := by decide +kernel
theorem dX11_reads_44 : decode cX11_reads 44 = .ok (.iload 6, 2) := by decide +kernel
theorem dX11_reads_46 : decode cX11_reads 46 = .ok (.bipush 32, 2) := by decide +kernel
theorem dX11_reads_48 : decode cX11_reads 48 = .ok (.if_icmp .ne 9, 3) := by decide +kernel
theorem dX11_reads_51 : decode cX11_reads 51 = .ok (.iinc 5 1, 3) := by decide +kernel
theorem dX11_reads_54 : decode cX11_reads 54 = .ok (.goto 318, 3) := by decide +kernel
theorem dX11_reads_57 : decode cX11_reads 57 = .ok (.iload 4, 2) := by decide +kernel
theorem dX11_reads_59 : decode cX11_reads 59 = .ok (.ifCond .eq 82, 3) := by decide +kernel
theorem dX11_reads_62 : decode cX11_reads 62 = .ok (.iload 6, 2) := by decide +kernel
theorem dX11_reads_64 : decode cX11_reads 64 = .ok (.bipush 41, 2) := by decide +kernel
theorem dX11_reads_66 : decode cX11_reads 66 = .ok (.if_icmp .ne 34, 3) := by decide +kernel
theorem dX11_reads_69 : decode cX11_reads 69 = .ok (.iload_n 3, 1) := by decide +kernel
theorem dX11_reads_70 : decode cX11_reads 70 = .ok (.ifCond .le 30, 3) := by decide +kernel
theorem dX11_reads_73 : decode cX11_reads 73 = .ok (.aload_n 0, 1) := by decide +kernel
theorem dX11_reads_74 : decode cX11_reads 74 = .ok (.iconst 1, 1) := by decide +kernel
theorem dX11_reads_75 : decode cX11_reads 75 = .ok (.invokevirtual 120, 3) := by decide +kernel
theorem dX11_reads_78 : decode cX11_reads 78 = .ok (.aload_n 0, 1) := by decide +kernel
theorem dX11_reads_79 : decode cX11_reads 79 = .ok (.dup, 1) := by decide +kernel
theorem dX11_reads_80 : decode cX11_reads 80 = .ok (.getfield 110, 3) := by decide +kernel
theorem dX11_reads_83 : decode cX11_reads 83 = .ok (.iconst 1, 1) := by decide +kernel
theorem dX11_reads_84 : decode cX11_reads 84 = .ok (.isub, 1) := by decide +kernel
theorem dX11_reads_85 : decode cX11_reads 85 = .ok (.putfield 110, 3) := by decide +kernel
theorem dX11_reads_88 : decode cX11_reads 88 = .ok (.iinc 3 (-1), 3) := by decide +kernel
theorem dX11_reads_91 : decode cX11_reads 91 = .ok (.aload_n 0, 1) := by decide +kernel
theorem dX11_reads_92 : decode cX11_reads 92 = .ok (.bipush 6, 2) := by decide +kernel
theorem dX11_reads_94 : decode cX11_reads 94 = .ok (.invokevirtual 120, 3) := by decide +kernel
theorem dX11_reads_97 : decode cX11_reads 97 = .ok (.goto 38, 3) := by decide +kernel
theorem dX11_reads_100 : decode cX11_reads 100 = .ok (.iload 6, 2) := by decide +kernel
theorem dX11_reads_102 : decode cX11_reads 102 = .ok (.invokestatic 127, 3) := by decide +kernel
theorem dX11_reads_105 : decode cX11_reads 105 = .ok (.iconst (-1), 1) := by decide +kernel
theorem dX11_reads_106 : decode cX11_reads 106 = .ok (.if_icmp .eq 21, 3) := by decide +kernel
theorem dX11_reads_109 : decode cX11_reads 109 = .ok (.aload_n 0, 1) := by decide +kernel
theorem dX11_reads_110 : decode cX11_reads 110 = .ok (.iload 6, 2) := by decide +kernel
theorem dX11_reads_112 : decode cX11_reads 112 = .ok (.invokestatic 127, 3) := by decide +kernel
theorem dX11_reads_115 : decode cX11_reads 115 = .ok (.invokevirtual 130, 3) := by decide +kernel
theorem dX11_reads_118 : decode cX11_reads 118 = .ok (.ifCond .eq 9, 3) := by decide +kernel
theorem dX11_reads_121 : decode cX11_reads 121 = .ok (.iconst 0, 1) := by decide +kernel
theorem dX11_reads_122 : decode cX11_reads 122 = .ok (.istore 4, 2) := by decide +kernel
theorem dX11_reads_124 : decode cX11_reads 124 = .ok (.goto 11, 3) := by decide +kernel
theorem dX11_reads_127 : decode cX11_reads 127 = .ok (.bipush 10, 2) := by decide +kernel
theorem dX11_reads_129 : decode cX11_reads 129 = .ok (.iload 5, 2) := by decide +kernel
theorem dX11_reads_131 : decode cX11_reads 131 = .ok (.imul, 1) := by decide +kernel
theorem dX11_reads_132 : decode cX11_reads 132 = .ok (.iconst 1, 1) := by decide +kernel
theorem dX11_reads_133 : decode cX11_reads 133 = .ok (.iadd, 1) := by decide +kernel
theorem dX11_reads_134 : decode cX11_reads 134 = .ok (.ireturn, 1) := by decide +kernel
theorem dX11_reads_135 : decode cX11_reads 135 = .ok (.iinc 5 1, 3) := by decide +kernel
theorem dX11_reads_138 : decode cX11_reads 138 = .ok (.goto 234, 3) := by decide +kernel
theorem dX11_reads_141 : decode cX11_reads 141 = .ok (.iload 6, 2) := by decide +kernel
theorem dX11_reads_143 : decode cX11_reads 143 = .ok (.i2l, 1) := by decide +kernel
theorem dX11_reads_144 : decode cX11_reads 144 = .ok (.ldc2_w 133, 3) := by decide +kernel
theorem dX11_reads_147 : decode cX11_reads 147 = .ok (.ldc2_w 135, 3) := by decide +kernel
theorem dX11_reads_150 : decode cX11_reads 150 = .ok (.invokestatic 67, 3) := by decide +kernel
theorem dX11_reads_153 : decode cX11_reads 153 = .ok (.ifCond .eq 105, 3) := by decide +kernel
theorem dX11_reads_156 : decode cX11_reads 156 = .ok (.iload 5, 2) := by decide +kernel
theorem dX11_reads_158 : decode cX11_reads 158 = .ok (.istore 7, 2) := by decide +kernel
theorem dX11_reads_160 : decode cX11_reads 160 = .ok (.iconst 0, 1) := by decide +kernel
theorem dX11_reads_161 : decode cX11_reads 161 = .ok (.istore 8, 2) := by decide +kernel
theorem dX11_reads_163 : decode cX11_reads 163 = .ok (.iload 5, 2) := by decide +kernel
theorem dX11_reads_165 : decode cX11_reads 165 = .ok (.iload_n 2, 1) := by decide +kernel
theorem dX11_reads_166 : decode cX11_reads 166 = .ok (.if_icmp .ge 73, 3) := by decide +kernel
theorem dX11_reads_169 : decode cX11_reads 169 = .ok (.aload_n 0, 1) := by decide +kernel
theorem dX11_reads_170 : decode cX11_reads 170 = .ok (.getfield 7, 3) := by decide +kernel
theorem dX11_reads_173 : decode cX11_reads 173 = .ok (.iload_n 1, 1) := by decide +kernel
theorem dX11_reads_174 : decode cX11_reads 174 = .ok (.iconst 1, 1) := by decide +kernel
theorem dX11_reads_175 : decode cX11_reads 175 = .ok (.iadd, 1) := by decide +kernel
theorem dX11_reads_176 : decode cX11_reads 176 = .ok (.iload 5, 2) := by decide +kernel
theorem dX11_reads_178 : decode cX11_reads 178 = .ok (.iadd, 1) := by decide +kernel
theorem dX11_reads_179 : decode cX11_reads 179 = .ok (.iaload, 1) := by decide +kernel
theorem dX11_reads_180 : decode cX11_reads 180 = .ok (.i2l, 1) := by decide +kernel
theorem dX11_reads_181 : decode cX11_reads 181 = .ok (.ldc2_w 133, 3) := by decide +kernel
theorem dX11_reads_184 : decode cX11_reads 184 = .ok (.ldc2_w 135, 3) := by decide +kernel
theorem dX11_reads_187 : decode cX11_reads 187 = .ok (.invokestatic 67, 3) := by decide +kernel
theorem dX11_reads_190 : decode cX11_reads 190 = .ok (.ifCond .eq 49, 3) := by decide +kernel
theorem dX11_reads_193 : decode cX11_reads 193 = .ok (.iload 5, 2) := by decide +kernel
theorem dX11_reads_195 : decode cX11_reads 195 = .ok (.iload 7, 2) := by decide +kernel
theorem dX11_reads_197 : decode cX11_reads 197 = .ok (.isub, 1) := by decide +kernel
theorem dX11_reads_198 : decode cX11_reads 198 = .ok (.bipush 6, 2) := by decide +kernel
theorem dX11_reads_200 : decode cX11_reads 200 = .ok (.if_icmp .ne 11, 3) := by decide +kernel
theorem dX11_reads_203 : decode cX11_reads 203 = .ok (.bipush 10, 2) := by decide +kernel
theorem dX11_reads_205 : decode cX11_reads 205 = .ok (.iload 7, 2) := by decide +kernel
theorem dX11_reads_207 : decode cX11_reads 207 = .ok (.imul, 1) := by decide +kernel
theorem dX11_reads_208 : decode cX11_reads 208 = .ok (.iconst 2, 1) := by decide +kernel
theorem dX11_reads_209 : decode cX11_reads 209 = .ok (.iadd, 1) := by decide +kernel
theorem dX11_reads_210 : decode cX11_reads 210 = .ok (.ireturn, 1) := by decide +kernel
theorem dX11_reads_211 : decode cX11_reads 211 = .ok (.bipush 10, 2) := by decide +kernel
theorem dX11_reads_213 : decode cX11_reads 213 = .ok (.iload 8, 2) := by decide +kernel
theorem dX11_reads_215 : decode cX11_reads 215 = .ok (.imul, 1) := by decide +kernel
theorem dX11_reads_216 : decode cX11_reads 216 = .ok (.aload_n 0, 1) := by decide +kernel
theorem dX11_reads_217 : decode cX11_reads 217 = .ok (.getfield 7, 3) := by decide +kernel
theorem dX11_reads_220 : decode cX11_reads 220 = .ok (.iload_n 1, 1) := by decide +kernel
theorem dX11_reads_221 : decode cX11_reads 221 = .ok (.iconst 1, 1) := by decide +kernel
theorem dX11_reads_222 : decode cX11_reads 222 = .ok (.iadd, 1) := by decide +kernel
theorem dX11_reads_223 : decode cX11_reads 223 = .ok (.iload 5, 2) := by decide +kernel
theorem dX11_reads_225 : decode cX11_reads 225 = .ok (.iadd, 1) := by decide +kernel
theorem dX11_reads_226 : decode cX11_reads 226 = .ok (.iaload, 1) := by decide +kernel
theorem dX11_reads_227 : decode cX11_reads 227 = .ok (.iadd, 1) := by decide +kernel
theorem dX11_reads_228 : decode cX11_reads 228 = .ok (.bipush 48, 2) := by decide +kernel
theorem dX11_reads_230 : decode cX11_reads 230 = .ok (.isub, 1) := by decide +kernel
theorem dX11_reads_231 : decode cX11_reads 231 = .ok (.istore 8, 2) := by decide +kernel
theorem dX11_reads_233 : decode cX11_reads 233 = .ok (.iinc 5 1, 3) := by decide +kernel
theorem dX11_reads_236 : decode cX11_reads 236 = .ok (.goto (-73), 3) := by decide +kernel
theorem dX11_reads_239 : decode cX11_reads 239 = .ok (.aload_n 0, 1) := by decide +kernel
theorem dX11_reads_240 : decode cX11_reads 240 = .ok (.iconst 0, 1) := by decide +kernel
theorem dX11_reads_241 : decode cX11_reads 241 = .ok (.iload 8, 2) := by decide +kernel
theorem dX11_reads_243 : decode cX11_reads 243 = .ok (.invokevirtual 116, 3) := by decide +kernel
theorem dX11_reads_246 : decode cX11_reads 246 = .ok (.aload_n 0, 1) := by decide +kernel
theorem dX11_reads_247 : decode cX11_reads 247 = .ok (.bipush 6, 2) := by decide +kernel
theorem dX11_reads_249 : decode cX11_reads 249 = .ok (.invokevirtual 120, 3) := by decide +kernel
theorem dX11_reads_252 : decode cX11_reads 252 = .ok (.iconst 1, 1) := by decide +kernel
theorem dX11_reads_253 : decode cX11_reads 253 = .ok (.istore 4, 2) := by decide +kernel
theorem dX11_reads_255 : decode cX11_reads 255 = .ok (.goto 117, 3) := by decide +kernel
theorem dX11_reads_258 : decode cX11_reads 258 = .ok (.iload 6, 2) := by decide +kernel
theorem dX11_reads_260 : decode cX11_reads 260 = .ok (.invokestatic 137, 3) := by decide +kernel
theorem dX11_reads_263 : decode cX11_reads 263 = .ok (.iconst (-1), 1) := by decide +kernel
theorem dX11_reads_264 : decode cX11_reads 264 = .ok (.if_icmp .eq 28, 3) := by decide +kernel
theorem dX11_reads_267 : decode cX11_reads 267 = .ok (.aload_n 0, 1) := by decide +kernel
theorem dX11_reads_268 : decode cX11_reads 268 = .ok (.iconst 1, 1) := by decide +kernel
theorem dX11_reads_269 : decode cX11_reads 269 = .ok (.iload 6, 2) := by decide +kernel
theorem dX11_reads_271 : decode cX11_reads 271 = .ok (.invokestatic 137, 3) := by decide +kernel
theorem dX11_reads_274 : decode cX11_reads 274 = .ok (.invokevirtual 116, 3) := by decide +kernel
theorem dX11_reads_277 : decode cX11_reads 277 = .ok (.aload_n 0, 1) := by decide +kernel
theorem dX11_reads_278 : decode cX11_reads 278 = .ok (.bipush 6, 2) := by decide +kernel
theorem dX11_reads_280 : decode cX11_reads 280 = .ok (.invokevirtual 120, 3) := by decide +kernel
theorem dX11_reads_283 : decode cX11_reads 283 = .ok (.iconst 1, 1) := by decide +kernel
theorem dX11_reads_284 : decode cX11_reads 284 = .ok (.istore 4, 2) := by decide +kernel
theorem dX11_reads_286 : decode cX11_reads 286 = .ok (.iinc 5 1, 3) := by decide +kernel
theorem dX11_reads_289 : decode cX11_reads 289 = .ok (.goto 83, 3) := by decide +kernel
theorem dX11_reads_292 : decode cX11_reads 292 = .ok (.iload 6, 2) := by decide +kernel
theorem dX11_reads_294 : decode cX11_reads 294 = .ok (.bipush 40, 2) := by decide +kernel
theorem dX11_reads_296 : decode cX11_reads 296 = .ok (.if_icmp .ne 32, 3) := by decide +kernel
theorem dX11_reads_299 : decode cX11_reads 299 = .ok (.iload_n 3, 1) := by decide +kernel
theorem dX11_reads_300 : decode cX11_reads 300 = .ok (.bipush 8, 2) := by decide +kernel
theorem dX11_reads_302 : decode cX11_reads 302 = .ok (.if_icmp .ne 11, 3) := by decide +kernel
theorem dX11_reads_305 : decode cX11_reads 305 = .ok (.bipush 10, 2) := by decide +kernel
theorem dX11_reads_307 : decode cX11_reads 307 = .ok (.iload 5, 2) := by decide +kernel
theorem dX11_reads_309 : decode cX11_reads 309 = .ok (.imul, 1) := by decide +kernel
theorem dX11_reads_310 : decode cX11_reads 310 = .ok (.iconst 3, 1) := by decide +kernel
theorem dX11_reads_311 : decode cX11_reads 311 = .ok (.iadd, 1) := by decide +kernel
theorem dX11_reads_312 : decode cX11_reads 312 = .ok (.ireturn, 1) := by decide +kernel
theorem dX11_reads_313 : decode cX11_reads 313 = .ok (.iinc 3 1, 3) := by decide +kernel
theorem dX11_reads_316 : decode cX11_reads 316 = .ok (.aload_n 0, 1) := by decide +kernel
theorem dX11_reads_317 : decode cX11_reads 317 = .ok (.bipush 13, 2) := by decide +kernel
theorem dX11_reads_319 : decode cX11_reads 319 = .ok (.invokevirtual 124, 3) := by decide +kernel
theorem dX11_reads_322 : decode cX11_reads 322 = .ok (.iinc 5 1, 3) := by decide +kernel
theorem dX11_reads_325 : decode cX11_reads 325 = .ok (.goto 47, 3) := by decide +kernel
theorem dX11_reads_328 : decode cX11_reads 328 = .ok (.iload 6, 2) := by decide +kernel
theorem dX11_reads_330 : decode cX11_reads 330 = .ok (.bipush 45, 2) := by decide +kernel
theorem dX11_reads_332 : decode cX11_reads 332 = .ok (.if_icmp .eq 10, 3) := by decide +kernel
theorem dX11_reads_335 : decode cX11_reads 335 = .ok (.iload 6, 2) := by decide +kernel
theorem dX11_reads_337 : decode cX11_reads 337 = .ok (.bipush 33, 2) := by decide +kernel
theorem dX11_reads_339 : decode cX11_reads 339 = .ok (.if_icmp .ne 25, 3) := by decide +kernel
theorem dX11_reads_342 : decode cX11_reads 342 = .ok (.aload_n 0, 1) := by decide +kernel
theorem dX11_reads_343 : decode cX11_reads 343 = .ok (.iload 6, 2) := by decide +kernel
theorem dX11_reads_345 : decode cX11_reads 345 = .ok (.bipush 45, 2) := by decide +kernel
theorem dX11_reads_347 : decode cX11_reads 347 = .ok (.if_icmp .ne 7, 3) := by decide +kernel
theorem dX11_reads_350 : decode cX11_reads 350 = .ok (.iconst 3, 1) := by decide +kernel
theorem dX11_reads_351 : decode cX11_reads 351 = .ok (.goto 4, 3) := by decide +kernel
theorem dX11_reads_354 : decode cX11_reads 354 = .ok (.iconst 2, 1) := by decide +kernel
theorem dX11_reads_355 : decode cX11_reads 355 = .ok (.invokevirtual 124, 3) := by decide +kernel
theorem dX11_reads_358 : decode cX11_reads 358 = .ok (.iinc 5 1, 3) := by decide +kernel
theorem dX11_reads_361 : decode cX11_reads 361 = .ok (.goto 11, 3) := by decide +kernel
theorem dX11_reads_364 : decode cX11_reads 364 = .ok (.bipush 10, 2) := by decide +kernel
theorem dX11_reads_366 : decode cX11_reads 366 = .ok (.iload 5, 2) := by decide +kernel
theorem dX11_reads_368 : decode cX11_reads 368 = .ok (.imul, 1) := by decide +kernel
theorem dX11_reads_369 : decode cX11_reads 369 = .ok (.iconst 1, 1) := by decide +kernel
theorem dX11_reads_370 : decode cX11_reads 370 = .ok (.iadd, 1) := by decide +kernel
theorem dX11_reads_371 : decode cX11_reads 371 = .ok (.ireturn, 1) := by decide +kernel
theorem dX11_reads_372 : decode cX11_reads 372 = .ok (.goto (-347), 3) := by decide +kernel
theorem dX11_reads_375 : decode cX11_reads 375 = .ok (.aload_n 0, 1) := by decide +kernel
theorem dX11_reads_376 : decode cX11_reads 376 = .ok (.iconst 1, 1) := by decide +kernel
theorem dX11_reads_377 : decode cX11_reads 377 = .ok (.invokevirtual 120, 3) := by decide +kernel
theorem dX11_reads_380 : decode cX11_reads 380 = .ok (.iload 4, 2) := by decide +kernel
theorem dX11_reads_382 : decode cX11_reads 382 = .ok (.ifCond .eq 11, 3) := by decide +kernel
theorem dX11_reads_385 : decode cX11_reads 385 = .ok (.iload_n 3, 1) := by decide +kernel
theorem dX11_reads_386 : decode cX11_reads 386 = .ok (.ifCond .ne 7, 3) := by decide +kernel
theorem dX11_reads_389 : decode cX11_reads 389 = .ok (.iconst (-1), 1) := by decide +kernel
theorem dX11_reads_390 : decode cX11_reads 390 = .ok (.goto 9, 3) := by decide +kernel
theorem dX11_reads_393 : decode cX11_reads 393 = .ok (.bipush 10, 2) := by decide +kernel
theorem dX11_reads_395 : decode cX11_reads 395 = .ok (.iload_n 2, 1) := by decide +kernel
theorem dX11_reads_396 : decode cX11_reads 396 = .ok (.imul, 1) := by decide +kernel
theorem dX11_reads_397 : decode cX11_reads 397 = .ok (.iconst 1, 1) := by decide +kernel
theorem dX11_reads_398 : decode cX11_reads 398 = .ok (.iadd, 1) := by decide +kernel
theorem dX11_reads_399 : decode cX11_reads 399 = .ok (.ireturn, 1) := by decide +kernel
theorem dX11_isText_0 : decode cX11_isText 0 = .ok (.iload_n 0, 1) := by decide +kernel
theorem dX11_isText_1 : decode cX11_isText 1 = .ok (.i2l, 1) := by decide +kernel
theorem dX11_isText_2 : decode cX11_isText 2 = .ok (.lconst 0, 1) := by decide +kernel
theorem dX11_isText_3 : decode cX11_isText 3 = .ok (.ldc2_w 77, 3) := by decide +kernel
theorem dX11_isText_6 : decode cX11_isText 6 = .ok (.invokestatic 67, 3) := by decide +kernel
theorem dX11_isText_9 : decode cX11_isText 9 = .ok (.ireturn, 1) := by decide +kernel
theorem dX11_write_0 : decode cX11_write 0 = .ok (.iload_n 1, 1) := by decide +kernel
theorem dX11_write_1 : decode cX11_write 1 = .ok (.invokestatic 166, 3) := by decide +kernel
theorem dX11_write_4 : decode cX11_write 4 = .ok (.ifCond .eq 15, 3) := by decide +kernel
theorem dX11_write_7 : decode cX11_write 7 = .ok (.iload_n 2, 1) := by decide +kernel
theorem dX11_write_8 : decode cX11_write 8 = .ok (.i2l, 1) := by decide +kernel
theorem dX11_write_9 : decode cX11_write 9 = .ok (.lconst 0, 1) := by decide +kernel
theorem dX11_write_10 : decode cX11_write 10 = .ok (.ldc2_w 169, 3) := by decide +kernel
theorem dX11_write_13 : decode cX11_write 13 = .ok (.invokestatic 67, 3) := by decide +kernel
theorem dX11_write_16 : decode cX11_write 16 = .ok (.ifCond .ne 6, 3) := by decide +kernel
theorem dX11_write_19 : decode cX11_write 19 = .ok (.bipush (-2), 2) := by decide +kernel
theorem dX11_write_21 : decode cX11_write 21 = .ok (.ireturn, 1) := by decide +kernel
theorem dX11_write_22 : decode cX11_write 22 = .ok (.sipush 262, 3) := by decide +kernel
theorem dX11_write_25 : decode cX11_write 25 = .ok (.bipush 51, 2) := by decide +kernel
theorem dX11_write_27 : decode cX11_write 27 = .ok (.iload_n 1, 1) := by decide +kernel
theorem dX11_write_28 : decode cX11_write 28 = .ok (.imul, 1) := by decide +kernel
theorem dX11_write_29 : decode cX11_write 29 = .ok (.iadd, 1) := by decide +kernel
theorem dX11_write_30 : decode cX11_write 30 = .ok (.istore_n 3, 1) := by decide +kernel
theorem dX11_write_31 : decode cX11_write 31 = .ok (.aload_n 0, 1) := by decide +kernel
theorem dX11_write_32 : decode cX11_write 32 = .ok (.getfield 7, 3) := by decide +kernel
theorem dX11_write_35 : decode cX11_write 35 = .ok (.iload_n 3, 1) := by decide +kernel
theorem dX11_write_36 : decode cX11_write 36 = .ok (.iaload, 1) := by decide +kernel
theorem dX11_write_37 : decode cX11_write 37 = .ok (.bipush 50, 2) := by decide +kernel
theorem dX11_write_39 : decode cX11_write 39 = .ok (.if_icmp .ne 6, 3) := by decide +kernel
theorem dX11_write_42 : decode cX11_write 42 = .ok (.bipush (-4), 2) := by decide +kernel
theorem dX11_write_44 : decode cX11_write 44 = .ok (.ireturn, 1) := by decide +kernel
theorem dX11_write_45 : decode cX11_write 45 = .ok (.aload_n 0, 1) := by decide +kernel
theorem dX11_write_46 : decode cX11_write 46 = .ok (.getfield 7, 3) := by decide +kernel
theorem dX11_write_49 : decode cX11_write 49 = .ok (.iload_n 3, 1) := by decide +kernel
theorem dX11_write_50 : decode cX11_write 50 = .ok (.dup2, 1) := by decide +kernel
theorem dX11_write_51 : decode cX11_write 51 = .ok (.iaload, 1) := by decide +kernel
theorem dX11_write_52 : decode cX11_write 52 = .ok (.iconst 1, 1) := by decide +kernel
theorem dX11_write_53 : decode cX11_write 53 = .ok (.iadd, 1) := by decide +kernel
theorem dX11_write_54 : decode cX11_write 54 = .ok (.iastore, 1) := by decide +kernel
theorem dX11_write_55 : decode cX11_write 55 = .ok (.aload_n 0, 1) := by decide +kernel
theorem dX11_write_56 : decode cX11_write 56 = .ok (.getfield 7, 3) := by decide +kernel
theorem dX11_write_59 : decode cX11_write 59 = .ok (.iload_n 3, 1) := by decide +kernel
theorem dX11_write_60 : decode cX11_write 60 = .ok (.aload_n 0, 1) := by decide +kernel
theorem dX11_write_61 : decode cX11_write 61 = .ok (.getfield 7, 3) := by decide +kernel
theorem dX11_write_64 : decode cX11_write 64 = .ok (.iload_n 3, 1) := by decide +kernel
theorem dX11_write_65 : decode cX11_write 65 = .ok (.iaload, 1) := by decide +kernel
theorem dX11_write_66 : decode cX11_write 66 = .ok (.iadd, 1) := by decide +kernel
theorem dX11_write_67 : decode cX11_write 67 = .ok (.iload_n 2, 1) := by decide +kernel
theorem dX11_write_68 : decode cX11_write 68 = .ok (.iastore, 1) := by decide +kernel
theorem dX11_write_69 : decode cX11_write 69 = .ok (.aload_n 0, 1) := by decide +kernel
theorem dX11_write_70 : decode cX11_write 70 = .ok (.getfield 7, 3) := by decide +kernel
theorem dX11_write_73 : decode cX11_write 73 = .ok (.iload_n 3, 1) := by decide +kernel
theorem dX11_write_74 : decode cX11_write 74 = .ok (.iaload, 1) := by decide +kernel
theorem dX11_write_75 : decode cX11_write 75 = .ok (.ireturn, 1) := by decide +kernel
theorem dX11_erase_0 : decode cX11_erase 0 = .ok (.iload_n 1, 1) := by decide +kernel
theorem dX11_erase_1 : decode cX11_erase 1 = .ok (.invokestatic 166, 3) := by decide +kernel
theorem dX11_erase_4 : decode cX11_erase 4 = .ok (.ifCond .ne 6, 3) := by decide +kernel
theorem dX11_erase_7 : decode cX11_erase 7 = .ok (.bipush (-2), 2) := by decide +kernel
theorem dX11_erase_9 : decode cX11_erase 9 = .ok (.ireturn, 1) := by decide +kernel
theorem dX11_erase_10 : decode cX11_erase 10 = .ok (.aload_n 0, 1) := by decide +kernel
theorem dX11_erase_11 : decode cX11_erase 11 = .ok (.getfield 7, 3) := by decide +kernel
theorem dX11_erase_14 : decode cX11_erase 14 = .ok (.sipush 262, 3) := by decide +kernel
theorem dX11_erase_17 : decode cX11_erase 17 = .ok (.bipush 51, 2) := by decide +kernel
theorem dX11_erase_19 : decode cX11_erase 19 = .ok (.iload_n 1, 1) := by decide +kernel
theorem dX11_erase_20 : decode cX11_erase 20 = .ok (.imul, 1) := by decide +kernel
theorem dX11_erase_21 : decode cX11_erase 21 = .ok (.iadd, 1) := by decide +kernel
theorem dX11_erase_22 : decode cX11_erase 22 = .ok (.iaload, 1) := by decide +kernel
theorem dX11_erase_23 : decode cX11_erase 23 = .ok (.istore_n 2, 1) := by decide +kernel
theorem dX11_erase_24 : decode cX11_erase 24 = .ok (.aload_n 0, 1) := by decide +kernel
theorem dX11_erase_25 : decode cX11_erase 25 = .ok (.getfield 7, 3) := by decide +kernel
theorem dX11_erase_28 : decode cX11_erase 28 = .ok (.sipush 262, 3) := by decide +kernel
theorem dX11_erase_31 : decode cX11_erase 31 = .ok (.bipush 51, 2) := by decide +kernel
theorem dX11_erase_33 : decode cX11_erase 33 = .ok (.iload_n 1, 1) := by decide +kernel
theorem dX11_erase_34 : decode cX11_erase 34 = .ok (.imul, 1) := by decide +kernel
theorem dX11_erase_35 : decode cX11_erase 35 = .ok (.iadd, 1) := by decide +kernel
theorem dX11_erase_36 : decode cX11_erase 36 = .ok (.iconst 0, 1) := by decide +kernel
theorem dX11_erase_37 : decode cX11_erase 37 = .ok (.iastore, 1) := by decide +kernel
theorem dX11_erase_38 : decode cX11_erase 38 = .ok (.iload_n 2, 1) := by decide +kernel
theorem dX11_erase_39 : decode cX11_erase 39 = .ok (.ireturn, 1) := by decide +kernel
theorem dX11_fault_0 : decode cX11_fault 0 = .ok (.iload_n 1, 1) := by decide +kernel
theorem dX11_fault_1 : decode cX11_fault 1 = .ok (.invokestatic 166, 3) := by decide +kernel
theorem dX11_fault_4 : decode cX11_fault 4 = .ok (.ifCond .eq 18, 3) := by decide +kernel
theorem dX11_fault_7 : decode cX11_fault 7 = .ok (.aload_n 0, 1) := by decide +kernel
theorem dX11_fault_8 : decode cX11_fault 8 = .ok (.sipush 262, 3) := by decide +kernel
theorem dX11_fault_11 : decode cX11_fault 11 = .ok (.bipush 51, 2) := by decide +kernel
theorem dX11_fault_13 : decode cX11_fault 13 = .ok (.iload_n 1, 1) := by decide +kernel
theorem dX11_fault_14 : decode cX11_fault 14 = .ok (.imul, 1) := by decide +kernel
theorem dX11_fault_15 : decode cX11_fault 15 = .ok (.iadd, 1) := by decide +kernel
theorem dX11_fault_16 : decode cX11_fault 16 = .ok (.invokevirtual 171, 3) := by decide +kernel
theorem dX11_fault_19 : decode cX11_fault 19 = .ok (.goto 5, 3) := by decide +kernel
theorem dX11_fault_22 : decode cX11_fault 22 = .ok (.bipush (-2), 2) := by decide +kernel
theorem dX11_fault_24 : decode cX11_fault 24 = .ok (.ireturn, 1) := by decide +kernel
theorem dX11_tells_0 : decode cX11_tells 0 = .ok (.iload_n 1, 1) := by decide +kernel
theorem dX11_tells_1 : decode cX11_tells 1 = .ok (.invokestatic 166, 3) := by decide +kernel
theorem dX11_tells_4 : decode cX11_tells 4 = .ok (.ifCond .eq 19, 3) := by decide +kernel
theorem dX11_tells_7 : decode cX11_tells 7 = .ok (.aload_n 0, 1) := by decide +kernel
theorem dX11_tells_8 : decode cX11_tells 8 = .ok (.iconst 0, 1) := by decide +kernel
theorem dX11_tells_9 : decode cX11_tells 9 = .ok (.iload_n 2, 1) := by decide +kernel
theorem dX11_tells_10 : decode cX11_tells 10 = .ok (.invokevirtual 87, 3) := by decide +kernel
theorem dX11_tells_13 : decode cX11_tells 13 = .ok (.ifCond .eq 10, 3) := by decide +kernel
theorem dX11_tells_16 : decode cX11_tells 16 = .ok (.iload_n 3, 1) := by decide +kernel
theorem dX11_tells_17 : decode cX11_tells 17 = .ok (.invokestatic 93, 3) := by decide +kernel
theorem dX11_tells_20 : decode cX11_tells 20 = .ok (.ifCond .ne 7, 3) := by decide +kernel
theorem dX11_tells_23 : decode cX11_tells 23 = .ok (.ldc2_w 174, 3) := by decide +kernel
theorem dX11_tells_26 : decode cX11_tells 26 = .ok (.lreturn, 1) := by decide +kernel
theorem dX11_tells_27 : decode cX11_tells 27 = .ok (.aload_n 0, 1) := by decide +kernel
theorem dX11_tells_28 : decode cX11_tells 28 = .ok (.invokevirtual 176, 3) := by decide +kernel
theorem dX11_tells_31 : decode cX11_tells 31 = .ok (.aload_n 0, 1) := by decide +kernel
theorem dX11_tells_32 : decode cX11_tells 32 = .ok (.sipush 262, 3) := by decide +kernel
theorem dX11_tells_35 : decode cX11_tells 35 = .ok (.bipush 51, 2) := by decide +kernel
theorem dX11_tells_37 : decode cX11_tells 37 = .ok (.iload_n 1, 1) := by decide +kernel
theorem dX11_tells_38 : decode cX11_tells 38 = .ok (.imul, 1) := by decide +kernel
theorem dX11_tells_39 : decode cX11_tells 39 = .ok (.iadd, 1) := by decide +kernel
theorem dX11_tells_40 : decode cX11_tells 40 = .ok (.invokevirtual 171, 3) := by decide +kernel
theorem dX11_tells_43 : decode cX11_tells 43 = .ok (.iconst (-1), 1) := by decide +kernel
theorem dX11_tells_44 : decode cX11_tells 44 = .ok (.if_icmp .eq 9, 3) := by decide +kernel
theorem dX11_tells_47 : decode cX11_tells 47 = .ok (.ldc2_w 179, 3) := by decide +kernel
theorem dX11_tells_50 : decode cX11_tells 50 = .ok (.goto 9, 3) := by decide +kernel
theorem dX11_tells_53 : decode cX11_tells 53 = .ok (.aload_n 0, 1) := by decide +kernel
theorem dX11_tells_54 : decode cX11_tells 54 = .ok (.iload_n 2, 1) := by decide +kernel
theorem dX11_tells_55 : decode cX11_tells 55 = .ok (.iload_n 3, 1) := by decide +kernel
theorem dX11_tells_56 : decode cX11_tells 56 = .ok (.invokevirtual 181, 3) := by decide +kernel
theorem dX11_tells_59 : decode cX11_tells 59 = .ok (.lreturn, 1) := by decide +kernel
theorem dX11_act_0 : decode cX11_act 0 = .ok (.iload_n 1, 1) := by decide +kernel
theorem dX11_act_1 : decode cX11_act 1 = .ok (.invokestatic 166, 3) := by decide +kernel
theorem dX11_act_4 : decode cX11_act 4 = .ok (.ifCond .eq 20, 3) := by decide +kernel
theorem dX11_act_7 : decode cX11_act 7 = .ok (.iload_n 2, 1) := by decide +kernel
theorem dX11_act_8 : decode cX11_act 8 = .ok (.i2l, 1) := by decide +kernel
theorem dX11_act_9 : decode cX11_act 9 = .ok (.lconst 0, 1) := by decide +kernel
theorem dX11_act_10 : decode cX11_act 10 = .ok (.lconst 1, 1) := by decide +kernel
theorem dX11_act_11 : decode cX11_act 11 = .ok (.invokestatic 67, 3) := by decide +kernel
theorem dX11_act_14 : decode cX11_act 14 = .ok (.ifCond .eq 10, 3) := by decide +kernel
theorem dX11_act_17 : decode cX11_act 17 = .ok (.iload_n 3, 1) := by decide +kernel
theorem dX11_act_18 : decode cX11_act 18 = .ok (.invokestatic 93, 3) := by decide +kernel
theorem dX11_act_21 : decode cX11_act 21 = .ok (.ifCond .ne 6, 3) := by decide +kernel
theorem dX11_act_24 : decode cX11_act 24 = .ok (.bipush (-2), 2) := by decide +kernel
theorem dX11_act_26 : decode cX11_act 26 = .ok (.ireturn, 1) := by decide +kernel
theorem dX11_act_27 : decode cX11_act 27 = .ok (.aload_n 0, 1) := by decide +kernel
theorem dX11_act_28 : decode cX11_act 28 = .ok (.sipush 262, 3) := by decide +kernel
theorem dX11_act_31 : decode cX11_act 31 = .ok (.bipush 51, 2) := by decide +kernel
theorem dX11_act_33 : decode cX11_act 33 = .ok (.iload_n 1, 1) := by decide +kernel
theorem dX11_act_34 : decode cX11_act 34 = .ok (.imul, 1) := by decide +kernel
theorem dX11_act_35 : decode cX11_act 35 = .ok (.iadd, 1) := by decide +kernel
theorem dX11_act_36 : decode cX11_act 36 = .ok (.invokevirtual 171, 3) := by decide +kernel
theorem dX11_act_39 : decode cX11_act 39 = .ok (.iconst (-1), 1) := by decide +kernel
theorem dX11_act_40 : decode cX11_act 40 = .ok (.if_icmp .eq 6, 3) := by decide +kernel
theorem dX11_act_43 : decode cX11_act 43 = .ok (.bipush (-3), 2) := by decide +kernel
theorem dX11_act_45 : decode cX11_act 45 = .ok (.ireturn, 1) := by decide +kernel
theorem dX11_act_46 : decode cX11_act 46 = .ok (.aload_n 0, 1) := by decide +kernel
theorem dX11_act_47 : decode cX11_act 47 = .ok (.getfield 7, 3) := by decide +kernel
theorem dX11_act_50 : decode cX11_act 50 = .ok (.iconst 3, 1) := by decide +kernel
theorem dX11_act_51 : decode cX11_act 51 = .ok (.iaload, 1) := by decide +kernel
theorem dX11_act_52 : decode cX11_act 52 = .ok (.bipush 20, 2) := by decide +kernel
theorem dX11_act_54 : decode cX11_act 54 = .ok (.if_icmp .ne 6, 3) := by decide +kernel
theorem dX11_act_57 : decode cX11_act 57 = .ok (.bipush (-4), 2) := by decide +kernel
theorem dX11_act_59 : decode cX11_act 59 = .ok (.ireturn, 1) := by decide +kernel
theorem dX11_act_60 : decode cX11_act 60 = .ok (.sipush 466, 3) := by decide +kernel
theorem dX11_act_63 : decode cX11_act 63 = .ok (.bipush 54, 2) := by decide +kernel
theorem dX11_act_65 : decode cX11_act 65 = .ok (.aload_n 0, 1) := by decide +kernel
theorem dX11_act_66 : decode cX11_act 66 = .ok (.getfield 7, 3) := by decide +kernel
theorem dX11_act_69 : decode cX11_act 69 = .ok (.iconst 3, 1) := by decide +kernel
theorem dX11_act_70 : decode cX11_act 70 = .ok (.iaload, 1) := by decide +kernel
theorem dX11_act_71 : decode cX11_act 71 = .ok (.imul, 1) := by decide +kernel
theorem dX11_act_72 : decode cX11_act 72 = .ok (.iadd, 1) := by decide +kernel
theorem dX11_act_73 : decode cX11_act 73 = .ok (.istore 4, 2) := by decide +kernel
theorem dX11_act_75 : decode cX11_act 75 = .ok (.aload_n 0, 1) := by decide +kernel
theorem dX11_act_76 : decode cX11_act 76 = .ok (.getfield 7, 3) := by decide +kernel
theorem dX11_act_79 : decode cX11_act 79 = .ok (.iload 4, 2) := by decide +kernel
theorem dX11_act_81 : decode cX11_act 81 = .ok (.iload_n 2, 1) := by decide +kernel
theorem dX11_act_82 : decode cX11_act 82 = .ok (.iastore, 1) := by decide +kernel
theorem dX11_act_83 : decode cX11_act 83 = .ok (.aload_n 0, 1) := by decide +kernel
theorem dX11_act_84 : decode cX11_act 84 = .ok (.getfield 7, 3) := by decide +kernel
theorem dX11_act_87 : decode cX11_act 87 = .ok (.iload 4, 2) := by decide +kernel
theorem dX11_act_89 : decode cX11_act 89 = .ok (.iconst 1, 1) := by decide +kernel
theorem dX11_act_90 : decode cX11_act 90 = .ok (.iadd, 1) := by decide +kernel
theorem dX11_act_91 : decode cX11_act 91 = .ok (.iload_n 3, 1) := by decide +kernel
theorem dX11_act_92 : decode cX11_act 92 = .ok (.iastore, 1) := by decide +kernel
theorem dX11_act_93 : decode cX11_act 93 = .ok (.aload_n 0, 1) := by decide +kernel
theorem dX11_act_94 : decode cX11_act 94 = .ok (.getfield 7, 3) := by decide +kernel
theorem dX11_act_97 : decode cX11_act 97 = .ok (.iload 4, 2) := by decide +kernel
theorem dX11_act_99 : decode cX11_act 99 = .ok (.iconst 2, 1) := by decide +kernel
theorem dX11_act_100 : decode cX11_act 100 = .ok (.iadd, 1) := by decide +kernel
theorem dX11_act_101 : decode cX11_act 101 = .ok (.iconst (-1), 1) := by decide +kernel
theorem dX11_act_102 : decode cX11_act 102 = .ok (.iastore, 1) := by decide +kernel
theorem dX11_act_103 : decode cX11_act 103 = .ok (.iconst 0, 1) := by decide +kernel
theorem dX11_act_104 : decode cX11_act 104 = .ok (.istore 5, 2) := by decide +kernel
theorem dX11_act_106 : decode cX11_act 106 = .ok (.iload 5, 2) := by decide +kernel
theorem dX11_act_108 : decode cX11_act 108 = .ok (.bipush 51, 2) := by decide +kernel
theorem dX11_act_110 : decode cX11_act 110 = .ok (.if_icmp .ge 37, 3) := by decide +kernel
theorem dX11_act_113 : decode cX11_act 113 = .ok (.aload_n 0, 1) := by decide +kernel
theorem dX11_act_114 : decode cX11_act 114 = .ok (.getfield 7, 3) := by decide +kernel
theorem dX11_act_117 : decode cX11_act 117 = .ok (.iload 4, 2) := by decide +kernel
theorem dX11_act_119 : decode cX11_act 119 = .ok (.iconst 3, 1) := by decide +kernel
theorem dX11_act_120 : decode cX11_act 120 = .ok (.iadd, 1) := by decide +kernel
theorem dX11_act_121 : decode cX11_act 121 = .ok (.iload 5, 2) := by decide +kernel
theorem dX11_act_123 : decode cX11_act 123 = .ok (.iadd, 1) := by decide +kernel
theorem dX11_act_124 : decode cX11_act 124 = .ok (.aload_n 0, 1) := by decide +kernel
theorem dX11_act_125 : decode cX11_act 125 = .ok (.getfield 7, 3) := by decide +kernel
theorem dX11_act_128 : decode cX11_act 128 = .ok (.sipush 262, 3) := by decide +kernel
theorem dX11_act_131 : decode cX11_act 131 = .ok (.bipush 51, 2) := by decide +kernel
theorem dX11_act_133 : decode cX11_act 133 = .ok (.iload_n 1, 1) := by decide +kernel
theorem dX11_act_134 : decode cX11_act 134 = .ok (.imul, 1) := by decide +kernel
theorem dX11_act_135 : decode cX11_act 135 = .ok (.iadd, 1) := by decide +kernel
theorem dX11_act_136 : decode cX11_act 136 = .ok (.iload 5, 2) := by decide +kernel
theorem dX11_act_138 : decode cX11_act 138 = .ok (.iadd, 1) := by decide +kernel
theorem dX11_act_139 : decode cX11_act 139 = .ok (.iaload, 1) := by decide +kernel
theorem dX11_act_140 : decode cX11_act 140 = .ok (.iastore, 1) := by decide +kernel
theorem dX11_act_141 : decode cX11_act 141 = .ok (.iinc 5 1, 3) := by decide +kernel
theorem dX11_act_144 : decode cX11_act 144 = .ok (.goto (-38), 3) := by decide +kernel
theorem dX11_act_147 : decode cX11_act 147 = .ok (.aload_n 0, 1) := by decide +kernel
theorem dX11_act_148 : decode cX11_act 148 = .ok (.iconst 3, 1) := by decide +kernel
theorem dX11_act_149 : decode cX11_act 149 = .ok (.invokevirtual 83, 3) := by decide +kernel
theorem dX11_act_152 : decode cX11_act 152 = .ok (.ireturn, 1) := by decide +kernel
theorem dX11_strikeOut_0 : decode cX11_strikeOut 0 = .ok (.aload_n 0, 1) := by decide +kernel
theorem dX11_strikeOut_1 : decode cX11_strikeOut 1 = .ok (.iconst 3, 1) := by decide +kernel
theorem dX11_strikeOut_2 : decode cX11_strikeOut 2 = .ok (.iload_n 1, 1) := by decide +kernel
theorem dX11_strikeOut_3 : decode cX11_strikeOut 3 = .ok (.invokevirtual 87, 3) := by decide +kernel
theorem dX11_strikeOut_6 : decode cX11_strikeOut 6 = .ok (.ifCond .eq 10, 3) := by decide +kernel
theorem dX11_strikeOut_9 : decode cX11_strikeOut 9 = .ok (.iload_n 2, 1) := by decide +kernel
theorem dX11_strikeOut_10 : decode cX11_strikeOut 10 = .ok (.invokestatic 93, 3) := by decide +kernel
theorem dX11_strikeOut_13 : decode cX11_strikeOut 13 = .ok (.ifCond .ne 6, 3) := by decide +kernel
theorem dX11_strikeOut_16 : decode cX11_strikeOut 16 = .ok (.bipush (-2), 2) := by decide +kernel
theorem dX11_strikeOut_18 : decode cX11_strikeOut 18 = .ok (.ireturn, 1) := by decide +kernel
theorem dX11_strikeOut_19 : decode cX11_strikeOut 19 = .ok (.sipush 466, 3) := by decide +kernel
theorem dX11_strikeOut_22 : decode cX11_strikeOut 22 = .ok (.bipush 54, 2) := by decide +kernel
theorem dX11_strikeOut_24 : decode cX11_strikeOut 24 = .ok (.iload_n 1, 1) := by decide +kernel
theorem dX11_strikeOut_25 : decode cX11_strikeOut 25 = .ok (.imul, 1) := by decide +kernel
theorem dX11_strikeOut_26 : decode cX11_strikeOut 26 = .ok (.iadd, 1) := by decide +kernel
theorem dX11_strikeOut_27 : decode cX11_strikeOut 27 = .ok (.istore_n 3, 1) := by decide +kernel
theorem dX11_strikeOut_28 : decode cX11_strikeOut 28 = .ok (.aload_n 0, 1) := by decide +kernel
theorem dX11_strikeOut_29 : decode cX11_strikeOut 29 = .ok (.getfield 7, 3) := by decide +kernel
theorem dX11_strikeOut_32 : decode cX11_strikeOut 32 = .ok (.iload_n 3, 1) := by decide +kernel
theorem dX11_strikeOut_33 : decode cX11_strikeOut 33 = .ok (.iconst 2, 1) := by decide +kernel
theorem dX11_strikeOut_34 : decode cX11_strikeOut 34 = .ok (.iadd, 1) := by decide +kernel
theorem dX11_strikeOut_35 : decode cX11_strikeOut 35 = .ok (.iaload, 1) := by decide +kernel
theorem dX11_strikeOut_36 : decode cX11_strikeOut 36 = .ok (.iconst (-1), 1) := by decide +kernel
theorem dX11_strikeOut_37 : decode cX11_strikeOut 37 = .ok (.if_icmp .eq 6, 3) := by decide +kernel
theorem dX11_strikeOut_40 : decode cX11_strikeOut 40 = .ok (.bipush (-3), 2) := by decide +kernel
theorem dX11_strikeOut_42 : decode cX11_strikeOut 42 = .ok (.ireturn, 1) := by decide +kernel
theorem dX11_strikeOut_43 : decode cX11_strikeOut 43 = .ok (.aload_n 0, 1) := by decide +kernel
theorem dX11_strikeOut_44 : decode cX11_strikeOut 44 = .ok (.getfield 7, 3) := by decide +kernel
theorem dX11_strikeOut_47 : decode cX11_strikeOut 47 = .ok (.iload_n 3, 1) := by decide +kernel
theorem dX11_strikeOut_48 : decode cX11_strikeOut 48 = .ok (.iconst 2, 1) := by decide +kernel
theorem dX11_strikeOut_49 : decode cX11_strikeOut 49 = .ok (.iadd, 1) := by decide +kernel
theorem dX11_strikeOut_50 : decode cX11_strikeOut 50 = .ok (.iload_n 2, 1) := by decide +kernel
theorem dX11_strikeOut_51 : decode cX11_strikeOut 51 = .ok (.iastore, 1) := by decide +kernel
theorem dX11_strikeOut_52 : decode cX11_strikeOut 52 = .ok (.aload_n 0, 1) := by decide +kernel
theorem dX11_strikeOut_53 : decode cX11_strikeOut 53 = .ok (.iconst 0, 1) := by decide +kernel
theorem dX11_strikeOut_54 : decode cX11_strikeOut 54 = .ok (.putfield 71, 3) := by decide +kernel
theorem dX11_strikeOut_57 : decode cX11_strikeOut 57 = .ok (.iconst 1, 1) := by decide +kernel
theorem dX11_strikeOut_58 : decode cX11_strikeOut 58 = .ok (.ireturn, 1) := by decide +kernel
theorem dX11_inForce_0 : decode cX11_inForce 0 = .ok (.iconst (-1), 1) := by decide +kernel
theorem dX11_inForce_1 : decode cX11_inForce 1 = .ok (.istore_n 3, 1) := by decide +kernel
theorem dX11_inForce_2 : decode cX11_inForce 2 = .ok (.iconst 0, 1) := by decide +kernel
theorem dX11_inForce_3 : decode cX11_inForce 3 = .ok (.istore 4, 2) := by decide +kernel
theorem dX11_inForce_5 : decode cX11_inForce 5 = .ok (.iload 4, 2) := by decide +kernel
theorem dX11_inForce_7 : decode cX11_inForce 7 = .ok (.aload_n 0, 1) := by decide +kernel
theorem dX11_inForce_8 : decode cX11_inForce 8 = .ok (.getfield 7, 3) := by decide +kernel
theorem dX11_inForce_11 : decode cX11_inForce 11 = .ok (.iconst 3, 1) := by decide +kernel
theorem dX11_inForce_12 : decode cX11_inForce 12 = .ok (.iaload, 1) := by decide +kernel
theorem dX11_inForce_13 : decode cX11_inForce 13 = .ok (.if_icmp .ge 121, 3) := by decide +kernel
theorem dX11_inForce_16 : decode cX11_inForce 16 = .ok (.sipush 466, 3) := by decide +kernel
theorem dX11_inForce_19 : decode cX11_inForce 19 = .ok (.bipush 54, 2) := by decide +kernel
theorem dX11_inForce_21 : decode cX11_inForce 21 = .ok (.iload 4, 2) := by decide +kernel
theorem dX11_inForce_23 : decode cX11_inForce 23 = .ok (.imul, 1) := by decide +kernel
theorem dX11_inForce_24 : decode cX11_inForce 24 = .ok (.iadd, 1) := by decide +kernel
theorem dX11_inForce_25 : decode cX11_inForce 25 = .ok (.istore 5, 2) := by decide +kernel
theorem dX11_inForce_27 : decode cX11_inForce 27 = .ok (.aload_n 0, 1) := by decide +kernel
theorem dX11_inForce_28 : decode cX11_inForce 28 = .ok (.getfield 7, 3) := by decide +kernel
theorem dX11_inForce_31 : decode cX11_inForce 31 = .ok (.iload 5, 2) := by decide +kernel
theorem dX11_inForce_33 : decode cX11_inForce 33 = .ok (.iaload, 1) := by decide +kernel
theorem dX11_inForce_34 : decode cX11_inForce 34 = .ok (.iload_n 1, 1) := by decide +kernel
theorem dX11_inForce_35 : decode cX11_inForce 35 = .ok (.if_icmp .ne 46, 3) := by decide +kernel
theorem dX11_inForce_38 : decode cX11_inForce 38 = .ok (.aload_n 0, 1) := by decide +kernel
theorem dX11_inForce_39 : decode cX11_inForce 39 = .ok (.getfield 7, 3) := by decide +kernel
theorem dX11_inForce_42 : decode cX11_inForce 42 = .ok (.iload 5, 2) := by decide +kernel
theorem dX11_inForce_44 : decode cX11_inForce 44 = .ok (.iconst 1, 1) := by decide +kernel
theorem dX11_inForce_45 : decode cX11_inForce 45 = .ok (.iadd, 1) := by decide +kernel
theorem dX11_inForce_46 : decode cX11_inForce 46 = .ok (.iaload, 1) := by decide +kernel
theorem dX11_inForce_47 : decode cX11_inForce 47 = .ok (.iload_n 2, 1) := by decide +kernel
theorem dX11_inForce_48 : decode cX11_inForce 48 = .ok (.if_icmp .gt 33, 3) := by decide +kernel
theorem dX11_inForce_51 : decode cX11_inForce 51 = .ok (.aload_n 0, 1) := by decide +kernel
theorem dX11_inForce_52 : decode cX11_inForce 52 = .ok (.getfield 7, 3) := by decide +kernel
theorem dX11_inForce_55 : decode cX11_inForce 55 = .ok (.iload 5, 2) := by decide +kernel
theorem dX11_inForce_57 : decode cX11_inForce 57 = .ok (.iconst 2, 1) := by decide +kernel
theorem dX11_inForce_58 : decode cX11_inForce 58 = .ok (.iadd, 1) := by decide +kernel
theorem dX11_inForce_59 : decode cX11_inForce 59 = .ok (.iaload, 1) := by decide +kernel
theorem dX11_inForce_60 : decode cX11_inForce 60 = .ok (.iconst (-1), 1) := by decide +kernel
theorem dX11_inForce_61 : decode cX11_inForce 61 = .ok (.if_icmp .eq 16, 3) := by decide +kernel
theorem dX11_inForce_64 : decode cX11_inForce 64 = .ok (.aload_n 0, 1) := by decide +kernel
theorem dX11_inForce_65 : decode cX11_inForce 65 = .ok (.getfield 7, 3) := by decide +kernel
theorem dX11_inForce_68 : decode cX11_inForce 68 = .ok (.iload 5, 2) := by decide +kernel
theorem dX11_inForce_70 : decode cX11_inForce 70 = .ok (.iconst 2, 1) := by decide +kernel
theorem dX11_inForce_71 : decode cX11_inForce 71 = .ok (.iadd, 1) := by decide +kernel
theorem dX11_inForce_72 : decode cX11_inForce 72 = .ok (.iaload, 1) := by decide +kernel
theorem dX11_inForce_73 : decode cX11_inForce 73 = .ok (.iload_n 2, 1) := by decide +kernel
theorem dX11_inForce_74 : decode cX11_inForce 74 = .ok (.if_icmp .le 7, 3) := by decide +kernel
theorem dX11_inForce_77 : decode cX11_inForce 77 = .ok (.iconst 1, 1) := by decide +kernel
theorem dX11_inForce_78 : decode cX11_inForce 78 = .ok (.goto 4, 3) := by decide +kernel
theorem dX11_inForce_81 : decode cX11_inForce 81 = .ok (.iconst 0, 1) := by decide +kernel
theorem dX11_inForce_82 : decode cX11_inForce 82 = .ok (.istore 6, 2) := by decide +kernel
theorem dX11_inForce_84 : decode cX11_inForce 84 = .ok (.iload 6, 2) := by decide +kernel
theorem dX11_inForce_86 : decode cX11_inForce 86 = .ok (.ifCond .eq 40, 3) := by decide +kernel
theorem dX11_inForce_89 : decode cX11_inForce 89 = .ok (.iload_n 3, 1) := by decide +kernel
theorem dX11_inForce_90 : decode cX11_inForce 90 = .ok (.iconst (-1), 1) := by decide +kernel
theorem dX11_inForce_91 : decode cX11_inForce 91 = .ok (.if_icmp .eq 30, 3) := by decide +kernel
theorem dX11_inForce_94 : decode cX11_inForce 94 = .ok (.aload_n 0, 1) := by decide +kernel
theorem dX11_inForce_95 : decode cX11_inForce 95 = .ok (.getfield 7, 3) := by decide +kernel
theorem dX11_inForce_98 : decode cX11_inForce 98 = .ok (.iload 5, 2) := by decide +kernel
theorem dX11_inForce_100 : decode cX11_inForce 100 = .ok (.iconst 1, 1) := by decide +kernel
theorem dX11_inForce_101 : decode cX11_inForce 101 = .ok (.iadd, 1) := by decide +kernel
theorem dX11_inForce_102 : decode cX11_inForce 102 = .ok (.iaload, 1) := by decide +kernel
theorem dX11_inForce_103 : decode cX11_inForce 103 = .ok (.aload_n 0, 1) := by decide +kernel
theorem dX11_inForce_104 : decode cX11_inForce 104 = .ok (.getfield 7, 3) := by decide +kernel
theorem dX11_inForce_107 : decode cX11_inForce 107 = .ok (.sipush 466, 3) := by decide +kernel
theorem dX11_inForce_110 : decode cX11_inForce 110 = .ok (.bipush 54, 2) := by decide +kernel
theorem dX11_inForce_112 : decode cX11_inForce 112 = .ok (.iload_n 3, 1) := by decide +kernel
theorem dX11_inForce_113 : decode cX11_inForce 113 = .ok (.imul, 1) := by decide +kernel
theorem dX11_inForce_114 : decode cX11_inForce 114 = .ok (.iadd, 1) := by decide +kernel
theorem dX11_inForce_115 : decode cX11_inForce 115 = .ok (.iconst 1, 1) := by decide +kernel
theorem dX11_inForce_116 : decode cX11_inForce 116 = .ok (.iadd, 1) := by decide +kernel
theorem dX11_inForce_117 : decode cX11_inForce 117 = .ok (.iaload, 1) := by decide +kernel
theorem dX11_inForce_118 : decode cX11_inForce 118 = .ok (.if_icmp .lt 8, 3) := by decide +kernel
theorem dX11_inForce_121 : decode cX11_inForce 121 = .ok (.iload 4, 2) := by decide +kernel
theorem dX11_inForce_123 : decode cX11_inForce 123 = .ok (.goto 4, 3) := by decide +kernel
theorem dX11_inForce_126 : decode cX11_inForce 126 = .ok (.iload_n 3, 1) := by decide +kernel
theorem dX11_inForce_127 : decode cX11_inForce 127 = .ok (.istore_n 3, 1) := by decide +kernel
theorem dX11_inForce_128 : decode cX11_inForce 128 = .ok (.iinc 4 1, 3) := by decide +kernel
theorem dX11_inForce_131 : decode cX11_inForce 131 = .ok (.goto (-126), 3) := by decide +kernel
theorem dX11_inForce_134 : decode cX11_inForce 134 = .ok (.iload_n 3, 1) := by decide +kernel
theorem dX11_inForce_135 : decode cX11_inForce 135 = .ok (.ireturn, 1) := by decide +kernel

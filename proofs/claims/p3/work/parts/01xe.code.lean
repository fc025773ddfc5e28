theorem dX10_clash_0 : decode cX10_clash 0 = .ok (.iload_n 1, 1) := by decide +kernel
theorem dX10_clash_1 : decode cX10_clash 1 = .ok (.aload_n 0, 1) := by decide +kernel
theorem dX10_clash_2 : decode cX10_clash 2 = .ok (.getfield 20, 3) := by decide +kernel
theorem dX10_clash_5 : decode cX10_clash 5 = .ok (.getfield 162, 3) := by decide +kernel
theorem dX10_clash_8 : decode cX10_clash 8 = .ok (.invokevirtual 195, 3) := by decide +kernel
theorem dX10_clash_11 : decode cX10_clash 11 = .ok (.invokestatic 244, 3) := by decide +kernel
theorem dX10_clash_14 : decode cX10_clash 14 = .ok (.iconst (-1), 1) := by decide +kernel
theorem dX10_clash_15 : decode cX10_clash 15 = .ok (.ixor, 1) := by decide +kernel
theorem dX10_clash_16 : decode cX10_clash 16 = .ok (.iand, 1) := by decide +kernel
theorem dX10_clash_17 : decode cX10_clash 17 = .ok (.ifCond .ne 16, 3) := by decide +kernel
theorem dX10_clash_20 : decode cX10_clash 20 = .ok (.iload_n 1, 1) := by decide +kernel
theorem dX10_clash_21 : decode cX10_clash 21 = .ok (.invokestatic 222, 3) := by decide +kernel
theorem dX10_clash_24 : decode cX10_clash 24 = .ok (.bipush 6, 2) := by decide +kernel
theorem dX10_clash_26 : decode cX10_clash 26 = .ok (.if_icmp .gt 7, 3) := by decide +kernel
theorem dX10_clash_29 : decode cX10_clash 29 = .ok (.iconst 1, 1) := by decide +kernel
theorem dX10_clash_30 : decode cX10_clash 30 = .ok (.goto 4, 3) := by decide +kernel
theorem dX10_clash_33 : decode cX10_clash 33 = .ok (.iconst 0, 1) := by decide +kernel
theorem dX10_clash_34 : decode cX10_clash 34 = .ok (.istore_n 3, 1) := by decide +kernel
theorem dX10_clash_35 : decode cX10_clash 35 = .ok (.iload_n 2, 1) := by decide +kernel
theorem dX10_clash_36 : decode cX10_clash 36 = .ok (.iconst (-1), 1) := by decide +kernel
theorem dX10_clash_37 : decode cX10_clash 37 = .ok (.if_icmp .eq 25, 3) := by decide +kernel
theorem dX10_clash_40 : decode cX10_clash 40 = .ok (.aload_n 0, 1) := by decide +kernel
theorem dX10_clash_41 : decode cX10_clash 41 = .ok (.getfield 20, 3) := by decide +kernel
theorem dX10_clash_44 : decode cX10_clash 44 = .ok (.getfield 162, 3) := by decide +kernel
theorem dX10_clash_47 : decode cX10_clash 47 = .ok (.iload_n 2, 1) := by decide +kernel
theorem dX10_clash_48 : decode cX10_clash 48 = .ok (.invokevirtual 75, 3) := by decide +kernel
theorem dX10_clash_51 : decode cX10_clash 51 = .ok (.ifCond .eq 15, 3) := by decide +kernel
theorem dX10_clash_54 : decode cX10_clash 54 = .ok (.iload_n 1, 1) := by decide +kernel
theorem dX10_clash_55 : decode cX10_clash 55 = .ok (.iload_n 2, 1) := by decide +kernel
theorem dX10_clash_56 : decode cX10_clash 56 = .ok (.invokestatic 165, 3) := by decide +kernel
theorem dX10_clash_59 : decode cX10_clash 59 = .ok (.ifCond .eq 7, 3) := by decide +kernel
theorem dX10_clash_62 : decode cX10_clash 62 = .ok (.iconst 1, 1) := by decide +kernel
theorem dX10_clash_63 : decode cX10_clash 63 = .ok (.goto 4, 3) := by decide +kernel
theorem dX10_clash_66 : decode cX10_clash 66 = .ok (.iconst 0, 1) := by decide +kernel
theorem dX10_clash_67 : decode cX10_clash 67 = .ok (.istore 4, 2) := by decide +kernel
theorem dX10_clash_69 : decode cX10_clash 69 = .ok (.iload_n 3, 1) := by decide +kernel
theorem dX10_clash_70 : decode cX10_clash 70 = .ok (.ifCond .eq 8, 3) := by decide +kernel
theorem dX10_clash_73 : decode cX10_clash 73 = .ok (.iload 4, 2) := by decide +kernel
theorem dX10_clash_75 : decode cX10_clash 75 = .ok (.ifCond .ne 6, 3) := by decide +kernel
theorem dX10_clash_78 : decode cX10_clash 78 = .ok (.bipush (-10), 2) := by decide +kernel
theorem dX10_clash_80 : decode cX10_clash 80 = .ok (.ireturn, 1) := by decide +kernel
theorem dX10_clash_81 : decode cX10_clash 81 = .ok (.aload_n 0, 1) := by decide +kernel
theorem dX10_clash_82 : decode cX10_clash 82 = .ok (.getfield 48, 3) := by decide +kernel
theorem dX10_clash_85 : decode cX10_clash 85 = .ok (.aload_n 0, 1) := by decide +kernel
theorem dX10_clash_86 : decode cX10_clash 86 = .ok (.getfield 20, 3) := by decide +kernel
theorem dX10_clash_89 : decode cX10_clash 89 = .ok (.iload_n 1, 1) := by decide +kernel
theorem dX10_clash_90 : decode cX10_clash 90 = .ok (.invokevirtual 247, 3) := by decide +kernel
theorem dX10_clash_93 : decode cX10_clash 93 = .ok (.aload_n 0, 1) := by decide +kernel
theorem dX10_clash_94 : decode cX10_clash 94 = .ok (.getfield 48, 3) := by decide +kernel
theorem dX10_clash_97 : decode cX10_clash 97 = .ok (.getfield 251, 3) := by decide +kernel
theorem dX10_clash_100 : decode cX10_clash 100 = .ok (.iconst (-1), 1) := by decide +kernel
theorem dX10_clash_101 : decode cX10_clash 101 = .ok (.if_icmp .ne 6, 3) := by decide +kernel
theorem dX10_clash_104 : decode cX10_clash 104 = .ok (.bipush (-5), 2) := by decide +kernel
theorem dX10_clash_106 : decode cX10_clash 106 = .ok (.ireturn, 1) := by decide +kernel
theorem dX10_clash_107 : decode cX10_clash 107 = .ok (.iload_n 2, 1) := by decide +kernel
theorem dX10_clash_108 : decode cX10_clash 108 = .ok (.iconst (-1), 1) := by decide +kernel
theorem dX10_clash_109 : decode cX10_clash 109 = .ok (.if_icmp .ne 13, 3) := by decide +kernel
theorem dX10_clash_112 : decode cX10_clash 112 = .ok (.aload_n 0, 1) := by decide +kernel
theorem dX10_clash_113 : decode cX10_clash 113 = .ok (.getfield 48, 3) := by decide +kernel
theorem dX10_clash_116 : decode cX10_clash 116 = .ok (.getfield 251, 3) := by decide +kernel
theorem dX10_clash_119 : decode cX10_clash 119 = .ok (.goto 19, 3) := by decide +kernel
theorem dX10_clash_122 : decode cX10_clash 122 = .ok (.aload_n 0, 1) := by decide +kernel
theorem dX10_clash_123 : decode cX10_clash 123 = .ok (.getfield 48, 3) := by decide +kernel
theorem dX10_clash_126 : decode cX10_clash 126 = .ok (.iload_n 1, 1) := by decide +kernel
theorem dX10_clash_127 : decode cX10_clash 127 = .ok (.iload_n 2, 1) := by decide +kernel
theorem dX10_clash_128 : decode cX10_clash 128 = .ok (.invokestatic 244, 3) := by decide +kernel
theorem dX10_clash_131 : decode cX10_clash 131 = .ok (.iand, 1) := by decide +kernel
theorem dX10_clash_132 : decode cX10_clash 132 = .ok (.invokestatic 222, 3) := by decide +kernel
theorem dX10_clash_135 : decode cX10_clash 135 = .ok (.invokevirtual 254, 3) := by decide +kernel
theorem dX10_clash_138 : decode cX10_clash 138 = .ok (.ireturn, 1) := by decide +kernel
theorem dX10_turn_0 : decode cX10_turn 0 = .ok (.iload_n 1, 1) := by decide +kernel
theorem dX10_turn_1 : decode cX10_turn 1 = .ok (.iconst 0, 1) := by decide +kernel
theorem dX10_turn_2 : decode cX10_turn 2 = .ok (.iconst 3, 1) := by decide +kernel
theorem dX10_turn_3 : decode cX10_turn 3 = .ok (.invokestatic 53, 3) := by decide +kernel
theorem dX10_turn_6 : decode cX10_turn 6 = .ok (.ifCond .eq 10, 3) := by decide +kernel
theorem dX10_turn_9 : decode cX10_turn 9 = .ok (.iload_n 2, 1) := by decide +kernel
theorem dX10_turn_10 : decode cX10_turn 10 = .ok (.invokestatic 79, 3) := by decide +kernel
theorem dX10_turn_13 : decode cX10_turn 13 = .ok (.ifCond .ne 6, 3) := by decide +kernel
theorem dX10_turn_16 : decode cX10_turn 16 = .ok (.bipush (-2), 2) := by decide +kernel
theorem dX10_turn_18 : decode cX10_turn 18 = .ok (.ireturn, 1) := by decide +kernel
theorem dX10_turn_19 : decode cX10_turn 19 = .ok (.aload_n 0, 1) := by decide +kernel
theorem dX10_turn_20 : decode cX10_turn 20 = .ok (.getfield 12, 3) := by decide +kernel
theorem dX10_turn_23 : decode cX10_turn 23 = .ok (.invokevirtual 124, 3) := by decide +kernel
theorem dX10_turn_26 : decode cX10_turn 26 = .ok (.aload_n 0, 1) := by decide +kernel
theorem dX10_turn_27 : decode cX10_turn 27 = .ok (.getfield 20, 3) := by decide +kernel
theorem dX10_turn_30 : decode cX10_turn 30 = .ok (.iload_n 2, 1) := by decide +kernel
theorem dX10_turn_31 : decode cX10_turn 31 = .ok (.invokevirtual 91, 3) := by decide +kernel
theorem dX10_turn_34 : decode cX10_turn 34 = .ok (.aload_n 0, 1) := by decide +kernel
theorem dX10_turn_35 : decode cX10_turn 35 = .ok (.getfield 20, 3) := by decide +kernel
theorem dX10_turn_38 : decode cX10_turn 38 = .ok (.iconst 0, 1) := by decide +kernel
theorem dX10_turn_39 : decode cX10_turn 39 = .ok (.iload_n 1, 1) := by decide +kernel
theorem dX10_turn_40 : decode cX10_turn 40 = .ok (.invokevirtual 219, 3) := by decide +kernel
theorem dX10_turn_43 : decode cX10_turn 43 = .ok (.iand, 1) := by decide +kernel
theorem dX10_turn_44 : decode cX10_turn 44 = .ok (.istore_n 3, 1) := by decide +kernel
theorem dX10_turn_45 : decode cX10_turn 45 = .ok (.aload_n 0, 1) := by decide +kernel
theorem dX10_turn_46 : decode cX10_turn 46 = .ok (.getfield 12, 3) := by decide +kernel
theorem dX10_turn_49 : decode cX10_turn 49 = .ok (.aload_n 0, 1) := by decide +kernel
theorem dX10_turn_50 : decode cX10_turn 50 = .ok (.getfield 12, 3) := by decide +kernel
theorem dX10_turn_53 : decode cX10_turn 53 = .ok (.aload_n 0, 1) := by decide +kernel
theorem dX10_turn_54 : decode cX10_turn 54 = .ok (.getfield 20, 3) := by decide +kernel
theorem dX10_turn_57 : decode cX10_turn 57 = .ok (.iconst 0, 1) := by decide +kernel
theorem dX10_turn_58 : decode cX10_turn 58 = .ok (.iload_n 2, 1) := by decide +kernel
theorem dX10_turn_59 : decode cX10_turn 59 = .ok (.invokevirtual 151, 3) := by decide +kernel
theorem dX10_turn_62 : decode cX10_turn 62 = .ok (.iconst 0, 1) := by decide +kernel
theorem dX10_turn_63 : decode cX10_turn 63 = .ok (.iload_n 2, 1) := by decide +kernel
theorem dX10_turn_64 : decode cX10_turn 64 = .ok (.iload_n 3, 1) := by decide +kernel
theorem dX10_turn_65 : decode cX10_turn 65 = .ok (.invokevirtual 155, 3) := by decide +kernel
theorem dX10_turn_68 : decode cX10_turn 68 = .ok (.iload_n 2, 1) := by decide +kernel
theorem dX10_turn_69 : decode cX10_turn 69 = .ok (.invokevirtual 257, 3) := by decide +kernel
theorem dX10_turn_72 : decode cX10_turn 72 = .ok (.ireturn, 1) := by decide +kernel
theorem dX10_image_0 : decode cX10_image 0 = .ok (.iload_n 1, 1) := by decide +kernel
theorem dX10_image_1 : decode cX10_image 1 = .ok (.iconst 0, 1) := by decide +kernel
theorem dX10_image_2 : decode cX10_image 2 = .ok (.iconst 1, 1) := by decide +kernel
theorem dX10_image_3 : decode cX10_image 3 = .ok (.invokestatic 53, 3) := by decide +kernel
theorem dX10_image_6 : decode cX10_image 6 = .ok (.ifCond .ne 6, 3) := by decide +kernel
theorem dX10_image_9 : decode cX10_image 9 = .ok (.bipush (-2), 2) := by decide +kernel
theorem dX10_image_11 : decode cX10_image 11 = .ok (.ireturn, 1) := by decide +kernel
theorem dX10_image_12 : decode cX10_image 12 = .ok (.aload_n 0, 1) := by decide +kernel
theorem dX10_image_13 : decode cX10_image 13 = .ok (.getfield 23, 3) := by decide +kernel
theorem dX10_image_16 : decode cX10_image 16 = .ok (.iload_n 1, 1) := by decide +kernel
theorem dX10_image_17 : decode cX10_image 17 = .ok (.aaload, 1) := by decide +kernel
theorem dX10_image_18 : decode cX10_image 18 = .ok (.aload_n 0, 1) := by decide +kernel
theorem dX10_image_19 : decode cX10_image 19 = .ok (.getfield 20, 3) := by decide +kernel
theorem dX10_image_22 : decode cX10_image 22 = .ok (.invokevirtual 260, 3) := by decide +kernel
theorem dX10_image_25 : decode cX10_image 25 = .ok (.aload_n 0, 1) := by decide +kernel
theorem dX10_image_26 : decode cX10_image 26 = .ok (.getfield 27, 3) := by decide +kernel
theorem dX10_image_29 : decode cX10_image 29 = .ok (.iload_n 1, 1) := by decide +kernel
theorem dX10_image_30 : decode cX10_image 30 = .ok (.iconst 1, 1) := by decide +kernel
theorem dX10_image_31 : decode cX10_image 31 = .ok (.bastore, 1) := by decide +kernel
theorem dX10_image_32 : decode cX10_image 32 = .ok (.iconst 1, 1) := by decide +kernel
theorem dX10_image_33 : decode cX10_image 33 = .ok (.ireturn, 1) := by decide +kernel
theorem dX10_from_0 : decode cX10_from 0 = .ok (.iload_n 1, 1) := by decide +kernel
theorem dX10_from_1 : decode cX10_from 1 = .ok (.iconst 0, 1) := by decide +kernel
theorem dX10_from_2 : decode cX10_from 2 = .ok (.iconst 1, 1) := by decide +kernel
theorem dX10_from_3 : decode cX10_from 3 = .ok (.invokestatic 53, 3) := by decide +kernel
theorem dX10_from_6 : decode cX10_from 6 = .ok (.ifCond .ne 6, 3) := by decide +kernel
theorem dX10_from_9 : decode cX10_from 9 = .ok (.bipush (-2), 2) := by decide +kernel
theorem dX10_from_11 : decode cX10_from 11 = .ok (.ireturn, 1) := by decide +kernel
theorem dX10_from_12 : decode cX10_from 12 = .ok (.aload_n 0, 1) := by decide +kernel
theorem dX10_from_13 : decode cX10_from 13 = .ok (.getfield 27, 3) := by decide +kernel
theorem dX10_from_16 : decode cX10_from 16 = .ok (.iload_n 1, 1) := by decide +kernel
theorem dX10_from_17 : decode cX10_from 17 = .ok (.baload, 1) := by decide +kernel
theorem dX10_from_18 : decode cX10_from 18 = .ok (.ifCond .ne 6, 3) := by decide +kernel
theorem dX10_from_21 : decode cX10_from 21 = .ok (.bipush (-3), 2) := by decide +kernel
theorem dX10_from_23 : decode cX10_from 23 = .ok (.ireturn, 1) := by decide +kernel
theorem dX10_from_24 : decode cX10_from 24 = .ok (.aload_n 0, 1) := by decide +kernel
theorem dX10_from_25 : decode cX10_from 25 = .ok (.getfield 20, 3) := by decide +kernel
theorem dX10_from_28 : decode cX10_from 28 = .ok (.aload_n 0, 1) := by decide +kernel
theorem dX10_from_29 : decode cX10_from 29 = .ok (.getfield 23, 3) := by decide +kernel
theorem dX10_from_32 : decode cX10_from 32 = .ok (.iload_n 1, 1) := by decide +kernel
theorem dX10_from_33 : decode cX10_from 33 = .ok (.aaload, 1) := by decide +kernel
theorem dX10_from_34 : decode cX10_from 34 = .ok (.invokevirtual 260, 3) := by decide +kernel
theorem dX10_from_37 : decode cX10_from 37 = .ok (.aload_n 0, 1) := by decide +kernel
theorem dX10_from_38 : decode cX10_from 38 = .ok (.getfield 12, 3) := by decide +kernel
theorem dX10_from_41 : decode cX10_from 41 = .ok (.iconst 0, 1) := by decide +kernel
theorem dX10_from_42 : decode cX10_from 42 = .ok (.invokevirtual 71, 3) := by decide +kernel
theorem dX10_from_45 : decode cX10_from 45 = .ok (.iconst 1, 1) := by decide +kernel
theorem dX10_from_46 : decode cX10_from 46 = .ok (.ireturn, 1) := by decide +kernel
theorem dX10_count_0 : decode cX10_count 0 = .ok (.iload_n 1, 1) := by decide +kernel
theorem dX10_count_1 : decode cX10_count 1 = .ok (.iconst 0, 1) := by decide +kernel
theorem dX10_count_2 : decode cX10_count 2 = .ok (.iconst 5, 1) := by decide +kernel
theorem dX10_count_3 : decode cX10_count 3 = .ok (.invokestatic 53, 3) := by decide +kernel
theorem dX10_count_6 : decode cX10_count 6 = .ok (.ifCond .ne 6, 3) := by decide +kernel
theorem dX10_count_9 : decode cX10_count 9 = .ok (.bipush (-2), 2) := by decide +kernel
theorem dX10_count_11 : decode cX10_count 11 = .ok (.ireturn, 1) := by decide +kernel
theorem dX10_count_12 : decode cX10_count 12 = .ok (.aload_n 0, 1) := by decide +kernel
theorem dX10_count_13 : decode cX10_count 13 = .ok (.getfield 12, 3) := by decide +kernel
theorem dX10_count_16 : decode cX10_count 16 = .ok (.invokevirtual 124, 3) := by decide +kernel
theorem dX10_count_19 : decode cX10_count 19 = .ok (.aload_n 0, 1) := by decide +kernel
theorem dX10_count_20 : decode cX10_count 20 = .ok (.iload_n 1, 1) := by decide +kernel
theorem dX10_count_21 : decode cX10_count 21 = .ok (.invokevirtual 263, 3) := by decide +kernel
theorem dX10_count_24 : decode cX10_count 24 = .ok (.ireturn, 1) := by decide +kernel
theorem dX10_digest_0 : decode cX10_digest 0 = .ok (.aload_n 0, 1) := by decide +kernel
theorem dX10_digest_1 : decode cX10_digest 1 = .ok (.getfield 12, 3) := by decide +kernel
theorem dX10_digest_4 : decode cX10_digest 4 = .ok (.invokevirtual 124, 3) := by decide +kernel
theorem dX10_digest_7 : decode cX10_digest 7 = .ok (.ldc2_w 266, 3) := by decide +kernel
theorem dX10_digest_10 : decode cX10_digest 10 = .ok (.lstore_n 1, 1) := by decide +kernel
theorem dX10_digest_11 : decode cX10_digest 11 = .ok (.iconst 0, 1) := by decide +kernel
theorem dX10_digest_12 : decode cX10_digest 12 = .ok (.istore_n 3, 1) := by decide +kernel
theorem dX10_digest_13 : decode cX10_digest 13 = .ok (.iload_n 3, 1) := by decide +kernel
theorem dX10_digest_14 : decode cX10_digest 14 = .ok (.iconst 5, 1) := by decide +kernel
theorem dX10_digest_15 : decode cX10_digest 15 = .ok (.if_icmp .gt 22, 3) := by decide +kernel
theorem dX10_digest_18 : decode cX10_digest 18 = .ok (.ldc2_w 268, 3) := by decide +kernel
theorem dX10_digest_21 : decode cX10_digest 21 = .ok (.lload_n 1, 1) := by decide +kernel
theorem dX10_digest_22 : decode cX10_digest 22 = .ok (.lmul, 1) := by decide +kernel
theorem dX10_digest_23 : decode cX10_digest 23 = .ok (.aload_n 0, 1) := by decide +kernel
theorem dX10_digest_24 : decode cX10_digest 24 = .ok (.iload_n 3, 1) := by decide +kernel
theorem dX10_digest_25 : decode cX10_digest 25 = .ok (.invokevirtual 263, 3) := by decide +kernel
theorem dX10_digest_28 : decode cX10_digest 28 = .ok (.i2l, 1) := by decide +kernel
theorem dX10_digest_29 : decode cX10_digest 29 = .ok (.ladd, 1) := by decide +kernel
theorem dX10_digest_30 : decode cX10_digest 30 = .ok (.lstore_n 1, 1) := by decide +kernel
theorem dX10_digest_31 : decode cX10_digest 31 = .ok (.iinc 3 1, 3) := by decide +kernel
theorem dX10_digest_34 : decode cX10_digest 34 = .ok (.goto (-21), 3) := by decide +kernel
theorem dX10_digest_37 : decode cX10_digest 37 = .ok (.aload_n 0, 1) := by decide +kernel
theorem dX10_digest_38 : decode cX10_digest 38 = .ok (.getfield 20, 3) := by decide +kernel
theorem dX10_digest_41 : decode cX10_digest 41 = .ok (.getfield 57, 3) := by decide +kernel
theorem dX10_digest_44 : decode cX10_digest 44 = .ok (.lload_n 1, 1) := by decide +kernel
theorem dX10_digest_45 : decode cX10_digest 45 = .ok (.invokevirtual 270, 3) := by decide +kernel
theorem dX10_digest_48 : decode cX10_digest 48 = .ok (.lstore_n 1, 1) := by decide +kernel
theorem dX10_digest_49 : decode cX10_digest 49 = .ok (.aload_n 0, 1) := by decide +kernel
theorem dX10_digest_50 : decode cX10_digest 50 = .ok (.getfield 20, 3) := by decide +kernel
theorem dX10_digest_53 : decode cX10_digest 53 = .ok (.getfield 82, 3) := by decide +kernel
theorem dX10_digest_56 : decode cX10_digest 56 = .ok (.lload_n 1, 1) := by decide +kernel
theorem dX10_digest_57 : decode cX10_digest 57 = .ok (.invokevirtual 270, 3) := by decide +kernel
theorem dX10_digest_60 : decode cX10_digest 60 = .ok (.lstore_n 1, 1) := by decide +kernel
theorem dX10_digest_61 : decode cX10_digest 61 = .ok (.aload_n 0, 1) := by decide +kernel
theorem dX10_digest_62 : decode cX10_digest 62 = .ok (.getfield 20, 3) := by decide +kernel
theorem dX10_digest_65 : decode cX10_digest 65 = .ok (.getfield 88, 3) := by decide +kernel
theorem dX10_digest_68 : decode cX10_digest 68 = .ok (.lload_n 1, 1) := by decide +kernel
theorem dX10_digest_69 : decode cX10_digest 69 = .ok (.invokevirtual 270, 3) := by decide +kernel
theorem dX10_digest_72 : decode cX10_digest 72 = .ok (.lstore_n 1, 1) := by decide +kernel
theorem dX10_digest_73 : decode cX10_digest 73 = .ok (.iconst 0, 1) := by decide +kernel
theorem dX10_digest_74 : decode cX10_digest 74 = .ok (.istore_n 3, 1) := by decide +kernel
theorem dX10_digest_75 : decode cX10_digest 75 = .ok (.iload_n 3, 1) := by decide +kernel
theorem dX10_digest_76 : decode cX10_digest 76 = .ok (.aload_n 0, 1) := by decide +kernel
theorem dX10_digest_77 : decode cX10_digest 77 = .ok (.getfield 20, 3) := by decide +kernel
theorem dX10_digest_80 : decode cX10_digest 80 = .ok (.getfield 134, 3) := by decide +kernel
theorem dX10_digest_83 : decode cX10_digest 83 = .ok (.invokevirtual 195, 3) := by decide +kernel
theorem dX10_digest_86 : decode cX10_digest 86 = .ok (.if_icmp .ge 36, 3) := by decide +kernel
theorem dX10_digest_89 : decode cX10_digest 89 = .ok (.aload_n 0, 1) := by decide +kernel
theorem dX10_digest_90 : decode cX10_digest 90 = .ok (.getfield 20, 3) := by decide +kernel
theorem dX10_digest_93 : decode cX10_digest 93 = .ok (.getfield 137, 3) := by decide +kernel
theorem dX10_digest_96 : decode cX10_digest 96 = .ok (.iload_n 3, 1) := by decide +kernel
theorem dX10_digest_97 : decode cX10_digest 97 = .ok (.invokevirtual 102, 3) := by decide +kernel
theorem dX10_digest_100 : decode cX10_digest 100 = .ok (.aload_n 0, 1) := by decide +kernel
theorem dX10_digest_101 : decode cX10_digest 101 = .ok (.getfield 20, 3) := by decide +kernel
theorem dX10_digest_104 : decode cX10_digest 104 = .ok (.getfield 134, 3) := by decide +kernel
theorem dX10_digest_107 : decode cX10_digest 107 = .ok (.lload_n 1, 1) := by decide +kernel
theorem dX10_digest_108 : decode cX10_digest 108 = .ok (.iload_n 3, 1) := by decide +kernel
theorem dX10_digest_109 : decode cX10_digest 109 = .ok (.invokevirtual 274, 3) := by decide +kernel
theorem dX10_digest_112 : decode cX10_digest 112 = .ok (.invokevirtual 278, 3) := by decide +kernel
theorem dX10_digest_115 : decode cX10_digest 115 = .ok (.lstore_n 1, 1) := by decide +kernel
theorem dX10_digest_116 : decode cX10_digest 116 = .ok (.iinc 3 1, 3) := by decide +kernel
theorem dX10_digest_119 : decode cX10_digest 119 = .ok (.goto (-44), 3) := by decide +kernel
theorem dX10_digest_122 : decode cX10_digest 122 = .ok (.iconst 0, 1) := by decide +kernel
theorem dX10_digest_123 : decode cX10_digest 123 = .ok (.istore_n 3, 1) := by decide +kernel
theorem dX10_digest_124 : decode cX10_digest 124 = .ok (.iload_n 3, 1) := by decide +kernel
theorem dX10_digest_125 : decode cX10_digest 125 = .ok (.aload_n 0, 1) := by decide +kernel
theorem dX10_digest_126 : decode cX10_digest 126 = .ok (.getfield 20, 3) := by decide +kernel
theorem dX10_digest_129 : decode cX10_digest 129 = .ok (.getfield 162, 3) := by decide +kernel
theorem dX10_digest_132 : decode cX10_digest 132 = .ok (.invokevirtual 195, 3) := by decide +kernel
theorem dX10_digest_135 : decode cX10_digest 135 = .ok (.if_icmp .ge 22, 3) := by decide +kernel
theorem dX10_digest_138 : decode cX10_digest 138 = .ok (.aload_n 0, 1) := by decide +kernel
theorem dX10_digest_139 : decode cX10_digest 139 = .ok (.getfield 12, 3) := by decide +kernel
theorem dX10_digest_142 : decode cX10_digest 142 = .ok (.iload_n 3, 1) := by decide +kernel
theorem dX10_digest_143 : decode cX10_digest 143 = .ok (.invokevirtual 172, 3) := by decide +kernel
theorem dX10_digest_146 : decode cX10_digest 146 = .ok (.lload_n 1, 1) := by decide +kernel
theorem dX10_digest_147 : decode cX10_digest 147 = .ok (.invokevirtual 281, 3) := by decide +kernel
theorem dX10_digest_150 : decode cX10_digest 150 = .ok (.lstore_n 1, 1) := by decide +kernel
theorem dX10_digest_151 : decode cX10_digest 151 = .ok (.iinc 3 1, 3) := by decide +kernel
theorem dX10_digest_154 : decode cX10_digest 154 = .ok (.goto (-30), 3) := by decide +kernel
theorem dX10_digest_157 : decode cX10_digest 157 = .ok (.iconst 0, 1) := by decide +kernel
theorem dX10_digest_158 : decode cX10_digest 158 = .ok (.istore_n 3, 1) := by decide +kernel
theorem dX10_digest_159 : decode cX10_digest 159 = .ok (.iload_n 3, 1) := by decide +kernel
theorem dX10_digest_160 : decode cX10_digest 160 = .ok (.iconst 4, 1) := by decide +kernel
theorem dX10_digest_161 : decode cX10_digest 161 = .ok (.if_icmp .ge 25, 3) := by decide +kernel
theorem dX10_digest_164 : decode cX10_digest 164 = .ok (.aload_n 0, 1) := by decide +kernel
theorem dX10_digest_165 : decode cX10_digest 165 = .ok (.getfield 20, 3) := by decide +kernel
theorem dX10_digest_168 : decode cX10_digest 168 = .ok (.getfield 98, 3) := by decide +kernel
theorem dX10_digest_171 : decode cX10_digest 171 = .ok (.iload_n 3, 1) := by decide +kernel
theorem dX10_digest_172 : decode cX10_digest 172 = .ok (.invokevirtual 102, 3) := by decide +kernel
theorem dX10_digest_175 : decode cX10_digest 175 = .ok (.lload_n 1, 1) := by decide +kernel
theorem dX10_digest_176 : decode cX10_digest 176 = .ok (.invokevirtual 278, 3) := by decide +kernel
theorem dX10_digest_179 : decode cX10_digest 179 = .ok (.lstore_n 1, 1) := by decide +kernel
theorem dX10_digest_180 : decode cX10_digest 180 = .ok (.iinc 3 1, 3) := by decide +kernel
theorem dX10_digest_183 : decode cX10_digest 183 = .ok (.goto (-24), 3) := by decide +kernel
theorem dX10_digest_186 : decode cX10_digest 186 = .ok (.ldc2_w 268, 3) := by decide +kernel
theorem dX10_digest_189 : decode cX10_digest 189 = .ok (.lload_n 1, 1) := by decide +kernel
theorem dX10_digest_190 : decode cX10_digest 190 = .ok (.lmul, 1) := by decide +kernel
theorem dX10_digest_191 : decode cX10_digest 191 = .ok (.aload_n 0, 1) := by decide +kernel
theorem dX10_digest_192 : decode cX10_digest 192 = .ok (.getfield 20, 3) := by decide +kernel
theorem dX10_digest_195 : decode cX10_digest 195 = .ok (.getfield 201, 3) := by decide +kernel
theorem dX10_digest_198 : decode cX10_digest 198 = .ok (.i2l, 1) := by decide +kernel
theorem dX10_digest_199 : decode cX10_digest 199 = .ok (.ladd, 1) := by decide +kernel
theorem dX10_digest_200 : decode cX10_digest 200 = .ok (.lstore_n 1, 1) := by decide +kernel
theorem dX10_digest_201 : decode cX10_digest 201 = .ok (.ldc2_w 268, 3) := by decide +kernel
theorem dX10_digest_204 : decode cX10_digest 204 = .ok (.lload_n 1, 1) := by decide +kernel
theorem dX10_digest_205 : decode cX10_digest 205 = .ok (.lmul, 1) := by decide +kernel
theorem dX10_digest_206 : decode cX10_digest 206 = .ok (.aload_n 0, 1) := by decide +kernel
theorem dX10_digest_207 : decode cX10_digest 207 = .ok (.getfield 20, 3) := by decide +kernel
theorem dX10_digest_210 : decode cX10_digest 210 = .ok (.getfield 204, 3) := by decide +kernel
theorem dX10_digest_213 : decode cX10_digest 213 = .ok (.i2l, 1) := by decide +kernel
theorem dX10_digest_214 : decode cX10_digest 214 = .ok (.ladd, 1) := by decide +kernel
theorem dX10_digest_215 : decode cX10_digest 215 = .ok (.lstore_n 1, 1) := by decide +kernel
theorem dX10_digest_216 : decode cX10_digest 216 = .ok (.ldc2_w 268, 3) := by decide +kernel
theorem dX10_digest_219 : decode cX10_digest 219 = .ok (.lload_n 1, 1) := by decide +kernel
theorem dX10_digest_220 : decode cX10_digest 220 = .ok (.lmul, 1) := by decide +kernel
theorem dX10_digest_221 : decode cX10_digest 221 = .ok (.aload_n 0, 1) := by decide +kernel
theorem dX10_digest_222 : decode cX10_digest 222 = .ok (.getfield 41, 3) := by decide +kernel
theorem dX10_digest_225 : decode cX10_digest 225 = .ok (.getfield 227, 3) := by decide +kernel
theorem dX10_digest_228 : decode cX10_digest 228 = .ok (.ladd, 1) := by decide +kernel
theorem dX10_digest_229 : decode cX10_digest 229 = .ok (.lstore_n 1, 1) := by decide +kernel
theorem dX10_digest_230 : decode cX10_digest 230 = .ok (.ldc2_w 268, 3) := by decide +kernel
theorem dX10_digest_233 : decode cX10_digest 233 = .ok (.lload_n 1, 1) := by decide +kernel
theorem dX10_digest_234 : decode cX10_digest 234 = .ok (.lmul, 1) := by decide +kernel
theorem dX10_digest_235 : decode cX10_digest 235 = .ok (.aload_n 0, 1) := by decide +kernel
theorem dX10_digest_236 : decode cX10_digest 236 = .ok (.getfield 41, 3) := by decide +kernel
theorem dX10_digest_239 : decode cX10_digest 239 = .ok (.getfield 231, 3) := by decide +kernel
theorem dX10_digest_242 : decode cX10_digest 242 = .ok (.ladd, 1) := by decide +kernel
theorem dX10_digest_243 : decode cX10_digest 243 = .ok (.lreturn, 1) := by decide +kernel
theorem dX10_howMany_0 : decode cX10_howMany 0 = .ok (.iload_n 1, 1) := by decide +kernel
theorem dX10_howMany_1 : decode cX10_howMany 1 = .ok (.tableswitch 90 0 4 #[35, 46, 57, 68, 79], 35) := by decide +kernel
theorem dX10_howMany_36 : decode cX10_howMany 36 = .ok (.aload_n 0, 1) := by decide +kernel
theorem dX10_howMany_37 : decode cX10_howMany 37 = .ok (.getfield 20, 3) := by decide +kernel
theorem dX10_howMany_40 : decode cX10_howMany 40 = .ok (.getfield 57, 3) := by decide +kernel
theorem dX10_howMany_43 : decode cX10_howMany 43 = .ok (.invokevirtual 195, 3) := by decide +kernel
theorem dX10_howMany_46 : decode cX10_howMany 46 = .ok (.ireturn, 1) := by decide +kernel
theorem dX10_howMany_47 : decode cX10_howMany 47 = .ok (.aload_n 0, 1) := by decide +kernel
theorem dX10_howMany_48 : decode cX10_howMany 48 = .ok (.getfield 20, 3) := by decide +kernel
theorem dX10_howMany_51 : decode cX10_howMany 51 = .ok (.getfield 82, 3) := by decide +kernel
theorem dX10_howMany_54 : decode cX10_howMany 54 = .ok (.invokevirtual 195, 3) := by decide +kernel
theorem dX10_howMany_57 : decode cX10_howMany 57 = .ok (.ireturn, 1) := by decide +kernel
theorem dX10_howMany_58 : decode cX10_howMany 58 = .ok (.aload_n 0, 1) := by decide +kernel
theorem dX10_howMany_59 : decode cX10_howMany 59 = .ok (.getfield 20, 3) := by decide +kernel
theorem dX10_howMany_62 : decode cX10_howMany 62 = .ok (.getfield 88, 3) := by decide +kernel
theorem dX10_howMany_65 : decode cX10_howMany 65 = .ok (.invokevirtual 195, 3) := by decide +kernel
theorem dX10_howMany_68 : decode cX10_howMany 68 = .ok (.ireturn, 1) := by decide +kernel
theorem dX10_howMany_69 : decode cX10_howMany 69 = .ok (.aload_n 0, 1) := by decide +kernel
theorem dX10_howMany_70 : decode cX10_howMany 70 = .ok (.getfield 20, 3) := by decide +kernel
theorem dX10_howMany_73 : decode cX10_howMany 73 = .ok (.getfield 134, 3) := by decide +kernel
theorem dX10_howMany_76 : decode cX10_howMany 76 = .ok (.invokevirtual 195, 3) := by decide +kernel
theorem dX10_howMany_79 : decode cX10_howMany 79 = .ok (.ireturn, 1) := by decide +kernel
theorem dX10_howMany_80 : decode cX10_howMany 80 = .ok (.aload_n 0, 1) := by decide +kernel
theorem dX10_howMany_81 : decode cX10_howMany 81 = .ok (.getfield 20, 3) := by decide +kernel
theorem dX10_howMany_84 : decode cX10_howMany 84 = .ok (.getfield 162, 3) := by decide +kernel
theorem dX10_howMany_87 : decode cX10_howMany 87 = .ok (.invokevirtual 195, 3) := by decide +kernel
theorem dX10_howMany_90 : decode cX10_howMany 90 = .ok (.ireturn, 1) := by decide +kernel
theorem dX10_howMany_91 : decode cX10_howMany 91 = .ok (.aload_n 0, 1) := by decide +kernel
theorem dX10_howMany_92 : decode cX10_howMany 92 = .ok (.getfield 12, 3) := by decide +kernel
theorem dX10_howMany_95 : decode cX10_howMany 95 = .ok (.invokevirtual 282, 3) := by decide +kernel
theorem dX10_howMany_98 : decode cX10_howMany 98 = .ok (.ireturn, 1) := by decide +kernel
theorem dX10_isNextDay_0 : decode cX10_isNextDay 0 = .ok (.aload_n 0, 1) := by decide +kernel
theorem dX10_isNextDay_1 : decode cX10_isNextDay 1 = .ok (.getfield 20, 3) := by decide +kernel
theorem dX10_isNextDay_4 : decode cX10_isNextDay 4 = .ok (.getfield 162, 3) := by decide +kernel
theorem dX10_isNextDay_7 : decode cX10_isNextDay 7 = .ok (.invokevirtual 195, 3) := by decide +kernel
theorem dX10_isNextDay_10 : decode cX10_isNextDay 10 = .ok (.istore_n 2, 1) := by decide +kernel
theorem dX10_isNextDay_11 : decode cX10_isNextDay 11 = .ok (.iload_n 1, 1) := by decide +kernel
theorem dX10_isNextDay_12 : decode cX10_isNextDay 12 = .ok (.invokestatic 79, 3) := by decide +kernel
theorem dX10_isNextDay_15 : decode cX10_isNextDay 15 = .ok (.ifCond .eq 29, 3) := by decide +kernel
theorem dX10_isNextDay_18 : decode cX10_isNextDay 18 = .ok (.iload_n 2, 1) := by decide +kernel
theorem dX10_isNextDay_19 : decode cX10_isNextDay 19 = .ok (.ifCond .eq 21, 3) := by decide +kernel
theorem dX10_isNextDay_22 : decode cX10_isNextDay 22 = .ok (.iload_n 1, 1) := by decide +kernel
theorem dX10_isNextDay_23 : decode cX10_isNextDay 23 = .ok (.aload_n 0, 1) := by decide +kernel
theorem dX10_isNextDay_24 : decode cX10_isNextDay 24 = .ok (.getfield 20, 3) := by decide +kernel
theorem dX10_isNextDay_27 : decode cX10_isNextDay 27 = .ok (.getfield 162, 3) := by decide +kernel
theorem dX10_isNextDay_30 : decode cX10_isNextDay 30 = .ok (.iload_n 2, 1) := by decide +kernel
theorem dX10_isNextDay_31 : decode cX10_isNextDay 31 = .ok (.iconst 1, 1) := by decide +kernel
theorem dX10_isNextDay_32 : decode cX10_isNextDay 32 = .ok (.isub, 1) := by decide +kernel
theorem dX10_isNextDay_33 : decode cX10_isNextDay 33 = .ok (.iconst 0, 1) := by decide +kernel
theorem dX10_isNextDay_34 : decode cX10_isNextDay 34 = .ok (.invokevirtual 144, 3) := by decide +kernel
theorem dX10_isNextDay_37 : decode cX10_isNextDay 37 = .ok (.if_icmp .lt 7, 3) := by decide +kernel
theorem dX10_isNextDay_40 : decode cX10_isNextDay 40 = .ok (.iconst 1, 1) := by decide +kernel
theorem dX10_isNextDay_41 : decode cX10_isNextDay 41 = .ok (.goto 4, 3) := by decide +kernel
theorem dX10_isNextDay_44 : decode cX10_isNextDay 44 = .ok (.iconst 0, 1) := by decide +kernel
theorem dX10_isNextDay_45 : decode cX10_isNextDay 45 = .ok (.ireturn, 1) := by decide +kernel
theorem dX10_within_0 : decode cX10_within 0 = .ok (.iload_n 0, 1) := by decide +kernel
theorem dX10_within_1 : decode cX10_within 1 = .ok (.iload_n 1, 1) := by decide +kernel
theorem dX10_within_2 : decode cX10_within 2 = .ok (.if_icmp .lt 12, 3) := by decide +kernel
theorem dX10_within_5 : decode cX10_within 5 = .ok (.iload_n 0, 1) := by decide +kernel
theorem dX10_within_6 : decode cX10_within 6 = .ok (.iload_n 2, 1) := by decide +kernel
theorem dX10_within_7 : decode cX10_within 7 = .ok (.if_icmp .gt 7, 3) := by decide +kernel
theorem dX10_within_10 : decode cX10_within 10 = .ok (.iconst 1, 1) := by decide +kernel
theorem dX10_within_11 : decode cX10_within 11 = .ok (.goto 4, 3) := by decide +kernel
theorem dX10_within_14 : decode cX10_within 14 = .ok (.iconst 0, 1) := by decide +kernel
theorem dX10_within_15 : decode cX10_within 15 = .ok (.ireturn, 1) := by decide +kernel
theorem dX10_isDay_0 : decode cX10_isDay 0 = .ok (.iload_n 0, 1) := by decide +kernel
theorem dX10_isDay_1 : decode cX10_isDay 1 = .ok (.iconst 0, 1) := by decide +kernel
theorem dX10_isDay_2 : decode cX10_isDay 2 = .ok (.sipush 9999, 3) := by decide +kernel
theorem dX10_isDay_5 : decode cX10_isDay 5 = .ok (.invokestatic 53, 3) := by decide +kernel
theorem dX10_isDay_8 : decode cX10_isDay 8 = .ok (.ireturn, 1) := by decide +kernel
theorem dX10_isText_0 : decode cX10_isText 0 = .ok (.iload_n 0, 1) := by decide +kernel
theorem dX10_isText_1 : decode cX10_isText 1 = .ok (.iconst 0, 1) := by decide +kernel
theorem dX10_isText_2 : decode cX10_isText 2 = .ok (.iconst 3, 1) := by decide +kernel
theorem dX10_isText_3 : decode cX10_isText 3 = .ok (.invokestatic 53, 3) := by decide +kernel
theorem dX10_isText_6 : decode cX10_isText 6 = .ok (.ireturn, 1) := by decide +kernel
theorem dX10_isSort_0 : decode cX10_isSort 0 = .ok (.iload_n 0, 1) := by decide +kernel
theorem dX10_isSort_1 : decode cX10_isSort 1 = .ok (.ifCond .eq 8, 3) := by decide +kernel
theorem dX10_isSort_4 : decode cX10_isSort 4 = .ok (.iload_n 0, 1) := by decide +kernel
theorem dX10_isSort_5 : decode cX10_isSort 5 = .ok (.iconst 1, 1) := by decide +kernel
theorem dX10_isSort_6 : decode cX10_isSort 6 = .ok (.if_icmp .ne 7, 3) := by decide +kernel
theorem dX10_isSort_9 : decode cX10_isSort 9 = .ok (.iconst 1, 1) := by decide +kernel
theorem dX10_isSort_10 : decode cX10_isSort 10 = .ok (.goto 4, 3) := by decide +kernel
theorem dX10_isSort_13 : decode cX10_isSort 13 = .ok (.iconst 0, 1) := by decide +kernel
theorem dX10_isSort_14 : decode cX10_isSort 14 = .ok (.ireturn, 1) := by decide +kernel
theorem dX10_yearOf_0 : decode cX10_yearOf 0 = .ok (.bipush 100, 2) := by decide +kernel
theorem dX10_yearOf_2 : decode cX10_yearOf 2 = .ok (.iload_n 0, 1) := by decide +kernel
theorem dX10_yearOf_3 : decode cX10_yearOf 3 = .ok (.bipush 100, 2) := by decide +kernel
theorem dX10_yearOf_5 : decode cX10_yearOf 5 = .ok (.idiv, 1) := by decide +kernel
theorem dX10_yearOf_6 : decode cX10_yearOf 6 = .ok (.iadd, 1) := by decide +kernel
theorem dX10_yearOf_7 : decode cX10_yearOf 7 = .ok (.ireturn, 1) := by decide +kernel
theorem dX10_hasBit_0 : decode cX10_hasBit 0 = .ok (.iload_n 0, 1) := by decide +kernel
theorem dX10_hasBit_1 : decode cX10_hasBit 1 = .ok (.iconst 1, 1) := by decide +kernel
theorem dX10_hasBit_2 : decode cX10_hasBit 2 = .ok (.iload_n 1, 1) := by decide +kernel
theorem dX10_hasBit_3 : decode cX10_hasBit 3 = .ok (.ishl, 1) := by decide +kernel
theorem dX10_hasBit_4 : decode cX10_hasBit 4 = .ok (.iand, 1) := by decide +kernel
theorem dX10_hasBit_5 : decode cX10_hasBit 5 = .ok (.ifCond .eq 7, 3) := by decide +kernel
theorem dX10_hasBit_8 : decode cX10_hasBit 8 = .ok (.iconst 1, 1) := by decide +kernel
theorem dX10_hasBit_9 : decode cX10_hasBit 9 = .ok (.goto 4, 3) := by decide +kernel
theorem dX10_hasBit_12 : decode cX10_hasBit 12 = .ok (.iconst 0, 1) := by decide +kernel
theorem dX10_hasBit_13 : decode cX10_hasBit 13 = .ok (.ireturn, 1) := by decide +kernel
theorem dX10_lowBits_0 : decode cX10_lowBits 0 = .ok (.iconst 1, 1) := by decide +kernel
theorem dX10_lowBits_1 : decode cX10_lowBits 1 = .ok (.iload_n 0, 1) := by decide +kernel
theorem dX10_lowBits_2 : decode cX10_lowBits 2 = .ok (.ishl, 1) := by decide +kernel
theorem dX10_lowBits_3 : decode cX10_lowBits 3 = .ok (.iconst 1, 1) := by decide +kernel
theorem dX10_lowBits_4 : decode cX10_lowBits 4 = .ok (.isub, 1) := by decide +kernel
theorem dX10_lowBits_5 : decode cX10_lowBits 5 = .ok (.ireturn, 1) := by decide +kernel
theorem dX10_likesColumn_0 : decode cX10_likesColumn 0 = .ok (.bipush 10, 2) := by decide +kernel
theorem dX10_likesColumn_2 : decode cX10_likesColumn 2 = .ok (.iload_n 0, 1) := by decide +kernel
theorem dX10_likesColumn_3 : decode cX10_likesColumn 3 = .ok (.bipush 30, 2) := by decide +kernel
theorem dX10_likesColumn_5 : decode cX10_likesColumn 5 = .ok (.imul, 1) := by decide +kernel
theorem dX10_likesColumn_6 : decode cX10_likesColumn 6 = .ok (.iadd, 1) := by decide +kernel
theorem dX10_likesColumn_7 : decode cX10_likesColumn 7 = .ok (.iload_n 1, 1) := by decide +kernel
theorem dX10_likesColumn_8 : decode cX10_likesColumn 8 = .ok (.iadd, 1) := by decide +kernel
theorem dX10_likesColumn_9 : decode cX10_likesColumn 9 = .ok (.ireturn, 1) := by decide +kernel
theorem dX10_ways_0 : decode cX10_ways 0 = .ok (.iload_n 1, 1) := by decide +kernel
theorem dX10_ways_1 : decode cX10_ways 1 = .ok (.ifCond .lt 8, 3) := by decide +kernel
theorem dX10_ways_4 : decode cX10_ways 4 = .ok (.iload_n 1, 1) := by decide +kernel
theorem dX10_ways_5 : decode cX10_ways 5 = .ok (.iload_n 0, 1) := by decide +kernel
theorem dX10_ways_6 : decode cX10_ways 6 = .ok (.if_icmp .le 5, 3) := by decide +kernel
theorem dX10_ways_9 : decode cX10_ways 9 = .ok (.lconst 0, 1) := by decide +kernel
theorem dX10_ways_10 : decode cX10_ways 10 = .ok (.lreturn, 1) := by decide +kernel
theorem dX10_ways_11 : decode cX10_ways 11 = .ok (.lconst 1, 1) := by decide +kernel
theorem dX10_ways_12 : decode cX10_ways 12 = .ok (.lstore_n 2, 1) := by decide +kernel
theorem dX10_ways_13 : decode cX10_ways 13 = .ok (.iconst 1, 1) := by decide +kernel
theorem dX10_ways_14 : decode cX10_ways 14 = .ok (.istore 4, 2) := by decide +kernel
theorem dX10_ways_16 : decode cX10_ways 16 = .ok (.iload 4, 2) := by decide +kernel
theorem dX10_ways_18 : decode cX10_ways 18 = .ok (.iload_n 1, 1) := by decide +kernel
theorem dX10_ways_19 : decode cX10_ways 19 = .ok (.if_icmp .gt 23, 3) := by decide +kernel
theorem dX10_ways_22 : decode cX10_ways 22 = .ok (.lload_n 2, 1) := by decide +kernel
theorem dX10_ways_23 : decode cX10_ways 23 = .ok (.iload_n 0, 1) := by decide +kernel
theorem dX10_ways_24 : decode cX10_ways 24 = .ok (.iload_n 1, 1) := by decide +kernel
theorem dX10_ways_25 : decode cX10_ways 25 = .ok (.isub, 1) := by decide +kernel
theorem dX10_ways_26 : decode cX10_ways 26 = .ok (.iload 4, 2) := by decide +kernel
theorem dX10_ways_28 : decode cX10_ways 28 = .ok (.iadd, 1) := by decide +kernel
theorem dX10_ways_29 : decode cX10_ways 29 = .ok (.i2l, 1) := by decide +kernel
theorem dX10_ways_30 : decode cX10_ways 30 = .ok (.lmul, 1) := by decide +kernel
theorem dX10_ways_31 : decode cX10_ways 31 = .ok (.iload 4, 2) := by decide +kernel
theorem dX10_ways_33 : decode cX10_ways 33 = .ok (.i2l, 1) := by decide +kernel
theorem dX10_ways_34 : decode cX10_ways 34 = .ok (.ldiv, 1) := by decide +kernel
theorem dX10_ways_35 : decode cX10_ways 35 = .ok (.lstore_n 2, 1) := by decide +kernel
theorem dX10_ways_36 : decode cX10_ways 36 = .ok (.iinc 4 1, 3) := by decide +kernel
theorem dX10_ways_39 : decode cX10_ways 39 = .ok (.goto (-23), 3) := by decide +kernel
theorem dX10_ways_42 : decode cX10_ways 42 = .ok (.lload_n 2, 1) := by decide +kernel
theorem dX10_ways_43 : decode cX10_ways 43 = .ok (.lreturn, 1) := by decide +kernel
theorem dX11_in_0 : decode cX11_in 0 = .ok (.lload_n 0, 1) := by decide +kernel
theorem dX11_in_1 : decode cX11_in 1 = .ok (.lload_n 2, 1) := by decide +kernel
theorem dX11_in_2 : decode cX11_in 2 = .ok (.lcmp, 1) := by decide +kernel
theorem dX11_in_3 : decode cX11_in 3 = .ok (.ifCond .lt 14, 3) := by decide +kernel
theorem dX11_in_6 : decode cX11_in 6 = .ok (.lload_n 0, 1) := by decide +kernel
theorem dX11_in_7 : decode cX11_in 7 = .ok (.lload 4, 2) := by decide +kernel
theorem dX11_in_9 : decode cX11_in 9 = .ok (.lcmp, 1) := by decide +kernel
theorem dX11_in_10 : decode cX11_in 10 = .ok (.ifCond .gt 7, 3) := by decide +kernel
theorem dX11_in_13 : decode cX11_in 13 = .ok (.iconst 1, 1) := by decide +kernel
theorem dX11_in_14 : decode cX11_in 14 = .ok (.goto 4, 3) := by decide +kernel
theorem dX11_in_17 : decode cX11_in 17 = .ok (.iconst 0, 1) := by decide +kernel
theorem dX11_in_18 : decode cX11_in 18 = .ok (.ireturn, 1) := by decide +kernel
theorem dX11_init_0 : decode cX11_init 0 = .ok (.aload_n 0, 1) := by decide +kernel
theorem dX11_init_1 : decode cX11_init 1 = .ok (.invokespecial 1, 3) := by decide +kernel
theorem dX11_init_4 : decode cX11_init 4 = .ok (.aload_n 0, 1) := by decide +kernel
theorem dX11_init_5 : decode cX11_init 5 = .ok (.sipush 2246, 3) := by decide +kernel
theorem dX11_init_8 : decode cX11_init 8 = .ok (.newarray .int, 2) := by decide +kernel
theorem dX11_init_10 : decode cX11_init 10 = .ok (.putfield 7, 3) := by decide +kernel
theorem dX11_init_13 : decode cX11_init 13 = .ok (.aload_n 0, 1) := by decide +kernel
theorem dX11_init_14 : decode cX11_init 14 = .ok (.sipush 4492, 3) := by decide +kernel
theorem dX11_init_17 : decode cX11_init 17 = .ok (.newarray .int, 2) := by decide +kernel
theorem dX11_init_19 : decode cX11_init 19 = .ok (.putfield 13, 3) := by decide +kernel
theorem dX11_init_22 : decode cX11_init 22 = .ok (.aload_n 0, 1) := by decide +kernel
theorem dX11_init_23 : decode cX11_init 23 = .ok (.iconst 2, 1) := by decide +kernel
theorem dX11_init_24 : decode cX11_init 24 = .ok (.newarray .boolean, 2) := by decide +kernel
theorem dX11_init_26 : decode cX11_init 26 = .ok (.putfield 16, 3) := by decide +kernel
theorem dX11_init_29 : decode cX11_init 29 = .ok (.aload_n 0, 1) := by decide +kernel
theorem dX11_init_30 : decode cX11_init 30 = .ok (.bipush 70, 2) := by decide +kernel
theorem dX11_init_32 : decode cX11_init 32 = .ok (.newarray .int, 2) := by decide +kernel
theorem dX11_init_34 : decode cX11_init 34 = .ok (.putfield 20, 3) := by decide +kernel
theorem dX11_init_37 : decode cX11_init 37 = .ok (.aload_n 0, 1) := by decide +kernel
theorem dX11_init_38 : decode cX11_init 38 = .ok (.bipush 70, 2) := by decide +kernel
theorem dX11_init_40 : decode cX11_init 40 = .ok (.newarray .int, 2) := by decide +kernel
theorem dX11_init_42 : decode cX11_init 42 = .ok (.putfield 23, 3) := by decide +kernel
theorem dX11_init_45 : decode cX11_init 45 = .ok (.aload_n 0, 1) := by decide +kernel
theorem dX11_init_46 : decode cX11_init 46 = .ok (.bipush 70, 2) := by decide +kernel
theorem dX11_init_48 : decode cX11_init 48 = .ok (.newarray .int, 2) := by decide +kernel
theorem dX11_init_50 : decode cX11_init 50 = .ok (.putfield 26, 3) := by decide +kernel
theorem dX11_init_53 : decode cX11_init 53 = .ok (.aload_n 0, 1) := by decide +kernel
theorem dX11_init_54 : decode cX11_init 54 = .ok (.bipush 70, 2) := by decide +kernel
theorem dX11_init_56 : decode cX11_init 56 = .ok (.newarray .long, 2) := by decide +kernel
theorem dX11_init_58 : decode cX11_init 58 = .ok (.putfield 29, 3) := by decide +kernel
theorem dX11_init_61 : decode cX11_init 61 = .ok (.aload_n 0, 1) := by decide +kernel
theorem dX11_init_62 : decode cX11_init 62 = .ok (.bipush 11, 2) := by decide +kernel
theorem dX11_init_64 : decode cX11_init 64 = .ok (.newarray .int, 2) := by decide +kernel
theorem dX11_init_66 : decode cX11_init 66 = .ok (.putfield 33, 3) := by decide +kernel
theorem dX11_init_69 : decode cX11_init 69 = .ok (.aload_n 0, 1) := by decide +kernel
theorem dX11_init_70 : decode cX11_init 70 = .ok (.bipush 11, 2) := by decide +kernel
theorem dX11_init_72 : decode cX11_init 72 = .ok (.newarray .int, 2) := by decide +kernel
theorem dX11_init_74 : decode cX11_init 74 = .ok (.putfield 36, 3) := by decide +kernel
theorem dX11_init_77 : decode cX11_init 77 = .ok (.aload_n 0, 1) := by decide +kernel
theorem dX11_init_78 : decode cX11_init 78 = .ok (.sipush 264, 3) := by decide +kernel
theorem dX11_init_81 : decode cX11_init 81 = .ok (.newarray .int, 2) := by decide +kernel
theorem dX11_init_83 : decode cX11_init 83 = .ok (.putfield 39, 3) := by decide +kernel
theorem dX11_init_86 : decode cX11_init 86 = .ok (.aload_n 0, 1) := by decide +kernel
theorem dX11_init_87 : decode cX11_init 87 = .ok (.bipush 11, 2) := by decide +kernel
theorem dX11_init_89 : decode cX11_init 89 = .ok (.newarray .int, 2) := by decide +kernel
theorem dX11_init_91 : decode cX11_init 91 = .ok (.putfield 42, 3) := by decide +kernel
theorem dX11_init_94 : decode cX11_init 94 = .ok (.aload_n 0, 1) := by decide +kernel
theorem dX11_init_95 : decode cX11_init 95 = .ok (.sipush 330, 3) := by decide +kernel
theorem dX11_init_98 : decode cX11_init 98 = .ok (.newarray .int, 2) := by decide +kernel
theorem dX11_init_100 : decode cX11_init 100 = .ok (.putfield 45, 3) := by decide +kernel
theorem dX11_init_103 : decode cX11_init 103 = .ok (.aload_n 0, 1) := by decide +kernel
theorem dX11_init_104 : decode cX11_init 104 = .ok (.bipush 44, 2) := by decide +kernel
theorem dX11_init_106 : decode cX11_init 106 = .ok (.newarray .int, 2) := by decide +kernel
theorem dX11_init_108 : decode cX11_init 108 = .ok (.putfield 48, 3) := by decide +kernel
theorem dX11_init_111 : decode cX11_init 111 = .ok (.aload_n 0, 1) := by decide +kernel
theorem dX11_init_112 : decode cX11_init 112 = .ok (.bipush 30, 2) := by decide +kernel
theorem dX11_init_114 : decode cX11_init 114 = .ok (.newarray .int, 2) := by decide +kernel
theorem dX11_init_116 : decode cX11_init 116 = .ok (.putfield 51, 3) := by decide +kernel
theorem dX11_init_119 : decode cX11_init 119 = .ok (.aload_n 0, 1) := by decide +kernel
theorem dX11_init_120 : decode cX11_init 120 = .ok (.bipush 6, 2) := by decide +kernel
theorem dX11_init_122 : decode cX11_init 122 = .ok (.newarray .int, 2) := by decide +kernel
theorem dX11_init_124 : decode cX11_init 124 = .ok (.putfield 54, 3) := by decide +kernel
theorem dX11_init_127 : decode cX11_init 127 = .ok (.aload_n 0, 1) := by decide +kernel
theorem dX11_init_128 : decode cX11_init 128 = .ok (.bipush 6, 2) := by decide +kernel
theorem dX11_init_130 : decode cX11_init 130 = .ok (.newarray .int, 2) := by decide +kernel
theorem dX11_init_132 : decode cX11_init 132 = .ok (.putfield 57, 3) := by decide +kernel
theorem dX11_init_135 : decode cX11_init 135 = .ok (.aload_n 0, 1) := by decide +kernel
theorem dX11_init_136 : decode cX11_init 136 = .ok (.bipush 6, 2) := by decide +kernel
theorem dX11_init_138 : decode cX11_init 138 = .ok (.newarray .int, 2) := by decide +kernel
theorem dX11_init_140 : decode cX11_init 140 = .ok (.putfield 60, 3) := by decide +kernel
theorem dX11_init_143 : decode cX11_init 143 = .ok (.aload_n 0, 1) := by decide +kernel
theorem dX11_init_144 : decode cX11_init 144 = .ok (.getfield 7, 3) := by decide +kernel
theorem dX11_init_147 : decode cX11_init 147 = .ok (.iconst 5, 1) := by decide +kernel
theorem dX11_init_148 : decode cX11_init 148 = .ok (.iconst 5, 1) := by decide +kernel
theorem dX11_init_149 : decode cX11_init 149 = .ok (.iastore, 1) := by decide +kernel
theorem dX11_init_150 : decode cX11_init 150 = .ok (.aload_n 0, 1) := by decide +kernel
theorem dX11_init_151 : decode cX11_init 151 = .ok (.getfield 7, 3) := by decide +kernel
theorem dX11_init_154 : decode cX11_init 154 = .ok (.bipush 6, 2) := by decide +kernel
theorem dX11_init_156 : decode cX11_init 156 = .ok (.bipush 20, 2) := by decide +kernel
theorem dX11_init_158 : decode cX11_init 158 = .ok (.iastore, 1) := by decide +kernel
theorem dX11_init_159 : decode cX11_init 159 = .ok (.aload_n 0, 1) := by decide +kernel
theorem dX11_init_160 : decode cX11_init 160 = .ok (.lconst 1, 1) := by decide +kernel
theorem dX11_init_161 : decode cX11_init 161 = .ok (.putfield 63, 3) := by decide +kernel
theorem dX11_init_164 : decode cX11_init 164 = .ok (.return_, 1) := by decide +kernel
theorem dX11_is_0 : decode cX11_is 0 = .ok (.iload_n 2, 1) := by decide +kernel
theorem dX11_is_1 : decode cX11_is 1 = .ok (.i2l, 1) := by decide +kernel
theorem dX11_is_2 : decode cX11_is 2 = .ok (.lconst 0, 1) := by decide +kernel
theorem dX11_is_3 : decode cX11_is 3 = .ok (.aload_n 0, 1) := by decide +kernel
theorem dX11_is_4 : decode cX11_is 4 = .ok (.getfield 7, 3) := by decide +kernel
theorem dX11_is_7 : decode cX11_is 7 = .ok (.iload_n 1, 1) := by decide +kernel
theorem dX11_is_8 : decode cX11_is 8 = .ok (.iaload, 1) := by decide +kernel
theorem dX11_is_9 : decode cX11_is 9 = .ok (.iconst 1, 1) := by decide +kernel
theorem dX11_is_10 : decode cX11_is 10 = .ok (.isub, 1) := by decide +kernel
theorem dX11_is_11 : decode cX11_is 11 = .ok (.i2l, 1) := by decide +kernel
theorem dX11_is_12 : decode cX11_is 12 = .ok (.invokestatic 67, 3) := by decide +kernel
theorem dX11_is_15 : decode cX11_is 15 = .ok (.ireturn, 1) := by decide +kernel
theorem dX11_one_0 : decode cX11_one 0 = .ok (.aload_n 0, 1) := by decide +kernel
theorem dX11_one_1 : decode cX11_one 1 = .ok (.getfield 7, 3) := by decide +kernel
theorem dX11_one_4 : decode cX11_one 4 = .ok (.iload_n 1, 1) := by decide +kernel
theorem dX11_one_5 : decode cX11_one 5 = .ok (.dup2, 1) := by decide +kernel
theorem dX11_one_6 : decode cX11_one 6 = .ok (.iaload, 1) := by decide +kernel
theorem dX11_one_7 : decode cX11_one 7 = .ok (.iconst 1, 1) := by decide +kernel
theorem dX11_one_8 : decode cX11_one 8 = .ok (.iadd, 1) := by decide +kernel
theorem dX11_one_9 : decode cX11_one 9 = .ok (.iastore, 1) := by decide +kernel
theorem dX11_one_10 : decode cX11_one 10 = .ok (.aload_n 0, 1) := by decide +kernel
theorem dX11_one_11 : decode cX11_one 11 = .ok (.iconst 0, 1) := by decide +kernel
theorem dX11_one_12 : decode cX11_one 12 = .ok (.putfield 71, 3) := by decide +kernel
theorem dX11_one_15 : decode cX11_one 15 = .ok (.aload_n 0, 1) := by decide +kernel
theorem dX11_one_16 : decode cX11_one 16 = .ok (.getfield 7, 3) := by decide +kernel
theorem dX11_one_19 : decode cX11_one 19 = .ok (.iload_n 1, 1) := by decide +kernel
theorem dX11_one_20 : decode cX11_one 20 = .ok (.iaload, 1) := by decide +kernel
theorem dX11_one_21 : decode cX11_one 21 = .ok (.iconst 1, 1) := by decide +kernel
theorem dX11_one_22 : decode cX11_one 22 = .ok (.isub, 1) := by decide +kernel
theorem dX11_one_23 : decode cX11_one 23 = .ok (.ireturn, 1) := by decide +kernel
theorem dX11_sizeOf_0 : decode cX11_sizeOf 0 = .ok (.iconst 0, 1) := by decide +kernel
theorem dX11_sizeOf_1 : decode cX11_sizeOf 1 = .ok (.istore_n 1, 1) := by decide +kernel
theorem dX11_sizeOf_2 : decode cX11_sizeOf 2 = .ok (.iload_n 0, 1) := by decide +kernel
theorem dX11_sizeOf_3 : decode cX11_sizeOf 3 = .ok (.istore_n 2, 1) := by decide +kernel
theorem dX11_sizeOf_4 : decode cX11_sizeOf 4 = .ok (.iload_n 2, 1) := by decide +kernel
theorem dX11_sizeOf_5 : decode cX11_sizeOf 5 = .ok (.ifCond .le 16, 3) := by decide +kernel
theorem dX11_sizeOf_8 : decode cX11_sizeOf 8 = .ok (.iload_n 1, 1) := by decide +kernel
theorem dX11_sizeOf_9 : decode cX11_sizeOf 9 = .ok (.iload_n 2, 1) := by decide +kernel
theorem dX11_sizeOf_10 : decode cX11_sizeOf 10 = .ok (.iconst 1, 1) := by decide +kernel
theorem dX11_sizeOf_11 : decode cX11_sizeOf 11 = .ok (.iand, 1) := by decide +kernel
theorem dX11_sizeOf_12 : decode cX11_sizeOf 12 = .ok (.iadd, 1) := by decide +kernel
theorem dX11_sizeOf_13 : decode cX11_sizeOf 13 = .ok (.istore_n 1, 1) := by decide +kernel
theorem dX11_sizeOf_14 : decode cX11_sizeOf 14 = .ok (.iload_n 2, 1) := by decide +kernel
theorem dX11_sizeOf_15 : decode cX11_sizeOf 15 = .ok (.iconst 1, 1) := by decide +kernel
theorem dX11_sizeOf_16 : decode cX11_sizeOf 16 = .ok (.ishr, 1) := by decide +kernel
theorem dX11_sizeOf_17 : decode cX11_sizeOf 17 = .ok (.istore_n 2, 1) := by decide +kernel
theorem dX11_sizeOf_18 : decode cX11_sizeOf 18 = .ok (.goto (-14), 3) := by decide +kernel
theorem dX11_sizeOf_21 : decode cX11_sizeOf 21 = .ok (.iload_n 1, 1) := by decide +kernel
theorem dX11_sizeOf_22 : decode cX11_sizeOf 22 = .ok (.ireturn, 1) := by decide +kernel
theorem dX11_people_0 : decode cX11_people 0 = .ok (.iconst 1, 1) := by decide +kernel
theorem dX11_people_1 : decode cX11_people 1 = .ok (.aload_n 0, 1) := by decide +kernel
theorem dX11_people_2 : decode cX11_people 2 = .ok (.getfield 7, 3) := by decide +kernel
theorem dX11_people_5 : decode cX11_people 5 = .ok (.iconst 0, 1) := by decide +kernel
theorem dX11_people_6 : decode cX11_people 6 = .ok (.iaload, 1) := by decide +kernel
theorem dX11_people_7 : decode cX11_people 7 = .ok (.ishl, 1) := by decide +kernel
theorem dX11_people_8 : decode cX11_people 8 = .ok (.iconst 1, 1) := by decide +kernel
theorem dX11_people_9 : decode cX11_people 9 = .ok (.isub, 1) := by decide +kernel
theorem dX11_people_10 : decode cX11_people 10 = .ok (.ireturn, 1) := by decide +kernel
theorem dX11_isDay_0 : decode cX11_isDay 0 = .ok (.iload_n 0, 1) := by decide +kernel
theorem dX11_isDay_1 : decode cX11_isDay 1 = .ok (.i2l, 1) := by decide +kernel
theorem dX11_isDay_2 : decode cX11_isDay 2 = .ok (.lconst 0, 1) := by decide +kernel
theorem dX11_isDay_3 : decode cX11_isDay 3 = .ok (.ldc2_w 75, 3) := by decide +kernel
theorem dX11_isDay_6 : decode cX11_isDay 6 = .ok (.invokestatic 67, 3) := by decide +kernel
theorem dX11_isDay_9 : decode cX11_isDay 9 = .ok (.ireturn, 1) := by decide +kernel
theorem dX11_person_0 : decode cX11_person 0 = .ok (.iload_n 1, 1) := by decide +kernel
theorem dX11_person_1 : decode cX11_person 1 = .ok (.i2l, 1) := by decide +kernel
theorem dX11_person_2 : decode cX11_person 2 = .ok (.lconst 0, 1) := by decide +kernel
theorem dX11_person_3 : decode cX11_person 3 = .ok (.ldc2_w 77, 3) := by decide +kernel
theorem dX11_person_6 : decode cX11_person 6 = .ok (.invokestatic 67, 3) := by decide +kernel
theorem dX11_person_9 : decode cX11_person 9 = .ok (.ifCond .eq 40, 3) := by decide +kernel
theorem dX11_person_12 : decode cX11_person 12 = .ok (.iload_n 2, 1) := by decide +kernel
theorem dX11_person_13 : decode cX11_person 13 = .ok (.i2l, 1) := by decide +kernel
theorem dX11_person_14 : decode cX11_person 14 = .ok (.lconst 0, 1) := by decide +kernel
theorem dX11_person_15 : decode cX11_person 15 = .ok (.ldc2_w 77, 3) := by decide +kernel
theorem dX11_person_18 : decode cX11_person 18 = .ok (.invokestatic 67, 3) := by decide +kernel
theorem dX11_person_21 : decode cX11_person 21 = .ok (.ifCond .eq 28, 3) := by decide +kernel
theorem dX11_person_24 : decode cX11_person 24 = .ok (.iload_n 3, 1) := by decide +kernel
theorem dX11_person_25 : decode cX11_person 25 = .ok (.i2l, 1) := by decide +kernel
theorem dX11_person_26 : decode cX11_person 26 = .ok (.lconst 0, 1) := by decide +kernel
theorem dX11_person_27 : decode cX11_person 27 = .ok (.ldc2_w 79, 3) := by decide +kernel
theorem dX11_person_30 : decode cX11_person 30 = .ok (.invokestatic 67, 3) := by decide +kernel
theorem dX11_person_33 : decode cX11_person 33 = .ok (.ifCond .eq 16, 3) := by decide +kernel
theorem dX11_person_36 : decode cX11_person 36 = .ok (.iload 4, 2) := by decide +kernel
theorem dX11_person_38 : decode cX11_person 38 = .ok (.i2l, 1) := by decide +kernel
theorem dX11_person_39 : decode cX11_person 39 = .ok (.lconst 0, 1) := by decide +kernel
theorem dX11_person_40 : decode cX11_person 40 = .ok (.ldc2_w 81, 3) := by decide +kernel
theorem dX11_person_43 : decode cX11_person 43 = .ok (.invokestatic 67, 3) := by decide +kernel
theorem dX11_person_46 : decode cX11_person 46 = .ok (.ifCond .ne 6, 3) := by decide +kernel
theorem dX11_person_49 : decode cX11_person 49 = .ok (.bipush (-2), 2) := by decide +kernel
theorem dX11_person_51 : decode cX11_person 51 = .ok (.ireturn, 1) := by decide +kernel
theorem dX11_person_52 : decode cX11_person 52 = .ok (.aload_n 0, 1) := by decide +kernel
theorem dX11_person_53 : decode cX11_person 53 = .ok (.getfield 7, 3) := by decide +kernel
theorem dX11_person_56 : decode cX11_person 56 = .ok (.iconst 0, 1) := by decide +kernel
theorem dX11_person_57 : decode cX11_person 57 = .ok (.iaload, 1) := by decide +kernel
theorem dX11_person_58 : decode cX11_person 58 = .ok (.bipush 30, 2) := by decide +kernel
theorem dX11_person_60 : decode cX11_person 60 = .ok (.if_icmp .ne 6, 3) := by decide +kernel
theorem dX11_person_63 : decode cX11_person 63 = .ok (.bipush (-4), 2) := by decide +kernel
theorem dX11_person_65 : decode cX11_person 65 = .ok (.ireturn, 1) := by decide +kernel
theorem dX11_person_66 : decode cX11_person 66 = .ok (.bipush 10, 2) := by decide +kernel
theorem dX11_person_68 : decode cX11_person 68 = .ok (.iconst 4, 1) := by decide +kernel
theorem dX11_person_69 : decode cX11_person 69 = .ok (.aload_n 0, 1) := by decide +kernel
theorem dX11_person_70 : decode cX11_person 70 = .ok (.getfield 7, 3) := by decide +kernel
theorem dX11_person_73 : decode cX11_person 73 = .ok (.iconst 0, 1) := by decide +kernel
theorem dX11_person_74 : decode cX11_person 74 = .ok (.iaload, 1) := by decide +kernel
theorem dX11_person_75 : decode cX11_person 75 = .ok (.imul, 1) := by decide +kernel
theorem dX11_person_76 : decode cX11_person 76 = .ok (.iadd, 1) := by decide +kernel
theorem dX11_person_77 : decode cX11_person 77 = .ok (.istore 5, 2) := by decide +kernel
theorem dX11_person_79 : decode cX11_person 79 = .ok (.aload_n 0, 1) := by decide +kernel
theorem dX11_person_80 : decode cX11_person 80 = .ok (.getfield 7, 3) := by decide +kernel
theorem dX11_person_83 : decode cX11_person 83 = .ok (.iload 5, 2) := by decide +kernel
theorem dX11_person_85 : decode cX11_person 85 = .ok (.iload_n 1, 1) := by decide +kernel
theorem dX11_person_86 : decode cX11_person 86 = .ok (.iastore, 1) := by decide +kernel
theorem dX11_person_87 : decode cX11_person 87 = .ok (.aload_n 0, 1) := by decide +kernel
theorem dX11_person_88 : decode cX11_person 88 = .ok (.getfield 7, 3) := by decide +kernel
theorem dX11_person_91 : decode cX11_person 91 = .ok (.iload 5, 2) := by decide +kernel
theorem dX11_person_93 : decode cX11_person 93 = .ok (.iconst 1, 1) := by decide +kernel
theorem dX11_person_94 : decode cX11_person 94 = .ok (.iadd, 1) := by decide +kernel
theorem dX11_person_95 : decode cX11_person 95 = .ok (.iload_n 2, 1) := by decide +kernel
theorem dX11_person_96 : decode cX11_person 96 = .ok (.iastore, 1) := by decide +kernel
theorem dX11_person_97 : decode cX11_person 97 = .ok (.aload_n 0, 1) := by decide +kernel
theorem dX11_person_98 : decode cX11_person 98 = .ok (.getfield 7, 3) := by decide +kernel
theorem dX11_person_101 : decode cX11_person 101 = .ok (.iload 5, 2) := by decide +kernel
theorem dX11_person_103 : decode cX11_person 103 = .ok (.iconst 2, 1) := by decide +kernel
theorem dX11_person_104 : decode cX11_person 104 = .ok (.iadd, 1) := by decide +kernel
theorem dX11_person_105 : decode cX11_person 105 = .ok (.iload_n 3, 1) := by decide +kernel
theorem dX11_person_106 : decode cX11_person 106 = .ok (.iastore, 1) := by decide +kernel
theorem dX11_person_107 : decode cX11_person 107 = .ok (.aload_n 0, 1) := by decide +kernel
theorem dX11_person_108 : decode cX11_person 108 = .ok (.getfield 7, 3) := by decide +kernel
theorem dX11_person_111 : decode cX11_person 111 = .ok (.iload 5, 2) := by decide +kernel
theorem dX11_person_113 : decode cX11_person 113 = .ok (.iconst 3, 1) := by decide +kernel
theorem dX11_person_114 : decode cX11_person 114 = .ok (.iadd, 1) := by decide +kernel
theorem dX11_person_115 : decode cX11_person 115 = .ok (.iload 4, 2) := by decide +kernel
theorem dX11_person_117 : decode cX11_person 117 = .ok (.iastore, 1) := by decide +kernel
theorem dX11_person_118 : decode cX11_person 118 = .ok (.aload_n 0, 1) := by decide +kernel
theorem dX11_person_119 : decode cX11_person 119 = .ok (.iconst 0, 1) := by decide +kernel
theorem dX11_person_120 : decode cX11_person 120 = .ok (.invokevirtual 83, 3) := by decide +kernel
theorem dX11_person_123 : decode cX11_person 123 = .ok (.ireturn, 1) := by decide +kernel
theorem dX11_kin_0 : decode cX11_kin 0 = .ok (.aload_n 0, 1) := by decide +kernel
theorem dX11_kin_1 : decode cX11_kin 1 = .ok (.iconst 0, 1) := by decide +kernel
theorem dX11_kin_2 : decode cX11_kin 2 = .ok (.iload_n 1, 1) := by decide +kernel
theorem dX11_kin_3 : decode cX11_kin 3 = .ok (.invokevirtual 87, 3) := by decide +kernel
theorem dX11_kin_6 : decode cX11_kin 6 = .ok (.ifCond .eq 22, 3) := by decide +kernel
theorem dX11_kin_9 : decode cX11_kin 9 = .ok (.iload_n 2, 1) := by decide +kernel
theorem dX11_kin_10 : decode cX11_kin 10 = .ok (.i2l, 1) := by decide +kernel
theorem dX11_kin_11 : decode cX11_kin 11 = .ok (.lconst 0, 1) := by decide +kernel
theorem dX11_kin_12 : decode cX11_kin 12 = .ok (.ldc2_w 91, 3) := by decide +kernel
theorem dX11_kin_15 : decode cX11_kin 15 = .ok (.invokestatic 67, 3) := by decide +kernel
theorem dX11_kin_18 : decode cX11_kin 18 = .ok (.ifCond .eq 10, 3) := by decide +kernel
theorem dX11_kin_21 : decode cX11_kin 21 = .ok (.iload_n 3, 1) := by decide +kernel
theorem dX11_kin_22 : decode cX11_kin 22 = .ok (.invokestatic 93, 3) := by decide +kernel
theorem dX11_kin_25 : decode cX11_kin 25 = .ok (.ifCond .ne 6, 3) := by decide +kernel
theorem dX11_kin_28 : decode cX11_kin 28 = .ok (.bipush (-2), 2) := by decide +kernel
theorem dX11_kin_30 : decode cX11_kin 30 = .ok (.ireturn, 1) := by decide +kernel
theorem dX11_kin_31 : decode cX11_kin 31 = .ok (.aload_n 0, 1) := by decide +kernel
theorem dX11_kin_32 : decode cX11_kin 32 = .ok (.getfield 7, 3) := by decide +kernel
theorem dX11_kin_35 : decode cX11_kin 35 = .ok (.iconst 1, 1) := by decide +kernel
theorem dX11_kin_36 : decode cX11_kin 36 = .ok (.iaload, 1) := by decide +kernel
theorem dX11_kin_37 : decode cX11_kin 37 = .ok (.bipush 40, 2) := by decide +kernel
theorem dX11_kin_39 : decode cX11_kin 39 = .ok (.if_icmp .ne 6, 3) := by decide +kernel
theorem dX11_kin_42 : decode cX11_kin 42 = .ok (.bipush (-4), 2) := by decide +kernel
theorem dX11_kin_44 : decode cX11_kin 44 = .ok (.ireturn, 1) := by decide +kernel
theorem dX11_kin_45 : decode cX11_kin 45 = .ok (.sipush 130, 3) := by decide +kernel
theorem dX11_kin_48 : decode cX11_kin 48 = .ok (.iconst 3, 1) := by decide +kernel
theorem dX11_kin_49 : decode cX11_kin 49 = .ok (.aload_n 0, 1) := by decide +kernel
theorem dX11_kin_50 : decode cX11_kin 50 = .ok (.getfield 7, 3) := by decide +kernel
theorem dX11_kin_53 : decode cX11_kin 53 = .ok (.iconst 1, 1) := by decide +kernel
theorem dX11_kin_54 : decode cX11_kin 54 = .ok (.iaload, 1) := by decide +kernel
theorem dX11_kin_55 : decode cX11_kin 55 = .ok (.imul, 1) := by decide +kernel
theorem dX11_kin_56 : decode cX11_kin 56 = .ok (.iadd, 1) := by decide +kernel
theorem dX11_kin_57 : decode cX11_kin 57 = .ok (.istore 4, 2) := by decide +kernel
theorem dX11_kin_59 : decode cX11_kin 59 = .ok (.aload_n 0, 1) := by decide +kernel
theorem dX11_kin_60 : decode cX11_kin 60 = .ok (.getfield 7, 3) := by decide +kernel
theorem dX11_kin_63 : decode cX11_kin 63 = .ok (.iload 4, 2) := by decide +kernel
theorem dX11_kin_65 : decode cX11_kin 65 = .ok (.iload_n 1, 1) := by decide +kernel
theorem dX11_kin_66 : decode cX11_kin 66 = .ok (.iastore, 1) := by decide +kernel
theorem dX11_kin_67 : decode cX11_kin 67 = .ok (.aload_n 0, 1) := by decide +kernel
theorem dX11_kin_68 : decode cX11_kin 68 = .ok (.getfield 7, 3) := by decide +kernel
theorem dX11_kin_71 : decode cX11_kin 71 = .ok (.iload 4, 2) := by decide +kernel
theorem dX11_kin_73 : decode cX11_kin 73 = .ok (.iconst 1, 1) := by decide +kernel
theorem dX11_kin_74 : decode cX11_kin 74 = .ok (.iadd, 1) := by decide +kernel
theorem dX11_kin_75 : decode cX11_kin 75 = .ok (.iload_n 2, 1) := by decide +kernel
theorem dX11_kin_76 : decode cX11_kin 76 = .ok (.iastore, 1) := by decide +kernel
theorem dX11_kin_77 : decode cX11_kin 77 = .ok (.aload_n 0, 1) := by decide +kernel
theorem dX11_kin_78 : decode cX11_kin 78 = .ok (.getfield 7, 3) := by decide +kernel
theorem dX11_kin_81 : decode cX11_kin 81 = .ok (.iload 4, 2) := by decide +kernel
theorem dX11_kin_83 : decode cX11_kin 83 = .ok (.iconst 2, 1) := by decide +kernel
theorem dX11_kin_84 : decode cX11_kin 84 = .ok (.iadd, 1) := by decide +kernel
theorem dX11_kin_85 : decode cX11_kin 85 = .ok (.iload_n 3, 1) := by decide +kernel
theorem dX11_kin_86 : decode cX11_kin 86 = .ok (.iastore, 1) := by decide +kernel
theorem dX11_kin_87 : decode cX11_kin 87 = .ok (.aload_n 0, 1) := by decide +kernel
theorem dX11_kin_88 : decode cX11_kin 88 = .ok (.iconst 1, 1) := by decide +kernel
theorem dX11_kin_89 : decode cX11_kin 89 = .ok (.invokevirtual 83, 3) := by decide +kernel
theorem dX11_kin_92 : decode cX11_kin 92 = .ok (.ireturn, 1) := by decide +kernel
theorem dX11_roll_0 : decode cX11_roll 0 = .ok (.iload_n 1, 1) := by decide +kernel
theorem dX11_roll_1 : decode cX11_roll 1 = .ok (.i2l, 1) := by decide +kernel
theorem dX11_roll_2 : decode cX11_roll 2 = .ok (.lconst 0, 1) := by decide +kernel
theorem dX11_roll_3 : decode cX11_roll 3 = .ok (.aload_n 0, 1) := by decide +kernel
theorem dX11_roll_4 : decode cX11_roll 4 = .ok (.invokevirtual 97, 3) := by decide +kernel
theorem dX11_roll_7 : decode cX11_roll 7 = .ok (.i2l, 1) := by decide +kernel
theorem dX11_roll_8 : decode cX11_roll 8 = .ok (.invokestatic 67, 3) := by decide +kernel
theorem dX11_roll_11 : decode cX11_roll 11 = .ok (.ifCond .eq 22, 3) := by decide +kernel
theorem dX11_roll_14 : decode cX11_roll 14 = .ok (.iload_n 2, 1) := by decide +kernel
theorem dX11_roll_15 : decode cX11_roll 15 = .ok (.i2l, 1) := by decide +kernel
theorem dX11_roll_16 : decode cX11_roll 16 = .ok (.lconst 0, 1) := by decide +kernel
theorem dX11_roll_17 : decode cX11_roll 17 = .ok (.ldc2_w 101, 3) := by decide +kernel
theorem dX11_roll_20 : decode cX11_roll 20 = .ok (.invokestatic 67, 3) := by decide +kernel
theorem dX11_roll_23 : decode cX11_roll 23 = .ok (.ifCond .eq 10, 3) := by decide +kernel
theorem dX11_roll_26 : decode cX11_roll 26 = .ok (.iload_n 3, 1) := by decide +kernel
theorem dX11_roll_27 : decode cX11_roll 27 = .ok (.invokestatic 93, 3) := by decide +kernel
theorem dX11_roll_30 : decode cX11_roll 30 = .ok (.ifCond .ne 6, 3) := by decide +kernel
theorem dX11_roll_33 : decode cX11_roll 33 = .ok (.bipush (-2), 2) := by decide +kernel
theorem dX11_roll_35 : decode cX11_roll 35 = .ok (.ireturn, 1) := by decide +kernel
theorem dX11_roll_36 : decode cX11_roll 36 = .ok (.aload_n 0, 1) := by decide +kernel
theorem dX11_roll_37 : decode cX11_roll 37 = .ok (.getfield 7, 3) := by decide +kernel
theorem dX11_roll_40 : decode cX11_roll 40 = .ok (.iconst 2, 1) := by decide +kernel
theorem dX11_roll_41 : decode cX11_roll 41 = .ok (.iaload, 1) := by decide +kernel
theorem dX11_roll_42 : decode cX11_roll 42 = .ok (.iconst 4, 1) := by decide +kernel
theorem dX11_roll_43 : decode cX11_roll 43 = .ok (.if_icmp .ne 6, 3) := by decide +kernel
theorem dX11_roll_46 : decode cX11_roll 46 = .ok (.bipush (-4), 2) := by decide +kernel
theorem dX11_roll_48 : decode cX11_roll 48 = .ok (.ireturn, 1) := by decide +kernel
theorem dX11_roll_49 : decode cX11_roll 49 = .ok (.sipush 250, 3) := by decide +kernel
theorem dX11_roll_52 : decode cX11_roll 52 = .ok (.iconst 3, 1) := by decide +kernel
theorem dX11_roll_53 : decode cX11_roll 53 = .ok (.aload_n 0, 1) := by decide +kernel
theorem dX11_roll_54 : decode cX11_roll 54 = .ok (.getfield 7, 3) := by decide +kernel
theorem dX11_roll_57 : decode cX11_roll 57 = .ok (.iconst 2, 1) := by decide +kernel
theorem dX11_roll_58 : decode cX11_roll 58 = .ok (.iaload, 1) := by decide +kernel
theorem dX11_roll_59 : decode cX11_roll 59 = .ok (.imul, 1) := by decide +kernel
theorem dX11_roll_60 : decode cX11_roll 60 = .ok (.iadd, 1) := by decide +kernel
theorem dX11_roll_61 : decode cX11_roll 61 = .ok (.istore 4, 2) := by decide +kernel
theorem dX11_roll_63 : decode cX11_roll 63 = .ok (.aload_n 0, 1) := by decide +kernel
theorem dX11_roll_64 : decode cX11_roll 64 = .ok (.getfield 7, 3) := by decide +kernel
theorem dX11_roll_67 : decode cX11_roll 67 = .ok (.iload 4, 2) := by decide +kernel
theorem dX11_roll_69 : decode cX11_roll 69 = .ok (.iload_n 1, 1) := by decide +kernel
theorem dX11_roll_70 : decode cX11_roll 70 = .ok (.iastore, 1) := by decide +kernel
theorem dX11_roll_71 : decode cX11_roll 71 = .ok (.aload_n 0, 1) := by decide +kernel
theorem dX11_roll_72 : decode cX11_roll 72 = .ok (.getfield 7, 3) := by decide +kernel
theorem dX11_roll_75 : decode cX11_roll 75 = .ok (.iload 4, 2) := by decide +kernel
theorem dX11_roll_77 : decode cX11_roll 77 = .ok (.iconst 1, 1) := by decide +kernel
theorem dX11_roll_78 : decode cX11_roll 78 = .ok (.iadd, 1) := by decide +kernel
theorem dX11_roll_79 : decode cX11_roll 79 = .ok (.iload_n 2, 1) := by decide +kernel
theorem dX11_roll_80 : decode cX11_roll 80 = .ok (.iastore, 1) := by decide +kernel
theorem dX11_roll_81 : decode cX11_roll 81 = .ok (.aload_n 0, 1) := by decide +kernel
theorem dX11_roll_82 : decode cX11_roll 82 = .ok (.getfield 7, 3) := by decide +kernel
theorem dX11_roll_85 : decode cX11_roll 85 = .ok (.iload 4, 2) := by decide +kernel
theorem dX11_roll_87 : decode cX11_roll 87 = .ok (.iconst 2, 1) := by decide +kernel
theorem dX11_roll_88 : decode cX11_roll 88 = .ok (.iadd, 1) := by decide +kernel
theorem dX11_roll_89 : decode cX11_roll 89 = .ok (.iload_n 3, 1) := by decide +kernel
theorem dX11_roll_90 : decode cX11_roll 90 = .ok (.iastore, 1) := by decide +kernel
theorem dX11_roll_91 : decode cX11_roll 91 = .ok (.aload_n 0, 1) := by decide +kernel
theorem dX11_roll_92 : decode cX11_roll 92 = .ok (.iconst 2, 1) := by decide +kernel
theorem dX11_roll_93 : decode cX11_roll 93 = .ok (.invokevirtual 83, 3) := by decide +kernel
theorem dX11_roll_96 : decode cX11_roll 96 = .ok (.ireturn, 1) := by decide +kernel
theorem dX11_theRoll_0 : decode cX11_theRoll 0 = .ok (.iconst (-1), 1) := by decide +kernel
theorem dX11_theRoll_1 : decode cX11_theRoll 1 = .ok (.istore_n 2, 1) := by decide +kernel
theorem dX11_theRoll_2 : decode cX11_theRoll 2 = .ok (.iconst 0, 1) := by decide +kernel
theorem dX11_theRoll_3 : decode cX11_theRoll 3 = .ok (.istore_n 3, 1) := by decide +kernel
theorem dX11_theRoll_4 : decode cX11_theRoll 4 = .ok (.iload_n 3, 1) := by decide +kernel
theorem dX11_theRoll_5 : decode cX11_theRoll 5 = .ok (.aload_n 0, 1) := by decide +kernel
theorem dX11_theRoll_6 : decode cX11_theRoll 6 = .ok (.getfield 7, 3) := by decide +kernel
theorem dX11_theRoll_9 : decode cX11_theRoll 9 = .ok (.iconst 2, 1) := by decide +kernel
theorem dX11_theRoll_10 : decode cX11_theRoll 10 = .ok (.iaload, 1) := by decide +kernel
theorem dX11_theRoll_11 : decode cX11_theRoll 11 = .ok (.if_icmp .ge 81, 3) := by decide +kernel
theorem dX11_theRoll_14 : decode cX11_theRoll 14 = .ok (.aload_n 0, 1) := by decide +kernel
theorem dX11_theRoll_15 : decode cX11_theRoll 15 = .ok (.getfield 7, 3) := by decide +kernel
theorem dX11_theRoll_18 : decode cX11_theRoll 18 = .ok (.sipush 250, 3) := by decide +kernel
theorem dX11_theRoll_21 : decode cX11_theRoll 21 = .ok (.iconst 3, 1) := by decide +kernel
theorem dX11_theRoll_22 : decode cX11_theRoll 22 = .ok (.iload_n 3, 1) := by decide +kernel
theorem dX11_theRoll_23 : decode cX11_theRoll 23 = .ok (.imul, 1) := by decide +kernel
theorem dX11_theRoll_24 : decode cX11_theRoll 24 = .ok (.iadd, 1) := by decide +kernel
theorem dX11_theRoll_25 : decode cX11_theRoll 25 = .ok (.iconst 2, 1) := by decide +kernel
theorem dX11_theRoll_26 : decode cX11_theRoll 26 = .ok (.iadd, 1) := by decide +kernel
theorem dX11_theRoll_27 : decode cX11_theRoll 27 = .ok (.iaload, 1) := by decide +kernel
theorem dX11_theRoll_28 : decode cX11_theRoll 28 = .ok (.iload_n 1, 1) := by decide +kernel
theorem dX11_theRoll_29 : decode cX11_theRoll 29 = .ok (.if_icmp .gt 7, 3) := by decide +kernel
theorem dX11_theRoll_32 : decode cX11_theRoll 32 = .ok (.iconst 1, 1) := by decide +kernel
theorem dX11_theRoll_33 : decode cX11_theRoll 33 = .ok (.goto 4, 3) := by decide +kernel
theorem dX11_theRoll_36 : decode cX11_theRoll 36 = .ok (.iconst 0, 1) := by decide +kernel
theorem dX11_theRoll_37 : decode cX11_theRoll 37 = .ok (.istore 4, 2) := by decide +kernel
theorem dX11_theRoll_39 : decode cX11_theRoll 39 = .ok (.iload 4, 2) := by decide +kernel
theorem dX11_theRoll_41 : decode cX11_theRoll 41 = .ok (.ifCond .eq 43, 3) := by decide +kernel
theorem dX11_theRoll_44 : decode cX11_theRoll 44 = .ok (.iload_n 2, 1) := by decide +kernel
theorem dX11_theRoll_45 : decode cX11_theRoll 45 = .ok (.iconst (-1), 1) := by decide +kernel
theorem dX11_theRoll_46 : decode cX11_theRoll 46 = .ok (.if_icmp .eq 34, 3) := by decide +kernel
theorem dX11_theRoll_49 : decode cX11_theRoll 49 = .ok (.aload_n 0, 1) := by decide +kernel
theorem dX11_theRoll_50 : decode cX11_theRoll 50 = .ok (.getfield 7, 3) := by decide +kernel
theorem dX11_theRoll_53 : decode cX11_theRoll 53 = .ok (.sipush 250, 3) := by decide +kernel
theorem dX11_theRoll_56 : decode cX11_theRoll 56 = .ok (.iconst 3, 1) := by decide +kernel
theorem dX11_theRoll_57 : decode cX11_theRoll 57 = .ok (.iload_n 3, 1) := by decide +kernel
theorem dX11_theRoll_58 : decode cX11_theRoll 58 = .ok (.imul, 1) := by decide +kernel
theorem dX11_theRoll_59 : decode cX11_theRoll 59 = .ok (.iadd, 1) := by decide +kernel
theorem dX11_theRoll_60 : decode cX11_theRoll 60 = .ok (.iconst 1, 1) := by decide +kernel
theorem dX11_theRoll_61 : decode cX11_theRoll 61 = .ok (.iadd, 1) := by decide +kernel
theorem dX11_theRoll_62 : decode cX11_theRoll 62 = .ok (.iaload, 1) := by decide +kernel
theorem dX11_theRoll_63 : decode cX11_theRoll 63 = .ok (.aload_n 0, 1) := by decide +kernel
theorem dX11_theRoll_64 : decode cX11_theRoll 64 = .ok (.getfield 7, 3) := by decide +kernel
theorem dX11_theRoll_67 : decode cX11_theRoll 67 = .ok (.sipush 250, 3) := by decide +kernel
theorem dX11_theRoll_70 : decode cX11_theRoll 70 = .ok (.iconst 3, 1) := by decide +kernel
theorem dX11_theRoll_71 : decode cX11_theRoll 71 = .ok (.iload_n 2, 1) := by decide +kernel
theorem dX11_theRoll_72 : decode cX11_theRoll 72 = .ok (.imul, 1) := by decide +kernel
theorem dX11_theRoll_73 : decode cX11_theRoll 73 = .ok (.iadd, 1) := by decide +kernel
theorem dX11_theRoll_74 : decode cX11_theRoll 74 = .ok (.iconst 1, 1) := by decide +kernel
theorem dX11_theRoll_75 : decode cX11_theRoll 75 = .ok (.iadd, 1) := by decide +kernel
theorem dX11_theRoll_76 : decode cX11_theRoll 76 = .ok (.iaload, 1) := by decide +kernel
theorem dX11_theRoll_77 : decode cX11_theRoll 77 = .ok (.if_icmp .lt 7, 3) := by decide +kernel
theorem dX11_theRoll_80 : decode cX11_theRoll 80 = .ok (.iload_n 3, 1) := by decide +kernel
theorem dX11_theRoll_81 : decode cX11_theRoll 81 = .ok (.goto 4, 3) := by decide +kernel
theorem dX11_theRoll_84 : decode cX11_theRoll 84 = .ok (.iload_n 2, 1) := by decide +kernel
theorem dX11_theRoll_85 : decode cX11_theRoll 85 = .ok (.istore_n 2, 1) := by decide +kernel
theorem dX11_theRoll_86 : decode cX11_theRoll 86 = .ok (.iinc 3 1, 3) := by decide +kernel
theorem dX11_theRoll_89 : decode cX11_theRoll 89 = .ok (.goto (-85), 3) := by decide +kernel
theorem dX11_theRoll_92 : decode cX11_theRoll 92 = .ok (.iload_n 2, 1) := by decide +kernel
theorem dX11_theRoll_93 : decode cX11_theRoll 93 = .ok (.iconst (-1), 1) := by decide +kernel
theorem dX11_theRoll_94 : decode cX11_theRoll 94 = .ok (.if_icmp .ne 10, 3) := by decide +kernel
theorem dX11_theRoll_97 : decode cX11_theRoll 97 = .ok (.aload_n 0, 1) := by decide +kernel
theorem dX11_theRoll_98 : decode cX11_theRoll 98 = .ok (.invokevirtual 97, 3) := by decide +kernel
theorem dX11_theRoll_101 : decode cX11_theRoll 101 = .ok (.goto 15, 3) := by decide +kernel
theorem dX11_theRoll_104 : decode cX11_theRoll 104 = .ok (.aload_n 0, 1) := by decide +kernel
theorem dX11_theRoll_105 : decode cX11_theRoll 105 = .ok (.getfield 7, 3) := by decide +kernel
theorem dX11_theRoll_108 : decode cX11_theRoll 108 = .ok (.sipush 250, 3) := by decide +kernel
theorem dX11_theRoll_111 : decode cX11_theRoll 111 = .ok (.iconst 3, 1) := by decide +kernel
theorem dX11_theRoll_112 : decode cX11_theRoll 112 = .ok (.iload_n 2, 1) := by decide +kernel
theorem dX11_theRoll_113 : decode cX11_theRoll 113 = .ok (.imul, 1) := by decide +kernel
theorem dX11_theRoll_114 : decode cX11_theRoll 114 = .ok (.iadd, 1) := by decide +kernel
theorem dX11_theRoll_115 : decode cX11_theRoll 115 = .ok (.iaload, 1) := by decide +kernel
theorem dX11_theRoll_116 : decode cX11_theRoll 116 = .ok (.ireturn, 1) := by decide +kernel
theorem dX11_rollOf_0 : decode cX11_rollOf 0 = .ok (.iload_n 1, 1) := by decide +kernel
theorem dX11_rollOf_1 : decode cX11_rollOf 1 = .ok (.invokestatic 93, 3) := by decide +kernel
theorem dX11_rollOf_4 : decode cX11_rollOf 4 = .ok (.ifCond .eq 11, 3) := by decide +kernel
theorem dX11_rollOf_7 : decode cX11_rollOf 7 = .ok (.aload_n 0, 1) := by decide +kernel
theorem dX11_rollOf_8 : decode cX11_rollOf 8 = .ok (.iload_n 1, 1) := by decide +kernel
theorem dX11_rollOf_9 : decode cX11_rollOf 9 = .ok (.invokevirtual 103, 3) := by decide +kernel
theorem dX11_rollOf_12 : decode cX11_rollOf 12 = .ok (.goto 5, 3) := by decide +kernel
theorem dX11_rollOf_15 : decode cX11_rollOf 15 = .ok (.bipush (-2), 2) := by decide +kernel
theorem dX11_rollOf_17 : decode cX11_rollOf 17 = .ok (.ireturn, 1) := by decide +kernel
theorem dX11_emits_0 : decode cX11_emits 0 = .ok (.aload_n 0, 1) := by decide +kernel
theorem dX11_emits_1 : decode cX11_emits 1 = .ok (.getfield 20, 3) := by decide +kernel
theorem dX11_emits_4 : decode cX11_emits 4 = .ok (.aload_n 0, 1) := by decide +kernel
theorem dX11_emits_5 : decode cX11_emits 5 = .ok (.getfield 106, 3) := by decide +kernel
theorem dX11_emits_8 : decode cX11_emits 8 = .ok (.iload_n 1, 1) := by decide +kernel
theorem dX11_emits_9 : decode cX11_emits 9 = .ok (.iastore, 1) := by decide +kernel
theorem dX11_emits_10 : decode cX11_emits 10 = .ok (.aload_n 0, 1) := by decide +kernel
theorem dX11_emits_11 : decode cX11_emits 11 = .ok (.getfield 23, 3) := by decide +kernel
theorem dX11_emits_14 : decode cX11_emits 14 = .ok (.aload_n 0, 1) := by decide +kernel
theorem dX11_emits_15 : decode cX11_emits 15 = .ok (.getfield 106, 3) := by decide +kernel
theorem dX11_emits_18 : decode cX11_emits 18 = .ok (.iload_n 2, 1) := by decide +kernel
theorem dX11_emits_19 : decode cX11_emits 19 = .ok (.iastore, 1) := by decide +kernel
theorem dX11_emits_20 : decode cX11_emits 20 = .ok (.aload_n 0, 1) := by decide +kernel
theorem dX11_emits_21 : decode cX11_emits 21 = .ok (.dup, 1) := by decide +kernel
theorem dX11_emits_22 : decode cX11_emits 22 = .ok (.getfield 106, 3) := by decide +kernel
theorem dX11_emits_25 : decode cX11_emits 25 = .ok (.iconst 1, 1) := by decide +kernel
theorem dX11_emits_26 : decode cX11_emits 26 = .ok (.iadd, 1) := by decide +kernel
theorem dX11_emits_27 : decode cX11_emits 27 = .ok (.putfield 106, 3) := by decide +kernel
theorem dX11_emits_30 : decode cX11_emits 30 = .ok (.return_, 1) := by decide +kernel
theorem dX11_holds_0 : decode cX11_holds 0 = .ok (.iload_n 0, 1) := by decide +kernel
theorem dX11_holds_1 : decode cX11_holds 1 = .ok (.tableswitch 83 2 12 #[59, 62, 65, 67, 69, 71, 73, 75, 77, 79, 81], 59) := by decide +kernel
theorem dX11_holds_60 : decode cX11_holds 60 = .ok (.bipush 6, 2) := by decide +kernel
theorem dX11_holds_62 : decode cX11_holds 62 = .ok (.ireturn, 1) := by decide +kernel
theorem dX11_holds_63 : decode cX11_holds 63 = .ok (.bipush 6, 2) := by decide +kernel
theorem dX11_holds_65 : decode cX11_holds 65 = .ok (.ireturn, 1) := by decide +kernel
theorem dX11_holds_66 : decode cX11_holds 66 = .ok (.iconst 5, 1) := by decide +kernel
theorem dX11_holds_67 : decode cX11_holds 67 = .ok (.ireturn, 1) := by decide +kernel
theorem dX11_holds_68 : decode cX11_holds 68 = .ok (.iconst 5, 1) := by decide +kernel
theorem dX11_holds_69 : decode cX11_holds 69 = .ok (.ireturn, 1) := by decide +kernel
theorem dX11_holds_70 : decode cX11_holds 70 = .ok (.iconst 4, 1) := by decide +kernel
theorem dX11_holds_71 : decode cX11_holds 71 = .ok (.ireturn, 1) := by decide +kernel
theorem dX11_holds_72 : decode cX11_holds 72 = .ok (.iconst 4, 1) := by decide +kernel
theorem dX11_holds_73 : decode cX11_holds 73 = .ok (.ireturn, 1) := by decide +kernel
theorem dX11_holds_74 : decode cX11_holds 74 = .ok (.iconst 3, 1) := by decide +kernel
theorem dX11_holds_75 : decode cX11_holds 75 = .ok (.ireturn, 1) := by decide +kernel
theorem dX11_holds_76 : decode cX11_holds 76 = .ok (.iconst 3, 1) := by decide +kernel
theorem dX11_holds_77 : decode cX11_holds 77 = .ok (.ireturn, 1) := by decide +kernel
theorem dX11_holds_78 : decode cX11_holds 78 = .ok (.iconst 3, 1) := by decide +kernel
theorem dX11_holds_79 : decode cX11_holds 79 = .ok (.ireturn, 1) := by decide +kernel
theorem dX11_holds_80 : decode cX11_holds 80 = .ok (.iconst 2, 1) := by decide +kernel
theorem dX11_holds_81 : decode cX11_holds 81 = .ok (.ireturn, 1) := by decide +kernel
theorem dX11_holds_82 : decode cX11_holds 82 = .ok (.iconst 1, 1) := by decide +kernel
theorem dX11_holds_83 : decode cX11_holds 83 = .ok (.ireturn, 1) := by decide +kernel
theorem dX11_holds_84 : decode cX11_holds 84 = .ok (.iconst 0, 1) := by decide +kernel
theorem dX11_holds_85 : decode cX11_holds 85 = .ok (.ireturn, 1) := by decide +kernel

theorem dX10_roll_0 : decode cX10_roll 0 = .ok (.iload_n 1, 1) := by decide +kernel
theorem dX10_roll_1 : decode cX10_roll 1 = .ok (.aload_n 0, 1) := by decide +kernel
theorem dX10_roll_2 : decode cX10_roll 2 = .ok (.getfield 20, 3) := by decide +kernel
theorem dX10_roll_5 : decode cX10_roll 5 = .ok (.invokevirtual 85, 3) := by decide +kernel
theorem dX10_roll_8 : decode cX10_roll 8 = .ok (.iconst (-1), 1) := by decide +kernel
theorem dX10_roll_9 : decode cX10_roll 9 = .ok (.ixor, 1) := by decide +kernel
theorem dX10_roll_10 : decode cX10_roll 10 = .ok (.iand, 1) := by decide +kernel
theorem dX10_roll_11 : decode cX10_roll 11 = .ok (.ifCond .ne 21, 3) := by decide +kernel
theorem dX10_roll_14 : decode cX10_roll 14 = .ok (.iload_n 2, 1) := by decide +kernel
theorem dX10_roll_15 : decode cX10_roll 15 = .ok (.iconst 0, 1) := by decide +kernel
theorem dX10_roll_16 : decode cX10_roll 16 = .ok (.sipush 199, 3) := by decide +kernel
theorem dX10_roll_19 : decode cX10_roll 19 = .ok (.invokestatic 53, 3) := by decide +kernel
theorem dX10_roll_22 : decode cX10_roll 22 = .ok (.ifCond .eq 10, 3) := by decide +kernel
theorem dX10_roll_25 : decode cX10_roll 25 = .ok (.iload_n 3, 1) := by decide +kernel
theorem dX10_roll_26 : decode cX10_roll 26 = .ok (.invokestatic 79, 3) := by decide +kernel
theorem dX10_roll_29 : decode cX10_roll 29 = .ok (.ifCond .ne 6, 3) := by decide +kernel
theorem dX10_roll_32 : decode cX10_roll 32 = .ok (.bipush (-2), 2) := by decide +kernel
theorem dX10_roll_34 : decode cX10_roll 34 = .ok (.ireturn, 1) := by decide +kernel
theorem dX10_roll_35 : decode cX10_roll 35 = .ok (.aload_n 0, 1) := by decide +kernel
theorem dX10_roll_36 : decode cX10_roll 36 = .ok (.getfield 20, 3) := by decide +kernel
theorem dX10_roll_39 : decode cX10_roll 39 = .ok (.getfield 88, 3) := by decide +kernel
theorem dX10_roll_42 : decode cX10_roll 42 = .ok (.invokevirtual 61, 3) := by decide +kernel
theorem dX10_roll_45 : decode cX10_roll 45 = .ok (.istore 4, 2) := by decide +kernel
theorem dX10_roll_47 : decode cX10_roll 47 = .ok (.iload 4, 2) := by decide +kernel
theorem dX10_roll_49 : decode cX10_roll 49 = .ok (.bipush (-4), 2) := by decide +kernel
theorem dX10_roll_51 : decode cX10_roll 51 = .ok (.if_icmp .ne 6, 3) := by decide +kernel
theorem dX10_roll_54 : decode cX10_roll 54 = .ok (.bipush (-4), 2) := by decide +kernel
theorem dX10_roll_56 : decode cX10_roll 56 = .ok (.ireturn, 1) := by decide +kernel
theorem dX10_roll_57 : decode cX10_roll 57 = .ok (.aload_n 0, 1) := by decide +kernel
theorem dX10_roll_58 : decode cX10_roll 58 = .ok (.getfield 20, 3) := by decide +kernel
theorem dX10_roll_61 : decode cX10_roll 61 = .ok (.getfield 88, 3) := by decide +kernel
theorem dX10_roll_64 : decode cX10_roll 64 = .ok (.iload 4, 2) := by decide +kernel
theorem dX10_roll_66 : decode cX10_roll 66 = .ok (.iconst 0, 1) := by decide +kernel
theorem dX10_roll_67 : decode cX10_roll 67 = .ok (.iload_n 1, 1) := by decide +kernel
theorem dX10_roll_68 : decode cX10_roll 68 = .ok (.invokevirtual 67, 3) := by decide +kernel
theorem dX10_roll_71 : decode cX10_roll 71 = .ok (.aload_n 0, 1) := by decide +kernel
theorem dX10_roll_72 : decode cX10_roll 72 = .ok (.getfield 20, 3) := by decide +kernel
theorem dX10_roll_75 : decode cX10_roll 75 = .ok (.getfield 88, 3) := by decide +kernel
theorem dX10_roll_78 : decode cX10_roll 78 = .ok (.iload 4, 2) := by decide +kernel
theorem dX10_roll_80 : decode cX10_roll 80 = .ok (.iconst 1, 1) := by decide +kernel
theorem dX10_roll_81 : decode cX10_roll 81 = .ok (.iload_n 2, 1) := by decide +kernel
theorem dX10_roll_82 : decode cX10_roll 82 = .ok (.invokevirtual 67, 3) := by decide +kernel
theorem dX10_roll_85 : decode cX10_roll 85 = .ok (.aload_n 0, 1) := by decide +kernel
theorem dX10_roll_86 : decode cX10_roll 86 = .ok (.getfield 20, 3) := by decide +kernel
theorem dX10_roll_89 : decode cX10_roll 89 = .ok (.getfield 88, 3) := by decide +kernel
theorem dX10_roll_92 : decode cX10_roll 92 = .ok (.iload 4, 2) := by decide +kernel
theorem dX10_roll_94 : decode cX10_roll 94 = .ok (.iconst 2, 1) := by decide +kernel
theorem dX10_roll_95 : decode cX10_roll 95 = .ok (.iload_n 3, 1) := by decide +kernel
theorem dX10_roll_96 : decode cX10_roll 96 = .ok (.invokevirtual 67, 3) := by decide +kernel
theorem dX10_roll_99 : decode cX10_roll 99 = .ok (.aload_n 0, 1) := by decide +kernel
theorem dX10_roll_100 : decode cX10_roll 100 = .ok (.getfield 12, 3) := by decide +kernel
theorem dX10_roll_103 : decode cX10_roll 103 = .ok (.iconst 0, 1) := by decide +kernel
theorem dX10_roll_104 : decode cX10_roll 104 = .ok (.invokevirtual 71, 3) := by decide +kernel
theorem dX10_roll_107 : decode cX10_roll 107 = .ok (.iload 4, 2) := by decide +kernel
theorem dX10_roll_109 : decode cX10_roll 109 = .ok (.ireturn, 1) := by decide +kernel
theorem dX10_rollOf_0 : decode cX10_rollOf 0 = .ok (.iload_n 1, 1) := by decide +kernel
theorem dX10_rollOf_1 : decode cX10_rollOf 1 = .ok (.invokestatic 79, 3) := by decide +kernel
theorem dX10_rollOf_4 : decode cX10_rollOf 4 = .ok (.ifCond .eq 14, 3) := by decide +kernel
theorem dX10_rollOf_7 : decode cX10_rollOf 7 = .ok (.aload_n 0, 1) := by decide +kernel
theorem dX10_rollOf_8 : decode cX10_rollOf 8 = .ok (.getfield 20, 3) := by decide +kernel
theorem dX10_rollOf_11 : decode cX10_rollOf 11 = .ok (.iload_n 1, 1) := by decide +kernel
theorem dX10_rollOf_12 : decode cX10_rollOf 12 = .ok (.invokevirtual 91, 3) := by decide +kernel
theorem dX10_rollOf_15 : decode cX10_rollOf 15 = .ok (.goto 5, 3) := by decide +kernel
theorem dX10_rollOf_18 : decode cX10_rollOf 18 = .ok (.bipush (-2), 2) := by decide +kernel
theorem dX10_rollOf_20 : decode cX10_rollOf 20 = .ok (.ireturn, 1) := by decide +kernel
theorem dX10_write_0 : decode cX10_write 0 = .ok (.iload_n 1, 1) := by decide +kernel
theorem dX10_write_1 : decode cX10_write 1 = .ok (.invokestatic 95, 3) := by decide +kernel
theorem dX10_write_4 : decode cX10_write 4 = .ok (.ifCond .eq 13, 3) := by decide +kernel
theorem dX10_write_7 : decode cX10_write 7 = .ok (.iload_n 2, 1) := by decide +kernel
theorem dX10_write_8 : decode cX10_write 8 = .ok (.iconst 0, 1) := by decide +kernel
theorem dX10_write_9 : decode cX10_write 9 = .ok (.bipush 127, 2) := by decide +kernel
theorem dX10_write_11 : decode cX10_write 11 = .ok (.invokestatic 53, 3) := by decide +kernel
theorem dX10_write_14 : decode cX10_write 14 = .ok (.ifCond .ne 6, 3) := by decide +kernel
theorem dX10_write_17 : decode cX10_write 17 = .ok (.bipush (-2), 2) := by decide +kernel
theorem dX10_write_19 : decode cX10_write 19 = .ok (.ireturn, 1) := by decide +kernel
theorem dX10_write_20 : decode cX10_write 20 = .ok (.aload_n 0, 1) := by decide +kernel
theorem dX10_write_21 : decode cX10_write 21 = .ok (.getfield 20, 3) := by decide +kernel
theorem dX10_write_24 : decode cX10_write 24 = .ok (.getfield 98, 3) := by decide +kernel
theorem dX10_write_27 : decode cX10_write 27 = .ok (.iload_n 1, 1) := by decide +kernel
theorem dX10_write_28 : decode cX10_write 28 = .ok (.invokevirtual 102, 3) := by decide +kernel
theorem dX10_write_31 : decode cX10_write 31 = .ok (.iload_n 2, 1) := by decide +kernel
theorem dX10_write_32 : decode cX10_write 32 = .ok (.invokevirtual 108, 3) := by decide +kernel
theorem dX10_write_35 : decode cX10_write 35 = .ok (.ireturn, 1) := by decide +kernel
theorem dX10_erase_0 : decode cX10_erase 0 = .ok (.iload_n 1, 1) := by decide +kernel
theorem dX10_erase_1 : decode cX10_erase 1 = .ok (.invokestatic 95, 3) := by decide +kernel
theorem dX10_erase_4 : decode cX10_erase 4 = .ok (.ifCond .eq 20, 3) := by decide +kernel
theorem dX10_erase_7 : decode cX10_erase 7 = .ok (.aload_n 0, 1) := by decide +kernel
theorem dX10_erase_8 : decode cX10_erase 8 = .ok (.getfield 20, 3) := by decide +kernel
theorem dX10_erase_11 : decode cX10_erase 11 = .ok (.getfield 98, 3) := by decide +kernel
theorem dX10_erase_14 : decode cX10_erase 14 = .ok (.iload_n 1, 1) := by decide +kernel
theorem dX10_erase_15 : decode cX10_erase 15 = .ok (.invokevirtual 102, 3) := by decide +kernel
theorem dX10_erase_18 : decode cX10_erase 18 = .ok (.invokevirtual 113, 3) := by decide +kernel
theorem dX10_erase_21 : decode cX10_erase 21 = .ok (.goto 5, 3) := by decide +kernel
theorem dX10_erase_24 : decode cX10_erase 24 = .ok (.bipush (-2), 2) := by decide +kernel
theorem dX10_erase_26 : decode cX10_erase 26 = .ok (.ireturn, 1) := by decide +kernel
theorem dX10_fault_0 : decode cX10_fault 0 = .ok (.iload_n 1, 1) := by decide +kernel
theorem dX10_fault_1 : decode cX10_fault 1 = .ok (.invokestatic 95, 3) := by decide +kernel
theorem dX10_fault_4 : decode cX10_fault 4 = .ok (.ifCond .eq 24, 3) := by decide +kernel
theorem dX10_fault_7 : decode cX10_fault 7 = .ok (.aload_n 0, 1) := by decide +kernel
theorem dX10_fault_8 : decode cX10_fault 8 = .ok (.getfield 34, 3) := by decide +kernel
theorem dX10_fault_11 : decode cX10_fault 11 = .ok (.aload_n 0, 1) := by decide +kernel
theorem dX10_fault_12 : decode cX10_fault 12 = .ok (.getfield 20, 3) := by decide +kernel
theorem dX10_fault_15 : decode cX10_fault 15 = .ok (.getfield 98, 3) := by decide +kernel
theorem dX10_fault_18 : decode cX10_fault 18 = .ok (.iload_n 1, 1) := by decide +kernel
theorem dX10_fault_19 : decode cX10_fault 19 = .ok (.invokevirtual 102, 3) := by decide +kernel
theorem dX10_fault_22 : decode cX10_fault 22 = .ok (.invokevirtual 116, 3) := by decide +kernel
theorem dX10_fault_25 : decode cX10_fault 25 = .ok (.goto 5, 3) := by decide +kernel
theorem dX10_fault_28 : decode cX10_fault 28 = .ok (.bipush (-2), 2) := by decide +kernel
theorem dX10_fault_30 : decode cX10_fault 30 = .ok (.ireturn, 1) := by decide +kernel
theorem dX10_tells_0 : decode cX10_tells 0 = .ok (.iload_n 1, 1) := by decide +kernel
theorem dX10_tells_1 : decode cX10_tells 1 = .ok (.invokestatic 95, 3) := by decide +kernel
theorem dX10_tells_4 : decode cX10_tells 4 = .ok (.ifCond .eq 24, 3) := by decide +kernel
theorem dX10_tells_7 : decode cX10_tells 7 = .ok (.aload_n 0, 1) := by decide +kernel
theorem dX10_tells_8 : decode cX10_tells 8 = .ok (.getfield 20, 3) := by decide +kernel
theorem dX10_tells_11 : decode cX10_tells 11 = .ok (.getfield 57, 3) := by decide +kernel
theorem dX10_tells_14 : decode cX10_tells 14 = .ok (.iload_n 2, 1) := by decide +kernel
theorem dX10_tells_15 : decode cX10_tells 15 = .ok (.invokevirtual 75, 3) := by decide +kernel
theorem dX10_tells_18 : decode cX10_tells 18 = .ok (.ifCond .eq 10, 3) := by decide +kernel
theorem dX10_tells_21 : decode cX10_tells 21 = .ok (.iload_n 3, 1) := by decide +kernel
theorem dX10_tells_22 : decode cX10_tells 22 = .ok (.invokestatic 79, 3) := by decide +kernel
theorem dX10_tells_25 : decode cX10_tells 25 = .ok (.ifCond .ne 7, 3) := by decide +kernel
theorem dX10_tells_28 : decode cX10_tells 28 = .ok (.ldc2_w 120, 3) := by decide +kernel
theorem dX10_tells_31 : decode cX10_tells 31 = .ok (.lreturn, 1) := by decide +kernel
theorem dX10_tells_32 : decode cX10_tells 32 = .ok (.aload_n 0, 1) := by decide +kernel
theorem dX10_tells_33 : decode cX10_tells 33 = .ok (.getfield 20, 3) := by decide +kernel
theorem dX10_tells_36 : decode cX10_tells 36 = .ok (.getfield 98, 3) := by decide +kernel
theorem dX10_tells_39 : decode cX10_tells 39 = .ok (.iload_n 1, 1) := by decide +kernel
theorem dX10_tells_40 : decode cX10_tells 40 = .ok (.invokevirtual 102, 3) := by decide +kernel
theorem dX10_tells_43 : decode cX10_tells 43 = .ok (.astore 4, 2) := by decide +kernel
theorem dX10_tells_45 : decode cX10_tells 45 = .ok (.aload_n 0, 1) := by decide +kernel
theorem dX10_tells_46 : decode cX10_tells 46 = .ok (.getfield 34, 3) := by decide +kernel
theorem dX10_tells_49 : decode cX10_tells 49 = .ok (.aload 4, 2) := by decide +kernel
theorem dX10_tells_51 : decode cX10_tells 51 = .ok (.invokevirtual 116, 3) := by decide +kernel
theorem dX10_tells_54 : decode cX10_tells 54 = .ok (.iconst (-1), 1) := by decide +kernel
theorem dX10_tells_55 : decode cX10_tells 55 = .ok (.if_icmp .eq 7, 3) := by decide +kernel
theorem dX10_tells_58 : decode cX10_tells 58 = .ok (.ldc2_w 122, 3) := by decide +kernel
theorem dX10_tells_61 : decode cX10_tells 61 = .ok (.lreturn, 1) := by decide +kernel
theorem dX10_tells_62 : decode cX10_tells 62 = .ok (.aload_n 0, 1) := by decide +kernel
theorem dX10_tells_63 : decode cX10_tells 63 = .ok (.getfield 12, 3) := by decide +kernel
theorem dX10_tells_66 : decode cX10_tells 66 = .ok (.invokevirtual 124, 3) := by decide +kernel
theorem dX10_tells_69 : decode cX10_tells 69 = .ok (.aload_n 0, 1) := by decide +kernel
theorem dX10_tells_70 : decode cX10_tells 70 = .ok (.getfield 12, 3) := by decide +kernel
theorem dX10_tells_73 : decode cX10_tells 73 = .ok (.aload 4, 2) := by decide +kernel
theorem dX10_tells_75 : decode cX10_tells 75 = .ok (.iload_n 2, 1) := by decide +kernel
theorem dX10_tells_76 : decode cX10_tells 76 = .ok (.iload_n 3, 1) := by decide +kernel
theorem dX10_tells_77 : decode cX10_tells 77 = .ok (.invokevirtual 127, 3) := by decide +kernel
theorem dX10_tells_80 : decode cX10_tells 80 = .ok (.lreturn, 1) := by decide +kernel
theorem dX10_act_0 : decode cX10_act 0 = .ok (.iload_n 1, 1) := by decide +kernel
theorem dX10_act_1 : decode cX10_act 1 = .ok (.invokestatic 95, 3) := by decide +kernel
theorem dX10_act_4 : decode cX10_act 4 = .ok (.ifCond .eq 17, 3) := by decide +kernel
theorem dX10_act_7 : decode cX10_act 7 = .ok (.iload_n 2, 1) := by decide +kernel
theorem dX10_act_8 : decode cX10_act 8 = .ok (.invokestatic 131, 3) := by decide +kernel
theorem dX10_act_11 : decode cX10_act 11 = .ok (.ifCond .eq 10, 3) := by decide +kernel
theorem dX10_act_14 : decode cX10_act 14 = .ok (.iload_n 3, 1) := by decide +kernel
theorem dX10_act_15 : decode cX10_act 15 = .ok (.invokestatic 79, 3) := by decide +kernel
theorem dX10_act_18 : decode cX10_act 18 = .ok (.ifCond .ne 6, 3) := by decide +kernel
theorem dX10_act_21 : decode cX10_act 21 = .ok (.bipush (-2), 2) := by decide +kernel
theorem dX10_act_23 : decode cX10_act 23 = .ok (.ireturn, 1) := by decide +kernel
theorem dX10_act_24 : decode cX10_act 24 = .ok (.aload_n 0, 1) := by decide +kernel
theorem dX10_act_25 : decode cX10_act 25 = .ok (.getfield 20, 3) := by decide +kernel
theorem dX10_act_28 : decode cX10_act 28 = .ok (.getfield 98, 3) := by decide +kernel
theorem dX10_act_31 : decode cX10_act 31 = .ok (.iload_n 1, 1) := by decide +kernel
theorem dX10_act_32 : decode cX10_act 32 = .ok (.invokevirtual 102, 3) := by decide +kernel
theorem dX10_act_35 : decode cX10_act 35 = .ok (.astore 4, 2) := by decide +kernel
theorem dX10_act_37 : decode cX10_act 37 = .ok (.aload_n 0, 1) := by decide +kernel
theorem dX10_act_38 : decode cX10_act 38 = .ok (.getfield 34, 3) := by decide +kernel
theorem dX10_act_41 : decode cX10_act 41 = .ok (.aload 4, 2) := by decide +kernel
theorem dX10_act_43 : decode cX10_act 43 = .ok (.invokevirtual 116, 3) := by decide +kernel
theorem dX10_act_46 : decode cX10_act 46 = .ok (.iconst (-1), 1) := by decide +kernel
theorem dX10_act_47 : decode cX10_act 47 = .ok (.if_icmp .eq 6, 3) := by decide +kernel
theorem dX10_act_50 : decode cX10_act 50 = .ok (.bipush (-3), 2) := by decide +kernel
theorem dX10_act_52 : decode cX10_act 52 = .ok (.ireturn, 1) := by decide +kernel
theorem dX10_act_53 : decode cX10_act 53 = .ok (.aload_n 0, 1) := by decide +kernel
theorem dX10_act_54 : decode cX10_act 54 = .ok (.getfield 20, 3) := by decide +kernel
theorem dX10_act_57 : decode cX10_act 57 = .ok (.getfield 134, 3) := by decide +kernel
theorem dX10_act_60 : decode cX10_act 60 = .ok (.invokevirtual 61, 3) := by decide +kernel
theorem dX10_act_63 : decode cX10_act 63 = .ok (.istore 5, 2) := by decide +kernel
theorem dX10_act_65 : decode cX10_act 65 = .ok (.iload 5, 2) := by decide +kernel
theorem dX10_act_67 : decode cX10_act 67 = .ok (.bipush (-4), 2) := by decide +kernel
theorem dX10_act_69 : decode cX10_act 69 = .ok (.if_icmp .ne 6, 3) := by decide +kernel
theorem dX10_act_72 : decode cX10_act 72 = .ok (.bipush (-4), 2) := by decide +kernel
theorem dX10_act_74 : decode cX10_act 74 = .ok (.ireturn, 1) := by decide +kernel
theorem dX10_act_75 : decode cX10_act 75 = .ok (.aload_n 0, 1) := by decide +kernel
theorem dX10_act_76 : decode cX10_act 76 = .ok (.getfield 20, 3) := by decide +kernel
theorem dX10_act_79 : decode cX10_act 79 = .ok (.getfield 134, 3) := by decide +kernel
theorem dX10_act_82 : decode cX10_act 82 = .ok (.iload 5, 2) := by decide +kernel
theorem dX10_act_84 : decode cX10_act 84 = .ok (.iconst 0, 1) := by decide +kernel
theorem dX10_act_85 : decode cX10_act 85 = .ok (.iload_n 2, 1) := by decide +kernel
theorem dX10_act_86 : decode cX10_act 86 = .ok (.invokevirtual 67, 3) := by decide +kernel
theorem dX10_act_89 : decode cX10_act 89 = .ok (.aload_n 0, 1) := by decide +kernel
theorem dX10_act_90 : decode cX10_act 90 = .ok (.getfield 20, 3) := by decide +kernel
theorem dX10_act_93 : decode cX10_act 93 = .ok (.getfield 134, 3) := by decide +kernel
theorem dX10_act_96 : decode cX10_act 96 = .ok (.iload 5, 2) := by decide +kernel
theorem dX10_act_98 : decode cX10_act 98 = .ok (.iconst 1, 1) := by decide +kernel
theorem dX10_act_99 : decode cX10_act 99 = .ok (.iload_n 3, 1) := by decide +kernel
theorem dX10_act_100 : decode cX10_act 100 = .ok (.invokevirtual 67, 3) := by decide +kernel
theorem dX10_act_103 : decode cX10_act 103 = .ok (.aload_n 0, 1) := by decide +kernel
theorem dX10_act_104 : decode cX10_act 104 = .ok (.getfield 20, 3) := by decide +kernel
theorem dX10_act_107 : decode cX10_act 107 = .ok (.getfield 134, 3) := by decide +kernel
theorem dX10_act_110 : decode cX10_act 110 = .ok (.iload 5, 2) := by decide +kernel
theorem dX10_act_112 : decode cX10_act 112 = .ok (.iconst 2, 1) := by decide +kernel
theorem dX10_act_113 : decode cX10_act 113 = .ok (.iconst (-1), 1) := by decide +kernel
theorem dX10_act_114 : decode cX10_act 114 = .ok (.invokevirtual 67, 3) := by decide +kernel
theorem dX10_act_117 : decode cX10_act 117 = .ok (.aload_n 0, 1) := by decide +kernel
theorem dX10_act_118 : decode cX10_act 118 = .ok (.getfield 20, 3) := by decide +kernel
theorem dX10_act_121 : decode cX10_act 121 = .ok (.getfield 137, 3) := by decide +kernel
theorem dX10_act_124 : decode cX10_act 124 = .ok (.iload 5, 2) := by decide +kernel
theorem dX10_act_126 : decode cX10_act 126 = .ok (.invokevirtual 102, 3) := by decide +kernel
theorem dX10_act_129 : decode cX10_act 129 = .ok (.aload 4, 2) := by decide +kernel
theorem dX10_act_131 : decode cX10_act 131 = .ok (.invokevirtual 140, 3) := by decide +kernel
theorem dX10_act_134 : decode cX10_act 134 = .ok (.aload_n 0, 1) := by decide +kernel
theorem dX10_act_135 : decode cX10_act 135 = .ok (.getfield 12, 3) := by decide +kernel
theorem dX10_act_138 : decode cX10_act 138 = .ok (.iconst 0, 1) := by decide +kernel
theorem dX10_act_139 : decode cX10_act 139 = .ok (.invokevirtual 71, 3) := by decide +kernel
theorem dX10_act_142 : decode cX10_act 142 = .ok (.iload 5, 2) := by decide +kernel
theorem dX10_act_144 : decode cX10_act 144 = .ok (.ireturn, 1) := by decide +kernel
theorem dX10_strikeOut_0 : decode cX10_strikeOut 0 = .ok (.aload_n 0, 1) := by decide +kernel
theorem dX10_strikeOut_1 : decode cX10_strikeOut 1 = .ok (.getfield 20, 3) := by decide +kernel
theorem dX10_strikeOut_4 : decode cX10_strikeOut 4 = .ok (.getfield 134, 3) := by decide +kernel
theorem dX10_strikeOut_7 : decode cX10_strikeOut 7 = .ok (.iload_n 1, 1) := by decide +kernel
theorem dX10_strikeOut_8 : decode cX10_strikeOut 8 = .ok (.invokevirtual 75, 3) := by decide +kernel
theorem dX10_strikeOut_11 : decode cX10_strikeOut 11 = .ok (.ifCond .eq 10, 3) := by decide +kernel
theorem dX10_strikeOut_14 : decode cX10_strikeOut 14 = .ok (.iload_n 2, 1) := by decide +kernel
theorem dX10_strikeOut_15 : decode cX10_strikeOut 15 = .ok (.invokestatic 79, 3) := by decide +kernel
theorem dX10_strikeOut_18 : decode cX10_strikeOut 18 = .ok (.ifCond .ne 6, 3) := by decide +kernel
theorem dX10_strikeOut_21 : decode cX10_strikeOut 21 = .ok (.bipush (-2), 2) := by decide +kernel
theorem dX10_strikeOut_23 : decode cX10_strikeOut 23 = .ok (.ireturn, 1) := by decide +kernel
theorem dX10_strikeOut_24 : decode cX10_strikeOut 24 = .ok (.aload_n 0, 1) := by decide +kernel
theorem dX10_strikeOut_25 : decode cX10_strikeOut 25 = .ok (.getfield 20, 3) := by decide +kernel
theorem dX10_strikeOut_28 : decode cX10_strikeOut 28 = .ok (.getfield 134, 3) := by decide +kernel
theorem dX10_strikeOut_31 : decode cX10_strikeOut 31 = .ok (.iload_n 1, 1) := by decide +kernel
theorem dX10_strikeOut_32 : decode cX10_strikeOut 32 = .ok (.iconst 2, 1) := by decide +kernel
theorem dX10_strikeOut_33 : decode cX10_strikeOut 33 = .ok (.invokevirtual 144, 3) := by decide +kernel
theorem dX10_strikeOut_36 : decode cX10_strikeOut 36 = .ok (.iconst (-1), 1) := by decide +kernel
theorem dX10_strikeOut_37 : decode cX10_strikeOut 37 = .ok (.if_icmp .eq 6, 3) := by decide +kernel
theorem dX10_strikeOut_40 : decode cX10_strikeOut 40 = .ok (.bipush (-3), 2) := by decide +kernel
theorem dX10_strikeOut_42 : decode cX10_strikeOut 42 = .ok (.ireturn, 1) := by decide +kernel
theorem dX10_strikeOut_43 : decode cX10_strikeOut 43 = .ok (.aload_n 0, 1) := by decide +kernel
theorem dX10_strikeOut_44 : decode cX10_strikeOut 44 = .ok (.getfield 20, 3) := by decide +kernel
theorem dX10_strikeOut_47 : decode cX10_strikeOut 47 = .ok (.getfield 134, 3) := by decide +kernel
theorem dX10_strikeOut_50 : decode cX10_strikeOut 50 = .ok (.iload_n 1, 1) := by decide +kernel
theorem dX10_strikeOut_51 : decode cX10_strikeOut 51 = .ok (.iconst 2, 1) := by decide +kernel
theorem dX10_strikeOut_52 : decode cX10_strikeOut 52 = .ok (.iload_n 2, 1) := by decide +kernel
theorem dX10_strikeOut_53 : decode cX10_strikeOut 53 = .ok (.invokevirtual 67, 3) := by decide +kernel
theorem dX10_strikeOut_56 : decode cX10_strikeOut 56 = .ok (.aload_n 0, 1) := by decide +kernel
theorem dX10_strikeOut_57 : decode cX10_strikeOut 57 = .ok (.getfield 12, 3) := by decide +kernel
theorem dX10_strikeOut_60 : decode cX10_strikeOut 60 = .ok (.iconst 0, 1) := by decide +kernel
theorem dX10_strikeOut_61 : decode cX10_strikeOut 61 = .ok (.invokevirtual 71, 3) := by decide +kernel
theorem dX10_strikeOut_64 : decode cX10_strikeOut 64 = .ok (.iconst 1, 1) := by decide +kernel
theorem dX10_strikeOut_65 : decode cX10_strikeOut 65 = .ok (.ireturn, 1) := by decide +kernel
theorem dX10_force_0 : decode cX10_force 0 = .ok (.iload_n 1, 1) := by decide +kernel
theorem dX10_force_1 : decode cX10_force 1 = .ok (.invokestatic 131, 3) := by decide +kernel
theorem dX10_force_4 : decode cX10_force 4 = .ok (.ifCond .eq 22, 3) := by decide +kernel
theorem dX10_force_7 : decode cX10_force 7 = .ok (.iload_n 2, 1) := by decide +kernel
theorem dX10_force_8 : decode cX10_force 8 = .ok (.invokestatic 79, 3) := by decide +kernel
theorem dX10_force_11 : decode cX10_force 11 = .ok (.ifCond .eq 15, 3) := by decide +kernel
theorem dX10_force_14 : decode cX10_force 14 = .ok (.aload_n 0, 1) := by decide +kernel
theorem dX10_force_15 : decode cX10_force 15 = .ok (.getfield 20, 3) := by decide +kernel
theorem dX10_force_18 : decode cX10_force 18 = .ok (.iload_n 1, 1) := by decide +kernel
theorem dX10_force_19 : decode cX10_force 19 = .ok (.iload_n 2, 1) := by decide +kernel
theorem dX10_force_20 : decode cX10_force 20 = .ok (.invokevirtual 148, 3) := by decide +kernel
theorem dX10_force_23 : decode cX10_force 23 = .ok (.goto 5, 3) := by decide +kernel
theorem dX10_force_26 : decode cX10_force 26 = .ok (.bipush (-2), 2) := by decide +kernel
theorem dX10_force_28 : decode cX10_force 28 = .ok (.ireturn, 1) := by decide +kernel
theorem dX10_may_0 : decode cX10_may 0 = .ok (.aload_n 0, 1) := by decide +kernel
theorem dX10_may_1 : decode cX10_may 1 = .ok (.getfield 20, 3) := by decide +kernel
theorem dX10_may_4 : decode cX10_may 4 = .ok (.getfield 57, 3) := by decide +kernel
theorem dX10_may_7 : decode cX10_may 7 = .ok (.iload_n 1, 1) := by decide +kernel
theorem dX10_may_8 : decode cX10_may 8 = .ok (.invokevirtual 75, 3) := by decide +kernel
theorem dX10_may_11 : decode cX10_may 11 = .ok (.ifCond .eq 17, 3) := by decide +kernel
theorem dX10_may_14 : decode cX10_may 14 = .ok (.iload_n 2, 1) := by decide +kernel
theorem dX10_may_15 : decode cX10_may 15 = .ok (.invokestatic 79, 3) := by decide +kernel
theorem dX10_may_18 : decode cX10_may 18 = .ok (.ifCond .eq 10, 3) := by decide +kernel
theorem dX10_may_21 : decode cX10_may 21 = .ok (.iload_n 3, 1) := by decide +kernel
theorem dX10_may_22 : decode cX10_may 22 = .ok (.invokestatic 131, 3) := by decide +kernel
theorem dX10_may_25 : decode cX10_may 25 = .ok (.ifCond .ne 6, 3) := by decide +kernel
theorem dX10_may_28 : decode cX10_may 28 = .ok (.bipush (-2), 2) := by decide +kernel
theorem dX10_may_30 : decode cX10_may 30 = .ok (.ireturn, 1) := by decide +kernel
theorem dX10_may_31 : decode cX10_may 31 = .ok (.aload_n 0, 1) := by decide +kernel
theorem dX10_may_32 : decode cX10_may 32 = .ok (.getfield 12, 3) := by decide +kernel
theorem dX10_may_35 : decode cX10_may 35 = .ok (.invokevirtual 124, 3) := by decide +kernel
theorem dX10_may_38 : decode cX10_may 38 = .ok (.aload_n 0, 1) := by decide +kernel
theorem dX10_may_39 : decode cX10_may 39 = .ok (.getfield 12, 3) := by decide +kernel
theorem dX10_may_42 : decode cX10_may 42 = .ok (.aload_n 0, 1) := by decide +kernel
theorem dX10_may_43 : decode cX10_may 43 = .ok (.getfield 20, 3) := by decide +kernel
theorem dX10_may_46 : decode cX10_may 46 = .ok (.iload_n 3, 1) := by decide +kernel
theorem dX10_may_47 : decode cX10_may 47 = .ok (.iload_n 2, 1) := by decide +kernel
theorem dX10_may_48 : decode cX10_may 48 = .ok (.invokevirtual 151, 3) := by decide +kernel
theorem dX10_may_51 : decode cX10_may 51 = .ok (.iload_n 3, 1) := by decide +kernel
theorem dX10_may_52 : decode cX10_may 52 = .ok (.iload_n 2, 1) := by decide +kernel
theorem dX10_may_53 : decode cX10_may 53 = .ok (.iconst 1, 1) := by decide +kernel
theorem dX10_may_54 : decode cX10_may 54 = .ok (.iload_n 1, 1) := by decide +kernel
theorem dX10_may_55 : decode cX10_may 55 = .ok (.ishl, 1) := by decide +kernel
theorem dX10_may_56 : decode cX10_may 56 = .ok (.invokevirtual 155, 3) := by decide +kernel
theorem dX10_may_59 : decode cX10_may 59 = .ok (.ifCond .eq 7, 3) := by decide +kernel
theorem dX10_may_62 : decode cX10_may 62 = .ok (.iconst 1, 1) := by decide +kernel
theorem dX10_may_63 : decode cX10_may 63 = .ok (.goto 4, 3) := by decide +kernel
theorem dX10_may_66 : decode cX10_may 66 = .ok (.iconst 0, 1) := by decide +kernel
theorem dX10_may_67 : decode cX10_may 67 = .ok (.ireturn, 1) := by decide +kernel
theorem dX10_trial_0 : decode cX10_trial 0 = .ok (.aload_n 0, 1) := by decide +kernel
theorem dX10_trial_1 : decode cX10_trial 1 = .ok (.iload_n 1, 1) := by decide +kernel
theorem dX10_trial_2 : decode cX10_trial 2 = .ok (.invokevirtual 159, 3) := by decide +kernel
theorem dX10_trial_5 : decode cX10_trial 5 = .ok (.ifCond .eq 76, 3) := by decide +kernel
theorem dX10_trial_8 : decode cX10_trial 8 = .ok (.iload_n 2, 1) := by decide +kernel
theorem dX10_trial_9 : decode cX10_trial 9 = .ok (.iconst 1, 1) := by decide +kernel
theorem dX10_trial_10 : decode cX10_trial 10 = .ok (.bipush 9, 2) := by decide +kernel
theorem dX10_trial_12 : decode cX10_trial 12 = .ok (.invokestatic 53, 3) := by decide +kernel
theorem dX10_trial_15 : decode cX10_trial 15 = .ok (.ifCond .eq 66, 3) := by decide +kernel
theorem dX10_trial_18 : decode cX10_trial 18 = .ok (.iload_n 3, 1) := by decide +kernel
theorem dX10_trial_19 : decode cX10_trial 19 = .ok (.iconst 1, 1) := by decide +kernel
theorem dX10_trial_20 : decode cX10_trial 20 = .ok (.bipush 8, 2) := by decide +kernel
theorem dX10_trial_22 : decode cX10_trial 22 = .ok (.invokestatic 53, 3) := by decide +kernel
theorem dX10_trial_25 : decode cX10_trial 25 = .ok (.ifCond .eq 56, 3) := by decide +kernel
theorem dX10_trial_28 : decode cX10_trial 28 = .ok (.iload 4, 2) := by decide +kernel
theorem dX10_trial_30 : decode cX10_trial 30 = .ok (.iconst (-1), 1) := by decide +kernel
theorem dX10_trial_31 : decode cX10_trial 31 = .ok (.bipush 9, 2) := by decide +kernel
theorem dX10_trial_33 : decode cX10_trial 33 = .ok (.invokestatic 53, 3) := by decide +kernel
theorem dX10_trial_36 : decode cX10_trial 36 = .ok (.ifCond .eq 45, 3) := by decide +kernel
theorem dX10_trial_39 : decode cX10_trial 39 = .ok (.iload 5, 2) := by decide +kernel
theorem dX10_trial_41 : decode cX10_trial 41 = .ok (.iconst (-1), 1) := by decide +kernel
theorem dX10_trial_42 : decode cX10_trial 42 = .ok (.bipush 9, 2) := by decide +kernel
theorem dX10_trial_44 : decode cX10_trial 44 = .ok (.invokestatic 53, 3) := by decide +kernel
theorem dX10_trial_47 : decode cX10_trial 47 = .ok (.ifCond .eq 34, 3) := by decide +kernel
theorem dX10_trial_50 : decode cX10_trial 50 = .ok (.iload 6, 2) := by decide +kernel
theorem dX10_trial_52 : decode cX10_trial 52 = .ok (.iconst (-1), 1) := by decide +kernel
theorem dX10_trial_53 : decode cX10_trial 53 = .ok (.iconst 3, 1) := by decide +kernel
theorem dX10_trial_54 : decode cX10_trial 54 = .ok (.invokestatic 53, 3) := by decide +kernel
theorem dX10_trial_57 : decode cX10_trial 57 = .ok (.ifCond .eq 24, 3) := by decide +kernel
theorem dX10_trial_60 : decode cX10_trial 60 = .ok (.iload 7, 2) := by decide +kernel
theorem dX10_trial_62 : decode cX10_trial 62 = .ok (.iconst 0, 1) := by decide +kernel
theorem dX10_trial_63 : decode cX10_trial 63 = .ok (.iconst 4, 1) := by decide +kernel
theorem dX10_trial_64 : decode cX10_trial 64 = .ok (.invokestatic 53, 3) := by decide +kernel
theorem dX10_trial_67 : decode cX10_trial 67 = .ok (.ifCond .eq 14, 3) := by decide +kernel
theorem dX10_trial_70 : decode cX10_trial 70 = .ok (.iload 9, 2) := by decide +kernel
theorem dX10_trial_72 : decode cX10_trial 72 = .ok (.iconst 1, 1) := by decide +kernel
theorem dX10_trial_73 : decode cX10_trial 73 = .ok (.bipush 24, 2) := by decide +kernel
theorem dX10_trial_75 : decode cX10_trial 75 = .ok (.invokestatic 53, 3) := by decide +kernel
theorem dX10_trial_78 : decode cX10_trial 78 = .ok (.ifCond .ne 6, 3) := by decide +kernel
theorem dX10_trial_81 : decode cX10_trial 81 = .ok (.bipush (-2), 2) := by decide +kernel
theorem dX10_trial_83 : decode cX10_trial 83 = .ok (.ireturn, 1) := by decide +kernel
theorem dX10_trial_84 : decode cX10_trial 84 = .ok (.aload_n 0, 1) := by decide +kernel
theorem dX10_trial_85 : decode cX10_trial 85 = .ok (.getfield 20, 3) := by decide +kernel
theorem dX10_trial_88 : decode cX10_trial 88 = .ok (.getfield 162, 3) := by decide +kernel
theorem dX10_trial_91 : decode cX10_trial 91 = .ok (.astore 10, 2) := by decide +kernel
theorem dX10_trial_93 : decode cX10_trial 93 = .ok (.aload 10, 2) := by decide +kernel
theorem dX10_trial_95 : decode cX10_trial 95 = .ok (.invokevirtual 61, 3) := by decide +kernel
theorem dX10_trial_98 : decode cX10_trial 98 = .ok (.istore 11, 2) := by decide +kernel
theorem dX10_trial_100 : decode cX10_trial 100 = .ok (.iload 11, 2) := by decide +kernel
theorem dX10_trial_102 : decode cX10_trial 102 = .ok (.bipush (-4), 2) := by decide +kernel
theorem dX10_trial_104 : decode cX10_trial 104 = .ok (.if_icmp .ne 6, 3) := by decide +kernel
theorem dX10_trial_107 : decode cX10_trial 107 = .ok (.bipush (-4), 2) := by decide +kernel
theorem dX10_trial_109 : decode cX10_trial 109 = .ok (.ireturn, 1) := by decide +kernel
theorem dX10_trial_110 : decode cX10_trial 110 = .ok (.aload 10, 2) := by decide +kernel
theorem dX10_trial_112 : decode cX10_trial 112 = .ok (.iload 11, 2) := by decide +kernel
theorem dX10_trial_114 : decode cX10_trial 114 = .ok (.iconst 0, 1) := by decide +kernel
theorem dX10_trial_115 : decode cX10_trial 115 = .ok (.iload_n 1, 1) := by decide +kernel
theorem dX10_trial_116 : decode cX10_trial 116 = .ok (.invokevirtual 67, 3) := by decide +kernel
theorem dX10_trial_119 : decode cX10_trial 119 = .ok (.aload 10, 2) := by decide +kernel
theorem dX10_trial_121 : decode cX10_trial 121 = .ok (.iload 11, 2) := by decide +kernel
theorem dX10_trial_123 : decode cX10_trial 123 = .ok (.iconst 1, 1) := by decide +kernel
theorem dX10_trial_124 : decode cX10_trial 124 = .ok (.iload_n 2, 1) := by decide +kernel
theorem dX10_trial_125 : decode cX10_trial 125 = .ok (.invokevirtual 67, 3) := by decide +kernel
theorem dX10_trial_128 : decode cX10_trial 128 = .ok (.aload 10, 2) := by decide +kernel
theorem dX10_trial_130 : decode cX10_trial 130 = .ok (.iload 11, 2) := by decide +kernel
theorem dX10_trial_132 : decode cX10_trial 132 = .ok (.iconst 2, 1) := by decide +kernel
theorem dX10_trial_133 : decode cX10_trial 133 = .ok (.iload_n 3, 1) := by decide +kernel
theorem dX10_trial_134 : decode cX10_trial 134 = .ok (.invokevirtual 67, 3) := by decide +kernel
theorem dX10_trial_137 : decode cX10_trial 137 = .ok (.aload 10, 2) := by decide +kernel
theorem dX10_trial_139 : decode cX10_trial 139 = .ok (.iload 11, 2) := by decide +kernel
theorem dX10_trial_141 : decode cX10_trial 141 = .ok (.iconst 3, 1) := by decide +kernel
theorem dX10_trial_142 : decode cX10_trial 142 = .ok (.iload 4, 2) := by decide +kernel
theorem dX10_trial_144 : decode cX10_trial 144 = .ok (.invokevirtual 67, 3) := by decide +kernel
theorem dX10_trial_147 : decode cX10_trial 147 = .ok (.aload 10, 2) := by decide +kernel
theorem dX10_trial_149 : decode cX10_trial 149 = .ok (.iload 11, 2) := by decide +kernel
theorem dX10_trial_151 : decode cX10_trial 151 = .ok (.iconst 4, 1) := by decide +kernel
theorem dX10_trial_152 : decode cX10_trial 152 = .ok (.iload 5, 2) := by decide +kernel
theorem dX10_trial_154 : decode cX10_trial 154 = .ok (.invokevirtual 67, 3) := by decide +kernel
theorem dX10_trial_157 : decode cX10_trial 157 = .ok (.aload 10, 2) := by decide +kernel
theorem dX10_trial_159 : decode cX10_trial 159 = .ok (.iload 11, 2) := by decide +kernel
theorem dX10_trial_161 : decode cX10_trial 161 = .ok (.iconst 5, 1) := by decide +kernel
theorem dX10_trial_162 : decode cX10_trial 162 = .ok (.iload 6, 2) := by decide +kernel
theorem dX10_trial_164 : decode cX10_trial 164 = .ok (.invokevirtual 67, 3) := by decide +kernel
theorem dX10_trial_167 : decode cX10_trial 167 = .ok (.aload 10, 2) := by decide +kernel
theorem dX10_trial_169 : decode cX10_trial 169 = .ok (.iload 11, 2) := by decide +kernel
theorem dX10_trial_171 : decode cX10_trial 171 = .ok (.bipush 6, 2) := by decide +kernel
theorem dX10_trial_173 : decode cX10_trial 173 = .ok (.iload 7, 2) := by decide +kernel
theorem dX10_trial_175 : decode cX10_trial 175 = .ok (.invokevirtual 67, 3) := by decide +kernel
theorem dX10_trial_178 : decode cX10_trial 178 = .ok (.aload 10, 2) := by decide +kernel
theorem dX10_trial_180 : decode cX10_trial 180 = .ok (.iload 11, 2) := by decide +kernel
theorem dX10_trial_182 : decode cX10_trial 182 = .ok (.bipush 7, 2) := by decide +kernel
theorem dX10_trial_184 : decode cX10_trial 184 = .ok (.iload 8, 2) := by decide +kernel
theorem dX10_trial_186 : decode cX10_trial 186 = .ok (.invokevirtual 67, 3) := by decide +kernel
theorem dX10_trial_189 : decode cX10_trial 189 = .ok (.aload 10, 2) := by decide +kernel
theorem dX10_trial_191 : decode cX10_trial 191 = .ok (.iload 11, 2) := by decide +kernel
theorem dX10_trial_193 : decode cX10_trial 193 = .ok (.bipush 8, 2) := by decide +kernel
theorem dX10_trial_195 : decode cX10_trial 195 = .ok (.iload 9, 2) := by decide +kernel
theorem dX10_trial_197 : decode cX10_trial 197 = .ok (.invokevirtual 67, 3) := by decide +kernel
theorem dX10_trial_200 : decode cX10_trial 200 = .ok (.iload 11, 2) := by decide +kernel
theorem dX10_trial_202 : decode cX10_trial 202 = .ok (.ireturn, 1) := by decide +kernel
theorem dX10_away_0 : decode cX10_away 0 = .ok (.aload_n 0, 1) := by decide +kernel
theorem dX10_away_1 : decode cX10_away 1 = .ok (.getfield 20, 3) := by decide +kernel
theorem dX10_away_4 : decode cX10_away 4 = .ok (.getfield 162, 3) := by decide +kernel
theorem dX10_away_7 : decode cX10_away 7 = .ok (.iload_n 1, 1) := by decide +kernel
theorem dX10_away_8 : decode cX10_away 8 = .ok (.invokevirtual 75, 3) := by decide +kernel
theorem dX10_away_11 : decode cX10_away 11 = .ok (.ifCond .eq 17, 3) := by decide +kernel
theorem dX10_away_14 : decode cX10_away 14 = .ok (.aload_n 0, 1) := by decide +kernel
theorem dX10_away_15 : decode cX10_away 15 = .ok (.getfield 20, 3) := by decide +kernel
theorem dX10_away_18 : decode cX10_away 18 = .ok (.getfield 57, 3) := by decide +kernel
theorem dX10_away_21 : decode cX10_away 21 = .ok (.iload_n 2, 1) := by decide +kernel
theorem dX10_away_22 : decode cX10_away 22 = .ok (.invokevirtual 75, 3) := by decide +kernel
theorem dX10_away_25 : decode cX10_away 25 = .ok (.ifCond .ne 6, 3) := by decide +kernel
theorem dX10_away_28 : decode cX10_away 28 = .ok (.bipush (-2), 2) := by decide +kernel
theorem dX10_away_30 : decode cX10_away 30 = .ok (.ireturn, 1) := by decide +kernel
theorem dX10_away_31 : decode cX10_away 31 = .ok (.aload_n 0, 1) := by decide +kernel
theorem dX10_away_32 : decode cX10_away 32 = .ok (.getfield 20, 3) := by decide +kernel
theorem dX10_away_35 : decode cX10_away 35 = .ok (.getfield 162, 3) := by decide +kernel
theorem dX10_away_38 : decode cX10_away 38 = .ok (.iload_n 1, 1) := by decide +kernel
theorem dX10_away_39 : decode cX10_away 39 = .ok (.bipush 9, 2) := by decide +kernel
theorem dX10_away_41 : decode cX10_away 41 = .ok (.invokevirtual 144, 3) := by decide +kernel
theorem dX10_away_44 : decode cX10_away 44 = .ok (.istore 4, 2) := by decide +kernel
theorem dX10_away_46 : decode cX10_away 46 = .ok (.iload 4, 2) := by decide +kernel
theorem dX10_away_48 : decode cX10_away 48 = .ok (.iload_n 2, 1) := by decide +kernel
theorem dX10_away_49 : decode cX10_away 49 = .ok (.invokestatic 165, 3) := by decide +kernel
theorem dX10_away_52 : decode cX10_away 52 = .ok (.iload_n 3, 1) := by decide +kernel
theorem dX10_away_53 : decode cX10_away 53 = .ok (.if_icmp .ne 6, 3) := by decide +kernel
theorem dX10_away_56 : decode cX10_away 56 = .ok (.bipush (-3), 2) := by decide +kernel
theorem dX10_away_58 : decode cX10_away 58 = .ok (.ireturn, 1) := by decide +kernel
theorem dX10_away_59 : decode cX10_away 59 = .ok (.aload_n 0, 1) := by decide +kernel
theorem dX10_away_60 : decode cX10_away 60 = .ok (.getfield 20, 3) := by decide +kernel
theorem dX10_away_63 : decode cX10_away 63 = .ok (.getfield 162, 3) := by decide +kernel
theorem dX10_away_66 : decode cX10_away 66 = .ok (.iload_n 1, 1) := by decide +kernel
theorem dX10_away_67 : decode cX10_away 67 = .ok (.bipush 9, 2) := by decide +kernel
theorem dX10_away_69 : decode cX10_away 69 = .ok (.iload 4, 2) := by decide +kernel
theorem dX10_away_71 : decode cX10_away 71 = .ok (.iconst 1, 1) := by decide +kernel
theorem dX10_away_72 : decode cX10_away 72 = .ok (.iload_n 2, 1) := by decide +kernel
theorem dX10_away_73 : decode cX10_away 73 = .ok (.ishl, 1) := by decide +kernel
theorem dX10_away_74 : decode cX10_away 74 = .ok (.ixor, 1) := by decide +kernel
theorem dX10_away_75 : decode cX10_away 75 = .ok (.invokevirtual 67, 3) := by decide +kernel
theorem dX10_away_78 : decode cX10_away 78 = .ok (.aload_n 0, 1) := by decide +kernel
theorem dX10_away_79 : decode cX10_away 79 = .ok (.getfield 12, 3) := by decide +kernel
theorem dX10_away_82 : decode cX10_away 82 = .ok (.iload_n 1, 1) := by decide +kernel
theorem dX10_away_83 : decode cX10_away 83 = .ok (.invokevirtual 71, 3) := by decide +kernel
theorem dX10_away_86 : decode cX10_away 86 = .ok (.iconst 1, 1) := by decide +kernel
theorem dX10_away_87 : decode cX10_away 87 = .ok (.ireturn, 1) := by decide +kernel
theorem dX10_like_0 : decode cX10_like 0 = .ok (.aload_n 0, 1) := by decide +kernel
theorem dX10_like_1 : decode cX10_like 1 = .ok (.getfield 20, 3) := by decide +kernel
theorem dX10_like_4 : decode cX10_like 4 = .ok (.getfield 162, 3) := by decide +kernel
theorem dX10_like_7 : decode cX10_like 7 = .ok (.iload_n 1, 1) := by decide +kernel
theorem dX10_like_8 : decode cX10_like 8 = .ok (.invokevirtual 75, 3) := by decide +kernel
theorem dX10_like_11 : decode cX10_like 11 = .ok (.ifCond .eq 38, 3) := by decide +kernel
theorem dX10_like_14 : decode cX10_like 14 = .ok (.iload_n 2, 1) := by decide +kernel
theorem dX10_like_15 : decode cX10_like 15 = .ok (.iconst 0, 1) := by decide +kernel
theorem dX10_like_16 : decode cX10_like 16 = .ok (.iconst 1, 1) := by decide +kernel
theorem dX10_like_17 : decode cX10_like 17 = .ok (.invokestatic 53, 3) := by decide +kernel
theorem dX10_like_20 : decode cX10_like 20 = .ok (.ifCond .eq 29, 3) := by decide +kernel
theorem dX10_like_23 : decode cX10_like 23 = .ok (.aload_n 0, 1) := by decide +kernel
theorem dX10_like_24 : decode cX10_like 24 = .ok (.getfield 20, 3) := by decide +kernel
theorem dX10_like_27 : decode cX10_like 27 = .ok (.getfield 57, 3) := by decide +kernel
theorem dX10_like_30 : decode cX10_like 30 = .ok (.iload_n 3, 1) := by decide +kernel
theorem dX10_like_31 : decode cX10_like 31 = .ok (.invokevirtual 75, 3) := by decide +kernel
theorem dX10_like_34 : decode cX10_like 34 = .ok (.ifCond .eq 15, 3) := by decide +kernel
theorem dX10_like_37 : decode cX10_like 37 = .ok (.iload 4, 2) := by decide +kernel
theorem dX10_like_39 : decode cX10_like 39 = .ok (.bipush (-100), 2) := by decide +kernel
theorem dX10_like_41 : decode cX10_like 41 = .ok (.bipush 100, 2) := by decide +kernel
theorem dX10_like_43 : decode cX10_like 43 = .ok (.invokestatic 53, 3) := by decide +kernel
theorem dX10_like_46 : decode cX10_like 46 = .ok (.ifCond .ne 7, 3) := by decide +kernel
theorem dX10_like_49 : decode cX10_like 49 = .ok (.sipush (-1000), 3) := by decide +kernel
theorem dX10_like_52 : decode cX10_like 52 = .ok (.ireturn, 1) := by decide +kernel
theorem dX10_like_53 : decode cX10_like 53 = .ok (.iload_n 2, 1) := by decide +kernel
theorem dX10_like_54 : decode cX10_like 54 = .ok (.iload_n 3, 1) := by decide +kernel
theorem dX10_like_55 : decode cX10_like 55 = .ok (.invokestatic 169, 3) := by decide +kernel
theorem dX10_like_58 : decode cX10_like 58 = .ok (.istore 5, 2) := by decide +kernel
theorem dX10_like_60 : decode cX10_like 60 = .ok (.aload_n 0, 1) := by decide +kernel
theorem dX10_like_61 : decode cX10_like 61 = .ok (.getfield 20, 3) := by decide +kernel
theorem dX10_like_64 : decode cX10_like 64 = .ok (.getfield 162, 3) := by decide +kernel
theorem dX10_like_67 : decode cX10_like 67 = .ok (.iload_n 1, 1) := by decide +kernel
theorem dX10_like_68 : decode cX10_like 68 = .ok (.iload 5, 2) := by decide +kernel
theorem dX10_like_70 : decode cX10_like 70 = .ok (.invokevirtual 144, 3) := by decide +kernel
theorem dX10_like_73 : decode cX10_like 73 = .ok (.istore 6, 2) := by decide +kernel
theorem dX10_like_75 : decode cX10_like 75 = .ok (.aload_n 0, 1) := by decide +kernel
theorem dX10_like_76 : decode cX10_like 76 = .ok (.getfield 20, 3) := by decide +kernel
theorem dX10_like_79 : decode cX10_like 79 = .ok (.getfield 162, 3) := by decide +kernel
theorem dX10_like_82 : decode cX10_like 82 = .ok (.iload_n 1, 1) := by decide +kernel
theorem dX10_like_83 : decode cX10_like 83 = .ok (.iload 5, 2) := by decide +kernel
theorem dX10_like_85 : decode cX10_like 85 = .ok (.iload 4, 2) := by decide +kernel
theorem dX10_like_87 : decode cX10_like 87 = .ok (.invokevirtual 67, 3) := by decide +kernel
theorem dX10_like_90 : decode cX10_like 90 = .ok (.aload_n 0, 1) := by decide +kernel
theorem dX10_like_91 : decode cX10_like 91 = .ok (.getfield 12, 3) := by decide +kernel
theorem dX10_like_94 : decode cX10_like 94 = .ok (.iload_n 1, 1) := by decide +kernel
theorem dX10_like_95 : decode cX10_like 95 = .ok (.invokevirtual 71, 3) := by decide +kernel
theorem dX10_like_98 : decode cX10_like 98 = .ok (.iload 6, 2) := by decide +kernel
theorem dX10_like_100 : decode cX10_like 100 = .ok (.ireturn, 1) := by decide +kernel
theorem dX10_box_0 : decode cX10_box 0 = .ok (.aload_n 0, 1) := by decide +kernel
theorem dX10_box_1 : decode cX10_box 1 = .ok (.getfield 20, 3) := by decide +kernel
theorem dX10_box_4 : decode cX10_box 4 = .ok (.getfield 162, 3) := by decide +kernel
theorem dX10_box_7 : decode cX10_box 7 = .ok (.iload_n 1, 1) := by decide +kernel
theorem dX10_box_8 : decode cX10_box 8 = .ok (.invokevirtual 75, 3) := by decide +kernel
theorem dX10_box_11 : decode cX10_box 11 = .ok (.ifCond .ne 6, 3) := by decide +kernel
theorem dX10_box_14 : decode cX10_box 14 = .ok (.bipush (-2), 2) := by decide +kernel
theorem dX10_box_16 : decode cX10_box 16 = .ok (.ireturn, 1) := by decide +kernel
theorem dX10_box_17 : decode cX10_box 17 = .ok (.aload_n 0, 1) := by decide +kernel
theorem dX10_box_18 : decode cX10_box 18 = .ok (.getfield 12, 3) := by decide +kernel
theorem dX10_box_21 : decode cX10_box 21 = .ok (.invokevirtual 124, 3) := by decide +kernel
theorem dX10_box_24 : decode cX10_box 24 = .ok (.aload_n 0, 1) := by decide +kernel
theorem dX10_box_25 : decode cX10_box 25 = .ok (.getfield 12, 3) := by decide +kernel
theorem dX10_box_28 : decode cX10_box 28 = .ok (.iload_n 1, 1) := by decide +kernel
theorem dX10_box_29 : decode cX10_box 29 = .ok (.invokevirtual 172, 3) := by decide +kernel
theorem dX10_box_32 : decode cX10_box 32 = .ok (.getfield 176, 3) := by decide +kernel
theorem dX10_box_35 : decode cX10_box 35 = .ok (.ireturn, 1) := by decide +kernel
theorem dX10_drawn_0 : decode cX10_drawn 0 = .ok (.aload_n 0, 1) := by decide +kernel
theorem dX10_drawn_1 : decode cX10_drawn 1 = .ok (.getfield 20, 3) := by decide +kernel
theorem dX10_drawn_4 : decode cX10_drawn 4 = .ok (.getfield 162, 3) := by decide +kernel
theorem dX10_drawn_7 : decode cX10_drawn 7 = .ok (.iload_n 1, 1) := by decide +kernel
theorem dX10_drawn_8 : decode cX10_drawn 8 = .ok (.invokevirtual 75, 3) := by decide +kernel
theorem dX10_drawn_11 : decode cX10_drawn 11 = .ok (.ifCond .eq 7, 3) := by decide +kernel
theorem dX10_drawn_14 : decode cX10_drawn 14 = .ok (.iload_n 2, 1) := by decide +kernel
theorem dX10_drawn_15 : decode cX10_drawn 15 = .ok (.ifCond .ge 6, 3) := by decide +kernel
theorem dX10_drawn_18 : decode cX10_drawn 18 = .ok (.bipush (-2), 2) := by decide +kernel
theorem dX10_drawn_20 : decode cX10_drawn 20 = .ok (.ireturn, 1) := by decide +kernel
theorem dX10_drawn_21 : decode cX10_drawn 21 = .ok (.aload_n 0, 1) := by decide +kernel
theorem dX10_drawn_22 : decode cX10_drawn 22 = .ok (.getfield 12, 3) := by decide +kernel
theorem dX10_drawn_25 : decode cX10_drawn 25 = .ok (.invokevirtual 124, 3) := by decide +kernel
theorem dX10_drawn_28 : decode cX10_drawn 28 = .ok (.aload_n 0, 1) := by decide +kernel
theorem dX10_drawn_29 : decode cX10_drawn 29 = .ok (.getfield 12, 3) := by decide +kernel
theorem dX10_drawn_32 : decode cX10_drawn 32 = .ok (.iload_n 1, 1) := by decide +kernel
theorem dX10_drawn_33 : decode cX10_drawn 33 = .ok (.invokevirtual 172, 3) := by decide +kernel
theorem dX10_drawn_36 : decode cX10_drawn 36 = .ok (.iload_n 2, 1) := by decide +kernel
theorem dX10_drawn_37 : decode cX10_drawn 37 = .ok (.invokevirtual 182, 3) := by decide +kernel
theorem dX10_drawn_40 : decode cX10_drawn 40 = .ok (.ireturn, 1) := by decide +kernel
theorem dX10_slip_0 : decode cX10_slip 0 = .ok (.aload_n 0, 1) := by decide +kernel
theorem dX10_slip_1 : decode cX10_slip 1 = .ok (.getfield 20, 3) := by decide +kernel
theorem dX10_slip_4 : decode cX10_slip 4 = .ok (.getfield 162, 3) := by decide +kernel
theorem dX10_slip_7 : decode cX10_slip 7 = .ok (.iload_n 1, 1) := by decide +kernel
theorem dX10_slip_8 : decode cX10_slip 8 = .ok (.invokevirtual 75, 3) := by decide +kernel
theorem dX10_slip_11 : decode cX10_slip 11 = .ok (.ifCond .eq 17, 3) := by decide +kernel
theorem dX10_slip_14 : decode cX10_slip 14 = .ok (.aload_n 0, 1) := by decide +kernel
theorem dX10_slip_15 : decode cX10_slip 15 = .ok (.getfield 20, 3) := by decide +kernel
theorem dX10_slip_18 : decode cX10_slip 18 = .ok (.getfield 57, 3) := by decide +kernel
theorem dX10_slip_21 : decode cX10_slip 21 = .ok (.iload_n 2, 1) := by decide +kernel
theorem dX10_slip_22 : decode cX10_slip 22 = .ok (.invokevirtual 75, 3) := by decide +kernel
theorem dX10_slip_25 : decode cX10_slip 25 = .ok (.ifCond .ne 6, 3) := by decide +kernel
theorem dX10_slip_28 : decode cX10_slip 28 = .ok (.bipush (-2), 2) := by decide +kernel
theorem dX10_slip_30 : decode cX10_slip 30 = .ok (.ireturn, 1) := by decide +kernel
theorem dX10_slip_31 : decode cX10_slip 31 = .ok (.aload_n 0, 1) := by decide +kernel
theorem dX10_slip_32 : decode cX10_slip 32 = .ok (.getfield 12, 3) := by decide +kernel
theorem dX10_slip_35 : decode cX10_slip 35 = .ok (.invokevirtual 124, 3) := by decide +kernel
theorem dX10_slip_38 : decode cX10_slip 38 = .ok (.aload_n 0, 1) := by decide +kernel
theorem dX10_slip_39 : decode cX10_slip 39 = .ok (.getfield 12, 3) := by decide +kernel
theorem dX10_slip_42 : decode cX10_slip 42 = .ok (.iload_n 1, 1) := by decide +kernel
theorem dX10_slip_43 : decode cX10_slip 43 = .ok (.invokevirtual 172, 3) := by decide +kernel
theorem dX10_slip_46 : decode cX10_slip 46 = .ok (.iload_n 2, 1) := by decide +kernel
theorem dX10_slip_47 : decode cX10_slip 47 = .ok (.invokevirtual 185, 3) := by decide +kernel
theorem dX10_slip_50 : decode cX10_slip 50 = .ok (.ireturn, 1) := by decide +kernel
theorem dX10_jury_0 : decode cX10_jury 0 = .ok (.aload_n 0, 1) := by decide +kernel
theorem dX10_jury_1 : decode cX10_jury 1 = .ok (.getfield 20, 3) := by decide +kernel
theorem dX10_jury_4 : decode cX10_jury 4 = .ok (.getfield 162, 3) := by decide +kernel
theorem dX10_jury_7 : decode cX10_jury 7 = .ok (.iload_n 1, 1) := by decide +kernel
theorem dX10_jury_8 : decode cX10_jury 8 = .ok (.invokevirtual 75, 3) := by decide +kernel
theorem dX10_jury_11 : decode cX10_jury 11 = .ok (.ifCond .ne 6, 3) := by decide +kernel
theorem dX10_jury_14 : decode cX10_jury 14 = .ok (.bipush (-2), 2) := by decide +kernel
theorem dX10_jury_16 : decode cX10_jury 16 = .ok (.ireturn, 1) := by decide +kernel
theorem dX10_jury_17 : decode cX10_jury 17 = .ok (.aload_n 0, 1) := by decide +kernel
theorem dX10_jury_18 : decode cX10_jury 18 = .ok (.getfield 12, 3) := by decide +kernel
theorem dX10_jury_21 : decode cX10_jury 21 = .ok (.invokevirtual 124, 3) := by decide +kernel
theorem dX10_jury_24 : decode cX10_jury 24 = .ok (.aload_n 0, 1) := by decide +kernel
theorem dX10_jury_25 : decode cX10_jury 25 = .ok (.getfield 12, 3) := by decide +kernel
theorem dX10_jury_28 : decode cX10_jury 28 = .ok (.iload_n 1, 1) := by decide +kernel
theorem dX10_jury_29 : decode cX10_jury 29 = .ok (.invokevirtual 172, 3) := by decide +kernel
theorem dX10_jury_32 : decode cX10_jury 32 = .ok (.getfield 188, 3) := by decide +kernel
theorem dX10_jury_35 : decode cX10_jury 35 = .ok (.ireturn, 1) := by decide +kernel
theorem dX10_about_0 : decode cX10_about 0 = .ok (.aload_n 0, 1) := by decide +kernel
theorem dX10_about_1 : decode cX10_about 1 = .ok (.getfield 20, 3) := by decide +kernel
theorem dX10_about_4 : decode cX10_about 4 = .ok (.getfield 162, 3) := by decide +kernel
theorem dX10_about_7 : decode cX10_about 7 = .ok (.iload_n 1, 1) := by decide +kernel
theorem dX10_about_8 : decode cX10_about 8 = .ok (.invokevirtual 75, 3) := by decide +kernel
theorem dX10_about_11 : decode cX10_about 11 = .ok (.ifCond .eq 12, 3) := by decide +kernel
theorem dX10_about_14 : decode cX10_about 14 = .ok (.iload_n 2, 1) := by decide +kernel
theorem dX10_about_15 : decode cX10_about 15 = .ok (.iconst 0, 1) := by decide +kernel
theorem dX10_about_16 : decode cX10_about 16 = .ok (.iconst 3, 1) := by decide +kernel
theorem dX10_about_17 : decode cX10_about 17 = .ok (.invokestatic 53, 3) := by decide +kernel
theorem dX10_about_20 : decode cX10_about 20 = .ok (.ifCond .ne 6, 3) := by decide +kernel
theorem dX10_about_23 : decode cX10_about 23 = .ok (.ldc 191, 2) := by decide +kernel
theorem dX10_about_25 : decode cX10_about 25 = .ok (.ireturn, 1) := by decide +kernel
theorem dX10_about_26 : decode cX10_about 26 = .ok (.aload_n 0, 1) := by decide +kernel
theorem dX10_about_27 : decode cX10_about 27 = .ok (.getfield 12, 3) := by decide +kernel
theorem dX10_about_30 : decode cX10_about 30 = .ok (.invokevirtual 124, 3) := by decide +kernel
theorem dX10_about_33 : decode cX10_about 33 = .ok (.aload_n 0, 1) := by decide +kernel
theorem dX10_about_34 : decode cX10_about 34 = .ok (.getfield 12, 3) := by decide +kernel
theorem dX10_about_37 : decode cX10_about 37 = .ok (.iload_n 1, 1) := by decide +kernel
theorem dX10_about_38 : decode cX10_about 38 = .ok (.invokevirtual 172, 3) := by decide +kernel
theorem dX10_about_41 : decode cX10_about 41 = .ok (.iload_n 2, 1) := by decide +kernel
theorem dX10_about_42 : decode cX10_about 42 = .ok (.invokevirtual 192, 3) := by decide +kernel
theorem dX10_about_45 : decode cX10_about 45 = .ok (.ireturn, 1) := by decide +kernel
theorem dX10_bad_0 : decode cX10_bad 0 = .ok (.iload_n 1, 1) := by decide +kernel
theorem dX10_bad_1 : decode cX10_bad 1 = .ok (.invokestatic 79, 3) := by decide +kernel
theorem dX10_bad_4 : decode cX10_bad 4 = .ok (.ifCond .ne 6, 3) := by decide +kernel
theorem dX10_bad_7 : decode cX10_bad 7 = .ok (.bipush (-2), 2) := by decide +kernel
theorem dX10_bad_9 : decode cX10_bad 9 = .ok (.ireturn, 1) := by decide +kernel
theorem dX10_bad_10 : decode cX10_bad 10 = .ok (.aload_n 0, 1) := by decide +kernel
theorem dX10_bad_11 : decode cX10_bad 11 = .ok (.getfield 12, 3) := by decide +kernel
theorem dX10_bad_14 : decode cX10_bad 14 = .ok (.invokevirtual 124, 3) := by decide +kernel
theorem dX10_bad_17 : decode cX10_bad 17 = .ok (.iconst 0, 1) := by decide +kernel
theorem dX10_bad_18 : decode cX10_bad 18 = .ok (.istore_n 2, 1) := by decide +kernel
theorem dX10_bad_19 : decode cX10_bad 19 = .ok (.iconst 0, 1) := by decide +kernel
theorem dX10_bad_20 : decode cX10_bad 20 = .ok (.istore_n 3, 1) := by decide +kernel
theorem dX10_bad_21 : decode cX10_bad 21 = .ok (.iload_n 3, 1) := by decide +kernel
theorem dX10_bad_22 : decode cX10_bad 22 = .ok (.aload_n 0, 1) := by decide +kernel
theorem dX10_bad_23 : decode cX10_bad 23 = .ok (.getfield 20, 3) := by decide +kernel
theorem dX10_bad_26 : decode cX10_bad 26 = .ok (.getfield 162, 3) := by decide +kernel
theorem dX10_bad_29 : decode cX10_bad 29 = .ok (.invokevirtual 195, 3) := by decide +kernel
theorem dX10_bad_32 : decode cX10_bad 32 = .ok (.if_icmp .ge 39, 3) := by decide +kernel
theorem dX10_bad_35 : decode cX10_bad 35 = .ok (.aload_n 0, 1) := by decide +kernel
theorem dX10_bad_36 : decode cX10_bad 36 = .ok (.getfield 12, 3) := by decide +kernel
theorem dX10_bad_39 : decode cX10_bad 39 = .ok (.iload_n 3, 1) := by decide +kernel
theorem dX10_bad_40 : decode cX10_bad 40 = .ok (.invokevirtual 172, 3) := by decide +kernel
theorem dX10_bad_43 : decode cX10_bad 43 = .ok (.getfield 188, 3) := by decide +kernel
theorem dX10_bad_46 : decode cX10_bad 46 = .ok (.aload_n 0, 1) := by decide +kernel
theorem dX10_bad_47 : decode cX10_bad 47 = .ok (.getfield 20, 3) := by decide +kernel
theorem dX10_bad_50 : decode cX10_bad 50 = .ok (.iload_n 3, 1) := by decide +kernel
theorem dX10_bad_51 : decode cX10_bad 51 = .ok (.iload_n 1, 1) := by decide +kernel
theorem dX10_bad_52 : decode cX10_bad 52 = .ok (.invokevirtual 198, 3) := by decide +kernel
theorem dX10_bad_55 : decode cX10_bad 55 = .ok (.iand, 1) := by decide +kernel
theorem dX10_bad_56 : decode cX10_bad 56 = .ok (.ifCond .eq 9, 3) := by decide +kernel
theorem dX10_bad_59 : decode cX10_bad 59 = .ok (.iload_n 2, 1) := by decide +kernel
theorem dX10_bad_60 : decode cX10_bad 60 = .ok (.iconst 1, 1) := by decide +kernel
theorem dX10_bad_61 : decode cX10_bad 61 = .ok (.iload_n 3, 1) := by decide +kernel
theorem dX10_bad_62 : decode cX10_bad 62 = .ok (.ishl, 1) := by decide +kernel
theorem dX10_bad_63 : decode cX10_bad 63 = .ok (.ior, 1) := by decide +kernel
theorem dX10_bad_64 : decode cX10_bad 64 = .ok (.istore_n 2, 1) := by decide +kernel
theorem dX10_bad_65 : decode cX10_bad 65 = .ok (.iinc 3 1, 3) := by decide +kernel
theorem dX10_bad_68 : decode cX10_bad 68 = .ok (.goto (-47), 3) := by decide +kernel
theorem dX10_bad_71 : decode cX10_bad 71 = .ok (.iload_n 2, 1) := by decide +kernel
theorem dX10_bad_72 : decode cX10_bad 72 = .ok (.ireturn, 1) := by decide +kernel
theorem dX10_sums_0 : decode cX10_sums 0 = .ok (.iload_n 1, 1) := by decide +kernel
theorem dX10_sums_1 : decode cX10_sums 1 = .ok (.iconst 0, 1) := by decide +kernel
theorem dX10_sums_2 : decode cX10_sums 2 = .ok (.bipush 100, 2) := by decide +kernel
theorem dX10_sums_4 : decode cX10_sums 4 = .ok (.invokestatic 53, 3) := by decide +kernel
theorem dX10_sums_7 : decode cX10_sums 7 = .ok (.ifCond .eq 14, 3) := by decide +kernel
theorem dX10_sums_10 : decode cX10_sums 10 = .ok (.iload_n 2, 1) := by decide +kernel
theorem dX10_sums_11 : decode cX10_sums 11 = .ok (.iconst 0, 1) := by decide +kernel
theorem dX10_sums_12 : decode cX10_sums 12 = .ok (.sipush 1000, 3) := by decide +kernel
theorem dX10_sums_15 : decode cX10_sums 15 = .ok (.invokestatic 53, 3) := by decide +kernel
theorem dX10_sums_18 : decode cX10_sums 18 = .ok (.ifCond .ne 6, 3) := by decide +kernel
theorem dX10_sums_21 : decode cX10_sums 21 = .ok (.bipush (-2), 2) := by decide +kernel
theorem dX10_sums_23 : decode cX10_sums 23 = .ok (.ireturn, 1) := by decide +kernel
theorem dX10_sums_24 : decode cX10_sums 24 = .ok (.aload_n 0, 1) := by decide +kernel
theorem dX10_sums_25 : decode cX10_sums 25 = .ok (.getfield 20, 3) := by decide +kernel
theorem dX10_sums_28 : decode cX10_sums 28 = .ok (.iload_n 1, 1) := by decide +kernel
theorem dX10_sums_29 : decode cX10_sums 29 = .ok (.putfield 201, 3) := by decide +kernel
theorem dX10_sums_32 : decode cX10_sums 32 = .ok (.aload_n 0, 1) := by decide +kernel
theorem dX10_sums_33 : decode cX10_sums 33 = .ok (.getfield 20, 3) := by decide +kernel
theorem dX10_sums_36 : decode cX10_sums 36 = .ok (.iload_n 2, 1) := by decide +kernel
theorem dX10_sums_37 : decode cX10_sums 37 = .ok (.putfield 204, 3) := by decide +kernel
theorem dX10_sums_40 : decode cX10_sums 40 = .ok (.iconst 1, 1) := by decide +kernel
theorem dX10_sums_41 : decode cX10_sums 41 = .ok (.ireturn, 1) := by decide +kernel
theorem dX10_owed_0 : decode cX10_owed 0 = .ok (.aload_n 0, 1) := by decide +kernel
theorem dX10_owed_1 : decode cX10_owed 1 = .ok (.getfield 20, 3) := by decide +kernel
theorem dX10_owed_4 : decode cX10_owed 4 = .ok (.getfield 57, 3) := by decide +kernel
theorem dX10_owed_7 : decode cX10_owed 7 = .ok (.iload_n 1, 1) := by decide +kernel
theorem dX10_owed_8 : decode cX10_owed 8 = .ok (.invokevirtual 75, 3) := by decide +kernel
theorem dX10_owed_11 : decode cX10_owed 11 = .ok (.ifCond .eq 10, 3) := by decide +kernel
theorem dX10_owed_14 : decode cX10_owed 14 = .ok (.iload_n 2, 1) := by decide +kernel
theorem dX10_owed_15 : decode cX10_owed 15 = .ok (.invokestatic 79, 3) := by decide +kernel
theorem dX10_owed_18 : decode cX10_owed 18 = .ok (.ifCond .ne 6, 3) := by decide +kernel
theorem dX10_owed_21 : decode cX10_owed 21 = .ok (.ldc 207, 2) := by decide +kernel
theorem dX10_owed_23 : decode cX10_owed 23 = .ok (.ireturn, 1) := by decide +kernel
theorem dX10_owed_24 : decode cX10_owed 24 = .ok (.aload_n 0, 1) := by decide +kernel
theorem dX10_owed_25 : decode cX10_owed 25 = .ok (.getfield 12, 3) := by decide +kernel
theorem dX10_owed_28 : decode cX10_owed 28 = .ok (.invokevirtual 124, 3) := by decide +kernel
theorem dX10_owed_31 : decode cX10_owed 31 = .ok (.iconst 0, 1) := by decide +kernel
theorem dX10_owed_32 : decode cX10_owed 32 = .ok (.istore_n 3, 1) := by decide +kernel
theorem dX10_owed_33 : decode cX10_owed 33 = .ok (.iconst 0, 1) := by decide +kernel
theorem dX10_owed_34 : decode cX10_owed 34 = .ok (.istore 4, 2) := by decide +kernel
theorem dX10_owed_36 : decode cX10_owed 36 = .ok (.iload 4, 2) := by decide +kernel
theorem dX10_owed_38 : decode cX10_owed 38 = .ok (.aload_n 0, 1) := by decide +kernel
theorem dX10_owed_39 : decode cX10_owed 39 = .ok (.getfield 20, 3) := by decide +kernel
theorem dX10_owed_42 : decode cX10_owed 42 = .ok (.getfield 162, 3) := by decide +kernel
theorem dX10_owed_45 : decode cX10_owed 45 = .ok (.invokevirtual 195, 3) := by decide +kernel
theorem dX10_owed_48 : decode cX10_owed 48 = .ok (.if_icmp .ge 103, 3) := by decide +kernel
theorem dX10_owed_51 : decode cX10_owed 51 = .ok (.aload_n 0, 1) := by decide +kernel
theorem dX10_owed_52 : decode cX10_owed 52 = .ok (.getfield 20, 3) := by decide +kernel
theorem dX10_owed_55 : decode cX10_owed 55 = .ok (.getfield 162, 3) := by decide +kernel
theorem dX10_owed_58 : decode cX10_owed 58 = .ok (.iload 4, 2) := by decide +kernel
theorem dX10_owed_60 : decode cX10_owed 60 = .ok (.iconst 0, 1) := by decide +kernel
theorem dX10_owed_61 : decode cX10_owed 61 = .ok (.invokevirtual 144, 3) := by decide +kernel
theorem dX10_owed_64 : decode cX10_owed 64 = .ok (.iload_n 2, 1) := by decide +kernel
theorem dX10_owed_65 : decode cX10_owed 65 = .ok (.if_icmp .gt 80, 3) := by decide +kernel
theorem dX10_owed_68 : decode cX10_owed 68 = .ok (.aload_n 0, 1) := by decide +kernel
theorem dX10_owed_69 : decode cX10_owed 69 = .ok (.getfield 12, 3) := by decide +kernel
theorem dX10_owed_72 : decode cX10_owed 72 = .ok (.iload 4, 2) := by decide +kernel
theorem dX10_owed_74 : decode cX10_owed 74 = .ok (.invokevirtual 172, 3) := by decide +kernel
theorem dX10_owed_77 : decode cX10_owed 77 = .ok (.astore 5, 2) := by decide +kernel
theorem dX10_owed_79 : decode cX10_owed 79 = .ok (.iload_n 3, 1) := by decide +kernel
theorem dX10_owed_80 : decode cX10_owed 80 = .ok (.aload 5, 2) := by decide +kernel
theorem dX10_owed_82 : decode cX10_owed 82 = .ok (.getfield 188, 3) := by decide +kernel
theorem dX10_owed_85 : decode cX10_owed 85 = .ok (.iload_n 1, 1) := by decide +kernel
theorem dX10_owed_86 : decode cX10_owed 86 = .ok (.invokestatic 165, 3) := by decide +kernel
theorem dX10_owed_89 : decode cX10_owed 89 = .ok (.ifCond .eq 27, 3) := by decide +kernel
theorem dX10_owed_92 : decode cX10_owed 92 = .ok (.aload_n 0, 1) := by decide +kernel
theorem dX10_owed_93 : decode cX10_owed 93 = .ok (.getfield 20, 3) := by decide +kernel
theorem dX10_owed_96 : decode cX10_owed 96 = .ok (.getfield 201, 3) := by decide +kernel
theorem dX10_owed_99 : decode cX10_owed 99 = .ok (.aload_n 0, 1) := by decide +kernel
theorem dX10_owed_100 : decode cX10_owed 100 = .ok (.getfield 20, 3) := by decide +kernel
theorem dX10_owed_103 : decode cX10_owed 103 = .ok (.getfield 162, 3) := by decide +kernel
theorem dX10_owed_106 : decode cX10_owed 106 = .ok (.iload 4, 2) := by decide +kernel
theorem dX10_owed_108 : decode cX10_owed 108 = .ok (.iconst 1, 1) := by decide +kernel
theorem dX10_owed_109 : decode cX10_owed 109 = .ok (.invokevirtual 144, 3) := by decide +kernel
theorem dX10_owed_112 : decode cX10_owed 112 = .ok (.imul, 1) := by decide +kernel
theorem dX10_owed_113 : decode cX10_owed 113 = .ok (.goto 4, 3) := by decide +kernel
theorem dX10_owed_116 : decode cX10_owed 116 = .ok (.iconst 0, 1) := by decide +kernel
theorem dX10_owed_117 : decode cX10_owed 117 = .ok (.iadd, 1) := by decide +kernel
theorem dX10_owed_118 : decode cX10_owed 118 = .ok (.istore_n 3, 1) := by decide +kernel
theorem dX10_owed_119 : decode cX10_owed 119 = .ok (.iload_n 3, 1) := by decide +kernel
theorem dX10_owed_120 : decode cX10_owed 120 = .ok (.aload 5, 2) := by decide +kernel
theorem dX10_owed_122 : decode cX10_owed 122 = .ok (.getfield 208, 3) := by decide +kernel
theorem dX10_owed_125 : decode cX10_owed 125 = .ok (.iload_n 1, 1) := by decide +kernel
theorem dX10_owed_126 : decode cX10_owed 126 = .ok (.invokestatic 165, 3) := by decide +kernel
theorem dX10_owed_129 : decode cX10_owed 129 = .ok (.ifCond .eq 13, 3) := by decide +kernel
theorem dX10_owed_132 : decode cX10_owed 132 = .ok (.aload_n 0, 1) := by decide +kernel
theorem dX10_owed_133 : decode cX10_owed 133 = .ok (.getfield 20, 3) := by decide +kernel
theorem dX10_owed_136 : decode cX10_owed 136 = .ok (.getfield 204, 3) := by decide +kernel
theorem dX10_owed_139 : decode cX10_owed 139 = .ok (.goto 4, 3) := by decide +kernel
theorem dX10_owed_142 : decode cX10_owed 142 = .ok (.iconst 0, 1) := by decide +kernel
theorem dX10_owed_143 : decode cX10_owed 143 = .ok (.isub, 1) := by decide +kernel
theorem dX10_owed_144 : decode cX10_owed 144 = .ok (.istore_n 3, 1) := by decide +kernel
theorem dX10_owed_145 : decode cX10_owed 145 = .ok (.iinc 4 1, 3) := by decide +kernel
theorem dX10_owed_148 : decode cX10_owed 148 = .ok (.goto (-112), 3) := by decide +kernel
theorem dX10_owed_151 : decode cX10_owed 151 = .ok (.iload_n 3, 1) := by decide +kernel
theorem dX10_owed_152 : decode cX10_owed 152 = .ok (.ireturn, 1) := by decide +kernel
theorem dX10_chance_0 : decode cX10_chance 0 = .ok (.iload_n 1, 1) := by decide +kernel
theorem dX10_chance_1 : decode cX10_chance 1 = .ok (.iconst 0, 1) := by decide +kernel
theorem dX10_chance_2 : decode cX10_chance 2 = .ok (.bipush 40, 2) := by decide +kernel
theorem dX10_chance_4 : decode cX10_chance 4 = .ok (.invokestatic 53, 3) := by decide +kernel
theorem dX10_chance_7 : decode cX10_chance 7 = .ok (.ifCond .eq 32, 3) := by decide +kernel
theorem dX10_chance_10 : decode cX10_chance 10 = .ok (.iload_n 2, 1) := by decide +kernel
theorem dX10_chance_11 : decode cX10_chance 11 = .ok (.iconst 0, 1) := by decide +kernel
theorem dX10_chance_12 : decode cX10_chance 12 = .ok (.iload_n 1, 1) := by decide +kernel
theorem dX10_chance_13 : decode cX10_chance 13 = .ok (.invokestatic 53, 3) := by decide +kernel
theorem dX10_chance_16 : decode cX10_chance 16 = .ok (.ifCond .eq 23, 3) := by decide +kernel
theorem dX10_chance_19 : decode cX10_chance 19 = .ok (.iload_n 3, 1) := by decide +kernel
theorem dX10_chance_20 : decode cX10_chance 20 = .ok (.iconst 0, 1) := by decide +kernel
theorem dX10_chance_21 : decode cX10_chance 21 = .ok (.iload_n 1, 1) := by decide +kernel
theorem dX10_chance_22 : decode cX10_chance 22 = .ok (.invokestatic 53, 3) := by decide +kernel
theorem dX10_chance_25 : decode cX10_chance 25 = .ok (.ifCond .eq 14, 3) := by decide +kernel
theorem dX10_chance_28 : decode cX10_chance 28 = .ok (.iload 4, 2) := by decide +kernel
theorem dX10_chance_30 : decode cX10_chance 30 = .ok (.iconst 0, 1) := by decide +kernel
theorem dX10_chance_31 : decode cX10_chance 31 = .ok (.bipush 40, 2) := by decide +kernel
theorem dX10_chance_33 : decode cX10_chance 33 = .ok (.invokestatic 53, 3) := by decide +kernel
theorem dX10_chance_36 : decode cX10_chance 36 = .ok (.ifCond .ne 6, 3) := by decide +kernel
theorem dX10_chance_39 : decode cX10_chance 39 = .ok (.bipush (-2), 2) := by decide +kernel
theorem dX10_chance_41 : decode cX10_chance 41 = .ok (.ireturn, 1) := by decide +kernel
theorem dX10_chance_42 : decode cX10_chance 42 = .ok (.lconst 0, 1) := by decide +kernel
theorem dX10_chance_43 : decode cX10_chance 43 = .ok (.lstore 5, 2) := by decide +kernel
theorem dX10_chance_45 : decode cX10_chance 45 = .ok (.iload 4, 2) := by decide +kernel
theorem dX10_chance_47 : decode cX10_chance 47 = .ok (.istore 7, 2) := by decide +kernel
theorem dX10_chance_49 : decode cX10_chance 49 = .ok (.iload 7, 2) := by decide +kernel
theorem dX10_chance_51 : decode cX10_chance 51 = .ok (.iload_n 3, 1) := by decide +kernel
theorem dX10_chance_52 : decode cX10_chance 52 = .ok (.if_icmp .gt 31, 3) := by decide +kernel
theorem dX10_chance_55 : decode cX10_chance 55 = .ok (.lload 5, 2) := by decide +kernel
theorem dX10_chance_57 : decode cX10_chance 57 = .ok (.iload_n 2, 1) := by decide +kernel
theorem dX10_chance_58 : decode cX10_chance 58 = .ok (.iload 7, 2) := by decide +kernel
theorem dX10_chance_60 : decode cX10_chance 60 = .ok (.invokestatic 211, 3) := by decide +kernel
theorem dX10_chance_63 : decode cX10_chance 63 = .ok (.iload_n 1, 1) := by decide +kernel
theorem dX10_chance_64 : decode cX10_chance 64 = .ok (.iload_n 2, 1) := by decide +kernel
theorem dX10_chance_65 : decode cX10_chance 65 = .ok (.isub, 1) := by decide +kernel
theorem dX10_chance_66 : decode cX10_chance 66 = .ok (.iload_n 3, 1) := by decide +kernel
theorem dX10_chance_67 : decode cX10_chance 67 = .ok (.iload 7, 2) := by decide +kernel
theorem dX10_chance_69 : decode cX10_chance 69 = .ok (.isub, 1) := by decide +kernel
theorem dX10_chance_70 : decode cX10_chance 70 = .ok (.invokestatic 211, 3) := by decide +kernel
theorem dX10_chance_73 : decode cX10_chance 73 = .ok (.lmul, 1) := by decide +kernel
theorem dX10_chance_74 : decode cX10_chance 74 = .ok (.ladd, 1) := by decide +kernel
theorem dX10_chance_75 : decode cX10_chance 75 = .ok (.lstore 5, 2) := by decide +kernel
theorem dX10_chance_77 : decode cX10_chance 77 = .ok (.iinc 7 1, 3) := by decide +kernel
theorem dX10_chance_80 : decode cX10_chance 80 = .ok (.goto (-31), 3) := by decide +kernel
theorem dX10_chance_83 : decode cX10_chance 83 = .ok (.aload_n 0, 1) := by decide +kernel
theorem dX10_chance_84 : decode cX10_chance 84 = .ok (.getfield 41, 3) := by decide +kernel
theorem dX10_chance_87 : decode cX10_chance 87 = .ok (.lload 5, 2) := by decide +kernel
theorem dX10_chance_89 : decode cX10_chance 89 = .ok (.iload_n 1, 1) := by decide +kernel
theorem dX10_chance_90 : decode cX10_chance 90 = .ok (.iload_n 3, 1) := by decide +kernel
theorem dX10_chance_91 : decode cX10_chance 91 = .ok (.invokestatic 211, 3) := by decide +kernel
theorem dX10_chance_94 : decode cX10_chance 94 = .ok (.invokevirtual 215, 3) := by decide +kernel
theorem dX10_chance_97 : decode cX10_chance 97 = .ok (.ireturn, 1) := by decide +kernel
theorem dX10_twelve_0 : decode cX10_twelve 0 = .ok (.aload_n 0, 1) := by decide +kernel
theorem dX10_twelve_1 : decode cX10_twelve 1 = .ok (.getfield 20, 3) := by decide +kernel
theorem dX10_twelve_4 : decode cX10_twelve 4 = .ok (.getfield 162, 3) := by decide +kernel
theorem dX10_twelve_7 : decode cX10_twelve 7 = .ok (.iload_n 1, 1) := by decide +kernel
theorem dX10_twelve_8 : decode cX10_twelve 8 = .ok (.invokevirtual 75, 3) := by decide +kernel
theorem dX10_twelve_11 : decode cX10_twelve 11 = .ok (.ifCond .eq 12, 3) := by decide +kernel
theorem dX10_twelve_14 : decode cX10_twelve 14 = .ok (.iload_n 2, 1) := by decide +kernel
theorem dX10_twelve_15 : decode cX10_twelve 15 = .ok (.iconst 0, 1) := by decide +kernel
theorem dX10_twelve_16 : decode cX10_twelve 16 = .ok (.iconst 1, 1) := by decide +kernel
theorem dX10_twelve_17 : decode cX10_twelve 17 = .ok (.invokestatic 53, 3) := by decide +kernel
theorem dX10_twelve_20 : decode cX10_twelve 20 = .ok (.ifCond .ne 6, 3) := by decide +kernel
theorem dX10_twelve_23 : decode cX10_twelve 23 = .ok (.bipush (-2), 2) := by decide +kernel
theorem dX10_twelve_25 : decode cX10_twelve 25 = .ok (.ireturn, 1) := by decide +kernel
theorem dX10_twelve_26 : decode cX10_twelve 26 = .ok (.aload_n 0, 1) := by decide +kernel
theorem dX10_twelve_27 : decode cX10_twelve 27 = .ok (.getfield 12, 3) := by decide +kernel
theorem dX10_twelve_30 : decode cX10_twelve 30 = .ok (.invokevirtual 124, 3) := by decide +kernel
theorem dX10_twelve_33 : decode cX10_twelve 33 = .ok (.aload_n 0, 1) := by decide +kernel
theorem dX10_twelve_34 : decode cX10_twelve 34 = .ok (.getfield 20, 3) := by decide +kernel
theorem dX10_twelve_37 : decode cX10_twelve 37 = .ok (.getfield 162, 3) := by decide +kernel
theorem dX10_twelve_40 : decode cX10_twelve 40 = .ok (.iload_n 1, 1) := by decide +kernel
theorem dX10_twelve_41 : decode cX10_twelve 41 = .ok (.iconst 0, 1) := by decide +kernel
theorem dX10_twelve_42 : decode cX10_twelve 42 = .ok (.invokevirtual 144, 3) := by decide +kernel
theorem dX10_twelve_45 : decode cX10_twelve 45 = .ok (.istore_n 3, 1) := by decide +kernel
theorem dX10_twelve_46 : decode cX10_twelve 46 = .ok (.aload_n 0, 1) := by decide +kernel
theorem dX10_twelve_47 : decode cX10_twelve 47 = .ok (.getfield 20, 3) := by decide +kernel
theorem dX10_twelve_50 : decode cX10_twelve 50 = .ok (.getfield 162, 3) := by decide +kernel
theorem dX10_twelve_53 : decode cX10_twelve 53 = .ok (.iload_n 1, 1) := by decide +kernel
theorem dX10_twelve_54 : decode cX10_twelve 54 = .ok (.iconst 2, 1) := by decide +kernel
theorem dX10_twelve_55 : decode cX10_twelve 55 = .ok (.invokevirtual 144, 3) := by decide +kernel
theorem dX10_twelve_58 : decode cX10_twelve 58 = .ok (.istore 4, 2) := by decide +kernel
theorem dX10_twelve_60 : decode cX10_twelve 60 = .ok (.iload_n 2, 1) := by decide +kernel
theorem dX10_twelve_61 : decode cX10_twelve 61 = .ok (.ifCond .ne 17, 3) := by decide +kernel
theorem dX10_twelve_64 : decode cX10_twelve 64 = .ok (.aload_n 0, 1) := by decide +kernel
theorem dX10_twelve_65 : decode cX10_twelve 65 = .ok (.getfield 12, 3) := by decide +kernel
theorem dX10_twelve_68 : decode cX10_twelve 68 = .ok (.iload_n 1, 1) := by decide +kernel
theorem dX10_twelve_69 : decode cX10_twelve 69 = .ok (.invokevirtual 172, 3) := by decide +kernel
theorem dX10_twelve_72 : decode cX10_twelve 72 = .ok (.getfield 176, 3) := by decide +kernel
theorem dX10_twelve_75 : decode cX10_twelve 75 = .ok (.goto 28, 3) := by decide +kernel
theorem dX10_twelve_78 : decode cX10_twelve 78 = .ok (.aload_n 0, 1) := by decide +kernel
theorem dX10_twelve_79 : decode cX10_twelve 79 = .ok (.getfield 12, 3) := by decide +kernel
theorem dX10_twelve_82 : decode cX10_twelve 82 = .ok (.aload_n 0, 1) := by decide +kernel
theorem dX10_twelve_83 : decode cX10_twelve 83 = .ok (.getfield 20, 3) := by decide +kernel
theorem dX10_twelve_86 : decode cX10_twelve 86 = .ok (.iconst 0, 1) := by decide +kernel
theorem dX10_twelve_87 : decode cX10_twelve 87 = .ok (.iload_n 3, 1) := by decide +kernel
theorem dX10_twelve_88 : decode cX10_twelve 88 = .ok (.invokevirtual 151, 3) := by decide +kernel
theorem dX10_twelve_91 : decode cX10_twelve 91 = .ok (.iconst 0, 1) := by decide +kernel
theorem dX10_twelve_92 : decode cX10_twelve 92 = .ok (.iload_n 3, 1) := by decide +kernel
theorem dX10_twelve_93 : decode cX10_twelve 93 = .ok (.aload_n 0, 1) := by decide +kernel
theorem dX10_twelve_94 : decode cX10_twelve 94 = .ok (.getfield 20, 3) := by decide +kernel
theorem dX10_twelve_97 : decode cX10_twelve 97 = .ok (.invokevirtual 85, 3) := by decide +kernel
theorem dX10_twelve_100 : decode cX10_twelve 100 = .ok (.invokevirtual 155, 3) := by decide +kernel
theorem dX10_twelve_103 : decode cX10_twelve 103 = .ok (.istore 5, 2) := by decide +kernel
theorem dX10_twelve_105 : decode cX10_twelve 105 = .ok (.lconst 0, 1) := by decide +kernel
theorem dX10_twelve_106 : decode cX10_twelve 106 = .ok (.lstore 6, 2) := by decide +kernel
theorem dX10_twelve_108 : decode cX10_twelve 108 = .ok (.iconst 0, 1) := by decide +kernel
theorem dX10_twelve_109 : decode cX10_twelve 109 = .ok (.istore 8, 2) := by decide +kernel
theorem dX10_twelve_111 : decode cX10_twelve 111 = .ok (.iload 8, 2) := by decide +kernel
theorem dX10_twelve_113 : decode cX10_twelve 113 = .ok (.iconst 3, 1) := by decide +kernel
theorem dX10_twelve_114 : decode cX10_twelve 114 = .ok (.if_icmp .gt 35, 3) := by decide +kernel
theorem dX10_twelve_117 : decode cX10_twelve 117 = .ok (.lload 6, 2) := by decide +kernel
theorem dX10_twelve_119 : decode cX10_twelve 119 = .ok (.iload 5, 2) := by decide +kernel
theorem dX10_twelve_121 : decode cX10_twelve 121 = .ok (.aload_n 0, 1) := by decide +kernel
theorem dX10_twelve_122 : decode cX10_twelve 122 = .ok (.getfield 20, 3) := by decide +kernel
theorem dX10_twelve_125 : decode cX10_twelve 125 = .ok (.iconst 0, 1) := by decide +kernel
theorem dX10_twelve_126 : decode cX10_twelve 126 = .ok (.iload 8, 2) := by decide +kernel
theorem dX10_twelve_128 : decode cX10_twelve 128 = .ok (.invokevirtual 219, 3) := by decide +kernel
theorem dX10_twelve_131 : decode cX10_twelve 131 = .ok (.iand, 1) := by decide +kernel
theorem dX10_twelve_132 : decode cX10_twelve 132 = .ok (.invokestatic 222, 3) := by decide +kernel
theorem dX10_twelve_135 : decode cX10_twelve 135 = .ok (.iload 4, 2) := by decide +kernel
theorem dX10_twelve_137 : decode cX10_twelve 137 = .ok (.invokestatic 211, 3) := by decide +kernel
theorem dX10_twelve_140 : decode cX10_twelve 140 = .ok (.ladd, 1) := by decide +kernel
theorem dX10_twelve_141 : decode cX10_twelve 141 = .ok (.lstore 6, 2) := by decide +kernel
theorem dX10_twelve_143 : decode cX10_twelve 143 = .ok (.iinc 8 1, 3) := by decide +kernel
theorem dX10_twelve_146 : decode cX10_twelve 146 = .ok (.goto (-35), 3) := by decide +kernel
theorem dX10_twelve_149 : decode cX10_twelve 149 = .ok (.aload_n 0, 1) := by decide +kernel
theorem dX10_twelve_150 : decode cX10_twelve 150 = .ok (.getfield 41, 3) := by decide +kernel
theorem dX10_twelve_153 : decode cX10_twelve 153 = .ok (.lload 6, 2) := by decide +kernel
theorem dX10_twelve_155 : decode cX10_twelve 155 = .ok (.iload 5, 2) := by decide +kernel
theorem dX10_twelve_157 : decode cX10_twelve 157 = .ok (.invokestatic 222, 3) := by decide +kernel
theorem dX10_twelve_160 : decode cX10_twelve 160 = .ok (.iload 4, 2) := by decide +kernel
theorem dX10_twelve_162 : decode cX10_twelve 162 = .ok (.invokestatic 211, 3) := by decide +kernel
theorem dX10_twelve_165 : decode cX10_twelve 165 = .ok (.invokevirtual 215, 3) := by decide +kernel
theorem dX10_twelve_168 : decode cX10_twelve 168 = .ok (.ireturn, 1) := by decide +kernel
theorem dX10_part_0 : decode cX10_part 0 = .ok (.iload_n 1, 1) := by decide +kernel
theorem dX10_part_1 : decode cX10_part 1 = .ok (.ifCond .ne 11, 3) := by decide +kernel
theorem dX10_part_4 : decode cX10_part 4 = .ok (.aload_n 0, 1) := by decide +kernel
theorem dX10_part_5 : decode cX10_part 5 = .ok (.getfield 41, 3) := by decide +kernel
theorem dX10_part_8 : decode cX10_part 8 = .ok (.getfield 227, 3) := by decide +kernel
theorem dX10_part_11 : decode cX10_part 11 = .ok (.lreturn, 1) := by decide +kernel
theorem dX10_part_12 : decode cX10_part 12 = .ok (.iload_n 1, 1) := by decide +kernel
theorem dX10_part_13 : decode cX10_part 13 = .ok (.iconst 1, 1) := by decide +kernel
theorem dX10_part_14 : decode cX10_part 14 = .ok (.if_icmp .ne 13, 3) := by decide +kernel
theorem dX10_part_17 : decode cX10_part 17 = .ok (.aload_n 0, 1) := by decide +kernel
theorem dX10_part_18 : decode cX10_part 18 = .ok (.getfield 41, 3) := by decide +kernel
theorem dX10_part_21 : decode cX10_part 21 = .ok (.getfield 231, 3) := by decide +kernel
theorem dX10_part_24 : decode cX10_part 24 = .ok (.goto 6, 3) := by decide +kernel
theorem dX10_part_27 : decode cX10_part 27 = .ok (.ldc2_w 234, 3) := by decide +kernel
theorem dX10_part_30 : decode cX10_part 30 = .ok (.lreturn, 1) := by decide +kernel
theorem dX10_beside_0 : decode cX10_beside 0 = .ok (.aload_n 0, 1) := by decide +kernel
theorem dX10_beside_1 : decode cX10_beside 1 = .ok (.getfield 20, 3) := by decide +kernel
theorem dX10_beside_4 : decode cX10_beside 4 = .ok (.getfield 162, 3) := by decide +kernel
theorem dX10_beside_7 : decode cX10_beside 7 = .ok (.iload_n 1, 1) := by decide +kernel
theorem dX10_beside_8 : decode cX10_beside 8 = .ok (.invokevirtual 75, 3) := by decide +kernel
theorem dX10_beside_11 : decode cX10_beside 11 = .ok (.ifCond .eq 17, 3) := by decide +kernel
theorem dX10_beside_14 : decode cX10_beside 14 = .ok (.iload_n 2, 1) := by decide +kernel
theorem dX10_beside_15 : decode cX10_beside 15 = .ok (.invokestatic 95, 3) := by decide +kernel
theorem dX10_beside_18 : decode cX10_beside 18 = .ok (.ifCond .eq 10, 3) := by decide +kernel
theorem dX10_beside_21 : decode cX10_beside 21 = .ok (.iload_n 3, 1) := by decide +kernel
theorem dX10_beside_22 : decode cX10_beside 22 = .ok (.invokestatic 131, 3) := by decide +kernel
theorem dX10_beside_25 : decode cX10_beside 25 = .ok (.ifCond .ne 6, 3) := by decide +kernel
theorem dX10_beside_28 : decode cX10_beside 28 = .ok (.bipush (-2), 2) := by decide +kernel
theorem dX10_beside_30 : decode cX10_beside 30 = .ok (.ireturn, 1) := by decide +kernel
theorem dX10_beside_31 : decode cX10_beside 31 = .ok (.aload_n 0, 1) := by decide +kernel
theorem dX10_beside_32 : decode cX10_beside 32 = .ok (.getfield 20, 3) := by decide +kernel
theorem dX10_beside_35 : decode cX10_beside 35 = .ok (.getfield 98, 3) := by decide +kernel
theorem dX10_beside_38 : decode cX10_beside 38 = .ok (.iload_n 2, 1) := by decide +kernel
theorem dX10_beside_39 : decode cX10_beside 39 = .ok (.invokevirtual 102, 3) := by decide +kernel
theorem dX10_beside_42 : decode cX10_beside 42 = .ok (.astore 4, 2) := by decide +kernel
theorem dX10_beside_44 : decode cX10_beside 44 = .ok (.aload_n 0, 1) := by decide +kernel
theorem dX10_beside_45 : decode cX10_beside 45 = .ok (.getfield 34, 3) := by decide +kernel
theorem dX10_beside_48 : decode cX10_beside 48 = .ok (.aload 4, 2) := by decide +kernel
theorem dX10_beside_50 : decode cX10_beside 50 = .ok (.invokevirtual 116, 3) := by decide +kernel
theorem dX10_beside_53 : decode cX10_beside 53 = .ok (.iconst (-1), 1) := by decide +kernel
theorem dX10_beside_54 : decode cX10_beside 54 = .ok (.if_icmp .eq 6, 3) := by decide +kernel
theorem dX10_beside_57 : decode cX10_beside 57 = .ok (.bipush (-3), 2) := by decide +kernel
theorem dX10_beside_59 : decode cX10_beside 59 = .ok (.ireturn, 1) := by decide +kernel
theorem dX10_beside_60 : decode cX10_beside 60 = .ok (.aload_n 0, 1) := by decide +kernel
theorem dX10_beside_61 : decode cX10_beside 61 = .ok (.getfield 12, 3) := by decide +kernel
theorem dX10_beside_64 : decode cX10_beside 64 = .ok (.invokevirtual 124, 3) := by decide +kernel
theorem dX10_beside_67 : decode cX10_beside 67 = .ok (.aload_n 0, 1) := by decide +kernel
theorem dX10_beside_68 : decode cX10_beside 68 = .ok (.getfield 20, 3) := by decide +kernel
theorem dX10_beside_71 : decode cX10_beside 71 = .ok (.getfield 162, 3) := by decide +kernel
theorem dX10_beside_74 : decode cX10_beside 74 = .ok (.iload_n 1, 1) := by decide +kernel
theorem dX10_beside_75 : decode cX10_beside 75 = .ok (.iconst 0, 1) := by decide +kernel
theorem dX10_beside_76 : decode cX10_beside 76 = .ok (.invokevirtual 144, 3) := by decide +kernel
theorem dX10_beside_79 : decode cX10_beside 79 = .ok (.istore 5, 2) := by decide +kernel
theorem dX10_beside_81 : decode cX10_beside 81 = .ok (.aload_n 0, 1) := by decide +kernel
theorem dX10_beside_82 : decode cX10_beside 82 = .ok (.getfield 12, 3) := by decide +kernel
theorem dX10_beside_85 : decode cX10_beside 85 = .ok (.iload_n 1, 1) := by decide +kernel
theorem dX10_beside_86 : decode cX10_beside 86 = .ok (.aload_n 0, 1) := by decide +kernel
theorem dX10_beside_87 : decode cX10_beside 87 = .ok (.getfield 12, 3) := by decide +kernel
theorem dX10_beside_90 : decode cX10_beside 90 = .ok (.getfield 236, 3) := by decide +kernel
theorem dX10_beside_93 : decode cX10_beside 93 = .ok (.iload_n 3, 1) := by decide +kernel
theorem dX10_beside_94 : decode cX10_beside 94 = .ok (.ifCond .ne 8, 3) := by decide +kernel
theorem dX10_beside_97 : decode cX10_beside 97 = .ok (.aload 4, 2) := by decide +kernel
theorem dX10_beside_99 : decode cX10_beside 99 = .ok (.goto 13, 3) := by decide +kernel
theorem dX10_beside_102 : decode cX10_beside 102 = .ok (.aload_n 0, 1) := by decide +kernel
theorem dX10_beside_103 : decode cX10_beside 103 = .ok (.getfield 20, 3) := by decide +kernel
theorem dX10_beside_106 : decode cX10_beside 106 = .ok (.iconst 0, 1) := by decide +kernel
theorem dX10_beside_107 : decode cX10_beside 107 = .ok (.iload 5, 2) := by decide +kernel
theorem dX10_beside_109 : decode cX10_beside 109 = .ok (.invokevirtual 151, 3) := by decide +kernel
theorem dX10_beside_112 : decode cX10_beside 112 = .ok (.iload_n 3, 1) := by decide +kernel
theorem dX10_beside_113 : decode cX10_beside 113 = .ok (.iconst 1, 1) := by decide +kernel
theorem dX10_beside_114 : decode cX10_beside 114 = .ok (.if_icmp .ne 8, 3) := by decide +kernel
theorem dX10_beside_117 : decode cX10_beside 117 = .ok (.aload 4, 2) := by decide +kernel
theorem dX10_beside_119 : decode cX10_beside 119 = .ok (.goto 13, 3) := by decide +kernel
theorem dX10_beside_122 : decode cX10_beside 122 = .ok (.aload_n 0, 1) := by decide +kernel
theorem dX10_beside_123 : decode cX10_beside 123 = .ok (.getfield 20, 3) := by decide +kernel
theorem dX10_beside_126 : decode cX10_beside 126 = .ok (.iconst 1, 1) := by decide +kernel
theorem dX10_beside_127 : decode cX10_beside 127 = .ok (.iload 5, 2) := by decide +kernel
theorem dX10_beside_129 : decode cX10_beside 129 = .ok (.invokevirtual 151, 3) := by decide +kernel
theorem dX10_beside_132 : decode cX10_beside 132 = .ok (.invokevirtual 240, 3) := by decide +kernel
theorem dX10_beside_135 : decode cX10_beside 135 = .ok (.aload_n 0, 1) := by decide +kernel
theorem dX10_beside_136 : decode cX10_beside 136 = .ok (.getfield 12, 3) := by decide +kernel
theorem dX10_beside_139 : decode cX10_beside 139 = .ok (.iload_n 1, 1) := by decide +kernel
theorem dX10_beside_140 : decode cX10_beside 140 = .ok (.invokevirtual 172, 3) := by decide +kernel
theorem dX10_beside_143 : decode cX10_beside 143 = .ok (.getfield 188, 3) := by decide +kernel
theorem dX10_beside_146 : decode cX10_beside 146 = .ok (.aload_n 0, 1) := by decide +kernel
theorem dX10_beside_147 : decode cX10_beside 147 = .ok (.getfield 12, 3) := by decide +kernel
theorem dX10_beside_150 : decode cX10_beside 150 = .ok (.getfield 236, 3) := by decide +kernel
theorem dX10_beside_153 : decode cX10_beside 153 = .ok (.getfield 188, 3) := by decide +kernel
theorem dX10_beside_156 : decode cX10_beside 156 = .ok (.ixor, 1) := by decide +kernel
theorem dX10_beside_157 : decode cX10_beside 157 = .ok (.ireturn, 1) := by decide +kernel

theorem dX10_drawn_0 : decode cX10_drawn 0 = .ok (.aload_n 0, 1) := by decide +kernel
theorem dX10_drawn_1 : decode cX10_drawn 1 = .ok (.getfield 20, 3) := by decide +kernel
theorem dX10_drawn_4 : decode cX10_drawn 4 = .ok (.getfield 162, 3) := by decide +kernel
theorem dX10_drawn_7 : decode cX10_drawn 7 = .ok (.iload_n 1, 1) := by decide +kernel
theorem dX10_drawn_8 : decode cX10_drawn 8 = .ok (.invokevirtual 75, 3) := by decide +kernel
theorem dX10_drawn_11 : decode cX10_drawn 11 = .ok (.ifCond .eq 7, 3) := by decide +kernel
theorem dX10_drawn_14 : decode cX10_drawn 14 = .ok (.iload_n 2, 1) := by decide +kernel
theorem dX10_drawn_15 : decode cX10_drawn 15 = .ok (.ifCond .ge 6, 3) := by decide +kernel
theorem dX10_drawn_18 : decode cX10_drawn 18 = .ok (.bipush (-2), 2) := by decide +kernel
theorem dX10_drawn_20 : decode cX10_drawn 20 = .ok (.ireturn, 1) := by decide +kernel
theorem dX10_drawn_21 : decode cX10_drawn 21 = .ok (.aload_n 0, 1) := by decide +kernel
theorem dX10_drawn_22 : decode cX10_drawn 22 = .ok (.getfield 12, 3) := by decide +kernel
theorem dX10_drawn_25 : decode cX10_drawn 25 = .ok (.invokevirtual 124, 3) := by decide +kernel
theorem dX10_drawn_28 : decode cX10_drawn 28 = .ok (.aload_n 0, 1) := by decide +kernel
theorem dX10_drawn_29 : decode cX10_drawn 29 = .ok (.getfield 12, 3) := by decide +kernel
theorem dX10_drawn_32 : decode cX10_drawn 32 = .ok (.iload_n 1, 1) := by decide +kernel
theorem dX10_drawn_33 : decode cX10_drawn 33 = .ok (.invokevirtual 172, 3) := by decide +kernel
theorem dX10_drawn_36 : decode cX10_drawn 36 = .ok (.iload_n 2, 1) := by decide +kernel
theorem dX10_drawn_37 : decode cX10_drawn 37 = .ok (.invokevirtual 182, 3) := by decide +kernel
theorem dX10_drawn_40 : decode cX10_drawn 40 = .ok (.ireturn, 1) := by decide +kernel
theorem dX10_slip_0 : decode cX10_slip 0 = .ok (.aload_n 0, 1) := by decide +kernel
theorem dX10_slip_1 : decode cX10_slip 1 = .ok (.getfield 20, 3) := by decide +kernel
theorem dX10_slip_4 : decode cX10_slip 4 = .ok (.getfield 162, 3) := by decide +kernel
theorem dX10_slip_7 : decode cX10_slip 7 = .ok (.iload_n 1, 1) := by decide +kernel
theorem dX10_slip_8 : decode cX10_slip 8 = .ok (.invokevirtual 75, 3) := by decide +kernel
theorem dX10_slip_11 : decode cX10_slip 11 = .ok (.ifCond .eq 17, 3) := by decide +kernel
theorem dX10_slip_14 : decode cX10_slip 14 = .ok (.aload_n 0, 1) := by decide +kernel
theorem dX10_slip_15 : decode cX10_slip 15 = .ok (.getfield 20, 3) := by decide +kernel
theorem dX10_slip_18 : decode cX10_slip 18 = .ok (.getfield 57, 3) := by decide +kernel
theorem dX10_slip_21 : decode cX10_slip 21 = .ok (.iload_n 2, 1) := by decide +kernel
theorem dX10_slip_22 : decode cX10_slip 22 = .ok (.invokevirtual 75, 3) := by decide +kernel
theorem dX10_slip_25 : decode cX10_slip 25 = .ok (.ifCond .ne 6, 3) := by decide +kernel
theorem dX10_slip_28 : decode cX10_slip 28 = .ok (.bipush (-2), 2) := by decide +kernel
theorem dX10_slip_30 : decode cX10_slip 30 = .ok (.ireturn, 1) := by decide +kernel
theorem dX10_slip_31 : decode cX10_slip 31 = .ok (.aload_n 0, 1) := by decide +kernel
theorem dX10_slip_32 : decode cX10_slip 32 = .ok (.getfield 12, 3) := by decide +kernel
theorem dX10_slip_35 : decode cX10_slip 35 = .ok (.invokevirtual 124, 3) := by decide +kernel
theorem dX10_slip_38 : decode cX10_slip 38 = .ok (.aload_n 0, 1) := by decide +kernel
theorem dX10_slip_39 : decode cX10_slip 39 = .ok (.getfield 12, 3) := by decide +kernel
theorem dX10_slip_42 : decode cX10_slip 42 = .ok (.iload_n 1, 1) := by decide +kernel
theorem dX10_slip_43 : decode cX10_slip 43 = .ok (.invokevirtual 172, 3) := by decide +kernel
theorem dX10_slip_46 : decode cX10_slip 46 = .ok (.iload_n 2, 1) := by decide +kernel
theorem dX10_slip_47 : decode cX10_slip 47 = .ok (.invokevirtual 185, 3) := by decide +kernel
theorem dX10_slip_50 : decode cX10_slip 50 = .ok (.ireturn, 1) := by decide +kernel
theorem dX10_jury_0 : decode cX10_jury 0 = .ok (.aload_n 0, 1) := by decide +kernel
theorem dX10_jury_1 : decode cX10_jury 1 = .ok (.getfield 20, 3) := by decide +kernel
theorem dX10_jury_4 : decode cX10_jury 4 = .ok (.getfield 162, 3) := by decide +kernel
theorem dX10_jury_7 : decode cX10_jury 7 = .ok (.iload_n 1, 1) := by decide +kernel
theorem dX10_jury_8 : decode cX10_jury 8 = .ok (.invokevirtual 75, 3) := by decide +kernel
theorem dX10_jury_11 : decode cX10_jury 11 = .ok (.ifCond .ne 6, 3) := by decide +kernel
theorem dX10_jury_14 : decode cX10_jury 14 = .ok (.bipush (-2), 2) := by decide +kernel
theorem dX10_jury_16 : decode cX10_jury 16 = .ok (.ireturn, 1) := by decide +kernel
theorem dX10_jury_17 : decode cX10_jury 17 = .ok (.aload_n 0, 1) := by decide +kernel
theorem dX10_jury_18 : decode cX10_jury 18 = .ok (.getfield 12, 3) := by decide +kernel
theorem dX10_jury_21 : decode cX10_jury 21 = .ok (.invokevirtual 124, 3) := by decide +kernel
theorem dX10_jury_24 : decode cX10_jury 24 = .ok (.aload_n 0, 1) := by decide +kernel
theorem dX10_jury_25 : decode cX10_jury 25 = .ok (.getfield 12, 3) := by decide +kernel
theorem dX10_jury_28 : decode cX10_jury 28 = .ok (.iload_n 1, 1) := by decide +kernel
theorem dX10_jury_29 : decode cX10_jury 29 = .ok (.invokevirtual 172, 3) := by decide +kernel
theorem dX10_jury_32 : decode cX10_jury 32 = .ok (.getfield 188, 3) := by decide +kernel
theorem dX10_jury_35 : decode cX10_jury 35 = .ok (.ireturn, 1) := by decide +kernel
theorem dX10_about_0 : decode cX10_about 0 = .ok (.aload_n 0, 1) := by decide +kernel
theorem dX10_about_1 : decode cX10_about 1 = .ok (.getfield 20, 3) := by decide +kernel
theorem dX10_about_4 : decode cX10_about 4 = .ok (.getfield 162, 3) := by decide +kernel
theorem dX10_about_7 : decode cX10_about 7 = .ok (.iload_n 1, 1) := by decide +kernel
theorem dX10_about_8 : decode cX10_about 8 = .ok (.invokevirtual 75, 3) := by decide +kernel
theorem dX10_about_11 : decode cX10_about 11 = .ok (.ifCond .eq 12, 3) := by decide +kernel
theorem dX10_about_14 : decode cX10_about 14 = .ok (.iload_n 2, 1) := by decide +kernel
theorem dX10_about_15 : decode cX10_about 15 = .ok (.iconst 0, 1) := by decide +kernel
theorem dX10_about_16 : decode cX10_about 16 = .ok (.iconst 3, 1) := by decide +kernel
theorem dX10_about_17 : decode cX10_about 17 = .ok (.invokestatic 53, 3) := by decide +kernel
theorem dX10_about_20 : decode cX10_about 20 = .ok (.ifCond .ne 6, 3) := by decide +kernel
theorem dX10_about_23 : decode cX10_about 23 = .ok (.ldc 191, 2) := by decide +kernel
theorem dX10_about_25 : decode cX10_about 25 = .ok (.ireturn, 1) := by decide +kernel
theorem dX10_about_26 : decode cX10_about 26 = .ok (.aload_n 0, 1) := by decide +kernel
theorem dX10_about_27 : decode cX10_about 27 = .ok (.getfield 12, 3) := by decide +kernel
theorem dX10_about_30 : decode cX10_about 30 = .ok (.invokevirtual 124, 3) := by decide +kernel
theorem dX10_about_33 : decode cX10_about 33 = .ok (.aload_n 0, 1) := by decide +kernel
theorem dX10_about_34 : decode cX10_about 34 = .ok (.getfield 12, 3) := by decide +kernel
theorem dX10_about_37 : decode cX10_about 37 = .ok (.iload_n 1, 1) := by decide +kernel
theorem dX10_about_38 : decode cX10_about 38 = .ok (.invokevirtual 172, 3) := by decide +kernel
theorem dX10_about_41 : decode cX10_about 41 = .ok (.iload_n 2, 1) := by decide +kernel
theorem dX10_about_42 : decode cX10_about 42 = .ok (.invokevirtual 192, 3) := by decide +kernel
theorem dX10_about_45 : decode cX10_about 45 = .ok (.ireturn, 1) := by decide +kernel
theorem dX10_bad_0 : decode cX10_bad 0 = .ok (.iload_n 1, 1) := by decide +kernel
theorem dX10_bad_1 : decode cX10_bad 1 = .ok (.invokestatic 79, 3) := by decide +kernel
theorem dX10_bad_4 : decode cX10_bad 4 = .ok (.ifCond .ne 6, 3) := by decide +kernel
theorem dX10_bad_7 : decode cX10_bad 7 = .ok (.bipush (-2), 2) := by decide +kernel
theorem dX10_bad_9 : decode cX10_bad 9 = .ok (.ireturn, 1) := by decide +kernel
theorem dX10_bad_10 : decode cX10_bad 10 = .ok (.aload_n 0, 1) := by decide +kernel
theorem dX10_bad_11 : decode cX10_bad 11 = .ok (.getfield 12, 3) := by decide +kernel
theorem dX10_bad_14 : decode cX10_bad 14 = .ok (.invokevirtual 124, 3) := by decide +kernel
theorem dX10_bad_17 : decode cX10_bad 17 = .ok (.iconst 0, 1) := by decide +kernel
theorem dX10_bad_18 : decode cX10_bad 18 = .ok (.istore_n 2, 1) := by decide +kernel
theorem dX10_bad_19 : decode cX10_bad 19 = .ok (.iconst 0, 1) := by decide +kernel
theorem dX10_bad_20 : decode cX10_bad 20 = .ok (.istore_n 3, 1) := by decide +kernel
theorem dX10_bad_21 : decode cX10_bad 21 = .ok (.iload_n 3, 1) := by decide +kernel
theorem dX10_bad_22 : decode cX10_bad 22 = .ok (.aload_n 0, 1) := by decide +kernel
theorem dX10_bad_23 : decode cX10_bad 23 = .ok (.getfield 20, 3) := by decide +kernel
theorem dX10_bad_26 : decode cX10_bad 26 = .ok (.getfield 162, 3) := by decide +kernel
theorem dX10_bad_29 : decode cX10_bad 29 = .ok (.invokevirtual 195, 3) := by decide +kernel
theorem dX10_bad_32 : decode cX10_bad 32 = .ok (.if_icmp .ge 39, 3) := by decide +kernel
theorem dX10_bad_35 : decode cX10_bad 35 = .ok (.aload_n 0, 1) := by decide +kernel
theorem dX10_bad_36 : decode cX10_bad 36 = .ok (.getfield 12, 3) := by decide +kernel
theorem dX10_bad_39 : decode cX10_bad 39 = .ok (.iload_n 3, 1) := by decide +kernel
theorem dX10_bad_40 : decode cX10_bad 40 = .ok (.invokevirtual 172, 3) := by decide +kernel
theorem dX10_bad_43 : decode cX10_bad 43 = .ok (.getfield 188, 3) := by decide +kernel
theorem dX10_bad_46 : decode cX10_bad 46 = .ok (.aload_n 0, 1) := by decide +kernel
theorem dX10_bad_47 : decode cX10_bad 47 = .ok (.getfield 20, 3) := by decide +kernel
theorem dX10_bad_50 : decode cX10_bad 50 = .ok (.iload_n 3, 1) := by decide +kernel
theorem dX10_bad_51 : decode cX10_bad 51 = .ok (.iload_n 1, 1) := by decide +kernel
theorem dX10_bad_52 : decode cX10_bad 52 = .ok (.invokevirtual 198, 3) := by decide +kernel
theorem dX10_bad_55 : decode cX10_bad 55 = .ok (.iand, 1) := by decide +kernel
theorem dX10_bad_56 : decode cX10_bad 56 = .ok (.ifCond .eq 9, 3) := by decide +kernel
theorem dX10_bad_59 : decode cX10_bad 59 = .ok (.iload_n 2, 1) := by decide +kernel
theorem dX10_bad_60 : decode cX10_bad 60 = .ok (.iconst 1, 1) := by decide +kernel
theorem dX10_bad_61 : decode cX10_bad 61 = .ok (.iload_n 3, 1) := by decide +kernel
theorem dX10_bad_62 : decode cX10_bad 62 = .ok (.ishl, 1) := by decide +kernel
theorem dX10_bad_63 : decode cX10_bad 63 = .ok (.ior, 1) := by decide +kernel
theorem dX10_bad_64 : decode cX10_bad 64 = .ok (.istore_n 2, 1) := by decide +kernel
theorem dX10_bad_65 : decode cX10_bad 65 = .ok (.iinc 3 1, 3) := by decide +kernel
theorem dX10_bad_68 : decode cX10_bad 68 = .ok (.goto (-47), 3) := by decide +kernel
theorem dX10_bad_71 : decode cX10_bad 71 = .ok (.iload_n 2, 1) := by decide +kernel
theorem dX10_bad_72 : decode cX10_bad 72 = .ok (.ireturn, 1) := by decide +kernel
theorem dX10_sums_0 : decode cX10_sums 0 = .ok (.iload_n 1, 1) := by decide +kernel
theorem dX10_sums_1 : decode cX10_sums 1 = .ok (.iconst 0, 1) := by decide +kernel
theorem dX10_sums_2 : decode cX10_sums 2 = .ok (.bipush 100, 2) := by decide +kernel
theorem dX10_sums_4 : decode cX10_sums 4 = .ok (.invokestatic 53, 3) := by decide +kernel
theorem dX10_sums_7 : decode cX10_sums 7 = .ok (.ifCond .eq 14, 3) := by decide +kernel
theorem dX10_sums_10 : decode cX10_sums 10 = .ok (.iload_n 2, 1) := by decide +kernel
theorem dX10_sums_11 : decode cX10_sums 11 = .ok (.iconst 0, 1) := by decide +kernel
theorem dX10_sums_12 : decode cX10_sums 12 = .ok (.sipush 1000, 3) := by decide +kernel
theorem dX10_sums_15 : decode cX10_sums 15 = .ok (.invokestatic 53, 3) := by decide +kernel
theorem dX10_sums_18 : decode cX10_sums 18 = .ok (.ifCond .ne 6, 3) := by decide +kernel
theorem dX10_sums_21 : decode cX10_sums 21 = .ok (.bipush (-2), 2) := by decide +kernel
theorem dX10_sums_23 : decode cX10_sums 23 = .ok (.ireturn, 1) := by decide +kernel
theorem dX10_sums_24 : decode cX10_sums 24 = .ok (.aload_n 0, 1) := by decide +kernel
theorem dX10_sums_25 : decode cX10_sums 25 = .ok (.getfield 20, 3) := by decide +kernel
theorem dX10_sums_28 : decode cX10_sums 28 = .ok (.iload_n 1, 1) := by decide +kernel
theorem dX10_sums_29 : decode cX10_sums 29 = .ok (.putfield 201, 3) := by decide +kernel
theorem dX10_sums_32 : decode cX10_sums 32 = .ok (.aload_n 0, 1) := by decide +kernel
theorem dX10_sums_33 : decode cX10_sums 33 = .ok (.getfield 20, 3) := by decide +kernel
theorem dX10_sums_36 : decode cX10_sums 36 = .ok (.iload_n 2, 1) := by decide +kernel
theorem dX10_sums_37 : decode cX10_sums 37 = .ok (.putfield 204, 3) := by decide +kernel
theorem dX10_sums_40 : decode cX10_sums 40 = .ok (.iconst 1, 1) := by decide +kernel
theorem dX10_sums_41 : decode cX10_sums 41 = .ok (.ireturn, 1) := by decide +kernel
theorem dX10_owed_0 : decode cX10_owed 0 = .ok (.aload_n 0, 1) := by decide +kernel
theorem dX10_owed_1 : decode cX10_owed 1 = .ok (.getfield 20, 3) := by decide +kernel
theorem dX10_owed_4 : decode cX10_owed 4 = .ok (.getfield 57, 3) := by decide +kernel
theorem dX10_owed_7 : decode cX10_owed 7 = .ok (.iload_n 1, 1) := by decide +kernel
theorem dX10_owed_8 : decode cX10_owed 8 = .ok (.invokevirtual 75, 3) := by decide +kernel
theorem dX10_owed_11 : decode cX10_owed 11 = .ok (.ifCond .eq 10, 3) := by decide +kernel
theorem dX10_owed_14 : decode cX10_owed 14 = .ok (.iload_n 2, 1) := by decide +kernel
theorem dX10_owed_15 : decode cX10_owed 15 = .ok (.invokestatic 79, 3) := by decide +kernel
theorem dX10_owed_18 : decode cX10_owed 18 = .ok (.ifCond .ne 6, 3) := by decide +kernel
theorem dX10_owed_21 : decode cX10_owed 21 = .ok (.ldc 207, 2) := by decide +kernel
theorem dX10_owed_23 : decode cX10_owed 23 = .ok (.ireturn, 1) := by decide +kernel
theorem dX10_owed_24 : decode cX10_owed 24 = .ok (.aload_n 0, 1) := by decide +kernel
theorem dX10_owed_25 : decode cX10_owed 25 = .ok (.getfield 12, 3) := by decide +kernel
theorem dX10_owed_28 : decode cX10_owed 28 = .ok (.invokevirtual 124, 3) := by decide +kernel
theorem dX10_owed_31 : decode cX10_owed 31 = .ok (.iconst 0, 1) := by decide +kernel
theorem dX10_owed_32 : decode cX10_owed 32 = .ok (.istore_n 3, 1) := by decide +kernel
theorem dX10_owed_33 : decode cX10_owed 33 = .ok (.iconst 0, 1) := by decide +kernel
theorem dX10_owed_34 : decode cX10_owed 34 = .ok (.istore 4, 2) := by decide +kernel
theorem dX10_owed_36 : decode cX10_owed 36 = .ok (.iload 4, 2) := by decide +kernel
theorem dX10_owed_38 : decode cX10_owed 38 = .ok (.aload_n 0, 1) := by decide +kernel
theorem dX10_owed_39 : decode cX10_owed 39 = .ok (.getfield 20, 3) := by decide +kernel
theorem dX10_owed_42 : decode cX10_owed 42 = .ok (.getfield 162, 3) := by decide +kernel
theorem dX10_owed_45 : decode cX10_owed 45 = .ok (.invokevirtual 195, 3) := by decide +kernel
theorem dX10_owed_48 : decode cX10_owed 48 = .ok (.if_icmp .ge 103, 3) := by decide +kernel
theorem dX10_owed_51 : decode cX10_owed 51 = .ok (.aload_n 0, 1) := by decide +kernel
theorem dX10_owed_52 : decode cX10_owed 52 = .ok (.getfield 20, 3) := by decide +kernel
theorem dX10_owed_55 : decode cX10_owed 55 = .ok (.getfield 162, 3) := by decide +kernel
theorem dX10_owed_58 : decode cX10_owed 58 = .ok (.iload 4, 2) := by decide +kernel
theorem dX10_owed_60 : decode cX10_owed 60 = .ok (.iconst 0, 1) := by decide +kernel
theorem dX10_owed_61 : decode cX10_owed 61 = .ok (.invokevirtual 144, 3) := by decide +kernel
theorem dX10_owed_64 : decode cX10_owed 64 = .ok (.iload_n 2, 1) := by decide +kernel
theorem dX10_owed_65 : decode cX10_owed 65 = .ok (.if_icmp .gt 80, 3) := by decide +kernel
theorem dX10_owed_68 : decode cX10_owed 68 = .ok (.aload_n 0, 1) := by decide +kernel
theorem dX10_owed_69 : decode cX10_owed 69 = .ok (.getfield 12, 3) := by decide +kernel
theorem dX10_owed_72 : decode cX10_owed 72 = .ok (.iload 4, 2) := by decide +kernel
theorem dX10_owed_74 : decode cX10_owed 74 = .ok (.invokevirtual 172, 3) := by decide +kernel
theorem dX10_owed_77 : decode cX10_owed 77 = .ok (.astore 5, 2) := by decide +kernel
theorem dX10_owed_79 : decode cX10_owed 79 = .ok (.iload_n 3, 1) := by decide +kernel
theorem dX10_owed_80 : decode cX10_owed 80 = .ok (.aload 5, 2) := by decide +kernel
theorem dX10_owed_82 : decode cX10_owed 82 = .ok (.getfield 188, 3) := by decide +kernel
theorem dX10_owed_85 : decode cX10_owed 85 = .ok (.iload_n 1, 1) := by decide +kernel
theorem dX10_owed_86 : decode cX10_owed 86 = .ok (.invokestatic 165, 3) := by decide +kernel
theorem dX10_owed_89 : decode cX10_owed 89 = .ok (.ifCond .eq 27, 3) := by decide +kernel
theorem dX10_owed_92 : decode cX10_owed 92 = .ok (.aload_n 0, 1) := by decide +kernel
theorem dX10_owed_93 : decode cX10_owed 93 = .ok (.getfield 20, 3) := by decide +kernel
theorem dX10_owed_96 : decode cX10_owed 96 = .ok (.getfield 201, 3) := by decide +kernel
theorem dX10_owed_99 : decode cX10_owed 99 = .ok (.aload_n 0, 1) := by decide +kernel
theorem dX10_owed_100 : decode cX10_owed 100 = .ok (.getfield 20, 3) := by decide +kernel
theorem dX10_owed_103 : decode cX10_owed 103 = .ok (.getfield 162, 3) := by decide +kernel
theorem dX10_owed_106 : decode cX10_owed 106 = .ok (.iload 4, 2) := by decide +kernel
theorem dX10_owed_108 : decode cX10_owed 108 = .ok (.iconst 1, 1) := by decide +kernel
theorem dX10_owed_109 : decode cX10_owed 109 = .ok (.invokevirtual 144, 3) := by decide +kernel
theorem dX10_owed_112 : decode cX10_owed 112 = .ok (.imul, 1) := by decide +kernel
theorem dX10_owed_113 : decode cX10_owed 113 = .ok (.goto 4, 3) := by decide +kernel
theorem dX10_owed_116 : decode cX10_owed 116 = .ok (.iconst 0, 1) := by decide +kernel
theorem dX10_owed_117 : decode cX10_owed 117 = .ok (.iadd, 1) := by decide +kernel
theorem dX10_owed_118 : decode cX10_owed 118 = .ok (.istore_n 3, 1) := by decide +kernel
theorem dX10_owed_119 : decode cX10_owed 119 = .ok (.iload_n 3, 1) := by decide +kernel
theorem dX10_owed_120 : decode cX10_owed 120 = .ok (.aload 5, 2) := by decide +kernel
theorem dX10_owed_122 : decode cX10_owed 122 = .ok (.getfield 208, 3) := by decide +kernel
theorem dX10_owed_125 : decode cX10_owed 125 = .ok (.iload_n 1, 1) := by decide +kernel
theorem dX10_owed_126 : decode cX10_owed 126 = .ok (.invokestatic 165, 3) := by decide +kernel
theorem dX10_owed_129 : decode cX10_owed 129 = .ok (.ifCond .eq 13, 3) := by decide +kernel
theorem dX10_owed_132 : decode cX10_owed 132 = .ok (.aload_n 0, 1) := by decide +kernel
theorem dX10_owed_133 : decode cX10_owed 133 = .ok (.getfield 20, 3) := by decide +kernel
theorem dX10_owed_136 : decode cX10_owed 136 = .ok (.getfield 204, 3) := by decide +kernel
theorem dX10_owed_139 : decode cX10_owed 139 = .ok (.goto 4, 3) := by decide +kernel
theorem dX10_owed_142 : decode cX10_owed 142 = .ok (.iconst 0, 1) := by decide +kernel
theorem dX10_owed_143 : decode cX10_owed 143 = .ok (.isub, 1) := by decide +kernel
theorem dX10_owed_144 : decode cX10_owed 144 = .ok (.istore_n 3, 1) := by decide +kernel
theorem dX10_owed_145 : decode cX10_owed 145 = .ok (.iinc 4 1, 3) := by decide +kernel
theorem dX10_owed_148 : decode cX10_owed 148 = .ok (.goto (-112), 3) := by decide +kernel
theorem dX10_owed_151 : decode cX10_owed 151 = .ok (.iload_n 3, 1) := by decide +kernel
theorem dX10_owed_152 : decode cX10_owed 152 = .ok (.ireturn, 1) := by decide +kernel
theorem dX10_chance_0 : decode cX10_chance 0 = .ok (.iload_n 1, 1) := by decide +kernel
theorem dX10_chance_1 : decode cX10_chance 1 = .ok (.iconst 0, 1) := by decide +kernel
theorem dX10_chance_2 : decode cX10_chance 2 = .ok (.bipush 40, 2) := by decide +kernel
theorem dX10_chance_4 : decode cX10_chance 4 = .ok (.invokestatic 53, 3) := by decide +kernel
theorem dX10_chance_7 : decode cX10_chance 7 = .ok (.ifCond .eq 32, 3) := by decide +kernel
theorem dX10_chance_10 : decode cX10_chance 10 = .ok (.iload_n 2, 1) := by decide +kernel
theorem dX10_chance_11 : decode cX10_chance 11 = .ok (.iconst 0, 1) := by decide +kernel
theorem dX10_chance_12 : decode cX10_chance 12 = .ok (.iload_n 1, 1) := by decide +kernel
theorem dX10_chance_13 : decode cX10_chance 13 = .ok (.invokestatic 53, 3) := by decide +kernel
theorem dX10_chance_16 : decode cX10_chance 16 = .ok (.ifCond .eq 23, 3) := by decide +kernel
theorem dX10_chance_19 : decode cX10_chance 19 = .ok (.iload_n 3, 1) := by decide +kernel
theorem dX10_chance_20 : decode cX10_chance 20 = .ok (.iconst 0, 1) := by decide +kernel
theorem dX10_chance_21 : decode cX10_chance 21 = .ok (.iload_n 1, 1) := by decide +kernel
theorem dX10_chance_22 : decode cX10_chance 22 = .ok (.invokestatic 53, 3) := by decide +kernel
theorem dX10_chance_25 : decode cX10_chance 25 = .ok (.ifCond .eq 14, 3) := by decide +kernel
theorem dX10_chance_28 : decode cX10_chance 28 = .ok (.iload 4, 2) := by decide +kernel
theorem dX10_chance_30 : decode cX10_chance 30 = .ok (.iconst 0, 1) := by decide +kernel
theorem dX10_chance_31 : decode cX10_chance 31 = .ok (.bipush 40, 2) := by decide +kernel
theorem dX10_chance_33 : decode cX10_chance 33 = .ok (.invokestatic 53, 3) := by decide +kernel
theorem dX10_chance_36 : decode cX10_chance 36 = .ok (.ifCond .ne 6, 3) := by decide +kernel
theorem dX10_chance_39 : decode cX10_chance 39 = .ok (.bipush (-2), 2) := by decide +kernel
theorem dX10_chance_41 : decode cX10_chance 41 = .ok (.ireturn, 1) := by decide +kernel
theorem dX10_chance_42 : decode cX10_chance 42 = .ok (.lconst 0, 1) := by decide +kernel
theorem dX10_chance_43 : decode cX10_chance 43 = .ok (.lstore 5, 2) := by decide +kernel
theorem dX10_chance_45 : decode cX10_chance 45 = .ok (.iload 4, 2) := by decide +kernel
theorem dX10_chance_47 : decode cX10_chance 47 = .ok (.istore 7, 2) := by decide +kernel
theorem dX10_chance_49 : decode cX10_chance 49 = .ok (.iload 7, 2) := by decide +kernel
theorem dX10_chance_51 : decode cX10_chance 51 = .ok (.iload_n 3, 1) := by decide +kernel
theorem dX10_chance_52 : decode cX10_chance 52 = .ok (.if_icmp .gt 31, 3) := by decide +kernel
theorem dX10_chance_55 : decode cX10_chance 55 = .ok (.lload 5, 2) := by decide +kernel
theorem dX10_chance_57 : decode cX10_chance 57 = .ok (.iload_n 2, 1) := by decide +kernel
theorem dX10_chance_58 : decode cX10_chance 58 = .ok (.iload 7, 2) := by decide +kernel
theorem dX10_chance_60 : decode cX10_chance 60 = .ok (.invokestatic 211, 3) := by decide +kernel
theorem dX10_chance_63 : decode cX10_chance 63 = .ok (.iload_n 1, 1) := by decide +kernel
theorem dX10_chance_64 : decode cX10_chance 64 = .ok (.iload_n 2, 1) := by decide +kernel
theorem dX10_chance_65 : decode cX10_chance 65 = .ok (.isub, 1) := by decide +kernel
theorem dX10_chance_66 : decode cX10_chance 66 = .ok (.iload_n 3, 1) := by decide +kernel
theorem dX10_chance_67 : decode cX10_chance 67 = .ok (.iload 7, 2) := by decide +kernel
theorem dX10_chance_69 : decode cX10_chance 69 = .ok (.isub, 1) := by decide +kernel
theorem dX10_chance_70 : decode cX10_chance 70 = .ok (.invokestatic 211, 3) := by decide +kernel
theorem dX10_chance_73 : decode cX10_chance 73 = .ok (.lmul, 1) := by decide +kernel
theorem dX10_chance_74 : decode cX10_chance 74 = .ok (.ladd, 1) := by decide +kernel
theorem dX10_chance_75 : decode cX10_chance 75 = .ok (.lstore 5, 2) := by decide +kernel
theorem dX10_chance_77 : decode cX10_chance 77 = .ok (.iinc 7 1, 3) := by decide +kernel
theorem dX10_chance_80 : decode cX10_chance 80 = .ok (.goto (-31), 3) := by decide +kernel
theorem dX10_chance_83 : decode cX10_chance 83 = .ok (.aload_n 0, 1) := by decide +kernel
theorem dX10_chance_84 : decode cX10_chance 84 = .ok (.getfield 41, 3) := by decide +kernel
theorem dX10_chance_87 : decode cX10_chance 87 = .ok (.lload 5, 2) := by decide +kernel
theorem dX10_chance_89 : decode cX10_chance 89 = .ok (.iload_n 1, 1) := by decide +kernel
theorem dX10_chance_90 : decode cX10_chance 90 = .ok (.iload_n 3, 1) := by decide +kernel
theorem dX10_chance_91 : decode cX10_chance 91 = .ok (.invokestatic 211, 3) := by decide +kernel
theorem dX10_chance_94 : decode cX10_chance 94 = .ok (.invokevirtual 215, 3) := by decide +kernel
theorem dX10_chance_97 : decode cX10_chance 97 = .ok (.ireturn, 1) := by decide +kernel
theorem dX10_twelve_0 : decode cX10_twelve 0 = .ok (.aload_n 0, 1) := by decide +kernel
theorem dX10_twelve_1 : decode cX10_twelve 1 = .ok (.getfield 20, 3) := by decide +kernel
theorem dX10_twelve_4 : decode cX10_twelve 4 = .ok (.getfield 162, 3) := by decide +kernel
theorem dX10_twelve_7 : decode cX10_twelve 7 = .ok (.iload_n 1, 1) := by decide +kernel
theorem dX10_twelve_8 : decode cX10_twelve 8 = .ok (.invokevirtual 75, 3) := by decide +kernel
theorem dX10_twelve_11 : decode cX10_twelve 11 = .ok (.ifCond .eq 12, 3) := by decide +kernel
theorem dX10_twelve_14 : decode cX10_twelve 14 = .ok (.iload_n 2, 1) := by decide +kernel
theorem dX10_twelve_15 : decode cX10_twelve 15 = .ok (.iconst 0, 1) := by decide +kernel
theorem dX10_twelve_16 : decode cX10_twelve 16 = .ok (.iconst 1, 1) := by decide +kernel
theorem dX10_twelve_17 : decode cX10_twelve 17 = .ok (.invokestatic 53, 3) := by decide +kernel
theorem dX10_twelve_20 : decode cX10_twelve 20 = .ok (.ifCond .ne 6, 3) := by decide +kernel
theorem dX10_twelve_23 : decode cX10_twelve 23 = .ok (.bipush (-2), 2) := by decide +kernel
theorem dX10_twelve_25 : decode cX10_twelve 25 = .ok (.ireturn, 1) := by decide +kernel
theorem dX10_twelve_26 : decode cX10_twelve 26 = .ok (.aload_n 0, 1) := by decide +kernel
theorem dX10_twelve_27 : decode cX10_twelve 27 = .ok (.getfield 12, 3) := by decide +kernel
theorem dX10_twelve_30 : decode cX10_twelve 30 = .ok (.invokevirtual 124, 3) := by decide +kernel
theorem dX10_twelve_33 : decode cX10_twelve 33 = .ok (.aload_n 0, 1) := by decide +kernel
theorem dX10_twelve_34 : decode cX10_twelve 34 = .ok (.getfield 20, 3) := by decide +kernel
theorem dX10_twelve_37 : decode cX10_twelve 37 = .ok (.getfield 162, 3) := by decide +kernel
theorem dX10_twelve_40 : decode cX10_twelve 40 = .ok (.iload_n 1, 1) := by decide +kernel
theorem dX10_twelve_41 : decode cX10_twelve 41 = .ok (.iconst 0, 1) := by decide +kernel
theorem dX10_twelve_42 : decode cX10_twelve 42 = .ok (.invokevirtual 144, 3) := by decide +kernel
theorem dX10_twelve_45 : decode cX10_twelve 45 = .ok (.istore_n 3, 1) := by decide +kernel
theorem dX10_twelve_46 : decode cX10_twelve 46 = .ok (.aload_n 0, 1) := by decide +kernel
theorem dX10_twelve_47 : decode cX10_twelve 47 = .ok (.getfield 20, 3) := by decide +kernel
theorem dX10_twelve_50 : decode cX10_twelve 50 = .ok (.getfield 162, 3) := by decide +kernel
theorem dX10_twelve_53 : decode cX10_twelve 53 = .ok (.iload_n 1, 1) := by decide +kernel
theorem dX10_twelve_54 : decode cX10_twelve 54 = .ok (.iconst 2, 1) := by decide +kernel
theorem dX10_twelve_55 : decode cX10_twelve 55 = .ok (.invokevirtual 144, 3) := by decide +kernel
theorem dX10_twelve_58 : decode cX10_twelve 58 = .ok (.istore 4, 2) := by decide +kernel
theorem dX10_twelve_60 : decode cX10_twelve 60 = .ok (.iload_n 2, 1) := by decide +kernel
theorem dX10_twelve_61 : decode cX10_twelve 61 = .ok (.ifCond .ne 17, 3) := by decide +kernel
theorem dX10_twelve_64 : decode cX10_twelve 64 = .ok (.aload_n 0, 1) := by decide +kernel
theorem dX10_twelve_65 : decode cX10_twelve 65 = .ok (.getfield 12, 3) := by decide +kernel
theorem dX10_twelve_68 : decode cX10_twelve 68 = .ok (.iload_n 1, 1) := by decide +kernel
theorem dX10_twelve_69 : decode cX10_twelve 69 = .ok (.invokevirtual 172, 3) := by decide +kernel
theorem dX10_twelve_72 : decode cX10_twelve 72 = .ok (.getfield 176, 3) := by decide +kernel
theorem dX10_twelve_75 : decode cX10_twelve 75 = .ok (.goto 28, 3) := by decide +kernel
theorem dX10_twelve_78 : decode cX10_twelve 78 = .ok (.aload_n 0, 1) := by decide +kernel
theorem dX10_twelve_79 : decode cX10_twelve 79 = .ok (.getfield 12, 3) := by decide +kernel
theorem dX10_twelve_82 : decode cX10_twelve 82 = .ok (.aload_n 0, 1) := by decide +kernel
theorem dX10_twelve_83 : decode cX10_twelve 83 = .ok (.getfield 20, 3) := by decide +kernel
theorem dX10_twelve_86 : decode cX10_twelve 86 = .ok (.iconst 0, 1) := by decide +kernel
theorem dX10_twelve_87 : decode cX10_twelve 87 = .ok (.iload_n 3, 1) := by decide +kernel
theorem dX10_twelve_88 : decode cX10_twelve 88 = .ok (.invokevirtual 151, 3) := by decide +kernel
theorem dX10_twelve_91 : decode cX10_twelve 91 = .ok (.iconst 0, 1) := by decide +kernel
theorem dX10_twelve_92 : decode cX10_twelve 92 = .ok (.iload_n 3, 1) := by decide +kernel
theorem dX10_twelve_93 : decode cX10_twelve 93 = .ok (.aload_n 0, 1) := by decide +kernel
theorem dX10_twelve_94 : decode cX10_twelve 94 = .ok (.getfield 20, 3) := by decide +kernel
theorem dX10_twelve_97 : decode cX10_twelve 97 = .ok (.invokevirtual 85, 3) := by decide +kernel
theorem dX10_twelve_100 : decode cX10_twelve 100 = .ok (.invokevirtual 155, 3) := by decide +kernel
theorem dX10_twelve_103 : decode cX10_twelve 103 = .ok (.istore 5, 2) := by decide +kernel
theorem dX10_twelve_105 : decode cX10_twelve 105 = .ok (.lconst 0, 1) := by decide +kernel
theorem dX10_twelve_106 : decode cX10_twelve 106 = .ok (.lstore 6, 2) := by decide +kernel
theorem dX10_twelve_108 : decode cX10_twelve 108 = .ok (.iconst 0, 1) := by decide +kernel
theorem dX10_twelve_109 : decode cX10_twelve 109 = .ok (.istore 8, 2) := by decide +kernel
theorem dX10_twelve_111 : decode cX10_twelve 111 = .ok (.iload 8, 2) := by decide +kernel
theorem dX10_twelve_113 : decode cX10_twelve 113 = .ok (.iconst 3, 1) := by decide +kernel
theorem dX10_twelve_114 : decode cX10_twelve 114 = .ok (.if_icmp .gt 35, 3) := by decide +kernel
theorem dX10_twelve_117 : decode cX10_twelve 117 = .ok (.lload 6, 2) := by decide +kernel
theorem dX10_twelve_119 : decode cX10_twelve 119 = .ok (.iload 5, 2) := by decide +kernel
theorem dX10_twelve_121 : decode cX10_twelve 121 = .ok (.aload_n 0, 1) := by decide +kernel
theorem dX10_twelve_122 : decode cX10_twelve 122 = .ok (.getfield 20, 3) := by decide +kernel
theorem dX10_twelve_125 : decode cX10_twelve 125 = .ok (.iconst 0, 1) := by decide +kernel
theorem dX10_twelve_126 : decode cX10_twelve 126 = .ok (.iload 8, 2) := by decide +kernel
theorem dX10_twelve_128 : decode cX10_twelve 128 = .ok (.invokevirtual 219, 3) := by decide +kernel
theorem dX10_twelve_131 : decode cX10_twelve 131 = .ok (.iand, 1) := by decide +kernel
theorem dX10_twelve_132 : decode cX10_twelve 132 = .ok (.invokestatic 222, 3) := by decide +kernel
theorem dX10_twelve_135 : decode cX10_twelve 135 = .ok (.iload 4, 2) := by decide +kernel
theorem dX10_twelve_137 : decode cX10_twelve 137 = .ok (.invokestatic 211, 3) := by decide +kernel
theorem dX10_twelve_140 : decode cX10_twelve 140 = .ok (.ladd, 1) := by decide +kernel
theorem dX10_twelve_141 : decode cX10_twelve 141 = .ok (.lstore 6, 2) := by decide +kernel
theorem dX10_twelve_143 : decode cX10_twelve 143 = .ok (.iinc 8 1, 3) := by decide +kernel
theorem dX10_twelve_146 : decode cX10_twelve 146 = .ok (.goto (-35), 3) := by decide +kernel
theorem dX10_twelve_149 : decode cX10_twelve 149 = .ok (.aload_n 0, 1) := by decide +kernel
theorem dX10_twelve_150 : decode cX10_twelve 150 = .ok (.getfield 41, 3) := by decide +kernel
theorem dX10_twelve_153 : decode cX10_twelve 153 = .ok (.lload 6, 2) := by decide +kernel
theorem dX10_twelve_155 : decode cX10_twelve 155 = .ok (.iload 5, 2) := by decide +kernel
theorem dX10_twelve_157 : decode cX10_twelve 157 = .ok (.invokestatic 222, 3) := by decide +kernel
theorem dX10_twelve_160 : decode cX10_twelve 160 = .ok (.iload 4, 2) := by decide +kernel
theorem dX10_twelve_162 : decode cX10_twelve 162 = .ok (.invokestatic 211, 3) := by decide +kernel
theorem dX10_twelve_165 : decode cX10_twelve 165 = .ok (.invokevirtual 215, 3) := by decide +kernel
theorem dX10_twelve_168 : decode cX10_twelve 168 = .ok (.ireturn, 1) := by decide +kernel
theorem dX10_part_0 : decode cX10_part 0 = .ok (.iload_n 1, 1) := by decide +kernel
theorem dX10_part_1 : decode cX10_part 1 = .ok (.ifCond .ne 11, 3) := by decide +kernel
theorem dX10_part_4 : decode cX10_part 4 = .ok (.aload_n 0, 1) := by decide +kernel
theorem dX10_part_5 : decode cX10_part 5 = .ok (.getfield 41, 3) := by decide +kernel
theorem dX10_part_8 : decode cX10_part 8 = .ok (.getfield 227, 3) := by decide +kernel
theorem dX10_part_11 : decode cX10_part 11 = .ok (.lreturn, 1) := by decide +kernel
theorem dX10_part_12 : decode cX10_part 12 = .ok (.iload_n 1, 1) := by decide +kernel
theorem dX10_part_13 : decode cX10_part 13 = .ok (.iconst 1, 1) := by decide +kernel
theorem dX10_part_14 : decode cX10_part 14 = .ok (.if_icmp .ne 13, 3) := by decide +kernel
theorem dX10_part_17 : decode cX10_part 17 = .ok (.aload_n 0, 1) := by decide +kernel
theorem dX10_part_18 : decode cX10_part 18 = .ok (.getfield 41, 3) := by decide +kernel
theorem dX10_part_21 : decode cX10_part 21 = .ok (.getfield 231, 3) := by decide +kernel
theorem dX10_part_24 : decode cX10_part 24 = .ok (.goto 6, 3) := by decide +kernel
theorem dX10_part_27 : decode cX10_part 27 = .ok (.ldc2_w 234, 3) := by decide +kernel
theorem dX10_part_30 : decode cX10_part 30 = .ok (.lreturn, 1) := by decide +kernel
theorem dX10_beside_0 : decode cX10_beside 0 = .ok (.aload_n 0, 1) := by decide +kernel
theorem dX10_beside_1 : decode cX10_beside 1 = .ok (.getfield 20, 3) := by decide +kernel
theorem dX10_beside_4 : decode cX10_beside 4 = .ok (.getfield 162, 3) := by decide +kernel
theorem dX10_beside_7 : decode cX10_beside 7 = .ok (.iload_n 1, 1) := by decide +kernel
theorem dX10_beside_8 : decode cX10_beside 8 = .ok (.invokevirtual 75, 3) := by decide +kernel
theorem dX10_beside_11 : decode cX10_beside 11 = .ok (.ifCond .eq 17, 3) := by decide +kernel
theorem dX10_beside_14 : decode cX10_beside 14 = .ok (.iload_n 2, 1) := by decide +kernel
theorem dX10_beside_15 : decode cX10_beside 15 = .ok (.invokestatic 95, 3) := by decide +kernel
theorem dX10_beside_18 : decode cX10_beside 18 = .ok (.ifCond .eq 10, 3) := by decide +kernel
theorem dX10_beside_21 : decode cX10_beside 21 = .ok (.iload_n 3, 1) := by decide +kernel
theorem dX10_beside_22 : decode cX10_beside 22 = .ok (.invokestatic 131, 3) := by decide +kernel
theorem dX10_beside_25 : decode cX10_beside 25 = .ok (.ifCond .ne 6, 3) := by decide +kernel
theorem dX10_beside_28 : decode cX10_beside 28 = .ok (.bipush (-2), 2) := by decide +kernel
theorem dX10_beside_30 : decode cX10_beside 30 = .ok (.ireturn, 1) := by decide +kernel
theorem dX10_beside_31 : decode cX10_beside 31 = .ok (.aload_n 0, 1) := by decide +kernel
theorem dX10_beside_32 : decode cX10_beside 32 = .ok (.getfield 20, 3) := by decide +kernel
theorem dX10_beside_35 : decode cX10_beside 35 = .ok (.getfield 98, 3) := by decide +kernel
theorem dX10_beside_38 : decode cX10_beside 38 = .ok (.iload_n 2, 1) := by decide +kernel
theorem dX10_beside_39 : decode cX10_beside 39 = .ok (.invokevirtual 102, 3) := by decide +kernel
theorem dX10_beside_42 : decode cX10_beside 42 = .ok (.astore 4, 2) := by decide +kernel
theorem dX10_beside_44 : decode cX10_beside 44 = .ok (.aload_n 0, 1) := by decide +kernel
theorem dX10_beside_45 : decode cX10_beside 45 = .ok (.getfield 34, 3) := by decide +kernel
theorem dX10_beside_48 : decode cX10_beside 48 = .ok (.aload 4, 2) := by decide +kernel
theorem dX10_beside_50 : decode cX10_beside 50 = .ok (.invokevirtual 116, 3) := by decide +kernel
theorem dX10_beside_53 : decode cX10_beside 53 = .ok (.iconst (-1), 1) := by decide +kernel
theorem dX10_beside_54 : decode cX10_beside 54 = .ok (.if_icmp .eq 6, 3) := by decide +kernel
theorem dX10_beside_57 : decode cX10_beside 57 = .ok (.bipush (-3), 2) := by decide +kernel
theorem dX10_beside_59 : decode cX10_beside 59 = .ok (.ireturn, 1) := by decide +kernel
theorem dX10_beside_60 : decode cX10_beside 60 = .ok (.aload_n 0, 1) := by decide +kernel
theorem dX10_beside_61 : decode cX10_beside 61 = .ok (.getfield 12, 3) := by decide +kernel
theorem dX10_beside_64 : decode cX10_beside 64 = .ok (.invokevirtual 124, 3) := by decide +kernel
theorem dX10_beside_67 : decode cX10_beside 67 = .ok (.aload_n 0, 1) := by decide +kernel
theorem dX10_beside_68 : decode cX10_beside 68 = .ok (.getfield 20, 3) := by decide +kernel
theorem dX10_beside_71 : decode cX10_beside 71 = .ok (.getfield 162, 3) := by decide +kernel
theorem dX10_beside_74 : decode cX10_beside 74 = .ok (.iload_n 1, 1) := by decide +kernel
theorem dX10_beside_75 : decode cX10_beside 75 = .ok (.iconst 0, 1) := by decide +kernel
theorem dX10_beside_76 : decode cX10_beside 76 = .ok (.invokevirtual 144, 3) := by decide +kernel
theorem dX10_beside_79 : decode cX10_beside 79 = .ok (.istore 5, 2) := by decide +kernel
theorem dX10_beside_81 : decode cX10_beside 81 = .ok (.aload_n 0, 1) := by decide +kernel
theorem dX10_beside_82 : decode cX10_beside 82 = .ok (.getfield 12, 3) := by decide +kernel
theorem dX10_beside_85 : decode cX10_beside 85 = .ok (.iload_n 1, 1) := by decide +kernel
theorem dX10_beside_86 : decode cX10_beside 86 = .ok (.aload_n 0, 1) := by decide +kernel
theorem dX10_beside_87 : decode cX10_beside 87 = .ok (.getfield 12, 3) := by decide +kernel
theorem dX10_beside_90 : decode cX10_beside 90 = .ok (.getfield 236, 3) := by decide +kernel
theorem dX10_beside_93 : decode cX10_beside 93 = .ok (.iload_n 3, 1) := by decide +kernel
theorem dX10_beside_94 : decode cX10_beside 94 = .ok (.ifCond .ne 8, 3) := by decide +kernel
theorem dX10_beside_97 : decode cX10_beside 97 = .ok (.aload 4, 2) := by decide +kernel
theorem dX10_beside_99 : decode cX10_beside 99 = .ok (.goto 13, 3) := by decide +kernel
theorem dX10_beside_102 : decode cX10_beside 102 = .ok (.aload_n 0, 1) := by decide +kernel
theorem dX10_beside_103 : decode cX10_beside 103 = .ok (.getfield 20, 3) := by decide +kernel
theorem dX10_beside_106 : decode cX10_beside 106 = .ok (.iconst 0, 1) := by decide +kernel
theorem dX10_beside_107 : decode cX10_beside 107 = .ok (.iload 5, 2) := by decide +kernel
theorem dX10_beside_109 : decode cX10_beside 109 = .ok (.invokevirtual 151, 3) := by decide +kernel
theorem dX10_beside_112 : decode cX10_beside 112 = .ok (.iload_n 3, 1) := by decide +kernel
theorem dX10_beside_113 : decode cX10_beside 113 = .ok (.iconst 1, 1) := by decide +kernel
theorem dX10_beside_114 : decode cX10_beside 114 = .ok (.if_icmp .ne 8, 3) := by decide +kernel
theorem dX10_beside_117 : decode cX10_beside 117 = .ok (.aload 4, 2) := by decide +kernel
theorem dX10_beside_119 : decode cX10_beside 119 = .ok (.goto 13, 3) := by decide +kernel
theorem dX10_beside_122 : decode cX10_beside 122 = .ok (.aload_n 0, 1) := by decide +kernel
theorem dX10_beside_123 : decode cX10_beside 123 = .ok (.getfield 20, 3) := by decide +kernel
theorem dX10_beside_126 : decode cX10_beside 126 = .ok (.iconst 1, 1) := by decide +kernel
theorem dX10_beside_127 : decode cX10_beside 127 = .ok (.iload 5, 2) := by decide +kernel
theorem dX10_beside_129 : decode cX10_beside 129 = .ok (.invokevirtual 151, 3) := by decide +kernel
theorem dX10_beside_132 : decode cX10_beside 132 = .ok (.invokevirtual 240, 3) := by decide +kernel
theorem dX10_beside_135 : decode cX10_beside 135 = .ok (.aload_n 0, 1) := by decide +kernel
theorem dX10_beside_136 : decode cX10_beside 136 = .ok (.getfield 12, 3) := by decide +kernel
theorem dX10_beside_139 : decode cX10_beside 139 = .ok (.iload_n 1, 1) := by decide +kernel
theorem dX10_beside_140 : decode cX10_beside 140 = .ok (.invokevirtual 172, 3) := by decide +kernel
theorem dX10_beside_143 : decode cX10_beside 143 = .ok (.getfield 188, 3) := by decide +kernel
theorem dX10_beside_146 : decode cX10_beside 146 = .ok (.aload_n 0, 1) := by decide +kernel
theorem dX10_beside_147 : decode cX10_beside 147 = .ok (.getfield 12, 3) := by decide +kernel
theorem dX10_beside_150 : decode cX10_beside 150 = .ok (.getfield 236, 3) := by decide +kernel
theorem dX10_beside_153 : decode cX10_beside 153 = .ok (.getfield 188, 3) := by decide +kernel
theorem dX10_beside_156 : decode cX10_beside 156 = .ok (.ixor, 1) := by decide +kernel
theorem dX10_beside_157 : decode cX10_beside 157 = .ok (.ireturn, 1) := by decide +kernel
theorem dX10_clash_0 : decode cX10_clash 0 = .ok (.iload_n 1, 1) := by decide +kernel
theorem dX10_clash_1 : decode cX10_clash 1 = .ok (.aload_n 0, 1) := by decide +kernel
theorem dX10_clash_2 : decode cX10_clash 2 = .ok (.getfield 20, 3) := by decide +kernel
theorem dX10_clash_5 : decode cX10_clash 5 = .ok (.getfield 162, 3) := by decide +kernel
theorem dX10_clash_8 : decode cX10_clash 8 = .ok (.invokevirtual 195, 3) := by decide +kernel
theorem dX10_clash_11 : decode cX10_clash 11 = .ok (.invokestatic 244, 3) := by decide +kernel
theorem dX10_clash_14 : decode cX10_clash 14 = .ok (.iconst (-1), 1) := by decide +kernel
theorem dX10_clash_15 : decode cX10_clash 15 = .ok (.ixor, 1) := by decide +kernel
theorem dX10_clash_16 : decode cX10_clash 16 = .ok (.iand, 1) := by decide +kernel
theorem dX10_clash_17 : decode cX10_clash 17 = .ok (.ifCond .ne 16, 3) := by decide +kernel
theorem dX10_clash_20 : decode cX10_clash 20 = .ok (.iload_n 1, 1) := by decide +kernel
theorem dX10_clash_21 : decode cX10_clash 21 = .ok (.invokestatic 222, 3) := by decide +kernel
theorem dX10_clash_24 : decode cX10_clash 24 = .ok (.bipush 6, 2) := by decide +kernel
theorem dX10_clash_26 : decode cX10_clash 26 = .ok (.if_icmp .gt 7, 3) := by decide +kernel
theorem dX10_clash_29 : decode cX10_clash 29 = .ok (.iconst 1, 1) := by decide +kernel
theorem dX10_clash_30 : decode cX10_clash 30 = .ok (.goto 4, 3) := by decide +kernel
theorem dX10_clash_33 : decode cX10_clash 33 = .ok (.iconst 0, 1) := by decide +kernel
theorem dX10_clash_34 : decode cX10_clash 34 = .ok (.istore_n 3, 1) := by decide +kernel
theorem dX10_clash_35 : decode cX10_clash 35 = .ok (.iload_n 2, 1) := by decide +kernel
theorem dX10_clash_36 : decode cX10_clash 36 = .ok (.iconst (-1), 1) := by decide +kernel
theorem dX10_clash_37 : decode cX10_clash 37 = .ok (.if_icmp .eq 25, 3) := by decide +kernel
theorem dX10_clash_40 : decode cX10_clash 40 = .ok (.aload_n 0, 1) := by decide +kernel
theorem dX10_clash_41 : decode cX10_clash 41 = .ok (.getfield 20, 3) := by decide +kernel
theorem dX10_clash_44 : decode cX10_clash 44 = .ok (.getfield 162, 3) := by decide +kernel
theorem dX10_clash_47 : decode cX10_clash 47 = .ok (.iload_n 2, 1) := by decide +kernel
theorem dX10_clash_48 : decode cX10_clash 48 = .ok (.invokevirtual 75, 3) := by decide +kernel
theorem dX10_clash_51 : decode cX10_clash 51 = .ok (.ifCond .eq 15, 3) := by decide +kernel
theorem dX10_clash_54 : decode cX10_clash 54 = .ok (.iload_n 1, 1) := by decide +kernel
theorem dX10_clash_55 : decode cX10_clash 55 = .ok (.iload_n 2, 1) := by decide +kernel
theorem dX10_clash_56 : decode cX10_clash 56 = .ok (.invokestatic 165, 3) := by decide +kernel
theorem dX10_clash_59 : decode cX10_clash 59 = .ok (.ifCond .eq 7, 3) := by decide +kernel
theorem dX10_clash_62 : decode cX10_clash 62 = .ok (.iconst 1, 1) := by decide +kernel
theorem dX10_clash_63 : decode cX10_clash 63 = .ok (.goto 4, 3) := by decide +kernel
theorem dX10_clash_66 : decode cX10_clash 66 = .ok (.iconst 0, 1) := by decide +kernel
theorem dX10_clash_67 : decode cX10_clash 67 = .ok (.istore 4, 2) := by decide +kernel
theorem dX10_clash_69 : decode cX10_clash 69 = .ok (.iload_n 3, 1) := by decide +kernel
theorem dX10_clash_70 : decode cX10_clash 70 = .ok (.ifCond .eq 8, 3) := by decide +kernel
theorem dX10_clash_73 : decode cX10_clash 73 = .ok (.iload 4, 2) := by decide +kernel
theorem dX10_clash_75 : decode cX10_clash 75 = .ok (.ifCond .ne 6, 3) := by decide +kernel
theorem dX10_clash_78 : decode cX10_clash 78 = .ok (.bipush (-10), 2) := by decide +kernel
theorem dX10_clash_80 : decode cX10_clash 80 = .ok (.ireturn, 1) := by decide +kernel
theorem dX10_clash_81 : decode cX10_clash 81 = .ok (.aload_n 0, 1) := by decide +kernel
theorem dX10_clash_82 : decode cX10_clash 82 = .ok (.getfield 48, 3) := by decide +kernel
theorem dX10_clash_85 : decode cX10_clash 85 = .ok (.aload_n 0, 1) := by decide +kernel
theorem dX10_clash_86 : decode cX10_clash 86 = .ok (.getfield 20, 3) := by decide +kernel
theorem dX10_clash_89 : decode cX10_clash 89 = .ok (.iload_n 1, 1) := by decide +kernel
theorem dX10_clash_90 : decode cX10_clash 90 = .ok (.invokevirtual 247, 3) := by decide +kernel
theorem dX10_clash_93 : decode cX10_clash 93 = .ok (.aload_n 0, 1) := by decide +kernel
theorem dX10_clash_94 : decode cX10_clash 94 = .ok (.getfield 48, 3) := by decide +kernel
theorem dX10_clash_97 : decode cX10_clash 97 = .ok (.getfield 251, 3) := by decide +kernel
theorem dX10_clash_100 : decode cX10_clash 100 = .ok (.iconst (-1), 1) := by decide +kernel
theorem dX10_clash_101 : decode cX10_clash 101 = .ok (.if_icmp .ne 6, 3) := by decide +kernel
theorem dX10_clash_104 : decode cX10_clash 104 = .ok (.bipush (-5), 2) := by decide +kernel
theorem dX10_clash_106 : decode cX10_clash 106 = .ok (.ireturn, 1) := by decide +kernel
theorem dX10_clash_107 : decode cX10_clash 107 = .ok (.iload_n 2, 1) := by decide +kernel
theorem dX10_clash_108 : decode cX10_clash 108 = .ok (.iconst (-1), 1) := by decide +kernel
theorem dX10_clash_109 : decode cX10_clash 109 = .ok (.if_icmp .ne 13, 3) := by decide +kernel
theorem dX10_clash_112 : decode cX10_clash 112 = .ok (.aload_n 0, 1) := by decide +kernel
theorem dX10_clash_113 : decode cX10_clash 113 = .ok (.getfield 48, 3) := by decide +kernel
theorem dX10_clash_116 : decode cX10_clash 116 = .ok (.getfield 251, 3) := by decide +kernel
theorem dX10_clash_119 : decode cX10_clash 119 = .ok (.goto 19, 3) := by decide +kernel
theorem dX10_clash_122 : decode cX10_clash 122 = .ok (.aload_n 0, 1) := by decide +kernel
theorem dX10_clash_123 : decode cX10_clash 123 = .ok (.getfield 48, 3) := by decide +kernel
theorem dX10_clash_126 : decode cX10_clash 126 = .ok (.iload_n 1, 1) := by decide +kernel
theorem dX10_clash_127 : decode cX10_clash 127 = .ok (.iload_n 2, 1) := by decide +kernel
theorem dX10_clash_128 : decode cX10_clash 128 = .ok (.invokestatic 244, 3) := by decide +kernel
theorem dX10_clash_131 : decode cX10_clash 131 = .ok (.iand, 1) := by decide +kernel
theorem dX10_clash_132 : decode cX10_clash 132 = .ok (.invokestatic 222, 3) := by decide +kernel
theorem dX10_clash_135 : decode cX10_clash 135 = .ok (.invokevirtual 254, 3) := by decide +kernel
theorem dX10_clash_138 : decode cX10_clash 138 = .ok (.ireturn, 1) := by decide +kernel
theorem dX10_turn_0 : decode cX10_turn 0 = .ok (.iload_n 1, 1) := by decide +kernel
theorem dX10_turn_1 : decode cX10_turn 1 = .ok (.iconst 0, 1) := by decide +kernel
theorem dX10_turn_2 : decode cX10_turn 2 = .ok (.iconst 3, 1) := by decide +kernel
theorem dX10_turn_3 : decode cX10_turn 3 = .ok (.invokestatic 53, 3) := by decide +kernel
theorem dX10_turn_6 : decode cX10_turn 6 = .ok (.ifCond .eq 10, 3) := by decide +kernel
theorem dX10_turn_9 : decode cX10_turn 9 = .ok (.iload_n 2, 1) := by decide +kernel
theorem dX10_turn_10 : decode cX10_turn 10 = .ok (.invokestatic 79, 3) := by decide +kernel
theorem dX10_turn_13 : decode cX10_turn 13 = .ok (.ifCond .ne 6, 3) := by decide +kernel
theorem dX10_turn_16 : decode cX10_turn 16 = .ok (.bipush (-2), 2) := by decide +kernel
theorem dX10_turn_18 : decode cX10_turn 18 = .ok (.ireturn, 1) := by decide +kernel
theorem dX10_turn_19 : decode cX10_turn 19 = .ok (.aload_n 0, 1) := by decide +kernel
theorem dX10_turn_20 : decode cX10_turn 20 = .ok (.getfield 12, 3) := by decide +kernel
theorem dX10_turn_23 : decode cX10_turn 23 = .ok (.invokevirtual 124, 3) := by decide +kernel
theorem dX10_turn_26 : decode cX10_turn 26 = .ok (.aload_n 0, 1) := by decide +kernel
theorem dX10_turn_27 : decode cX10_turn 27 = .ok (.getfield 20, 3) := by decide +kernel
theorem dX10_turn_30 : decode cX10_turn 30 = .ok (.iload_n 2, 1) := by decide +kernel
theorem dX10_turn_31 : decode cX10_turn 31 = .ok (.invokevirtual 91, 3) := by decide +kernel
theorem dX10_turn_34 : decode cX10_turn 34 = .ok (.aload_n 0, 1) := by decide +kernel
theorem dX10_turn_35 : decode cX10_turn 35 = .ok (.getfield 20, 3) := by decide +kernel
theorem dX10_turn_38 : decode cX10_turn 38 = .ok (.iconst 0, 1) := by decide +kernel
theorem dX10_turn_39 : decode cX10_turn 39 = .ok (.iload_n 1, 1) := by decide +kernel
theorem dX10_turn_40 : decode cX10_turn 40 = .ok (.invokevirtual 219, 3) := by decide +kernel
theorem dX10_turn_43 : decode cX10_turn 43 = .ok (.iand, 1) := by decide +kernel
theorem dX10_turn_44 : decode cX10_turn 44 = .ok (.istore_n 3, 1) := by decide +kernel
theorem dX10_turn_45 : decode cX10_turn 45 = .ok (.aload_n 0, 1) := by decide +kernel
theorem dX10_turn_46 : decode cX10_turn 46 = .ok (.getfield 12, 3) := by decide +kernel
theorem dX10_turn_49 : decode cX10_turn 49 = .ok (.aload_n 0, 1) := by decide +kernel
theorem dX10_turn_50 : decode cX10_turn 50 = .ok (.getfield 12, 3) := by decide +kernel
theorem dX10_turn_53 : decode cX10_turn 53 = .ok (.aload_n 0, 1) := by decide +kernel
theorem dX10_turn_54 : decode cX10_turn 54 = .ok (.getfield 20, 3) := by decide +kernel
theorem dX10_turn_57 : decode cX10_turn 57 = .ok (.iconst 0, 1) := by decide +kernel
theorem dX10_turn_58 : decode cX10_turn 58 = .ok (.iload_n 2, 1) := by decide +kernel
theorem dX10_turn_59 : decode cX10_turn 59 = .ok (.invokevirtual 151, 3) := by decide +kernel
theorem dX10_turn_62 : decode cX10_turn 62 = .ok (.iconst 0, 1) := by decide +kernel
theorem dX10_turn_63 : decode cX10_turn 63 = .ok (.iload_n 2, 1) := by decide +kernel
theorem dX10_turn_64 : decode cX10_turn 64 = .ok (.iload_n 3, 1) := by decide +kernel
theorem dX10_turn_65 : decode cX10_turn 65 = .ok (.invokevirtual 155, 3) := by decide +kernel
theorem dX10_turn_68 : decode cX10_turn 68 = .ok (.iload_n 2, 1) := by decide +kernel
theorem dX10_turn_69 : decode cX10_turn 69 = .ok (.invokevirtual 257, 3) := by decide +kernel
theorem dX10_turn_72 : decode cX10_turn 72 = .ok (.ireturn, 1) := by decide +kernel
theorem dX10_image_0 : decode cX10_image 0 = .ok (.iload_n 1, 1) := by decide +kernel
theorem dX10_image_1 : decode cX10_image 1 = .ok (.iconst 0, 1) := by decide +kernel
theorem dX10_image_2 : decode cX10_image 2 = .ok (.iconst 1, 1) := by decide +kernel
theorem dX10_image_3 : decode cX10_image 3 = .ok (.invokestatic 53, 3) := by decide +kernel
theorem dX10_image_6 : decode cX10_image 6 = .ok (.ifCond .ne 6, 3) := by decide +kernel
theorem dX10_image_9 : decode cX10_image 9 = .ok (.bipush (-2), 2) := by decide +kernel
theorem dX10_image_11 : decode cX10_image 11 = .ok (.ireturn, 1) := by decide +kernel
theorem dX10_image_12 : decode cX10_image 12 = .ok (.aload_n 0, 1) := by decide +kernel
theorem dX10_image_13 : decode cX10_image 13 = .ok (.getfield 23, 3) := by decide +kernel
theorem dX10_image_16 : decode cX10_image 16 = .ok (.iload_n 1, 1) := by decide +kernel
theorem dX10_image_17 : decode cX10_image 17 = .ok (.aaload, 1) := by decide +kernel
theorem dX10_image_18 : decode cX10_image 18 = .ok (.aload_n 0, 1) := by decide +kernel
theorem dX10_image_19 : decode cX10_image 19 = .ok (.getfield 20, 3) := by decide +kernel
theorem dX10_image_22 : decode cX10_image 22 = .ok (.invokevirtual 260, 3) := by decide +kernel
theorem dX10_image_25 : decode cX10_image 25 = .ok (.aload_n 0, 1) := by decide +kernel
theorem dX10_image_26 : decode cX10_image 26 = .ok (.getfield 27, 3) := by decide +kernel
theorem dX10_image_29 : decode cX10_image 29 = .ok (.iload_n 1, 1) := by decide +kernel
theorem dX10_image_30 : decode cX10_image 30 = .ok (.iconst 1, 1) := by decide +kernel
theorem dX10_image_31 : decode cX10_image 31 = .ok (.bastore, 1) := by decide +kernel
theorem dX10_image_32 : decode cX10_image 32 = .ok (.iconst 1, 1) := by decide +kernel
theorem dX10_image_33 : decode cX10_image 33 = .ok (.ireturn, 1) := by decide +kernel
theorem dX10_from_0 : decode cX10_from 0 = .ok (.iload_n 1, 1) := by decide +kernel
theorem dX10_from_1 : decode cX10_from 1 = .ok (.iconst 0, 1) := by decide +kernel
theorem dX10_from_2 : decode cX10_from 2 = .ok (.iconst 1, 1) := by decide +kernel
theorem dX10_from_3 : decode cX10_from 3 = .ok (.invokestatic 53, 3) := by decide +kernel
theorem dX10_from_6 : decode cX10_from 6 = .ok (.ifCond .ne 6, 3) := by decide +kernel
theorem dX10_from_9 : decode cX10_from 9 = .ok (.bipush (-2), 2) := by decide +kernel
theorem dX10_from_11 : decode cX10_from 11 = .ok (.ireturn, 1) := by decide +kernel
theorem dX10_from_12 : decode cX10_from 12 = .ok (.aload_n 0, 1) := by decide +kernel
theorem dX10_from_13 : decode cX10_from 13 = .ok (.getfield 27, 3) := by decide +kernel
theorem dX10_from_16 : decode cX10_from 16 = .ok (.iload_n 1, 1) := by decide +kernel
theorem dX10_from_17 : decode cX10_from 17 = .ok (.baload, 1) := by decide +kernel
theorem dX10_from_18 : decode cX10_from 18 = .ok (.ifCond .ne 6, 3) := by decide +kernel
theorem dX10_from_21 : decode cX10_from 21 = .ok (.bipush (-3), 2) := by decide +kernel
theorem dX10_from_23 : decode cX10_from 23 = .ok (.ireturn, 1) := by decide +kernel
theorem dX10_from_24 : decode cX10_from 24 = .ok (.aload_n 0, 1) := by decide +kernel
theorem dX10_from_25 : decode cX10_from 25 = .ok (.getfield 20, 3) := by decide +kernel
theorem dX10_from_28 : decode cX10_from 28 = .ok (.aload_n 0, 1) := by decide +kernel
theorem dX10_from_29 : decode cX10_from 29 = .ok (.getfield 23, 3) := by decide +kernel
theorem dX10_from_32 : decode cX10_from 32 = .ok (.iload_n 1, 1) := by decide +kernel
theorem dX10_from_33 : decode cX10_from 33 = .ok (.aaload, 1) := by decide +kernel
theorem dX10_from_34 : decode cX10_from 34 = .ok (.invokevirtual 260, 3) := by decide +kernel
theorem dX10_from_37 : decode cX10_from 37 = .ok (.aload_n 0, 1) := by decide +kernel
theorem dX10_from_38 : decode cX10_from 38 = .ok (.getfield 12, 3) := by decide +kernel
theorem dX10_from_41 : decode cX10_from 41 = .ok (.iconst 0, 1) := by decide +kernel
theorem dX10_from_42 : decode cX10_from 42 = .ok (.invokevirtual 71, 3) := by decide +kernel
theorem dX10_from_45 : decode cX10_from 45 = .ok (.iconst 1, 1) := by decide +kernel
theorem dX10_from_46 : decode cX10_from 46 = .ok (.ireturn, 1) := by decide +kernel
theorem dX10_count_0 : decode cX10_count 0 = .ok (.iload_n 1, 1) := by decide +kernel
theorem dX10_count_1 : decode cX10_count 1 = .ok (.iconst 0, 1) := by decide +kernel
theorem dX10_count_2 : decode cX10_count 2 = .ok (.iconst 5, 1) := by decide +kernel
theorem dX10_count_3 : decode cX10_count 3 = .ok (.invokestatic 53, 3) := by decide +kernel
theorem dX10_count_6 : decode cX10_count 6 = .ok (.ifCond .ne 6, 3) := by decide +kernel
theorem dX10_count_9 : decode cX10_count 9 = .ok (.bipush (-2), 2) := by decide +kernel
theorem dX10_count_11 : decode cX10_count 11 = .ok (.ireturn, 1) := by decide +kernel
theorem dX10_count_12 : decode cX10_count 12 = .ok (.aload_n 0, 1) := by decide +kernel
theorem dX10_count_13 : decode cX10_count 13 = .ok (.getfield 12, 3) := by decide +kernel
theorem dX10_count_16 : decode cX10_count 16 = .ok (.invokevirtual 124, 3) := by decide +kernel
theorem dX10_count_19 : decode cX10_count 19 = .ok (.aload_n 0, 1) := by decide +kernel
theorem dX10_count_20 : decode cX10_count 20 = .ok (.iload_n 1, 1) := by decide +kernel
theorem dX10_count_21 : decode cX10_count 21 = .ok (.invokevirtual 263, 3) := by decide +kernel
theorem dX10_count_24 : decode cX10_count 24 = .ok (.ireturn, 1) := by decide +kernel
theorem dX10_digest_0 : decode cX10_digest 0 = .ok (.aload_n 0, 1) := by decide +kernel
theorem dX10_digest_1 : decode cX10_digest 1 = .ok (.getfield 12, 3) := by decide +kernel
theorem dX10_digest_4 : decode cX10_digest 4 = .ok (.invokevirtual 124, 3) := by decide +kernel
theorem dX10_digest_7 : decode cX10_digest 7 = .ok (.ldc2_w 266, 3) := by decide +kernel
theorem dX10_digest_10 : decode cX10_digest 10 = .ok (.lstore_n 1, 1) := by decide +kernel
theorem dX10_digest_11 : decode cX10_digest 11 = .ok (.iconst 0, 1) := by decide +kernel
theorem dX10_digest_12 : decode cX10_digest 12 = .ok (.istore_n 3, 1) := by decide +kernel
theorem dX10_digest_13 : decode cX10_digest 13 = .ok (.iload_n 3, 1) := by decide +kernel
theorem dX10_digest_14 : decode cX10_digest 14 = .ok (.iconst 5, 1) := by decide +kernel
theorem dX10_digest_15 : decode cX10_digest 15 = .ok (.if_icmp .gt 22, 3) := by decide +kernel
theorem dX10_digest_18 : decode cX10_digest 18 = .ok (.ldc2_w 268, 3) := by decide +kernel
theorem dX10_digest_21 : decode cX10_digest 21 = .ok (.lload_n 1, 1) := by decide +kernel
theorem dX10_digest_22 : decode cX10_digest 22 = .ok (.lmul, 1) := by decide +kernel
theorem dX10_digest_23 : decode cX10_digest 23 = .ok (.aload_n 0, 1) := by decide +kernel
theorem dX10_digest_24 : decode cX10_digest 24 = .ok (.iload_n 3, 1) := by decide +kernel
theorem dX10_digest_25 : decode cX10_digest 25 = .ok (.invokevirtual 263, 3) := by decide +kernel
theorem dX10_digest_28 : decode cX10_digest 28 = .ok (.i2l, 1) := by decide +kernel
theorem dX10_digest_29 : decode cX10_digest 29 = .ok (.ladd, 1) := by decide +kernel
theorem dX10_digest_30 : decode cX10_digest 30 = .ok (.lstore_n 1, 1) := by decide +kernel
theorem dX10_digest_31 : decode cX10_digest 31 = .ok (.iinc 3 1, 3) := by decide +kernel
theorem dX10_digest_34 : decode cX10_digest 34 = .ok (.goto (-21), 3) := by decide +kernel
theorem dX10_digest_37 : decode cX10_digest 37 = .ok (.aload_n 0, 1) := by decide +kernel
theorem dX10_digest_38 : decode cX10_digest 38 = .ok (.getfield 20, 3) := by decide +kernel
theorem dX10_digest_41 : decode cX10_digest 41 = .ok (.getfield 57, 3) := by decide +kernel
theorem dX10_digest_44 : decode cX10_digest 44 = .ok (.lload_n 1, 1) := by decide +kernel
theorem dX10_digest_45 : decode cX10_digest 45 = .ok (.invokevirtual 270, 3) := by decide +kernel
theorem dX10_digest_48 : decode cX10_digest 48 = .ok (.lstore_n 1, 1) := by decide +kernel
theorem dX10_digest_49 : decode cX10_digest 49 = .ok (.aload_n 0, 1) := by decide +kernel
theorem dX10_digest_50 : decode cX10_digest 50 = .ok (.getfield 20, 3) := by decide +kernel
theorem dX10_digest_53 : decode cX10_digest 53 = .ok (.getfield 82, 3) := by decide +kernel
theorem dX10_digest_56 : decode cX10_digest 56 = .ok (.lload_n 1, 1) := by decide +kernel
theorem dX10_digest_57 : decode cX10_digest 57 = .ok (.invokevirtual 270, 3) := by decide +kernel
theorem dX10_digest_60 : decode cX10_digest 60 = .ok (.lstore_n 1, 1) := by decide +kernel
theorem dX10_digest_61 : decode cX10_digest 61 = .ok (.aload_n 0, 1) := by decide +kernel
theorem dX10_digest_62 : decode cX10_digest 62 = .ok (.getfield 20, 3) := by decide +kernel
theorem dX10_digest_65 : decode cX10_digest 65 = .ok (.getfield 88, 3) := by decide +kernel
theorem dX10_digest_68 : decode cX10_digest 68 = .ok (.lload_n 1, 1) := by decide +kernel
theorem dX10_digest_69 : decode cX10_digest 69 = .ok (.invokevirtual 270, 3) := by decide +kernel
theorem dX10_digest_72 : decode cX10_digest 72 = .ok (.lstore_n 1, 1) := by decide +kernel
theorem dX10_digest_73 : decode cX10_digest 73 = .ok (.iconst 0, 1) := by decide +kernel
theorem dX10_digest_74 : decode cX10_digest 74 = .ok (.istore_n 3, 1) := by decide +kernel
theorem dX10_digest_75 : decode cX10_digest 75 = .ok (.iload_n 3, 1) := by decide +kernel
theorem dX10_digest_76 : decode cX10_digest 76 = .ok (.aload_n 0, 1) := by decide +kernel
theorem dX10_digest_77 : decode cX10_digest 77 = .ok (.getfield 20, 3) := by decide +kernel
theorem dX10_digest_80 : decode cX10_digest 80 = .ok (.getfield 134, 3) := by decide +kernel
theorem dX10_digest_83 : decode cX10_digest 83 = .ok (.invokevirtual 195, 3) := by decide +kernel
theorem dX10_digest_86 : decode cX10_digest 86 = .ok (.if_icmp .ge 36, 3) := by decide +kernel
theorem dX10_digest_89 : decode cX10_digest 89 = .ok (.aload_n 0, 1) := by decide +kernel
theorem dX10_digest_90 : decode cX10_digest 90 = .ok (.getfield 20, 3) := by decide +kernel
theorem dX10_digest_93 : decode cX10_digest 93 = .ok (.getfield 137, 3) := by decide +kernel
theorem dX10_digest_96 : decode cX10_digest 96 = .ok (.iload_n 3, 1) := by decide +kernel
theorem dX10_digest_97 : decode cX10_digest 97 = .ok (.invokevirtual 102, 3) := by decide +kernel
theorem dX10_digest_100 : decode cX10_digest 100 = .ok (.aload_n 0, 1) := by decide +kernel
theorem dX10_digest_101 : decode cX10_digest 101 = .ok (.getfield 20, 3) := by decide +kernel
theorem dX10_digest_104 : decode cX10_digest 104 = .ok (.getfield 134, 3) := by decide +kernel
theorem dX10_digest_107 : decode cX10_digest 107 = .ok (.lload_n 1, 1) := by decide +kernel
theorem dX10_digest_108 : decode cX10_digest 108 = .ok (.iload_n 3, 1) := by decide +kernel
theorem dX10_digest_109 : decode cX10_digest 109 = .ok (.invokevirtual 274, 3) := by decide +kernel
theorem dX10_digest_112 : decode cX10_digest 112 = .ok (.invokevirtual 278, 3) := by decide +kernel
theorem dX10_digest_115 : decode cX10_digest 115 = .ok (.lstore_n 1, 1) := by decide +kernel
theorem dX10_digest_116 : decode cX10_digest 116 = .ok (.iinc 3 1, 3) := by decide +kernel
theorem dX10_digest_119 : decode cX10_digest 119 = .ok (.goto (-44), 3) := by decide +kernel
theorem dX10_digest_122 : decode cX10_digest 122 = .ok (.iconst 0, 1) := by decide +kernel
theorem dX10_digest_123 : decode cX10_digest 123 = .ok (.istore_n 3, 1) := by decide +kernel
theorem dX10_digest_124 : decode cX10_digest 124 = .ok (.iload_n 3, 1) := by decide +kernel
theorem dX10_digest_125 : decode cX10_digest 125 = .ok (.aload_n 0, 1) := by decide +kernel
theorem dX10_digest_126 : decode cX10_digest 126 = .ok (.getfield 20, 3) := by decide +kernel
theorem dX10_digest_129 : decode cX10_digest 129 = .ok (.getfield 162, 3) := by decide +kernel
theorem dX10_digest_132 : decode cX10_digest 132 = .ok (.invokevirtual 195, 3) := by decide +kernel
theorem dX10_digest_135 : decode cX10_digest 135 = .ok (.if_icmp .ge 22, 3) := by decide +kernel
theorem dX10_digest_138 : decode cX10_digest 138 = .ok (.aload_n 0, 1) := by decide +kernel
theorem dX10_digest_139 : decode cX10_digest 139 = .ok (.getfield 12, 3) := by decide +kernel
theorem dX10_digest_142 : decode cX10_digest 142 = .ok (.iload_n 3, 1) := by decide +kernel
theorem dX10_digest_143 : decode cX10_digest 143 = .ok (.invokevirtual 172, 3) := by decide +kernel
theorem dX10_digest_146 : decode cX10_digest 146 = .ok (.lload_n 1, 1) := by decide +kernel
theorem dX10_digest_147 : decode cX10_digest 147 = .ok (.invokevirtual 281, 3) := by decide +kernel
theorem dX10_digest_150 : decode cX10_digest 150 = .ok (.lstore_n 1, 1) := by decide +kernel
theorem dX10_digest_151 : decode cX10_digest 151 = .ok (.iinc 3 1, 3) := by decide +kernel
theorem dX10_digest_154 : decode cX10_digest 154 = .ok (.goto (-30), 3) := by decide +kernel
theorem dX10_digest_157 : decode cX10_digest 157 = .ok (.iconst 0, 1) := by decide +kernel
theorem dX10_digest_158 : decode cX10_digest 158 = .ok (.istore_n 3, 1) := by decide +kernel
theorem dX10_digest_159 : decode cX10_digest 159 = .ok (.iload_n 3, 1) := by decide +kernel
theorem dX10_digest_160 : decode cX10_digest 160 = .ok (.iconst 4, 1) := by decide +kernel
theorem dX10_digest_161 : decode cX10_digest 161 = .ok (.if_icmp .ge 25, 3) := by decide +kernel
theorem dX10_digest_164 : decode cX10_digest 164 = .ok (.aload_n 0, 1) := by decide +kernel
theorem dX10_digest_165 : decode cX10_digest 165 = .ok (.getfield 20, 3) := by decide +kernel
theorem dX10_digest_168 : decode cX10_digest 168 = .ok (.getfield 98, 3) := by decide +kernel
theorem dX10_digest_171 : decode cX10_digest 171 = .ok (.iload_n 3, 1) := by decide +kernel
theorem dX10_digest_172 : decode cX10_digest 172 = .ok (.invokevirtual 102, 3) := by decide +kernel
theorem dX10_digest_175 : decode cX10_digest 175 = .ok (.lload_n 1, 1) := by decide +kernel
theorem dX10_digest_176 : decode cX10_digest 176 = .ok (.invokevirtual 278, 3) := by decide +kernel
theorem dX10_digest_179 : decode cX10_digest 179 = .ok (.lstore_n 1, 1) := by decide +kernel
theorem dX10_digest_180 : decode cX10_digest 180 = .ok (.iinc 3 1, 3) := by decide +kernel
theorem dX10_digest_183 : decode cX10_digest 183 = .ok (.goto (-24), 3) := by decide +kernel
theorem dX10_digest_186 : decode cX10_digest 186 = .ok (.ldc2_w 268, 3) := by decide +kernel
theorem dX10_digest_189 : decode cX10_digest 189 = .ok (.lload_n 1, 1) := by decide +kernel
theorem dX10_digest_190 : decode cX10_digest 190 = .ok (.lmul, 1) := by decide +kernel
theorem dX10_digest_191 : decode cX10_digest 191 = .ok (.aload_n 0, 1) := by decide +kernel
theorem dX10_digest_192 : decode cX10_digest 192 = .ok (.getfield 20, 3) := by decide +kernel
theorem dX10_digest_195 : decode cX10_digest 195 = .ok (.getfield 201, 3) := by decide +kernel
theorem dX10_digest_198 : decode cX10_digest 198 = .ok (.i2l, 1) := by decide +kernel
theorem dX10_digest_199 : decode cX10_digest 199 = .ok (.ladd, 1) := by decide +kernel
theorem dX10_digest_200 : decode cX10_digest 200 = .ok (.lstore_n 1, 1) := by decide +kernel
theorem dX10_digest_201 : decode cX10_digest 201 = .ok (.ldc2_w 268, 3) := by decide +kernel
theorem dX10_digest_204 : decode cX10_digest 204 = .ok (.lload_n 1, 1) := by decide +kernel
theorem dX10_digest_205 : decode cX10_digest 205 = .ok (.lmul, 1) := by decide +kernel
theorem dX10_digest_206 : decode cX10_digest 206 = .ok (.aload_n 0, 1) := by decide +kernel
theorem dX10_digest_207 : decode cX10_digest 207 = .ok (.getfield 20, 3) := by decide +kernel
theorem dX10_digest_210 : decode cX10_digest 210 = .ok (.getfield 204, 3) := by decide +kernel
theorem dX10_digest_213 : decode cX10_digest 213 = .ok (.i2l, 1) := by decide +kernel
theorem dX10_digest_214 : decode cX10_digest 214 = .ok (.ladd, 1) := by decide +kernel
theorem dX10_digest_215 : decode cX10_digest 215 = .ok (.lstore_n 1, 1) := by decide +kernel
theorem dX10_digest_216 : decode cX10_digest 216 = .ok (.ldc2_w 268, 3) := by decide +kernel
theorem dX10_digest_219 : decode cX10_digest 219 = .ok (.lload_n 1, 1) := by decide +kernel
theorem dX10_digest_220 : decode cX10_digest 220 = .ok (.lmul, 1) := by decide +kernel
theorem dX10_digest_221 : decode cX10_digest 221 = .ok (.aload_n 0, 1) := by decide +kernel
theorem dX10_digest_222 : decode cX10_digest 222 = .ok (.getfield 41, 3) := by decide +kernel
theorem dX10_digest_225 : decode cX10_digest 225 = .ok (.getfield 227, 3) := by decide +kernel
theorem dX10_digest_228 : decode cX10_digest 228 = .ok (.ladd, 1) := by decide +kernel
theorem dX10_digest_229 : decode cX10_digest 229 = .ok (.lstore_n 1, 1) := by decide +kernel
theorem dX10_digest_230 : decode cX10_digest 230 = .ok (.ldc2_w 268, 3) := by decide +kernel
theorem dX10_digest_233 : decode cX10_digest 233 = .ok (.lload_n 1, 1) := by decide +kernel
theorem dX10_digest_234 : decode cX10_digest 234 = .ok (.lmul, 1) := by decide +kernel
theorem dX10_digest_235 : decode cX10_digest 235 = .ok (.aload_n 0, 1) := by decide +kernel
theorem dX10_digest_236 : decode cX10_digest 236 = .ok (.getfield 41, 3) := by decide +kernel
theorem dX10_digest_239 : decode cX10_digest 239 = .ok (.getfield 231, 3) := by decide +kernel
theorem dX10_digest_242 : decode cX10_digest 242 = .ok (.ladd, 1) := by decide +kernel
theorem dX10_digest_243 : decode cX10_digest 243 = .ok (.lreturn, 1) := by decide +kernel
theorem dX10_howMany_0 : decode cX10_howMany 0 = .ok (.iload_n 1, 1) := by decide +kernel
theorem dX10_howMany_1 : decode cX10_howMany 1 = .ok (.tableswitch 90 0 4 #[35, 46, 57, 68, 79], 35) := by decide +kernel
theorem dX10_howMany_36 : decode cX10_howMany 36 = .ok (.aload_n 0, 1) := by decide +kernel
theorem dX10_howMany_37 : decode cX10_howMany 37 = .ok (.getfield 20, 3) := by decide +kernel
theorem dX10_howMany_40 : decode cX10_howMany 40 = .ok (.getfield 57, 3) := by decide +kernel
theorem dX10_howMany_43 : decode cX10_howMany 43 = .ok (.invokevirtual 195, 3) := by decide +kernel
theorem dX10_howMany_46 : decode cX10_howMany 46 = .ok (.ireturn, 1) := by decide +kernel
theorem dX10_howMany_47 : decode cX10_howMany 47 = .ok (.aload_n 0, 1) := by decide +kernel
theorem dX10_howMany_48 : decode cX10_howMany 48 = .ok (.getfield 20, 3) := by decide +kernel
theorem dX10_howMany_51 : decode cX10_howMany 51 = .ok (.getfield 82, 3) := by decide +kernel
theorem dX10_howMany_54 : decode cX10_howMany 54 = .ok (.invokevirtual 195, 3) := by decide +kernel
theorem dX10_howMany_57 : decode cX10_howMany 57 = .ok (.ireturn, 1) := by decide +kernel
theorem dX10_howMany_58 : decode cX10_howMany 58 = .ok (.aload_n 0, 1) := by decide +kernel
theorem dX10_howMany_59 : decode cX10_howMany 59 = .ok (.getfield 20, 3) := by decide +kernel
theorem dX10_howMany_62 : decode cX10_howMany 62 = .ok (.getfield 88, 3) := by decide +kernel
theorem dX10_howMany_65 : decode cX10_howMany 65 = .ok (.invokevirtual 195, 3) := by decide +kernel
theorem dX10_howMany_68 : decode cX10_howMany 68 = .ok (.ireturn, 1) := by decide +kernel
theorem dX10_howMany_69 : decode cX10_howMany 69 = .ok (.aload_n 0, 1) := by decide +kernel
theorem dX10_howMany_70 : decode cX10_howMany 70 = .ok (.getfield 20, 3) := by decide +kernel
theorem dX10_howMany_73 : decode cX10_howMany 73 = .ok (.getfield 134, 3) := by decide +kernel
theorem dX10_howMany_76 : decode cX10_howMany 76 = .ok (.invokevirtual 195, 3) := by decide +kernel
theorem dX10_howMany_79 : decode cX10_howMany 79 = .ok (.ireturn, 1) := by decide +kernel
theorem dX10_howMany_80 : decode cX10_howMany 80 = .ok (.aload_n 0, 1) := by decide +kernel
theorem dX10_howMany_81 : decode cX10_howMany 81 = .ok (.getfield 20, 3) := by decide +kernel
theorem dX10_howMany_84 : decode cX10_howMany 84 = .ok (.getfield 162, 3) := by decide +kernel
theorem dX10_howMany_87 : decode cX10_howMany 87 = .ok (.invokevirtual 195, 3) := by decide +kernel
theorem dX10_howMany_90 : decode cX10_howMany 90 = .ok (.ireturn, 1) := by decide +kernel
theorem dX10_howMany_91 : decode cX10_howMany 91 = .ok (.aload_n 0, 1) := by decide +kernel
theorem dX10_howMany_92 : decode cX10_howMany 92 = .ok (.getfield 12, 3) := by decide +kernel
theorem dX10_howMany_95 : decode cX10_howMany 95 = .ok (.invokevirtual 282, 3) := by decide +kernel
theorem dX10_howMany_98 : decode cX10_howMany 98 = .ok (.ireturn, 1) := by decide +kernel
theorem dX10_isNextDay_0 : decode cX10_isNextDay 0 = .ok (.aload_n 0, 1) := by decide +kernel
theorem dX10_isNextDay_1 : decode cX10_isNextDay 1 = .ok (.getfield 20, 3) := by decide +kernel
theorem dX10_isNextDay_4 : decode cX10_isNextDay 4 = .ok (.getfield 162, 3) := by decide +kernel
theorem dX10_isNextDay_7 : decode cX10_isNextDay 7 = .ok (.invokevirtual 195, 3) := by decide +kernel
theorem dX10_isNextDay_10 : decode cX10_isNextDay 10 = .ok (.istore_n 2, 1) := by decide +kernel
theorem dX10_isNextDay_11 : decode cX10_isNextDay 11 = .ok (.iload_n 1, 1) := by decide +kernel
theorem dX10_isNextDay_12 : decode cX10_isNextDay 12 = .ok (.invokestatic 79, 3) := by decide +kernel
theorem dX10_isNextDay_15 : decode cX10_isNextDay 15 = .ok (.ifCond .eq 29, 3) := by decide +kernel
theorem dX10_isNextDay_18 : decode cX10_isNextDay 18 = .ok (.iload_n 2, 1) := by decide +kernel
theorem dX10_isNextDay_19 : decode cX10_isNextDay 19 = .ok (.ifCond .eq 21, 3) := by decide +kernel
theorem dX10_isNextDay_22 : decode cX10_isNextDay 22 = .ok (.iload_n 1, 1) := by decide +kernel
theorem dX10_isNextDay_23 : decode cX10_isNextDay 23 = .ok (.aload_n 0, 1) := by decide +kernel
theorem dX10_isNextDay_24 : decode cX10_isNextDay 24 = .ok (.getfield 20, 3) := by decide +kernel
theorem dX10_isNextDay_27 : decode cX10_isNextDay 27 = .ok (.getfield 162, 3) := by decide +kernel
theorem dX10_isNextDay_30 : decode cX10_isNextDay 30 = .ok (.iload_n 2, 1) := by decide +kernel
theorem dX10_isNextDay_31 : decode cX10_isNextDay 31 = .ok (.iconst 1, 1) := by decide +kernel
theorem dX10_isNextDay_32 : decode cX10_isNextDay 32 = .ok (.isub, 1) := by decide +kernel
theorem dX10_isNextDay_33 : decode cX10_isNextDay 33 = .ok (.iconst 0, 1) := by decide +kernel
theorem dX10_isNextDay_34 : decode cX10_isNextDay 34 = .ok (.invokevirtual 144, 3) := by decide +kernel
theorem dX10_isNextDay_37 : decode cX10_isNextDay 37 = .ok (.if_icmp .lt 7, 3) := by decide +kernel
theorem dX10_isNextDay_40 : decode cX10_isNextDay 40 = .ok (.iconst 1, 1) := by decide +kernel
theorem dX10_isNextDay_41 : decode cX10_isNextDay 41 = .ok (.goto 4, 3) := by decide +kernel
theorem dX10_isNextDay_44 : decode cX10_isNextDay 44 = .ok (.iconst 0, 1) := by decide +kernel
theorem dX10_isNextDay_45 : decode cX10_isNextDay 45 = .ok (.ireturn, 1) := by decide +kernel
theorem dX10_within_0 : decode cX10_within 0 = .ok (.iload_n 0, 1) := by decide +kernel
theorem dX10_within_1 : decode cX10_within 1 = .ok (.iload_n 1, 1) := by decide +kernel
theorem dX10_within_2 : decode cX10_within 2 = .ok (.if_icmp .lt 12, 3) := by decide +kernel
theorem dX10_within_5 : decode cX10_within 5 = .ok (.iload_n 0, 1) := by decide +kernel
theorem dX10_within_6 : decode cX10_within 6 = .ok (.iload_n 2, 1) := by decide +kernel
theorem dX10_within_7 : decode cX10_within 7 = .ok (.if_icmp .gt 7, 3) := by decide +kernel
theorem dX10_within_10 : decode cX10_within 10 = .ok (.iconst 1, 1) := by decide +kernel
theorem dX10_within_11 : decode cX10_within 11 = .ok (.goto 4, 3) := by decide +kernel
theorem dX10_within_14 : decode cX10_within 14 = .ok (.iconst 0, 1) := by decide +kernel
theorem dX10_within_15 : decode cX10_within 15 = .ok (.ireturn, 1) := by decide +kernel
theorem dX10_isDay_0 : decode cX10_isDay 0 = .ok (.iload_n 0, 1) := by decide +kernel
theorem dX10_isDay_1 : decode cX10_isDay 1 = .ok (.iconst 0, 1) := by decide +kernel
theorem dX10_isDay_2 : decode cX10_isDay 2 = .ok (.sipush 9999, 3) := by decide +kernel
theorem dX10_isDay_5 : decode cX10_isDay 5 = .ok (.invokestatic 53, 3) := by decide +kernel
theorem dX10_isDay_8 : decode cX10_isDay 8 = .ok (.ireturn, 1) := by decide +kernel
theorem dX10_isText_0 : decode cX10_isText 0 = .ok (.iload_n 0, 1) := by decide +kernel
theorem dX10_isText_1 : decode cX10_isText 1 = .ok (.iconst 0, 1) := by decide +kernel
theorem dX10_isText_2 : decode cX10_isText 2 = .ok (.iconst 3, 1) := by decide +kernel
theorem dX10_isText_3 : decode cX10_isText 3 = .ok (.invokestatic 53, 3) := by decide +kernel
theorem dX10_isText_6 : decode cX10_isText 6 = .ok (.ireturn, 1) := by decide +kernel
theorem dX10_isSort_0 : decode cX10_isSort 0 = .ok (.iload_n 0, 1) := by decide +kernel
theorem dX10_isSort_1 : decode cX10_isSort 1 = .ok (.ifCond .eq 8, 3) := by decide +kernel
theorem dX10_isSort_4 : decode cX10_isSort 4 = .ok (.iload_n 0, 1) := by decide +kernel
theorem dX10_isSort_5 : decode cX10_isSort 5 = .ok (.iconst 1, 1) := by decide +kernel
theorem dX10_isSort_6 : decode cX10_isSort 6 = .ok (.if_icmp .ne 7, 3) := by decide +kernel
theorem dX10_isSort_9 : decode cX10_isSort 9 = .ok (.iconst 1, 1) := by decide +kernel
theorem dX10_isSort_10 : decode cX10_isSort 10 = .ok (.goto 4, 3) := by decide +kernel
theorem dX10_isSort_13 : decode cX10_isSort 13 = .ok (.iconst 0, 1) := by decide +kernel
theorem dX10_isSort_14 : decode cX10_isSort 14 = .ok (.ireturn, 1) := by decide +kernel
theorem dX10_lowBits_0 : decode cX10_lowBits 0 = .ok (.iconst 1, 1) := by decide +kernel
theorem dX10_lowBits_1 : decode cX10_lowBits 1 = .ok (.iload_n 0, 1) := by decide +kernel
theorem dX10_lowBits_2 : decode cX10_lowBits 2 = .ok (.ishl, 1) := by decide +kernel
theorem dX10_lowBits_3 : decode cX10_lowBits 3 = .ok (.iconst 1, 1) := by decide +kernel
theorem dX10_lowBits_4 : decode cX10_lowBits 4 = .ok (.isub, 1) := by decide +kernel
theorem dX10_lowBits_5 : decode cX10_lowBits 5 = .ok (.ireturn, 1) := by decide +kernel
theorem dX10_ways_0 : decode cX10_ways 0 = .ok (.iload_n 1, 1) := by decide +kernel
theorem dX10_ways_1 : decode cX10_ways 1 = .ok (.ifCond .lt 8, 3) := by decide +kernel
theorem dX10_ways_4 : decode cX10_ways 4 = .ok (.iload_n 1, 1) := by decide +kernel
theorem dX10_ways_5 : decode cX10_ways 5 = .ok (.iload_n 0, 1) := by decide +kernel
theorem dX10_ways_6 : decode cX10_ways 6 = .ok (.if_icmp .le 5, 3) := by decide +kernel
theorem dX10_ways_9 : decode cX10_ways 9 = .ok (.lconst 0, 1) := by decide +kernel
theorem dX10_ways_10 : decode cX10_ways 10 = .ok (.lreturn, 1) := by decide +kernel
theorem dX10_ways_11 : decode cX10_ways 11 = .ok (.lconst 1, 1) := by decide +kernel
theorem dX10_ways_12 : decode cX10_ways 12 = .ok (.lstore_n 2, 1) := by decide +kernel
theorem dX10_ways_13 : decode cX10_ways 13 = .ok (.iconst 1, 1) := by decide +kernel
theorem dX10_ways_14 : decode cX10_ways 14 = .ok (.istore 4, 2) := by decide +kernel
theorem dX10_ways_16 : decode cX10_ways 16 = .ok (.iload 4, 2) := by decide +kernel
theorem dX10_ways_18 : decode cX10_ways 18 = .ok (.iload_n 1, 1) := by decide +kernel
theorem dX10_ways_19 : decode cX10_ways 19 = .ok (.if_icmp .gt 23, 3) := by decide +kernel
theorem dX10_ways_22 : decode cX10_ways 22 = .ok (.lload_n 2, 1) := by decide +kernel
theorem dX10_ways_23 : decode cX10_ways 23 = .ok (.iload_n 0, 1) := by decide +kernel
theorem dX10_ways_24 : decode cX10_ways 24 = .ok (.iload_n 1, 1) := by decide +kernel
theorem dX10_ways_25 : decode cX10_ways 25 = .ok (.isub, 1) := by decide +kernel
theorem dX10_ways_26 : decode cX10_ways 26 = .ok (.iload 4, 2) := by decide +kernel
theorem dX10_ways_28 : decode cX10_ways 28 = .ok (.iadd, 1) := by decide +kernel
theorem dX10_ways_29 : decode cX10_ways 29 = .ok (.i2l, 1) := by decide +kernel
theorem dX10_ways_30 : decode cX10_ways 30 = .ok (.lmul, 1) := by decide +kernel
theorem dX10_ways_31 : decode cX10_ways 31 = .ok (.iload 4, 2) := by decide +kernel
theorem dX10_ways_33 : decode cX10_ways 33 = .ok (.i2l, 1) := by decide +kernel
theorem dX10_ways_34 : decode cX10_ways 34 = .ok (.ldiv, 1) := by decide +kernel
theorem dX10_ways_35 : decode cX10_ways 35 = .ok (.lstore_n 2, 1) := by decide +kernel
theorem dX10_ways_36 : decode cX10_ways 36 = .ok (.iinc 4 1, 3) := by decide +kernel
theorem dX10_ways_39 : decode cX10_ways 39 = .ok (.goto (-23), 3) := by decide +kernel
theorem dX10_ways_42 : decode cX10_ways 42 = .ok (.lload_n 2, 1) := by decide +kernel
theorem dX10_ways_43 : decode cX10_ways 43 = .ok (.lreturn, 1) := by decide +kernel
theorem dX11_in_0 : decode cX11_in 0 = .ok (.lload_n 0, 1) := by decide +kernel
theorem dX11_in_1 : decode cX11_in 1 = .ok (.lload_n 2, 1) := by decide +kernel
theorem dX11_in_2 : decode cX11_in 2 = .ok (.lcmp, 1) := by decide +kernel
theorem dX11_in_3 : decode cX11_in 3 = .ok (.ifCond .lt 14, 3) := by decide +kernel
theorem dX11_in_6 : decode cX11_in 6 = .ok (.lload_n 0, 1) := by decide +kernel
theorem dX11_in_7 : decode cX11_in 7 = .ok (.lload 4, 2) := by decide +kernel
theorem dX11_in_9 : decode cX11_in 9 = .ok (.lcmp, 1) := by decide +kernel
theorem dX11_in_10 : decode cX11_in 10 = .ok (.ifCond .gt 7, 3) := by decide +kernel
theorem dX11_in_13 : decode cX11_in 13 = .ok (.iconst 1, 1) := by decide +kernel
theorem dX11_in_14 : decode cX11_in 14 = .ok (.goto 4, 3) := by decide +kernel
theorem dX11_in_17 : decode cX11_in 17 = .ok (.iconst 0, 1) := by decide +kernel
theorem dX11_in_18 : decode cX11_in 18 = .ok (.ireturn, 1) := by decide +kernel
theorem dX11_init_0 : decode cX11_init 0 = .ok (.aload_n 0, 1) := by decide +kernel
theorem dX11_init_1 : decode cX11_init 1 = .ok (.invokespecial 1, 3) := by decide +kernel
theorem dX11_init_4 : decode cX11_init 4 = .ok (.aload_n 0, 1) := by decide +kernel
theorem dX11_init_5 : decode cX11_init 5 = .ok (.sipush 2246, 3) := by decide +kernel
theorem dX11_init_8 : decode cX11_init 8 = .ok (.newarray .int, 2) := by decide +kernel
theorem dX11_init_10 : decode cX11_init 10 = .ok (.putfield 7, 3) := by decide +kernel
theorem dX11_init_13 : decode cX11_init 13 = .ok (.aload_n 0, 1) := by decide +kernel
theorem dX11_init_14 : decode cX11_init 14 = .ok (.sipush 4492, 3) := by decide +kernel
theorem dX11_init_17 : decode cX11_init 17 = .ok (.newarray .int, 2) := by decide +kernel
theorem dX11_init_19 : decode cX11_init 19 = .ok (.putfield 13, 3) := by decide +kernel
theorem dX11_init_22 : decode cX11_init 22 = .ok (.aload_n 0, 1) := by decide +kernel
theorem dX11_init_23 : decode cX11_init 23 = .ok (.iconst 2, 1) := by decide +kernel
theorem dX11_init_24 : decode cX11_init 24 = .ok (.newarray .boolean, 2) := by decide +kernel
theorem dX11_init_26 : decode cX11_init 26 = .ok (.putfield 16, 3) := by decide +kernel
theorem dX11_init_29 : decode cX11_init 29 = .ok (.aload_n 0, 1) := by decide +kernel
theorem dX11_init_30 : decode cX11_init 30 = .ok (.bipush 70, 2) := by decide +kernel
theorem dX11_init_32 : decode cX11_init 32 = .ok (.newarray .int, 2) := by decide +kernel
theorem dX11_init_34 : decode cX11_init 34 = .ok (.putfield 20, 3) := by decide +kernel
theorem dX11_init_37 : decode cX11_init 37 = .ok (.aload_n 0, 1) := by decide +kernel
theorem dX11_init_38 : decode cX11_init 38 = .ok (.bipush 70, 2) := by decide +kernel
theorem dX11_init_40 : decode cX11_init 40 = .ok (.newarray .int, 2) := by decide +kernel
theorem dX11_init_42 : decode cX11_init 42 = .ok (.putfield 23, 3) := by decide +kernel
theorem dX11_init_45 : decode cX11_init 45 = .ok (.aload_n 0, 1) := by decide +kernel
theorem dX11_init_46 : decode cX11_init 46 = .ok (.bipush 70, 2) := by decide +kernel
theorem dX11_init_48 : decode cX11_init 48 = .ok (.newarray .int, 2) := by decide +kernel
theorem dX11_init_50 : decode cX11_init 50 = .ok (.putfield 26, 3) := by decide +kernel
theorem dX11_init_53 : decode cX11_init 53 = .ok (.aload_n 0, 1) := by decide +kernel
theorem dX11_init_54 : decode cX11_init 54 = .ok (.bipush 70, 2) := by decide +kernel
theorem dX11_init_56 : decode cX11_init 56 = .ok (.newarray .long, 2) := by decide +kernel
theorem dX11_init_58 : decode cX11_init 58 = .ok (.putfield 29, 3) := by decide +kernel
theorem dX11_init_61 : decode cX11_init 61 = .ok (.aload_n 0, 1) := by decide +kernel
theorem dX11_init_62 : decode cX11_init 62 = .ok (.bipush 11, 2) := by decide +kernel
theorem dX11_init_64 : decode cX11_init 64 = .ok (.newarray .int, 2) := by decide +kernel
theorem dX11_init_66 : decode cX11_init 66 = .ok (.putfield 33, 3) := by decide +kernel
theorem dX11_init_69 : decode cX11_init 69 = .ok (.aload_n 0, 1) := by decide +kernel
theorem dX11_init_70 : decode cX11_init 70 = .ok (.bipush 11, 2) := by decide +kernel
theorem dX11_init_72 : decode cX11_init 72 = .ok (.newarray .int, 2) := by decide +kernel
theorem dX11_init_74 : decode cX11_init 74 = .ok (.putfield 36, 3) := by decide +kernel
theorem dX11_init_77 : decode cX11_init 77 = .ok (.aload_n 0, 1) := by decide +kernel
theorem dX11_init_78 : decode cX11_init 78 = .ok (.sipush 264, 3) := by decide +kernel
theorem dX11_init_81 : decode cX11_init 81 = .ok (.newarray .int, 2) := by decide +kernel
theorem dX11_init_83 : decode cX11_init 83 = .ok (.putfield 39, 3) := by decide +kernel
theorem dX11_init_86 : decode cX11_init 86 = .ok (.aload_n 0, 1) := by decide +kernel
theorem dX11_init_87 : decode cX11_init 87 = .ok (.bipush 11, 2) := by decide +kernel
theorem dX11_init_89 : decode cX11_init 89 = .ok (.newarray .int, 2) := by decide +kernel
theorem dX11_init_91 : decode cX11_init 91 = .ok (.putfield 42, 3) := by decide +kernel
theorem dX11_init_94 : decode cX11_init 94 = .ok (.aload_n 0, 1) := by decide +kernel
theorem dX11_init_95 : decode cX11_init 95 = .ok (.sipush 330, 3) := by decide +kernel
theorem dX11_init_98 : decode cX11_init 98 = .ok (.newarray .int, 2) := by decide +kernel
theorem dX11_init_100 : decode cX11_init 100 = .ok (.putfield 45, 3) := by decide +kernel
theorem dX11_init_103 : decode cX11_init 103 = .ok (.aload_n 0, 1) := by decide +kernel
theorem dX11_init_104 : decode cX11_init 104 = .ok (.bipush 44, 2) := by decide +kernel
theorem dX11_init_106 : decode cX11_init 106 = .ok (.newarray .int, 2) := by decide +kernel
theorem dX11_init_108 : decode cX11_init 108 = .ok (.putfield 48, 3) := by decide +kernel
theorem dX11_init_111 : decode cX11_init 111 = .ok (.aload_n 0, 1) := by decide +kernel
theorem dX11_init_112 : decode cX11_init 112 = .ok (.bipush 30, 2) := by decide +kernel
theorem dX11_init_114 : decode cX11_init 114 = .ok (.newarray .int, 2) := by decide +kernel
theorem dX11_init_116 : decode cX11_init 116 = .ok (.putfield 51, 3) := by decide +kernel
theorem dX11_init_119 : decode cX11_init 119 = .ok (.aload_n 0, 1) := by decide +kernel
theorem dX11_init_120 : decode cX11_init 120 = .ok (.bipush 6, 2) := by decide +kernel
theorem dX11_init_122 : decode cX11_init 122 = .ok (.newarray .int, 2) := by decide +kernel
theorem dX11_init_124 : decode cX11_init 124 = .ok (.putfield 54, 3) := by decide +kernel
theorem dX11_init_127 : decode cX11_init 127 = .ok (.aload_n 0, 1) := by decide +kernel
theorem dX11_init_128 : decode cX11_init 128 = .ok (.bipush 6, 2) := by decide +kernel
theorem dX11_init_130 : decode cX11_init 130 = .ok (.newarray .int, 2) := by decide +kernel
theorem dX11_init_132 : decode cX11_init 132 = .ok (.putfield 57, 3) := by decide +kernel
theorem dX11_init_135 : decode cX11_init 135 = .ok (.aload_n 0, 1) := by decide +kernel
theorem dX11_init_136 : decode cX11_init 136 = .ok (.bipush 6, 2) := by decide +kernel
theorem dX11_init_138 : decode cX11_init 138 = .ok (.newarray .int, 2) := by decide +kernel
theorem dX11_init_140 : decode cX11_init 140 = .ok (.putfield 60, 3) := by decide +kernel
theorem dX11_init_143 : decode cX11_init 143 = .ok (.aload_n 0, 1) := by decide +kernel
theorem dX11_init_144 : decode cX11_init 144 = .ok (.getfield 7, 3) := by decide +kernel
theorem dX11_init_147 : decode cX11_init 147 = .ok (.iconst 5, 1) := by decide +kernel
theorem dX11_init_148 : decode cX11_init 148 = .ok (.iconst 5, 1) := by decide +kernel
theorem dX11_init_149 : decode cX11_init 149 = .ok (.iastore, 1) := by decide +kernel
theorem dX11_init_150 : decode cX11_init 150 = .ok (.aload_n 0, 1) := by decide +kernel
theorem dX11_init_151 : decode cX11_init 151 = .ok (.getfield 7, 3) := by decide +kernel
theorem dX11_init_154 : decode cX11_init 154 = .ok (.bipush 6, 2) := by decide +kernel
theorem dX11_init_156 : decode cX11_init 156 = .ok (.bipush 20, 2) := by decide +kernel
theorem dX11_init_158 : decode cX11_init 158 = .ok (.iastore, 1) := by decide +kernel
theorem dX11_init_159 : decode cX11_init 159 = .ok (.aload_n 0, 1) := by decide +kernel
theorem dX11_init_160 : decode cX11_init 160 = .ok (.lconst 1, 1) := by decide +kernel
theorem dX11_init_161 : decode cX11_init 161 = .ok (.putfield 63, 3) := by decide +kernel
theorem dX11_init_164 : decode cX11_init 164 = .ok (.return_, 1) := by decide +kernel

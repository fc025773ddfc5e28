theorem dX0_init_0 : decode cX0_init 0 = .ok (.aload_n 0, 1) := by decide +kernel
theorem dX0_init_1 : decode cX0_init 1 = .ok (.invokespecial 3, 3) := by decide +kernel
theorem dX0_init_4 : decode cX0_init 4 = .ok (.aload_n 0, 1) := by decide +kernel
theorem dX0_init_5 : decode cX0_init 5 = .ok (.new 9, 3) := by decide +kernel
theorem dX0_init_8 : decode cX0_init 8 = .ok (.dup, 1) := by decide +kernel
theorem dX0_init_9 : decode cX0_init 9 = .ok (.bipush 30, 2) := by decide +kernel
theorem dX0_init_11 : decode cX0_init 11 = .ok (.iconst 4, 1) := by decide +kernel
theorem dX0_init_12 : decode cX0_init 12 = .ok (.invokespecial 11, 3) := by decide +kernel
theorem dX0_init_15 : decode cX0_init 15 = .ok (.putfield 14, 3) := by decide +kernel
theorem dX0_init_18 : decode cX0_init 18 = .ok (.aload_n 0, 1) := by decide +kernel
theorem dX0_init_19 : decode cX0_init 19 = .ok (.new 9, 3) := by decide +kernel
theorem dX0_init_22 : decode cX0_init 22 = .ok (.dup, 1) := by decide +kernel
theorem dX0_init_23 : decode cX0_init 23 = .ok (.bipush 40, 2) := by decide +kernel
theorem dX0_init_25 : decode cX0_init 25 = .ok (.iconst 3, 1) := by decide +kernel
theorem dX0_init_26 : decode cX0_init 26 = .ok (.invokespecial 11, 3) := by decide +kernel
theorem dX0_init_29 : decode cX0_init 29 = .ok (.putfield 20, 3) := by decide +kernel
theorem dX0_init_32 : decode cX0_init 32 = .ok (.aload_n 0, 1) := by decide +kernel
theorem dX0_init_33 : decode cX0_init 33 = .ok (.new 9, 3) := by decide +kernel
theorem dX0_init_36 : decode cX0_init 36 = .ok (.dup, 1) := by decide +kernel
theorem dX0_init_37 : decode cX0_init 37 = .ok (.iconst 4, 1) := by decide +kernel
theorem dX0_init_38 : decode cX0_init 38 = .ok (.iconst 3, 1) := by decide +kernel
theorem dX0_init_39 : decode cX0_init 39 = .ok (.invokespecial 11, 3) := by decide +kernel
theorem dX0_init_42 : decode cX0_init 42 = .ok (.putfield 23, 3) := by decide +kernel
theorem dX0_init_45 : decode cX0_init 45 = .ok (.aload_n 0, 1) := by decide +kernel
theorem dX0_init_46 : decode cX0_init 46 = .ok (.new 9, 3) := by decide +kernel
theorem dX0_init_49 : decode cX0_init 49 = .ok (.dup, 1) := by decide +kernel
theorem dX0_init_50 : decode cX0_init 50 = .ok (.bipush 20, 2) := by decide +kernel
theorem dX0_init_52 : decode cX0_init 52 = .ok (.iconst 3, 1) := by decide +kernel
theorem dX0_init_53 : decode cX0_init 53 = .ok (.invokespecial 11, 3) := by decide +kernel
theorem dX0_init_56 : decode cX0_init 56 = .ok (.putfield 26, 3) := by decide +kernel
theorem dX0_init_59 : decode cX0_init 59 = .ok (.aload_n 0, 1) := by decide +kernel
theorem dX0_init_60 : decode cX0_init 60 = .ok (.new 9, 3) := by decide +kernel
theorem dX0_init_63 : decode cX0_init 63 = .ok (.dup, 1) := by decide +kernel
theorem dX0_init_64 : decode cX0_init 64 = .ok (.bipush 10, 2) := by decide +kernel
theorem dX0_init_66 : decode cX0_init 66 = .ok (.bipush 70, 2) := by decide +kernel
theorem dX0_init_68 : decode cX0_init 68 = .ok (.invokespecial 11, 3) := by decide +kernel
theorem dX0_init_71 : decode cX0_init 71 = .ok (.putfield 29, 3) := by decide +kernel
theorem dX0_init_74 : decode cX0_init 74 = .ok (.aload_n 0, 1) := by decide +kernel
theorem dX0_init_75 : decode cX0_init 75 = .ok (.new 32, 3) := by decide +kernel
theorem dX0_init_78 : decode cX0_init 78 = .ok (.dup, 1) := by decide +kernel
theorem dX0_init_79 : decode cX0_init 79 = .ok (.bipush 20, 2) := by decide +kernel
theorem dX0_init_81 : decode cX0_init 81 = .ok (.invokespecial 34, 3) := by decide +kernel
theorem dX0_init_84 : decode cX0_init 84 = .ok (.putfield 37, 3) := by decide +kernel
theorem dX0_init_87 : decode cX0_init 87 = .ok (.aload_n 0, 1) := by decide +kernel
theorem dX0_init_88 : decode cX0_init 88 = .ok (.new 32, 3) := by decide +kernel
theorem dX0_init_91 : decode cX0_init 91 = .ok (.dup, 1) := by decide +kernel
theorem dX0_init_92 : decode cX0_init 92 = .ok (.iconst 4, 1) := by decide +kernel
theorem dX0_init_93 : decode cX0_init 93 = .ok (.invokespecial 34, 3) := by decide +kernel
theorem dX0_init_96 : decode cX0_init 96 = .ok (.putfield 41, 3) := by decide +kernel
theorem dX0_init_99 : decode cX0_init 99 = .ok (.aload_n 0, 1) := by decide +kernel
theorem dX0_init_100 : decode cX0_init 100 = .ok (.iconst 5, 1) := by decide +kernel
theorem dX0_init_101 : decode cX0_init 101 = .ok (.putfield 44, 3) := by decide +kernel
theorem dX0_init_104 : decode cX0_init 104 = .ok (.aload_n 0, 1) := by decide +kernel
theorem dX0_init_105 : decode cX0_init 105 = .ok (.bipush 20, 2) := by decide +kernel
theorem dX0_init_107 : decode cX0_init 107 = .ok (.putfield 48, 3) := by decide +kernel
theorem dX0_init_110 : decode cX0_init 110 = .ok (.return_, 1) := by decide +kernel
theorem dX0_copy_0 : decode cX0_copy 0 = .ok (.aload_n 0, 1) := by decide +kernel
theorem dX0_copy_1 : decode cX0_copy 1 = .ok (.getfield 14, 3) := by decide +kernel
theorem dX0_copy_4 : decode cX0_copy 4 = .ok (.aload_n 1, 1) := by decide +kernel
theorem dX0_copy_5 : decode cX0_copy 5 = .ok (.getfield 14, 3) := by decide +kernel
theorem dX0_copy_8 : decode cX0_copy 8 = .ok (.invokevirtual 51, 3) := by decide +kernel
theorem dX0_copy_11 : decode cX0_copy 11 = .ok (.aload_n 0, 1) := by decide +kernel
theorem dX0_copy_12 : decode cX0_copy 12 = .ok (.getfield 20, 3) := by decide +kernel
theorem dX0_copy_15 : decode cX0_copy 15 = .ok (.aload_n 1, 1) := by decide +kernel
theorem dX0_copy_16 : decode cX0_copy 16 = .ok (.getfield 20, 3) := by decide +kernel
theorem dX0_copy_19 : decode cX0_copy 19 = .ok (.invokevirtual 51, 3) := by decide +kernel
theorem dX0_copy_22 : decode cX0_copy 22 = .ok (.aload_n 0, 1) := by decide +kernel
theorem dX0_copy_23 : decode cX0_copy 23 = .ok (.getfield 23, 3) := by decide +kernel
theorem dX0_copy_26 : decode cX0_copy 26 = .ok (.aload_n 1, 1) := by decide +kernel
theorem dX0_copy_27 : decode cX0_copy 27 = .ok (.getfield 23, 3) := by decide +kernel
theorem dX0_copy_30 : decode cX0_copy 30 = .ok (.invokevirtual 51, 3) := by decide +kernel
theorem dX0_copy_33 : decode cX0_copy 33 = .ok (.aload_n 0, 1) := by decide +kernel
theorem dX0_copy_34 : decode cX0_copy 34 = .ok (.getfield 26, 3) := by decide +kernel
theorem dX0_copy_37 : decode cX0_copy 37 = .ok (.aload_n 1, 1) := by decide +kernel
theorem dX0_copy_38 : decode cX0_copy 38 = .ok (.getfield 26, 3) := by decide +kernel
theorem dX0_copy_41 : decode cX0_copy 41 = .ok (.invokevirtual 51, 3) := by decide +kernel
theorem dX0_copy_44 : decode cX0_copy 44 = .ok (.aload_n 0, 1) := by decide +kernel
theorem dX0_copy_45 : decode cX0_copy 45 = .ok (.getfield 29, 3) := by decide +kernel
theorem dX0_copy_48 : decode cX0_copy 48 = .ok (.aload_n 1, 1) := by decide +kernel
theorem dX0_copy_49 : decode cX0_copy 49 = .ok (.getfield 29, 3) := by decide +kernel
theorem dX0_copy_52 : decode cX0_copy 52 = .ok (.invokevirtual 51, 3) := by decide +kernel
theorem dX0_copy_55 : decode cX0_copy 55 = .ok (.aload_n 0, 1) := by decide +kernel
theorem dX0_copy_56 : decode cX0_copy 56 = .ok (.getfield 37, 3) := by decide +kernel
theorem dX0_copy_59 : decode cX0_copy 59 = .ok (.aload_n 1, 1) := by decide +kernel
theorem dX0_copy_60 : decode cX0_copy 60 = .ok (.getfield 37, 3) := by decide +kernel
theorem dX0_copy_63 : decode cX0_copy 63 = .ok (.invokevirtual 55, 3) := by decide +kernel
theorem dX0_copy_66 : decode cX0_copy 66 = .ok (.aload_n 0, 1) := by decide +kernel
theorem dX0_copy_67 : decode cX0_copy 67 = .ok (.getfield 41, 3) := by decide +kernel
theorem dX0_copy_70 : decode cX0_copy 70 = .ok (.aload_n 1, 1) := by decide +kernel
theorem dX0_copy_71 : decode cX0_copy 71 = .ok (.getfield 41, 3) := by decide +kernel
theorem dX0_copy_74 : decode cX0_copy 74 = .ok (.invokevirtual 55, 3) := by decide +kernel
theorem dX0_copy_77 : decode cX0_copy 77 = .ok (.aload_n 0, 1) := by decide +kernel
theorem dX0_copy_78 : decode cX0_copy 78 = .ok (.aload_n 1, 1) := by decide +kernel
theorem dX0_copy_79 : decode cX0_copy 79 = .ok (.getfield 44, 3) := by decide +kernel
theorem dX0_copy_82 : decode cX0_copy 82 = .ok (.putfield 44, 3) := by decide +kernel
theorem dX0_copy_85 : decode cX0_copy 85 = .ok (.aload_n 0, 1) := by decide +kernel
theorem dX0_copy_86 : decode cX0_copy 86 = .ok (.aload_n 1, 1) := by decide +kernel
theorem dX0_copy_87 : decode cX0_copy 87 = .ok (.getfield 48, 3) := by decide +kernel
theorem dX0_copy_90 : decode cX0_copy 90 = .ok (.putfield 48, 3) := by decide +kernel
theorem dX0_copy_93 : decode cX0_copy 93 = .ok (.return_, 1) := by decide +kernel
theorem dX0_everyone_0 : decode cX0_everyone 0 = .ok (.aload_n 0, 1) := by decide +kernel
theorem dX0_everyone_1 : decode cX0_everyone 1 = .ok (.getfield 14, 3) := by decide +kernel
theorem dX0_everyone_4 : decode cX0_everyone 4 = .ok (.invokevirtual 58, 3) := by decide +kernel
theorem dX0_everyone_7 : decode cX0_everyone 7 = .ok (.invokestatic 62, 3) := by decide +kernel
theorem dX0_everyone_10 : decode cX0_everyone 10 = .ok (.ireturn, 1) := by decide +kernel
theorem dX0_peopleWith_0 : decode cX0_peopleWith 0 = .ok (.iconst 0, 1) := by decide +kernel
theorem dX0_peopleWith_1 : decode cX0_peopleWith 1 = .ok (.istore_n 3, 1) := by decide +kernel
theorem dX0_peopleWith_2 : decode cX0_peopleWith 2 = .ok (.iconst 0, 1) := by decide +kernel
theorem dX0_peopleWith_3 : decode cX0_peopleWith 3 = .ok (.istore 4, 2) := by decide +kernel
theorem dX0_peopleWith_5 : decode cX0_peopleWith 5 = .ok (.iload 4, 2) := by decide +kernel
theorem dX0_peopleWith_7 : decode cX0_peopleWith 7 = .ok (.aload_n 0, 1) := by decide +kernel
theorem dX0_peopleWith_8 : decode cX0_peopleWith 8 = .ok (.getfield 14, 3) := by decide +kernel
theorem dX0_peopleWith_11 : decode cX0_peopleWith 11 = .ok (.invokevirtual 58, 3) := by decide +kernel
theorem dX0_peopleWith_14 : decode cX0_peopleWith 14 = .ok (.if_icmp .ge 30, 3) := by decide +kernel
theorem dX0_peopleWith_17 : decode cX0_peopleWith 17 = .ok (.aload_n 0, 1) := by decide +kernel
theorem dX0_peopleWith_18 : decode cX0_peopleWith 18 = .ok (.getfield 14, 3) := by decide +kernel
theorem dX0_peopleWith_21 : decode cX0_peopleWith 21 = .ok (.iload 4, 2) := by decide +kernel
theorem dX0_peopleWith_23 : decode cX0_peopleWith 23 = .ok (.iload_n 1, 1) := by decide +kernel
theorem dX0_peopleWith_24 : decode cX0_peopleWith 24 = .ok (.invokevirtual 66, 3) := by decide +kernel
theorem dX0_peopleWith_27 : decode cX0_peopleWith 27 = .ok (.iload_n 2, 1) := by decide +kernel
theorem dX0_peopleWith_28 : decode cX0_peopleWith 28 = .ok (.if_icmp .ne 10, 3) := by decide +kernel
theorem dX0_peopleWith_31 : decode cX0_peopleWith 31 = .ok (.iload_n 3, 1) := by decide +kernel
theorem dX0_peopleWith_32 : decode cX0_peopleWith 32 = .ok (.iconst 1, 1) := by decide +kernel
theorem dX0_peopleWith_33 : decode cX0_peopleWith 33 = .ok (.iload 4, 2) := by decide +kernel
theorem dX0_peopleWith_35 : decode cX0_peopleWith 35 = .ok (.ishl, 1) := by decide +kernel
theorem dX0_peopleWith_36 : decode cX0_peopleWith 36 = .ok (.ior, 1) := by decide +kernel
theorem dX0_peopleWith_37 : decode cX0_peopleWith 37 = .ok (.istore_n 3, 1) := by decide +kernel
theorem dX0_peopleWith_38 : decode cX0_peopleWith 38 = .ok (.iinc 4 1, 3) := by decide +kernel
theorem dX0_peopleWith_41 : decode cX0_peopleWith 41 = .ok (.goto (-36), 3) := by decide +kernel
theorem dX0_peopleWith_44 : decode cX0_peopleWith 44 = .ok (.iload_n 3, 1) := by decide +kernel
theorem dX0_peopleWith_45 : decode cX0_peopleWith 45 = .ok (.ireturn, 1) := by decide +kernel
theorem dX0_listedOn_0 : decode cX0_listedOn 0 = .ok (.iconst (-1), 1) := by decide +kernel
theorem dX0_listedOn_1 : decode cX0_listedOn 1 = .ok (.istore_n 2, 1) := by decide +kernel
theorem dX0_listedOn_2 : decode cX0_listedOn 2 = .ok (.iconst 0, 1) := by decide +kernel
theorem dX0_listedOn_3 : decode cX0_listedOn 3 = .ok (.istore_n 3, 1) := by decide +kernel
theorem dX0_listedOn_4 : decode cX0_listedOn 4 = .ok (.iload_n 3, 1) := by decide +kernel
theorem dX0_listedOn_5 : decode cX0_listedOn 5 = .ok (.aload_n 0, 1) := by decide +kernel
theorem dX0_listedOn_6 : decode cX0_listedOn 6 = .ok (.getfield 23, 3) := by decide +kernel
theorem dX0_listedOn_9 : decode cX0_listedOn 9 = .ok (.invokevirtual 58, 3) := by decide +kernel
theorem dX0_listedOn_12 : decode cX0_listedOn 12 = .ok (.if_icmp .ge 62, 3) := by decide +kernel
theorem dX0_listedOn_15 : decode cX0_listedOn 15 = .ok (.aload_n 0, 1) := by decide +kernel
theorem dX0_listedOn_16 : decode cX0_listedOn 16 = .ok (.getfield 23, 3) := by decide +kernel
theorem dX0_listedOn_19 : decode cX0_listedOn 19 = .ok (.iload_n 3, 1) := by decide +kernel
theorem dX0_listedOn_20 : decode cX0_listedOn 20 = .ok (.iconst 2, 1) := by decide +kernel
theorem dX0_listedOn_21 : decode cX0_listedOn 21 = .ok (.invokevirtual 66, 3) := by decide +kernel
theorem dX0_listedOn_24 : decode cX0_listedOn 24 = .ok (.iload_n 1, 1) := by decide +kernel
theorem dX0_listedOn_25 : decode cX0_listedOn 25 = .ok (.if_icmp .gt 7, 3) := by decide +kernel
theorem dX0_listedOn_28 : decode cX0_listedOn 28 = .ok (.iconst 1, 1) := by decide +kernel
theorem dX0_listedOn_29 : decode cX0_listedOn 29 = .ok (.goto 4, 3) := by decide +kernel
theorem dX0_listedOn_32 : decode cX0_listedOn 32 = .ok (.iconst 0, 1) := by decide +kernel
theorem dX0_listedOn_33 : decode cX0_listedOn 33 = .ok (.istore 4, 2) := by decide +kernel
theorem dX0_listedOn_35 : decode cX0_listedOn 35 = .ok (.iload 4, 2) := by decide +kernel
theorem dX0_listedOn_37 : decode cX0_listedOn 37 = .ok (.ifCond .eq 31, 3) := by decide +kernel
theorem dX0_listedOn_40 : decode cX0_listedOn 40 = .ok (.iload_n 2, 1) := by decide +kernel
theorem dX0_listedOn_41 : decode cX0_listedOn 41 = .ok (.iconst (-1), 1) := by decide +kernel
theorem dX0_listedOn_42 : decode cX0_listedOn 42 = .ok (.if_icmp .eq 24, 3) := by decide +kernel
theorem dX0_listedOn_45 : decode cX0_listedOn 45 = .ok (.aload_n 0, 1) := by decide +kernel
theorem dX0_listedOn_46 : decode cX0_listedOn 46 = .ok (.getfield 23, 3) := by decide +kernel
theorem dX0_listedOn_49 : decode cX0_listedOn 49 = .ok (.iload_n 3, 1) := by decide +kernel
theorem dX0_listedOn_50 : decode cX0_listedOn 50 = .ok (.iconst 1, 1) := by decide +kernel
theorem dX0_listedOn_51 : decode cX0_listedOn 51 = .ok (.invokevirtual 66, 3) := by decide +kernel
theorem dX0_listedOn_54 : decode cX0_listedOn 54 = .ok (.aload_n 0, 1) := by decide +kernel
theorem dX0_listedOn_55 : decode cX0_listedOn 55 = .ok (.getfield 23, 3) := by decide +kernel
theorem dX0_listedOn_58 : decode cX0_listedOn 58 = .ok (.iload_n 2, 1) := by decide +kernel
theorem dX0_listedOn_59 : decode cX0_listedOn 59 = .ok (.iconst 1, 1) := by decide +kernel
theorem dX0_listedOn_60 : decode cX0_listedOn 60 = .ok (.invokevirtual 66, 3) := by decide +kernel
theorem dX0_listedOn_63 : decode cX0_listedOn 63 = .ok (.if_icmp .lt 5, 3) := by decide +kernel
theorem dX0_listedOn_66 : decode cX0_listedOn 66 = .ok (.iload_n 3, 1) := by decide +kernel
theorem dX0_listedOn_67 : decode cX0_listedOn 67 = .ok (.istore_n 2, 1) := by decide +kernel
theorem dX0_listedOn_68 : decode cX0_listedOn 68 = .ok (.iinc 3 1, 3) := by decide +kernel
theorem dX0_listedOn_71 : decode cX0_listedOn 71 = .ok (.goto (-67), 3) := by decide +kernel
theorem dX0_listedOn_74 : decode cX0_listedOn 74 = .ok (.iload_n 2, 1) := by decide +kernel
theorem dX0_listedOn_75 : decode cX0_listedOn 75 = .ok (.iconst (-1), 1) := by decide +kernel
theorem dX0_listedOn_76 : decode cX0_listedOn 76 = .ok (.if_icmp .ne 10, 3) := by decide +kernel
theorem dX0_listedOn_79 : decode cX0_listedOn 79 = .ok (.aload_n 0, 1) := by decide +kernel
theorem dX0_listedOn_80 : decode cX0_listedOn 80 = .ok (.invokevirtual 70, 3) := by decide +kernel
theorem dX0_listedOn_83 : decode cX0_listedOn 83 = .ok (.goto 12, 3) := by decide +kernel
theorem dX0_listedOn_86 : decode cX0_listedOn 86 = .ok (.aload_n 0, 1) := by decide +kernel
theorem dX0_listedOn_87 : decode cX0_listedOn 87 = .ok (.getfield 23, 3) := by decide +kernel
theorem dX0_listedOn_90 : decode cX0_listedOn 90 = .ok (.iload_n 2, 1) := by decide +kernel
theorem dX0_listedOn_91 : decode cX0_listedOn 91 = .ok (.iconst 0, 1) := by decide +kernel
theorem dX0_listedOn_92 : decode cX0_listedOn 92 = .ok (.invokevirtual 66, 3) := by decide +kernel
theorem dX0_listedOn_95 : decode cX0_listedOn 95 = .ok (.ireturn, 1) := by decide +kernel
theorem dX0_inForce_0 : decode cX0_inForce 0 = .ok (.iconst (-1), 1) := by decide +kernel
theorem dX0_inForce_1 : decode cX0_inForce 1 = .ok (.istore_n 3, 1) := by decide +kernel
theorem dX0_inForce_2 : decode cX0_inForce 2 = .ok (.iconst 0, 1) := by decide +kernel
theorem dX0_inForce_3 : decode cX0_inForce 3 = .ok (.istore 4, 2) := by decide +kernel
theorem dX0_inForce_5 : decode cX0_inForce 5 = .ok (.iload 4, 2) := by decide +kernel
theorem dX0_inForce_7 : decode cX0_inForce 7 = .ok (.aload_n 0, 1) := by decide +kernel
theorem dX0_inForce_8 : decode cX0_inForce 8 = .ok (.getfield 26, 3) := by decide +kernel
theorem dX0_inForce_11 : decode cX0_inForce 11 = .ok (.invokevirtual 58, 3) := by decide +kernel
theorem dX0_inForce_14 : decode cX0_inForce 14 = .ok (.if_icmp .ge 103, 3) := by decide +kernel
theorem dX0_inForce_17 : decode cX0_inForce 17 = .ok (.aload_n 0, 1) := by decide +kernel
theorem dX0_inForce_18 : decode cX0_inForce 18 = .ok (.getfield 26, 3) := by decide +kernel
theorem dX0_inForce_21 : decode cX0_inForce 21 = .ok (.iload 4, 2) := by decide +kernel
theorem dX0_inForce_23 : decode cX0_inForce 23 = .ok (.iconst 2, 1) := by decide +kernel
theorem dX0_inForce_24 : decode cX0_inForce 24 = .ok (.invokevirtual 66, 3) := by decide +kernel
theorem dX0_inForce_27 : decode cX0_inForce 27 = .ok (.istore 5, 2) := by decide +kernel
theorem dX0_inForce_29 : decode cX0_inForce 29 = .ok (.aload_n 0, 1) := by decide +kernel
theorem dX0_inForce_30 : decode cX0_inForce 30 = .ok (.getfield 26, 3) := by decide +kernel
theorem dX0_inForce_33 : decode cX0_inForce 33 = .ok (.iload 4, 2) := by decide +kernel
theorem dX0_inForce_35 : decode cX0_inForce 35 = .ok (.iconst 0, 1) := by decide +kernel
theorem dX0_inForce_36 : decode cX0_inForce 36 = .ok (.invokevirtual 66, 3) := by decide +kernel
theorem dX0_inForce_39 : decode cX0_inForce 39 = .ok (.iload_n 1, 1) := by decide +kernel
theorem dX0_inForce_40 : decode cX0_inForce 40 = .ok (.if_icmp .ne 33, 3) := by decide +kernel
theorem dX0_inForce_43 : decode cX0_inForce 43 = .ok (.aload_n 0, 1) := by decide +kernel
theorem dX0_inForce_44 : decode cX0_inForce 44 = .ok (.getfield 26, 3) := by decide +kernel
theorem dX0_inForce_47 : decode cX0_inForce 47 = .ok (.iload 4, 2) := by decide +kernel
theorem dX0_inForce_49 : decode cX0_inForce 49 = .ok (.iconst 1, 1) := by decide +kernel
theorem dX0_inForce_50 : decode cX0_inForce 50 = .ok (.invokevirtual 66, 3) := by decide +kernel
theorem dX0_inForce_53 : decode cX0_inForce 53 = .ok (.iload_n 2, 1) := by decide +kernel
theorem dX0_inForce_54 : decode cX0_inForce 54 = .ok (.if_icmp .gt 19, 3) := by decide +kernel
theorem dX0_inForce_57 : decode cX0_inForce 57 = .ok (.iload 5, 2) := by decide +kernel
theorem dX0_inForce_59 : decode cX0_inForce 59 = .ok (.iconst (-1), 1) := by decide +kernel
theorem dX0_inForce_60 : decode cX0_inForce 60 = .ok (.if_icmp .eq 9, 3) := by decide +kernel
theorem dX0_inForce_63 : decode cX0_inForce 63 = .ok (.iload 5, 2) := by decide +kernel
theorem dX0_inForce_65 : decode cX0_inForce 65 = .ok (.iload_n 2, 1) := by decide +kernel
theorem dX0_inForce_66 : decode cX0_inForce 66 = .ok (.if_icmp .le 7, 3) := by decide +kernel
theorem dX0_inForce_69 : decode cX0_inForce 69 = .ok (.iconst 1, 1) := by decide +kernel
theorem dX0_inForce_70 : decode cX0_inForce 70 = .ok (.goto 4, 3) := by decide +kernel
theorem dX0_inForce_73 : decode cX0_inForce 73 = .ok (.iconst 0, 1) := by decide +kernel
theorem dX0_inForce_74 : decode cX0_inForce 74 = .ok (.istore 6, 2) := by decide +kernel
theorem dX0_inForce_76 : decode cX0_inForce 76 = .ok (.iload 6, 2) := by decide +kernel
theorem dX0_inForce_78 : decode cX0_inForce 78 = .ok (.ifCond .eq 33, 3) := by decide +kernel
theorem dX0_inForce_81 : decode cX0_inForce 81 = .ok (.iload_n 3, 1) := by decide +kernel
theorem dX0_inForce_82 : decode cX0_inForce 82 = .ok (.iconst (-1), 1) := by decide +kernel
theorem dX0_inForce_83 : decode cX0_inForce 83 = .ok (.if_icmp .eq 25, 3) := by decide +kernel
theorem dX0_inForce_86 : decode cX0_inForce 86 = .ok (.aload_n 0, 1) := by decide +kernel
theorem dX0_inForce_87 : decode cX0_inForce 87 = .ok (.getfield 26, 3) := by decide +kernel
theorem dX0_inForce_90 : decode cX0_inForce 90 = .ok (.iload 4, 2) := by decide +kernel
theorem dX0_inForce_92 : decode cX0_inForce 92 = .ok (.iconst 1, 1) := by decide +kernel
theorem dX0_inForce_93 : decode cX0_inForce 93 = .ok (.invokevirtual 66, 3) := by decide +kernel
theorem dX0_inForce_96 : decode cX0_inForce 96 = .ok (.aload_n 0, 1) := by decide +kernel
theorem dX0_inForce_97 : decode cX0_inForce 97 = .ok (.getfield 26, 3) := by decide +kernel
theorem dX0_inForce_100 : decode cX0_inForce 100 = .ok (.iload_n 3, 1) := by decide +kernel
theorem dX0_inForce_101 : decode cX0_inForce 101 = .ok (.iconst 1, 1) := by decide +kernel
theorem dX0_inForce_102 : decode cX0_inForce 102 = .ok (.invokevirtual 66, 3) := by decide +kernel
theorem dX0_inForce_105 : decode cX0_inForce 105 = .ok (.if_icmp .lt 6, 3) := by decide +kernel
theorem dX0_inForce_108 : decode cX0_inForce 108 = .ok (.iload 4, 2) := by decide +kernel
theorem dX0_inForce_110 : decode cX0_inForce 110 = .ok (.istore_n 3, 1) := by decide +kernel
theorem dX0_inForce_111 : decode cX0_inForce 111 = .ok (.iinc 4 1, 3) := by decide +kernel
theorem dX0_inForce_114 : decode cX0_inForce 114 = .ok (.goto (-109), 3) := by decide +kernel
theorem dX0_inForce_117 : decode cX0_inForce 117 = .ok (.iload_n 3, 1) := by decide +kernel
theorem dX0_inForce_118 : decode cX0_inForce 118 = .ok (.ireturn, 1) := by decide +kernel
theorem dX0_lawOf_0 : decode cX0_lawOf 0 = .ok (.aload_n 0, 1) := by decide +kernel
theorem dX0_lawOf_1 : decode cX0_lawOf 1 = .ok (.iload_n 1, 1) := by decide +kernel
theorem dX0_lawOf_2 : decode cX0_lawOf 2 = .ok (.iload_n 2, 1) := by decide +kernel
theorem dX0_lawOf_3 : decode cX0_lawOf 3 = .ok (.invokevirtual 73, 3) := by decide +kernel
theorem dX0_lawOf_6 : decode cX0_lawOf 6 = .ok (.istore_n 3, 1) := by decide +kernel
theorem dX0_lawOf_7 : decode cX0_lawOf 7 = .ok (.iload_n 3, 1) := by decide +kernel
theorem dX0_lawOf_8 : decode cX0_lawOf 8 = .ok (.iconst (-1), 1) := by decide +kernel
theorem dX0_lawOf_9 : decode cX0_lawOf 9 = .ok (.if_icmp .ne 7, 3) := by decide +kernel
theorem dX0_lawOf_12 : decode cX0_lawOf 12 = .ok (.aconst_null, 1) := by decide +kernel
theorem dX0_lawOf_13 : decode cX0_lawOf 13 = .ok (.goto 11, 3) := by decide +kernel
theorem dX0_lawOf_16 : decode cX0_lawOf 16 = .ok (.aload_n 0, 1) := by decide +kernel
theorem dX0_lawOf_17 : decode cX0_lawOf 17 = .ok (.getfield 37, 3) := by decide +kernel
theorem dX0_lawOf_20 : decode cX0_lawOf 20 = .ok (.iload_n 3, 1) := by decide +kernel
theorem dX0_lawOf_21 : decode cX0_lawOf 21 = .ok (.invokevirtual 76, 3) := by decide +kernel
theorem dX0_lawOf_24 : decode cX0_lawOf 24 = .ok (.areturn, 1) := by decide +kernel
theorem dX1_init_0 : decode cX1_init 0 = .ok (.aload_n 0, 1) := by decide +kernel
theorem dX1_init_1 : decode cX1_init 1 = .ok (.invokespecial 3, 3) := by decide +kernel
theorem dX1_init_4 : decode cX1_init 4 = .ok (.aload_n 0, 1) := by decide +kernel
theorem dX1_init_5 : decode cX1_init 5 = .ok (.new 9, 3) := by decide +kernel
theorem dX1_init_8 : decode cX1_init 8 = .ok (.dup, 1) := by decide +kernel
theorem dX1_init_9 : decode cX1_init 9 = .ok (.invokespecial 11, 3) := by decide +kernel
theorem dX1_init_12 : decode cX1_init 12 = .ok (.putfield 12, 3) := by decide +kernel
theorem dX1_init_15 : decode cX1_init 15 = .ok (.aload_n 0, 1) := by decide +kernel
theorem dX1_init_16 : decode cX1_init 16 = .ok (.bipush 10, 2) := by decide +kernel
theorem dX1_init_18 : decode cX1_init 18 = .ok (.anewarray 18, 3) := by decide +kernel
theorem dX1_init_21 : decode cX1_init 21 = .ok (.putfield 20, 3) := by decide +kernel
theorem dX1_init_24 : decode cX1_init 24 = .ok (.aload_n 0, 1) := by decide +kernel
theorem dX1_init_25 : decode cX1_init 25 = .ok (.new 18, 3) := by decide +kernel
theorem dX1_init_28 : decode cX1_init 28 = .ok (.dup, 1) := by decide +kernel
theorem dX1_init_29 : decode cX1_init 29 = .ok (.invokespecial 24, 3) := by decide +kernel
theorem dX1_init_32 : decode cX1_init 32 = .ok (.putfield 25, 3) := by decide +kernel
theorem dX1_init_35 : decode cX1_init 35 = .ok (.aload_n 0, 1) := by decide +kernel
theorem dX1_init_36 : decode cX1_init 36 = .ok (.bipush 50, 2) := by decide +kernel
theorem dX1_init_38 : decode cX1_init 38 = .ok (.newarray .long, 2) := by decide +kernel
theorem dX1_init_40 : decode cX1_init 40 = .ok (.putfield 29, 3) := by decide +kernel
theorem dX1_init_43 : decode cX1_init 43 = .ok (.iconst 0, 1) := by decide +kernel
theorem dX1_init_44 : decode cX1_init 44 = .ok (.istore_n 1, 1) := by decide +kernel
theorem dX1_init_45 : decode cX1_init 45 = .ok (.iload_n 1, 1) := by decide +kernel
theorem dX1_init_46 : decode cX1_init 46 = .ok (.bipush 10, 2) := by decide +kernel
theorem dX1_init_48 : decode cX1_init 48 = .ok (.if_icmp .ge 22, 3) := by decide +kernel
theorem dX1_init_51 : decode cX1_init 51 = .ok (.aload_n 0, 1) := by decide +kernel
theorem dX1_init_52 : decode cX1_init 52 = .ok (.getfield 20, 3) := by decide +kernel
theorem dX1_init_55 : decode cX1_init 55 = .ok (.iload_n 1, 1) := by decide +kernel
theorem dX1_init_56 : decode cX1_init 56 = .ok (.new 18, 3) := by decide +kernel
theorem dX1_init_59 : decode cX1_init 59 = .ok (.dup, 1) := by decide +kernel
theorem dX1_init_60 : decode cX1_init 60 = .ok (.invokespecial 24, 3) := by decide +kernel
theorem dX1_init_63 : decode cX1_init 63 = .ok (.aastore, 1) := by decide +kernel
theorem dX1_init_64 : decode cX1_init 64 = .ok (.iinc 1 1, 3) := by decide +kernel
theorem dX1_init_67 : decode cX1_init 67 = .ok (.goto (-22), 3) := by decide +kernel
theorem dX1_init_70 : decode cX1_init 70 = .ok (.return_, 1) := by decide +kernel
theorem dX1_unsettle_0 : decode cX1_unsettle 0 = .ok (.aload_n 0, 1) := by decide +kernel
theorem dX1_unsettle_1 : decode cX1_unsettle 1 = .ok (.aload_n 0, 1) := by decide +kernel
theorem dX1_unsettle_2 : decode cX1_unsettle 2 = .ok (.getfield 33, 3) := by decide +kernel
theorem dX1_unsettle_5 : decode cX1_unsettle 5 = .ok (.iload_n 1, 1) := by decide +kernel
theorem dX1_unsettle_6 : decode cX1_unsettle 6 = .ok (.invokestatic 37, 3) := by decide +kernel
theorem dX1_unsettle_9 : decode cX1_unsettle 9 = .ok (.putfield 33, 3) := by decide +kernel
theorem dX1_unsettle_12 : decode cX1_unsettle 12 = .ok (.return_, 1) := by decide +kernel
theorem dX1_settle_0 : decode cX1_settle 0 = .ok (.aload_n 0, 1) := by decide +kernel
theorem dX1_settle_1 : decode cX1_settle 1 = .ok (.getfield 33, 3) := by decide +kernel
theorem dX1_settle_4 : decode cX1_settle 4 = .ok (.istore_n 1, 1) := by decide +kernel
theorem dX1_settle_5 : decode cX1_settle 5 = .ok (.iload_n 1, 1) := by decide +kernel
theorem dX1_settle_6 : decode cX1_settle 6 = .ok (.aload_n 0, 1) := by decide +kernel
theorem dX1_settle_7 : decode cX1_settle 7 = .ok (.getfield 12, 3) := by decide +kernel
theorem dX1_settle_10 : decode cX1_settle 10 = .ok (.getfield 43, 3) := by decide +kernel
theorem dX1_settle_13 : decode cX1_settle 13 = .ok (.invokevirtual 47, 3) := by decide +kernel
theorem dX1_settle_16 : decode cX1_settle 16 = .ok (.if_icmp .ge 50, 3) := by decide +kernel
theorem dX1_settle_19 : decode cX1_settle 19 = .ok (.aload_n 0, 1) := by decide +kernel
theorem dX1_settle_20 : decode cX1_settle 20 = .ok (.getfield 12, 3) := by decide +kernel
theorem dX1_settle_23 : decode cX1_settle 23 = .ok (.getfield 43, 3) := by decide +kernel
theorem dX1_settle_26 : decode cX1_settle 26 = .ok (.iload_n 1, 1) := by decide +kernel
theorem dX1_settle_27 : decode cX1_settle 27 = .ok (.iconst 0, 1) := by decide +kernel
theorem dX1_settle_28 : decode cX1_settle 28 = .ok (.invokevirtual 53, 3) := by decide +kernel
theorem dX1_settle_31 : decode cX1_settle 31 = .ok (.istore_n 2, 1) := by decide +kernel
theorem dX1_settle_32 : decode cX1_settle 32 = .ok (.aload_n 0, 1) := by decide +kernel
theorem dX1_settle_33 : decode cX1_settle 33 = .ok (.iload_n 1, 1) := by decide +kernel
theorem dX1_settle_34 : decode cX1_settle 34 = .ok (.aload_n 0, 1) := by decide +kernel
theorem dX1_settle_35 : decode cX1_settle 35 = .ok (.iload_n 1, 1) := by decide +kernel
theorem dX1_settle_36 : decode cX1_settle 36 = .ok (.invokevirtual 56, 3) := by decide +kernel
theorem dX1_settle_39 : decode cX1_settle 39 = .ok (.aload_n 0, 1) := by decide +kernel
theorem dX1_settle_40 : decode cX1_settle 40 = .ok (.getfield 12, 3) := by decide +kernel
theorem dX1_settle_43 : decode cX1_settle 43 = .ok (.iconst 0, 1) := by decide +kernel
theorem dX1_settle_44 : decode cX1_settle 44 = .ok (.iload_n 2, 1) := by decide +kernel
theorem dX1_settle_45 : decode cX1_settle 45 = .ok (.invokevirtual 60, 3) := by decide +kernel
theorem dX1_settle_48 : decode cX1_settle 48 = .ok (.aload_n 0, 1) := by decide +kernel
theorem dX1_settle_49 : decode cX1_settle 49 = .ok (.getfield 12, 3) := by decide +kernel
theorem dX1_settle_52 : decode cX1_settle 52 = .ok (.iconst 1, 1) := by decide +kernel
theorem dX1_settle_53 : decode cX1_settle 53 = .ok (.iload_n 2, 1) := by decide +kernel
theorem dX1_settle_54 : decode cX1_settle 54 = .ok (.invokevirtual 60, 3) := by decide +kernel
theorem dX1_settle_57 : decode cX1_settle 57 = .ok (.invokevirtual 64, 3) := by decide +kernel
theorem dX1_settle_60 : decode cX1_settle 60 = .ok (.iinc 1 1, 3) := by decide +kernel
theorem dX1_settle_63 : decode cX1_settle 63 = .ok (.goto (-58), 3) := by decide +kernel
theorem dX1_settle_66 : decode cX1_settle 66 = .ok (.aload_n 0, 1) := by decide +kernel
theorem dX1_settle_67 : decode cX1_settle 67 = .ok (.aload_n 0, 1) := by decide +kernel
theorem dX1_settle_68 : decode cX1_settle 68 = .ok (.getfield 12, 3) := by decide +kernel
theorem dX1_settle_71 : decode cX1_settle 71 = .ok (.getfield 43, 3) := by decide +kernel
theorem dX1_settle_74 : decode cX1_settle 74 = .ok (.invokevirtual 47, 3) := by decide +kernel
theorem dX1_settle_77 : decode cX1_settle 77 = .ok (.putfield 33, 3) := by decide +kernel
theorem dX1_settle_80 : decode cX1_settle 80 = .ok (.return_, 1) := by decide +kernel
theorem dX1_truths_0 : decode cX1_truths 0 = .ok (.aload_n 1, 1) := by decide +kernel
theorem dX1_truths_1 : decode cX1_truths 1 = .ok (.ifnonnull 14, 3) := by decide +kernel
theorem dX1_truths_4 : decode cX1_truths 4 = .ok (.iload_n 2, 1) := by decide +kernel
theorem dX1_truths_5 : decode cX1_truths 5 = .ok (.ifCond .ne 8, 3) := by decide +kernel
theorem dX1_truths_8 : decode cX1_truths 8 = .ok (.iload 4, 2) := by decide +kernel
theorem dX1_truths_10 : decode cX1_truths 10 = .ok (.goto 4, 3) := by decide +kernel
theorem dX1_truths_13 : decode cX1_truths 13 = .ok (.iconst 0, 1) := by decide +kernel
theorem dX1_truths_14 : decode cX1_truths 14 = .ok (.ireturn, 1) := by decide +kernel
theorem dX1_truths_15 : decode cX1_truths 15 = .ok (.iconst 0, 1) := by decide +kernel
theorem dX1_truths_16 : decode cX1_truths 16 = .ok (.istore 5, 2) := by decide +kernel
theorem dX1_truths_18 : decode cX1_truths 18 = .ok (.iconst 0, 1) := by decide +kernel
theorem dX1_truths_19 : decode cX1_truths 19 = .ok (.istore 6, 2) := by decide +kernel
theorem dX1_truths_21 : decode cX1_truths 21 = .ok (.iload 6, 2) := by decide +kernel
theorem dX1_truths_23 : decode cX1_truths 23 = .ok (.aload_n 0, 1) := by decide +kernel
theorem dX1_truths_24 : decode cX1_truths 24 = .ok (.getfield 12, 3) := by decide +kernel
theorem dX1_truths_27 : decode cX1_truths 27 = .ok (.getfield 110, 3) := by decide +kernel
theorem dX1_truths_30 : decode cX1_truths 30 = .ok (.invokevirtual 47, 3) := by decide +kernel
theorem dX1_truths_33 : decode cX1_truths 33 = .ok (.if_icmp .ge 41, 3) := by decide +kernel
theorem dX1_truths_36 : decode cX1_truths 36 = .ok (.iload 4, 2) := by decide +kernel
theorem dX1_truths_38 : decode cX1_truths 38 = .ok (.iload 6, 2) := by decide +kernel
theorem dX1_truths_40 : decode cX1_truths 40 = .ok (.invokestatic 113, 3) := by decide +kernel
theorem dX1_truths_43 : decode cX1_truths 43 = .ok (.ifCond .eq 25, 3) := by decide +kernel
theorem dX1_truths_46 : decode cX1_truths 46 = .ok (.aload_n 0, 1) := by decide +kernel
theorem dX1_truths_47 : decode cX1_truths 47 = .ok (.aload_n 1, 1) := by decide +kernel
theorem dX1_truths_48 : decode cX1_truths 48 = .ok (.iload 6, 2) := by decide +kernel
theorem dX1_truths_50 : decode cX1_truths 50 = .ok (.iload_n 3, 1) := by decide +kernel
theorem dX1_truths_51 : decode cX1_truths 51 = .ok (.invokevirtual 116, 3) := by decide +kernel
theorem dX1_truths_54 : decode cX1_truths 54 = .ok (.lconst 0, 1) := by decide +kernel
theorem dX1_truths_55 : decode cX1_truths 55 = .ok (.lcmp, 1) := by decide +kernel
theorem dX1_truths_56 : decode cX1_truths 56 = .ok (.ifCond .eq 12, 3) := by decide +kernel
theorem dX1_truths_59 : decode cX1_truths 59 = .ok (.iload 5, 2) := by decide +kernel
theorem dX1_truths_61 : decode cX1_truths 61 = .ok (.iconst 1, 1) := by decide +kernel
theorem dX1_truths_62 : decode cX1_truths 62 = .ok (.iload 6, 2) := by decide +kernel
theorem dX1_truths_64 : decode cX1_truths 64 = .ok (.ishl, 1) := by decide +kernel
theorem dX1_truths_65 : decode cX1_truths 65 = .ok (.ior, 1) := by decide +kernel
theorem dX1_truths_66 : decode cX1_truths 66 = .ok (.istore 5, 2) := by decide +kernel
theorem dX1_truths_68 : decode cX1_truths 68 = .ok (.iinc 6 1, 3) := by decide +kernel
theorem dX1_truths_71 : decode cX1_truths 71 = .ok (.goto (-50), 3) := by decide +kernel
theorem dX1_truths_74 : decode cX1_truths 74 = .ok (.iload 5, 2) := by decide +kernel
theorem dX1_truths_76 : decode cX1_truths 76 = .ok (.ireturn, 1) := by decide +kernel
theorem dX1_nextInTurn_0 : decode cX1_nextInTurn 0 = .ok (.iconst (-1), 1) := by decide +kernel
theorem dX1_nextInTurn_1 : decode cX1_nextInTurn 1 = .ok (.istore_n 3, 1) := by decide +kernel
theorem dX1_nextInTurn_2 : decode cX1_nextInTurn 2 = .ok (.iconst 0, 1) := by decide +kernel
theorem dX1_nextInTurn_3 : decode cX1_nextInTurn 3 = .ok (.istore 4, 2) := by decide +kernel
theorem dX1_nextInTurn_5 : decode cX1_nextInTurn 5 = .ok (.iload 4, 2) := by decide +kernel
theorem dX1_nextInTurn_7 : decode cX1_nextInTurn 7 = .ok (.aload_n 0, 1) := by decide +kernel
theorem dX1_nextInTurn_8 : decode cX1_nextInTurn 8 = .ok (.getfield 12, 3) := by decide +kernel
theorem dX1_nextInTurn_11 : decode cX1_nextInTurn 11 = .ok (.getfield 110, 3) := by decide +kernel
theorem dX1_nextInTurn_14 : decode cX1_nextInTurn 14 = .ok (.invokevirtual 47, 3) := by decide +kernel
theorem dX1_nextInTurn_17 : decode cX1_nextInTurn 17 = .ok (.if_icmp .ge 37, 3) := by decide +kernel
theorem dX1_nextInTurn_20 : decode cX1_nextInTurn 20 = .ok (.iload_n 1, 1) := by decide +kernel
theorem dX1_nextInTurn_21 : decode cX1_nextInTurn 21 = .ok (.iload 4, 2) := by decide +kernel
theorem dX1_nextInTurn_23 : decode cX1_nextInTurn 23 = .ok (.invokestatic 113, 3) := by decide +kernel
theorem dX1_nextInTurn_26 : decode cX1_nextInTurn 26 = .ok (.ifCond .eq 22, 3) := by decide +kernel
theorem dX1_nextInTurn_29 : decode cX1_nextInTurn 29 = .ok (.iload_n 3, 1) := by decide +kernel
theorem dX1_nextInTurn_30 : decode cX1_nextInTurn 30 = .ok (.iconst (-1), 1) := by decide +kernel
theorem dX1_nextInTurn_31 : decode cX1_nextInTurn 31 = .ok (.if_icmp .eq 14, 3) := by decide +kernel
theorem dX1_nextInTurn_34 : decode cX1_nextInTurn 34 = .ok (.aload_n 0, 1) := by decide +kernel
theorem dX1_nextInTurn_35 : decode cX1_nextInTurn 35 = .ok (.iload 4, 2) := by decide +kernel
theorem dX1_nextInTurn_37 : decode cX1_nextInTurn 37 = .ok (.iload_n 3, 1) := by decide +kernel
theorem dX1_nextInTurn_38 : decode cX1_nextInTurn 38 = .ok (.iload_n 2, 1) := by decide +kernel
theorem dX1_nextInTurn_39 : decode cX1_nextInTurn 39 = .ok (.invokevirtual 154, 3) := by decide +kernel
theorem dX1_nextInTurn_42 : decode cX1_nextInTurn 42 = .ok (.ifCond .eq 6, 3) := by decide +kernel
theorem dX1_nextInTurn_45 : decode cX1_nextInTurn 45 = .ok (.iload 4, 2) := by decide +kernel
theorem dX1_nextInTurn_47 : decode cX1_nextInTurn 47 = .ok (.istore_n 3, 1) := by decide +kernel
theorem dX1_nextInTurn_48 : decode cX1_nextInTurn 48 = .ok (.iinc 4 1, 3) := by decide +kernel
theorem dX1_nextInTurn_51 : decode cX1_nextInTurn 51 = .ok (.goto (-46), 3) := by decide +kernel
theorem dX1_nextInTurn_54 : decode cX1_nextInTurn 54 = .ok (.iload_n 3, 1) := by decide +kernel
theorem dX1_nextInTurn_55 : decode cX1_nextInTurn 55 = .ok (.ireturn, 1) := by decide +kernel
theorem dX1_sworn_0 : decode cX1_sworn 0 = .ok (.iconst 0, 1) := by decide +kernel
theorem dX1_sworn_1 : decode cX1_sworn 1 = .ok (.istore_n 1, 1) := by decide +kernel
theorem dX1_sworn_2 : decode cX1_sworn 2 = .ok (.iconst 0, 1) := by decide +kernel
theorem dX1_sworn_3 : decode cX1_sworn 3 = .ok (.istore_n 2, 1) := by decide +kernel
theorem dX1_sworn_4 : decode cX1_sworn 4 = .ok (.iload_n 2, 1) := by decide +kernel
theorem dX1_sworn_5 : decode cX1_sworn 5 = .ok (.aload_n 0, 1) := by decide +kernel
theorem dX1_sworn_6 : decode cX1_sworn 6 = .ok (.getfield 12, 3) := by decide +kernel
theorem dX1_sworn_9 : decode cX1_sworn 9 = .ok (.getfield 43, 3) := by decide +kernel
theorem dX1_sworn_12 : decode cX1_sworn 12 = .ok (.invokevirtual 47, 3) := by decide +kernel
theorem dX1_sworn_15 : decode cX1_sworn 15 = .ok (.if_icmp .ge 23, 3) := by decide +kernel
theorem dX1_sworn_18 : decode cX1_sworn 18 = .ok (.aload_n 0, 1) := by decide +kernel
theorem dX1_sworn_19 : decode cX1_sworn 19 = .ok (.iload_n 2, 1) := by decide +kernel
theorem dX1_sworn_20 : decode cX1_sworn 20 = .ok (.invokevirtual 56, 3) := by decide +kernel
theorem dX1_sworn_23 : decode cX1_sworn 23 = .ok (.getfield 107, 3) := by decide +kernel
theorem dX1_sworn_26 : decode cX1_sworn 26 = .ok (.ifCond .eq 6, 3) := by decide +kernel
theorem dX1_sworn_29 : decode cX1_sworn 29 = .ok (.iinc 1 1, 3) := by decide +kernel
theorem dX1_sworn_32 : decode cX1_sworn 32 = .ok (.iinc 2 1, 3) := by decide +kernel
theorem dX1_sworn_35 : decode cX1_sworn 35 = .ok (.goto (-31), 3) := by decide +kernel
theorem dX1_sworn_38 : decode cX1_sworn 38 = .ok (.iload_n 1, 1) := by decide +kernel
theorem dX1_sworn_39 : decode cX1_sworn 39 = .ok (.ireturn, 1) := by decide +kernel
theorem dX2_init_0 : decode cX2_init 0 = .ok (.aload_n 0, 1) := by decide +kernel
theorem dX2_init_1 : decode cX2_init 1 = .ok (.invokespecial 1, 3) := by decide +kernel
theorem dX2_init_4 : decode cX2_init 4 = .ok (.aload_n 0, 1) := by decide +kernel
theorem dX2_init_5 : decode cX2_init 5 = .ok (.lconst 0, 1) := by decide +kernel
theorem dX2_init_6 : decode cX2_init 6 = .ok (.putfield 7, 3) := by decide +kernel
theorem dX2_init_9 : decode cX2_init 9 = .ok (.aload_n 0, 1) := by decide +kernel
theorem dX2_init_10 : decode cX2_init 10 = .ok (.lconst 1, 1) := by decide +kernel
theorem dX2_init_11 : decode cX2_init 11 = .ok (.putfield 13, 3) := by decide +kernel
theorem dX2_init_14 : decode cX2_init 14 = .ok (.return_, 1) := by decide +kernel
theorem dX2_become_0 : decode cX2_become 0 = .ok (.lload_n 1, 1) := by decide +kernel
theorem dX2_become_1 : decode cX2_become 1 = .ok (.lload_n 3, 1) := by decide +kernel
theorem dX2_become_2 : decode cX2_become 2 = .ok (.invokestatic 16, 3) := by decide +kernel
theorem dX2_become_5 : decode cX2_become 5 = .ok (.lstore 5, 2) := by decide +kernel
theorem dX2_become_7 : decode cX2_become 7 = .ok (.lload_n 1, 1) := by decide +kernel
theorem dX2_become_8 : decode cX2_become 8 = .ok (.lconst 0, 1) := by decide +kernel
theorem dX2_become_9 : decode cX2_become 9 = .ok (.lcmp, 1) := by decide +kernel
theorem dX2_become_10 : decode cX2_become 10 = .ok (.ifCond .le 16, 3) := by decide +kernel
theorem dX2_become_13 : decode cX2_become 13 = .ok (.lload_n 3, 1) := by decide +kernel
theorem dX2_become_14 : decode cX2_become 14 = .ok (.lconst 0, 1) := by decide +kernel
theorem dX2_become_15 : decode cX2_become 15 = .ok (.lcmp, 1) := by decide +kernel
theorem dX2_become_16 : decode cX2_become 16 = .ok (.ifCond .le 10, 3) := by decide +kernel
theorem dX2_become_19 : decode cX2_become 19 = .ok (.lload 5, 2) := by decide +kernel
theorem dX2_become_21 : decode cX2_become 21 = .ok (.lconst 0, 1) := by decide +kernel
theorem dX2_become_22 : decode cX2_become 22 = .ok (.lcmp, 1) := by decide +kernel
theorem dX2_become_23 : decode cX2_become 23 = .ok (.ifCond .gt 15, 3) := by decide +kernel
theorem dX2_become_26 : decode cX2_become 26 = .ok (.aload_n 0, 1) := by decide +kernel
theorem dX2_become_27 : decode cX2_become 27 = .ok (.lconst 0, 1) := by decide +kernel
theorem dX2_become_28 : decode cX2_become 28 = .ok (.putfield 7, 3) := by decide +kernel
theorem dX2_become_31 : decode cX2_become 31 = .ok (.aload_n 0, 1) := by decide +kernel
theorem dX2_become_32 : decode cX2_become 32 = .ok (.lconst 1, 1) := by decide +kernel
theorem dX2_become_33 : decode cX2_become 33 = .ok (.putfield 13, 3) := by decide +kernel
theorem dX2_become_36 : decode cX2_become 36 = .ok (.iconst 0, 1) := by decide +kernel
theorem dX2_become_37 : decode cX2_become 37 = .ok (.ireturn, 1) := by decide +kernel
theorem dX2_become_38 : decode cX2_become 38 = .ok (.aload_n 0, 1) := by decide +kernel
theorem dX2_become_39 : decode cX2_become 39 = .ok (.lload_n 1, 1) := by decide +kernel
theorem dX2_become_40 : decode cX2_become 40 = .ok (.lload 5, 2) := by decide +kernel
theorem dX2_become_42 : decode cX2_become 42 = .ok (.ldiv, 1) := by decide +kernel
theorem dX2_become_43 : decode cX2_become 43 = .ok (.putfield 7, 3) := by decide +kernel
theorem dX2_become_46 : decode cX2_become 46 = .ok (.aload_n 0, 1) := by decide +kernel
theorem dX2_become_47 : decode cX2_become 47 = .ok (.lload_n 3, 1) := by decide +kernel
theorem dX2_become_48 : decode cX2_become 48 = .ok (.lload 5, 2) := by decide +kernel
theorem dX2_become_50 : decode cX2_become 50 = .ok (.ldiv, 1) := by decide +kernel
theorem dX2_become_51 : decode cX2_become 51 = .ok (.putfield 13, 3) := by decide +kernel
theorem dX2_become_54 : decode cX2_become 54 = .ok (.iconst 1, 1) := by decide +kernel
theorem dX2_become_55 : decode cX2_become 55 = .ok (.ireturn, 1) := by decide +kernel
theorem dX2_commonDivisor_0 : decode cX2_commonDivisor 0 = .ok (.lload_n 0, 1) := by decide +kernel
theorem dX2_commonDivisor_1 : decode cX2_commonDivisor 1 = .ok (.lstore 4, 2) := by decide +kernel
theorem dX2_commonDivisor_3 : decode cX2_commonDivisor 3 = .ok (.lload_n 2, 1) := by decide +kernel
theorem dX2_commonDivisor_4 : decode cX2_commonDivisor 4 = .ok (.lstore 6, 2) := by decide +kernel
theorem dX2_commonDivisor_6 : decode cX2_commonDivisor 6 = .ok (.iconst 0, 1) := by decide +kernel
theorem dX2_commonDivisor_7 : decode cX2_commonDivisor 7 = .ok (.istore 8, 2) := by decide +kernel
theorem dX2_commonDivisor_9 : decode cX2_commonDivisor 9 = .ok (.iload 8, 2) := by decide +kernel
theorem dX2_commonDivisor_11 : decode cX2_commonDivisor 11 = .ok (.sipush 200, 3) := by decide +kernel
theorem dX2_commonDivisor_14 : decode cX2_commonDivisor 14 = .ok (.if_icmp .ge 31, 3) := by decide +kernel
theorem dX2_commonDivisor_17 : decode cX2_commonDivisor 17 = .ok (.lload 6, 2) := by decide +kernel
theorem dX2_commonDivisor_19 : decode cX2_commonDivisor 19 = .ok (.lconst 0, 1) := by decide +kernel
theorem dX2_commonDivisor_20 : decode cX2_commonDivisor 20 = .ok (.lcmp, 1) := by decide +kernel
theorem dX2_commonDivisor_21 : decode cX2_commonDivisor 21 = .ok (.ifCond .eq 24, 3) := by decide +kernel
theorem dX2_commonDivisor_24 : decode cX2_commonDivisor 24 = .ok (.lload 4, 2) := by decide +kernel
theorem dX2_commonDivisor_26 : decode cX2_commonDivisor 26 = .ok (.lload 6, 2) := by decide +kernel
theorem dX2_commonDivisor_28 : decode cX2_commonDivisor 28 = .ok (.lrem, 1) := by decide +kernel
theorem dX2_commonDivisor_29 : decode cX2_commonDivisor 29 = .ok (.lstore 9, 2) := by decide +kernel
theorem dX2_commonDivisor_31 : decode cX2_commonDivisor 31 = .ok (.lload 6, 2) := by decide +kernel
theorem dX2_commonDivisor_33 : decode cX2_commonDivisor 33 = .ok (.lstore 4, 2) := by decide +kernel
theorem dX2_commonDivisor_35 : decode cX2_commonDivisor 35 = .ok (.lload 9, 2) := by decide +kernel
theorem dX2_commonDivisor_37 : decode cX2_commonDivisor 37 = .ok (.lstore 6, 2) := by decide +kernel
theorem dX2_commonDivisor_39 : decode cX2_commonDivisor 39 = .ok (.iinc 8 1, 3) := by decide +kernel
theorem dX2_commonDivisor_42 : decode cX2_commonDivisor 42 = .ok (.goto (-33), 3) := by decide +kernel
theorem dX2_commonDivisor_45 : decode cX2_commonDivisor 45 = .ok (.lload 4, 2) := by decide +kernel
theorem dX2_commonDivisor_47 : decode cX2_commonDivisor 47 = .ok (.lreturn, 1) := by decide +kernel
theorem dX3_init_0 : decode cX3_init 0 = .ok (.aload_n 0, 1) := by decide +kernel
theorem dX3_init_1 : decode cX3_init 1 = .ok (.invokespecial 3, 3) := by decide +kernel
theorem dX3_init_4 : decode cX3_init 4 = .ok (.aload_n 0, 1) := by decide +kernel
theorem dX3_init_5 : decode cX3_init 5 = .ok (.bipush 24, 2) := by decide +kernel
theorem dX3_init_7 : decode cX3_init 7 = .ok (.newarray .int, 2) := by decide +kernel
theorem dX3_init_9 : decode cX3_init 9 = .ok (.putfield 9, 3) := by decide +kernel
theorem dX3_init_12 : decode cX3_init 12 = .ok (.return_, 1) := by decide +kernel
theorem dX4_init_0 : decode cX4_init 0 = .ok (.aload_n 0, 1) := by decide +kernel
theorem dX4_init_1 : decode cX4_init 1 = .ok (.invokespecial 3, 3) := by decide +kernel
theorem dX4_init_4 : decode cX4_init 4 = .ok (.aload_n 0, 1) := by decide +kernel
theorem dX4_init_5 : decode cX4_init 5 = .ok (.bipush 50, 2) := by decide +kernel
theorem dX4_init_7 : decode cX4_init 7 = .ok (.newarray .int, 2) := by decide +kernel
theorem dX4_init_9 : decode cX4_init 9 = .ok (.putfield 9, 3) := by decide +kernel
theorem dX4_init_12 : decode cX4_init 12 = .ok (.return_, 1) := by decide +kernel
theorem dX4_read_0 : decode cX4_read 0 = .ok (.aload_n 1, 1) := by decide +kernel
theorem dX4_read_1 : decode cX4_read 1 = .ok (.invokevirtual 15, 3) := by decide +kernel
theorem dX4_read_4 : decode cX4_read 4 = .ok (.aload_n 0, 1) := by decide +kernel
theorem dX4_read_5 : decode cX4_read 5 = .ok (.iconst 0, 1) := by decide +kernel
theorem dX4_read_6 : decode cX4_read 6 = .ok (.putfield 20, 3) := by decide +kernel
theorem dX4_read_9 : decode cX4_read 9 = .ok (.aload_n 0, 1) := by decide +kernel
theorem dX4_read_10 : decode cX4_read 10 = .ok (.iconst 0, 1) := by decide +kernel
theorem dX4_read_11 : decode cX4_read 11 = .ok (.putfield 24, 3) := by decide +kernel
theorem dX4_read_14 : decode cX4_read 14 = .ok (.aload_n 0, 1) := by decide +kernel
theorem dX4_read_15 : decode cX4_read 15 = .ok (.iconst 0, 1) := by decide +kernel
theorem dX4_read_16 : decode cX4_read 16 = .ok (.putfield 27, 3) := by decide +kernel
theorem dX4_read_19 : decode cX4_read 19 = .ok (.aload_n 0, 1) := by decide +kernel
theorem dX4_read_20 : decode cX4_read 20 = .ok (.iconst 1, 1) := by decide +kernel
theorem dX4_read_21 : decode cX4_read 21 = .ok (.putfield 30, 3) := by decide +kernel
theorem dX4_read_24 : decode cX4_read 24 = .ok (.iconst 0, 1) := by decide +kernel
theorem dX4_read_25 : decode cX4_read 25 = .ok (.istore_n 2, 1) := by decide +kernel
theorem dX4_read_26 : decode cX4_read 26 = .ok (.iload_n 2, 1) := by decide +kernel
theorem dX4_read_27 : decode cX4_read 27 = .ok (.aload_n 1, 1) := by decide +kernel
theorem dX4_read_28 : decode cX4_read 28 = .ok (.invokevirtual 34, 3) := by decide +kernel
theorem dX4_read_31 : decode cX4_read 31 = .ok (.if_icmp .ge 150, 3) := by decide +kernel
theorem dX4_read_34 : decode cX4_read 34 = .ok (.aload_n 1, 1) := by decide +kernel
theorem dX4_read_35 : decode cX4_read 35 = .ok (.iload_n 2, 1) := by decide +kernel
theorem dX4_read_36 : decode cX4_read 36 = .ok (.invokevirtual 38, 3) := by decide +kernel
theorem dX4_read_39 : decode cX4_read 39 = .ok (.istore_n 3, 1) := by decide +kernel
theorem dX4_read_40 : decode cX4_read 40 = .ok (.aload_n 0, 1) := by decide +kernel
theorem dX4_read_41 : decode cX4_read 41 = .ok (.getfield 30, 3) := by decide +kernel
theorem dX4_read_44 : decode cX4_read 44 = .ok (.ifCond .eq 61, 3) := by decide +kernel
theorem dX4_read_47 : decode cX4_read 47 = .ok (.iload_n 3, 1) := by decide +kernel
theorem dX4_read_48 : decode cX4_read 48 = .ok (.invokestatic 42, 3) := by decide +kernel
theorem dX4_read_51 : decode cX4_read 51 = .ok (.ifCond .eq 54, 3) := by decide +kernel
theorem dX4_read_54 : decode cX4_read 54 = .ok (.aload_n 1, 1) := by decide +kernel
theorem dX4_read_55 : decode cX4_read 55 = .ok (.iload_n 2, 1) := by decide +kernel
theorem dX4_read_56 : decode cX4_read 56 = .ok (.invokestatic 46, 3) := by decide +kernel
theorem dX4_read_59 : decode cX4_read 59 = .ok (.istore 4, 2) := by decide +kernel
theorem dX4_read_61 : decode cX4_read 61 = .ok (.iload 4, 2) := by decide +kernel
theorem dX4_read_63 : decode cX4_read 63 = .ok (.iload_n 2, 1) := by decide +kernel
theorem dX4_read_64 : decode cX4_read 64 = .ok (.isub, 1) := by decide +kernel
theorem dX4_read_65 : decode cX4_read 65 = .ok (.bipush 6, 2) := by decide +kernel
theorem dX4_read_67 : decode cX4_read 67 = .ok (.if_icmp .le 10, 3) := by decide +kernel
theorem dX4_read_70 : decode cX4_read 70 = .ok (.bipush 10, 2) := by decide +kernel
theorem dX4_read_72 : decode cX4_read 72 = .ok (.iload_n 2, 1) := by decide +kernel
theorem dX4_read_73 : decode cX4_read 73 = .ok (.imul, 1) := by decide +kernel
theorem dX4_read_74 : decode cX4_read 74 = .ok (.iconst 2, 1) := by decide +kernel
theorem dX4_read_75 : decode cX4_read 75 = .ok (.iadd, 1) := by decide +kernel
theorem dX4_read_76 : decode cX4_read 76 = .ok (.ireturn, 1) := by decide +kernel
theorem dX4_read_77 : decode cX4_read 77 = .ok (.aload_n 1, 1) := by decide +kernel
theorem dX4_read_78 : decode cX4_read 78 = .ok (.aload_n 1, 1) := by decide +kernel
theorem dX4_read_79 : decode cX4_read 79 = .ok (.iload_n 2, 1) := by decide +kernel
theorem dX4_read_80 : decode cX4_read 80 = .ok (.iload 4, 2) := by decide +kernel
theorem dX4_read_82 : decode cX4_read 82 = .ok (.invokestatic 50, 3) := by decide +kernel
theorem dX4_read_85 : decode cX4_read 85 = .ok (.invokevirtual 54, 3) := by decide +kernel
theorem dX4_read_88 : decode cX4_read 88 = .ok (.aload_n 0, 1) := by decide +kernel
theorem dX4_read_89 : decode cX4_read 89 = .ok (.iconst 0, 1) := by decide +kernel
theorem dX4_read_90 : decode cX4_read 90 = .ok (.putfield 30, 3) := by decide +kernel
theorem dX4_read_93 : decode cX4_read 93 = .ok (.iload_n 2, 1) := by decide +kernel
theorem dX4_read_94 : decode cX4_read 94 = .ok (.iload 4, 2) := by decide +kernel
theorem dX4_read_96 : decode cX4_read 96 = .ok (.iconst 1, 1) := by decide +kernel
theorem dX4_read_97 : decode cX4_read 97 = .ok (.isub, 1) := by decide +kernel
theorem dX4_read_98 : decode cX4_read 98 = .ok (.invokestatic 58, 3) := by decide +kernel
theorem dX4_read_101 : decode cX4_read 101 = .ok (.istore_n 2, 1) := by decide +kernel
theorem dX4_read_102 : decode cX4_read 102 = .ok (.goto 73, 3) := by decide +kernel
theorem dX4_read_105 : decode cX4_read 105 = .ok (.aload_n 0, 1) := by decide +kernel
theorem dX4_read_106 : decode cX4_read 106 = .ok (.getfield 30, 3) := by decide +kernel
theorem dX4_read_109 : decode cX4_read 109 = .ok (.ifCond .eq 25, 3) := by decide +kernel
theorem dX4_read_112 : decode cX4_read 112 = .ok (.iload_n 3, 1) := by decide +kernel
theorem dX4_read_113 : decode cX4_read 113 = .ok (.bipush 40, 2) := by decide +kernel
theorem dX4_read_115 : decode cX4_read 115 = .ok (.if_icmp .ne 19, 3) := by decide +kernel
theorem dX4_read_118 : decode cX4_read 118 = .ok (.aload_n 0, 1) := by decide +kernel
theorem dX4_read_119 : decode cX4_read 119 = .ok (.getfield 24, 3) := by decide +kernel
theorem dX4_read_122 : decode cX4_read 122 = .ok (.bipush 8, 2) := by decide +kernel
theorem dX4_read_124 : decode cX4_read 124 = .ok (.if_icmp .lt 10, 3) := by decide +kernel
theorem dX4_read_127 : decode cX4_read 127 = .ok (.bipush 10, 2) := by decide +kernel
theorem dX4_read_129 : decode cX4_read 129 = .ok (.iload_n 2, 1) := by decide +kernel
theorem dX4_read_130 : decode cX4_read 130 = .ok (.imul, 1) := by decide +kernel
theorem dX4_read_131 : decode cX4_read 131 = .ok (.iconst 3, 1) := by decide +kernel
theorem dX4_read_132 : decode cX4_read 132 = .ok (.iadd, 1) := by decide +kernel
theorem dX4_read_133 : decode cX4_read 133 = .ok (.ireturn, 1) := by decide +kernel
theorem dX4_read_134 : decode cX4_read 134 = .ok (.iload_n 3, 1) := by decide +kernel
theorem dX4_read_135 : decode cX4_read 135 = .ok (.bipush 32, 2) := by decide +kernel
theorem dX4_read_137 : decode cX4_read 137 = .ok (.if_icmp .eq 38, 3) := by decide +kernel
theorem dX4_read_140 : decode cX4_read 140 = .ok (.aload_n 0, 1) := by decide +kernel
theorem dX4_read_141 : decode cX4_read 141 = .ok (.getfield 30, 3) := by decide +kernel
theorem dX4_read_144 : decode cX4_read 144 = .ok (.ifCond .eq 15, 3) := by decide +kernel
theorem dX4_read_147 : decode cX4_read 147 = .ok (.aload_n 0, 1) := by decide +kernel
theorem dX4_read_148 : decode cX4_read 148 = .ok (.aload_n 1, 1) := by decide +kernel
theorem dX4_read_149 : decode cX4_read 149 = .ok (.iload_n 3, 1) := by decide +kernel
theorem dX4_read_150 : decode cX4_read 150 = .ok (.invokevirtual 64, 3) := by decide +kernel
theorem dX4_read_153 : decode cX4_read 153 = .ok (.ifCond .eq 15, 3) := by decide +kernel
theorem dX4_read_156 : decode cX4_read 156 = .ok (.goto 19, 3) := by decide +kernel
theorem dX4_read_159 : decode cX4_read 159 = .ok (.aload_n 0, 1) := by decide +kernel
theorem dX4_read_160 : decode cX4_read 160 = .ok (.aload_n 1, 1) := by decide +kernel
theorem dX4_read_161 : decode cX4_read 161 = .ok (.iload_n 3, 1) := by decide +kernel
theorem dX4_read_162 : decode cX4_read 162 = .ok (.invokevirtual 68, 3) := by decide +kernel
theorem dX4_read_165 : decode cX4_read 165 = .ok (.ifCond .ne 10, 3) := by decide +kernel
theorem dX4_read_168 : decode cX4_read 168 = .ok (.bipush 10, 2) := by decide +kernel
theorem dX4_read_170 : decode cX4_read 170 = .ok (.iload_n 2, 1) := by decide +kernel
theorem dX4_read_171 : decode cX4_read 171 = .ok (.imul, 1) := by decide +kernel
theorem dX4_read_172 : decode cX4_read 172 = .ok (.iconst 1, 1) := by decide +kernel
theorem dX4_read_173 : decode cX4_read 173 = .ok (.iadd, 1) := by decide +kernel
theorem dX4_read_174 : decode cX4_read 174 = .ok (.ireturn, 1) := by decide +kernel
theorem dX4_read_175 : decode cX4_read 175 = .ok (.iinc 2 1, 3) := by decide +kernel
theorem dX4_read_178 : decode cX4_read 178 = .ok (.goto (-152), 3) := by decide +kernel
theorem dX4_read_181 : decode cX4_read 181 = .ok (.aload_n 0, 1) := by decide +kernel
theorem dX4_read_182 : decode cX4_read 182 = .ok (.getfield 30, 3) := by decide +kernel
theorem dX4_read_185 : decode cX4_read 185 = .ok (.ifCond .ne 10, 3) := by decide +kernel
theorem dX4_read_188 : decode cX4_read 188 = .ok (.aload_n 0, 1) := by decide +kernel
theorem dX4_read_189 : decode cX4_read 189 = .ok (.getfield 24, 3) := by decide +kernel
theorem dX4_read_192 : decode cX4_read 192 = .ok (.ifCond .le 13, 3) := by decide +kernel
theorem dX4_read_195 : decode cX4_read 195 = .ok (.bipush 10, 2) := by decide +kernel
theorem dX4_read_197 : decode cX4_read 197 = .ok (.aload_n 1, 1) := by decide +kernel
theorem dX4_read_198 : decode cX4_read 198 = .ok (.invokevirtual 34, 3) := by decide +kernel
theorem dX4_read_201 : decode cX4_read 201 = .ok (.imul, 1) := by decide +kernel
theorem dX4_read_202 : decode cX4_read 202 = .ok (.iconst 1, 1) := by decide +kernel
theorem dX4_read_203 : decode cX4_read 203 = .ok (.iadd, 1) := by decide +kernel
theorem dX4_read_204 : decode cX4_read 204 = .ok (.ireturn, 1) := by decide +kernel
theorem dX4_read_205 : decode cX4_read 205 = .ok (.aload_n 0, 1) := by decide +kernel
theorem dX4_read_206 : decode cX4_read 206 = .ok (.aload_n 1, 1) := by decide +kernel
theorem dX4_read_207 : decode cX4_read 207 = .ok (.iconst 1, 1) := by decide +kernel
theorem dX4_read_208 : decode cX4_read 208 = .ok (.invokevirtual 73, 3) := by decide +kernel
theorem dX4_read_211 : decode cX4_read 211 = .ok (.iconst (-1), 1) := by decide +kernel
theorem dX4_read_212 : decode cX4_read 212 = .ok (.ireturn, 1) := by decide +kernel
theorem dX5_init_0 : decode cX5_init 0 = .ok (.aload_n 0, 1) := by decide +kernel
theorem dX5_init_1 : decode cX5_init 1 = .ok (.invokespecial 3, 3) := by decide +kernel
theorem dX5_init_4 : decode cX5_init 4 = .ok (.aload_n 0, 1) := by decide +kernel
theorem dX5_init_5 : decode cX5_init 5 = .ok (.iload_n 1, 1) := by decide +kernel
theorem dX5_init_6 : decode cX5_init 6 = .ok (.putfield 9, 3) := by decide +kernel
theorem dX5_init_9 : decode cX5_init 9 = .ok (.aload_n 0, 1) := by decide +kernel
theorem dX5_init_10 : decode cX5_init 10 = .ok (.iload_n 2, 1) := by decide +kernel
theorem dX5_init_11 : decode cX5_init 11 = .ok (.putfield 15, 3) := by decide +kernel
theorem dX5_init_14 : decode cX5_init 14 = .ok (.aload_n 0, 1) := by decide +kernel
theorem dX5_init_15 : decode cX5_init 15 = .ok (.iload_n 1, 1) := by decide +kernel
theorem dX5_init_16 : decode cX5_init 16 = .ok (.iload_n 2, 1) := by decide +kernel
theorem dX5_init_17 : decode cX5_init 17 = .ok (.imul, 1) := by decide +kernel
theorem dX5_init_18 : decode cX5_init 18 = .ok (.newarray .int, 2) := by decide +kernel
theorem dX5_init_20 : decode cX5_init 20 = .ok (.putfield 18, 3) := by decide +kernel
theorem dX5_init_23 : decode cX5_init 23 = .ok (.return_, 1) := by decide +kernel
theorem dX5_size_0 : decode cX5_size 0 = .ok (.aload_n 0, 1) := by decide +kernel
theorem dX5_size_1 : decode cX5_size 1 = .ok (.getfield 22, 3) := by decide +kernel
theorem dX5_size_4 : decode cX5_size 4 = .ok (.ireturn, 1) := by decide +kernel
theorem dX5_has_0 : decode cX5_has 0 = .ok (.iload_n 1, 1) := by decide +kernel
theorem dX5_has_1 : decode cX5_has 1 = .ok (.ifCond .lt 15, 3) := by decide +kernel
theorem dX5_has_4 : decode cX5_has 4 = .ok (.iload_n 1, 1) := by decide +kernel
theorem dX5_has_5 : decode cX5_has 5 = .ok (.aload_n 0, 1) := by decide +kernel
theorem dX5_has_6 : decode cX5_has 6 = .ok (.getfield 22, 3) := by decide +kernel
theorem dX5_has_9 : decode cX5_has 9 = .ok (.if_icmp .ge 7, 3) := by decide +kernel
theorem dX5_has_12 : decode cX5_has 12 = .ok (.iconst 1, 1) := by decide +kernel
theorem dX5_has_13 : decode cX5_has 13 = .ok (.goto 4, 3) := by decide +kernel
theorem dX5_has_16 : decode cX5_has 16 = .ok (.iconst 0, 1) := by decide +kernel
theorem dX5_has_17 : decode cX5_has 17 = .ok (.ireturn, 1) := by decide +kernel
theorem dX5_grow_0 : decode cX5_grow 0 = .ok (.aload_n 0, 1) := by decide +kernel
theorem dX5_grow_1 : decode cX5_grow 1 = .ok (.getfield 22, 3) := by decide +kernel
theorem dX5_grow_4 : decode cX5_grow 4 = .ok (.aload_n 0, 1) := by decide +kernel
theorem dX5_grow_5 : decode cX5_grow 5 = .ok (.getfield 9, 3) := by decide +kernel
theorem dX5_grow_8 : decode cX5_grow 8 = .ok (.if_icmp .lt 6, 3) := by decide +kernel
theorem dX5_grow_11 : decode cX5_grow 11 = .ok (.bipush (-4), 2) := by decide +kernel
theorem dX5_grow_13 : decode cX5_grow 13 = .ok (.ireturn, 1) := by decide +kernel
theorem dX5_grow_14 : decode cX5_grow 14 = .ok (.aload_n 0, 1) := by decide +kernel
theorem dX5_grow_15 : decode cX5_grow 15 = .ok (.dup, 1) := by decide +kernel
theorem dX5_grow_16 : decode cX5_grow 16 = .ok (.getfield 22, 3) := by decide +kernel
theorem dX5_grow_19 : decode cX5_grow 19 = .ok (.iconst 1, 1) := by decide +kernel
theorem dX5_grow_20 : decode cX5_grow 20 = .ok (.iadd, 1) := by decide +kernel
theorem dX5_grow_21 : decode cX5_grow 21 = .ok (.putfield 22, 3) := by decide +kernel
theorem dX5_grow_24 : decode cX5_grow 24 = .ok (.aload_n 0, 1) := by decide +kernel
theorem dX5_grow_25 : decode cX5_grow 25 = .ok (.getfield 22, 3) := by decide +kernel
theorem dX5_grow_28 : decode cX5_grow 28 = .ok (.iconst 1, 1) := by decide +kernel
theorem dX5_grow_29 : decode cX5_grow 29 = .ok (.isub, 1) := by decide +kernel
theorem dX5_grow_30 : decode cX5_grow 30 = .ok (.ireturn, 1) := by decide +kernel
theorem dX5_at_0 : decode cX5_at 0 = .ok (.iload_n 1, 1) := by decide +kernel
theorem dX5_at_1 : decode cX5_at 1 = .ok (.ifCond .lt 27, 3) := by decide +kernel
theorem dX5_at_4 : decode cX5_at 4 = .ok (.iload_n 1, 1) := by decide +kernel
theorem dX5_at_5 : decode cX5_at 5 = .ok (.aload_n 0, 1) := by decide +kernel
theorem dX5_at_6 : decode cX5_at 6 = .ok (.getfield 22, 3) := by decide +kernel
theorem dX5_at_9 : decode cX5_at 9 = .ok (.if_icmp .ge 19, 3) := by decide +kernel
theorem dX5_at_12 : decode cX5_at 12 = .ok (.iload_n 2, 1) := by decide +kernel
theorem dX5_at_13 : decode cX5_at 13 = .ok (.ifCond .lt 15, 3) := by decide +kernel
theorem dX5_at_16 : decode cX5_at 16 = .ok (.iload_n 2, 1) := by decide +kernel
theorem dX5_at_17 : decode cX5_at 17 = .ok (.aload_n 0, 1) := by decide +kernel
theorem dX5_at_18 : decode cX5_at 18 = .ok (.getfield 15, 3) := by decide +kernel
theorem dX5_at_21 : decode cX5_at 21 = .ok (.if_icmp .ge 7, 3) := by decide +kernel
theorem dX5_at_24 : decode cX5_at 24 = .ok (.iconst 1, 1) := by decide +kernel
theorem dX5_at_25 : decode cX5_at 25 = .ok (.goto 4, 3) := by decide +kernel
theorem dX5_at_28 : decode cX5_at 28 = .ok (.iconst 0, 1) := by decide +kernel
theorem dX5_at_29 : decode cX5_at 29 = .ok (.istore_n 3, 1) := by decide +kernel
theorem dX5_at_30 : decode cX5_at 30 = .ok (.iload_n 3, 1) := by decide +kernel
theorem dX5_at_31 : decode cX5_at 31 = .ok (.ifCond .eq 19, 3) := by decide +kernel
theorem dX5_at_34 : decode cX5_at 34 = .ok (.aload_n 0, 1) := by decide +kernel
theorem dX5_at_35 : decode cX5_at 35 = .ok (.getfield 18, 3) := by decide +kernel
theorem dX5_at_38 : decode cX5_at 38 = .ok (.iload_n 1, 1) := by decide +kernel
theorem dX5_at_39 : decode cX5_at 39 = .ok (.aload_n 0, 1) := by decide +kernel
theorem dX5_at_40 : decode cX5_at 40 = .ok (.getfield 15, 3) := by decide +kernel
theorem dX5_at_43 : decode cX5_at 43 = .ok (.imul, 1) := by decide +kernel
theorem dX5_at_44 : decode cX5_at 44 = .ok (.iload_n 2, 1) := by decide +kernel
theorem dX5_at_45 : decode cX5_at 45 = .ok (.iadd, 1) := by decide +kernel
theorem dX5_at_46 : decode cX5_at 46 = .ok (.iaload, 1) := by decide +kernel
theorem dX5_at_47 : decode cX5_at 47 = .ok (.goto 4, 3) := by decide +kernel
theorem dX5_at_50 : decode cX5_at 50 = .ok (.iconst 0, 1) := by decide +kernel
theorem dX5_at_51 : decode cX5_at 51 = .ok (.ireturn, 1) := by decide +kernel
theorem dX5_set_0 : decode cX5_set 0 = .ok (.iload_n 1, 1) := by decide +kernel
theorem dX5_set_1 : decode cX5_set 1 = .ok (.ifCond .lt 37, 3) := by decide +kernel
theorem dX5_set_4 : decode cX5_set 4 = .ok (.iload_n 1, 1) := by decide +kernel
theorem dX5_set_5 : decode cX5_set 5 = .ok (.aload_n 0, 1) := by decide +kernel
theorem dX5_set_6 : decode cX5_set 6 = .ok (.getfield 22, 3) := by decide +kernel
theorem dX5_set_9 : decode cX5_set 9 = .ok (.if_icmp .ge 29, 3) := by decide +kernel
theorem dX5_set_12 : decode cX5_set 12 = .ok (.iload_n 2, 1) := by decide +kernel
theorem dX5_set_13 : decode cX5_set 13 = .ok (.ifCond .lt 25, 3) := by decide +kernel
theorem dX5_set_16 : decode cX5_set 16 = .ok (.iload_n 2, 1) := by decide +kernel
theorem dX5_set_17 : decode cX5_set 17 = .ok (.aload_n 0, 1) := by decide +kernel
theorem dX5_set_18 : decode cX5_set 18 = .ok (.getfield 15, 3) := by decide +kernel
theorem dX5_set_21 : decode cX5_set 21 = .ok (.if_icmp .ge 17, 3) := by decide +kernel
theorem dX5_set_24 : decode cX5_set 24 = .ok (.aload_n 0, 1) := by decide +kernel
theorem dX5_set_25 : decode cX5_set 25 = .ok (.getfield 18, 3) := by decide +kernel
theorem dX5_set_28 : decode cX5_set 28 = .ok (.iload_n 1, 1) := by decide +kernel
theorem dX5_set_29 : decode cX5_set 29 = .ok (.aload_n 0, 1) := by decide +kernel
theorem dX5_set_30 : decode cX5_set 30 = .ok (.getfield 15, 3) := by decide +kernel
theorem dX5_set_33 : decode cX5_set 33 = .ok (.imul, 1) := by decide +kernel
theorem dX5_set_34 : decode cX5_set 34 = .ok (.iload_n 2, 1) := by decide +kernel
theorem dX5_set_35 : decode cX5_set 35 = .ok (.iadd, 1) := by decide +kernel
theorem dX5_set_36 : decode cX5_set 36 = .ok (.iload_n 3, 1) := by decide +kernel
theorem dX5_set_37 : decode cX5_set 37 = .ok (.iastore, 1) := by decide +kernel
theorem dX5_set_38 : decode cX5_set 38 = .ok (.return_, 1) := by decide +kernel
theorem dX5_copy_0 : decode cX5_copy 0 = .ok (.aload_n 0, 1) := by decide +kernel
theorem dX5_copy_1 : decode cX5_copy 1 = .ok (.aload_n 0, 1) := by decide +kernel
theorem dX5_copy_2 : decode cX5_copy 2 = .ok (.getfield 9, 3) := by decide +kernel
theorem dX5_copy_5 : decode cX5_copy 5 = .ok (.aload_n 1, 1) := by decide +kernel
theorem dX5_copy_6 : decode cX5_copy 6 = .ok (.getfield 22, 3) := by decide +kernel
theorem dX5_copy_9 : decode cX5_copy 9 = .ok (.invokestatic 25, 3) := by decide +kernel
theorem dX5_copy_12 : decode cX5_copy 12 = .ok (.putfield 22, 3) := by decide +kernel
theorem dX5_copy_15 : decode cX5_copy 15 = .ok (.aload_n 1, 1) := by decide +kernel
theorem dX5_copy_16 : decode cX5_copy 16 = .ok (.getfield 18, 3) := by decide +kernel
theorem dX5_copy_19 : decode cX5_copy 19 = .ok (.iconst 0, 1) := by decide +kernel
theorem dX5_copy_20 : decode cX5_copy 20 = .ok (.aload_n 0, 1) := by decide +kernel
theorem dX5_copy_21 : decode cX5_copy 21 = .ok (.getfield 18, 3) := by decide +kernel
theorem dX5_copy_24 : decode cX5_copy 24 = .ok (.iconst 0, 1) := by decide +kernel
theorem dX5_copy_25 : decode cX5_copy 25 = .ok (.aload_n 0, 1) := by decide +kernel
theorem dX5_copy_26 : decode cX5_copy 26 = .ok (.getfield 18, 3) := by decide +kernel
theorem dX5_copy_29 : decode cX5_copy 29 = .ok (.arraylength, 1) := by decide +kernel
theorem dX5_copy_30 : decode cX5_copy 30 = .ok (.aload_n 1, 1) := by decide +kernel
theorem dX5_copy_31 : decode cX5_copy 31 = .ok (.getfield 18, 3) := by decide +kernel
theorem dX5_copy_34 : decode cX5_copy 34 = .ok (.arraylength, 1) := by decide +kernel
theorem dX5_copy_35 : decode cX5_copy 35 = .ok (.invokestatic 25, 3) := by decide +kernel
theorem dX5_copy_38 : decode cX5_copy 38 = .ok (.invokestatic 31, 3) := by decide +kernel
theorem dX5_copy_41 : decode cX5_copy 41 = .ok (.return_, 1) := by decide +kernel
theorem dX5_foldAll_0 : decode cX5_foldAll 0 = .ok (.iconst 0, 1) := by decide +kernel
theorem dX5_foldAll_1 : decode cX5_foldAll 1 = .ok (.istore_n 3, 1) := by decide +kernel
theorem dX5_foldAll_2 : decode cX5_foldAll 2 = .ok (.iload_n 3, 1) := by decide +kernel
theorem dX5_foldAll_3 : decode cX5_foldAll 3 = .ok (.aload_n 0, 1) := by decide +kernel
theorem dX5_foldAll_4 : decode cX5_foldAll 4 = .ok (.getfield 22, 3) := by decide +kernel
theorem dX5_foldAll_7 : decode cX5_foldAll 7 = .ok (.if_icmp .ge 16, 3) := by decide +kernel
theorem dX5_foldAll_10 : decode cX5_foldAll 10 = .ok (.aload_n 0, 1) := by decide +kernel
theorem dX5_foldAll_11 : decode cX5_foldAll 11 = .ok (.lload_n 1, 1) := by decide +kernel
theorem dX5_foldAll_12 : decode cX5_foldAll 12 = .ok (.iload_n 3, 1) := by decide +kernel
theorem dX5_foldAll_13 : decode cX5_foldAll 13 = .ok (.invokevirtual 42, 3) := by decide +kernel
theorem dX5_foldAll_16 : decode cX5_foldAll 16 = .ok (.lstore_n 1, 1) := by decide +kernel
theorem dX5_foldAll_17 : decode cX5_foldAll 17 = .ok (.iinc 3 1, 3) := by decide +kernel
theorem dX5_foldAll_20 : decode cX5_foldAll 20 = .ok (.goto (-18), 3) := by decide +kernel
theorem dX5_foldAll_23 : decode cX5_foldAll 23 = .ok (.lload_n 1, 1) := by decide +kernel
theorem dX5_foldAll_24 : decode cX5_foldAll 24 = .ok (.lreturn, 1) := by decide +kernel
theorem dX6_init_0 : decode cX6_init 0 = .ok (.aload_n 0, 1) := by decide +kernel
theorem dX6_init_1 : decode cX6_init 1 = .ok (.invokespecial 1, 3) := by decide +kernel
theorem dX6_init_4 : decode cX6_init 4 = .ok (.aload_n 0, 1) := by decide +kernel
theorem dX6_init_5 : decode cX6_init 5 = .ok (.new 7, 3) := by decide +kernel
theorem dX6_init_8 : decode cX6_init 8 = .ok (.dup, 1) := by decide +kernel
theorem dX6_init_9 : decode cX6_init 9 = .ok (.invokespecial 9, 3) := by decide +kernel
theorem dX6_init_12 : decode cX6_init 12 = .ok (.putfield 10, 3) := by decide +kernel
theorem dX6_init_15 : decode cX6_init 15 = .ok (.aload_n 0, 1) := by decide +kernel
theorem dX6_init_16 : decode cX6_init 16 = .ok (.iload_n 1, 1) := by decide +kernel
theorem dX6_init_17 : decode cX6_init 17 = .ok (.anewarray 7, 3) := by decide +kernel
theorem dX6_init_20 : decode cX6_init 20 = .ok (.putfield 16, 3) := by decide +kernel
theorem dX6_init_23 : decode cX6_init 23 = .ok (.iconst 0, 1) := by decide +kernel
theorem dX6_init_24 : decode cX6_init 24 = .ok (.istore_n 2, 1) := by decide +kernel
theorem dX6_init_25 : decode cX6_init 25 = .ok (.iload_n 2, 1) := by decide +kernel
theorem dX6_init_26 : decode cX6_init 26 = .ok (.iload_n 1, 1) := by decide +kernel
theorem dX6_init_27 : decode cX6_init 27 = .ok (.if_icmp .ge 22, 3) := by decide +kernel
theorem dX6_init_30 : decode cX6_init 30 = .ok (.aload_n 0, 1) := by decide +kernel
theorem dX6_init_31 : decode cX6_init 31 = .ok (.getfield 16, 3) := by decide +kernel
theorem dX6_init_34 : decode cX6_init 34 = .ok (.iload_n 2, 1) := by decide +kernel
theorem dX6_init_35 : decode cX6_init 35 = .ok (.new 7, 3) := by decide +kernel
theorem dX6_init_38 : decode cX6_init 38 = .ok (.dup, 1) := by decide +kernel
theorem dX6_init_39 : decode cX6_init 39 = .ok (.invokespecial 9, 3) := by decide +kernel
theorem dX6_init_42 : decode cX6_init 42 = .ok (.aastore, 1) := by decide +kernel
theorem dX6_init_43 : decode cX6_init 43 = .ok (.iinc 2 1, 3) := by decide +kernel
theorem dX6_init_46 : decode cX6_init 46 = .ok (.goto (-21), 3) := by decide +kernel
theorem dX6_init_49 : decode cX6_init 49 = .ok (.return_, 1) := by decide +kernel
theorem dX6_get_0 : decode cX6_get 0 = .ok (.iload_n 1, 1) := by decide +kernel
theorem dX6_get_1 : decode cX6_get 1 = .ok (.ifCond .lt 21, 3) := by decide +kernel
theorem dX6_get_4 : decode cX6_get 4 = .ok (.iload_n 1, 1) := by decide +kernel
theorem dX6_get_5 : decode cX6_get 5 = .ok (.aload_n 0, 1) := by decide +kernel
theorem dX6_get_6 : decode cX6_get 6 = .ok (.getfield 16, 3) := by decide +kernel
theorem dX6_get_9 : decode cX6_get 9 = .ok (.arraylength, 1) := by decide +kernel
theorem dX6_get_10 : decode cX6_get 10 = .ok (.if_icmp .ge 12, 3) := by decide +kernel
theorem dX6_get_13 : decode cX6_get 13 = .ok (.aload_n 0, 1) := by decide +kernel
theorem dX6_get_14 : decode cX6_get 14 = .ok (.getfield 16, 3) := by decide +kernel
theorem dX6_get_17 : decode cX6_get 17 = .ok (.iload_n 1, 1) := by decide +kernel
theorem dX6_get_18 : decode cX6_get 18 = .ok (.aaload, 1) := by decide +kernel
theorem dX6_get_19 : decode cX6_get 19 = .ok (.goto 7, 3) := by decide +kernel
theorem dX6_get_22 : decode cX6_get 22 = .ok (.aload_n 0, 1) := by decide +kernel
theorem dX6_get_23 : decode cX6_get 23 = .ok (.getfield 10, 3) := by decide +kernel
theorem dX6_get_26 : decode cX6_get 26 = .ok (.areturn, 1) := by decide +kernel
theorem dX6_copy_0 : decode cX6_copy 0 = .ok (.iconst 0, 1) := by decide +kernel
theorem dX6_copy_1 : decode cX6_copy 1 = .ok (.istore_n 2, 1) := by decide +kernel
theorem dX6_copy_2 : decode cX6_copy 2 = .ok (.iload_n 2, 1) := by decide +kernel
theorem dX6_copy_3 : decode cX6_copy 3 = .ok (.aload_n 0, 1) := by decide +kernel
theorem dX6_copy_4 : decode cX6_copy 4 = .ok (.getfield 16, 3) := by decide +kernel
theorem dX6_copy_7 : decode cX6_copy 7 = .ok (.arraylength, 1) := by decide +kernel
theorem dX6_copy_8 : decode cX6_copy 8 = .ok (.if_icmp .ge 23, 3) := by decide +kernel
theorem dX6_copy_11 : decode cX6_copy 11 = .ok (.aload_n 0, 1) := by decide +kernel
theorem dX6_copy_12 : decode cX6_copy 12 = .ok (.getfield 16, 3) := by decide +kernel
theorem dX6_copy_15 : decode cX6_copy 15 = .ok (.iload_n 2, 1) := by decide +kernel
theorem dX6_copy_16 : decode cX6_copy 16 = .ok (.aaload, 1) := by decide +kernel
theorem dX6_copy_17 : decode cX6_copy 17 = .ok (.aload_n 1, 1) := by decide +kernel
theorem dX6_copy_18 : decode cX6_copy 18 = .ok (.iload_n 2, 1) := by decide +kernel
theorem dX6_copy_19 : decode cX6_copy 19 = .ok (.invokevirtual 20, 3) := by decide +kernel
theorem dX6_copy_22 : decode cX6_copy 22 = .ok (.invokevirtual 24, 3) := by decide +kernel
theorem dX6_copy_25 : decode cX6_copy 25 = .ok (.iinc 2 1, 3) := by decide +kernel
theorem dX6_copy_28 : decode cX6_copy 28 = .ok (.goto (-26), 3) := by decide +kernel
theorem dX6_copy_31 : decode cX6_copy 31 = .ok (.return_, 1) := by decide +kernel
theorem dX8_init_0 : decode cX8_init 0 = .ok (.aload_n 0, 1) := by decide +kernel
theorem dX8_init_1 : decode cX8_init 1 = .ok (.invokespecial 3, 3) := by decide +kernel
theorem dX8_init_4 : decode cX8_init 4 = .ok (.aload_n 0, 1) := by decide +kernel
theorem dX8_init_5 : decode cX8_init 5 = .ok (.bipush 50, 2) := by decide +kernel
theorem dX8_init_7 : decode cX8_init 7 = .ok (.newarray .int, 2) := by decide +kernel
theorem dX8_init_9 : decode cX8_init 9 = .ok (.putfield 9, 3) := by decide +kernel
theorem dX8_init_12 : decode cX8_init 12 = .ok (.aload_n 0, 1) := by decide +kernel
theorem dX8_init_13 : decode cX8_init 13 = .ok (.bipush 50, 2) := by decide +kernel
theorem dX8_init_15 : decode cX8_init 15 = .ok (.newarray .int, 2) := by decide +kernel
theorem dX8_init_17 : decode cX8_init 17 = .ok (.putfield 15, 3) := by decide +kernel
theorem dX8_init_20 : decode cX8_init 20 = .ok (.return_, 1) := by decide +kernel
theorem dX8_length_0 : decode cX8_length 0 = .ok (.aload_n 0, 1) := by decide +kernel
theorem dX8_length_1 : decode cX8_length 1 = .ok (.getfield 18, 3) := by decide +kernel
theorem dX8_length_4 : decode cX8_length 4 = .ok (.ireturn, 1) := by decide +kernel
theorem dX8_put_0 : decode cX8_put 0 = .ok (.aload_n 0, 1) := by decide +kernel
theorem dX8_put_1 : decode cX8_put 1 = .ok (.getfield 18, 3) := by decide +kernel
theorem dX8_put_4 : decode cX8_put 4 = .ok (.bipush 50, 2) := by decide +kernel
theorem dX8_put_6 : decode cX8_put 6 = .ok (.if_icmp .lt 6, 3) := by decide +kernel
theorem dX8_put_9 : decode cX8_put 9 = .ok (.bipush (-4), 2) := by decide +kernel
theorem dX8_put_11 : decode cX8_put 11 = .ok (.ireturn, 1) := by decide +kernel
theorem dX8_put_12 : decode cX8_put 12 = .ok (.aload_n 0, 1) := by decide +kernel
theorem dX8_put_13 : decode cX8_put 13 = .ok (.getfield 9, 3) := by decide +kernel
theorem dX8_put_16 : decode cX8_put 16 = .ok (.aload_n 0, 1) := by decide +kernel
theorem dX8_put_17 : decode cX8_put 17 = .ok (.getfield 18, 3) := by decide +kernel
theorem dX8_put_20 : decode cX8_put 20 = .ok (.iload_n 1, 1) := by decide +kernel
theorem dX8_put_21 : decode cX8_put 21 = .ok (.iastore, 1) := by decide +kernel
theorem dX8_put_22 : decode cX8_put 22 = .ok (.aload_n 0, 1) := by decide +kernel
theorem dX8_put_23 : decode cX8_put 23 = .ok (.dup, 1) := by decide +kernel
theorem dX8_put_24 : decode cX8_put 24 = .ok (.getfield 18, 3) := by decide +kernel
theorem dX8_put_27 : decode cX8_put 27 = .ok (.iconst 1, 1) := by decide +kernel
theorem dX8_put_28 : decode cX8_put 28 = .ok (.iadd, 1) := by decide +kernel
theorem dX8_put_29 : decode cX8_put 29 = .ok (.putfield 18, 3) := by decide +kernel
theorem dX8_put_32 : decode cX8_put 32 = .ok (.aload_n 0, 1) := by decide +kernel
theorem dX8_put_33 : decode cX8_put 33 = .ok (.getfield 18, 3) := by decide +kernel
theorem dX8_put_36 : decode cX8_put 36 = .ok (.ireturn, 1) := by decide +kernel
theorem dX8_clear_0 : decode cX8_clear 0 = .ok (.aload_n 0, 1) := by decide +kernel
theorem dX8_clear_1 : decode cX8_clear 1 = .ok (.getfield 18, 3) := by decide +kernel
theorem dX8_clear_4 : decode cX8_clear 4 = .ok (.istore_n 1, 1) := by decide +kernel
theorem dX8_clear_5 : decode cX8_clear 5 = .ok (.aload_n 0, 1) := by decide +kernel
theorem dX8_clear_6 : decode cX8_clear 6 = .ok (.iconst 0, 1) := by decide +kernel
theorem dX8_clear_7 : decode cX8_clear 7 = .ok (.putfield 18, 3) := by decide +kernel
theorem dX8_clear_10 : decode cX8_clear 10 = .ok (.iload_n 1, 1) := by decide +kernel
theorem dX8_clear_11 : decode cX8_clear 11 = .ok (.ireturn, 1) := by decide +kernel
theorem dX8_forgetSteps_0 : decode cX8_forgetSteps 0 = .ok (.aload_n 0, 1) := by decide +kernel
theorem dX8_forgetSteps_1 : decode cX8_forgetSteps 1 = .ok (.iconst 0, 1) := by decide +kernel
theorem dX8_forgetSteps_2 : decode cX8_forgetSteps 2 = .ok (.putfield 22, 3) := by decide +kernel
theorem dX8_forgetSteps_5 : decode cX8_forgetSteps 5 = .ok (.return_, 1) := by decide +kernel
theorem dX8_copy_0 : decode cX8_copy 0 = .ok (.aload_n 0, 1) := by decide +kernel
theorem dX8_copy_1 : decode cX8_copy 1 = .ok (.aload_n 1, 1) := by decide +kernel
theorem dX8_copy_2 : decode cX8_copy 2 = .ok (.getfield 18, 3) := by decide +kernel
theorem dX8_copy_5 : decode cX8_copy 5 = .ok (.putfield 18, 3) := by decide +kernel
theorem dX8_copy_8 : decode cX8_copy 8 = .ok (.aload_n 0, 1) := by decide +kernel
theorem dX8_copy_9 : decode cX8_copy 9 = .ok (.aload_n 1, 1) := by decide +kernel
theorem dX8_copy_10 : decode cX8_copy 10 = .ok (.getfield 22, 3) := by decide +kernel
theorem dX8_copy_13 : decode cX8_copy 13 = .ok (.putfield 22, 3) := by decide +kernel
theorem dX8_copy_16 : decode cX8_copy 16 = .ok (.aload_n 1, 1) := by decide +kernel
theorem dX8_copy_17 : decode cX8_copy 17 = .ok (.getfield 9, 3) := by decide +kernel
theorem dX8_copy_20 : decode cX8_copy 20 = .ok (.iconst 0, 1) := by decide +kernel
theorem dX8_copy_21 : decode cX8_copy 21 = .ok (.aload_n 0, 1) := by decide +kernel
theorem dX8_copy_22 : decode cX8_copy 22 = .ok (.getfield 9, 3) := by decide +kernel
theorem dX8_copy_25 : decode cX8_copy 25 = .ok (.iconst 0, 1) := by decide +kernel
theorem dX8_copy_26 : decode cX8_copy 26 = .ok (.bipush 50, 2) := by decide +kernel
theorem dX8_copy_28 : decode cX8_copy 28 = .ok (.invokestatic 25, 3) := by decide +kernel
theorem dX8_copy_31 : decode cX8_copy 31 = .ok (.aload_n 1, 1) := by decide +kernel
theorem dX8_copy_32 : decode cX8_copy 32 = .ok (.getfield 15, 3) := by decide +kernel
theorem dX8_copy_35 : decode cX8_copy 35 = .ok (.iconst 0, 1) := by decide +kernel
theorem dX8_copy_36 : decode cX8_copy 36 = .ok (.aload_n 0, 1) := by decide +kernel
theorem dX8_copy_37 : decode cX8_copy 37 = .ok (.getfield 15, 3) := by decide +kernel
theorem dX8_copy_40 : decode cX8_copy 40 = .ok (.iconst 0, 1) := by decide +kernel
theorem dX8_copy_41 : decode cX8_copy 41 = .ok (.bipush 50, 2) := by decide +kernel
theorem dX8_copy_43 : decode cX8_copy 43 = .ok (.invokestatic 25, 3) := by decide +kernel
theorem dX8_copy_46 : decode cX8_copy 46 = .ok (.return_, 1) := by decide +kernel

theorem dX0_init_0 : decode cX0_init 0 = .ok (.aload_n 0, 1) := by decide +kernel
theorem dX0_init_1 : decode cX0_init 1 = .ok (.invokespecial 3, 3) := by decide +kernel
theorem dX0_init_4 : decode cX0_init 4 = .ok (.aload_n 0, 1) := by decide +kernel
theorem dX0_init_5 : decode cX0_init 5 = .ok (.new 9, 3) := by decide +kernel
theorem dX0_init_8 : decode cX0_init 8 = .ok (.dup, 1) := by decide +kernel
theorem dX0_init_9 : decode cX0_init 9 = .ok (.bipush 30, 2) := by decide +kernel
theorem dX0_init_11 : decode cX0_init 11 = .ok (.iconst 4, 1) := by decide +kernel
theorem dX0_init_12 : decode cX0_init 12 = .ok (.invokespecial 11, 3) := by decide +kernel
theorem dX0_init_15 : decode cX0_init 15 = .ok (.putfield 14, 3) := by decide +kernel
theorem dX0_init_18 : decode cX0_init 18 = .ok (.aload_n 0, 1) := by decide +kernel
theorem dX0_init_19 : decode cX0_init 19 = .ok (.new 9, 3) := by decide +kernel
theorem dX0_init_22 : decode cX0_init 22 = .ok (.dup, 1) := by decide +kernel
theorem dX0_init_23 : decode cX0_init 23 = .ok (.bipush 40, 2) := by decide +kernel
theorem dX0_init_25 : decode cX0_init 25 = .ok (.iconst 3, 1) := by decide +kernel
theorem dX0_init_26 : decode cX0_init 26 = .ok (.invokespecial 11, 3) := by decide +kernel
theorem dX0_init_29 : decode cX0_init 29 = .ok (.putfield 20, 3) := by decide +kernel
theorem dX0_init_32 : decode cX0_init 32 = .ok (.aload_n 0, 1) := by decide +kernel
theorem dX0_init_33 : decode cX0_init 33 = .ok (.new 9, 3) := by decide +kernel
theorem dX0_init_36 : decode cX0_init 36 = .ok (.dup, 1) := by decide +kernel
theorem dX0_init_37 : decode cX0_init 37 = .ok (.iconst 4, 1) := by decide +kernel
theorem dX0_init_38 : decode cX0_init 38 = .ok (.iconst 3, 1) := by decide +kernel
theorem dX0_init_39 : decode cX0_init 39 = .ok (.invokespecial 11, 3) := by decide +kernel
theorem dX0_init_42 : decode cX0_init 42 = .ok (.putfield 23, 3) := by decide +kernel
theorem dX0_init_45 : decode cX0_init 45 = .ok (.aload_n 0, 1) := by decide +kernel
theorem dX0_init_46 : decode cX0_init 46 = .ok (.new 9, 3) := by decide +kernel
theorem dX0_init_49 : decode cX0_init 49 = .ok (.dup, 1) := by decide +kernel
theorem dX0_init_50 : decode cX0_init 50 = .ok (.bipush 20, 2) := by decide +kernel
theorem dX0_init_52 : decode cX0_init 52 = .ok (.iconst 3, 1) := by decide +kernel
theorem dX0_init_53 : decode cX0_init 53 = .ok (.invokespecial 11, 3) := by decide +kernel
theorem dX0_init_56 : decode cX0_init 56 = .ok (.putfield 26, 3) := by decide +kernel
theorem dX0_init_59 : decode cX0_init 59 = .ok (.aload_n 0, 1) := by decide +kernel
theorem dX0_init_60 : decode cX0_init 60 = .ok (.new 9, 3) := by decide +kernel
theorem dX0_init_63 : decode cX0_init 63 = .ok (.dup, 1) := by decide +kernel
theorem dX0_init_64 : decode cX0_init 64 = .ok (.bipush 10, 2) := by decide +kernel
theorem dX0_init_66 : decode cX0_init 66 = .ok (.bipush 70, 2) := by decide +kernel
theorem dX0_init_68 : decode cX0_init 68 = .ok (.invokespecial 11, 3) := by decide +kernel
theorem dX0_init_71 : decode cX0_init 71 = .ok (.putfield 29, 3) := by decide +kernel
theorem dX0_init_74 : decode cX0_init 74 = .ok (.aload_n 0, 1) := by decide +kernel
theorem dX0_init_75 : decode cX0_init 75 = .ok (.new 32, 3) := by decide +kernel
theorem dX0_init_78 : decode cX0_init 78 = .ok (.dup, 1) := by decide +kernel
theorem dX0_init_79 : decode cX0_init 79 = .ok (.bipush 20, 2) := by decide +kernel
theorem dX0_init_81 : decode cX0_init 81 = .ok (.invokespecial 34, 3) := by decide +kernel
theorem dX0_init_84 : decode cX0_init 84 = .ok (.putfield 37, 3) := by decide +kernel
theorem dX0_init_87 : decode cX0_init 87 = .ok (.aload_n 0, 1) := by decide +kernel
theorem dX0_init_88 : decode cX0_init 88 = .ok (.new 32, 3) := by decide +kernel
theorem dX0_init_91 : decode cX0_init 91 = .ok (.dup, 1) := by decide +kernel
theorem dX0_init_92 : decode cX0_init 92 = .ok (.iconst 4, 1) := by decide +kernel
theorem dX0_init_93 : decode cX0_init 93 = .ok (.invokespecial 34, 3) := by decide +kernel
theorem dX0_init_96 : decode cX0_init 96 = .ok (.putfield 41, 3) := by decide +kernel
theorem dX0_init_99 : decode cX0_init 99 = .ok (.aload_n 0, 1) := by decide +kernel
theorem dX0_init_100 : decode cX0_init 100 = .ok (.iconst 5, 1) := by decide +kernel
theorem dX0_init_101 : decode cX0_init 101 = .ok (.putfield 44, 3) := by decide +kernel
theorem dX0_init_104 : decode cX0_init 104 = .ok (.aload_n 0, 1) := by decide +kernel
theorem dX0_init_105 : decode cX0_init 105 = .ok (.bipush 20, 2) := by decide +kernel
theorem dX0_init_107 : decode cX0_init 107 = .ok (.putfield 48, 3) := by decide +kernel
theorem dX0_init_110 : decode cX0_init 110 = .ok (.return_, 1) := by decide +kernel
theorem dX0_copy_0 : decode cX0_copy 0 = .ok (.aload_n 0, 1) := by decide +kernel
theorem dX0_copy_1 : decode cX0_copy 1 = .ok (.getfield 14, 3) := by decide +kernel
theorem dX0_copy_4 : decode cX0_copy 4 = .ok (.aload_n 1, 1) := by decide +kernel
theorem dX0_copy_5 : decode cX0_copy 5 = .ok (.getfield 14, 3) := by decide +kernel
theorem dX0_copy_8 : decode cX0_copy 8 = .ok (.invokevirtual 51, 3) := by decide +kernel
theorem dX0_copy_11 : decode cX0_copy 11 = .ok (.aload_n 0, 1) := by decide +kernel
theorem dX0_copy_12 : decode cX0_copy 12 = .ok (.getfield 20, 3) := by decide +kernel
theorem dX0_copy_15 : decode cX0_copy 15 = .ok (.aload_n 1, 1) := by decide +kernel
theorem dX0_copy_16 : decode cX0_copy 16 = .ok (.getfield 20, 3) := by decide +kernel
theorem dX0_copy_19 : decode cX0_copy 19 = .ok (.invokevirtual 51, 3) := by decide +kernel
theorem dX0_copy_22 : decode cX0_copy 22 = .ok (.aload_n 0, 1) := by decide +kernel
theorem dX0_copy_23 : decode cX0_copy 23 = .ok (.getfield 23, 3) := by decide +kernel
theorem dX0_copy_26 : decode cX0_copy 26 = .ok (.aload_n 1, 1) := by decide +kernel
theorem dX0_copy_27 : decode cX0_copy 27 = .ok (.getfield 23, 3) := by decide +kernel
theorem dX0_copy_30 : decode cX0_copy 30 = .ok (.invokevirtual 51, 3) := by decide +kernel
theorem dX0_copy_33 : decode cX0_copy 33 = .ok (.aload_n 0, 1) := by decide +kernel
theorem dX0_copy_34 : decode cX0_copy 34 = .ok (.getfield 26, 3) := by decide +kernel
theorem dX0_copy_37 : decode cX0_copy 37 = .ok (.aload_n 1, 1) := by decide +kernel
theorem dX0_copy_38 : decode cX0_copy 38 = .ok (.getfield 26, 3) := by decide +kernel
theorem dX0_copy_41 : decode cX0_copy 41 = .ok (.invokevirtual 51, 3) := by decide +kernel
theorem dX0_copy_44 : decode cX0_copy 44 = .ok (.aload_n 0, 1) := by decide +kernel
theorem dX0_copy_45 : decode cX0_copy 45 = .ok (.getfield 29, 3) := by decide +kernel
theorem dX0_copy_48 : decode cX0_copy 48 = .ok (.aload_n 1, 1) := by decide +kernel
theorem dX0_copy_49 : decode cX0_copy 49 = .ok (.getfield 29, 3) := by decide +kernel
theorem dX0_copy_52 : decode cX0_copy 52 = .ok (.invokevirtual 51, 3) := by decide +kernel
theorem dX0_copy_55 : decode cX0_copy 55 = .ok (.aload_n 0, 1) := by decide +kernel
theorem dX0_copy_56 : decode cX0_copy 56 = .ok (.getfield 37, 3) := by decide +kernel
theorem dX0_copy_59 : decode cX0_copy 59 = .ok (.aload_n 1, 1) := by decide +kernel
theorem dX0_copy_60 : decode cX0_copy 60 = .ok (.getfield 37, 3) := by decide +kernel
theorem dX0_copy_63 : decode cX0_copy 63 = .ok (.invokevirtual 55, 3) := by decide +kernel
theorem dX0_copy_66 : decode cX0_copy 66 = .ok (.aload_n 0, 1) := by decide +kernel
theorem dX0_copy_67 : decode cX0_copy 67 = .ok (.getfield 41, 3) := by decide +kernel
theorem dX0_copy_70 : decode cX0_copy 70 = .ok (.aload_n 1, 1) := by decide +kernel
theorem dX0_copy_71 : decode cX0_copy 71 = .ok (.getfield 41, 3) := by decide +kernel
theorem dX0_copy_74 : decode cX0_copy 74 = .ok (.invokevirtual 55, 3) := by decide +kernel
theorem dX0_copy_77 : decode cX0_copy 77 = .ok (.aload_n 0, 1) := by decide +kernel
theorem dX0_copy_78 : decode cX0_copy 78 = .ok (.aload_n 1, 1) := by decide +kernel
theorem dX0_copy_79 : decode cX0_copy 79 = .ok (.getfield 44, 3) := by decide +kernel
theorem dX0_copy_82 : decode cX0_copy 82 = .ok (.putfield 44, 3) := by decide +kernel
theorem dX0_copy_85 : decode cX0_copy 85 = .ok (.aload_n 0, 1) := by decide +kernel
theorem dX0_copy_86 : decode cX0_copy 86 = .ok (.aload_n 1, 1) := by decide +kernel
theorem dX0_copy_87 : decode cX0_copy 87 = .ok (.getfield 48, 3) := by decide +kernel
theorem dX0_copy_90 : decode cX0_copy 90 = .ok (.putfield 48, 3) := by decide +kernel
theorem dX0_copy_93 : decode cX0_copy 93 = .ok (.return_, 1) := by decide +kernel
theorem dX0_everyone_0 : decode cX0_everyone 0 = .ok (.aload_n 0, 1) := by decide +kernel
theorem dX0_everyone_1 : decode cX0_everyone 1 = .ok (.getfield 14, 3) := by decide +kernel
theorem dX0_everyone_4 : decode cX0_everyone 4 = .ok (.invokevirtual 58, 3) := by decide +kernel
theorem dX0_everyone_7 : decode cX0_everyone 7 = .ok (.invokestatic 62, 3) := by decide +kernel
theorem dX0_everyone_10 : decode cX0_everyone 10 = .ok (.ireturn, 1) := by decide +kernel
theorem dX0_peopleWith_0 : decode cX0_peopleWith 0 = .ok (.iconst 0, 1) := by decide +kernel
theorem dX0_peopleWith_1 : decode cX0_peopleWith 1 = .ok (.istore_n 3, 1) := by decide +kernel
theorem dX0_peopleWith_2 : decode cX0_peopleWith 2 = .ok (.iconst 0, 1) := by decide +kernel
theorem dX0_peopleWith_3 : decode cX0_peopleWith 3 = .ok (.istore 4, 2) := by decide +kernel
theorem dX0_peopleWith_5 : decode cX0_peopleWith 5 = .ok (.iload 4, 2) := by decide +kernel
theorem dX0_peopleWith_7 : decode cX0_peopleWith 7 = .ok (.aload_n 0, 1) := by decide +kernel
theorem dX0_peopleWith_8 : decode cX0_peopleWith 8 = .ok (.getfield 14, 3) := by decide +kernel
theorem dX0_peopleWith_11 : decode cX0_peopleWith 11 = .ok (.invokevirtual 58, 3) := by decide +kernel
theorem dX0_peopleWith_14 : decode cX0_peopleWith 14 = .ok (.if_icmp .ge 30, 3) := by decide +kernel
theorem dX0_peopleWith_17 : decode cX0_peopleWith 17 = .ok (.aload_n 0, 1) := by decide +kernel
theorem dX0_peopleWith_18 : decode cX0_peopleWith 18 = .ok (.getfield 14, 3) := by decide +kernel
theorem dX0_peopleWith_21 : decode cX0_peopleWith 21 = .ok (.iload 4, 2) := by decide +kernel
theorem dX0_peopleWith_23 : decode cX0_peopleWith 23 = .ok (.iload_n 1, 1) := by decide +kernel
theorem dX0_peopleWith_24 : decode cX0_peopleWith 24 = .ok (.invokevirtual 66, 3) := by decide +kernel
theorem dX0_peopleWith_27 : decode cX0_peopleWith 27 = .ok (.iload_n 2, 1) := by decide +kernel
theorem dX0_peopleWith_28 : decode cX0_peopleWith 28 = .ok (.if_icmp .ne 10, 3) := by decide +kernel
theorem dX0_peopleWith_31 : decode cX0_peopleWith 31 = .ok (.iload_n 3, 1) := by decide +kernel
theorem dX0_peopleWith_32 : decode cX0_peopleWith 32 = .ok (.iconst 1, 1) := by decide +kernel
theorem dX0_peopleWith_33 : decode cX0_peopleWith 33 = .ok (.iload 4, 2) := by decide +kernel
theorem dX0_peopleWith_35 : decode cX0_peopleWith 35 = .ok (.ishl, 1) := by decide +kernel
theorem dX0_peopleWith_36 : decode cX0_peopleWith 36 = .ok (.ior, 1) := by decide +kernel
theorem dX0_peopleWith_37 : decode cX0_peopleWith 37 = .ok (.istore_n 3, 1) := by decide +kernel
theorem dX0_peopleWith_38 : decode cX0_peopleWith 38 = .ok (.iinc 4 1, 3) := by decide +kernel
theorem dX0_peopleWith_41 : decode cX0_peopleWith 41 = .ok (.goto (-36), 3) := by decide +kernel
theorem dX0_peopleWith_44 : decode cX0_peopleWith 44 = .ok (.iload_n 3, 1) := by decide +kernel
theorem dX0_peopleWith_45 : decode cX0_peopleWith 45 = .ok (.ireturn, 1) := by decide +kernel
theorem dX0_listedOn_0 : decode cX0_listedOn 0 = .ok (.iconst (-1), 1) := by decide +kernel
theorem dX0_listedOn_1 : decode cX0_listedOn 1 = .ok (.istore_n 2, 1) := by decide +kernel
theorem dX0_listedOn_2 : decode cX0_listedOn 2 = .ok (.iconst 0, 1) := by decide +kernel
theorem dX0_listedOn_3 : decode cX0_listedOn 3 = .ok (.istore_n 3, 1) := by decide +kernel
theorem dX0_listedOn_4 : decode cX0_listedOn 4 = .ok (.iload_n 3, 1) := by decide +kernel
theorem dX0_listedOn_5 : decode cX0_listedOn 5 = .ok (.aload_n 0, 1) := by decide +kernel
theorem dX0_listedOn_6 : decode cX0_listedOn 6 = .ok (.getfield 23, 3) := by decide +kernel
theorem dX0_listedOn_9 : decode cX0_listedOn 9 = .ok (.invokevirtual 58, 3) := by decide +kernel
theorem dX0_listedOn_12 : decode cX0_listedOn 12 = .ok (.if_icmp .ge 62, 3) := by decide +kernel
theorem dX0_listedOn_15 : decode cX0_listedOn 15 = .ok (.aload_n 0, 1) := by decide +kernel
theorem dX0_listedOn_16 : decode cX0_listedOn 16 = .ok (.getfield 23, 3) := by decide +kernel
theorem dX0_listedOn_19 : decode cX0_listedOn 19 = .ok (.iload_n 3, 1) := by decide +kernel
theorem dX0_listedOn_20 : decode cX0_listedOn 20 = .ok (.iconst 2, 1) := by decide +kernel
theorem dX0_listedOn_21 : decode cX0_listedOn 21 = .ok (.invokevirtual 66, 3) := by decide +kernel
theorem dX0_listedOn_24 : decode cX0_listedOn 24 = .ok (.iload_n 1, 1) := by decide +kernel
theorem dX0_listedOn_25 : decode cX0_listedOn 25 = .ok (.if_icmp .gt 7, 3) := by decide +kernel
theorem dX0_listedOn_28 : decode cX0_listedOn 28 = .ok (.iconst 1, 1) := by decide +kernel
theorem dX0_listedOn_29 : decode cX0_listedOn 29 = .ok (.goto 4, 3) := by decide +kernel
theorem dX0_listedOn_32 : decode cX0_listedOn 32 = .ok (.iconst 0, 1) := by decide +kernel
theorem dX0_listedOn_33 : decode cX0_listedOn 33 = .ok (.istore 4, 2) := by decide +kernel
theorem dX0_listedOn_35 : decode cX0_listedOn 35 = .ok (.iload 4, 2) := by decide +kernel
theorem dX0_listedOn_37 : decode cX0_listedOn 37 = .ok (.ifCond .eq 31, 3) := by decide +kernel
theorem dX0_listedOn_40 : decode cX0_listedOn 40 = .ok (.iload_n 2, 1) := by decide +kernel
theorem dX0_listedOn_41 : decode cX0_listedOn 41 = .ok (.iconst (-1), 1) := by decide +kernel
theorem dX0_listedOn_42 : decode cX0_listedOn 42 = .ok (.if_icmp .eq 24, 3) := by decide +kernel
theorem dX0_listedOn_45 : decode cX0_listedOn 45 = .ok (.aload_n 0, 1) := by decide +kernel
theorem dX0_listedOn_46 : decode cX0_listedOn 46 = .ok (.getfield 23, 3) := by decide +kernel
theorem dX0_listedOn_49 : decode cX0_listedOn 49 = .ok (.iload_n 3, 1) := by decide +kernel
theorem dX0_listedOn_50 : decode cX0_listedOn 50 = .ok (.iconst 1, 1) := by decide +kernel
theorem dX0_listedOn_51 : decode cX0_listedOn 51 = .ok (.invokevirtual 66, 3) := by decide +kernel
theorem dX0_listedOn_54 : decode cX0_listedOn 54 = .ok (.aload_n 0, 1) := by decide +kernel
theorem dX0_listedOn_55 : decode cX0_listedOn 55 = .ok (.getfield 23, 3) := by decide +kernel
theorem dX0_listedOn_58 : decode cX0_listedOn 58 = .ok (.iload_n 2, 1) := by decide +kernel
theorem dX0_listedOn_59 : decode cX0_listedOn 59 = .ok (.iconst 1, 1) := by decide +kernel
theorem dX0_listedOn_60 : decode cX0_listedOn 60 = .ok (.invokevirtual 66, 3) := by decide +kernel
theorem dX0_listedOn_63 : decode cX0_listedOn 63 = .ok (.if_icmp .lt 5, 3) := by decide +kernel
theorem dX0_listedOn_66 : decode cX0_listedOn 66 = .ok (.iload_n 3, 1) := by decide +kernel
theorem dX0_listedOn_67 : decode cX0_listedOn 67 = .ok (.istore_n 2, 1) := by decide +kernel
theorem dX0_listedOn_68 : decode cX0_listedOn 68 = .ok (.iinc 3 1, 3) := by decide +kernel
theorem dX0_listedOn_71 : decode cX0_listedOn 71 = .ok (.goto (-67), 3) := by decide +kernel
theorem dX0_listedOn_74 : decode cX0_listedOn 74 = .ok (.iload_n 2, 1) := by decide +kernel
theorem dX0_listedOn_75 : decode cX0_listedOn 75 = .ok (.iconst (-1), 1) := by decide +kernel
theorem dX0_listedOn_76 : decode cX0_listedOn 76 = .ok (.if_icmp .ne 10, 3) := by decide +kernel
theorem dX0_listedOn_79 : decode cX0_listedOn 79 = .ok (.aload_n 0, 1) := by decide +kernel
theorem dX0_listedOn_80 : decode cX0_listedOn 80 = .ok (.invokevirtual 70, 3) := by decide +kernel
theorem dX0_listedOn_83 : decode cX0_listedOn 83 = .ok (.goto 12, 3) := by decide +kernel
theorem dX0_listedOn_86 : decode cX0_listedOn 86 = .ok (.aload_n 0, 1) := by decide +kernel
theorem dX0_listedOn_87 : decode cX0_listedOn 87 = .ok (.getfield 23, 3) := by decide +kernel
theorem dX0_listedOn_90 : decode cX0_listedOn 90 = .ok (.iload_n 2, 1) := by decide +kernel
theorem dX0_listedOn_91 : decode cX0_listedOn 91 = .ok (.iconst 0, 1) := by decide +kernel
theorem dX0_listedOn_92 : decode cX0_listedOn 92 = .ok (.invokevirtual 66, 3) := by decide +kernel
theorem dX0_listedOn_95 : decode cX0_listedOn 95 = .ok (.ireturn, 1) := by decide +kernel
theorem dX0_inForce_0 : decode cX0_inForce 0 = .ok (.iconst (-1), 1) := by decide +kernel
theorem dX0_inForce_1 : decode cX0_inForce 1 = .ok (.istore_n 3, 1) := by decide +kernel
theorem dX0_inForce_2 : decode cX0_inForce 2 = .ok (.iconst 0, 1) := by decide +kernel
theorem dX0_inForce_3 : decode cX0_inForce 3 = .ok (.istore 4, 2) := by decide +kernel
theorem dX0_inForce_5 : decode cX0_inForce 5 = .ok (.iload 4, 2) := by decide +kernel
theorem dX0_inForce_7 : decode cX0_inForce 7 = .ok (.aload_n 0, 1) := by decide +kernel
theorem dX0_inForce_8 : decode cX0_inForce 8 = .ok (.getfield 26, 3) := by decide +kernel
theorem dX0_inForce_11 : decode cX0_inForce 11 = .ok (.invokevirtual 58, 3) := by decide +kernel
theorem dX0_inForce_14 : decode cX0_inForce 14 = .ok (.if_icmp .ge 103, 3) := by decide +kernel
theorem dX0_inForce_17 : decode cX0_inForce 17 = .ok (.aload_n 0, 1) := by decide +kernel
theorem dX0_inForce_18 : decode cX0_inForce 18 = .ok (.getfield 26, 3) := by decide +kernel
theorem dX0_inForce_21 : decode cX0_inForce 21 = .ok (.iload 4, 2) := by decide +kernel
theorem dX0_inForce_23 : decode cX0_inForce 23 = .ok (.iconst 2, 1) := by decide +kernel
theorem dX0_inForce_24 : decode cX0_inForce 24 = .ok (.invokevirtual 66, 3) := by decide +kernel
theorem dX0_inForce_27 : decode cX0_inForce 27 = .ok (.istore 5, 2) := by decide +kernel
theorem dX0_inForce_29 : decode cX0_inForce 29 = .ok (.aload_n 0, 1) := by decide +kernel
theorem dX0_inForce_30 : decode cX0_inForce 30 = .ok (.getfield 26, 3) := by decide +kernel
theorem dX0_inForce_33 : decode cX0_inForce 33 = .ok (.iload 4, 2) := by decide +kernel
theorem dX0_inForce_35 : decode cX0_inForce 35 = .ok (.iconst 0, 1) := by decide +kernel
theorem dX0_inForce_36 : decode cX0_inForce 36 = .ok (.invokevirtual 66, 3) := by decide +kernel
theorem dX0_inForce_39 : decode cX0_inForce 39 = .ok (.iload_n 1, 1) := by decide +kernel
theorem dX0_inForce_40 : decode cX0_inForce 40 = .ok (.if_icmp .ne 33, 3) := by decide +kernel
theorem dX0_inForce_43 : decode cX0_inForce 43 = .ok (.aload_n 0, 1) := by decide +kernel
theorem dX0_inForce_44 : decode cX0_inForce 44 = .ok (.getfield 26, 3) := by decide +kernel
theorem dX0_inForce_47 : decode cX0_inForce 47 = .ok (.iload 4, 2) := by decide +kernel
theorem dX0_inForce_49 : decode cX0_inForce 49 = .ok (.iconst 1, 1) := by decide +kernel
theorem dX0_inForce_50 : decode cX0_inForce 50 = .ok (.invokevirtual 66, 3) := by decide +kernel
theorem dX0_inForce_53 : decode cX0_inForce 53 = .ok (.iload_n 2, 1) := by decide +kernel
theorem dX0_inForce_54 : decode cX0_inForce 54 = .ok (.if_icmp .gt 19, 3) := by decide +kernel
theorem dX0_inForce_57 : decode cX0_inForce 57 = .ok (.iload 5, 2) := by decide +kernel
theorem dX0_inForce_59 : decode cX0_inForce 59 = .ok (.iconst (-1), 1) := by decide +kernel
theorem dX0_inForce_60 : decode cX0_inForce 60 = .ok (.if_icmp .eq 9, 3) := by decide +kernel
theorem dX0_inForce_63 : decode cX0_inForce 63 = .ok (.iload 5, 2) := by decide +kernel
theorem dX0_inForce_65 : decode cX0_inForce 65 = .ok (.iload_n 2, 1) := by decide +kernel
theorem dX0_inForce_66 : decode cX0_inForce 66 = .ok (.if_icmp .le 7, 3) := by decide +kernel
theorem dX0_inForce_69 : decode cX0_inForce 69 = .ok (.iconst 1, 1) := by decide +kernel
theorem dX0_inForce_70 : decode cX0_inForce 70 = .ok (.goto 4, 3) := by decide +kernel
theorem dX0_inForce_73 : decode cX0_inForce 73 = .ok (.iconst 0, 1) := by decide +kernel
theorem dX0_inForce_74 : decode cX0_inForce 74 = .ok (.istore 6, 2) := by decide +kernel
theorem dX0_inForce_76 : decode cX0_inForce 76 = .ok (.iload 6, 2) := by decide +kernel
theorem dX0_inForce_78 : decode cX0_inForce 78 = .ok (.ifCond .eq 33, 3) := by decide +kernel
theorem dX0_inForce_81 : decode cX0_inForce 81 = .ok (.iload_n 3, 1) := by decide +kernel
theorem dX0_inForce_82 : decode cX0_inForce 82 = .ok (.iconst (-1), 1) := by decide +kernel
theorem dX0_inForce_83 : decode cX0_inForce 83 = .ok (.if_icmp .eq 25, 3) := by decide +kernel
theorem dX0_inForce_86 : decode cX0_inForce 86 = .ok (.aload_n 0, 1) := by decide +kernel
theorem dX0_inForce_87 : decode cX0_inForce 87 = .ok (.getfield 26, 3) := by decide +kernel
theorem dX0_inForce_90 : decode cX0_inForce 90 = .ok (.iload 4, 2) := by decide +kernel
theorem dX0_inForce_92 : decode cX0_inForce 92 = .ok (.iconst 1, 1) := by decide +kernel
theorem dX0_inForce_93 : decode cX0_inForce 93 = .ok (.invokevirtual 66, 3) := by decide +kernel
theorem dX0_inForce_96 : decode cX0_inForce 96 = .ok (.aload_n 0, 1) := by decide +kernel
theorem dX0_inForce_97 : decode cX0_inForce 97 = .ok (.getfield 26, 3) := by decide +kernel
theorem dX0_inForce_100 : decode cX0_inForce 100 = .ok (.iload_n 3, 1) := by decide +kernel
theorem dX0_inForce_101 : decode cX0_inForce 101 = .ok (.iconst 1, 1) := by decide +kernel
theorem dX0_inForce_102 : decode cX0_inForce 102 = .ok (.invokevirtual 66, 3) := by decide +kernel
theorem dX0_inForce_105 : decode cX0_inForce 105 = .ok (.if_icmp .lt 6, 3) := by decide +kernel
theorem dX0_inForce_108 : decode cX0_inForce 108 = .ok (.iload 4, 2) := by decide +kernel
theorem dX0_inForce_110 : decode cX0_inForce 110 = .ok (.istore_n 3, 1) := by decide +kernel
theorem dX0_inForce_111 : decode cX0_inForce 111 = .ok (.iinc 4 1, 3) := by decide +kernel
theorem dX0_inForce_114 : decode cX0_inForce 114 = .ok (.goto (-109), 3) := by decide +kernel
theorem dX0_inForce_117 : decode cX0_inForce 117 = .ok (.iload_n 3, 1) := by decide +kernel
theorem dX0_inForce_118 : decode cX0_inForce 118 = .ok (.ireturn, 1) := by decide +kernel
theorem dX0_lawOf_0 : decode cX0_lawOf 0 = .ok (.aload_n 0, 1) := by decide +kernel
theorem dX0_lawOf_1 : decode cX0_lawOf 1 = .ok (.iload_n 1, 1) := by decide +kernel
theorem dX0_lawOf_2 : decode cX0_lawOf 2 = .ok (.iload_n 2, 1) := by decide +kernel
theorem dX0_lawOf_3 : decode cX0_lawOf 3 = .ok (.invokevirtual 73, 3) := by decide +kernel
theorem dX0_lawOf_6 : decode cX0_lawOf 6 = .ok (.istore_n 3, 1) := by decide +kernel
theorem dX0_lawOf_7 : decode cX0_lawOf 7 = .ok (.iload_n 3, 1) := by decide +kernel
theorem dX0_lawOf_8 : decode cX0_lawOf 8 = .ok (.iconst (-1), 1) := by decide +kernel
theorem dX0_lawOf_9 : decode cX0_lawOf 9 = .ok (.if_icmp .ne 7, 3) := by decide +kernel
theorem dX0_lawOf_12 : decode cX0_lawOf 12 = .ok (.aconst_null, 1) := by decide +kernel
theorem dX0_lawOf_13 : decode cX0_lawOf 13 = .ok (.goto 11, 3) := by decide +kernel
theorem dX0_lawOf_16 : decode cX0_lawOf 16 = .ok (.aload_n 0, 1) := by decide +kernel
theorem dX0_lawOf_17 : decode cX0_lawOf 17 = .ok (.getfield 37, 3) := by decide +kernel
theorem dX0_lawOf_20 : decode cX0_lawOf 20 = .ok (.iload_n 3, 1) := by decide +kernel
theorem dX0_lawOf_21 : decode cX0_lawOf 21 = .ok (.invokevirtual 76, 3) := by decide +kernel
theorem dX0_lawOf_24 : decode cX0_lawOf 24 = .ok (.areturn, 1) := by decide +kernel
theorem dX0_kinOfSides_0 : decode cX0_kinOfSides 0 = .ok (.iconst 0, 1) := by decide +kernel
theorem dX0_kinOfSides_1 : decode cX0_kinOfSides 1 = .ok (.istore_n 3, 1) := by decide +kernel
theorem dX0_kinOfSides_2 : decode cX0_kinOfSides 2 = .ok (.iconst 0, 1) := by decide +kernel
theorem dX0_kinOfSides_3 : decode cX0_kinOfSides 3 = .ok (.istore 4, 2) := by decide +kernel
theorem dX0_kinOfSides_5 : decode cX0_kinOfSides 5 = .ok (.iload 4, 2) := by decide +kernel
theorem dX0_kinOfSides_7 : decode cX0_kinOfSides 7 = .ok (.aload_n 0, 1) := by decide +kernel
theorem dX0_kinOfSides_8 : decode cX0_kinOfSides 8 = .ok (.getfield 20, 3) := by decide +kernel
theorem dX0_kinOfSides_11 : decode cX0_kinOfSides 11 = .ok (.invokevirtual 58, 3) := by decide +kernel
theorem dX0_kinOfSides_14 : decode cX0_kinOfSides 14 = .ok (.if_icmp .ge 90, 3) := by decide +kernel
theorem dX0_kinOfSides_17 : decode cX0_kinOfSides 17 = .ok (.aload_n 0, 1) := by decide +kernel
theorem dX0_kinOfSides_18 : decode cX0_kinOfSides 18 = .ok (.getfield 20, 3) := by decide +kernel
theorem dX0_kinOfSides_21 : decode cX0_kinOfSides 21 = .ok (.iload 4, 2) := by decide +kernel
theorem dX0_kinOfSides_23 : decode cX0_kinOfSides 23 = .ok (.iconst 1, 1) := by decide +kernel
theorem dX0_kinOfSides_24 : decode cX0_kinOfSides 24 = .ok (.invokevirtual 66, 3) := by decide +kernel
theorem dX0_kinOfSides_27 : decode cX0_kinOfSides 27 = .ok (.istore 5, 2) := by decide +kernel
theorem dX0_kinOfSides_29 : decode cX0_kinOfSides 29 = .ok (.iload 5, 2) := by decide +kernel
theorem dX0_kinOfSides_31 : decode cX0_kinOfSides 31 = .ok (.aload_n 0, 1) := by decide +kernel
theorem dX0_kinOfSides_32 : decode cX0_kinOfSides 32 = .ok (.getfield 29, 3) := by decide +kernel
theorem dX0_kinOfSides_35 : decode cX0_kinOfSides 35 = .ok (.iload_n 1, 1) := by decide +kernel
theorem dX0_kinOfSides_36 : decode cX0_kinOfSides 36 = .ok (.iconst 3, 1) := by decide +kernel
theorem dX0_kinOfSides_37 : decode cX0_kinOfSides 37 = .ok (.invokevirtual 66, 3) := by decide +kernel
theorem dX0_kinOfSides_40 : decode cX0_kinOfSides 40 = .ok (.if_icmp .eq 17, 3) := by decide +kernel
theorem dX0_kinOfSides_43 : decode cX0_kinOfSides 43 = .ok (.iload 5, 2) := by decide +kernel
theorem dX0_kinOfSides_45 : decode cX0_kinOfSides 45 = .ok (.aload_n 0, 1) := by decide +kernel
theorem dX0_kinOfSides_46 : decode cX0_kinOfSides 46 = .ok (.getfield 29, 3) := by decide +kernel
theorem dX0_kinOfSides_49 : decode cX0_kinOfSides 49 = .ok (.iload_n 1, 1) := by decide +kernel
theorem dX0_kinOfSides_50 : decode cX0_kinOfSides 50 = .ok (.iconst 4, 1) := by decide +kernel
theorem dX0_kinOfSides_51 : decode cX0_kinOfSides 51 = .ok (.invokevirtual 66, 3) := by decide +kernel
theorem dX0_kinOfSides_54 : decode cX0_kinOfSides 54 = .ok (.if_icmp .ne 7, 3) := by decide +kernel
theorem dX0_kinOfSides_57 : decode cX0_kinOfSides 57 = .ok (.iconst 1, 1) := by decide +kernel
theorem dX0_kinOfSides_58 : decode cX0_kinOfSides 58 = .ok (.goto 4, 3) := by decide +kernel
theorem dX0_kinOfSides_61 : decode cX0_kinOfSides 61 = .ok (.iconst 0, 1) := by decide +kernel
theorem dX0_kinOfSides_62 : decode cX0_kinOfSides 62 = .ok (.istore 6, 2) := by decide +kernel
theorem dX0_kinOfSides_64 : decode cX0_kinOfSides 64 = .ok (.iload 6, 2) := by decide +kernel
theorem dX0_kinOfSides_66 : decode cX0_kinOfSides 66 = .ok (.ifCond .eq 32, 3) := by decide +kernel
theorem dX0_kinOfSides_69 : decode cX0_kinOfSides 69 = .ok (.aload_n 0, 1) := by decide +kernel
theorem dX0_kinOfSides_70 : decode cX0_kinOfSides 70 = .ok (.getfield 20, 3) := by decide +kernel
theorem dX0_kinOfSides_73 : decode cX0_kinOfSides 73 = .ok (.iload 4, 2) := by decide +kernel
theorem dX0_kinOfSides_75 : decode cX0_kinOfSides 75 = .ok (.iconst 2, 1) := by decide +kernel
theorem dX0_kinOfSides_76 : decode cX0_kinOfSides 76 = .ok (.invokevirtual 66, 3) := by decide +kernel
theorem dX0_kinOfSides_79 : decode cX0_kinOfSides 79 = .ok (.iload_n 2, 1) := by decide +kernel
theorem dX0_kinOfSides_80 : decode cX0_kinOfSides 80 = .ok (.if_icmp .gt 18, 3) := by decide +kernel
theorem dX0_kinOfSides_83 : decode cX0_kinOfSides 83 = .ok (.iload_n 3, 1) := by decide +kernel
theorem dX0_kinOfSides_84 : decode cX0_kinOfSides 84 = .ok (.iconst 1, 1) := by decide +kernel
theorem dX0_kinOfSides_85 : decode cX0_kinOfSides 85 = .ok (.aload_n 0, 1) := by decide +kernel
theorem dX0_kinOfSides_86 : decode cX0_kinOfSides 86 = .ok (.getfield 20, 3) := by decide +kernel
theorem dX0_kinOfSides_89 : decode cX0_kinOfSides 89 = .ok (.iload 4, 2) := by decide +kernel
theorem dX0_kinOfSides_91 : decode cX0_kinOfSides 91 = .ok (.iconst 0, 1) := by decide +kernel
theorem dX0_kinOfSides_92 : decode cX0_kinOfSides 92 = .ok (.invokevirtual 66, 3) := by decide +kernel
theorem dX0_kinOfSides_95 : decode cX0_kinOfSides 95 = .ok (.ishl, 1) := by decide +kernel
theorem dX0_kinOfSides_96 : decode cX0_kinOfSides 96 = .ok (.ior, 1) := by decide +kernel
theorem dX0_kinOfSides_97 : decode cX0_kinOfSides 97 = .ok (.istore_n 3, 1) := by decide +kernel
theorem dX0_kinOfSides_98 : decode cX0_kinOfSides 98 = .ok (.iinc 4 1, 3) := by decide +kernel
theorem dX0_kinOfSides_101 : decode cX0_kinOfSides 101 = .ok (.goto (-96), 3) := by decide +kernel
theorem dX0_kinOfSides_104 : decode cX0_kinOfSides 104 = .ok (.iload_n 3, 1) := by decide +kernel
theorem dX0_kinOfSides_105 : decode cX0_kinOfSides 105 = .ok (.ireturn, 1) := by decide +kernel
theorem dX0_ofTradeWanted_0 : decode cX0_ofTradeWanted 0 = .ok (.aload_n 0, 1) := by decide +kernel
theorem dX0_ofTradeWanted_1 : decode cX0_ofTradeWanted 1 = .ok (.getfield 29, 3) := by decide +kernel
theorem dX0_ofTradeWanted_4 : decode cX0_ofTradeWanted 4 = .ok (.iload_n 1, 1) := by decide +kernel
theorem dX0_ofTradeWanted_5 : decode cX0_ofTradeWanted 5 = .ok (.iconst 5, 1) := by decide +kernel
theorem dX0_ofTradeWanted_6 : decode cX0_ofTradeWanted 6 = .ok (.invokevirtual 66, 3) := by decide +kernel
theorem dX0_ofTradeWanted_9 : decode cX0_ofTradeWanted 9 = .ok (.istore_n 2, 1) := by decide +kernel
theorem dX0_ofTradeWanted_10 : decode cX0_ofTradeWanted 10 = .ok (.iload_n 2, 1) := by decide +kernel
theorem dX0_ofTradeWanted_11 : decode cX0_ofTradeWanted 11 = .ok (.iconst (-1), 1) := by decide +kernel
theorem dX0_ofTradeWanted_12 : decode cX0_ofTradeWanted 12 = .ok (.if_icmp .ne 10, 3) := by decide +kernel
theorem dX0_ofTradeWanted_15 : decode cX0_ofTradeWanted 15 = .ok (.aload_n 0, 1) := by decide +kernel
theorem dX0_ofTradeWanted_16 : decode cX0_ofTradeWanted 16 = .ok (.invokevirtual 70, 3) := by decide +kernel
theorem dX0_ofTradeWanted_19 : decode cX0_ofTradeWanted 19 = .ok (.goto 9, 3) := by decide +kernel
theorem dX0_ofTradeWanted_22 : decode cX0_ofTradeWanted 22 = .ok (.aload_n 0, 1) := by decide +kernel
theorem dX0_ofTradeWanted_23 : decode cX0_ofTradeWanted 23 = .ok (.iconst 1, 1) := by decide +kernel
theorem dX0_ofTradeWanted_24 : decode cX0_ofTradeWanted 24 = .ok (.iload_n 2, 1) := by decide +kernel
theorem dX0_ofTradeWanted_25 : decode cX0_ofTradeWanted 25 = .ok (.invokevirtual 80, 3) := by decide +kernel
theorem dX0_ofTradeWanted_28 : decode cX0_ofTradeWanted 28 = .ok (.ireturn, 1) := by decide +kernel
theorem dX0_lastDayOf_0 : decode cX0_lastDayOf 0 = .ok (.aload_n 0, 1) := by decide +kernel
theorem dX0_lastDayOf_1 : decode cX0_lastDayOf 1 = .ok (.getfield 29, 3) := by decide +kernel
theorem dX0_lastDayOf_4 : decode cX0_lastDayOf 4 = .ok (.iload_n 1, 1) := by decide +kernel
theorem dX0_lastDayOf_5 : decode cX0_lastDayOf 5 = .ok (.iconst 0, 1) := by decide +kernel
theorem dX0_lastDayOf_6 : decode cX0_lastDayOf 6 = .ok (.invokevirtual 66, 3) := by decide +kernel
theorem dX0_lastDayOf_9 : decode cX0_lastDayOf 9 = .ok (.aload_n 0, 1) := by decide +kernel
theorem dX0_lastDayOf_10 : decode cX0_lastDayOf 10 = .ok (.getfield 29, 3) := by decide +kernel
theorem dX0_lastDayOf_13 : decode cX0_lastDayOf 13 = .ok (.iload_n 1, 1) := by decide +kernel
theorem dX0_lastDayOf_14 : decode cX0_lastDayOf 14 = .ok (.iconst 1, 1) := by decide +kernel
theorem dX0_lastDayOf_15 : decode cX0_lastDayOf 15 = .ok (.invokevirtual 66, 3) := by decide +kernel
theorem dX0_lastDayOf_18 : decode cX0_lastDayOf 18 = .ok (.iadd, 1) := by decide +kernel
theorem dX0_lastDayOf_19 : decode cX0_lastDayOf 19 = .ok (.iconst 1, 1) := by decide +kernel
theorem dX0_lastDayOf_20 : decode cX0_lastDayOf 20 = .ok (.isub, 1) := by decide +kernel
theorem dX0_lastDayOf_21 : decode cX0_lastDayOf 21 = .ok (.ireturn, 1) := by decide +kernel
theorem dX0_overlap_0 : decode cX0_overlap 0 = .ok (.aload_n 0, 1) := by decide +kernel
theorem dX0_overlap_1 : decode cX0_overlap 1 = .ok (.iload_n 1, 1) := by decide +kernel
theorem dX0_overlap_2 : decode cX0_overlap 2 = .ok (.invokevirtual 83, 3) := by decide +kernel
theorem dX0_overlap_5 : decode cX0_overlap 5 = .ok (.aload_n 0, 1) := by decide +kernel
theorem dX0_overlap_6 : decode cX0_overlap 6 = .ok (.getfield 29, 3) := by decide +kernel
theorem dX0_overlap_9 : decode cX0_overlap 9 = .ok (.iload_n 2, 1) := by decide +kernel
theorem dX0_overlap_10 : decode cX0_overlap 10 = .ok (.iconst 0, 1) := by decide +kernel
theorem dX0_overlap_11 : decode cX0_overlap 11 = .ok (.invokevirtual 66, 3) := by decide +kernel
theorem dX0_overlap_14 : decode cX0_overlap 14 = .ok (.if_icmp .lt 7, 3) := by decide +kernel
theorem dX0_overlap_17 : decode cX0_overlap 17 = .ok (.iconst 1, 1) := by decide +kernel
theorem dX0_overlap_18 : decode cX0_overlap 18 = .ok (.goto 4, 3) := by decide +kernel
theorem dX0_overlap_21 : decode cX0_overlap 21 = .ok (.iconst 0, 1) := by decide +kernel
theorem dX0_overlap_22 : decode cX0_overlap 22 = .ok (.ireturn, 1) := by decide +kernel
theorem dX0_shareFamily_0 : decode cX0_shareFamily 0 = .ok (.iconst 0, 1) := by decide +kernel
theorem dX0_shareFamily_1 : decode cX0_shareFamily 1 = .ok (.istore_n 3, 1) := by decide +kernel
theorem dX0_shareFamily_2 : decode cX0_shareFamily 2 = .ok (.iload_n 3, 1) := by decide +kernel
theorem dX0_shareFamily_3 : decode cX0_shareFamily 3 = .ok (.iconst 1, 1) := by decide +kernel
theorem dX0_shareFamily_4 : decode cX0_shareFamily 4 = .ok (.if_icmp .gt 70, 3) := by decide +kernel
theorem dX0_shareFamily_7 : decode cX0_shareFamily 7 = .ok (.aload_n 0, 1) := by decide +kernel
theorem dX0_shareFamily_8 : decode cX0_shareFamily 8 = .ok (.getfield 29, 3) := by decide +kernel
theorem dX0_shareFamily_11 : decode cX0_shareFamily 11 = .ok (.iload_n 1, 1) := by decide +kernel
theorem dX0_shareFamily_12 : decode cX0_shareFamily 12 = .ok (.iconst 3, 1) := by decide +kernel
theorem dX0_shareFamily_13 : decode cX0_shareFamily 13 = .ok (.iload_n 3, 1) := by decide +kernel
theorem dX0_shareFamily_14 : decode cX0_shareFamily 14 = .ok (.iadd, 1) := by decide +kernel
theorem dX0_shareFamily_15 : decode cX0_shareFamily 15 = .ok (.invokevirtual 66, 3) := by decide +kernel
theorem dX0_shareFamily_18 : decode cX0_shareFamily 18 = .ok (.istore 4, 2) := by decide +kernel
theorem dX0_shareFamily_20 : decode cX0_shareFamily 20 = .ok (.iload 4, 2) := by decide +kernel
theorem dX0_shareFamily_22 : decode cX0_shareFamily 22 = .ok (.aload_n 0, 1) := by decide +kernel
theorem dX0_shareFamily_23 : decode cX0_shareFamily 23 = .ok (.getfield 29, 3) := by decide +kernel
theorem dX0_shareFamily_26 : decode cX0_shareFamily 26 = .ok (.iload_n 2, 1) := by decide +kernel
theorem dX0_shareFamily_27 : decode cX0_shareFamily 27 = .ok (.iconst 3, 1) := by decide +kernel
theorem dX0_shareFamily_28 : decode cX0_shareFamily 28 = .ok (.invokevirtual 66, 3) := by decide +kernel
theorem dX0_shareFamily_31 : decode cX0_shareFamily 31 = .ok (.if_icmp .eq 17, 3) := by decide +kernel
theorem dX0_shareFamily_34 : decode cX0_shareFamily 34 = .ok (.iload 4, 2) := by decide +kernel
theorem dX0_shareFamily_36 : decode cX0_shareFamily 36 = .ok (.aload_n 0, 1) := by decide +kernel
theorem dX0_shareFamily_37 : decode cX0_shareFamily 37 = .ok (.getfield 29, 3) := by decide +kernel
theorem dX0_shareFamily_40 : decode cX0_shareFamily 40 = .ok (.iload_n 2, 1) := by decide +kernel
theorem dX0_shareFamily_41 : decode cX0_shareFamily 41 = .ok (.iconst 4, 1) := by decide +kernel
theorem dX0_shareFamily_42 : decode cX0_shareFamily 42 = .ok (.invokevirtual 66, 3) := by decide +kernel
theorem dX0_shareFamily_45 : decode cX0_shareFamily 45 = .ok (.if_icmp .ne 7, 3) := by decide +kernel
theorem dX0_shareFamily_48 : decode cX0_shareFamily 48 = .ok (.iconst 1, 1) := by decide +kernel
theorem dX0_shareFamily_49 : decode cX0_shareFamily 49 = .ok (.goto 4, 3) := by decide +kernel
theorem dX0_shareFamily_52 : decode cX0_shareFamily 52 = .ok (.iconst 0, 1) := by decide +kernel
theorem dX0_shareFamily_53 : decode cX0_shareFamily 53 = .ok (.istore 5, 2) := by decide +kernel
theorem dX0_shareFamily_55 : decode cX0_shareFamily 55 = .ok (.iload 4, 2) := by decide +kernel
theorem dX0_shareFamily_57 : decode cX0_shareFamily 57 = .ok (.iconst (-1), 1) := by decide +kernel
theorem dX0_shareFamily_58 : decode cX0_shareFamily 58 = .ok (.if_icmp .eq 10, 3) := by decide +kernel
theorem dX0_shareFamily_61 : decode cX0_shareFamily 61 = .ok (.iload 5, 2) := by decide +kernel
theorem dX0_shareFamily_63 : decode cX0_shareFamily 63 = .ok (.ifCond .eq 5, 3) := by decide +kernel
theorem dX0_shareFamily_66 : decode cX0_shareFamily 66 = .ok (.iconst 1, 1) := by decide +kernel
theorem dX0_shareFamily_67 : decode cX0_shareFamily 67 = .ok (.ireturn, 1) := by decide +kernel
theorem dX0_shareFamily_68 : decode cX0_shareFamily 68 = .ok (.iinc 3 1, 3) := by decide +kernel
theorem dX0_shareFamily_71 : decode cX0_shareFamily 71 = .ok (.goto (-69), 3) := by decide +kernel
theorem dX0_shareFamily_74 : decode cX0_shareFamily 74 = .ok (.iconst 0, 1) := by decide +kernel
theorem dX0_shareFamily_75 : decode cX0_shareFamily 75 = .ok (.ireturn, 1) := by decide +kernel
theorem dX0_shareTrade_0 : decode cX0_shareTrade 0 = .ok (.aload_n 0, 1) := by decide +kernel
theorem dX0_shareTrade_1 : decode cX0_shareTrade 1 = .ok (.getfield 29, 3) := by decide +kernel
theorem dX0_shareTrade_4 : decode cX0_shareTrade 4 = .ok (.iload_n 1, 1) := by decide +kernel
theorem dX0_shareTrade_5 : decode cX0_shareTrade 5 = .ok (.iconst 5, 1) := by decide +kernel
theorem dX0_shareTrade_6 : decode cX0_shareTrade 6 = .ok (.invokevirtual 66, 3) := by decide +kernel
theorem dX0_shareTrade_9 : decode cX0_shareTrade 9 = .ok (.istore_n 3, 1) := by decide +kernel
theorem dX0_shareTrade_10 : decode cX0_shareTrade 10 = .ok (.iload_n 3, 1) := by decide +kernel
theorem dX0_shareTrade_11 : decode cX0_shareTrade 11 = .ok (.iconst (-1), 1) := by decide +kernel
theorem dX0_shareTrade_12 : decode cX0_shareTrade 12 = .ok (.if_icmp .eq 20, 3) := by decide +kernel
theorem dX0_shareTrade_15 : decode cX0_shareTrade 15 = .ok (.iload_n 3, 1) := by decide +kernel
theorem dX0_shareTrade_16 : decode cX0_shareTrade 16 = .ok (.aload_n 0, 1) := by decide +kernel
theorem dX0_shareTrade_17 : decode cX0_shareTrade 17 = .ok (.getfield 29, 3) := by decide +kernel
theorem dX0_shareTrade_20 : decode cX0_shareTrade 20 = .ok (.iload_n 2, 1) := by decide +kernel
theorem dX0_shareTrade_21 : decode cX0_shareTrade 21 = .ok (.iconst 5, 1) := by decide +kernel
theorem dX0_shareTrade_22 : decode cX0_shareTrade 22 = .ok (.invokevirtual 66, 3) := by decide +kernel
theorem dX0_shareTrade_25 : decode cX0_shareTrade 25 = .ok (.if_icmp .ne 7, 3) := by decide +kernel
theorem dX0_shareTrade_28 : decode cX0_shareTrade 28 = .ok (.iconst 1, 1) := by decide +kernel
theorem dX0_shareTrade_29 : decode cX0_shareTrade 29 = .ok (.goto 4, 3) := by decide +kernel
theorem dX0_shareTrade_32 : decode cX0_shareTrade 32 = .ok (.iconst 0, 1) := by decide +kernel
theorem dX0_shareTrade_33 : decode cX0_shareTrade 33 = .ok (.ireturn, 1) := by decide +kernel
theorem dX1_init_0 : decode cX1_init 0 = .ok (.aload_n 0, 1) := by decide +kernel
theorem dX1_init_1 : decode cX1_init 1 = .ok (.invokespecial 3, 3) := by decide +kernel
theorem dX1_init_4 : decode cX1_init 4 = .ok (.aload_n 0, 1) := by decide +kernel
theorem dX1_init_5 : decode cX1_init 5 = .ok (.new 9, 3) := by decide +kernel
theorem dX1_init_8 : decode cX1_init 8 = .ok (.dup, 1) := by decide +kernel
theorem dX1_init_9 : decode cX1_init 9 = .ok (.invokespecial 11, 3) := by decide +kernel
theorem dX1_init_12 : decode cX1_init 12 = .ok (.putfield 12, 3) := by decide +kernel
theorem dX1_init_15 : decode cX1_init 15 = .ok (.aload_n 0, 1) := by decide +kernel
theorem dX1_init_16 : decode cX1_init 16 = .ok (.bipush 10, 2) := by decide +kernel
theorem dX1_init_18 : decode cX1_init 18 = .ok (.anewarray 18, 3) := by decide +kernel
theorem dX1_init_21 : decode cX1_init 21 = .ok (.putfield 20, 3) := by decide +kernel
theorem dX1_init_24 : decode cX1_init 24 = .ok (.aload_n 0, 1) := by decide +kernel
theorem dX1_init_25 : decode cX1_init 25 = .ok (.new 18, 3) := by decide +kernel
theorem dX1_init_28 : decode cX1_init 28 = .ok (.dup, 1) := by decide +kernel
theorem dX1_init_29 : decode cX1_init 29 = .ok (.invokespecial 24, 3) := by decide +kernel
theorem dX1_init_32 : decode cX1_init 32 = .ok (.putfield 25, 3) := by decide +kernel
theorem dX1_init_35 : decode cX1_init 35 = .ok (.aload_n 0, 1) := by decide +kernel
theorem dX1_init_36 : decode cX1_init 36 = .ok (.bipush 50, 2) := by decide +kernel
theorem dX1_init_38 : decode cX1_init 38 = .ok (.newarray .long, 2) := by decide +kernel
theorem dX1_init_40 : decode cX1_init 40 = .ok (.putfield 29, 3) := by decide +kernel
theorem dX1_init_43 : decode cX1_init 43 = .ok (.iconst 0, 1) := by decide +kernel
theorem dX1_init_44 : decode cX1_init 44 = .ok (.istore_n 1, 1) := by decide +kernel
theorem dX1_init_45 : decode cX1_init 45 = .ok (.iload_n 1, 1) := by decide +kernel
theorem dX1_init_46 : decode cX1_init 46 = .ok (.bipush 10, 2) := by decide +kernel
theorem dX1_init_48 : decode cX1_init 48 = .ok (.if_icmp .ge 22, 3) := by decide +kernel
theorem dX1_init_51 : decode cX1_init 51 = .ok (.aload_n 0, 1) := by decide +kernel
theorem dX1_init_52 : decode cX1_init 52 = .ok (.getfield 20, 3) := by decide +kernel
theorem dX1_init_55 : decode cX1_init 55 = .ok (.iload_n 1, 1) := by decide +kernel
theorem dX1_init_56 : decode cX1_init 56 = .ok (.new 18, 3) := by decide +kernel
theorem dX1_init_59 : decode cX1_init 59 = .ok (.dup, 1) := by decide +kernel
theorem dX1_init_60 : decode cX1_init 60 = .ok (.invokespecial 24, 3) := by decide +kernel
theorem dX1_init_63 : decode cX1_init 63 = .ok (.aastore, 1) := by decide +kernel
theorem dX1_init_64 : decode cX1_init 64 = .ok (.iinc 1 1, 3) := by decide +kernel
theorem dX1_init_67 : decode cX1_init 67 = .ok (.goto (-22), 3) := by decide +kernel
theorem dX1_init_70 : decode cX1_init 70 = .ok (.return_, 1) := by decide +kernel
theorem dX1_hearing_0 : decode cX1_hearing 0 = .ok (.iload_n 1, 1) := by decide +kernel
theorem dX1_hearing_1 : decode cX1_hearing 1 = .ok (.ifCond .lt 18, 3) := by decide +kernel
theorem dX1_hearing_4 : decode cX1_hearing 4 = .ok (.iload_n 1, 1) := by decide +kernel
theorem dX1_hearing_5 : decode cX1_hearing 5 = .ok (.bipush 10, 2) := by decide +kernel
theorem dX1_hearing_7 : decode cX1_hearing 7 = .ok (.if_icmp .ge 12, 3) := by decide +kernel
theorem dX1_hearing_10 : decode cX1_hearing 10 = .ok (.aload_n 0, 1) := by decide +kernel
theorem dX1_hearing_11 : decode cX1_hearing 11 = .ok (.getfield 20, 3) := by decide +kernel
theorem dX1_hearing_14 : decode cX1_hearing 14 = .ok (.iload_n 1, 1) := by decide +kernel
theorem dX1_hearing_15 : decode cX1_hearing 15 = .ok (.aaload, 1) := by decide +kernel
theorem dX1_hearing_16 : decode cX1_hearing 16 = .ok (.goto 7, 3) := by decide +kernel
theorem dX1_hearing_19 : decode cX1_hearing 19 = .ok (.aload_n 0, 1) := by decide +kernel
theorem dX1_hearing_20 : decode cX1_hearing 20 = .ok (.getfield 25, 3) := by decide +kernel
theorem dX1_hearing_23 : decode cX1_hearing 23 = .ok (.areturn, 1) := by decide +kernel
theorem dX1_unsettle_0 : decode cX1_unsettle 0 = .ok (.aload_n 0, 1) := by decide +kernel
theorem dX1_unsettle_1 : decode cX1_unsettle 1 = .ok (.aload_n 0, 1) := by decide +kernel
theorem dX1_unsettle_2 : decode cX1_unsettle 2 = .ok (.getfield 33, 3) := by decide +kernel
theorem dX1_unsettle_5 : decode cX1_unsettle 5 = .ok (.iload_n 1, 1) := by decide +kernel
theorem dX1_unsettle_6 : decode cX1_unsettle 6 = .ok (.invokestatic 37, 3) := by decide +kernel
theorem dX1_unsettle_9 : decode cX1_unsettle 9 = .ok (.putfield 33, 3) := by decide +kernel
theorem dX1_unsettle_12 : decode cX1_unsettle 12 = .ok (.return_, 1) := by decide +kernel
theorem dX1_settle_0 : decode cX1_settle 0 = .ok (.aload_n 0, 1) := by decide +kernel
theorem dX1_settle_1 : decode cX1_settle 1 = .ok (.getfield 33, 3) := by decide +kernel
theorem dX1_settle_4 : decode cX1_settle 4 = .ok (.istore_n 1, 1) := by decide +kernel
theorem dX1_settle_5 : decode cX1_settle 5 = .ok (.iload_n 1, 1) := by decide +kernel
theorem dX1_settle_6 : decode cX1_settle 6 = .ok (.aload_n 0, 1) := by decide +kernel
theorem dX1_settle_7 : decode cX1_settle 7 = .ok (.getfield 12, 3) := by decide +kernel
theorem dX1_settle_10 : decode cX1_settle 10 = .ok (.getfield 43, 3) := by decide +kernel
theorem dX1_settle_13 : decode cX1_settle 13 = .ok (.invokevirtual 47, 3) := by decide +kernel
theorem dX1_settle_16 : decode cX1_settle 16 = .ok (.if_icmp .ge 50, 3) := by decide +kernel
theorem dX1_settle_19 : decode cX1_settle 19 = .ok (.aload_n 0, 1) := by decide +kernel
theorem dX1_settle_20 : decode cX1_settle 20 = .ok (.getfield 12, 3) := by decide +kernel
theorem dX1_settle_23 : decode cX1_settle 23 = .ok (.getfield 43, 3) := by decide +kernel
theorem dX1_settle_26 : decode cX1_settle 26 = .ok (.iload_n 1, 1) := by decide +kernel
theorem dX1_settle_27 : decode cX1_settle 27 = .ok (.iconst 0, 1) := by decide +kernel
theorem dX1_settle_28 : decode cX1_settle 28 = .ok (.invokevirtual 53, 3) := by decide +kernel
theorem dX1_settle_31 : decode cX1_settle 31 = .ok (.istore_n 2, 1) := by decide +kernel
theorem dX1_settle_32 : decode cX1_settle 32 = .ok (.aload_n 0, 1) := by decide +kernel
theorem dX1_settle_33 : decode cX1_settle 33 = .ok (.iload_n 1, 1) := by decide +kernel
theorem dX1_settle_34 : decode cX1_settle 34 = .ok (.aload_n 0, 1) := by decide +kernel
theorem dX1_settle_35 : decode cX1_settle 35 = .ok (.iload_n 1, 1) := by decide +kernel
theorem dX1_settle_36 : decode cX1_settle 36 = .ok (.invokevirtual 56, 3) := by decide +kernel
theorem dX1_settle_39 : decode cX1_settle 39 = .ok (.aload_n 0, 1) := by decide +kernel
theorem dX1_settle_40 : decode cX1_settle 40 = .ok (.getfield 12, 3) := by decide +kernel
theorem dX1_settle_43 : decode cX1_settle 43 = .ok (.iconst 0, 1) := by decide +kernel
theorem dX1_settle_44 : decode cX1_settle 44 = .ok (.iload_n 2, 1) := by decide +kernel
theorem dX1_settle_45 : decode cX1_settle 45 = .ok (.invokevirtual 60, 3) := by decide +kernel
theorem dX1_settle_48 : decode cX1_settle 48 = .ok (.aload_n 0, 1) := by decide +kernel
theorem dX1_settle_49 : decode cX1_settle 49 = .ok (.getfield 12, 3) := by decide +kernel
theorem dX1_settle_52 : decode cX1_settle 52 = .ok (.iconst 1, 1) := by decide +kernel
theorem dX1_settle_53 : decode cX1_settle 53 = .ok (.iload_n 2, 1) := by decide +kernel
theorem dX1_settle_54 : decode cX1_settle 54 = .ok (.invokevirtual 60, 3) := by decide +kernel
theorem dX1_settle_57 : decode cX1_settle 57 = .ok (.invokevirtual 64, 3) := by decide +kernel
theorem dX1_settle_60 : decode cX1_settle 60 = .ok (.iinc 1 1, 3) := by decide +kernel
theorem dX1_settle_63 : decode cX1_settle 63 = .ok (.goto (-58), 3) := by decide +kernel
theorem dX1_settle_66 : decode cX1_settle 66 = .ok (.aload_n 0, 1) := by decide +kernel
theorem dX1_settle_67 : decode cX1_settle 67 = .ok (.aload_n 0, 1) := by decide +kernel
theorem dX1_settle_68 : decode cX1_settle 68 = .ok (.getfield 12, 3) := by decide +kernel
theorem dX1_settle_71 : decode cX1_settle 71 = .ok (.getfield 43, 3) := by decide +kernel
theorem dX1_settle_74 : decode cX1_settle 74 = .ok (.invokevirtual 47, 3) := by decide +kernel
theorem dX1_settle_77 : decode cX1_settle 77 = .ok (.putfield 33, 3) := by decide +kernel
theorem dX1_settle_80 : decode cX1_settle 80 = .ok (.return_, 1) := by decide +kernel
theorem dX1_hear_0 : decode cX1_hear 0 = .ok (.aload_n 0, 1) := by decide +kernel
theorem dX1_hear_1 : decode cX1_hear 1 = .ok (.getfield 12, 3) := by decide +kernel
theorem dX1_hear_4 : decode cX1_hear 4 = .ok (.getfield 43, 3) := by decide +kernel
theorem dX1_hear_7 : decode cX1_hear 7 = .ok (.astore 5, 2) := by decide +kernel
theorem dX1_hear_9 : decode cX1_hear 9 = .ok (.aload 5, 2) := by decide +kernel
theorem dX1_hear_11 : decode cX1_hear 11 = .ok (.iload_n 1, 1) := by decide +kernel
theorem dX1_hear_12 : decode cX1_hear 12 = .ok (.iconst 0, 1) := by decide +kernel
theorem dX1_hear_13 : decode cX1_hear 13 = .ok (.invokevirtual 53, 3) := by decide +kernel
theorem dX1_hear_16 : decode cX1_hear 16 = .ok (.istore 6, 2) := by decide +kernel
theorem dX1_hear_18 : decode cX1_hear 18 = .ok (.aload_n 0, 1) := by decide +kernel
theorem dX1_hear_19 : decode cX1_hear 19 = .ok (.getfield 12, 3) := by decide +kernel
theorem dX1_hear_22 : decode cX1_hear 22 = .ok (.invokevirtual 68, 3) := by decide +kernel
theorem dX1_hear_25 : decode cX1_hear 25 = .ok (.aload_n 0, 1) := by decide +kernel
theorem dX1_hear_26 : decode cX1_hear 26 = .ok (.getfield 12, 3) := by decide +kernel
theorem dX1_hear_29 : decode cX1_hear 29 = .ok (.iload_n 1, 1) := by decide +kernel
theorem dX1_hear_30 : decode cX1_hear 30 = .ok (.iload 6, 2) := by decide +kernel
theorem dX1_hear_32 : decode cX1_hear 32 = .ok (.invokevirtual 71, 3) := by decide +kernel
theorem dX1_hear_35 : decode cX1_hear 35 = .ok (.iconst (-1), 1) := by decide +kernel
theorem dX1_hear_36 : decode cX1_hear 36 = .ok (.ixor, 1) := by decide +kernel
theorem dX1_hear_37 : decode cX1_hear 37 = .ok (.iand, 1) := by decide +kernel
theorem dX1_hear_38 : decode cX1_hear 38 = .ok (.aload_n 0, 1) := by decide +kernel
theorem dX1_hear_39 : decode cX1_hear 39 = .ok (.iload_n 1, 1) := by decide +kernel
theorem dX1_hear_40 : decode cX1_hear 40 = .ok (.invokevirtual 74, 3) := by decide +kernel
theorem dX1_hear_43 : decode cX1_hear 43 = .ok (.iconst (-1), 1) := by decide +kernel
theorem dX1_hear_44 : decode cX1_hear 44 = .ok (.ixor, 1) := by decide +kernel
theorem dX1_hear_45 : decode cX1_hear 45 = .ok (.iand, 1) := by decide +kernel
theorem dX1_hear_46 : decode cX1_hear 46 = .ok (.istore 7, 2) := by decide +kernel
theorem dX1_hear_48 : decode cX1_hear 48 = .ok (.aload_n 0, 1) := by decide +kernel
theorem dX1_hear_49 : decode cX1_hear 49 = .ok (.aload_n 3, 1) := by decide +kernel
theorem dX1_hear_50 : decode cX1_hear 50 = .ok (.iconst 0, 1) := by decide +kernel
theorem dX1_hear_51 : decode cX1_hear 51 = .ok (.iload 6, 2) := by decide +kernel
theorem dX1_hear_53 : decode cX1_hear 53 = .ok (.iload 7, 2) := by decide +kernel
theorem dX1_hear_55 : decode cX1_hear 55 = .ok (.invokevirtual 78, 3) := by decide +kernel
theorem dX1_hear_58 : decode cX1_hear 58 = .ok (.istore 8, 2) := by decide +kernel
theorem dX1_hear_60 : decode cX1_hear 60 = .ok (.iload 8, 2) := by decide +kernel
theorem dX1_hear_62 : decode cX1_hear 62 = .ok (.aload_n 0, 1) := by decide +kernel
theorem dX1_hear_63 : decode cX1_hear 63 = .ok (.getfield 12, 3) := by decide +kernel
theorem dX1_hear_66 : decode cX1_hear 66 = .ok (.iload 6, 2) := by decide +kernel
theorem dX1_hear_68 : decode cX1_hear 68 = .ok (.invokevirtual 82, 3) := by decide +kernel
theorem dX1_hear_71 : decode cX1_hear 71 = .ok (.iand, 1) := by decide +kernel
theorem dX1_hear_72 : decode cX1_hear 72 = .ok (.aload_n 0, 1) := by decide +kernel
theorem dX1_hear_73 : decode cX1_hear 73 = .ok (.getfield 12, 3) := by decide +kernel
theorem dX1_hear_76 : decode cX1_hear 76 = .ok (.iload_n 1, 1) := by decide +kernel
theorem dX1_hear_77 : decode cX1_hear 77 = .ok (.invokevirtual 85, 3) := by decide +kernel
theorem dX1_hear_80 : decode cX1_hear 80 = .ok (.iand, 1) := by decide +kernel
theorem dX1_hear_81 : decode cX1_hear 81 = .ok (.istore 9, 2) := by decide +kernel
theorem dX1_hear_83 : decode cX1_hear 83 = .ok (.aload_n 0, 1) := by decide +kernel
theorem dX1_hear_84 : decode cX1_hear 84 = .ok (.aload 4, 2) := by decide +kernel
theorem dX1_hear_86 : decode cX1_hear 86 = .ok (.iconst 1, 1) := by decide +kernel
theorem dX1_hear_87 : decode cX1_hear 87 = .ok (.iload 6, 2) := by decide +kernel
theorem dX1_hear_89 : decode cX1_hear 89 = .ok (.iload 9, 2) := by decide +kernel
theorem dX1_hear_91 : decode cX1_hear 91 = .ok (.invokevirtual 78, 3) := by decide +kernel
theorem dX1_hear_94 : decode cX1_hear 94 = .ok (.istore 10, 2) := by decide +kernel
theorem dX1_hear_96 : decode cX1_hear 96 = .ok (.aload_n 2, 1) := by decide +kernel
theorem dX1_hear_97 : decode cX1_hear 97 = .ok (.iload 9, 2) := by decide +kernel
theorem dX1_hear_99 : decode cX1_hear 99 = .ok (.iload 10, 2) := by decide +kernel
theorem dX1_hear_101 : decode cX1_hear 101 = .ok (.iconst (-1), 1) := by decide +kernel
theorem dX1_hear_102 : decode cX1_hear 102 = .ok (.ixor, 1) := by decide +kernel
theorem dX1_hear_103 : decode cX1_hear 103 = .ok (.iand, 1) := by decide +kernel
theorem dX1_hear_104 : decode cX1_hear 104 = .ok (.aload 5, 2) := by decide +kernel
theorem dX1_hear_106 : decode cX1_hear 106 = .ok (.iload_n 1, 1) := by decide +kernel
theorem dX1_hear_107 : decode cX1_hear 107 = .ok (.bipush 7, 2) := by decide +kernel
theorem dX1_hear_109 : decode cX1_hear 109 = .ok (.invokevirtual 53, 3) := by decide +kernel
theorem dX1_hear_112 : decode cX1_hear 112 = .ok (.aload 5, 2) := by decide +kernel
theorem dX1_hear_114 : decode cX1_hear 114 = .ok (.iload_n 1, 1) := by decide +kernel
theorem dX1_hear_115 : decode cX1_hear 115 = .ok (.bipush 8, 2) := by decide +kernel
theorem dX1_hear_117 : decode cX1_hear 117 = .ok (.invokevirtual 53, 3) := by decide +kernel
theorem dX1_hear_120 : decode cX1_hear 120 = .ok (.invokevirtual 88, 3) := by decide +kernel
theorem dX1_hear_123 : decode cX1_hear 123 = .ok (.aload_n 2, 1) := by decide +kernel
theorem dX1_hear_124 : decode cX1_hear 124 = .ok (.aload 5, 2) := by decide +kernel
theorem dX1_hear_126 : decode cX1_hear 126 = .ok (.iload_n 1, 1) := by decide +kernel
theorem dX1_hear_127 : decode cX1_hear 127 = .ok (.invokevirtual 92, 3) := by decide +kernel
theorem dX1_hear_130 : decode cX1_hear 130 = .ok (.aload_n 2, 1) := by decide +kernel
theorem dX1_hear_131 : decode cX1_hear 131 = .ok (.aload 5, 2) := by decide +kernel
theorem dX1_hear_133 : decode cX1_hear 133 = .ok (.iload_n 1, 1) := by decide +kernel
theorem dX1_hear_134 : decode cX1_hear 134 = .ok (.iconst 2, 1) := by decide +kernel
theorem dX1_hear_135 : decode cX1_hear 135 = .ok (.invokevirtual 53, 3) := by decide +kernel
theorem dX1_hear_138 : decode cX1_hear 138 = .ok (.iload 8, 2) := by decide +kernel
theorem dX1_hear_140 : decode cX1_hear 140 = .ok (.aload_n 2, 1) := by decide +kernel
theorem dX1_hear_141 : decode cX1_hear 141 = .ok (.getfield 96, 3) := by decide +kernel
theorem dX1_hear_144 : decode cX1_hear 144 = .ok (.iconst (-1), 1) := by decide +kernel
theorem dX1_hear_145 : decode cX1_hear 145 = .ok (.ixor, 1) := by decide +kernel
theorem dX1_hear_146 : decode cX1_hear 146 = .ok (.iand, 1) := by decide +kernel
theorem dX1_hear_147 : decode cX1_hear 147 = .ok (.invokevirtual 99, 3) := by decide +kernel
theorem dX1_hear_150 : decode cX1_hear 150 = .ok (.return_, 1) := by decide +kernel
theorem dX1_busy_0 : decode cX1_busy 0 = .ok (.iconst 0, 1) := by decide +kernel
theorem dX1_busy_1 : decode cX1_busy 1 = .ok (.istore_n 2, 1) := by decide +kernel
theorem dX1_busy_2 : decode cX1_busy 2 = .ok (.iconst 0, 1) := by decide +kernel
theorem dX1_busy_3 : decode cX1_busy 3 = .ok (.istore_n 3, 1) := by decide +kernel
theorem dX1_busy_4 : decode cX1_busy 4 = .ok (.iload_n 3, 1) := by decide +kernel
theorem dX1_busy_5 : decode cX1_busy 5 = .ok (.iload_n 1, 1) := by decide +kernel
theorem dX1_busy_6 : decode cX1_busy 6 = .ok (.if_icmp .ge 32, 3) := by decide +kernel
theorem dX1_busy_9 : decode cX1_busy 9 = .ok (.aload_n 0, 1) := by decide +kernel
theorem dX1_busy_10 : decode cX1_busy 10 = .ok (.getfield 12, 3) := by decide +kernel
theorem dX1_busy_13 : decode cX1_busy 13 = .ok (.iload_n 3, 1) := by decide +kernel
theorem dX1_busy_14 : decode cX1_busy 14 = .ok (.iload_n 1, 1) := by decide +kernel
theorem dX1_busy_15 : decode cX1_busy 15 = .ok (.invokevirtual 103, 3) := by decide +kernel
theorem dX1_busy_18 : decode cX1_busy 18 = .ok (.ifCond .eq 14, 3) := by decide +kernel
theorem dX1_busy_21 : decode cX1_busy 21 = .ok (.iload_n 2, 1) := by decide +kernel
theorem dX1_busy_22 : decode cX1_busy 22 = .ok (.aload_n 0, 1) := by decide +kernel
theorem dX1_busy_23 : decode cX1_busy 23 = .ok (.iload_n 3, 1) := by decide +kernel
theorem dX1_busy_24 : decode cX1_busy 24 = .ok (.invokevirtual 56, 3) := by decide +kernel
theorem dX1_busy_27 : decode cX1_busy 27 = .ok (.getfield 107, 3) := by decide +kernel
theorem dX1_busy_30 : decode cX1_busy 30 = .ok (.ior, 1) := by decide +kernel
theorem dX1_busy_31 : decode cX1_busy 31 = .ok (.istore_n 2, 1) := by decide +kernel
theorem dX1_busy_32 : decode cX1_busy 32 = .ok (.iinc 3 1, 3) := by decide +kernel
theorem dX1_busy_35 : decode cX1_busy 35 = .ok (.goto (-31), 3) := by decide +kernel
theorem dX1_busy_38 : decode cX1_busy 38 = .ok (.iload_n 2, 1) := by decide +kernel
theorem dX1_busy_39 : decode cX1_busy 39 = .ok (.ireturn, 1) := by decide +kernel
theorem dX1_truths_0 : decode cX1_truths 0 = .ok (.aload_n 1, 1) := by decide +kernel
theorem dX1_truths_1 : decode cX1_truths 1 = .ok (.ifnonnull 14, 3) := by decide +kernel
theorem dX1_truths_4 : decode cX1_truths 4 = .ok (.iload_n 2, 1) := by decide +kernel
theorem dX1_truths_5 : decode cX1_truths 5 = .ok (.ifCond .ne 8, 3) := by decide +kernel
theorem dX1_truths_8 : decode cX1_truths 8 = .ok (.iload 4, 2) := by decide +kernel
theorem dX1_truths_10 : decode cX1_truths 10 = .ok (.goto 4, 3) := by decide +kernel
theorem dX1_truths_13 : decode cX1_truths 13 = .ok (.iconst 0, 1) := by decide +kernel
theorem dX1_truths_14 : decode cX1_truths 14 = .ok (.ireturn, 1) := by decide +kernel
theorem dX1_truths_15 : decode cX1_truths 15 = .ok (.iconst 0, 1) := by decide +kernel
theorem dX1_truths_16 : decode cX1_truths 16 = .ok (.istore 5, 2) := by decide +kernel
theorem dX1_truths_18 : decode cX1_truths 18 = .ok (.iconst 0, 1) := by decide +kernel
theorem dX1_truths_19 : decode cX1_truths 19 = .ok (.istore 6, 2) := by decide +kernel
theorem dX1_truths_21 : decode cX1_truths 21 = .ok (.iload 6, 2) := by decide +kernel
theorem dX1_truths_23 : decode cX1_truths 23 = .ok (.aload_n 0, 1) := by decide +kernel
theorem dX1_truths_24 : decode cX1_truths 24 = .ok (.getfield 12, 3) := by decide +kernel
theorem dX1_truths_27 : decode cX1_truths 27 = .ok (.getfield 110, 3) := by decide +kernel
theorem dX1_truths_30 : decode cX1_truths 30 = .ok (.invokevirtual 47, 3) := by decide +kernel
theorem dX1_truths_33 : decode cX1_truths 33 = .ok (.if_icmp .ge 41, 3) := by decide +kernel
theorem dX1_truths_36 : decode cX1_truths 36 = .ok (.iload 4, 2) := by decide +kernel
theorem dX1_truths_38 : decode cX1_truths 38 = .ok (.iload 6, 2) := by decide +kernel
theorem dX1_truths_40 : decode cX1_truths 40 = .ok (.invokestatic 113, 3) := by decide +kernel
theorem dX1_truths_43 : decode cX1_truths 43 = .ok (.ifCond .eq 25, 3) := by decide +kernel
theorem dX1_truths_46 : decode cX1_truths 46 = .ok (.aload_n 0, 1) := by decide +kernel
theorem dX1_truths_47 : decode cX1_truths 47 = .ok (.aload_n 1, 1) := by decide +kernel
theorem dX1_truths_48 : decode cX1_truths 48 = .ok (.iload 6, 2) := by decide +kernel
theorem dX1_truths_50 : decode cX1_truths 50 = .ok (.iload_n 3, 1) := by decide +kernel
theorem dX1_truths_51 : decode cX1_truths 51 = .ok (.invokevirtual 116, 3) := by decide +kernel
theorem dX1_truths_54 : decode cX1_truths 54 = .ok (.lconst 0, 1) := by decide +kernel
theorem dX1_truths_55 : decode cX1_truths 55 = .ok (.lcmp, 1) := by decide +kernel
theorem dX1_truths_56 : decode cX1_truths 56 = .ok (.ifCond .eq 12, 3) := by decide +kernel
theorem dX1_truths_59 : decode cX1_truths 59 = .ok (.iload 5, 2) := by decide +kernel
theorem dX1_truths_61 : decode cX1_truths 61 = .ok (.iconst 1, 1) := by decide +kernel
theorem dX1_truths_62 : decode cX1_truths 62 = .ok (.iload 6, 2) := by decide +kernel
theorem dX1_truths_64 : decode cX1_truths 64 = .ok (.ishl, 1) := by decide +kernel
theorem dX1_truths_65 : decode cX1_truths 65 = .ok (.ior, 1) := by decide +kernel
theorem dX1_truths_66 : decode cX1_truths 66 = .ok (.istore 5, 2) := by decide +kernel
theorem dX1_truths_68 : decode cX1_truths 68 = .ok (.iinc 6 1, 3) := by decide +kernel
theorem dX1_truths_71 : decode cX1_truths 71 = .ok (.goto (-50), 3) := by decide +kernel
theorem dX1_truths_74 : decode cX1_truths 74 = .ok (.iload 5, 2) := by decide +kernel
theorem dX1_truths_76 : decode cX1_truths 76 = .ok (.ireturn, 1) := by decide +kernel
theorem dX1_tell_0 : decode cX1_tell 0 = .ok (.iconst 0, 1) := by decide +kernel
theorem dX1_tell_1 : decode cX1_tell 1 = .ok (.istore 4, 2) := by decide +kernel
theorem dX1_tell_3 : decode cX1_tell 3 = .ok (.iconst 0, 1) := by decide +kernel
theorem dX1_tell_4 : decode cX1_tell 4 = .ok (.istore 5, 2) := by decide +kernel
theorem dX1_tell_6 : decode cX1_tell 6 = .ok (.iload 5, 2) := by decide +kernel
theorem dX1_tell_8 : decode cX1_tell 8 = .ok (.aload_n 1, 1) := by decide +kernel
theorem dX1_tell_9 : decode cX1_tell 9 = .ok (.invokevirtual 120, 3) := by decide +kernel
theorem dX1_tell_12 : decode cX1_tell 12 = .ok (.if_icmp .ge 159, 3) := by decide +kernel
theorem dX1_tell_15 : decode cX1_tell 15 = .ok (.aload_n 1, 1) := by decide +kernel
theorem dX1_tell_16 : decode cX1_tell 16 = .ok (.iload 5, 2) := by decide +kernel
theorem dX1_tell_18 : decode cX1_tell 18 = .ok (.invokevirtual 125, 3) := by decide +kernel
theorem dX1_tell_21 : decode cX1_tell 21 = .ok (.istore 6, 2) := by decide +kernel
theorem dX1_tell_23 : decode cX1_tell 23 = .ok (.iload 6, 2) := by decide +kernel
theorem dX1_tell_25 : decode cX1_tell 25 = .ok (.ifCond .ge 12, 3) := by decide +kernel
theorem dX1_tell_28 : decode cX1_tell 28 = .ok (.iload 6, 2) := by decide +kernel
theorem dX1_tell_30 : decode cX1_tell 30 = .ok (.ineg, 1) := by decide +kernel
theorem dX1_tell_31 : decode cX1_tell 31 = .ok (.invokestatic 128, 3) := by decide +kernel
theorem dX1_tell_34 : decode cX1_tell 34 = .ok (.goto 4, 3) := by decide +kernel
theorem dX1_tell_37 : decode cX1_tell 37 = .ok (.iconst 0, 1) := by decide +kernel
theorem dX1_tell_38 : decode cX1_tell 38 = .ok (.istore 7, 2) := by decide +kernel
theorem dX1_tell_40 : decode cX1_tell 40 = .ok (.iload 7, 2) := by decide +kernel
theorem dX1_tell_42 : decode cX1_tell 42 = .ok (.ifCond .ne 43, 3) := by decide +kernel
theorem dX1_tell_45 : decode cX1_tell 45 = .ok (.iload 4, 2) := by decide +kernel
theorem dX1_tell_47 : decode cX1_tell 47 = .ok (.bipush 50, 2) := by decide +kernel
theorem dX1_tell_49 : decode cX1_tell 49 = .ok (.if_icmp .ge 36, 3) := by decide +kernel
theorem dX1_tell_52 : decode cX1_tell 52 = .ok (.aload_n 0, 1) := by decide +kernel
theorem dX1_tell_53 : decode cX1_tell 53 = .ok (.getfield 29, 3) := by decide +kernel
theorem dX1_tell_56 : decode cX1_tell 56 = .ok (.iload 4, 2) := by decide +kernel
theorem dX1_tell_58 : decode cX1_tell 58 = .ok (.iload 6, 2) := by decide +kernel
theorem dX1_tell_60 : decode cX1_tell 60 = .ok (.ifCond .lt 9, 3) := by decide +kernel
theorem dX1_tell_63 : decode cX1_tell 63 = .ok (.iload 6, 2) := by decide +kernel
theorem dX1_tell_65 : decode cX1_tell 65 = .ok (.i2l, 1) := by decide +kernel
theorem dX1_tell_66 : decode cX1_tell 66 = .ok (.goto 12, 3) := by decide +kernel
theorem dX1_tell_69 : decode cX1_tell 69 = .ok (.aload_n 0, 1) := by decide +kernel
theorem dX1_tell_70 : decode cX1_tell 70 = .ok (.iload 6, 2) := by decide +kernel
theorem dX1_tell_72 : decode cX1_tell 72 = .ok (.ineg, 1) := by decide +kernel
theorem dX1_tell_73 : decode cX1_tell 73 = .ok (.iload_n 2, 1) := by decide +kernel
theorem dX1_tell_74 : decode cX1_tell 74 = .ok (.iload_n 3, 1) := by decide +kernel
theorem dX1_tell_75 : decode cX1_tell 75 = .ok (.invokevirtual 133, 3) := by decide +kernel
theorem dX1_tell_78 : decode cX1_tell 78 = .ok (.lastore, 1) := by decide +kernel
theorem dX1_tell_79 : decode cX1_tell 79 = .ok (.iinc 4 1, 3) := by decide +kernel
theorem dX1_tell_82 : decode cX1_tell 82 = .ok (.goto 83, 3) := by decide +kernel
theorem dX1_tell_85 : decode cX1_tell 85 = .ok (.iload 7, 2) := by decide +kernel
theorem dX1_tell_87 : decode cX1_tell 87 = .ok (.bipush 6, 2) := by decide +kernel
theorem dX1_tell_89 : decode cX1_tell 89 = .ok (.if_icmp .ne 36, 3) := by decide +kernel
theorem dX1_tell_92 : decode cX1_tell 92 = .ok (.iload 4, 2) := by decide +kernel
theorem dX1_tell_94 : decode cX1_tell 94 = .ok (.iconst 1, 1) := by decide +kernel
theorem dX1_tell_95 : decode cX1_tell 95 = .ok (.if_icmp .lt 30, 3) := by decide +kernel
theorem dX1_tell_98 : decode cX1_tell 98 = .ok (.aload_n 0, 1) := by decide +kernel
theorem dX1_tell_99 : decode cX1_tell 99 = .ok (.getfield 29, 3) := by decide +kernel
theorem dX1_tell_102 : decode cX1_tell 102 = .ok (.iload 4, 2) := by decide +kernel
theorem dX1_tell_104 : decode cX1_tell 104 = .ok (.iconst 1, 1) := by decide +kernel
theorem dX1_tell_105 : decode cX1_tell 105 = .ok (.isub, 1) := by decide +kernel
theorem dX1_tell_106 : decode cX1_tell 106 = .ok (.iload 6, 2) := by decide +kernel
theorem dX1_tell_108 : decode cX1_tell 108 = .ok (.ineg, 1) := by decide +kernel
theorem dX1_tell_109 : decode cX1_tell 109 = .ok (.aload_n 0, 1) := by decide +kernel
theorem dX1_tell_110 : decode cX1_tell 110 = .ok (.getfield 29, 3) := by decide +kernel
theorem dX1_tell_113 : decode cX1_tell 113 = .ok (.iload 4, 2) := by decide +kernel
theorem dX1_tell_115 : decode cX1_tell 115 = .ok (.iconst 1, 1) := by decide +kernel
theorem dX1_tell_116 : decode cX1_tell 116 = .ok (.isub, 1) := by decide +kernel
theorem dX1_tell_117 : decode cX1_tell 117 = .ok (.laload, 1) := by decide +kernel
theorem dX1_tell_118 : decode cX1_tell 118 = .ok (.invokestatic 137, 3) := by decide +kernel
theorem dX1_tell_121 : decode cX1_tell 121 = .ok (.lastore, 1) := by decide +kernel
theorem dX1_tell_122 : decode cX1_tell 122 = .ok (.goto 43, 3) := by decide +kernel
theorem dX1_tell_125 : decode cX1_tell 125 = .ok (.iload 4, 2) := by decide +kernel
theorem dX1_tell_127 : decode cX1_tell 127 = .ok (.iconst 2, 1) := by decide +kernel
theorem dX1_tell_128 : decode cX1_tell 128 = .ok (.if_icmp .lt 37, 3) := by decide +kernel
theorem dX1_tell_131 : decode cX1_tell 131 = .ok (.iinc 4 (-1), 3) := by decide +kernel
theorem dX1_tell_134 : decode cX1_tell 134 = .ok (.aload_n 0, 1) := by decide +kernel
theorem dX1_tell_135 : decode cX1_tell 135 = .ok (.getfield 29, 3) := by decide +kernel
theorem dX1_tell_138 : decode cX1_tell 138 = .ok (.iload 4, 2) := by decide +kernel
theorem dX1_tell_140 : decode cX1_tell 140 = .ok (.iconst 1, 1) := by decide +kernel
theorem dX1_tell_141 : decode cX1_tell 141 = .ok (.isub, 1) := by decide +kernel
theorem dX1_tell_142 : decode cX1_tell 142 = .ok (.iload 6, 2) := by decide +kernel
theorem dX1_tell_144 : decode cX1_tell 144 = .ok (.ineg, 1) := by decide +kernel
theorem dX1_tell_145 : decode cX1_tell 145 = .ok (.aload_n 0, 1) := by decide +kernel
theorem dX1_tell_146 : decode cX1_tell 146 = .ok (.getfield 29, 3) := by decide +kernel
theorem dX1_tell_149 : decode cX1_tell 149 = .ok (.iload 4, 2) := by decide +kernel
theorem dX1_tell_151 : decode cX1_tell 151 = .ok (.iconst 1, 1) := by decide +kernel
theorem dX1_tell_152 : decode cX1_tell 152 = .ok (.isub, 1) := by decide +kernel
theorem dX1_tell_153 : decode cX1_tell 153 = .ok (.laload, 1) := by decide +kernel
theorem dX1_tell_154 : decode cX1_tell 154 = .ok (.aload_n 0, 1) := by decide +kernel
theorem dX1_tell_155 : decode cX1_tell 155 = .ok (.getfield 29, 3) := by decide +kernel
theorem dX1_tell_158 : decode cX1_tell 158 = .ok (.iload 4, 2) := by decide +kernel
theorem dX1_tell_160 : decode cX1_tell 160 = .ok (.laload, 1) := by decide +kernel
theorem dX1_tell_161 : decode cX1_tell 161 = .ok (.invokestatic 141, 3) := by decide +kernel
theorem dX1_tell_164 : decode cX1_tell 164 = .ok (.lastore, 1) := by decide +kernel
theorem dX1_tell_165 : decode cX1_tell 165 = .ok (.iinc 5 1, 3) := by decide +kernel
theorem dX1_tell_168 : decode cX1_tell 168 = .ok (.goto (-162), 3) := by decide +kernel
theorem dX1_tell_171 : decode cX1_tell 171 = .ok (.aload_n 0, 1) := by decide +kernel
theorem dX1_tell_172 : decode cX1_tell 172 = .ok (.getfield 29, 3) := by decide +kernel
theorem dX1_tell_175 : decode cX1_tell 175 = .ok (.iconst 0, 1) := by decide +kernel
theorem dX1_tell_176 : decode cX1_tell 176 = .ok (.laload, 1) := by decide +kernel
theorem dX1_tell_177 : decode cX1_tell 177 = .ok (.lreturn, 1) := by decide +kernel
theorem dX1_letter_0 : decode cX1_letter 0 = .ok (.iload_n 1, 1) := by decide +kernel
theorem dX1_letter_1 : decode cX1_letter 1 = .ok (.lookupswitch 120 #[(97, 51), (108, 70), (112, 98), (115, 112), (116, 84)], 51) := by decide +kernel
theorem dX1_letter_52 : decode cX1_letter 52 = .ok (.iload_n 3, 1) := by decide +kernel
theorem dX1_letter_53 : decode cX1_letter 53 = .ok (.invokestatic 145, 3) := by decide +kernel
theorem dX1_letter_56 : decode cX1_letter 56 = .ok (.aload_n 0, 1) := by decide +kernel
theorem dX1_letter_57 : decode cX1_letter 57 = .ok (.getfield 12, 3) := by decide +kernel
theorem dX1_letter_60 : decode cX1_letter 60 = .ok (.getfield 110, 3) := by decide +kernel
theorem dX1_letter_63 : decode cX1_letter 63 = .ok (.iload_n 2, 1) := by decide +kernel
theorem dX1_letter_64 : decode cX1_letter 64 = .ok (.iconst 3, 1) := by decide +kernel
theorem dX1_letter_65 : decode cX1_letter 65 = .ok (.invokevirtual 53, 3) := by decide +kernel
theorem dX1_letter_68 : decode cX1_letter 68 = .ok (.isub, 1) := by decide +kernel
theorem dX1_letter_69 : decode cX1_letter 69 = .ok (.i2l, 1) := by decide +kernel
theorem dX1_letter_70 : decode cX1_letter 70 = .ok (.lreturn, 1) := by decide +kernel
theorem dX1_letter_71 : decode cX1_letter 71 = .ok (.aload_n 0, 1) := by decide +kernel
theorem dX1_letter_72 : decode cX1_letter 72 = .ok (.getfield 12, 3) := by decide +kernel
theorem dX1_letter_75 : decode cX1_letter 75 = .ok (.getfield 110, 3) := by decide +kernel
theorem dX1_letter_78 : decode cX1_letter 78 = .ok (.iload_n 2, 1) := by decide +kernel
theorem dX1_letter_79 : decode cX1_letter 79 = .ok (.iconst 2, 1) := by decide +kernel
theorem dX1_letter_80 : decode cX1_letter 80 = .ok (.invokevirtual 53, 3) := by decide +kernel
theorem dX1_letter_83 : decode cX1_letter 83 = .ok (.i2l, 1) := by decide +kernel
theorem dX1_letter_84 : decode cX1_letter 84 = .ok (.lreturn, 1) := by decide +kernel
theorem dX1_letter_85 : decode cX1_letter 85 = .ok (.aload_n 0, 1) := by decide +kernel
theorem dX1_letter_86 : decode cX1_letter 86 = .ok (.getfield 12, 3) := by decide +kernel
theorem dX1_letter_89 : decode cX1_letter 89 = .ok (.getfield 110, 3) := by decide +kernel
theorem dX1_letter_92 : decode cX1_letter 92 = .ok (.iload_n 2, 1) := by decide +kernel
theorem dX1_letter_93 : decode cX1_letter 93 = .ok (.iconst 1, 1) := by decide +kernel
theorem dX1_letter_94 : decode cX1_letter 94 = .ok (.invokevirtual 53, 3) := by decide +kernel
theorem dX1_letter_97 : decode cX1_letter 97 = .ok (.i2l, 1) := by decide +kernel
theorem dX1_letter_98 : decode cX1_letter 98 = .ok (.lreturn, 1) := by decide +kernel
theorem dX1_letter_99 : decode cX1_letter 99 = .ok (.aload_n 0, 1) := by decide +kernel
theorem dX1_letter_100 : decode cX1_letter 100 = .ok (.getfield 12, 3) := by decide +kernel
theorem dX1_letter_103 : decode cX1_letter 103 = .ok (.getfield 110, 3) := by decide +kernel
theorem dX1_letter_106 : decode cX1_letter 106 = .ok (.iload_n 2, 1) := by decide +kernel
theorem dX1_letter_107 : decode cX1_letter 107 = .ok (.iconst 0, 1) := by decide +kernel
theorem dX1_letter_108 : decode cX1_letter 108 = .ok (.invokevirtual 53, 3) := by decide +kernel
theorem dX1_letter_111 : decode cX1_letter 111 = .ok (.i2l, 1) := by decide +kernel
theorem dX1_letter_112 : decode cX1_letter 112 = .ok (.lreturn, 1) := by decide +kernel
theorem dX1_letter_113 : decode cX1_letter 113 = .ok (.aload_n 0, 1) := by decide +kernel
theorem dX1_letter_114 : decode cX1_letter 114 = .ok (.iload_n 2, 1) := by decide +kernel
theorem dX1_letter_115 : decode cX1_letter 115 = .ok (.iload_n 3, 1) := by decide +kernel
theorem dX1_letter_116 : decode cX1_letter 116 = .ok (.invokevirtual 148, 3) := by decide +kernel
theorem dX1_letter_119 : decode cX1_letter 119 = .ok (.i2l, 1) := by decide +kernel
theorem dX1_letter_120 : decode cX1_letter 120 = .ok (.lreturn, 1) := by decide +kernel
theorem dX1_letter_121 : decode cX1_letter 121 = .ok (.aload_n 0, 1) := by decide +kernel
theorem dX1_letter_122 : decode cX1_letter 122 = .ok (.iload_n 2, 1) := by decide +kernel
theorem dX1_letter_123 : decode cX1_letter 123 = .ok (.iload_n 3, 1) := by decide +kernel
theorem dX1_letter_124 : decode cX1_letter 124 = .ok (.invokevirtual 151, 3) := by decide +kernel
theorem dX1_letter_127 : decode cX1_letter 127 = .ok (.i2l, 1) := by decide +kernel
theorem dX1_letter_128 : decode cX1_letter 128 = .ok (.lreturn, 1) := by decide +kernel
theorem dX1_timesSat_0 : decode cX1_timesSat 0 = .ok (.iconst 0, 1) := by decide +kernel
theorem dX1_timesSat_1 : decode cX1_timesSat 1 = .ok (.istore_n 3, 1) := by decide +kernel
theorem dX1_timesSat_2 : decode cX1_timesSat 2 = .ok (.iconst 0, 1) := by decide +kernel
theorem dX1_timesSat_3 : decode cX1_timesSat 3 = .ok (.istore 4, 2) := by decide +kernel
theorem dX1_timesSat_5 : decode cX1_timesSat 5 = .ok (.iload 4, 2) := by decide +kernel
theorem dX1_timesSat_7 : decode cX1_timesSat 7 = .ok (.aload_n 0, 1) := by decide +kernel
theorem dX1_timesSat_8 : decode cX1_timesSat 8 = .ok (.getfield 12, 3) := by decide +kernel
theorem dX1_timesSat_11 : decode cX1_timesSat 11 = .ok (.getfield 43, 3) := by decide +kernel
theorem dX1_timesSat_14 : decode cX1_timesSat 14 = .ok (.invokevirtual 47, 3) := by decide +kernel
theorem dX1_timesSat_17 : decode cX1_timesSat 17 = .ok (.if_icmp .ge 45, 3) := by decide +kernel
theorem dX1_timesSat_20 : decode cX1_timesSat 20 = .ok (.aload_n 0, 1) := by decide +kernel
theorem dX1_timesSat_21 : decode cX1_timesSat 21 = .ok (.getfield 12, 3) := by decide +kernel
theorem dX1_timesSat_24 : decode cX1_timesSat 24 = .ok (.getfield 43, 3) := by decide +kernel
theorem dX1_timesSat_27 : decode cX1_timesSat 27 = .ok (.iload 4, 2) := by decide +kernel
theorem dX1_timesSat_29 : decode cX1_timesSat 29 = .ok (.iconst 0, 1) := by decide +kernel
theorem dX1_timesSat_30 : decode cX1_timesSat 30 = .ok (.invokevirtual 53, 3) := by decide +kernel
theorem dX1_timesSat_33 : decode cX1_timesSat 33 = .ok (.iload_n 2, 1) := by decide +kernel
theorem dX1_timesSat_34 : decode cX1_timesSat 34 = .ok (.if_icmp .ge 22, 3) := by decide +kernel
theorem dX1_timesSat_37 : decode cX1_timesSat 37 = .ok (.aload_n 0, 1) := by decide +kernel
theorem dX1_timesSat_38 : decode cX1_timesSat 38 = .ok (.iload 4, 2) := by decide +kernel
theorem dX1_timesSat_40 : decode cX1_timesSat 40 = .ok (.invokevirtual 56, 3) := by decide +kernel
theorem dX1_timesSat_43 : decode cX1_timesSat 43 = .ok (.getfield 107, 3) := by decide +kernel
theorem dX1_timesSat_46 : decode cX1_timesSat 46 = .ok (.iload_n 1, 1) := by decide +kernel
theorem dX1_timesSat_47 : decode cX1_timesSat 47 = .ok (.invokestatic 113, 3) := by decide +kernel
theorem dX1_timesSat_50 : decode cX1_timesSat 50 = .ok (.ifCond .eq 6, 3) := by decide +kernel
theorem dX1_timesSat_53 : decode cX1_timesSat 53 = .ok (.iinc 3 1, 3) := by decide +kernel
theorem dX1_timesSat_56 : decode cX1_timesSat 56 = .ok (.iinc 4 1, 3) := by decide +kernel
theorem dX1_timesSat_59 : decode cX1_timesSat 59 = .ok (.goto (-54), 3) := by decide +kernel
theorem dX1_timesSat_62 : decode cX1_timesSat 62 = .ok (.iload_n 3, 1) := by decide +kernel
theorem dX1_timesSat_63 : decode cX1_timesSat 63 = .ok (.ireturn, 1) := by decide +kernel
theorem dX1_yearsSince_0 : decode cX1_yearsSince 0 = .ok (.sipush 999, 3) := by decide +kernel
theorem dX1_yearsSince_3 : decode cX1_yearsSince 3 = .ok (.istore_n 3, 1) := by decide +kernel
theorem dX1_yearsSince_4 : decode cX1_yearsSince 4 = .ok (.iconst 0, 1) := by decide +kernel
theorem dX1_yearsSince_5 : decode cX1_yearsSince 5 = .ok (.istore 4, 2) := by decide +kernel
theorem dX1_yearsSince_7 : decode cX1_yearsSince 7 = .ok (.iload 4, 2) := by decide +kernel
theorem dX1_yearsSince_9 : decode cX1_yearsSince 9 = .ok (.aload_n 0, 1) := by decide +kernel
theorem dX1_yearsSince_10 : decode cX1_yearsSince 10 = .ok (.getfield 12, 3) := by decide +kernel
theorem dX1_yearsSince_13 : decode cX1_yearsSince 13 = .ok (.getfield 43, 3) := by decide +kernel
theorem dX1_yearsSince_16 : decode cX1_yearsSince 16 = .ok (.invokevirtual 47, 3) := by decide +kernel
theorem dX1_yearsSince_19 : decode cX1_yearsSince 19 = .ok (.if_icmp .ge 57, 3) := by decide +kernel
theorem dX1_yearsSince_22 : decode cX1_yearsSince 22 = .ok (.aload_n 0, 1) := by decide +kernel
theorem dX1_yearsSince_23 : decode cX1_yearsSince 23 = .ok (.getfield 12, 3) := by decide +kernel
theorem dX1_yearsSince_26 : decode cX1_yearsSince 26 = .ok (.getfield 43, 3) := by decide +kernel
theorem dX1_yearsSince_29 : decode cX1_yearsSince 29 = .ok (.iload 4, 2) := by decide +kernel
theorem dX1_yearsSince_31 : decode cX1_yearsSince 31 = .ok (.iconst 0, 1) := by decide +kernel
theorem dX1_yearsSince_32 : decode cX1_yearsSince 32 = .ok (.invokevirtual 53, 3) := by decide +kernel
theorem dX1_yearsSince_35 : decode cX1_yearsSince 35 = .ok (.istore 5, 2) := by decide +kernel
theorem dX1_yearsSince_37 : decode cX1_yearsSince 37 = .ok (.iload 5, 2) := by decide +kernel
theorem dX1_yearsSince_39 : decode cX1_yearsSince 39 = .ok (.iload_n 2, 1) := by decide +kernel
theorem dX1_yearsSince_40 : decode cX1_yearsSince 40 = .ok (.if_icmp .ge 30, 3) := by decide +kernel
theorem dX1_yearsSince_43 : decode cX1_yearsSince 43 = .ok (.aload_n 0, 1) := by decide +kernel
theorem dX1_yearsSince_44 : decode cX1_yearsSince 44 = .ok (.iload 4, 2) := by decide +kernel
theorem dX1_yearsSince_46 : decode cX1_yearsSince 46 = .ok (.invokevirtual 56, 3) := by decide +kernel
theorem dX1_yearsSince_49 : decode cX1_yearsSince 49 = .ok (.getfield 107, 3) := by decide +kernel
theorem dX1_yearsSince_52 : decode cX1_yearsSince 52 = .ok (.iload_n 1, 1) := by decide +kernel
theorem dX1_yearsSince_53 : decode cX1_yearsSince 53 = .ok (.invokestatic 113, 3) := by decide +kernel
theorem dX1_yearsSince_56 : decode cX1_yearsSince 56 = .ok (.ifCond .eq 14, 3) := by decide +kernel
theorem dX1_yearsSince_59 : decode cX1_yearsSince 59 = .ok (.iload_n 2, 1) := by decide +kernel
theorem dX1_yearsSince_60 : decode cX1_yearsSince 60 = .ok (.invokestatic 145, 3) := by decide +kernel
theorem dX1_yearsSince_63 : decode cX1_yearsSince 63 = .ok (.iload 5, 2) := by decide +kernel
theorem dX1_yearsSince_65 : decode cX1_yearsSince 65 = .ok (.invokestatic 145, 3) := by decide +kernel
theorem dX1_yearsSince_68 : decode cX1_yearsSince 68 = .ok (.isub, 1) := by decide +kernel
theorem dX1_yearsSince_69 : decode cX1_yearsSince 69 = .ok (.istore_n 3, 1) := by decide +kernel
theorem dX1_yearsSince_70 : decode cX1_yearsSince 70 = .ok (.iinc 4 1, 3) := by decide +kernel
theorem dX1_yearsSince_73 : decode cX1_yearsSince 73 = .ok (.goto (-66), 3) := by decide +kernel
theorem dX1_yearsSince_76 : decode cX1_yearsSince 76 = .ok (.iload_n 3, 1) := by decide +kernel
theorem dX1_yearsSince_77 : decode cX1_yearsSince 77 = .ok (.ireturn, 1) := by decide +kernel
theorem dX1_nextInTurn_0 : decode cX1_nextInTurn 0 = .ok (.iconst (-1), 1) := by decide +kernel
theorem dX1_nextInTurn_1 : decode cX1_nextInTurn 1 = .ok (.istore_n 3, 1) := by decide +kernel
theorem dX1_nextInTurn_2 : decode cX1_nextInTurn 2 = .ok (.iconst 0, 1) := by decide +kernel
theorem dX1_nextInTurn_3 : decode cX1_nextInTurn 3 = .ok (.istore 4, 2) := by decide +kernel
theorem dX1_nextInTurn_5 : decode cX1_nextInTurn 5 = .ok (.iload 4, 2) := by decide +kernel
theorem dX1_nextInTurn_7 : decode cX1_nextInTurn 7 = .ok (.aload_n 0, 1) := by decide +kernel
theorem dX1_nextInTurn_8 : decode cX1_nextInTurn 8 = .ok (.getfield 12, 3) := by decide +kernel
theorem dX1_nextInTurn_11 : decode cX1_nextInTurn 11 = .ok (.getfield 110, 3) := by decide +kernel
theorem dX1_nextInTurn_14 : decode cX1_nextInTurn 14 = .ok (.invokevirtual 47, 3) := by decide +kernel
theorem dX1_nextInTurn_17 : decode cX1_nextInTurn 17 = .ok (.if_icmp .ge 37, 3) := by decide +kernel
theorem dX1_nextInTurn_20 : decode cX1_nextInTurn 20 = .ok (.iload_n 1, 1) := by decide +kernel
theorem dX1_nextInTurn_21 : decode cX1_nextInTurn 21 = .ok (.iload 4, 2) := by decide +kernel
theorem dX1_nextInTurn_23 : decode cX1_nextInTurn 23 = .ok (.invokestatic 113, 3) := by decide +kernel
theorem dX1_nextInTurn_26 : decode cX1_nextInTurn 26 = .ok (.ifCond .eq 22, 3) := by decide +kernel
theorem dX1_nextInTurn_29 : decode cX1_nextInTurn 29 = .ok (.iload_n 3, 1) := by decide +kernel
theorem dX1_nextInTurn_30 : decode cX1_nextInTurn 30 = .ok (.iconst (-1), 1) := by decide +kernel
theorem dX1_nextInTurn_31 : decode cX1_nextInTurn 31 = .ok (.if_icmp .eq 14, 3) := by decide +kernel
theorem dX1_nextInTurn_34 : decode cX1_nextInTurn 34 = .ok (.aload_n 0, 1) := by decide +kernel
theorem dX1_nextInTurn_35 : decode cX1_nextInTurn 35 = .ok (.iload 4, 2) := by decide +kernel
theorem dX1_nextInTurn_37 : decode cX1_nextInTurn 37 = .ok (.iload_n 3, 1) := by decide +kernel
theorem dX1_nextInTurn_38 : decode cX1_nextInTurn 38 = .ok (.iload_n 2, 1) := by decide +kernel
theorem dX1_nextInTurn_39 : decode cX1_nextInTurn 39 = .ok (.invokevirtual 154, 3) := by decide +kernel
theorem dX1_nextInTurn_42 : decode cX1_nextInTurn 42 = .ok (.ifCond .eq 6, 3) := by decide +kernel
theorem dX1_nextInTurn_45 : decode cX1_nextInTurn 45 = .ok (.iload 4, 2) := by decide +kernel
theorem dX1_nextInTurn_47 : decode cX1_nextInTurn 47 = .ok (.istore_n 3, 1) := by decide +kernel
theorem dX1_nextInTurn_48 : decode cX1_nextInTurn 48 = .ok (.iinc 4 1, 3) := by decide +kernel
theorem dX1_nextInTurn_51 : decode cX1_nextInTurn 51 = .ok (.goto (-46), 3) := by decide +kernel
theorem dX1_nextInTurn_54 : decode cX1_nextInTurn 54 = .ok (.iload_n 3, 1) := by decide +kernel
theorem dX1_nextInTurn_55 : decode cX1_nextInTurn 55 = .ok (.ireturn, 1) := by decide +kernel

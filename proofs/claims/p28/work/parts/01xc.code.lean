set_option maxRecDepth 20000 in
theorem bk_X10_person_0 : ((cX10_person.data.toList.drop 0).take 32).length = 32 ∧ eN (((cX10_person.data.toList.drop 0).take 32).map UInt8.toNat) = 1364151248184474365954569988330176789397845971065129234786820054819686187803 := by decide +kernel
theorem dX10_person_0 : decode cX10_person 0 = .ok (.iload_n 1, 1) := dc_27 (bq_nm bk_X10_person_0 (j := 0) rfl rfl)
theorem dX10_person_1 : decode cX10_person 1 = .ok (.iconst 0, 1) := dc_3 (bq_nm bk_X10_person_0 (j := 1) rfl rfl)
theorem dX10_person_2 : decode cX10_person 2 = .ok (.iconst 3, 1) := dc_6 (bq_nm bk_X10_person_0 (j := 2) rfl rfl)
theorem dX10_person_3 : decode cX10_person 3 = .ok (.invokestatic 53, 3) := dc_184 (bq_nm bk_X10_person_0 (j := 3) rfl rfl) (bq_nm bk_X10_person_0 (j := 4) rfl rfl) (bq_nm bk_X10_person_0 (j := 5) rfl rfl) rfl
theorem dX10_person_6 : decode cX10_person 6 = .ok (.ifCond .eq 34, 3) := dc_153 (bq_nm bk_X10_person_0 (j := 6) rfl rfl) (bq_nm bk_X10_person_0 (j := 7) rfl rfl) (bq_nm bk_X10_person_0 (j := 8) rfl rfl) rfl
theorem dX10_person_9 : decode cX10_person 9 = .ok (.iload_n 2, 1) := dc_28 (bq_nm bk_X10_person_0 (j := 9) rfl rfl)
theorem dX10_person_10 : decode cX10_person 10 = .ok (.iconst 0, 1) := dc_3 (bq_nm bk_X10_person_0 (j := 10) rfl rfl)
theorem dX10_person_11 : decode cX10_person 11 = .ok (.iconst 3, 1) := dc_6 (bq_nm bk_X10_person_0 (j := 11) rfl rfl)
theorem dX10_person_12 : decode cX10_person 12 = .ok (.invokestatic 53, 3) := dc_184 (bq_nm bk_X10_person_0 (j := 12) rfl rfl) (bq_nm bk_X10_person_0 (j := 13) rfl rfl) (bq_nm bk_X10_person_0 (j := 14) rfl rfl) rfl
theorem dX10_person_15 : decode cX10_person 15 = .ok (.ifCond .eq 25, 3) := dc_153 (bq_nm bk_X10_person_0 (j := 15) rfl rfl) (bq_nm bk_X10_person_0 (j := 16) rfl rfl) (bq_nm bk_X10_person_0 (j := 17) rfl rfl) rfl
theorem dX10_person_18 : decode cX10_person 18 = .ok (.iload_n 3, 1) := dc_29 (bq_nm bk_X10_person_0 (j := 18) rfl rfl)
theorem dX10_person_19 : decode cX10_person 19 = .ok (.iconst 0, 1) := dc_3 (bq_nm bk_X10_person_0 (j := 19) rfl rfl)
theorem dX10_person_20 : decode cX10_person 20 = .ok (.sipush 1000, 3) := dc_17 (bq_nm bk_X10_person_0 (j := 20) rfl rfl) (bq_nm bk_X10_person_0 (j := 21) rfl rfl) (bq_nm bk_X10_person_0 (j := 22) rfl rfl) rfl
theorem dX10_person_23 : decode cX10_person 23 = .ok (.invokestatic 53, 3) := dc_184 (bq_nm bk_X10_person_0 (j := 23) rfl rfl) (bq_nm bk_X10_person_0 (j := 24) rfl rfl) (bq_nm bk_X10_person_0 (j := 25) rfl rfl) rfl
theorem dX10_person_26 : decode cX10_person 26 = .ok (.ifCond .eq 14, 3) := dc_153 (bq_nm bk_X10_person_0 (j := 26) rfl rfl) (bq_nm bk_X10_person_0 (j := 27) rfl rfl) (bq_nm bk_X10_person_0 (j := 28) rfl rfl) rfl
theorem dX10_person_29 : decode cX10_person 29 = .ok (.iload 4, 2) := dc_21 (bq_nm bk_X10_person_0 (j := 29) rfl rfl) (bq_nm bk_X10_person_0 (j := 30) rfl rfl)
theorem dX10_person_31 : decode cX10_person 31 = .ok (.iconst 0, 1) := dc_3 (bq_nm bk_X10_person_0 (j := 31) rfl rfl)
set_option maxRecDepth 20000 in
theorem bk_X10_person_32 : ((cX10_person.data.toList.drop 32).take 32).length = 32 ∧ eN (((cX10_person.data.toList.drop 32).take 32).map UInt8.toNat) = 114011148823451323959723766109116436917458858857651814504239159706955678245648 := by decide +kernel
theorem dX10_person_32 : decode cX10_person 32 = .ok (.bipush 99, 2) := dc_16 (bq_nm bk_X10_person_32 (j := 0) rfl rfl) (bq_nm bk_X10_person_32 (j := 1) rfl rfl) rfl
theorem dX10_person_34 : decode cX10_person 34 = .ok (.invokestatic 53, 3) := dc_184 (bq_nm bk_X10_person_32 (j := 2) rfl rfl) (bq_nm bk_X10_person_32 (j := 3) rfl rfl) (bq_nm bk_X10_person_32 (j := 4) rfl rfl) rfl
theorem dX10_person_37 : decode cX10_person 37 = .ok (.ifCond .ne 6, 3) := dc_154 (bq_nm bk_X10_person_32 (j := 5) rfl rfl) (bq_nm bk_X10_person_32 (j := 6) rfl rfl) (bq_nm bk_X10_person_32 (j := 7) rfl rfl) rfl
theorem dX10_person_40 : decode cX10_person 40 = .ok (.bipush (-2), 2) := dc_16 (bq_nm bk_X10_person_32 (j := 8) rfl rfl) (bq_nm bk_X10_person_32 (j := 9) rfl rfl) rfl
theorem dX10_person_42 : decode cX10_person 42 = .ok (.ireturn, 1) := dc_172 (bq_nm bk_X10_person_32 (j := 10) rfl rfl)
theorem dX10_person_43 : decode cX10_person 43 = .ok (.aload_n 0, 1) := dc_42 (bq_nm bk_X10_person_32 (j := 11) rfl rfl)
theorem dX10_person_44 : decode cX10_person 44 = .ok (.getfield 20, 3) := dc_180 (bq_nm bk_X10_person_32 (j := 12) rfl rfl) (bq_nm bk_X10_person_32 (j := 13) rfl rfl) (bq_nm bk_X10_person_32 (j := 14) rfl rfl) rfl
theorem dX10_person_47 : decode cX10_person 47 = .ok (.getfield 57, 3) := dc_180 (bq_nm bk_X10_person_32 (j := 15) rfl rfl) (bq_nm bk_X10_person_32 (j := 16) rfl rfl) (bq_nm bk_X10_person_32 (j := 17) rfl rfl) rfl
theorem dX10_person_50 : decode cX10_person 50 = .ok (.invokevirtual 61, 3) := dc_182 (bq_nm bk_X10_person_32 (j := 18) rfl rfl) (bq_nm bk_X10_person_32 (j := 19) rfl rfl) (bq_nm bk_X10_person_32 (j := 20) rfl rfl) rfl
theorem dX10_person_53 : decode cX10_person 53 = .ok (.istore 5, 2) := dc_54 (bq_nm bk_X10_person_32 (j := 21) rfl rfl) (bq_nm bk_X10_person_32 (j := 22) rfl rfl)
theorem dX10_person_55 : decode cX10_person 55 = .ok (.iload 5, 2) := dc_21 (bq_nm bk_X10_person_32 (j := 23) rfl rfl) (bq_nm bk_X10_person_32 (j := 24) rfl rfl)
theorem dX10_person_57 : decode cX10_person 57 = .ok (.bipush (-4), 2) := dc_16 (bq_nm bk_X10_person_32 (j := 25) rfl rfl) (bq_nm bk_X10_person_32 (j := 26) rfl rfl) rfl
theorem dX10_person_59 : decode cX10_person 59 = .ok (.if_icmp .ne 6, 3) := dc_160 (bq_nm bk_X10_person_32 (j := 27) rfl rfl) (bq_nm bk_X10_person_32 (j := 28) rfl rfl) (bq_nm bk_X10_person_32 (j := 29) rfl rfl) rfl
theorem dX10_person_62 : decode cX10_person 62 = .ok (.bipush (-4), 2) := dc_16 (bq_nm bk_X10_person_32 (j := 30) rfl rfl) (bq_nm bk_X10_person_32 (j := 31) rfl rfl) rfl
set_option maxRecDepth 20000 in
theorem bk_X10_person_64 : ((cX10_person.data.toList.drop 64).take 30).length = 30 ∧ eN (((cX10_person.data.toList.drop 64).take 30).map UInt8.toNat) = 291679737907379628331941555329728762269541174090405459726550489588050604 := by decide +kernel
theorem dX10_person_64 : decode cX10_person 64 = .ok (.ireturn, 1) := dc_172 (bq_nm bk_X10_person_64 (j := 0) rfl rfl)
theorem dX10_person_65 : decode cX10_person 65 = .ok (.aload_n 0, 1) := dc_42 (bq_nm bk_X10_person_64 (j := 1) rfl rfl)
theorem dX10_person_66 : decode cX10_person 66 = .ok (.getfield 20, 3) := dc_180 (bq_nm bk_X10_person_64 (j := 2) rfl rfl) (bq_nm bk_X10_person_64 (j := 3) rfl rfl) (bq_nm bk_X10_person_64 (j := 4) rfl rfl) rfl
theorem dX10_person_69 : decode cX10_person 69 = .ok (.getfield 57, 3) := dc_180 (bq_nm bk_X10_person_64 (j := 5) rfl rfl) (bq_nm bk_X10_person_64 (j := 6) rfl rfl) (bq_nm bk_X10_person_64 (j := 7) rfl rfl) rfl
theorem dX10_person_72 : decode cX10_person 72 = .ok (.iload 5, 2) := dc_21 (bq_nm bk_X10_person_64 (j := 8) rfl rfl) (bq_nm bk_X10_person_64 (j := 9) rfl rfl)
theorem dX10_person_74 : decode cX10_person 74 = .ok (.iconst 0, 1) := dc_3 (bq_nm bk_X10_person_64 (j := 10) rfl rfl)
theorem dX10_person_75 : decode cX10_person 75 = .ok (.iload_n 1, 1) := dc_27 (bq_nm bk_X10_person_64 (j := 11) rfl rfl)
theorem dX10_person_76 : decode cX10_person 76 = .ok (.invokevirtual 67, 3) := dc_182 (bq_nm bk_X10_person_64 (j := 12) rfl rfl) (bq_nm bk_X10_person_64 (j := 13) rfl rfl) (bq_nm bk_X10_person_64 (j := 14) rfl rfl) rfl
theorem dX10_person_79 : decode cX10_person 79 = .ok (.aload_n 0, 1) := dc_42 (bq_nm bk_X10_person_64 (j := 15) rfl rfl)
theorem dX10_person_80 : decode cX10_person 80 = .ok (.getfield 20, 3) := dc_180 (bq_nm bk_X10_person_64 (j := 16) rfl rfl) (bq_nm bk_X10_person_64 (j := 17) rfl rfl) (bq_nm bk_X10_person_64 (j := 18) rfl rfl) rfl
theorem dX10_person_83 : decode cX10_person 83 = .ok (.getfield 57, 3) := dc_180 (bq_nm bk_X10_person_64 (j := 19) rfl rfl) (bq_nm bk_X10_person_64 (j := 20) rfl rfl) (bq_nm bk_X10_person_64 (j := 21) rfl rfl) rfl
theorem dX10_person_86 : decode cX10_person 86 = .ok (.iload 5, 2) := dc_21 (bq_nm bk_X10_person_64 (j := 22) rfl rfl) (bq_nm bk_X10_person_64 (j := 23) rfl rfl)
theorem dX10_person_88 : decode cX10_person 88 = .ok (.iconst 1, 1) := dc_4 (bq_nm bk_X10_person_64 (j := 24) rfl rfl)
theorem dX10_person_89 : decode cX10_person 89 = .ok (.iload_n 2, 1) := dc_28 (bq_nm bk_X10_person_64 (j := 25) rfl rfl)
theorem dX10_person_90 : decode cX10_person 90 = .ok (.invokevirtual 67, 3) := dc_182 (bq_nm bk_X10_person_64 (j := 26) rfl rfl) (bq_nm bk_X10_person_64 (j := 27) rfl rfl) (bq_nm bk_X10_person_64 (j := 28) rfl rfl) rfl
theorem dX10_person_93 : decode cX10_person 93 = .ok (.aload_n 0, 1) := dc_42 (bq_nm bk_X10_person_64 (j := 29) rfl rfl)
set_option maxRecDepth 20000 in
theorem bk_X10_person_94 : ((cX10_person.data.toList.drop 94).take 32).length = 32 ∧ eN (((cX10_person.data.toList.drop 94).take 32).map UInt8.toNat) = 5428997636715595012429788230187290440467837716367608103291879613085600972980 := by decide +kernel
theorem dX10_person_94 : decode cX10_person 94 = .ok (.getfield 20, 3) := dc_180 (bq_nm bk_X10_person_94 (j := 0) rfl rfl) (bq_nm bk_X10_person_94 (j := 1) rfl rfl) (bq_nm bk_X10_person_94 (j := 2) rfl rfl) rfl
theorem dX10_person_97 : decode cX10_person 97 = .ok (.getfield 57, 3) := dc_180 (bq_nm bk_X10_person_94 (j := 3) rfl rfl) (bq_nm bk_X10_person_94 (j := 4) rfl rfl) (bq_nm bk_X10_person_94 (j := 5) rfl rfl) rfl
theorem dX10_person_100 : decode cX10_person 100 = .ok (.iload 5, 2) := dc_21 (bq_nm bk_X10_person_94 (j := 6) rfl rfl) (bq_nm bk_X10_person_94 (j := 7) rfl rfl)
theorem dX10_person_102 : decode cX10_person 102 = .ok (.iconst 2, 1) := dc_5 (bq_nm bk_X10_person_94 (j := 8) rfl rfl)
theorem dX10_person_103 : decode cX10_person 103 = .ok (.iload_n 3, 1) := dc_29 (bq_nm bk_X10_person_94 (j := 9) rfl rfl)
theorem dX10_person_104 : decode cX10_person 104 = .ok (.invokevirtual 67, 3) := dc_182 (bq_nm bk_X10_person_94 (j := 10) rfl rfl) (bq_nm bk_X10_person_94 (j := 11) rfl rfl) (bq_nm bk_X10_person_94 (j := 12) rfl rfl) rfl
theorem dX10_person_107 : decode cX10_person 107 = .ok (.aload_n 0, 1) := dc_42 (bq_nm bk_X10_person_94 (j := 13) rfl rfl)
theorem dX10_person_108 : decode cX10_person 108 = .ok (.getfield 20, 3) := dc_180 (bq_nm bk_X10_person_94 (j := 14) rfl rfl) (bq_nm bk_X10_person_94 (j := 15) rfl rfl) (bq_nm bk_X10_person_94 (j := 16) rfl rfl) rfl
theorem dX10_person_111 : decode cX10_person 111 = .ok (.getfield 57, 3) := dc_180 (bq_nm bk_X10_person_94 (j := 17) rfl rfl) (bq_nm bk_X10_person_94 (j := 18) rfl rfl) (bq_nm bk_X10_person_94 (j := 19) rfl rfl) rfl
theorem dX10_person_114 : decode cX10_person 114 = .ok (.iload 5, 2) := dc_21 (bq_nm bk_X10_person_94 (j := 20) rfl rfl) (bq_nm bk_X10_person_94 (j := 21) rfl rfl)
theorem dX10_person_116 : decode cX10_person 116 = .ok (.iconst 3, 1) := dc_6 (bq_nm bk_X10_person_94 (j := 22) rfl rfl)
theorem dX10_person_117 : decode cX10_person 117 = .ok (.iload 4, 2) := dc_21 (bq_nm bk_X10_person_94 (j := 23) rfl rfl) (bq_nm bk_X10_person_94 (j := 24) rfl rfl)
theorem dX10_person_119 : decode cX10_person 119 = .ok (.invokevirtual 67, 3) := dc_182 (bq_nm bk_X10_person_94 (j := 25) rfl rfl) (bq_nm bk_X10_person_94 (j := 26) rfl rfl) (bq_nm bk_X10_person_94 (j := 27) rfl rfl) rfl
theorem dX10_person_122 : decode cX10_person 122 = .ok (.aload_n 0, 1) := dc_42 (bq_nm bk_X10_person_94 (j := 28) rfl rfl)
theorem dX10_person_123 : decode cX10_person 123 = .ok (.getfield 12, 3) := dc_180 (bq_nm bk_X10_person_94 (j := 29) rfl rfl) (bq_nm bk_X10_person_94 (j := 30) rfl rfl) (bq_nm bk_X10_person_94 (j := 31) rfl rfl) rfl
set_option maxRecDepth 20000 in
theorem bk_X10_person_126 : ((cX10_person.data.toList.drop 126).take 7).length = 7 ∧ eN (((cX10_person.data.toList.drop 126).take 7).map UInt8.toNat) = 48419284937913859 := by decide +kernel
theorem dX10_person_126 : decode cX10_person 126 = .ok (.iconst 0, 1) := dc_3 (bq_nm bk_X10_person_126 (j := 0) rfl rfl)
theorem dX10_person_127 : decode cX10_person 127 = .ok (.invokevirtual 71, 3) := dc_182 (bq_nm bk_X10_person_126 (j := 1) rfl rfl) (bq_nm bk_X10_person_126 (j := 2) rfl rfl) (bq_nm bk_X10_person_126 (j := 3) rfl rfl) rfl
theorem dX10_person_130 : decode cX10_person 130 = .ok (.iload 5, 2) := dc_21 (bq_nm bk_X10_person_126 (j := 4) rfl rfl) (bq_nm bk_X10_person_126 (j := 5) rfl rfl)
theorem dX10_person_132 : decode cX10_person 132 = .ok (.ireturn, 1) := dc_172 (bq_nm bk_X10_person_126 (j := 6) rfl rfl)
set_option maxRecDepth 20000 in
theorem bk_X10_kin_0 : ((cX10_kin.data.toList.drop 0).take 31).length = 31 ∧ eN (((cX10_kin.data.toList.drop 0).take 31).map UInt8.toNat) = 10605242540423947873396501383111070647381599932576390990128832719337075754 := by decide +kernel
theorem dX10_kin_0 : decode cX10_kin 0 = .ok (.aload_n 0, 1) := dc_42 (bq_nm bk_X10_kin_0 (j := 0) rfl rfl)
theorem dX10_kin_1 : decode cX10_kin 1 = .ok (.getfield 20, 3) := dc_180 (bq_nm bk_X10_kin_0 (j := 1) rfl rfl) (bq_nm bk_X10_kin_0 (j := 2) rfl rfl) (bq_nm bk_X10_kin_0 (j := 3) rfl rfl) rfl
theorem dX10_kin_4 : decode cX10_kin 4 = .ok (.getfield 57, 3) := dc_180 (bq_nm bk_X10_kin_0 (j := 4) rfl rfl) (bq_nm bk_X10_kin_0 (j := 5) rfl rfl) (bq_nm bk_X10_kin_0 (j := 6) rfl rfl) rfl
theorem dX10_kin_7 : decode cX10_kin 7 = .ok (.iload_n 1, 1) := dc_27 (bq_nm bk_X10_kin_0 (j := 7) rfl rfl)
theorem dX10_kin_8 : decode cX10_kin 8 = .ok (.invokevirtual 75, 3) := dc_182 (bq_nm bk_X10_kin_0 (j := 8) rfl rfl) (bq_nm bk_X10_kin_0 (j := 9) rfl rfl) (bq_nm bk_X10_kin_0 (j := 10) rfl rfl) rfl
theorem dX10_kin_11 : decode cX10_kin 11 = .ok (.ifCond .eq 20, 3) := dc_153 (bq_nm bk_X10_kin_0 (j := 11) rfl rfl) (bq_nm bk_X10_kin_0 (j := 12) rfl rfl) (bq_nm bk_X10_kin_0 (j := 13) rfl rfl) rfl
theorem dX10_kin_14 : decode cX10_kin 14 = .ok (.iload_n 2, 1) := dc_28 (bq_nm bk_X10_kin_0 (j := 14) rfl rfl)
theorem dX10_kin_15 : decode cX10_kin 15 = .ok (.iconst 0, 1) := dc_3 (bq_nm bk_X10_kin_0 (j := 15) rfl rfl)
theorem dX10_kin_16 : decode cX10_kin 16 = .ok (.bipush 9, 2) := dc_16 (bq_nm bk_X10_kin_0 (j := 16) rfl rfl) (bq_nm bk_X10_kin_0 (j := 17) rfl rfl) rfl
theorem dX10_kin_18 : decode cX10_kin 18 = .ok (.invokestatic 53, 3) := dc_184 (bq_nm bk_X10_kin_0 (j := 18) rfl rfl) (bq_nm bk_X10_kin_0 (j := 19) rfl rfl) (bq_nm bk_X10_kin_0 (j := 20) rfl rfl) rfl
theorem dX10_kin_21 : decode cX10_kin 21 = .ok (.ifCond .eq 10, 3) := dc_153 (bq_nm bk_X10_kin_0 (j := 21) rfl rfl) (bq_nm bk_X10_kin_0 (j := 22) rfl rfl) (bq_nm bk_X10_kin_0 (j := 23) rfl rfl) rfl
theorem dX10_kin_24 : decode cX10_kin 24 = .ok (.iload_n 3, 1) := dc_29 (bq_nm bk_X10_kin_0 (j := 24) rfl rfl)
theorem dX10_kin_25 : decode cX10_kin 25 = .ok (.invokestatic 79, 3) := dc_184 (bq_nm bk_X10_kin_0 (j := 25) rfl rfl) (bq_nm bk_X10_kin_0 (j := 26) rfl rfl) (bq_nm bk_X10_kin_0 (j := 27) rfl rfl) rfl
theorem dX10_kin_28 : decode cX10_kin 28 = .ok (.ifCond .ne 6, 3) := dc_154 (bq_nm bk_X10_kin_0 (j := 28) rfl rfl) (bq_nm bk_X10_kin_0 (j := 29) rfl rfl) (bq_nm bk_X10_kin_0 (j := 30) rfl rfl) rfl
set_option maxRecDepth 20000 in
theorem bk_X10_kin_31 : ((cX10_kin.data.toList.drop 31).take 32).length = 32 ∧ eN (((cX10_kin.data.toList.drop 31).take 32).map UInt8.toNat) = 37090896437443315773426483683086199256936916524138969411345909500473684852240 := by decide +kernel
theorem dX10_kin_31 : decode cX10_kin 31 = .ok (.bipush (-2), 2) := dc_16 (bq_nm bk_X10_kin_31 (j := 0) rfl rfl) (bq_nm bk_X10_kin_31 (j := 1) rfl rfl) rfl
theorem dX10_kin_33 : decode cX10_kin 33 = .ok (.ireturn, 1) := dc_172 (bq_nm bk_X10_kin_31 (j := 2) rfl rfl)
theorem dX10_kin_34 : decode cX10_kin 34 = .ok (.aload_n 0, 1) := dc_42 (bq_nm bk_X10_kin_31 (j := 3) rfl rfl)
theorem dX10_kin_35 : decode cX10_kin 35 = .ok (.getfield 20, 3) := dc_180 (bq_nm bk_X10_kin_31 (j := 4) rfl rfl) (bq_nm bk_X10_kin_31 (j := 5) rfl rfl) (bq_nm bk_X10_kin_31 (j := 6) rfl rfl) rfl
theorem dX10_kin_38 : decode cX10_kin 38 = .ok (.getfield 82, 3) := dc_180 (bq_nm bk_X10_kin_31 (j := 7) rfl rfl) (bq_nm bk_X10_kin_31 (j := 8) rfl rfl) (bq_nm bk_X10_kin_31 (j := 9) rfl rfl) rfl
theorem dX10_kin_41 : decode cX10_kin 41 = .ok (.invokevirtual 61, 3) := dc_182 (bq_nm bk_X10_kin_31 (j := 10) rfl rfl) (bq_nm bk_X10_kin_31 (j := 11) rfl rfl) (bq_nm bk_X10_kin_31 (j := 12) rfl rfl) rfl
theorem dX10_kin_44 : decode cX10_kin 44 = .ok (.istore 4, 2) := dc_54 (bq_nm bk_X10_kin_31 (j := 13) rfl rfl) (bq_nm bk_X10_kin_31 (j := 14) rfl rfl)
theorem dX10_kin_46 : decode cX10_kin 46 = .ok (.iload 4, 2) := dc_21 (bq_nm bk_X10_kin_31 (j := 15) rfl rfl) (bq_nm bk_X10_kin_31 (j := 16) rfl rfl)
theorem dX10_kin_48 : decode cX10_kin 48 = .ok (.bipush (-4), 2) := dc_16 (bq_nm bk_X10_kin_31 (j := 17) rfl rfl) (bq_nm bk_X10_kin_31 (j := 18) rfl rfl) rfl
theorem dX10_kin_50 : decode cX10_kin 50 = .ok (.if_icmp .ne 6, 3) := dc_160 (bq_nm bk_X10_kin_31 (j := 19) rfl rfl) (bq_nm bk_X10_kin_31 (j := 20) rfl rfl) (bq_nm bk_X10_kin_31 (j := 21) rfl rfl) rfl
theorem dX10_kin_53 : decode cX10_kin 53 = .ok (.bipush (-4), 2) := dc_16 (bq_nm bk_X10_kin_31 (j := 22) rfl rfl) (bq_nm bk_X10_kin_31 (j := 23) rfl rfl) rfl
theorem dX10_kin_55 : decode cX10_kin 55 = .ok (.ireturn, 1) := dc_172 (bq_nm bk_X10_kin_31 (j := 24) rfl rfl)
theorem dX10_kin_56 : decode cX10_kin 56 = .ok (.aload_n 0, 1) := dc_42 (bq_nm bk_X10_kin_31 (j := 25) rfl rfl)
theorem dX10_kin_57 : decode cX10_kin 57 = .ok (.getfield 20, 3) := dc_180 (bq_nm bk_X10_kin_31 (j := 26) rfl rfl) (bq_nm bk_X10_kin_31 (j := 27) rfl rfl) (bq_nm bk_X10_kin_31 (j := 28) rfl rfl) rfl
theorem dX10_kin_60 : decode cX10_kin 60 = .ok (.getfield 82, 3) := dc_180 (bq_nm bk_X10_kin_31 (j := 29) rfl rfl) (bq_nm bk_X10_kin_31 (j := 30) rfl rfl) (bq_nm bk_X10_kin_31 (j := 31) rfl rfl) rfl
set_option maxRecDepth 20000 in
theorem bk_X10_kin_63 : ((cX10_kin.data.toList.drop 63).take 32).length = 32 ∧ eN (((cX10_kin.data.toList.drop 63).take 32).map UInt8.toNat) = 13125935026018781648121849582087415398381716337810628409961161861730060665877 := by decide +kernel
theorem dX10_kin_63 : decode cX10_kin 63 = .ok (.iload 4, 2) := dc_21 (bq_nm bk_X10_kin_63 (j := 0) rfl rfl) (bq_nm bk_X10_kin_63 (j := 1) rfl rfl)
theorem dX10_kin_65 : decode cX10_kin 65 = .ok (.iconst 0, 1) := dc_3 (bq_nm bk_X10_kin_63 (j := 2) rfl rfl)
theorem dX10_kin_66 : decode cX10_kin 66 = .ok (.iload_n 1, 1) := dc_27 (bq_nm bk_X10_kin_63 (j := 3) rfl rfl)
theorem dX10_kin_67 : decode cX10_kin 67 = .ok (.invokevirtual 67, 3) := dc_182 (bq_nm bk_X10_kin_63 (j := 4) rfl rfl) (bq_nm bk_X10_kin_63 (j := 5) rfl rfl) (bq_nm bk_X10_kin_63 (j := 6) rfl rfl) rfl
theorem dX10_kin_70 : decode cX10_kin 70 = .ok (.aload_n 0, 1) := dc_42 (bq_nm bk_X10_kin_63 (j := 7) rfl rfl)
theorem dX10_kin_71 : decode cX10_kin 71 = .ok (.getfield 20, 3) := dc_180 (bq_nm bk_X10_kin_63 (j := 8) rfl rfl) (bq_nm bk_X10_kin_63 (j := 9) rfl rfl) (bq_nm bk_X10_kin_63 (j := 10) rfl rfl) rfl
theorem dX10_kin_74 : decode cX10_kin 74 = .ok (.getfield 82, 3) := dc_180 (bq_nm bk_X10_kin_63 (j := 11) rfl rfl) (bq_nm bk_X10_kin_63 (j := 12) rfl rfl) (bq_nm bk_X10_kin_63 (j := 13) rfl rfl) rfl
theorem dX10_kin_77 : decode cX10_kin 77 = .ok (.iload 4, 2) := dc_21 (bq_nm bk_X10_kin_63 (j := 14) rfl rfl) (bq_nm bk_X10_kin_63 (j := 15) rfl rfl)
theorem dX10_kin_79 : decode cX10_kin 79 = .ok (.iconst 1, 1) := dc_4 (bq_nm bk_X10_kin_63 (j := 16) rfl rfl)
theorem dX10_kin_80 : decode cX10_kin 80 = .ok (.iload_n 2, 1) := dc_28 (bq_nm bk_X10_kin_63 (j := 17) rfl rfl)
theorem dX10_kin_81 : decode cX10_kin 81 = .ok (.invokevirtual 67, 3) := dc_182 (bq_nm bk_X10_kin_63 (j := 18) rfl rfl) (bq_nm bk_X10_kin_63 (j := 19) rfl rfl) (bq_nm bk_X10_kin_63 (j := 20) rfl rfl) rfl
theorem dX10_kin_84 : decode cX10_kin 84 = .ok (.aload_n 0, 1) := dc_42 (bq_nm bk_X10_kin_63 (j := 21) rfl rfl)
theorem dX10_kin_85 : decode cX10_kin 85 = .ok (.getfield 20, 3) := dc_180 (bq_nm bk_X10_kin_63 (j := 22) rfl rfl) (bq_nm bk_X10_kin_63 (j := 23) rfl rfl) (bq_nm bk_X10_kin_63 (j := 24) rfl rfl) rfl
theorem dX10_kin_88 : decode cX10_kin 88 = .ok (.getfield 82, 3) := dc_180 (bq_nm bk_X10_kin_63 (j := 25) rfl rfl) (bq_nm bk_X10_kin_63 (j := 26) rfl rfl) (bq_nm bk_X10_kin_63 (j := 27) rfl rfl) rfl
theorem dX10_kin_91 : decode cX10_kin 91 = .ok (.iload 4, 2) := dc_21 (bq_nm bk_X10_kin_63 (j := 28) rfl rfl) (bq_nm bk_X10_kin_63 (j := 29) rfl rfl)
theorem dX10_kin_93 : decode cX10_kin 93 = .ok (.iconst 2, 1) := dc_5 (bq_nm bk_X10_kin_63 (j := 30) rfl rfl)
theorem dX10_kin_94 : decode cX10_kin 94 = .ok (.iload_n 3, 1) := dc_29 (bq_nm bk_X10_kin_63 (j := 31) rfl rfl)
set_option maxRecDepth 20000 in
theorem bk_X10_kin_95 : ((cX10_kin.data.toList.drop 95).take 14).length = 14 ∧ eN (((cX10_kin.data.toList.drop 95).take 14).map UInt8.toNat) = 3488897949500441338127086797390006 := by decide +kernel
theorem dX10_kin_95 : decode cX10_kin 95 = .ok (.invokevirtual 67, 3) := dc_182 (bq_nm bk_X10_kin_95 (j := 0) rfl rfl) (bq_nm bk_X10_kin_95 (j := 1) rfl rfl) (bq_nm bk_X10_kin_95 (j := 2) rfl rfl) rfl
theorem dX10_kin_98 : decode cX10_kin 98 = .ok (.aload_n 0, 1) := dc_42 (bq_nm bk_X10_kin_95 (j := 3) rfl rfl)
theorem dX10_kin_99 : decode cX10_kin 99 = .ok (.getfield 12, 3) := dc_180 (bq_nm bk_X10_kin_95 (j := 4) rfl rfl) (bq_nm bk_X10_kin_95 (j := 5) rfl rfl) (bq_nm bk_X10_kin_95 (j := 6) rfl rfl) rfl
theorem dX10_kin_102 : decode cX10_kin 102 = .ok (.iconst 0, 1) := dc_3 (bq_nm bk_X10_kin_95 (j := 7) rfl rfl)
theorem dX10_kin_103 : decode cX10_kin 103 = .ok (.invokevirtual 71, 3) := dc_182 (bq_nm bk_X10_kin_95 (j := 8) rfl rfl) (bq_nm bk_X10_kin_95 (j := 9) rfl rfl) (bq_nm bk_X10_kin_95 (j := 10) rfl rfl) rfl
theorem dX10_kin_106 : decode cX10_kin 106 = .ok (.iload 4, 2) := dc_21 (bq_nm bk_X10_kin_95 (j := 11) rfl rfl) (bq_nm bk_X10_kin_95 (j := 12) rfl rfl)
theorem dX10_kin_108 : decode cX10_kin 108 = .ok (.ireturn, 1) := dc_172 (bq_nm bk_X10_kin_95 (j := 13) rfl rfl)
set_option maxRecDepth 20000 in
theorem bk_X10_roll_0 : ((cX10_roll.data.toList.drop 0).take 32).length = 32 ∧ eN (((cX10_roll.data.toList.drop 0).take 32).map UInt8.toNat) = 2714942090348530655589504354080669838251599882179179610657654754375332276763 := by decide +kernel
theorem dX10_roll_0 : decode cX10_roll 0 = .ok (.iload_n 1, 1) := dc_27 (bq_nm bk_X10_roll_0 (j := 0) rfl rfl)
theorem dX10_roll_1 : decode cX10_roll 1 = .ok (.aload_n 0, 1) := dc_42 (bq_nm bk_X10_roll_0 (j := 1) rfl rfl)
theorem dX10_roll_2 : decode cX10_roll 2 = .ok (.getfield 20, 3) := dc_180 (bq_nm bk_X10_roll_0 (j := 2) rfl rfl) (bq_nm bk_X10_roll_0 (j := 3) rfl rfl) (bq_nm bk_X10_roll_0 (j := 4) rfl rfl) rfl
theorem dX10_roll_5 : decode cX10_roll 5 = .ok (.invokevirtual 85, 3) := dc_182 (bq_nm bk_X10_roll_0 (j := 5) rfl rfl) (bq_nm bk_X10_roll_0 (j := 6) rfl rfl) (bq_nm bk_X10_roll_0 (j := 7) rfl rfl) rfl
theorem dX10_roll_8 : decode cX10_roll 8 = .ok (.iconst (-1), 1) := dc_2 (bq_nm bk_X10_roll_0 (j := 8) rfl rfl)
theorem dX10_roll_9 : decode cX10_roll 9 = .ok (.ixor, 1) := dc_130 (bq_nm bk_X10_roll_0 (j := 9) rfl rfl)
theorem dX10_roll_10 : decode cX10_roll 10 = .ok (.iand, 1) := dc_126 (bq_nm bk_X10_roll_0 (j := 10) rfl rfl)
theorem dX10_roll_11 : decode cX10_roll 11 = .ok (.ifCond .ne 21, 3) := dc_154 (bq_nm bk_X10_roll_0 (j := 11) rfl rfl) (bq_nm bk_X10_roll_0 (j := 12) rfl rfl) (bq_nm bk_X10_roll_0 (j := 13) rfl rfl) rfl
theorem dX10_roll_14 : decode cX10_roll 14 = .ok (.iload_n 2, 1) := dc_28 (bq_nm bk_X10_roll_0 (j := 14) rfl rfl)
theorem dX10_roll_15 : decode cX10_roll 15 = .ok (.iconst 0, 1) := dc_3 (bq_nm bk_X10_roll_0 (j := 15) rfl rfl)
theorem dX10_roll_16 : decode cX10_roll 16 = .ok (.sipush 199, 3) := dc_17 (bq_nm bk_X10_roll_0 (j := 16) rfl rfl) (bq_nm bk_X10_roll_0 (j := 17) rfl rfl) (bq_nm bk_X10_roll_0 (j := 18) rfl rfl) rfl
theorem dX10_roll_19 : decode cX10_roll 19 = .ok (.invokestatic 53, 3) := dc_184 (bq_nm bk_X10_roll_0 (j := 19) rfl rfl) (bq_nm bk_X10_roll_0 (j := 20) rfl rfl) (bq_nm bk_X10_roll_0 (j := 21) rfl rfl) rfl
theorem dX10_roll_22 : decode cX10_roll 22 = .ok (.ifCond .eq 10, 3) := dc_153 (bq_nm bk_X10_roll_0 (j := 22) rfl rfl) (bq_nm bk_X10_roll_0 (j := 23) rfl rfl) (bq_nm bk_X10_roll_0 (j := 24) rfl rfl) rfl
theorem dX10_roll_25 : decode cX10_roll 25 = .ok (.iload_n 3, 1) := dc_29 (bq_nm bk_X10_roll_0 (j := 25) rfl rfl)
theorem dX10_roll_26 : decode cX10_roll 26 = .ok (.invokestatic 79, 3) := dc_184 (bq_nm bk_X10_roll_0 (j := 26) rfl rfl) (bq_nm bk_X10_roll_0 (j := 27) rfl rfl) (bq_nm bk_X10_roll_0 (j := 28) rfl rfl) rfl
theorem dX10_roll_29 : decode cX10_roll 29 = .ok (.ifCond .ne 6, 3) := dc_154 (bq_nm bk_X10_roll_0 (j := 29) rfl rfl) (bq_nm bk_X10_roll_0 (j := 30) rfl rfl) (bq_nm bk_X10_roll_0 (j := 31) rfl rfl) rfl
set_option maxRecDepth 20000 in
theorem bk_X10_roll_32 : ((cX10_roll.data.toList.drop 32).take 32).length = 32 ∧ eN (((cX10_roll.data.toList.drop 32).take 32).map UInt8.toNat) = 39804773528942914103666428644227322097247931789739920159354895522877020110352 := by decide +kernel
theorem dX10_roll_32 : decode cX10_roll 32 = .ok (.bipush (-2), 2) := dc_16 (bq_nm bk_X10_roll_32 (j := 0) rfl rfl) (bq_nm bk_X10_roll_32 (j := 1) rfl rfl) rfl
theorem dX10_roll_34 : decode cX10_roll 34 = .ok (.ireturn, 1) := dc_172 (bq_nm bk_X10_roll_32 (j := 2) rfl rfl)
theorem dX10_roll_35 : decode cX10_roll 35 = .ok (.aload_n 0, 1) := dc_42 (bq_nm bk_X10_roll_32 (j := 3) rfl rfl)
theorem dX10_roll_36 : decode cX10_roll 36 = .ok (.getfield 20, 3) := dc_180 (bq_nm bk_X10_roll_32 (j := 4) rfl rfl) (bq_nm bk_X10_roll_32 (j := 5) rfl rfl) (bq_nm bk_X10_roll_32 (j := 6) rfl rfl) rfl
theorem dX10_roll_39 : decode cX10_roll 39 = .ok (.getfield 88, 3) := dc_180 (bq_nm bk_X10_roll_32 (j := 7) rfl rfl) (bq_nm bk_X10_roll_32 (j := 8) rfl rfl) (bq_nm bk_X10_roll_32 (j := 9) rfl rfl) rfl
theorem dX10_roll_42 : decode cX10_roll 42 = .ok (.invokevirtual 61, 3) := dc_182 (bq_nm bk_X10_roll_32 (j := 10) rfl rfl) (bq_nm bk_X10_roll_32 (j := 11) rfl rfl) (bq_nm bk_X10_roll_32 (j := 12) rfl rfl) rfl
theorem dX10_roll_45 : decode cX10_roll 45 = .ok (.istore 4, 2) := dc_54 (bq_nm bk_X10_roll_32 (j := 13) rfl rfl) (bq_nm bk_X10_roll_32 (j := 14) rfl rfl)
theorem dX10_roll_47 : decode cX10_roll 47 = .ok (.iload 4, 2) := dc_21 (bq_nm bk_X10_roll_32 (j := 15) rfl rfl) (bq_nm bk_X10_roll_32 (j := 16) rfl rfl)
theorem dX10_roll_49 : decode cX10_roll 49 = .ok (.bipush (-4), 2) := dc_16 (bq_nm bk_X10_roll_32 (j := 17) rfl rfl) (bq_nm bk_X10_roll_32 (j := 18) rfl rfl) rfl
theorem dX10_roll_51 : decode cX10_roll 51 = .ok (.if_icmp .ne 6, 3) := dc_160 (bq_nm bk_X10_roll_32 (j := 19) rfl rfl) (bq_nm bk_X10_roll_32 (j := 20) rfl rfl) (bq_nm bk_X10_roll_32 (j := 21) rfl rfl) rfl
theorem dX10_roll_54 : decode cX10_roll 54 = .ok (.bipush (-4), 2) := dc_16 (bq_nm bk_X10_roll_32 (j := 22) rfl rfl) (bq_nm bk_X10_roll_32 (j := 23) rfl rfl) rfl
theorem dX10_roll_56 : decode cX10_roll 56 = .ok (.ireturn, 1) := dc_172 (bq_nm bk_X10_roll_32 (j := 24) rfl rfl)
theorem dX10_roll_57 : decode cX10_roll 57 = .ok (.aload_n 0, 1) := dc_42 (bq_nm bk_X10_roll_32 (j := 25) rfl rfl)
theorem dX10_roll_58 : decode cX10_roll 58 = .ok (.getfield 20, 3) := dc_180 (bq_nm bk_X10_roll_32 (j := 26) rfl rfl) (bq_nm bk_X10_roll_32 (j := 27) rfl rfl) (bq_nm bk_X10_roll_32 (j := 28) rfl rfl) rfl
theorem dX10_roll_61 : decode cX10_roll 61 = .ok (.getfield 88, 3) := dc_180 (bq_nm bk_X10_roll_32 (j := 29) rfl rfl) (bq_nm bk_X10_roll_32 (j := 30) rfl rfl) (bq_nm bk_X10_roll_32 (j := 31) rfl rfl) rfl
set_option maxRecDepth 20000 in
theorem bk_X10_roll_64 : ((cX10_roll.data.toList.drop 64).take 32).length = 32 ∧ eN (((cX10_roll.data.toList.drop 64).take 32).map UInt8.toNat) = 13125935026650655398133192702274923564483739053418456604274479072939434247189 := by decide +kernel
theorem dX10_roll_64 : decode cX10_roll 64 = .ok (.iload 4, 2) := dc_21 (bq_nm bk_X10_roll_64 (j := 0) rfl rfl) (bq_nm bk_X10_roll_64 (j := 1) rfl rfl)
theorem dX10_roll_66 : decode cX10_roll 66 = .ok (.iconst 0, 1) := dc_3 (bq_nm bk_X10_roll_64 (j := 2) rfl rfl)
theorem dX10_roll_67 : decode cX10_roll 67 = .ok (.iload_n 1, 1) := dc_27 (bq_nm bk_X10_roll_64 (j := 3) rfl rfl)
theorem dX10_roll_68 : decode cX10_roll 68 = .ok (.invokevirtual 67, 3) := dc_182 (bq_nm bk_X10_roll_64 (j := 4) rfl rfl) (bq_nm bk_X10_roll_64 (j := 5) rfl rfl) (bq_nm bk_X10_roll_64 (j := 6) rfl rfl) rfl
theorem dX10_roll_71 : decode cX10_roll 71 = .ok (.aload_n 0, 1) := dc_42 (bq_nm bk_X10_roll_64 (j := 7) rfl rfl)
theorem dX10_roll_72 : decode cX10_roll 72 = .ok (.getfield 20, 3) := dc_180 (bq_nm bk_X10_roll_64 (j := 8) rfl rfl) (bq_nm bk_X10_roll_64 (j := 9) rfl rfl) (bq_nm bk_X10_roll_64 (j := 10) rfl rfl) rfl
theorem dX10_roll_75 : decode cX10_roll 75 = .ok (.getfield 88, 3) := dc_180 (bq_nm bk_X10_roll_64 (j := 11) rfl rfl) (bq_nm bk_X10_roll_64 (j := 12) rfl rfl) (bq_nm bk_X10_roll_64 (j := 13) rfl rfl) rfl
theorem dX10_roll_78 : decode cX10_roll 78 = .ok (.iload 4, 2) := dc_21 (bq_nm bk_X10_roll_64 (j := 14) rfl rfl) (bq_nm bk_X10_roll_64 (j := 15) rfl rfl)
theorem dX10_roll_80 : decode cX10_roll 80 = .ok (.iconst 1, 1) := dc_4 (bq_nm bk_X10_roll_64 (j := 16) rfl rfl)
theorem dX10_roll_81 : decode cX10_roll 81 = .ok (.iload_n 2, 1) := dc_28 (bq_nm bk_X10_roll_64 (j := 17) rfl rfl)
theorem dX10_roll_82 : decode cX10_roll 82 = .ok (.invokevirtual 67, 3) := dc_182 (bq_nm bk_X10_roll_64 (j := 18) rfl rfl) (bq_nm bk_X10_roll_64 (j := 19) rfl rfl) (bq_nm bk_X10_roll_64 (j := 20) rfl rfl) rfl
theorem dX10_roll_85 : decode cX10_roll 85 = .ok (.aload_n 0, 1) := dc_42 (bq_nm bk_X10_roll_64 (j := 21) rfl rfl)
theorem dX10_roll_86 : decode cX10_roll 86 = .ok (.getfield 20, 3) := dc_180 (bq_nm bk_X10_roll_64 (j := 22) rfl rfl) (bq_nm bk_X10_roll_64 (j := 23) rfl rfl) (bq_nm bk_X10_roll_64 (j := 24) rfl rfl) rfl
theorem dX10_roll_89 : decode cX10_roll 89 = .ok (.getfield 88, 3) := dc_180 (bq_nm bk_X10_roll_64 (j := 25) rfl rfl) (bq_nm bk_X10_roll_64 (j := 26) rfl rfl) (bq_nm bk_X10_roll_64 (j := 27) rfl rfl) rfl
theorem dX10_roll_92 : decode cX10_roll 92 = .ok (.iload 4, 2) := dc_21 (bq_nm bk_X10_roll_64 (j := 28) rfl rfl) (bq_nm bk_X10_roll_64 (j := 29) rfl rfl)
theorem dX10_roll_94 : decode cX10_roll 94 = .ok (.iconst 2, 1) := dc_5 (bq_nm bk_X10_roll_64 (j := 30) rfl rfl)
theorem dX10_roll_95 : decode cX10_roll 95 = .ok (.iload_n 3, 1) := dc_29 (bq_nm bk_X10_roll_64 (j := 31) rfl rfl)
set_option maxRecDepth 20000 in
theorem bk_X10_roll_96 : ((cX10_roll.data.toList.drop 96).take 14).length = 14 ∧ eN (((cX10_roll.data.toList.drop 96).take 14).map UInt8.toNat) = 3488897949500441338127086797390006 := by decide +kernel
theorem dX10_roll_96 : decode cX10_roll 96 = .ok (.invokevirtual 67, 3) := dc_182 (bq_nm bk_X10_roll_96 (j := 0) rfl rfl) (bq_nm bk_X10_roll_96 (j := 1) rfl rfl) (bq_nm bk_X10_roll_96 (j := 2) rfl rfl) rfl
theorem dX10_roll_99 : decode cX10_roll 99 = .ok (.aload_n 0, 1) := dc_42 (bq_nm bk_X10_roll_96 (j := 3) rfl rfl)
theorem dX10_roll_100 : decode cX10_roll 100 = .ok (.getfield 12, 3) := dc_180 (bq_nm bk_X10_roll_96 (j := 4) rfl rfl) (bq_nm bk_X10_roll_96 (j := 5) rfl rfl) (bq_nm bk_X10_roll_96 (j := 6) rfl rfl) rfl
theorem dX10_roll_103 : decode cX10_roll 103 = .ok (.iconst 0, 1) := dc_3 (bq_nm bk_X10_roll_96 (j := 7) rfl rfl)
theorem dX10_roll_104 : decode cX10_roll 104 = .ok (.invokevirtual 71, 3) := dc_182 (bq_nm bk_X10_roll_96 (j := 8) rfl rfl) (bq_nm bk_X10_roll_96 (j := 9) rfl rfl) (bq_nm bk_X10_roll_96 (j := 10) rfl rfl) rfl
theorem dX10_roll_107 : decode cX10_roll 107 = .ok (.iload 4, 2) := dc_21 (bq_nm bk_X10_roll_96 (j := 11) rfl rfl) (bq_nm bk_X10_roll_96 (j := 12) rfl rfl)
theorem dX10_roll_109 : decode cX10_roll 109 = .ok (.ireturn, 1) := dc_172 (bq_nm bk_X10_roll_96 (j := 13) rfl rfl)
set_option maxRecDepth 20000 in
theorem bk_X10_rollOf_0 : ((cX10_rollOf.data.toList.drop 0).take 21).length = 21 ∧ eN (((cX10_rollOf.data.toList.drop 0).take 21).map UInt8.toNat) = 252828722524411616907698621051563480725054954715163 := by decide +kernel
theorem dX10_rollOf_0 : decode cX10_rollOf 0 = .ok (.iload_n 1, 1) := dc_27 (bq_nm bk_X10_rollOf_0 (j := 0) rfl rfl)
theorem dX10_rollOf_1 : decode cX10_rollOf 1 = .ok (.invokestatic 79, 3) := dc_184 (bq_nm bk_X10_rollOf_0 (j := 1) rfl rfl) (bq_nm bk_X10_rollOf_0 (j := 2) rfl rfl) (bq_nm bk_X10_rollOf_0 (j := 3) rfl rfl) rfl
theorem dX10_rollOf_4 : decode cX10_rollOf 4 = .ok (.ifCond .eq 14, 3) := dc_153 (bq_nm bk_X10_rollOf_0 (j := 4) rfl rfl) (bq_nm bk_X10_rollOf_0 (j := 5) rfl rfl) (bq_nm bk_X10_rollOf_0 (j := 6) rfl rfl) rfl
theorem dX10_rollOf_7 : decode cX10_rollOf 7 = .ok (.aload_n 0, 1) := dc_42 (bq_nm bk_X10_rollOf_0 (j := 7) rfl rfl)
theorem dX10_rollOf_8 : decode cX10_rollOf 8 = .ok (.getfield 20, 3) := dc_180 (bq_nm bk_X10_rollOf_0 (j := 8) rfl rfl) (bq_nm bk_X10_rollOf_0 (j := 9) rfl rfl) (bq_nm bk_X10_rollOf_0 (j := 10) rfl rfl) rfl
theorem dX10_rollOf_11 : decode cX10_rollOf 11 = .ok (.iload_n 1, 1) := dc_27 (bq_nm bk_X10_rollOf_0 (j := 11) rfl rfl)
theorem dX10_rollOf_12 : decode cX10_rollOf 12 = .ok (.invokevirtual 91, 3) := dc_182 (bq_nm bk_X10_rollOf_0 (j := 12) rfl rfl) (bq_nm bk_X10_rollOf_0 (j := 13) rfl rfl) (bq_nm bk_X10_rollOf_0 (j := 14) rfl rfl) rfl
theorem dX10_rollOf_15 : decode cX10_rollOf 15 = .ok (.goto 5, 3) := dc_167 (bq_nm bk_X10_rollOf_0 (j := 15) rfl rfl) (bq_nm bk_X10_rollOf_0 (j := 16) rfl rfl) (bq_nm bk_X10_rollOf_0 (j := 17) rfl rfl) rfl
theorem dX10_rollOf_18 : decode cX10_rollOf 18 = .ok (.bipush (-2), 2) := dc_16 (bq_nm bk_X10_rollOf_0 (j := 18) rfl rfl) (bq_nm bk_X10_rollOf_0 (j := 19) rfl rfl) rfl
theorem dX10_rollOf_20 : decode cX10_rollOf 20 = .ok (.ireturn, 1) := dc_172 (bq_nm bk_X10_rollOf_0 (j := 20) rfl rfl)
set_option maxRecDepth 20000 in
theorem bk_X10_write_0 : ((cX10_write.data.toList.drop 0).take 32).length = 32 ∧ eN (((cX10_write.data.toList.drop 0).take 32).map UInt8.toNat) = 12844983070532895364561207399720098038792704883524837864218441417877113321499 := by decide +kernel
theorem dX10_write_0 : decode cX10_write 0 = .ok (.iload_n 1, 1) := dc_27 (bq_nm bk_X10_write_0 (j := 0) rfl rfl)
theorem dX10_write_1 : decode cX10_write 1 = .ok (.invokestatic 95, 3) := dc_184 (bq_nm bk_X10_write_0 (j := 1) rfl rfl) (bq_nm bk_X10_write_0 (j := 2) rfl rfl) (bq_nm bk_X10_write_0 (j := 3) rfl rfl) rfl
theorem dX10_write_4 : decode cX10_write 4 = .ok (.ifCond .eq 13, 3) := dc_153 (bq_nm bk_X10_write_0 (j := 4) rfl rfl) (bq_nm bk_X10_write_0 (j := 5) rfl rfl) (bq_nm bk_X10_write_0 (j := 6) rfl rfl) rfl
theorem dX10_write_7 : decode cX10_write 7 = .ok (.iload_n 2, 1) := dc_28 (bq_nm bk_X10_write_0 (j := 7) rfl rfl)
theorem dX10_write_8 : decode cX10_write 8 = .ok (.iconst 0, 1) := dc_3 (bq_nm bk_X10_write_0 (j := 8) rfl rfl)
theorem dX10_write_9 : decode cX10_write 9 = .ok (.bipush 127, 2) := dc_16 (bq_nm bk_X10_write_0 (j := 9) rfl rfl) (bq_nm bk_X10_write_0 (j := 10) rfl rfl) rfl
theorem dX10_write_11 : decode cX10_write 11 = .ok (.invokestatic 53, 3) := dc_184 (bq_nm bk_X10_write_0 (j := 11) rfl rfl) (bq_nm bk_X10_write_0 (j := 12) rfl rfl) (bq_nm bk_X10_write_0 (j := 13) rfl rfl) rfl
theorem dX10_write_14 : decode cX10_write 14 = .ok (.ifCond .ne 6, 3) := dc_154 (bq_nm bk_X10_write_0 (j := 14) rfl rfl) (bq_nm bk_X10_write_0 (j := 15) rfl rfl) (bq_nm bk_X10_write_0 (j := 16) rfl rfl) rfl
theorem dX10_write_17 : decode cX10_write 17 = .ok (.bipush (-2), 2) := dc_16 (bq_nm bk_X10_write_0 (j := 17) rfl rfl) (bq_nm bk_X10_write_0 (j := 18) rfl rfl) rfl
theorem dX10_write_19 : decode cX10_write 19 = .ok (.ireturn, 1) := dc_172 (bq_nm bk_X10_write_0 (j := 19) rfl rfl)
theorem dX10_write_20 : decode cX10_write 20 = .ok (.aload_n 0, 1) := dc_42 (bq_nm bk_X10_write_0 (j := 20) rfl rfl)
theorem dX10_write_21 : decode cX10_write 21 = .ok (.getfield 20, 3) := dc_180 (bq_nm bk_X10_write_0 (j := 21) rfl rfl) (bq_nm bk_X10_write_0 (j := 22) rfl rfl) (bq_nm bk_X10_write_0 (j := 23) rfl rfl) rfl
theorem dX10_write_24 : decode cX10_write 24 = .ok (.getfield 98, 3) := dc_180 (bq_nm bk_X10_write_0 (j := 24) rfl rfl) (bq_nm bk_X10_write_0 (j := 25) rfl rfl) (bq_nm bk_X10_write_0 (j := 26) rfl rfl) rfl
theorem dX10_write_27 : decode cX10_write 27 = .ok (.iload_n 1, 1) := dc_27 (bq_nm bk_X10_write_0 (j := 27) rfl rfl)
theorem dX10_write_28 : decode cX10_write 28 = .ok (.invokevirtual 102, 3) := dc_182 (bq_nm bk_X10_write_0 (j := 28) rfl rfl) (bq_nm bk_X10_write_0 (j := 29) rfl rfl) (bq_nm bk_X10_write_0 (j := 30) rfl rfl) rfl
theorem dX10_write_31 : decode cX10_write 31 = .ok (.iload_n 2, 1) := dc_28 (bq_nm bk_X10_write_0 (j := 31) rfl rfl)
set_option maxRecDepth 20000 in
theorem bk_X10_write_32 : ((cX10_write.data.toList.drop 32).take 4).length = 4 ∧ eN (((cX10_write.data.toList.drop 32).take 4).map UInt8.toNat) = 2892759222 := by decide +kernel
theorem dX10_write_32 : decode cX10_write 32 = .ok (.invokevirtual 108, 3) := dc_182 (bq_nm bk_X10_write_32 (j := 0) rfl rfl) (bq_nm bk_X10_write_32 (j := 1) rfl rfl) (bq_nm bk_X10_write_32 (j := 2) rfl rfl) rfl
theorem dX10_write_35 : decode cX10_write 35 = .ok (.ireturn, 1) := dc_172 (bq_nm bk_X10_write_32 (j := 3) rfl rfl)
set_option maxRecDepth 20000 in
theorem bk_X10_erase_0 : ((cX10_erase.data.toList.drop 0).take 27).length = 27 ∧ eN (((cX10_erase.data.toList.drop 0).take 27).map UInt8.toNat) = 71164958784343700070566473737667349397165284630704958909540513819 := by decide +kernel
theorem dX10_erase_0 : decode cX10_erase 0 = .ok (.iload_n 1, 1) := dc_27 (bq_nm bk_X10_erase_0 (j := 0) rfl rfl)
theorem dX10_erase_1 : decode cX10_erase 1 = .ok (.invokestatic 95, 3) := dc_184 (bq_nm bk_X10_erase_0 (j := 1) rfl rfl) (bq_nm bk_X10_erase_0 (j := 2) rfl rfl) (bq_nm bk_X10_erase_0 (j := 3) rfl rfl) rfl
theorem dX10_erase_4 : decode cX10_erase 4 = .ok (.ifCond .eq 20, 3) := dc_153 (bq_nm bk_X10_erase_0 (j := 4) rfl rfl) (bq_nm bk_X10_erase_0 (j := 5) rfl rfl) (bq_nm bk_X10_erase_0 (j := 6) rfl rfl) rfl
theorem dX10_erase_7 : decode cX10_erase 7 = .ok (.aload_n 0, 1) := dc_42 (bq_nm bk_X10_erase_0 (j := 7) rfl rfl)
theorem dX10_erase_8 : decode cX10_erase 8 = .ok (.getfield 20, 3) := dc_180 (bq_nm bk_X10_erase_0 (j := 8) rfl rfl) (bq_nm bk_X10_erase_0 (j := 9) rfl rfl) (bq_nm bk_X10_erase_0 (j := 10) rfl rfl) rfl
theorem dX10_erase_11 : decode cX10_erase 11 = .ok (.getfield 98, 3) := dc_180 (bq_nm bk_X10_erase_0 (j := 11) rfl rfl) (bq_nm bk_X10_erase_0 (j := 12) rfl rfl) (bq_nm bk_X10_erase_0 (j := 13) rfl rfl) rfl
theorem dX10_erase_14 : decode cX10_erase 14 = .ok (.iload_n 1, 1) := dc_27 (bq_nm bk_X10_erase_0 (j := 14) rfl rfl)
theorem dX10_erase_15 : decode cX10_erase 15 = .ok (.invokevirtual 102, 3) := dc_182 (bq_nm bk_X10_erase_0 (j := 15) rfl rfl) (bq_nm bk_X10_erase_0 (j := 16) rfl rfl) (bq_nm bk_X10_erase_0 (j := 17) rfl rfl) rfl
theorem dX10_erase_18 : decode cX10_erase 18 = .ok (.invokevirtual 113, 3) := dc_182 (bq_nm bk_X10_erase_0 (j := 18) rfl rfl) (bq_nm bk_X10_erase_0 (j := 19) rfl rfl) (bq_nm bk_X10_erase_0 (j := 20) rfl rfl) rfl
theorem dX10_erase_21 : decode cX10_erase 21 = .ok (.goto 5, 3) := dc_167 (bq_nm bk_X10_erase_0 (j := 21) rfl rfl) (bq_nm bk_X10_erase_0 (j := 22) rfl rfl) (bq_nm bk_X10_erase_0 (j := 23) rfl rfl) rfl
theorem dX10_erase_24 : decode cX10_erase 24 = .ok (.bipush (-2), 2) := dc_16 (bq_nm bk_X10_erase_0 (j := 24) rfl rfl) (bq_nm bk_X10_erase_0 (j := 25) rfl rfl) rfl
theorem dX10_erase_26 : decode cX10_erase 26 = .ok (.ireturn, 1) := dc_172 (bq_nm bk_X10_erase_0 (j := 26) rfl rfl)
set_option maxRecDepth 20000 in
theorem bk_X10_fault_0 : ((cX10_fault.data.toList.drop 0).take 31).length = 31 ∧ eN (((cX10_fault.data.toList.drop 0).take 31).map UInt8.toNat) = 305651170599944127458021103057366440495198482218425409704290858578399508507 := by decide +kernel
theorem dX10_fault_0 : decode cX10_fault 0 = .ok (.iload_n 1, 1) := dc_27 (bq_nm bk_X10_fault_0 (j := 0) rfl rfl)
theorem dX10_fault_1 : decode cX10_fault 1 = .ok (.invokestatic 95, 3) := dc_184 (bq_nm bk_X10_fault_0 (j := 1) rfl rfl) (bq_nm bk_X10_fault_0 (j := 2) rfl rfl) (bq_nm bk_X10_fault_0 (j := 3) rfl rfl) rfl
theorem dX10_fault_4 : decode cX10_fault 4 = .ok (.ifCond .eq 24, 3) := dc_153 (bq_nm bk_X10_fault_0 (j := 4) rfl rfl) (bq_nm bk_X10_fault_0 (j := 5) rfl rfl) (bq_nm bk_X10_fault_0 (j := 6) rfl rfl) rfl
theorem dX10_fault_7 : decode cX10_fault 7 = .ok (.aload_n 0, 1) := dc_42 (bq_nm bk_X10_fault_0 (j := 7) rfl rfl)
theorem dX10_fault_8 : decode cX10_fault 8 = .ok (.getfield 34, 3) := dc_180 (bq_nm bk_X10_fault_0 (j := 8) rfl rfl) (bq_nm bk_X10_fault_0 (j := 9) rfl rfl) (bq_nm bk_X10_fault_0 (j := 10) rfl rfl) rfl
theorem dX10_fault_11 : decode cX10_fault 11 = .ok (.aload_n 0, 1) := dc_42 (bq_nm bk_X10_fault_0 (j := 11) rfl rfl)
theorem dX10_fault_12 : decode cX10_fault 12 = .ok (.getfield 20, 3) := dc_180 (bq_nm bk_X10_fault_0 (j := 12) rfl rfl) (bq_nm bk_X10_fault_0 (j := 13) rfl rfl) (bq_nm bk_X10_fault_0 (j := 14) rfl rfl) rfl
theorem dX10_fault_15 : decode cX10_fault 15 = .ok (.getfield 98, 3) := dc_180 (bq_nm bk_X10_fault_0 (j := 15) rfl rfl) (bq_nm bk_X10_fault_0 (j := 16) rfl rfl) (bq_nm bk_X10_fault_0 (j := 17) rfl rfl) rfl
theorem dX10_fault_18 : decode cX10_fault 18 = .ok (.iload_n 1, 1) := dc_27 (bq_nm bk_X10_fault_0 (j := 18) rfl rfl)
theorem dX10_fault_19 : decode cX10_fault 19 = .ok (.invokevirtual 102, 3) := dc_182 (bq_nm bk_X10_fault_0 (j := 19) rfl rfl) (bq_nm bk_X10_fault_0 (j := 20) rfl rfl) (bq_nm bk_X10_fault_0 (j := 21) rfl rfl) rfl
theorem dX10_fault_22 : decode cX10_fault 22 = .ok (.invokevirtual 116, 3) := dc_182 (bq_nm bk_X10_fault_0 (j := 22) rfl rfl) (bq_nm bk_X10_fault_0 (j := 23) rfl rfl) (bq_nm bk_X10_fault_0 (j := 24) rfl rfl) rfl
theorem dX10_fault_25 : decode cX10_fault 25 = .ok (.goto 5, 3) := dc_167 (bq_nm bk_X10_fault_0 (j := 25) rfl rfl) (bq_nm bk_X10_fault_0 (j := 26) rfl rfl) (bq_nm bk_X10_fault_0 (j := 27) rfl rfl) rfl
theorem dX10_fault_28 : decode cX10_fault 28 = .ok (.bipush (-2), 2) := dc_16 (bq_nm bk_X10_fault_0 (j := 28) rfl rfl) (bq_nm bk_X10_fault_0 (j := 29) rfl rfl) rfl
theorem dX10_fault_30 : decode cX10_fault 30 = .ok (.ireturn, 1) := dc_172 (bq_nm bk_X10_fault_0 (j := 30) rfl rfl)
set_option maxRecDepth 20000 in
theorem bk_X10_tells_0 : ((cX10_tells.data.toList.drop 0).take 32).length = 32 ∧ eN (((cX10_tells.data.toList.drop 0).take 32).map UInt8.toNat) = 78462144992614858657195259156794015377717097383936477088169453179069110728731 := by decide +kernel
theorem dX10_tells_0 : decode cX10_tells 0 = .ok (.iload_n 1, 1) := dc_27 (bq_nm bk_X10_tells_0 (j := 0) rfl rfl)
theorem dX10_tells_1 : decode cX10_tells 1 = .ok (.invokestatic 95, 3) := dc_184 (bq_nm bk_X10_tells_0 (j := 1) rfl rfl) (bq_nm bk_X10_tells_0 (j := 2) rfl rfl) (bq_nm bk_X10_tells_0 (j := 3) rfl rfl) rfl
theorem dX10_tells_4 : decode cX10_tells 4 = .ok (.ifCond .eq 24, 3) := dc_153 (bq_nm bk_X10_tells_0 (j := 4) rfl rfl) (bq_nm bk_X10_tells_0 (j := 5) rfl rfl) (bq_nm bk_X10_tells_0 (j := 6) rfl rfl) rfl
theorem dX10_tells_7 : decode cX10_tells 7 = .ok (.aload_n 0, 1) := dc_42 (bq_nm bk_X10_tells_0 (j := 7) rfl rfl)
theorem dX10_tells_8 : decode cX10_tells 8 = .ok (.getfield 20, 3) := dc_180 (bq_nm bk_X10_tells_0 (j := 8) rfl rfl) (bq_nm bk_X10_tells_0 (j := 9) rfl rfl) (bq_nm bk_X10_tells_0 (j := 10) rfl rfl) rfl
theorem dX10_tells_11 : decode cX10_tells 11 = .ok (.getfield 57, 3) := dc_180 (bq_nm bk_X10_tells_0 (j := 11) rfl rfl) (bq_nm bk_X10_tells_0 (j := 12) rfl rfl) (bq_nm bk_X10_tells_0 (j := 13) rfl rfl) rfl
theorem dX10_tells_14 : decode cX10_tells 14 = .ok (.iload_n 2, 1) := dc_28 (bq_nm bk_X10_tells_0 (j := 14) rfl rfl)
theorem dX10_tells_15 : decode cX10_tells 15 = .ok (.invokevirtual 75, 3) := dc_182 (bq_nm bk_X10_tells_0 (j := 15) rfl rfl) (bq_nm bk_X10_tells_0 (j := 16) rfl rfl) (bq_nm bk_X10_tells_0 (j := 17) rfl rfl) rfl
theorem dX10_tells_18 : decode cX10_tells 18 = .ok (.ifCond .eq 10, 3) := dc_153 (bq_nm bk_X10_tells_0 (j := 18) rfl rfl) (bq_nm bk_X10_tells_0 (j := 19) rfl rfl) (bq_nm bk_X10_tells_0 (j := 20) rfl rfl) rfl
theorem dX10_tells_21 : decode cX10_tells 21 = .ok (.iload_n 3, 1) := dc_29 (bq_nm bk_X10_tells_0 (j := 21) rfl rfl)
theorem dX10_tells_22 : decode cX10_tells 22 = .ok (.invokestatic 79, 3) := dc_184 (bq_nm bk_X10_tells_0 (j := 22) rfl rfl) (bq_nm bk_X10_tells_0 (j := 23) rfl rfl) (bq_nm bk_X10_tells_0 (j := 24) rfl rfl) rfl
theorem dX10_tells_25 : decode cX10_tells 25 = .ok (.ifCond .ne 7, 3) := dc_154 (bq_nm bk_X10_tells_0 (j := 25) rfl rfl) (bq_nm bk_X10_tells_0 (j := 26) rfl rfl) (bq_nm bk_X10_tells_0 (j := 27) rfl rfl) rfl
theorem dX10_tells_28 : decode cX10_tells 28 = .ok (.ldc2_w 120, 3) := dc_20 (bq_nm bk_X10_tells_0 (j := 28) rfl rfl) (bq_nm bk_X10_tells_0 (j := 29) rfl rfl) (bq_nm bk_X10_tells_0 (j := 30) rfl rfl) rfl
theorem dX10_tells_31 : decode cX10_tells 31 = .ok (.lreturn, 1) := dc_173 (bq_nm bk_X10_tells_0 (j := 31) rfl rfl)
set_option maxRecDepth 20000 in
theorem bk_X10_tells_32 : ((cX10_tells.data.toList.drop 32).take 31).length = 31 ∧ eN (((cX10_tells.data.toList.drop 32).take 31).map UInt8.toNat) = 75404867960419077007599120011100142022809447841083021076111204614693499946 := by decide +kernel
theorem dX10_tells_32 : decode cX10_tells 32 = .ok (.aload_n 0, 1) := dc_42 (bq_nm bk_X10_tells_32 (j := 0) rfl rfl)
theorem dX10_tells_33 : decode cX10_tells 33 = .ok (.getfield 20, 3) := dc_180 (bq_nm bk_X10_tells_32 (j := 1) rfl rfl) (bq_nm bk_X10_tells_32 (j := 2) rfl rfl) (bq_nm bk_X10_tells_32 (j := 3) rfl rfl) rfl
theorem dX10_tells_36 : decode cX10_tells 36 = .ok (.getfield 98, 3) := dc_180 (bq_nm bk_X10_tells_32 (j := 4) rfl rfl) (bq_nm bk_X10_tells_32 (j := 5) rfl rfl) (bq_nm bk_X10_tells_32 (j := 6) rfl rfl) rfl
theorem dX10_tells_39 : decode cX10_tells 39 = .ok (.iload_n 1, 1) := dc_27 (bq_nm bk_X10_tells_32 (j := 7) rfl rfl)
theorem dX10_tells_40 : decode cX10_tells 40 = .ok (.invokevirtual 102, 3) := dc_182 (bq_nm bk_X10_tells_32 (j := 8) rfl rfl) (bq_nm bk_X10_tells_32 (j := 9) rfl rfl) (bq_nm bk_X10_tells_32 (j := 10) rfl rfl) rfl
theorem dX10_tells_43 : decode cX10_tells 43 = .ok (.astore 4, 2) := dc_58 (bq_nm bk_X10_tells_32 (j := 11) rfl rfl) (bq_nm bk_X10_tells_32 (j := 12) rfl rfl)
theorem dX10_tells_45 : decode cX10_tells 45 = .ok (.aload_n 0, 1) := dc_42 (bq_nm bk_X10_tells_32 (j := 13) rfl rfl)
theorem dX10_tells_46 : decode cX10_tells 46 = .ok (.getfield 34, 3) := dc_180 (bq_nm bk_X10_tells_32 (j := 14) rfl rfl) (bq_nm bk_X10_tells_32 (j := 15) rfl rfl) (bq_nm bk_X10_tells_32 (j := 16) rfl rfl) rfl
theorem dX10_tells_49 : decode cX10_tells 49 = .ok (.aload 4, 2) := dc_25 (bq_nm bk_X10_tells_32 (j := 17) rfl rfl) (bq_nm bk_X10_tells_32 (j := 18) rfl rfl)
theorem dX10_tells_51 : decode cX10_tells 51 = .ok (.invokevirtual 116, 3) := dc_182 (bq_nm bk_X10_tells_32 (j := 19) rfl rfl) (bq_nm bk_X10_tells_32 (j := 20) rfl rfl) (bq_nm bk_X10_tells_32 (j := 21) rfl rfl) rfl
theorem dX10_tells_54 : decode cX10_tells 54 = .ok (.iconst (-1), 1) := dc_2 (bq_nm bk_X10_tells_32 (j := 22) rfl rfl)
theorem dX10_tells_55 : decode cX10_tells 55 = .ok (.if_icmp .eq 7, 3) := dc_159 (bq_nm bk_X10_tells_32 (j := 23) rfl rfl) (bq_nm bk_X10_tells_32 (j := 24) rfl rfl) (bq_nm bk_X10_tells_32 (j := 25) rfl rfl) rfl
theorem dX10_tells_58 : decode cX10_tells 58 = .ok (.ldc2_w 122, 3) := dc_20 (bq_nm bk_X10_tells_32 (j := 26) rfl rfl) (bq_nm bk_X10_tells_32 (j := 27) rfl rfl) (bq_nm bk_X10_tells_32 (j := 28) rfl rfl) rfl
theorem dX10_tells_61 : decode cX10_tells 61 = .ok (.lreturn, 1) := dc_173 (bq_nm bk_X10_tells_32 (j := 29) rfl rfl)
theorem dX10_tells_62 : decode cX10_tells 62 = .ok (.aload_n 0, 1) := dc_42 (bq_nm bk_X10_tells_32 (j := 30) rfl rfl)
set_option maxRecDepth 20000 in
theorem bk_X10_tells_63 : ((cX10_tells.data.toList.drop 63).take 18).length = 18 ∧ eN (((cX10_tells.data.toList.drop 63).take 18).map UInt8.toNat) = 15113642272381919643340575581245064902082740 := by decide +kernel
theorem dX10_tells_63 : decode cX10_tells 63 = .ok (.getfield 12, 3) := dc_180 (bq_nm bk_X10_tells_63 (j := 0) rfl rfl) (bq_nm bk_X10_tells_63 (j := 1) rfl rfl) (bq_nm bk_X10_tells_63 (j := 2) rfl rfl) rfl
theorem dX10_tells_66 : decode cX10_tells 66 = .ok (.invokevirtual 124, 3) := dc_182 (bq_nm bk_X10_tells_63 (j := 3) rfl rfl) (bq_nm bk_X10_tells_63 (j := 4) rfl rfl) (bq_nm bk_X10_tells_63 (j := 5) rfl rfl) rfl
theorem dX10_tells_69 : decode cX10_tells 69 = .ok (.aload_n 0, 1) := dc_42 (bq_nm bk_X10_tells_63 (j := 6) rfl rfl)
theorem dX10_tells_70 : decode cX10_tells 70 = .ok (.getfield 12, 3) := dc_180 (bq_nm bk_X10_tells_63 (j := 7) rfl rfl) (bq_nm bk_X10_tells_63 (j := 8) rfl rfl) (bq_nm bk_X10_tells_63 (j := 9) rfl rfl) rfl
theorem dX10_tells_73 : decode cX10_tells 73 = .ok (.aload 4, 2) := dc_25 (bq_nm bk_X10_tells_63 (j := 10) rfl rfl) (bq_nm bk_X10_tells_63 (j := 11) rfl rfl)
theorem dX10_tells_75 : decode cX10_tells 75 = .ok (.iload_n 2, 1) := dc_28 (bq_nm bk_X10_tells_63 (j := 12) rfl rfl)
theorem dX10_tells_76 : decode cX10_tells 76 = .ok (.iload_n 3, 1) := dc_29 (bq_nm bk_X10_tells_63 (j := 13) rfl rfl)
theorem dX10_tells_77 : decode cX10_tells 77 = .ok (.invokevirtual 127, 3) := dc_182 (bq_nm bk_X10_tells_63 (j := 14) rfl rfl) (bq_nm bk_X10_tells_63 (j := 15) rfl rfl) (bq_nm bk_X10_tells_63 (j := 16) rfl rfl) rfl
theorem dX10_tells_80 : decode cX10_tells 80 = .ok (.lreturn, 1) := dc_173 (bq_nm bk_X10_tells_63 (j := 17) rfl rfl)
set_option maxRecDepth 20000 in
theorem bk_X10_act_0 : ((cX10_act.data.toList.drop 0).take 32).length = 32 ∧ eN (((cX10_act.data.toList.drop 0).take 32).map UInt8.toNat) = 12385602778993409587593223848976454299505640507169485398601501332021960554523 := by decide +kernel
theorem dX10_act_0 : decode cX10_act 0 = .ok (.iload_n 1, 1) := dc_27 (bq_nm bk_X10_act_0 (j := 0) rfl rfl)
theorem dX10_act_1 : decode cX10_act 1 = .ok (.invokestatic 95, 3) := dc_184 (bq_nm bk_X10_act_0 (j := 1) rfl rfl) (bq_nm bk_X10_act_0 (j := 2) rfl rfl) (bq_nm bk_X10_act_0 (j := 3) rfl rfl) rfl
theorem dX10_act_4 : decode cX10_act 4 = .ok (.ifCond .eq 17, 3) := dc_153 (bq_nm bk_X10_act_0 (j := 4) rfl rfl) (bq_nm bk_X10_act_0 (j := 5) rfl rfl) (bq_nm bk_X10_act_0 (j := 6) rfl rfl) rfl
theorem dX10_act_7 : decode cX10_act 7 = .ok (.iload_n 2, 1) := dc_28 (bq_nm bk_X10_act_0 (j := 7) rfl rfl)
theorem dX10_act_8 : decode cX10_act 8 = .ok (.invokestatic 131, 3) := dc_184 (bq_nm bk_X10_act_0 (j := 8) rfl rfl) (bq_nm bk_X10_act_0 (j := 9) rfl rfl) (bq_nm bk_X10_act_0 (j := 10) rfl rfl) rfl
theorem dX10_act_11 : decode cX10_act 11 = .ok (.ifCond .eq 10, 3) := dc_153 (bq_nm bk_X10_act_0 (j := 11) rfl rfl) (bq_nm bk_X10_act_0 (j := 12) rfl rfl) (bq_nm bk_X10_act_0 (j := 13) rfl rfl) rfl
theorem dX10_act_14 : decode cX10_act 14 = .ok (.iload_n 3, 1) := dc_29 (bq_nm bk_X10_act_0 (j := 14) rfl rfl)
theorem dX10_act_15 : decode cX10_act 15 = .ok (.invokestatic 79, 3) := dc_184 (bq_nm bk_X10_act_0 (j := 15) rfl rfl) (bq_nm bk_X10_act_0 (j := 16) rfl rfl) (bq_nm bk_X10_act_0 (j := 17) rfl rfl) rfl
theorem dX10_act_18 : decode cX10_act 18 = .ok (.ifCond .ne 6, 3) := dc_154 (bq_nm bk_X10_act_0 (j := 18) rfl rfl) (bq_nm bk_X10_act_0 (j := 19) rfl rfl) (bq_nm bk_X10_act_0 (j := 20) rfl rfl) rfl
theorem dX10_act_21 : decode cX10_act 21 = .ok (.bipush (-2), 2) := dc_16 (bq_nm bk_X10_act_0 (j := 21) rfl rfl) (bq_nm bk_X10_act_0 (j := 22) rfl rfl) rfl
theorem dX10_act_23 : decode cX10_act 23 = .ok (.ireturn, 1) := dc_172 (bq_nm bk_X10_act_0 (j := 23) rfl rfl)
theorem dX10_act_24 : decode cX10_act 24 = .ok (.aload_n 0, 1) := dc_42 (bq_nm bk_X10_act_0 (j := 24) rfl rfl)
theorem dX10_act_25 : decode cX10_act 25 = .ok (.getfield 20, 3) := dc_180 (bq_nm bk_X10_act_0 (j := 25) rfl rfl) (bq_nm bk_X10_act_0 (j := 26) rfl rfl) (bq_nm bk_X10_act_0 (j := 27) rfl rfl) rfl
theorem dX10_act_28 : decode cX10_act 28 = .ok (.getfield 98, 3) := dc_180 (bq_nm bk_X10_act_0 (j := 28) rfl rfl) (bq_nm bk_X10_act_0 (j := 29) rfl rfl) (bq_nm bk_X10_act_0 (j := 30) rfl rfl) rfl
theorem dX10_act_31 : decode cX10_act 31 = .ok (.iload_n 1, 1) := dc_27 (bq_nm bk_X10_act_0 (j := 31) rfl rfl)
set_option maxRecDepth 20000 in
theorem bk_X10_act_32 : ((cX10_act.data.toList.drop 32).take 31).length = 31 ∧ eN (((cX10_act.data.toList.drop 32).take 31).map UInt8.toNat) = 107782591773911323514944662169651858809200253834070127617143147159406117046 := by decide +kernel
theorem dX10_act_32 : decode cX10_act 32 = .ok (.invokevirtual 102, 3) := dc_182 (bq_nm bk_X10_act_32 (j := 0) rfl rfl) (bq_nm bk_X10_act_32 (j := 1) rfl rfl) (bq_nm bk_X10_act_32 (j := 2) rfl rfl) rfl
theorem dX10_act_35 : decode cX10_act 35 = .ok (.astore 4, 2) := dc_58 (bq_nm bk_X10_act_32 (j := 3) rfl rfl) (bq_nm bk_X10_act_32 (j := 4) rfl rfl)
theorem dX10_act_37 : decode cX10_act 37 = .ok (.aload_n 0, 1) := dc_42 (bq_nm bk_X10_act_32 (j := 5) rfl rfl)
theorem dX10_act_38 : decode cX10_act 38 = .ok (.getfield 34, 3) := dc_180 (bq_nm bk_X10_act_32 (j := 6) rfl rfl) (bq_nm bk_X10_act_32 (j := 7) rfl rfl) (bq_nm bk_X10_act_32 (j := 8) rfl rfl) rfl
theorem dX10_act_41 : decode cX10_act 41 = .ok (.aload 4, 2) := dc_25 (bq_nm bk_X10_act_32 (j := 9) rfl rfl) (bq_nm bk_X10_act_32 (j := 10) rfl rfl)
theorem dX10_act_43 : decode cX10_act 43 = .ok (.invokevirtual 116, 3) := dc_182 (bq_nm bk_X10_act_32 (j := 11) rfl rfl) (bq_nm bk_X10_act_32 (j := 12) rfl rfl) (bq_nm bk_X10_act_32 (j := 13) rfl rfl) rfl
theorem dX10_act_46 : decode cX10_act 46 = .ok (.iconst (-1), 1) := dc_2 (bq_nm bk_X10_act_32 (j := 14) rfl rfl)
theorem dX10_act_47 : decode cX10_act 47 = .ok (.if_icmp .eq 6, 3) := dc_159 (bq_nm bk_X10_act_32 (j := 15) rfl rfl) (bq_nm bk_X10_act_32 (j := 16) rfl rfl) (bq_nm bk_X10_act_32 (j := 17) rfl rfl) rfl
theorem dX10_act_50 : decode cX10_act 50 = .ok (.bipush (-3), 2) := dc_16 (bq_nm bk_X10_act_32 (j := 18) rfl rfl) (bq_nm bk_X10_act_32 (j := 19) rfl rfl) rfl
theorem dX10_act_52 : decode cX10_act 52 = .ok (.ireturn, 1) := dc_172 (bq_nm bk_X10_act_32 (j := 20) rfl rfl)
theorem dX10_act_53 : decode cX10_act 53 = .ok (.aload_n 0, 1) := dc_42 (bq_nm bk_X10_act_32 (j := 21) rfl rfl)
theorem dX10_act_54 : decode cX10_act 54 = .ok (.getfield 20, 3) := dc_180 (bq_nm bk_X10_act_32 (j := 22) rfl rfl) (bq_nm bk_X10_act_32 (j := 23) rfl rfl) (bq_nm bk_X10_act_32 (j := 24) rfl rfl) rfl
theorem dX10_act_57 : decode cX10_act 57 = .ok (.getfield 134, 3) := dc_180 (bq_nm bk_X10_act_32 (j := 25) rfl rfl) (bq_nm bk_X10_act_32 (j := 26) rfl rfl) (bq_nm bk_X10_act_32 (j := 27) rfl rfl) rfl
theorem dX10_act_60 : decode cX10_act 60 = .ok (.invokevirtual 61, 3) := dc_182 (bq_nm bk_X10_act_32 (j := 28) rfl rfl) (bq_nm bk_X10_act_32 (j := 29) rfl rfl) (bq_nm bk_X10_act_32 (j := 30) rfl rfl) rfl
set_option maxRecDepth 20000 in
theorem bk_X10_act_63 : ((cX10_act.data.toList.drop 63).take 30).length = 30 ∧ eN (((cX10_act.data.toList.drop 63).take 30).map UInt8.toNat) = 138053900533778782190328595205496597673292994168545587534805371096204598 := by decide +kernel
theorem dX10_act_63 : decode cX10_act 63 = .ok (.istore 5, 2) := dc_54 (bq_nm bk_X10_act_63 (j := 0) rfl rfl) (bq_nm bk_X10_act_63 (j := 1) rfl rfl)
theorem dX10_act_65 : decode cX10_act 65 = .ok (.iload 5, 2) := dc_21 (bq_nm bk_X10_act_63 (j := 2) rfl rfl) (bq_nm bk_X10_act_63 (j := 3) rfl rfl)
theorem dX10_act_67 : decode cX10_act 67 = .ok (.bipush (-4), 2) := dc_16 (bq_nm bk_X10_act_63 (j := 4) rfl rfl) (bq_nm bk_X10_act_63 (j := 5) rfl rfl) rfl
theorem dX10_act_69 : decode cX10_act 69 = .ok (.if_icmp .ne 6, 3) := dc_160 (bq_nm bk_X10_act_63 (j := 6) rfl rfl) (bq_nm bk_X10_act_63 (j := 7) rfl rfl) (bq_nm bk_X10_act_63 (j := 8) rfl rfl) rfl
theorem dX10_act_72 : decode cX10_act 72 = .ok (.bipush (-4), 2) := dc_16 (bq_nm bk_X10_act_63 (j := 9) rfl rfl) (bq_nm bk_X10_act_63 (j := 10) rfl rfl) rfl
theorem dX10_act_74 : decode cX10_act 74 = .ok (.ireturn, 1) := dc_172 (bq_nm bk_X10_act_63 (j := 11) rfl rfl)
theorem dX10_act_75 : decode cX10_act 75 = .ok (.aload_n 0, 1) := dc_42 (bq_nm bk_X10_act_63 (j := 12) rfl rfl)
theorem dX10_act_76 : decode cX10_act 76 = .ok (.getfield 20, 3) := dc_180 (bq_nm bk_X10_act_63 (j := 13) rfl rfl) (bq_nm bk_X10_act_63 (j := 14) rfl rfl) (bq_nm bk_X10_act_63 (j := 15) rfl rfl) rfl
theorem dX10_act_79 : decode cX10_act 79 = .ok (.getfield 134, 3) := dc_180 (bq_nm bk_X10_act_63 (j := 16) rfl rfl) (bq_nm bk_X10_act_63 (j := 17) rfl rfl) (bq_nm bk_X10_act_63 (j := 18) rfl rfl) rfl
theorem dX10_act_82 : decode cX10_act 82 = .ok (.iload 5, 2) := dc_21 (bq_nm bk_X10_act_63 (j := 19) rfl rfl) (bq_nm bk_X10_act_63 (j := 20) rfl rfl)
theorem dX10_act_84 : decode cX10_act 84 = .ok (.iconst 0, 1) := dc_3 (bq_nm bk_X10_act_63 (j := 21) rfl rfl)
theorem dX10_act_85 : decode cX10_act 85 = .ok (.iload_n 2, 1) := dc_28 (bq_nm bk_X10_act_63 (j := 22) rfl rfl)
theorem dX10_act_86 : decode cX10_act 86 = .ok (.invokevirtual 67, 3) := dc_182 (bq_nm bk_X10_act_63 (j := 23) rfl rfl) (bq_nm bk_X10_act_63 (j := 24) rfl rfl) (bq_nm bk_X10_act_63 (j := 25) rfl rfl) rfl
theorem dX10_act_89 : decode cX10_act 89 = .ok (.aload_n 0, 1) := dc_42 (bq_nm bk_X10_act_63 (j := 26) rfl rfl)
theorem dX10_act_90 : decode cX10_act 90 = .ok (.getfield 20, 3) := dc_180 (bq_nm bk_X10_act_63 (j := 27) rfl rfl) (bq_nm bk_X10_act_63 (j := 28) rfl rfl) (bq_nm bk_X10_act_63 (j := 29) rfl rfl) rfl
set_option maxRecDepth 20000 in
theorem bk_X10_act_93 : ((cX10_act.data.toList.drop 93).take 31).length = 31 ∧ eN (((cX10_act.data.toList.drop 93).take 31).map UInt8.toNat) = 242062902771574087768361353157226672942679778768822078989731621248138870964 := by decide +kernel
theorem dX10_act_93 : decode cX10_act 93 = .ok (.getfield 134, 3) := dc_180 (bq_nm bk_X10_act_93 (j := 0) rfl rfl) (bq_nm bk_X10_act_93 (j := 1) rfl rfl) (bq_nm bk_X10_act_93 (j := 2) rfl rfl) rfl
theorem dX10_act_96 : decode cX10_act 96 = .ok (.iload 5, 2) := dc_21 (bq_nm bk_X10_act_93 (j := 3) rfl rfl) (bq_nm bk_X10_act_93 (j := 4) rfl rfl)
theorem dX10_act_98 : decode cX10_act 98 = .ok (.iconst 1, 1) := dc_4 (bq_nm bk_X10_act_93 (j := 5) rfl rfl)
theorem dX10_act_99 : decode cX10_act 99 = .ok (.iload_n 3, 1) := dc_29 (bq_nm bk_X10_act_93 (j := 6) rfl rfl)
theorem dX10_act_100 : decode cX10_act 100 = .ok (.invokevirtual 67, 3) := dc_182 (bq_nm bk_X10_act_93 (j := 7) rfl rfl) (bq_nm bk_X10_act_93 (j := 8) rfl rfl) (bq_nm bk_X10_act_93 (j := 9) rfl rfl) rfl
theorem dX10_act_103 : decode cX10_act 103 = .ok (.aload_n 0, 1) := dc_42 (bq_nm bk_X10_act_93 (j := 10) rfl rfl)
theorem dX10_act_104 : decode cX10_act 104 = .ok (.getfield 20, 3) := dc_180 (bq_nm bk_X10_act_93 (j := 11) rfl rfl) (bq_nm bk_X10_act_93 (j := 12) rfl rfl) (bq_nm bk_X10_act_93 (j := 13) rfl rfl) rfl
theorem dX10_act_107 : decode cX10_act 107 = .ok (.getfield 134, 3) := dc_180 (bq_nm bk_X10_act_93 (j := 14) rfl rfl) (bq_nm bk_X10_act_93 (j := 15) rfl rfl) (bq_nm bk_X10_act_93 (j := 16) rfl rfl) rfl
theorem dX10_act_110 : decode cX10_act 110 = .ok (.iload 5, 2) := dc_21 (bq_nm bk_X10_act_93 (j := 17) rfl rfl) (bq_nm bk_X10_act_93 (j := 18) rfl rfl)
theorem dX10_act_112 : decode cX10_act 112 = .ok (.iconst 2, 1) := dc_5 (bq_nm bk_X10_act_93 (j := 19) rfl rfl)
theorem dX10_act_113 : decode cX10_act 113 = .ok (.iconst (-1), 1) := dc_2 (bq_nm bk_X10_act_93 (j := 20) rfl rfl)
theorem dX10_act_114 : decode cX10_act 114 = .ok (.invokevirtual 67, 3) := dc_182 (bq_nm bk_X10_act_93 (j := 21) rfl rfl) (bq_nm bk_X10_act_93 (j := 22) rfl rfl) (bq_nm bk_X10_act_93 (j := 23) rfl rfl) rfl
theorem dX10_act_117 : decode cX10_act 117 = .ok (.aload_n 0, 1) := dc_42 (bq_nm bk_X10_act_93 (j := 24) rfl rfl)
theorem dX10_act_118 : decode cX10_act 118 = .ok (.getfield 20, 3) := dc_180 (bq_nm bk_X10_act_93 (j := 25) rfl rfl) (bq_nm bk_X10_act_93 (j := 26) rfl rfl) (bq_nm bk_X10_act_93 (j := 27) rfl rfl) rfl
theorem dX10_act_121 : decode cX10_act 121 = .ok (.getfield 137, 3) := dc_180 (bq_nm bk_X10_act_93 (j := 28) rfl rfl) (bq_nm bk_X10_act_93 (j := 29) rfl rfl) (bq_nm bk_X10_act_93 (j := 30) rfl rfl) rfl
set_option maxRecDepth 20000 in
theorem bk_X10_act_124 : ((cX10_act.data.toList.drop 124).take 21).length = 21 ∧ eN (((cX10_act.data.toList.drop 124).take 21).map UInt8.toNat) = 251407301075632826742286545381938372307272542323989 := by decide +kernel
theorem dX10_act_124 : decode cX10_act 124 = .ok (.iload 5, 2) := dc_21 (bq_nm bk_X10_act_124 (j := 0) rfl rfl) (bq_nm bk_X10_act_124 (j := 1) rfl rfl)
theorem dX10_act_126 : decode cX10_act 126 = .ok (.invokevirtual 102, 3) := dc_182 (bq_nm bk_X10_act_124 (j := 2) rfl rfl) (bq_nm bk_X10_act_124 (j := 3) rfl rfl) (bq_nm bk_X10_act_124 (j := 4) rfl rfl) rfl
theorem dX10_act_129 : decode cX10_act 129 = .ok (.aload 4, 2) := dc_25 (bq_nm bk_X10_act_124 (j := 5) rfl rfl) (bq_nm bk_X10_act_124 (j := 6) rfl rfl)
theorem dX10_act_131 : decode cX10_act 131 = .ok (.invokevirtual 140, 3) := dc_182 (bq_nm bk_X10_act_124 (j := 7) rfl rfl) (bq_nm bk_X10_act_124 (j := 8) rfl rfl) (bq_nm bk_X10_act_124 (j := 9) rfl rfl) rfl
theorem dX10_act_134 : decode cX10_act 134 = .ok (.aload_n 0, 1) := dc_42 (bq_nm bk_X10_act_124 (j := 10) rfl rfl)
theorem dX10_act_135 : decode cX10_act 135 = .ok (.getfield 12, 3) := dc_180 (bq_nm bk_X10_act_124 (j := 11) rfl rfl) (bq_nm bk_X10_act_124 (j := 12) rfl rfl) (bq_nm bk_X10_act_124 (j := 13) rfl rfl) rfl
theorem dX10_act_138 : decode cX10_act 138 = .ok (.iconst 0, 1) := dc_3 (bq_nm bk_X10_act_124 (j := 14) rfl rfl)
theorem dX10_act_139 : decode cX10_act 139 = .ok (.invokevirtual 71, 3) := dc_182 (bq_nm bk_X10_act_124 (j := 15) rfl rfl) (bq_nm bk_X10_act_124 (j := 16) rfl rfl) (bq_nm bk_X10_act_124 (j := 17) rfl rfl) rfl
theorem dX10_act_142 : decode cX10_act 142 = .ok (.iload 5, 2) := dc_21 (bq_nm bk_X10_act_124 (j := 18) rfl rfl) (bq_nm bk_X10_act_124 (j := 19) rfl rfl)
theorem dX10_act_144 : decode cX10_act 144 = .ok (.ireturn, 1) := dc_172 (bq_nm bk_X10_act_124 (j := 20) rfl rfl)
set_option maxRecDepth 20000 in
theorem bk_X10_strikeOut_0 : ((cX10_strikeOut.data.toList.drop 0).take 32).length = 32 ∧ eN (((cX10_strikeOut.data.toList.drop 0).take 32).map UInt8.toNat) = 12449209273325431423458222559003199366075424735160081446383419592483906040874 := by decide +kernel
theorem dX10_strikeOut_0 : decode cX10_strikeOut 0 = .ok (.aload_n 0, 1) := dc_42 (bq_nm bk_X10_strikeOut_0 (j := 0) rfl rfl)
theorem dX10_strikeOut_1 : decode cX10_strikeOut 1 = .ok (.getfield 20, 3) := dc_180 (bq_nm bk_X10_strikeOut_0 (j := 1) rfl rfl) (bq_nm bk_X10_strikeOut_0 (j := 2) rfl rfl) (bq_nm bk_X10_strikeOut_0 (j := 3) rfl rfl) rfl
theorem dX10_strikeOut_4 : decode cX10_strikeOut 4 = .ok (.getfield 134, 3) := dc_180 (bq_nm bk_X10_strikeOut_0 (j := 4) rfl rfl) (bq_nm bk_X10_strikeOut_0 (j := 5) rfl rfl) (bq_nm bk_X10_strikeOut_0 (j := 6) rfl rfl) rfl
theorem dX10_strikeOut_7 : decode cX10_strikeOut 7 = .ok (.iload_n 1, 1) := dc_27 (bq_nm bk_X10_strikeOut_0 (j := 7) rfl rfl)
theorem dX10_strikeOut_8 : decode cX10_strikeOut 8 = .ok (.invokevirtual 75, 3) := dc_182 (bq_nm bk_X10_strikeOut_0 (j := 8) rfl rfl) (bq_nm bk_X10_strikeOut_0 (j := 9) rfl rfl) (bq_nm bk_X10_strikeOut_0 (j := 10) rfl rfl) rfl
theorem dX10_strikeOut_11 : decode cX10_strikeOut 11 = .ok (.ifCond .eq 10, 3) := dc_153 (bq_nm bk_X10_strikeOut_0 (j := 11) rfl rfl) (bq_nm bk_X10_strikeOut_0 (j := 12) rfl rfl) (bq_nm bk_X10_strikeOut_0 (j := 13) rfl rfl) rfl
theorem dX10_strikeOut_14 : decode cX10_strikeOut 14 = .ok (.iload_n 2, 1) := dc_28 (bq_nm bk_X10_strikeOut_0 (j := 14) rfl rfl)
theorem dX10_strikeOut_15 : decode cX10_strikeOut 15 = .ok (.invokestatic 79, 3) := dc_184 (bq_nm bk_X10_strikeOut_0 (j := 15) rfl rfl) (bq_nm bk_X10_strikeOut_0 (j := 16) rfl rfl) (bq_nm bk_X10_strikeOut_0 (j := 17) rfl rfl) rfl
theorem dX10_strikeOut_18 : decode cX10_strikeOut 18 = .ok (.ifCond .ne 6, 3) := dc_154 (bq_nm bk_X10_strikeOut_0 (j := 18) rfl rfl) (bq_nm bk_X10_strikeOut_0 (j := 19) rfl rfl) (bq_nm bk_X10_strikeOut_0 (j := 20) rfl rfl) rfl
theorem dX10_strikeOut_21 : decode cX10_strikeOut 21 = .ok (.bipush (-2), 2) := dc_16 (bq_nm bk_X10_strikeOut_0 (j := 21) rfl rfl) (bq_nm bk_X10_strikeOut_0 (j := 22) rfl rfl) rfl
theorem dX10_strikeOut_23 : decode cX10_strikeOut 23 = .ok (.ireturn, 1) := dc_172 (bq_nm bk_X10_strikeOut_0 (j := 23) rfl rfl)
theorem dX10_strikeOut_24 : decode cX10_strikeOut 24 = .ok (.aload_n 0, 1) := dc_42 (bq_nm bk_X10_strikeOut_0 (j := 24) rfl rfl)
theorem dX10_strikeOut_25 : decode cX10_strikeOut 25 = .ok (.getfield 20, 3) := dc_180 (bq_nm bk_X10_strikeOut_0 (j := 25) rfl rfl) (bq_nm bk_X10_strikeOut_0 (j := 26) rfl rfl) (bq_nm bk_X10_strikeOut_0 (j := 27) rfl rfl) rfl
theorem dX10_strikeOut_28 : decode cX10_strikeOut 28 = .ok (.getfield 134, 3) := dc_180 (bq_nm bk_X10_strikeOut_0 (j := 28) rfl rfl) (bq_nm bk_X10_strikeOut_0 (j := 29) rfl rfl) (bq_nm bk_X10_strikeOut_0 (j := 30) rfl rfl) rfl
theorem dX10_strikeOut_31 : decode cX10_strikeOut 31 = .ok (.iload_n 1, 1) := dc_27 (bq_nm bk_X10_strikeOut_0 (j := 31) rfl rfl)
set_option maxRecDepth 20000 in
theorem bk_X10_strikeOut_32 : ((cX10_strikeOut.data.toList.drop 32).take 32).length = 32 ∧ eN (((cX10_strikeOut.data.toList.drop 32).take 32).map UInt8.toNat) = 32115468449390906472719076982980196559969761752836605894726627137403393979909 := by decide +kernel
theorem dX10_strikeOut_32 : decode cX10_strikeOut 32 = .ok (.iconst 2, 1) := dc_5 (bq_nm bk_X10_strikeOut_32 (j := 0) rfl rfl)
theorem dX10_strikeOut_33 : decode cX10_strikeOut 33 = .ok (.invokevirtual 144, 3) := dc_182 (bq_nm bk_X10_strikeOut_32 (j := 1) rfl rfl) (bq_nm bk_X10_strikeOut_32 (j := 2) rfl rfl) (bq_nm bk_X10_strikeOut_32 (j := 3) rfl rfl) rfl
theorem dX10_strikeOut_36 : decode cX10_strikeOut 36 = .ok (.iconst (-1), 1) := dc_2 (bq_nm bk_X10_strikeOut_32 (j := 4) rfl rfl)
theorem dX10_strikeOut_37 : decode cX10_strikeOut 37 = .ok (.if_icmp .eq 6, 3) := dc_159 (bq_nm bk_X10_strikeOut_32 (j := 5) rfl rfl) (bq_nm bk_X10_strikeOut_32 (j := 6) rfl rfl) (bq_nm bk_X10_strikeOut_32 (j := 7) rfl rfl) rfl
theorem dX10_strikeOut_40 : decode cX10_strikeOut 40 = .ok (.bipush (-3), 2) := dc_16 (bq_nm bk_X10_strikeOut_32 (j := 8) rfl rfl) (bq_nm bk_X10_strikeOut_32 (j := 9) rfl rfl) rfl
theorem dX10_strikeOut_42 : decode cX10_strikeOut 42 = .ok (.ireturn, 1) := dc_172 (bq_nm bk_X10_strikeOut_32 (j := 10) rfl rfl)
theorem dX10_strikeOut_43 : decode cX10_strikeOut 43 = .ok (.aload_n 0, 1) := dc_42 (bq_nm bk_X10_strikeOut_32 (j := 11) rfl rfl)
theorem dX10_strikeOut_44 : decode cX10_strikeOut 44 = .ok (.getfield 20, 3) := dc_180 (bq_nm bk_X10_strikeOut_32 (j := 12) rfl rfl) (bq_nm bk_X10_strikeOut_32 (j := 13) rfl rfl) (bq_nm bk_X10_strikeOut_32 (j := 14) rfl rfl) rfl
theorem dX10_strikeOut_47 : decode cX10_strikeOut 47 = .ok (.getfield 134, 3) := dc_180 (bq_nm bk_X10_strikeOut_32 (j := 15) rfl rfl) (bq_nm bk_X10_strikeOut_32 (j := 16) rfl rfl) (bq_nm bk_X10_strikeOut_32 (j := 17) rfl rfl) rfl
theorem dX10_strikeOut_50 : decode cX10_strikeOut 50 = .ok (.iload_n 1, 1) := dc_27 (bq_nm bk_X10_strikeOut_32 (j := 18) rfl rfl)
theorem dX10_strikeOut_51 : decode cX10_strikeOut 51 = .ok (.iconst 2, 1) := dc_5 (bq_nm bk_X10_strikeOut_32 (j := 19) rfl rfl)
theorem dX10_strikeOut_52 : decode cX10_strikeOut 52 = .ok (.iload_n 2, 1) := dc_28 (bq_nm bk_X10_strikeOut_32 (j := 20) rfl rfl)
theorem dX10_strikeOut_53 : decode cX10_strikeOut 53 = .ok (.invokevirtual 67, 3) := dc_182 (bq_nm bk_X10_strikeOut_32 (j := 21) rfl rfl) (bq_nm bk_X10_strikeOut_32 (j := 22) rfl rfl) (bq_nm bk_X10_strikeOut_32 (j := 23) rfl rfl) rfl
theorem dX10_strikeOut_56 : decode cX10_strikeOut 56 = .ok (.aload_n 0, 1) := dc_42 (bq_nm bk_X10_strikeOut_32 (j := 24) rfl rfl)
theorem dX10_strikeOut_57 : decode cX10_strikeOut 57 = .ok (.getfield 12, 3) := dc_180 (bq_nm bk_X10_strikeOut_32 (j := 25) rfl rfl) (bq_nm bk_X10_strikeOut_32 (j := 26) rfl rfl) (bq_nm bk_X10_strikeOut_32 (j := 27) rfl rfl) rfl
theorem dX10_strikeOut_60 : decode cX10_strikeOut 60 = .ok (.iconst 0, 1) := dc_3 (bq_nm bk_X10_strikeOut_32 (j := 28) rfl rfl)
theorem dX10_strikeOut_61 : decode cX10_strikeOut 61 = .ok (.invokevirtual 71, 3) := dc_182 (bq_nm bk_X10_strikeOut_32 (j := 29) rfl rfl) (bq_nm bk_X10_strikeOut_32 (j := 30) rfl rfl) (bq_nm bk_X10_strikeOut_32 (j := 31) rfl rfl) rfl
set_option maxRecDepth 20000 in
theorem bk_X10_strikeOut_64 : ((cX10_strikeOut.data.toList.drop 64).take 2).length = 2 ∧ eN (((cX10_strikeOut.data.toList.drop 64).take 2).map UInt8.toNat) = 44036 := by decide +kernel
theorem dX10_strikeOut_64 : decode cX10_strikeOut 64 = .ok (.iconst 1, 1) := dc_4 (bq_nm bk_X10_strikeOut_64 (j := 0) rfl rfl)
theorem dX10_strikeOut_65 : decode cX10_strikeOut 65 = .ok (.ireturn, 1) := dc_172 (bq_nm bk_X10_strikeOut_64 (j := 1) rfl rfl)
set_option maxRecDepth 20000 in
theorem bk_X10_force_0 : ((cX10_force.data.toList.drop 0).take 29).length = 29 ∧ eN (((cX10_force.data.toList.drop 0).take 29).map UInt8.toNat) = 4663866738890752080158218189685455731750739761031283173079685986826267 := by decide +kernel
theorem dX10_force_0 : decode cX10_force 0 = .ok (.iload_n 1, 1) := dc_27 (bq_nm bk_X10_force_0 (j := 0) rfl rfl)
theorem dX10_force_1 : decode cX10_force 1 = .ok (.invokestatic 131, 3) := dc_184 (bq_nm bk_X10_force_0 (j := 1) rfl rfl) (bq_nm bk_X10_force_0 (j := 2) rfl rfl) (bq_nm bk_X10_force_0 (j := 3) rfl rfl) rfl
theorem dX10_force_4 : decode cX10_force 4 = .ok (.ifCond .eq 22, 3) := dc_153 (bq_nm bk_X10_force_0 (j := 4) rfl rfl) (bq_nm bk_X10_force_0 (j := 5) rfl rfl) (bq_nm bk_X10_force_0 (j := 6) rfl rfl) rfl
theorem dX10_force_7 : decode cX10_force 7 = .ok (.iload_n 2, 1) := dc_28 (bq_nm bk_X10_force_0 (j := 7) rfl rfl)
theorem dX10_force_8 : decode cX10_force 8 = .ok (.invokestatic 79, 3) := dc_184 (bq_nm bk_X10_force_0 (j := 8) rfl rfl) (bq_nm bk_X10_force_0 (j := 9) rfl rfl) (bq_nm bk_X10_force_0 (j := 10) rfl rfl) rfl
theorem dX10_force_11 : decode cX10_force 11 = .ok (.ifCond .eq 15, 3) := dc_153 (bq_nm bk_X10_force_0 (j := 11) rfl rfl) (bq_nm bk_X10_force_0 (j := 12) rfl rfl) (bq_nm bk_X10_force_0 (j := 13) rfl rfl) rfl
theorem dX10_force_14 : decode cX10_force 14 = .ok (.aload_n 0, 1) := dc_42 (bq_nm bk_X10_force_0 (j := 14) rfl rfl)
theorem dX10_force_15 : decode cX10_force 15 = .ok (.getfield 20, 3) := dc_180 (bq_nm bk_X10_force_0 (j := 15) rfl rfl) (bq_nm bk_X10_force_0 (j := 16) rfl rfl) (bq_nm bk_X10_force_0 (j := 17) rfl rfl) rfl
theorem dX10_force_18 : decode cX10_force 18 = .ok (.iload_n 1, 1) := dc_27 (bq_nm bk_X10_force_0 (j := 18) rfl rfl)
theorem dX10_force_19 : decode cX10_force 19 = .ok (.iload_n 2, 1) := dc_28 (bq_nm bk_X10_force_0 (j := 19) rfl rfl)
theorem dX10_force_20 : decode cX10_force 20 = .ok (.invokevirtual 148, 3) := dc_182 (bq_nm bk_X10_force_0 (j := 20) rfl rfl) (bq_nm bk_X10_force_0 (j := 21) rfl rfl) (bq_nm bk_X10_force_0 (j := 22) rfl rfl) rfl
theorem dX10_force_23 : decode cX10_force 23 = .ok (.goto 5, 3) := dc_167 (bq_nm bk_X10_force_0 (j := 23) rfl rfl) (bq_nm bk_X10_force_0 (j := 24) rfl rfl) (bq_nm bk_X10_force_0 (j := 25) rfl rfl) rfl
theorem dX10_force_26 : decode cX10_force 26 = .ok (.bipush (-2), 2) := dc_16 (bq_nm bk_X10_force_0 (j := 26) rfl rfl) (bq_nm bk_X10_force_0 (j := 27) rfl rfl) rfl
theorem dX10_force_28 : decode cX10_force 28 = .ok (.ireturn, 1) := dc_172 (bq_nm bk_X10_force_0 (j := 28) rfl rfl)
set_option maxRecDepth 20000 in
theorem bk_X10_may_0 : ((cX10_may.data.toList.drop 0).take 32).length = 32 ∧ eN (((cX10_may.data.toList.drop 0).take 32).map UInt8.toNat) = 19302790811202423934768307944648571850365207414291246692235559559736902857770 := by decide +kernel
theorem dX10_may_0 : decode cX10_may 0 = .ok (.aload_n 0, 1) := dc_42 (bq_nm bk_X10_may_0 (j := 0) rfl rfl)
theorem dX10_may_1 : decode cX10_may 1 = .ok (.getfield 20, 3) := dc_180 (bq_nm bk_X10_may_0 (j := 1) rfl rfl) (bq_nm bk_X10_may_0 (j := 2) rfl rfl) (bq_nm bk_X10_may_0 (j := 3) rfl rfl) rfl
theorem dX10_may_4 : decode cX10_may 4 = .ok (.getfield 57, 3) := dc_180 (bq_nm bk_X10_may_0 (j := 4) rfl rfl) (bq_nm bk_X10_may_0 (j := 5) rfl rfl) (bq_nm bk_X10_may_0 (j := 6) rfl rfl) rfl
theorem dX10_may_7 : decode cX10_may 7 = .ok (.iload_n 1, 1) := dc_27 (bq_nm bk_X10_may_0 (j := 7) rfl rfl)
theorem dX10_may_8 : decode cX10_may 8 = .ok (.invokevirtual 75, 3) := dc_182 (bq_nm bk_X10_may_0 (j := 8) rfl rfl) (bq_nm bk_X10_may_0 (j := 9) rfl rfl) (bq_nm bk_X10_may_0 (j := 10) rfl rfl) rfl
theorem dX10_may_11 : decode cX10_may 11 = .ok (.ifCond .eq 17, 3) := dc_153 (bq_nm bk_X10_may_0 (j := 11) rfl rfl) (bq_nm bk_X10_may_0 (j := 12) rfl rfl) (bq_nm bk_X10_may_0 (j := 13) rfl rfl) rfl
theorem dX10_may_14 : decode cX10_may 14 = .ok (.iload_n 2, 1) := dc_28 (bq_nm bk_X10_may_0 (j := 14) rfl rfl)
theorem dX10_may_15 : decode cX10_may 15 = .ok (.invokestatic 79, 3) := dc_184 (bq_nm bk_X10_may_0 (j := 15) rfl rfl) (bq_nm bk_X10_may_0 (j := 16) rfl rfl) (bq_nm bk_X10_may_0 (j := 17) rfl rfl) rfl
theorem dX10_may_18 : decode cX10_may 18 = .ok (.ifCond .eq 10, 3) := dc_153 (bq_nm bk_X10_may_0 (j := 18) rfl rfl) (bq_nm bk_X10_may_0 (j := 19) rfl rfl) (bq_nm bk_X10_may_0 (j := 20) rfl rfl) rfl
theorem dX10_may_21 : decode cX10_may 21 = .ok (.iload_n 3, 1) := dc_29 (bq_nm bk_X10_may_0 (j := 21) rfl rfl)
theorem dX10_may_22 : decode cX10_may 22 = .ok (.invokestatic 131, 3) := dc_184 (bq_nm bk_X10_may_0 (j := 22) rfl rfl) (bq_nm bk_X10_may_0 (j := 23) rfl rfl) (bq_nm bk_X10_may_0 (j := 24) rfl rfl) rfl
theorem dX10_may_25 : decode cX10_may 25 = .ok (.ifCond .ne 6, 3) := dc_154 (bq_nm bk_X10_may_0 (j := 25) rfl rfl) (bq_nm bk_X10_may_0 (j := 26) rfl rfl) (bq_nm bk_X10_may_0 (j := 27) rfl rfl) rfl
theorem dX10_may_28 : decode cX10_may 28 = .ok (.bipush (-2), 2) := dc_16 (bq_nm bk_X10_may_0 (j := 28) rfl rfl) (bq_nm bk_X10_may_0 (j := 29) rfl rfl) rfl
theorem dX10_may_30 : decode cX10_may 30 = .ok (.ireturn, 1) := dc_172 (bq_nm bk_X10_may_0 (j := 30) rfl rfl)
theorem dX10_may_31 : decode cX10_may 31 = .ok (.aload_n 0, 1) := dc_42 (bq_nm bk_X10_may_0 (j := 31) rfl rfl)
set_option maxRecDepth 20000 in
theorem bk_X10_may_32 : ((cX10_may.data.toList.drop 32).take 31).length = 31 ∧ eN (((cX10_may.data.toList.drop 32).take 31).map UInt8.toNat) = 7115716660086143527786434941238397234831163120738584128529509911517462708 := by decide +kernel
theorem dX10_may_32 : decode cX10_may 32 = .ok (.getfield 12, 3) := dc_180 (bq_nm bk_X10_may_32 (j := 0) rfl rfl) (bq_nm bk_X10_may_32 (j := 1) rfl rfl) (bq_nm bk_X10_may_32 (j := 2) rfl rfl) rfl
theorem dX10_may_35 : decode cX10_may 35 = .ok (.invokevirtual 124, 3) := dc_182 (bq_nm bk_X10_may_32 (j := 3) rfl rfl) (bq_nm bk_X10_may_32 (j := 4) rfl rfl) (bq_nm bk_X10_may_32 (j := 5) rfl rfl) rfl
theorem dX10_may_38 : decode cX10_may 38 = .ok (.aload_n 0, 1) := dc_42 (bq_nm bk_X10_may_32 (j := 6) rfl rfl)
theorem dX10_may_39 : decode cX10_may 39 = .ok (.getfield 12, 3) := dc_180 (bq_nm bk_X10_may_32 (j := 7) rfl rfl) (bq_nm bk_X10_may_32 (j := 8) rfl rfl) (bq_nm bk_X10_may_32 (j := 9) rfl rfl) rfl
theorem dX10_may_42 : decode cX10_may 42 = .ok (.aload_n 0, 1) := dc_42 (bq_nm bk_X10_may_32 (j := 10) rfl rfl)
theorem dX10_may_43 : decode cX10_may 43 = .ok (.getfield 20, 3) := dc_180 (bq_nm bk_X10_may_32 (j := 11) rfl rfl) (bq_nm bk_X10_may_32 (j := 12) rfl rfl) (bq_nm bk_X10_may_32 (j := 13) rfl rfl) rfl
theorem dX10_may_46 : decode cX10_may 46 = .ok (.iload_n 3, 1) := dc_29 (bq_nm bk_X10_may_32 (j := 14) rfl rfl)
theorem dX10_may_47 : decode cX10_may 47 = .ok (.iload_n 2, 1) := dc_28 (bq_nm bk_X10_may_32 (j := 15) rfl rfl)
theorem dX10_may_48 : decode cX10_may 48 = .ok (.invokevirtual 151, 3) := dc_182 (bq_nm bk_X10_may_32 (j := 16) rfl rfl) (bq_nm bk_X10_may_32 (j := 17) rfl rfl) (bq_nm bk_X10_may_32 (j := 18) rfl rfl) rfl
theorem dX10_may_51 : decode cX10_may 51 = .ok (.iload_n 3, 1) := dc_29 (bq_nm bk_X10_may_32 (j := 19) rfl rfl)
theorem dX10_may_52 : decode cX10_may 52 = .ok (.iload_n 2, 1) := dc_28 (bq_nm bk_X10_may_32 (j := 20) rfl rfl)
theorem dX10_may_53 : decode cX10_may 53 = .ok (.iconst 1, 1) := dc_4 (bq_nm bk_X10_may_32 (j := 21) rfl rfl)
theorem dX10_may_54 : decode cX10_may 54 = .ok (.iload_n 1, 1) := dc_27 (bq_nm bk_X10_may_32 (j := 22) rfl rfl)
theorem dX10_may_55 : decode cX10_may 55 = .ok (.ishl, 1) := dc_120 (bq_nm bk_X10_may_32 (j := 23) rfl rfl)
theorem dX10_may_56 : decode cX10_may 56 = .ok (.invokevirtual 155, 3) := dc_182 (bq_nm bk_X10_may_32 (j := 24) rfl rfl) (bq_nm bk_X10_may_32 (j := 25) rfl rfl) (bq_nm bk_X10_may_32 (j := 26) rfl rfl) rfl
theorem dX10_may_59 : decode cX10_may 59 = .ok (.ifCond .eq 7, 3) := dc_153 (bq_nm bk_X10_may_32 (j := 27) rfl rfl) (bq_nm bk_X10_may_32 (j := 28) rfl rfl) (bq_nm bk_X10_may_32 (j := 29) rfl rfl) rfl
theorem dX10_may_62 : decode cX10_may 62 = .ok (.iconst 1, 1) := dc_4 (bq_nm bk_X10_may_32 (j := 30) rfl rfl)
set_option maxRecDepth 20000 in
theorem bk_X10_may_63 : ((cX10_may.data.toList.drop 63).take 5).length = 5 ∧ eN (((cX10_may.data.toList.drop 63).take 5).map UInt8.toNat) = 738784968871 := by decide +kernel
theorem dX10_may_63 : decode cX10_may 63 = .ok (.goto 4, 3) := dc_167 (bq_nm bk_X10_may_63 (j := 0) rfl rfl) (bq_nm bk_X10_may_63 (j := 1) rfl rfl) (bq_nm bk_X10_may_63 (j := 2) rfl rfl) rfl
theorem dX10_may_66 : decode cX10_may 66 = .ok (.iconst 0, 1) := dc_3 (bq_nm bk_X10_may_63 (j := 3) rfl rfl)
theorem dX10_may_67 : decode cX10_may 67 = .ok (.ireturn, 1) := dc_172 (bq_nm bk_X10_may_63 (j := 4) rfl rfl)
set_option maxRecDepth 20000 in
theorem bk_X10_trial_0 : ((cX10_trial.data.toList.drop 0).take 31).length = 31 ∧ eN (((cX10_trial.data.toList.drop 0).take 31).map UInt8.toNat) = 3561873171558468741744793404725333491536251583724260622547446408987155242 := by decide +kernel
theorem dX10_trial_0 : decode cX10_trial 0 = .ok (.aload_n 0, 1) := dc_42 (bq_nm bk_X10_trial_0 (j := 0) rfl rfl)
theorem dX10_trial_1 : decode cX10_trial 1 = .ok (.iload_n 1, 1) := dc_27 (bq_nm bk_X10_trial_0 (j := 1) rfl rfl)
theorem dX10_trial_2 : decode cX10_trial 2 = .ok (.invokevirtual 159, 3) := dc_182 (bq_nm bk_X10_trial_0 (j := 2) rfl rfl) (bq_nm bk_X10_trial_0 (j := 3) rfl rfl) (bq_nm bk_X10_trial_0 (j := 4) rfl rfl) rfl
theorem dX10_trial_5 : decode cX10_trial 5 = .ok (.ifCond .eq 76, 3) := dc_153 (bq_nm bk_X10_trial_0 (j := 5) rfl rfl) (bq_nm bk_X10_trial_0 (j := 6) rfl rfl) (bq_nm bk_X10_trial_0 (j := 7) rfl rfl) rfl
theorem dX10_trial_8 : decode cX10_trial 8 = .ok (.iload_n 2, 1) := dc_28 (bq_nm bk_X10_trial_0 (j := 8) rfl rfl)
theorem dX10_trial_9 : decode cX10_trial 9 = .ok (.iconst 1, 1) := dc_4 (bq_nm bk_X10_trial_0 (j := 9) rfl rfl)
theorem dX10_trial_10 : decode cX10_trial 10 = .ok (.bipush 9, 2) := dc_16 (bq_nm bk_X10_trial_0 (j := 10) rfl rfl) (bq_nm bk_X10_trial_0 (j := 11) rfl rfl) rfl
theorem dX10_trial_12 : decode cX10_trial 12 = .ok (.invokestatic 53, 3) := dc_184 (bq_nm bk_X10_trial_0 (j := 12) rfl rfl) (bq_nm bk_X10_trial_0 (j := 13) rfl rfl) (bq_nm bk_X10_trial_0 (j := 14) rfl rfl) rfl
theorem dX10_trial_15 : decode cX10_trial 15 = .ok (.ifCond .eq 66, 3) := dc_153 (bq_nm bk_X10_trial_0 (j := 15) rfl rfl) (bq_nm bk_X10_trial_0 (j := 16) rfl rfl) (bq_nm bk_X10_trial_0 (j := 17) rfl rfl) rfl
theorem dX10_trial_18 : decode cX10_trial 18 = .ok (.iload_n 3, 1) := dc_29 (bq_nm bk_X10_trial_0 (j := 18) rfl rfl)
theorem dX10_trial_19 : decode cX10_trial 19 = .ok (.iconst 1, 1) := dc_4 (bq_nm bk_X10_trial_0 (j := 19) rfl rfl)
theorem dX10_trial_20 : decode cX10_trial 20 = .ok (.bipush 8, 2) := dc_16 (bq_nm bk_X10_trial_0 (j := 20) rfl rfl) (bq_nm bk_X10_trial_0 (j := 21) rfl rfl) rfl
theorem dX10_trial_22 : decode cX10_trial 22 = .ok (.invokestatic 53, 3) := dc_184 (bq_nm bk_X10_trial_0 (j := 22) rfl rfl) (bq_nm bk_X10_trial_0 (j := 23) rfl rfl) (bq_nm bk_X10_trial_0 (j := 24) rfl rfl) rfl
theorem dX10_trial_25 : decode cX10_trial 25 = .ok (.ifCond .eq 56, 3) := dc_153 (bq_nm bk_X10_trial_0 (j := 25) rfl rfl) (bq_nm bk_X10_trial_0 (j := 26) rfl rfl) (bq_nm bk_X10_trial_0 (j := 27) rfl rfl) rfl
theorem dX10_trial_28 : decode cX10_trial 28 = .ok (.iload 4, 2) := dc_21 (bq_nm bk_X10_trial_0 (j := 28) rfl rfl) (bq_nm bk_X10_trial_0 (j := 29) rfl rfl)
theorem dX10_trial_30 : decode cX10_trial 30 = .ok (.iconst (-1), 1) := dc_2 (bq_nm bk_X10_trial_0 (j := 30) rfl rfl)
set_option maxRecDepth 20000 in
theorem bk_X10_trial_31 : ((cX10_trial.data.toList.drop 31).take 32).length = 32 ∧ eN (((cX10_trial.data.toList.drop 31).take 32).map UInt8.toNat) = 1369452058978276190428070937869759779389925683223713108369045810020466821392 := by decide +kernel
theorem dX10_trial_31 : decode cX10_trial 31 = .ok (.bipush 9, 2) := dc_16 (bq_nm bk_X10_trial_31 (j := 0) rfl rfl) (bq_nm bk_X10_trial_31 (j := 1) rfl rfl) rfl
theorem dX10_trial_33 : decode cX10_trial 33 = .ok (.invokestatic 53, 3) := dc_184 (bq_nm bk_X10_trial_31 (j := 2) rfl rfl) (bq_nm bk_X10_trial_31 (j := 3) rfl rfl) (bq_nm bk_X10_trial_31 (j := 4) rfl rfl) rfl
theorem dX10_trial_36 : decode cX10_trial 36 = .ok (.ifCond .eq 45, 3) := dc_153 (bq_nm bk_X10_trial_31 (j := 5) rfl rfl) (bq_nm bk_X10_trial_31 (j := 6) rfl rfl) (bq_nm bk_X10_trial_31 (j := 7) rfl rfl) rfl
theorem dX10_trial_39 : decode cX10_trial 39 = .ok (.iload 5, 2) := dc_21 (bq_nm bk_X10_trial_31 (j := 8) rfl rfl) (bq_nm bk_X10_trial_31 (j := 9) rfl rfl)
theorem dX10_trial_41 : decode cX10_trial 41 = .ok (.iconst (-1), 1) := dc_2 (bq_nm bk_X10_trial_31 (j := 10) rfl rfl)
theorem dX10_trial_42 : decode cX10_trial 42 = .ok (.bipush 9, 2) := dc_16 (bq_nm bk_X10_trial_31 (j := 11) rfl rfl) (bq_nm bk_X10_trial_31 (j := 12) rfl rfl) rfl
theorem dX10_trial_44 : decode cX10_trial 44 = .ok (.invokestatic 53, 3) := dc_184 (bq_nm bk_X10_trial_31 (j := 13) rfl rfl) (bq_nm bk_X10_trial_31 (j := 14) rfl rfl) (bq_nm bk_X10_trial_31 (j := 15) rfl rfl) rfl
theorem dX10_trial_47 : decode cX10_trial 47 = .ok (.ifCond .eq 34, 3) := dc_153 (bq_nm bk_X10_trial_31 (j := 16) rfl rfl) (bq_nm bk_X10_trial_31 (j := 17) rfl rfl) (bq_nm bk_X10_trial_31 (j := 18) rfl rfl) rfl
theorem dX10_trial_50 : decode cX10_trial 50 = .ok (.iload 6, 2) := dc_21 (bq_nm bk_X10_trial_31 (j := 19) rfl rfl) (bq_nm bk_X10_trial_31 (j := 20) rfl rfl)
theorem dX10_trial_52 : decode cX10_trial 52 = .ok (.iconst (-1), 1) := dc_2 (bq_nm bk_X10_trial_31 (j := 21) rfl rfl)
theorem dX10_trial_53 : decode cX10_trial 53 = .ok (.iconst 3, 1) := dc_6 (bq_nm bk_X10_trial_31 (j := 22) rfl rfl)
theorem dX10_trial_54 : decode cX10_trial 54 = .ok (.invokestatic 53, 3) := dc_184 (bq_nm bk_X10_trial_31 (j := 23) rfl rfl) (bq_nm bk_X10_trial_31 (j := 24) rfl rfl) (bq_nm bk_X10_trial_31 (j := 25) rfl rfl) rfl
theorem dX10_trial_57 : decode cX10_trial 57 = .ok (.ifCond .eq 24, 3) := dc_153 (bq_nm bk_X10_trial_31 (j := 26) rfl rfl) (bq_nm bk_X10_trial_31 (j := 27) rfl rfl) (bq_nm bk_X10_trial_31 (j := 28) rfl rfl) rfl
theorem dX10_trial_60 : decode cX10_trial 60 = .ok (.iload 7, 2) := dc_21 (bq_nm bk_X10_trial_31 (j := 29) rfl rfl) (bq_nm bk_X10_trial_31 (j := 30) rfl rfl)
theorem dX10_trial_62 : decode cX10_trial 62 = .ok (.iconst 0, 1) := dc_3 (bq_nm bk_X10_trial_31 (j := 31) rfl rfl)
set_option maxRecDepth 20000 in
theorem bk_X10_trial_63 : ((cX10_trial.data.toList.drop 63).take 32).length = 32 ∧ eN (((cX10_trial.data.toList.drop 63).take 32).map UInt8.toNat) = 4567370260653378717061328590440943938485302863015685853647883774300436609031 := by decide +kernel
theorem dX10_trial_63 : decode cX10_trial 63 = .ok (.iconst 4, 1) := dc_7 (bq_nm bk_X10_trial_63 (j := 0) rfl rfl)
theorem dX10_trial_64 : decode cX10_trial 64 = .ok (.invokestatic 53, 3) := dc_184 (bq_nm bk_X10_trial_63 (j := 1) rfl rfl) (bq_nm bk_X10_trial_63 (j := 2) rfl rfl) (bq_nm bk_X10_trial_63 (j := 3) rfl rfl) rfl
theorem dX10_trial_67 : decode cX10_trial 67 = .ok (.ifCond .eq 14, 3) := dc_153 (bq_nm bk_X10_trial_63 (j := 4) rfl rfl) (bq_nm bk_X10_trial_63 (j := 5) rfl rfl) (bq_nm bk_X10_trial_63 (j := 6) rfl rfl) rfl
theorem dX10_trial_70 : decode cX10_trial 70 = .ok (.iload 9, 2) := dc_21 (bq_nm bk_X10_trial_63 (j := 7) rfl rfl) (bq_nm bk_X10_trial_63 (j := 8) rfl rfl)
theorem dX10_trial_72 : decode cX10_trial 72 = .ok (.iconst 1, 1) := dc_4 (bq_nm bk_X10_trial_63 (j := 9) rfl rfl)
theorem dX10_trial_73 : decode cX10_trial 73 = .ok (.bipush 24, 2) := dc_16 (bq_nm bk_X10_trial_63 (j := 10) rfl rfl) (bq_nm bk_X10_trial_63 (j := 11) rfl rfl) rfl
theorem dX10_trial_75 : decode cX10_trial 75 = .ok (.invokestatic 53, 3) := dc_184 (bq_nm bk_X10_trial_63 (j := 12) rfl rfl) (bq_nm bk_X10_trial_63 (j := 13) rfl rfl) (bq_nm bk_X10_trial_63 (j := 14) rfl rfl) rfl
theorem dX10_trial_78 : decode cX10_trial 78 = .ok (.ifCond .ne 6, 3) := dc_154 (bq_nm bk_X10_trial_63 (j := 15) rfl rfl) (bq_nm bk_X10_trial_63 (j := 16) rfl rfl) (bq_nm bk_X10_trial_63 (j := 17) rfl rfl) rfl
theorem dX10_trial_81 : decode cX10_trial 81 = .ok (.bipush (-2), 2) := dc_16 (bq_nm bk_X10_trial_63 (j := 18) rfl rfl) (bq_nm bk_X10_trial_63 (j := 19) rfl rfl) rfl
theorem dX10_trial_83 : decode cX10_trial 83 = .ok (.ireturn, 1) := dc_172 (bq_nm bk_X10_trial_63 (j := 20) rfl rfl)
theorem dX10_trial_84 : decode cX10_trial 84 = .ok (.aload_n 0, 1) := dc_42 (bq_nm bk_X10_trial_63 (j := 21) rfl rfl)
theorem dX10_trial_85 : decode cX10_trial 85 = .ok (.getfield 20, 3) := dc_180 (bq_nm bk_X10_trial_63 (j := 22) rfl rfl) (bq_nm bk_X10_trial_63 (j := 23) rfl rfl) (bq_nm bk_X10_trial_63 (j := 24) rfl rfl) rfl
theorem dX10_trial_88 : decode cX10_trial 88 = .ok (.getfield 162, 3) := dc_180 (bq_nm bk_X10_trial_63 (j := 25) rfl rfl) (bq_nm bk_X10_trial_63 (j := 26) rfl rfl) (bq_nm bk_X10_trial_63 (j := 27) rfl rfl) rfl
theorem dX10_trial_91 : decode cX10_trial 91 = .ok (.astore 10, 2) := dc_58 (bq_nm bk_X10_trial_63 (j := 28) rfl rfl) (bq_nm bk_X10_trial_63 (j := 29) rfl rfl)
theorem dX10_trial_93 : decode cX10_trial 93 = .ok (.aload 10, 2) := dc_25 (bq_nm bk_X10_trial_63 (j := 30) rfl rfl) (bq_nm bk_X10_trial_63 (j := 31) rfl rfl)
set_option maxRecDepth 20000 in
theorem bk_X10_trial_95 : ((cX10_trial.data.toList.drop 95).take 30).length = 30 ∧ eN (((cX10_trial.data.toList.drop 95).take 30).map UInt8.toNat) = 193357904587139619562065370828211863555392757677159693864847796013433014 := by decide +kernel
theorem dX10_trial_95 : decode cX10_trial 95 = .ok (.invokevirtual 61, 3) := dc_182 (bq_nm bk_X10_trial_95 (j := 0) rfl rfl) (bq_nm bk_X10_trial_95 (j := 1) rfl rfl) (bq_nm bk_X10_trial_95 (j := 2) rfl rfl) rfl
theorem dX10_trial_98 : decode cX10_trial 98 = .ok (.istore 11, 2) := dc_54 (bq_nm bk_X10_trial_95 (j := 3) rfl rfl) (bq_nm bk_X10_trial_95 (j := 4) rfl rfl)
theorem dX10_trial_100 : decode cX10_trial 100 = .ok (.iload 11, 2) := dc_21 (bq_nm bk_X10_trial_95 (j := 5) rfl rfl) (bq_nm bk_X10_trial_95 (j := 6) rfl rfl)
theorem dX10_trial_102 : decode cX10_trial 102 = .ok (.bipush (-4), 2) := dc_16 (bq_nm bk_X10_trial_95 (j := 7) rfl rfl) (bq_nm bk_X10_trial_95 (j := 8) rfl rfl) rfl
theorem dX10_trial_104 : decode cX10_trial 104 = .ok (.if_icmp .ne 6, 3) := dc_160 (bq_nm bk_X10_trial_95 (j := 9) rfl rfl) (bq_nm bk_X10_trial_95 (j := 10) rfl rfl) (bq_nm bk_X10_trial_95 (j := 11) rfl rfl) rfl
theorem dX10_trial_107 : decode cX10_trial 107 = .ok (.bipush (-4), 2) := dc_16 (bq_nm bk_X10_trial_95 (j := 12) rfl rfl) (bq_nm bk_X10_trial_95 (j := 13) rfl rfl) rfl
theorem dX10_trial_109 : decode cX10_trial 109 = .ok (.ireturn, 1) := dc_172 (bq_nm bk_X10_trial_95 (j := 14) rfl rfl)
theorem dX10_trial_110 : decode cX10_trial 110 = .ok (.aload 10, 2) := dc_25 (bq_nm bk_X10_trial_95 (j := 15) rfl rfl) (bq_nm bk_X10_trial_95 (j := 16) rfl rfl)
theorem dX10_trial_112 : decode cX10_trial 112 = .ok (.iload 11, 2) := dc_21 (bq_nm bk_X10_trial_95 (j := 17) rfl rfl) (bq_nm bk_X10_trial_95 (j := 18) rfl rfl)
theorem dX10_trial_114 : decode cX10_trial 114 = .ok (.iconst 0, 1) := dc_3 (bq_nm bk_X10_trial_95 (j := 19) rfl rfl)
theorem dX10_trial_115 : decode cX10_trial 115 = .ok (.iload_n 1, 1) := dc_27 (bq_nm bk_X10_trial_95 (j := 20) rfl rfl)
theorem dX10_trial_116 : decode cX10_trial 116 = .ok (.invokevirtual 67, 3) := dc_182 (bq_nm bk_X10_trial_95 (j := 21) rfl rfl) (bq_nm bk_X10_trial_95 (j := 22) rfl rfl) (bq_nm bk_X10_trial_95 (j := 23) rfl rfl) rfl
theorem dX10_trial_119 : decode cX10_trial 119 = .ok (.aload 10, 2) := dc_25 (bq_nm bk_X10_trial_95 (j := 24) rfl rfl) (bq_nm bk_X10_trial_95 (j := 25) rfl rfl)
theorem dX10_trial_121 : decode cX10_trial 121 = .ok (.iload 11, 2) := dc_21 (bq_nm bk_X10_trial_95 (j := 26) rfl rfl) (bq_nm bk_X10_trial_95 (j := 27) rfl rfl)
theorem dX10_trial_123 : decode cX10_trial 123 = .ok (.iconst 1, 1) := dc_4 (bq_nm bk_X10_trial_95 (j := 28) rfl rfl)
theorem dX10_trial_124 : decode cX10_trial 124 = .ok (.iload_n 2, 1) := dc_28 (bq_nm bk_X10_trial_95 (j := 29) rfl rfl)
set_option maxRecDepth 20000 in
theorem bk_X10_trial_125 : ((cX10_trial.data.toList.drop 125).take 32).length = 32 ∧ eN (((cX10_trial.data.toList.drop 125).take 32).map UInt8.toNat) = 30306217109928152805775486034424281039775187258042643793015196208299770052790 := by decide +kernel
theorem dX10_trial_125 : decode cX10_trial 125 = .ok (.invokevirtual 67, 3) := dc_182 (bq_nm bk_X10_trial_125 (j := 0) rfl rfl) (bq_nm bk_X10_trial_125 (j := 1) rfl rfl) (bq_nm bk_X10_trial_125 (j := 2) rfl rfl) rfl
theorem dX10_trial_128 : decode cX10_trial 128 = .ok (.aload 10, 2) := dc_25 (bq_nm bk_X10_trial_125 (j := 3) rfl rfl) (bq_nm bk_X10_trial_125 (j := 4) rfl rfl)
theorem dX10_trial_130 : decode cX10_trial 130 = .ok (.iload 11, 2) := dc_21 (bq_nm bk_X10_trial_125 (j := 5) rfl rfl) (bq_nm bk_X10_trial_125 (j := 6) rfl rfl)
theorem dX10_trial_132 : decode cX10_trial 132 = .ok (.iconst 2, 1) := dc_5 (bq_nm bk_X10_trial_125 (j := 7) rfl rfl)
theorem dX10_trial_133 : decode cX10_trial 133 = .ok (.iload_n 3, 1) := dc_29 (bq_nm bk_X10_trial_125 (j := 8) rfl rfl)
theorem dX10_trial_134 : decode cX10_trial 134 = .ok (.invokevirtual 67, 3) := dc_182 (bq_nm bk_X10_trial_125 (j := 9) rfl rfl) (bq_nm bk_X10_trial_125 (j := 10) rfl rfl) (bq_nm bk_X10_trial_125 (j := 11) rfl rfl) rfl
theorem dX10_trial_137 : decode cX10_trial 137 = .ok (.aload 10, 2) := dc_25 (bq_nm bk_X10_trial_125 (j := 12) rfl rfl) (bq_nm bk_X10_trial_125 (j := 13) rfl rfl)
theorem dX10_trial_139 : decode cX10_trial 139 = .ok (.iload 11, 2) := dc_21 (bq_nm bk_X10_trial_125 (j := 14) rfl rfl) (bq_nm bk_X10_trial_125 (j := 15) rfl rfl)
theorem dX10_trial_141 : decode cX10_trial 141 = .ok (.iconst 3, 1) := dc_6 (bq_nm bk_X10_trial_125 (j := 16) rfl rfl)
theorem dX10_trial_142 : decode cX10_trial 142 = .ok (.iload 4, 2) := dc_21 (bq_nm bk_X10_trial_125 (j := 17) rfl rfl) (bq_nm bk_X10_trial_125 (j := 18) rfl rfl)
theorem dX10_trial_144 : decode cX10_trial 144 = .ok (.invokevirtual 67, 3) := dc_182 (bq_nm bk_X10_trial_125 (j := 19) rfl rfl) (bq_nm bk_X10_trial_125 (j := 20) rfl rfl) (bq_nm bk_X10_trial_125 (j := 21) rfl rfl) rfl
theorem dX10_trial_147 : decode cX10_trial 147 = .ok (.aload 10, 2) := dc_25 (bq_nm bk_X10_trial_125 (j := 22) rfl rfl) (bq_nm bk_X10_trial_125 (j := 23) rfl rfl)
theorem dX10_trial_149 : decode cX10_trial 149 = .ok (.iload 11, 2) := dc_21 (bq_nm bk_X10_trial_125 (j := 24) rfl rfl) (bq_nm bk_X10_trial_125 (j := 25) rfl rfl)
theorem dX10_trial_151 : decode cX10_trial 151 = .ok (.iconst 4, 1) := dc_7 (bq_nm bk_X10_trial_125 (j := 26) rfl rfl)
theorem dX10_trial_152 : decode cX10_trial 152 = .ok (.iload 5, 2) := dc_21 (bq_nm bk_X10_trial_125 (j := 27) rfl rfl) (bq_nm bk_X10_trial_125 (j := 28) rfl rfl)
theorem dX10_trial_154 : decode cX10_trial 154 = .ok (.invokevirtual 67, 3) := dc_182 (bq_nm bk_X10_trial_125 (j := 29) rfl rfl) (bq_nm bk_X10_trial_125 (j := 30) rfl rfl) (bq_nm bk_X10_trial_125 (j := 31) rfl rfl) rfl
set_option maxRecDepth 20000 in
theorem bk_X10_trial_157 : ((cX10_trial.data.toList.drop 157).take 32).length = 32 ∧ eN (((cX10_trial.data.toList.drop 157).take 32).map UInt8.toNat) = 30306217190808000779414876242952668157736283907922542743994120401169463708185 := by decide +kernel
theorem dX10_trial_157 : decode cX10_trial 157 = .ok (.aload 10, 2) := dc_25 (bq_nm bk_X10_trial_157 (j := 0) rfl rfl) (bq_nm bk_X10_trial_157 (j := 1) rfl rfl)
theorem dX10_trial_159 : decode cX10_trial 159 = .ok (.iload 11, 2) := dc_21 (bq_nm bk_X10_trial_157 (j := 2) rfl rfl) (bq_nm bk_X10_trial_157 (j := 3) rfl rfl)
theorem dX10_trial_161 : decode cX10_trial 161 = .ok (.iconst 5, 1) := dc_8 (bq_nm bk_X10_trial_157 (j := 4) rfl rfl)
theorem dX10_trial_162 : decode cX10_trial 162 = .ok (.iload 6, 2) := dc_21 (bq_nm bk_X10_trial_157 (j := 5) rfl rfl) (bq_nm bk_X10_trial_157 (j := 6) rfl rfl)
theorem dX10_trial_164 : decode cX10_trial 164 = .ok (.invokevirtual 67, 3) := dc_182 (bq_nm bk_X10_trial_157 (j := 7) rfl rfl) (bq_nm bk_X10_trial_157 (j := 8) rfl rfl) (bq_nm bk_X10_trial_157 (j := 9) rfl rfl) rfl
theorem dX10_trial_167 : decode cX10_trial 167 = .ok (.aload 10, 2) := dc_25 (bq_nm bk_X10_trial_157 (j := 10) rfl rfl) (bq_nm bk_X10_trial_157 (j := 11) rfl rfl)
theorem dX10_trial_169 : decode cX10_trial 169 = .ok (.iload 11, 2) := dc_21 (bq_nm bk_X10_trial_157 (j := 12) rfl rfl) (bq_nm bk_X10_trial_157 (j := 13) rfl rfl)
theorem dX10_trial_171 : decode cX10_trial 171 = .ok (.bipush 6, 2) := dc_16 (bq_nm bk_X10_trial_157 (j := 14) rfl rfl) (bq_nm bk_X10_trial_157 (j := 15) rfl rfl) rfl
theorem dX10_trial_173 : decode cX10_trial 173 = .ok (.iload 7, 2) := dc_21 (bq_nm bk_X10_trial_157 (j := 16) rfl rfl) (bq_nm bk_X10_trial_157 (j := 17) rfl rfl)
theorem dX10_trial_175 : decode cX10_trial 175 = .ok (.invokevirtual 67, 3) := dc_182 (bq_nm bk_X10_trial_157 (j := 18) rfl rfl) (bq_nm bk_X10_trial_157 (j := 19) rfl rfl) (bq_nm bk_X10_trial_157 (j := 20) rfl rfl) rfl
theorem dX10_trial_178 : decode cX10_trial 178 = .ok (.aload 10, 2) := dc_25 (bq_nm bk_X10_trial_157 (j := 21) rfl rfl) (bq_nm bk_X10_trial_157 (j := 22) rfl rfl)
theorem dX10_trial_180 : decode cX10_trial 180 = .ok (.iload 11, 2) := dc_21 (bq_nm bk_X10_trial_157 (j := 23) rfl rfl) (bq_nm bk_X10_trial_157 (j := 24) rfl rfl)
theorem dX10_trial_182 : decode cX10_trial 182 = .ok (.bipush 7, 2) := dc_16 (bq_nm bk_X10_trial_157 (j := 25) rfl rfl) (bq_nm bk_X10_trial_157 (j := 26) rfl rfl) rfl
theorem dX10_trial_184 : decode cX10_trial 184 = .ok (.iload 8, 2) := dc_21 (bq_nm bk_X10_trial_157 (j := 27) rfl rfl) (bq_nm bk_X10_trial_157 (j := 28) rfl rfl)
theorem dX10_trial_186 : decode cX10_trial 186 = .ok (.invokevirtual 67, 3) := dc_182 (bq_nm bk_X10_trial_157 (j := 29) rfl rfl) (bq_nm bk_X10_trial_157 (j := 30) rfl rfl) (bq_nm bk_X10_trial_157 (j := 31) rfl rfl) rfl
set_option maxRecDepth 20000 in
theorem bk_X10_trial_189 : ((cX10_trial.data.toList.drop 189).take 14).length = 14 ∧ eN (((cX10_trial.data.toList.drop 189).take 14).map UInt8.toNat) = 3489452541802338344918655119460889 := by decide +kernel
theorem dX10_trial_189 : decode cX10_trial 189 = .ok (.aload 10, 2) := dc_25 (bq_nm bk_X10_trial_189 (j := 0) rfl rfl) (bq_nm bk_X10_trial_189 (j := 1) rfl rfl)
theorem dX10_trial_191 : decode cX10_trial 191 = .ok (.iload 11, 2) := dc_21 (bq_nm bk_X10_trial_189 (j := 2) rfl rfl) (bq_nm bk_X10_trial_189 (j := 3) rfl rfl)
theorem dX10_trial_193 : decode cX10_trial 193 = .ok (.bipush 8, 2) := dc_16 (bq_nm bk_X10_trial_189 (j := 4) rfl rfl) (bq_nm bk_X10_trial_189 (j := 5) rfl rfl) rfl
theorem dX10_trial_195 : decode cX10_trial 195 = .ok (.iload 9, 2) := dc_21 (bq_nm bk_X10_trial_189 (j := 6) rfl rfl) (bq_nm bk_X10_trial_189 (j := 7) rfl rfl)
theorem dX10_trial_197 : decode cX10_trial 197 = .ok (.invokevirtual 67, 3) := dc_182 (bq_nm bk_X10_trial_189 (j := 8) rfl rfl) (bq_nm bk_X10_trial_189 (j := 9) rfl rfl) (bq_nm bk_X10_trial_189 (j := 10) rfl rfl) rfl
theorem dX10_trial_200 : decode cX10_trial 200 = .ok (.iload 11, 2) := dc_21 (bq_nm bk_X10_trial_189 (j := 11) rfl rfl) (bq_nm bk_X10_trial_189 (j := 12) rfl rfl)
theorem dX10_trial_202 : decode cX10_trial 202 = .ok (.ireturn, 1) := dc_172 (bq_nm bk_X10_trial_189 (j := 13) rfl rfl)
set_option maxRecDepth 20000 in
theorem bk_X10_away_0 : ((cX10_away.data.toList.drop 0).take 32).length = 32 ∧ eN (((cX10_away.data.toList.drop 0).take 32).map UInt8.toNat) = 19302790811202423583250418895598595617785241149856552701831055829184433665066 := by decide +kernel
theorem dX10_away_0 : decode cX10_away 0 = .ok (.aload_n 0, 1) := dc_42 (bq_nm bk_X10_away_0 (j := 0) rfl rfl)
theorem dX10_away_1 : decode cX10_away 1 = .ok (.getfield 20, 3) := dc_180 (bq_nm bk_X10_away_0 (j := 1) rfl rfl) (bq_nm bk_X10_away_0 (j := 2) rfl rfl) (bq_nm bk_X10_away_0 (j := 3) rfl rfl) rfl
theorem dX10_away_4 : decode cX10_away 4 = .ok (.getfield 162, 3) := dc_180 (bq_nm bk_X10_away_0 (j := 4) rfl rfl) (bq_nm bk_X10_away_0 (j := 5) rfl rfl) (bq_nm bk_X10_away_0 (j := 6) rfl rfl) rfl
theorem dX10_away_7 : decode cX10_away 7 = .ok (.iload_n 1, 1) := dc_27 (bq_nm bk_X10_away_0 (j := 7) rfl rfl)
theorem dX10_away_8 : decode cX10_away 8 = .ok (.invokevirtual 75, 3) := dc_182 (bq_nm bk_X10_away_0 (j := 8) rfl rfl) (bq_nm bk_X10_away_0 (j := 9) rfl rfl) (bq_nm bk_X10_away_0 (j := 10) rfl rfl) rfl
theorem dX10_away_11 : decode cX10_away 11 = .ok (.ifCond .eq 17, 3) := dc_153 (bq_nm bk_X10_away_0 (j := 11) rfl rfl) (bq_nm bk_X10_away_0 (j := 12) rfl rfl) (bq_nm bk_X10_away_0 (j := 13) rfl rfl) rfl
theorem dX10_away_14 : decode cX10_away 14 = .ok (.aload_n 0, 1) := dc_42 (bq_nm bk_X10_away_0 (j := 14) rfl rfl)
theorem dX10_away_15 : decode cX10_away 15 = .ok (.getfield 20, 3) := dc_180 (bq_nm bk_X10_away_0 (j := 15) rfl rfl) (bq_nm bk_X10_away_0 (j := 16) rfl rfl) (bq_nm bk_X10_away_0 (j := 17) rfl rfl) rfl
theorem dX10_away_18 : decode cX10_away 18 = .ok (.getfield 57, 3) := dc_180 (bq_nm bk_X10_away_0 (j := 18) rfl rfl) (bq_nm bk_X10_away_0 (j := 19) rfl rfl) (bq_nm bk_X10_away_0 (j := 20) rfl rfl) rfl
theorem dX10_away_21 : decode cX10_away 21 = .ok (.iload_n 2, 1) := dc_28 (bq_nm bk_X10_away_0 (j := 21) rfl rfl)
theorem dX10_away_22 : decode cX10_away 22 = .ok (.invokevirtual 75, 3) := dc_182 (bq_nm bk_X10_away_0 (j := 22) rfl rfl) (bq_nm bk_X10_away_0 (j := 23) rfl rfl) (bq_nm bk_X10_away_0 (j := 24) rfl rfl) rfl
theorem dX10_away_25 : decode cX10_away 25 = .ok (.ifCond .ne 6, 3) := dc_154 (bq_nm bk_X10_away_0 (j := 25) rfl rfl) (bq_nm bk_X10_away_0 (j := 26) rfl rfl) (bq_nm bk_X10_away_0 (j := 27) rfl rfl) rfl
theorem dX10_away_28 : decode cX10_away 28 = .ok (.bipush (-2), 2) := dc_16 (bq_nm bk_X10_away_0 (j := 28) rfl rfl) (bq_nm bk_X10_away_0 (j := 29) rfl rfl) rfl
theorem dX10_away_30 : decode cX10_away 30 = .ok (.ireturn, 1) := dc_172 (bq_nm bk_X10_away_0 (j := 30) rfl rfl)
theorem dX10_away_31 : decode cX10_away 31 = .ok (.aload_n 0, 1) := dc_42 (bq_nm bk_X10_away_0 (j := 31) rfl rfl)
set_option maxRecDepth 20000 in
theorem bk_X10_away_32 : ((cX10_away.data.toList.drop 32).take 31).length = 31 ∧ eN (((cX10_away.data.toList.drop 32).take 31).map UInt8.toNat) = 35341798580247375657047460285136611358181087476322231767580647145696657588 := by decide +kernel
theorem dX10_away_32 : decode cX10_away 32 = .ok (.getfield 20, 3) := dc_180 (bq_nm bk_X10_away_32 (j := 0) rfl rfl) (bq_nm bk_X10_away_32 (j := 1) rfl rfl) (bq_nm bk_X10_away_32 (j := 2) rfl rfl) rfl
theorem dX10_away_35 : decode cX10_away 35 = .ok (.getfield 162, 3) := dc_180 (bq_nm bk_X10_away_32 (j := 3) rfl rfl) (bq_nm bk_X10_away_32 (j := 4) rfl rfl) (bq_nm bk_X10_away_32 (j := 5) rfl rfl) rfl
theorem dX10_away_38 : decode cX10_away 38 = .ok (.iload_n 1, 1) := dc_27 (bq_nm bk_X10_away_32 (j := 6) rfl rfl)
theorem dX10_away_39 : decode cX10_away 39 = .ok (.bipush 9, 2) := dc_16 (bq_nm bk_X10_away_32 (j := 7) rfl rfl) (bq_nm bk_X10_away_32 (j := 8) rfl rfl) rfl
theorem dX10_away_41 : decode cX10_away 41 = .ok (.invokevirtual 144, 3) := dc_182 (bq_nm bk_X10_away_32 (j := 9) rfl rfl) (bq_nm bk_X10_away_32 (j := 10) rfl rfl) (bq_nm bk_X10_away_32 (j := 11) rfl rfl) rfl
theorem dX10_away_44 : decode cX10_away 44 = .ok (.istore 4, 2) := dc_54 (bq_nm bk_X10_away_32 (j := 12) rfl rfl) (bq_nm bk_X10_away_32 (j := 13) rfl rfl)
theorem dX10_away_46 : decode cX10_away 46 = .ok (.iload 4, 2) := dc_21 (bq_nm bk_X10_away_32 (j := 14) rfl rfl) (bq_nm bk_X10_away_32 (j := 15) rfl rfl)
theorem dX10_away_48 : decode cX10_away 48 = .ok (.iload_n 2, 1) := dc_28 (bq_nm bk_X10_away_32 (j := 16) rfl rfl)
theorem dX10_away_49 : decode cX10_away 49 = .ok (.invokestatic 165, 3) := dc_184 (bq_nm bk_X10_away_32 (j := 17) rfl rfl) (bq_nm bk_X10_away_32 (j := 18) rfl rfl) (bq_nm bk_X10_away_32 (j := 19) rfl rfl) rfl
theorem dX10_away_52 : decode cX10_away 52 = .ok (.iload_n 3, 1) := dc_29 (bq_nm bk_X10_away_32 (j := 20) rfl rfl)
theorem dX10_away_53 : decode cX10_away 53 = .ok (.if_icmp .ne 6, 3) := dc_160 (bq_nm bk_X10_away_32 (j := 21) rfl rfl) (bq_nm bk_X10_away_32 (j := 22) rfl rfl) (bq_nm bk_X10_away_32 (j := 23) rfl rfl) rfl
theorem dX10_away_56 : decode cX10_away 56 = .ok (.bipush (-3), 2) := dc_16 (bq_nm bk_X10_away_32 (j := 24) rfl rfl) (bq_nm bk_X10_away_32 (j := 25) rfl rfl) rfl
theorem dX10_away_58 : decode cX10_away 58 = .ok (.ireturn, 1) := dc_172 (bq_nm bk_X10_away_32 (j := 26) rfl rfl)
theorem dX10_away_59 : decode cX10_away 59 = .ok (.aload_n 0, 1) := dc_42 (bq_nm bk_X10_away_32 (j := 27) rfl rfl)
theorem dX10_away_60 : decode cX10_away 60 = .ok (.getfield 20, 3) := dc_180 (bq_nm bk_X10_away_32 (j := 28) rfl rfl) (bq_nm bk_X10_away_32 (j := 29) rfl rfl) (bq_nm bk_X10_away_32 (j := 30) rfl rfl) rfl
set_option maxRecDepth 20000 in
theorem bk_X10_away_63 : ((cX10_away.data.toList.drop 63).take 25).length = 25 ∧ eN (((cX10_away.data.toList.drop 63).take 25).map UInt8.toNat) = 1079766378916234809063785638834033171277834452220860157788340 := by decide +kernel
theorem dX10_away_63 : decode cX10_away 63 = .ok (.getfield 162, 3) := dc_180 (bq_nm bk_X10_away_63 (j := 0) rfl rfl) (bq_nm bk_X10_away_63 (j := 1) rfl rfl) (bq_nm bk_X10_away_63 (j := 2) rfl rfl) rfl
theorem dX10_away_66 : decode cX10_away 66 = .ok (.iload_n 1, 1) := dc_27 (bq_nm bk_X10_away_63 (j := 3) rfl rfl)
theorem dX10_away_67 : decode cX10_away 67 = .ok (.bipush 9, 2) := dc_16 (bq_nm bk_X10_away_63 (j := 4) rfl rfl) (bq_nm bk_X10_away_63 (j := 5) rfl rfl) rfl
theorem dX10_away_69 : decode cX10_away 69 = .ok (.iload 4, 2) := dc_21 (bq_nm bk_X10_away_63 (j := 6) rfl rfl) (bq_nm bk_X10_away_63 (j := 7) rfl rfl)
theorem dX10_away_71 : decode cX10_away 71 = .ok (.iconst 1, 1) := dc_4 (bq_nm bk_X10_away_63 (j := 8) rfl rfl)
theorem dX10_away_72 : decode cX10_away 72 = .ok (.iload_n 2, 1) := dc_28 (bq_nm bk_X10_away_63 (j := 9) rfl rfl)
theorem dX10_away_73 : decode cX10_away 73 = .ok (.ishl, 1) := dc_120 (bq_nm bk_X10_away_63 (j := 10) rfl rfl)
theorem dX10_away_74 : decode cX10_away 74 = .ok (.ixor, 1) := dc_130 (bq_nm bk_X10_away_63 (j := 11) rfl rfl)
theorem dX10_away_75 : decode cX10_away 75 = .ok (.invokevirtual 67, 3) := dc_182 (bq_nm bk_X10_away_63 (j := 12) rfl rfl) (bq_nm bk_X10_away_63 (j := 13) rfl rfl) (bq_nm bk_X10_away_63 (j := 14) rfl rfl) rfl
theorem dX10_away_78 : decode cX10_away 78 = .ok (.aload_n 0, 1) := dc_42 (bq_nm bk_X10_away_63 (j := 15) rfl rfl)
theorem dX10_away_79 : decode cX10_away 79 = .ok (.getfield 12, 3) := dc_180 (bq_nm bk_X10_away_63 (j := 16) rfl rfl) (bq_nm bk_X10_away_63 (j := 17) rfl rfl) (bq_nm bk_X10_away_63 (j := 18) rfl rfl) rfl
theorem dX10_away_82 : decode cX10_away 82 = .ok (.iload_n 1, 1) := dc_27 (bq_nm bk_X10_away_63 (j := 19) rfl rfl)
theorem dX10_away_83 : decode cX10_away 83 = .ok (.invokevirtual 71, 3) := dc_182 (bq_nm bk_X10_away_63 (j := 20) rfl rfl) (bq_nm bk_X10_away_63 (j := 21) rfl rfl) (bq_nm bk_X10_away_63 (j := 22) rfl rfl) rfl
theorem dX10_away_86 : decode cX10_away 86 = .ok (.iconst 1, 1) := dc_4 (bq_nm bk_X10_away_63 (j := 23) rfl rfl)
theorem dX10_away_87 : decode cX10_away 87 = .ok (.ireturn, 1) := dc_172 (bq_nm bk_X10_away_63 (j := 24) rfl rfl)
set_option maxRecDepth 20000 in
theorem bk_X10_like_0 : ((cX10_like.data.toList.drop 0).take 31).length = 31 ∧ eN (((cX10_like.data.toList.drop 0).take 31).map UInt8.toNat) = 51631983384781361731626289586291535705615930354183523077084153061660734506 := by decide +kernel
theorem dX10_like_0 : decode cX10_like 0 = .ok (.aload_n 0, 1) := dc_42 (bq_nm bk_X10_like_0 (j := 0) rfl rfl)
theorem dX10_like_1 : decode cX10_like 1 = .ok (.getfield 20, 3) := dc_180 (bq_nm bk_X10_like_0 (j := 1) rfl rfl) (bq_nm bk_X10_like_0 (j := 2) rfl rfl) (bq_nm bk_X10_like_0 (j := 3) rfl rfl) rfl
theorem dX10_like_4 : decode cX10_like 4 = .ok (.getfield 162, 3) := dc_180 (bq_nm bk_X10_like_0 (j := 4) rfl rfl) (bq_nm bk_X10_like_0 (j := 5) rfl rfl) (bq_nm bk_X10_like_0 (j := 6) rfl rfl) rfl
theorem dX10_like_7 : decode cX10_like 7 = .ok (.iload_n 1, 1) := dc_27 (bq_nm bk_X10_like_0 (j := 7) rfl rfl)
theorem dX10_like_8 : decode cX10_like 8 = .ok (.invokevirtual 75, 3) := dc_182 (bq_nm bk_X10_like_0 (j := 8) rfl rfl) (bq_nm bk_X10_like_0 (j := 9) rfl rfl) (bq_nm bk_X10_like_0 (j := 10) rfl rfl) rfl
theorem dX10_like_11 : decode cX10_like 11 = .ok (.ifCond .eq 38, 3) := dc_153 (bq_nm bk_X10_like_0 (j := 11) rfl rfl) (bq_nm bk_X10_like_0 (j := 12) rfl rfl) (bq_nm bk_X10_like_0 (j := 13) rfl rfl) rfl
theorem dX10_like_14 : decode cX10_like 14 = .ok (.iload_n 2, 1) := dc_28 (bq_nm bk_X10_like_0 (j := 14) rfl rfl)
theorem dX10_like_15 : decode cX10_like 15 = .ok (.iconst 0, 1) := dc_3 (bq_nm bk_X10_like_0 (j := 15) rfl rfl)
theorem dX10_like_16 : decode cX10_like 16 = .ok (.iconst 1, 1) := dc_4 (bq_nm bk_X10_like_0 (j := 16) rfl rfl)
theorem dX10_like_17 : decode cX10_like 17 = .ok (.invokestatic 53, 3) := dc_184 (bq_nm bk_X10_like_0 (j := 17) rfl rfl) (bq_nm bk_X10_like_0 (j := 18) rfl rfl) (bq_nm bk_X10_like_0 (j := 19) rfl rfl) rfl
theorem dX10_like_20 : decode cX10_like 20 = .ok (.ifCond .eq 29, 3) := dc_153 (bq_nm bk_X10_like_0 (j := 20) rfl rfl) (bq_nm bk_X10_like_0 (j := 21) rfl rfl) (bq_nm bk_X10_like_0 (j := 22) rfl rfl) rfl
theorem dX10_like_23 : decode cX10_like 23 = .ok (.aload_n 0, 1) := dc_42 (bq_nm bk_X10_like_0 (j := 23) rfl rfl)
theorem dX10_like_24 : decode cX10_like 24 = .ok (.getfield 20, 3) := dc_180 (bq_nm bk_X10_like_0 (j := 24) rfl rfl) (bq_nm bk_X10_like_0 (j := 25) rfl rfl) (bq_nm bk_X10_like_0 (j := 26) rfl rfl) rfl
theorem dX10_like_27 : decode cX10_like 27 = .ok (.getfield 57, 3) := dc_180 (bq_nm bk_X10_like_0 (j := 27) rfl rfl) (bq_nm bk_X10_like_0 (j := 28) rfl rfl) (bq_nm bk_X10_like_0 (j := 29) rfl rfl) rfl
theorem dX10_like_30 : decode cX10_like 30 = .ok (.iload_n 3, 1) := dc_29 (bq_nm bk_X10_like_0 (j := 30) rfl rfl)
set_option maxRecDepth 20000 in
theorem bk_X10_like_31 : ((cX10_like.data.toList.drop 31).take 30).length = 30 ∧ eN (((cX10_like.data.toList.drop 31).take 30).map UInt8.toNat) = 290013902686012781723768712639941779986519178490989038414367576141004982 := by decide +kernel
theorem dX10_like_31 : decode cX10_like 31 = .ok (.invokevirtual 75, 3) := dc_182 (bq_nm bk_X10_like_31 (j := 0) rfl rfl) (bq_nm bk_X10_like_31 (j := 1) rfl rfl) (bq_nm bk_X10_like_31 (j := 2) rfl rfl) rfl
theorem dX10_like_34 : decode cX10_like 34 = .ok (.ifCond .eq 15, 3) := dc_153 (bq_nm bk_X10_like_31 (j := 3) rfl rfl) (bq_nm bk_X10_like_31 (j := 4) rfl rfl) (bq_nm bk_X10_like_31 (j := 5) rfl rfl) rfl
theorem dX10_like_37 : decode cX10_like 37 = .ok (.iload 4, 2) := dc_21 (bq_nm bk_X10_like_31 (j := 6) rfl rfl) (bq_nm bk_X10_like_31 (j := 7) rfl rfl)
theorem dX10_like_39 : decode cX10_like 39 = .ok (.bipush (-100), 2) := dc_16 (bq_nm bk_X10_like_31 (j := 8) rfl rfl) (bq_nm bk_X10_like_31 (j := 9) rfl rfl) rfl
theorem dX10_like_41 : decode cX10_like 41 = .ok (.bipush 100, 2) := dc_16 (bq_nm bk_X10_like_31 (j := 10) rfl rfl) (bq_nm bk_X10_like_31 (j := 11) rfl rfl) rfl
theorem dX10_like_43 : decode cX10_like 43 = .ok (.invokestatic 53, 3) := dc_184 (bq_nm bk_X10_like_31 (j := 12) rfl rfl) (bq_nm bk_X10_like_31 (j := 13) rfl rfl) (bq_nm bk_X10_like_31 (j := 14) rfl rfl) rfl
theorem dX10_like_46 : decode cX10_like 46 = .ok (.ifCond .ne 7, 3) := dc_154 (bq_nm bk_X10_like_31 (j := 15) rfl rfl) (bq_nm bk_X10_like_31 (j := 16) rfl rfl) (bq_nm bk_X10_like_31 (j := 17) rfl rfl) rfl
theorem dX10_like_49 : decode cX10_like 49 = .ok (.sipush (-1000), 3) := dc_17 (bq_nm bk_X10_like_31 (j := 18) rfl rfl) (bq_nm bk_X10_like_31 (j := 19) rfl rfl) (bq_nm bk_X10_like_31 (j := 20) rfl rfl) rfl
theorem dX10_like_52 : decode cX10_like 52 = .ok (.ireturn, 1) := dc_172 (bq_nm bk_X10_like_31 (j := 21) rfl rfl)
theorem dX10_like_53 : decode cX10_like 53 = .ok (.iload_n 2, 1) := dc_28 (bq_nm bk_X10_like_31 (j := 22) rfl rfl)
theorem dX10_like_54 : decode cX10_like 54 = .ok (.iload_n 3, 1) := dc_29 (bq_nm bk_X10_like_31 (j := 23) rfl rfl)
theorem dX10_like_55 : decode cX10_like 55 = .ok (.invokestatic 169, 3) := dc_184 (bq_nm bk_X10_like_31 (j := 24) rfl rfl) (bq_nm bk_X10_like_31 (j := 25) rfl rfl) (bq_nm bk_X10_like_31 (j := 26) rfl rfl) rfl
theorem dX10_like_58 : decode cX10_like 58 = .ok (.istore 5, 2) := dc_54 (bq_nm bk_X10_like_31 (j := 27) rfl rfl) (bq_nm bk_X10_like_31 (j := 28) rfl rfl)
theorem dX10_like_60 : decode cX10_like 60 = .ok (.aload_n 0, 1) := dc_42 (bq_nm bk_X10_like_31 (j := 29) rfl rfl)
set_option maxRecDepth 20000 in
theorem bk_X10_like_61 : ((cX10_like.data.toList.drop 61).take 30).length = 30 ∧ eN (((cX10_like.data.toList.drop 61).take 30).map UInt8.toNat) = 291679737868919825988238768931714814004634862390706089695540715984257204 := by decide +kernel
theorem dX10_like_61 : decode cX10_like 61 = .ok (.getfield 20, 3) := dc_180 (bq_nm bk_X10_like_61 (j := 0) rfl rfl) (bq_nm bk_X10_like_61 (j := 1) rfl rfl) (bq_nm bk_X10_like_61 (j := 2) rfl rfl) rfl
theorem dX10_like_64 : decode cX10_like 64 = .ok (.getfield 162, 3) := dc_180 (bq_nm bk_X10_like_61 (j := 3) rfl rfl) (bq_nm bk_X10_like_61 (j := 4) rfl rfl) (bq_nm bk_X10_like_61 (j := 5) rfl rfl) rfl
theorem dX10_like_67 : decode cX10_like 67 = .ok (.iload_n 1, 1) := dc_27 (bq_nm bk_X10_like_61 (j := 6) rfl rfl)
theorem dX10_like_68 : decode cX10_like 68 = .ok (.iload 5, 2) := dc_21 (bq_nm bk_X10_like_61 (j := 7) rfl rfl) (bq_nm bk_X10_like_61 (j := 8) rfl rfl)
theorem dX10_like_70 : decode cX10_like 70 = .ok (.invokevirtual 144, 3) := dc_182 (bq_nm bk_X10_like_61 (j := 9) rfl rfl) (bq_nm bk_X10_like_61 (j := 10) rfl rfl) (bq_nm bk_X10_like_61 (j := 11) rfl rfl) rfl
theorem dX10_like_73 : decode cX10_like 73 = .ok (.istore 6, 2) := dc_54 (bq_nm bk_X10_like_61 (j := 12) rfl rfl) (bq_nm bk_X10_like_61 (j := 13) rfl rfl)
theorem dX10_like_75 : decode cX10_like 75 = .ok (.aload_n 0, 1) := dc_42 (bq_nm bk_X10_like_61 (j := 14) rfl rfl)
theorem dX10_like_76 : decode cX10_like 76 = .ok (.getfield 20, 3) := dc_180 (bq_nm bk_X10_like_61 (j := 15) rfl rfl) (bq_nm bk_X10_like_61 (j := 16) rfl rfl) (bq_nm bk_X10_like_61 (j := 17) rfl rfl) rfl
theorem dX10_like_79 : decode cX10_like 79 = .ok (.getfield 162, 3) := dc_180 (bq_nm bk_X10_like_61 (j := 18) rfl rfl) (bq_nm bk_X10_like_61 (j := 19) rfl rfl) (bq_nm bk_X10_like_61 (j := 20) rfl rfl) rfl
theorem dX10_like_82 : decode cX10_like 82 = .ok (.iload_n 1, 1) := dc_27 (bq_nm bk_X10_like_61 (j := 21) rfl rfl)
theorem dX10_like_83 : decode cX10_like 83 = .ok (.iload 5, 2) := dc_21 (bq_nm bk_X10_like_61 (j := 22) rfl rfl) (bq_nm bk_X10_like_61 (j := 23) rfl rfl)
theorem dX10_like_85 : decode cX10_like 85 = .ok (.iload 4, 2) := dc_21 (bq_nm bk_X10_like_61 (j := 24) rfl rfl) (bq_nm bk_X10_like_61 (j := 25) rfl rfl)
theorem dX10_like_87 : decode cX10_like 87 = .ok (.invokevirtual 67, 3) := dc_182 (bq_nm bk_X10_like_61 (j := 26) rfl rfl) (bq_nm bk_X10_like_61 (j := 27) rfl rfl) (bq_nm bk_X10_like_61 (j := 28) rfl rfl) rfl
theorem dX10_like_90 : decode cX10_like 90 = .ok (.aload_n 0, 1) := dc_42 (bq_nm bk_X10_like_61 (j := 29) rfl rfl)
set_option maxRecDepth 20000 in
theorem bk_X10_like_91 : ((cX10_like.data.toList.drop 91).take 10).length = 10 ∧ eN (((cX10_like.data.toList.drop 91).take 10).map UInt8.toNat) = 812359248713001514827956 := by decide +kernel
theorem dX10_like_91 : decode cX10_like 91 = .ok (.getfield 12, 3) := dc_180 (bq_nm bk_X10_like_91 (j := 0) rfl rfl) (bq_nm bk_X10_like_91 (j := 1) rfl rfl) (bq_nm bk_X10_like_91 (j := 2) rfl rfl) rfl
theorem dX10_like_94 : decode cX10_like 94 = .ok (.iload_n 1, 1) := dc_27 (bq_nm bk_X10_like_91 (j := 3) rfl rfl)
theorem dX10_like_95 : decode cX10_like 95 = .ok (.invokevirtual 71, 3) := dc_182 (bq_nm bk_X10_like_91 (j := 4) rfl rfl) (bq_nm bk_X10_like_91 (j := 5) rfl rfl) (bq_nm bk_X10_like_91 (j := 6) rfl rfl) rfl
theorem dX10_like_98 : decode cX10_like 98 = .ok (.iload 6, 2) := dc_21 (bq_nm bk_X10_like_91 (j := 7) rfl rfl) (bq_nm bk_X10_like_91 (j := 8) rfl rfl)
theorem dX10_like_100 : decode cX10_like 100 = .ok (.ireturn, 1) := dc_172 (bq_nm bk_X10_like_91 (j := 9) rfl rfl)
set_option maxRecDepth 20000 in
theorem bk_X10_box_0 : ((cX10_box.data.toList.drop 0).take 32).length = 32 ∧ eN (((cX10_box.data.toList.drop 0).take 32).map UInt8.toNat) = 77799066803339531711437808144057983339662546941392995808928077321855416972330 := by decide +kernel
theorem dX10_box_0 : decode cX10_box 0 = .ok (.aload_n 0, 1) := dc_42 (bq_nm bk_X10_box_0 (j := 0) rfl rfl)
theorem dX10_box_1 : decode cX10_box 1 = .ok (.getfield 20, 3) := dc_180 (bq_nm bk_X10_box_0 (j := 1) rfl rfl) (bq_nm bk_X10_box_0 (j := 2) rfl rfl) (bq_nm bk_X10_box_0 (j := 3) rfl rfl) rfl
theorem dX10_box_4 : decode cX10_box 4 = .ok (.getfield 162, 3) := dc_180 (bq_nm bk_X10_box_0 (j := 4) rfl rfl) (bq_nm bk_X10_box_0 (j := 5) rfl rfl) (bq_nm bk_X10_box_0 (j := 6) rfl rfl) rfl
theorem dX10_box_7 : decode cX10_box 7 = .ok (.iload_n 1, 1) := dc_27 (bq_nm bk_X10_box_0 (j := 7) rfl rfl)
theorem dX10_box_8 : decode cX10_box 8 = .ok (.invokevirtual 75, 3) := dc_182 (bq_nm bk_X10_box_0 (j := 8) rfl rfl) (bq_nm bk_X10_box_0 (j := 9) rfl rfl) (bq_nm bk_X10_box_0 (j := 10) rfl rfl) rfl
theorem dX10_box_11 : decode cX10_box 11 = .ok (.ifCond .ne 6, 3) := dc_154 (bq_nm bk_X10_box_0 (j := 11) rfl rfl) (bq_nm bk_X10_box_0 (j := 12) rfl rfl) (bq_nm bk_X10_box_0 (j := 13) rfl rfl) rfl
theorem dX10_box_14 : decode cX10_box 14 = .ok (.bipush (-2), 2) := dc_16 (bq_nm bk_X10_box_0 (j := 14) rfl rfl) (bq_nm bk_X10_box_0 (j := 15) rfl rfl) rfl
theorem dX10_box_16 : decode cX10_box 16 = .ok (.ireturn, 1) := dc_172 (bq_nm bk_X10_box_0 (j := 16) rfl rfl)
theorem dX10_box_17 : decode cX10_box 17 = .ok (.aload_n 0, 1) := dc_42 (bq_nm bk_X10_box_0 (j := 17) rfl rfl)
theorem dX10_box_18 : decode cX10_box 18 = .ok (.getfield 12, 3) := dc_180 (bq_nm bk_X10_box_0 (j := 18) rfl rfl) (bq_nm bk_X10_box_0 (j := 19) rfl rfl) (bq_nm bk_X10_box_0 (j := 20) rfl rfl) rfl
theorem dX10_box_21 : decode cX10_box 21 = .ok (.invokevirtual 124, 3) := dc_182 (bq_nm bk_X10_box_0 (j := 21) rfl rfl) (bq_nm bk_X10_box_0 (j := 22) rfl rfl) (bq_nm bk_X10_box_0 (j := 23) rfl rfl) rfl
theorem dX10_box_24 : decode cX10_box 24 = .ok (.aload_n 0, 1) := dc_42 (bq_nm bk_X10_box_0 (j := 24) rfl rfl)
theorem dX10_box_25 : decode cX10_box 25 = .ok (.getfield 12, 3) := dc_180 (bq_nm bk_X10_box_0 (j := 25) rfl rfl) (bq_nm bk_X10_box_0 (j := 26) rfl rfl) (bq_nm bk_X10_box_0 (j := 27) rfl rfl) rfl
theorem dX10_box_28 : decode cX10_box 28 = .ok (.iload_n 1, 1) := dc_27 (bq_nm bk_X10_box_0 (j := 28) rfl rfl)
theorem dX10_box_29 : decode cX10_box 29 = .ok (.invokevirtual 172, 3) := dc_182 (bq_nm bk_X10_box_0 (j := 29) rfl rfl) (bq_nm bk_X10_box_0 (j := 30) rfl rfl) (bq_nm bk_X10_box_0 (j := 31) rfl rfl) rfl
set_option maxRecDepth 20000 in
theorem bk_X10_box_32 : ((cX10_box.data.toList.drop 32).take 4).length = 4 ∧ eN (((cX10_box.data.toList.drop 32).take 4).map UInt8.toNat) = 2897215668 := by decide +kernel
theorem dX10_box_32 : decode cX10_box 32 = .ok (.getfield 176, 3) := dc_180 (bq_nm bk_X10_box_32 (j := 0) rfl rfl) (bq_nm bk_X10_box_32 (j := 1) rfl rfl) (bq_nm bk_X10_box_32 (j := 2) rfl rfl) rfl
theorem dX10_box_35 : decode cX10_box 35 = .ok (.ireturn, 1) := dc_172 (bq_nm bk_X10_box_32 (j := 3) rfl rfl)
set_option maxRecDepth 20000 in
theorem bk_X10_drawn_0 : ((cX10_drawn.data.toList.drop 0).take 32).length = 32 ∧ eN (((cX10_drawn.data.toList.drop 0).take 32).map UInt8.toNat) = 5428997642718395687256123207493310878967035075679917242869356484366971221034 := by decide +kernel
theorem dX10_drawn_0 : decode cX10_drawn 0 = .ok (.aload_n 0, 1) := dc_42 (bq_nm bk_X10_drawn_0 (j := 0) rfl rfl)
theorem dX10_drawn_1 : decode cX10_drawn 1 = .ok (.getfield 20, 3) := dc_180 (bq_nm bk_X10_drawn_0 (j := 1) rfl rfl) (bq_nm bk_X10_drawn_0 (j := 2) rfl rfl) (bq_nm bk_X10_drawn_0 (j := 3) rfl rfl) rfl
theorem dX10_drawn_4 : decode cX10_drawn 4 = .ok (.getfield 162, 3) := dc_180 (bq_nm bk_X10_drawn_0 (j := 4) rfl rfl) (bq_nm bk_X10_drawn_0 (j := 5) rfl rfl) (bq_nm bk_X10_drawn_0 (j := 6) rfl rfl) rfl
theorem dX10_drawn_7 : decode cX10_drawn 7 = .ok (.iload_n 1, 1) := dc_27 (bq_nm bk_X10_drawn_0 (j := 7) rfl rfl)
theorem dX10_drawn_8 : decode cX10_drawn 8 = .ok (.invokevirtual 75, 3) := dc_182 (bq_nm bk_X10_drawn_0 (j := 8) rfl rfl) (bq_nm bk_X10_drawn_0 (j := 9) rfl rfl) (bq_nm bk_X10_drawn_0 (j := 10) rfl rfl) rfl
theorem dX10_drawn_11 : decode cX10_drawn 11 = .ok (.ifCond .eq 7, 3) := dc_153 (bq_nm bk_X10_drawn_0 (j := 11) rfl rfl) (bq_nm bk_X10_drawn_0 (j := 12) rfl rfl) (bq_nm bk_X10_drawn_0 (j := 13) rfl rfl) rfl
theorem dX10_drawn_14 : decode cX10_drawn 14 = .ok (.iload_n 2, 1) := dc_28 (bq_nm bk_X10_drawn_0 (j := 14) rfl rfl)
theorem dX10_drawn_15 : decode cX10_drawn 15 = .ok (.ifCond .ge 6, 3) := dc_156 (bq_nm bk_X10_drawn_0 (j := 15) rfl rfl) (bq_nm bk_X10_drawn_0 (j := 16) rfl rfl) (bq_nm bk_X10_drawn_0 (j := 17) rfl rfl) rfl
theorem dX10_drawn_18 : decode cX10_drawn 18 = .ok (.bipush (-2), 2) := dc_16 (bq_nm bk_X10_drawn_0 (j := 18) rfl rfl) (bq_nm bk_X10_drawn_0 (j := 19) rfl rfl) rfl
theorem dX10_drawn_20 : decode cX10_drawn 20 = .ok (.ireturn, 1) := dc_172 (bq_nm bk_X10_drawn_0 (j := 20) rfl rfl)
theorem dX10_drawn_21 : decode cX10_drawn 21 = .ok (.aload_n 0, 1) := dc_42 (bq_nm bk_X10_drawn_0 (j := 21) rfl rfl)
theorem dX10_drawn_22 : decode cX10_drawn 22 = .ok (.getfield 12, 3) := dc_180 (bq_nm bk_X10_drawn_0 (j := 22) rfl rfl) (bq_nm bk_X10_drawn_0 (j := 23) rfl rfl) (bq_nm bk_X10_drawn_0 (j := 24) rfl rfl) rfl
theorem dX10_drawn_25 : decode cX10_drawn 25 = .ok (.invokevirtual 124, 3) := dc_182 (bq_nm bk_X10_drawn_0 (j := 25) rfl rfl) (bq_nm bk_X10_drawn_0 (j := 26) rfl rfl) (bq_nm bk_X10_drawn_0 (j := 27) rfl rfl) rfl
theorem dX10_drawn_28 : decode cX10_drawn 28 = .ok (.aload_n 0, 1) := dc_42 (bq_nm bk_X10_drawn_0 (j := 28) rfl rfl)
theorem dX10_drawn_29 : decode cX10_drawn 29 = .ok (.getfield 12, 3) := dc_180 (bq_nm bk_X10_drawn_0 (j := 29) rfl rfl) (bq_nm bk_X10_drawn_0 (j := 30) rfl rfl) (bq_nm bk_X10_drawn_0 (j := 31) rfl rfl) rfl
set_option maxRecDepth 20000 in
theorem bk_X10_drawn_32 : ((cX10_drawn.data.toList.drop 32).take 9).length = 9 ∧ eN (((cX10_drawn.data.toList.drop 32).take 9).map UInt8.toNat) = 3185954663027206829595 := by decide +kernel
theorem dX10_drawn_32 : decode cX10_drawn 32 = .ok (.iload_n 1, 1) := dc_27 (bq_nm bk_X10_drawn_32 (j := 0) rfl rfl)
theorem dX10_drawn_33 : decode cX10_drawn 33 = .ok (.invokevirtual 172, 3) := dc_182 (bq_nm bk_X10_drawn_32 (j := 1) rfl rfl) (bq_nm bk_X10_drawn_32 (j := 2) rfl rfl) (bq_nm bk_X10_drawn_32 (j := 3) rfl rfl) rfl
theorem dX10_drawn_36 : decode cX10_drawn 36 = .ok (.iload_n 2, 1) := dc_28 (bq_nm bk_X10_drawn_32 (j := 4) rfl rfl)
theorem dX10_drawn_37 : decode cX10_drawn 37 = .ok (.invokevirtual 182, 3) := dc_182 (bq_nm bk_X10_drawn_32 (j := 5) rfl rfl) (bq_nm bk_X10_drawn_32 (j := 6) rfl rfl) (bq_nm bk_X10_drawn_32 (j := 7) rfl rfl) rfl
theorem dX10_drawn_40 : decode cX10_drawn 40 = .ok (.ireturn, 1) := dc_172 (bq_nm bk_X10_drawn_32 (j := 8) rfl rfl)
set_option maxRecDepth 20000 in
theorem bk_X10_slip_0 : ((cX10_slip.data.toList.drop 0).take 32).length = 32 ∧ eN (((cX10_slip.data.toList.drop 0).take 32).map UInt8.toNat) = 19302790811202423583250418895598595617785241149856552701831055829184433665066 := by decide +kernel
theorem dX10_slip_0 : decode cX10_slip 0 = .ok (.aload_n 0, 1) := dc_42 (bq_nm bk_X10_slip_0 (j := 0) rfl rfl)
theorem dX10_slip_1 : decode cX10_slip 1 = .ok (.getfield 20, 3) := dc_180 (bq_nm bk_X10_slip_0 (j := 1) rfl rfl) (bq_nm bk_X10_slip_0 (j := 2) rfl rfl) (bq_nm bk_X10_slip_0 (j := 3) rfl rfl) rfl
theorem dX10_slip_4 : decode cX10_slip 4 = .ok (.getfield 162, 3) := dc_180 (bq_nm bk_X10_slip_0 (j := 4) rfl rfl) (bq_nm bk_X10_slip_0 (j := 5) rfl rfl) (bq_nm bk_X10_slip_0 (j := 6) rfl rfl) rfl
theorem dX10_slip_7 : decode cX10_slip 7 = .ok (.iload_n 1, 1) := dc_27 (bq_nm bk_X10_slip_0 (j := 7) rfl rfl)
theorem dX10_slip_8 : decode cX10_slip 8 = .ok (.invokevirtual 75, 3) := dc_182 (bq_nm bk_X10_slip_0 (j := 8) rfl rfl) (bq_nm bk_X10_slip_0 (j := 9) rfl rfl) (bq_nm bk_X10_slip_0 (j := 10) rfl rfl) rfl
theorem dX10_slip_11 : decode cX10_slip 11 = .ok (.ifCond .eq 17, 3) := dc_153 (bq_nm bk_X10_slip_0 (j := 11) rfl rfl) (bq_nm bk_X10_slip_0 (j := 12) rfl rfl) (bq_nm bk_X10_slip_0 (j := 13) rfl rfl) rfl
theorem dX10_slip_14 : decode cX10_slip 14 = .ok (.aload_n 0, 1) := dc_42 (bq_nm bk_X10_slip_0 (j := 14) rfl rfl)
theorem dX10_slip_15 : decode cX10_slip 15 = .ok (.getfield 20, 3) := dc_180 (bq_nm bk_X10_slip_0 (j := 15) rfl rfl) (bq_nm bk_X10_slip_0 (j := 16) rfl rfl) (bq_nm bk_X10_slip_0 (j := 17) rfl rfl) rfl
theorem dX10_slip_18 : decode cX10_slip 18 = .ok (.getfield 57, 3) := dc_180 (bq_nm bk_X10_slip_0 (j := 18) rfl rfl) (bq_nm bk_X10_slip_0 (j := 19) rfl rfl) (bq_nm bk_X10_slip_0 (j := 20) rfl rfl) rfl
theorem dX10_slip_21 : decode cX10_slip 21 = .ok (.iload_n 2, 1) := dc_28 (bq_nm bk_X10_slip_0 (j := 21) rfl rfl)
theorem dX10_slip_22 : decode cX10_slip 22 = .ok (.invokevirtual 75, 3) := dc_182 (bq_nm bk_X10_slip_0 (j := 22) rfl rfl) (bq_nm bk_X10_slip_0 (j := 23) rfl rfl) (bq_nm bk_X10_slip_0 (j := 24) rfl rfl) rfl
theorem dX10_slip_25 : decode cX10_slip 25 = .ok (.ifCond .ne 6, 3) := dc_154 (bq_nm bk_X10_slip_0 (j := 25) rfl rfl) (bq_nm bk_X10_slip_0 (j := 26) rfl rfl) (bq_nm bk_X10_slip_0 (j := 27) rfl rfl) rfl
theorem dX10_slip_28 : decode cX10_slip 28 = .ok (.bipush (-2), 2) := dc_16 (bq_nm bk_X10_slip_0 (j := 28) rfl rfl) (bq_nm bk_X10_slip_0 (j := 29) rfl rfl) rfl
theorem dX10_slip_30 : decode cX10_slip 30 = .ok (.ireturn, 1) := dc_172 (bq_nm bk_X10_slip_0 (j := 30) rfl rfl)
theorem dX10_slip_31 : decode cX10_slip 31 = .ok (.aload_n 0, 1) := dc_42 (bq_nm bk_X10_slip_0 (j := 31) rfl rfl)
set_option maxRecDepth 20000 in
theorem bk_X10_slip_32 : ((cX10_slip.data.toList.drop 32).take 19).length = 19 ∧ eN (((cX10_slip.data.toList.drop 32).take 19).map UInt8.toNat) = 3851844189113011001678230559702661666700001460 := by decide +kernel
theorem dX10_slip_32 : decode cX10_slip 32 = .ok (.getfield 12, 3) := dc_180 (bq_nm bk_X10_slip_32 (j := 0) rfl rfl) (bq_nm bk_X10_slip_32 (j := 1) rfl rfl) (bq_nm bk_X10_slip_32 (j := 2) rfl rfl) rfl
theorem dX10_slip_35 : decode cX10_slip 35 = .ok (.invokevirtual 124, 3) := dc_182 (bq_nm bk_X10_slip_32 (j := 3) rfl rfl) (bq_nm bk_X10_slip_32 (j := 4) rfl rfl) (bq_nm bk_X10_slip_32 (j := 5) rfl rfl) rfl
theorem dX10_slip_38 : decode cX10_slip 38 = .ok (.aload_n 0, 1) := dc_42 (bq_nm bk_X10_slip_32 (j := 6) rfl rfl)
theorem dX10_slip_39 : decode cX10_slip 39 = .ok (.getfield 12, 3) := dc_180 (bq_nm bk_X10_slip_32 (j := 7) rfl rfl) (bq_nm bk_X10_slip_32 (j := 8) rfl rfl) (bq_nm bk_X10_slip_32 (j := 9) rfl rfl) rfl
theorem dX10_slip_42 : decode cX10_slip 42 = .ok (.iload_n 1, 1) := dc_27 (bq_nm bk_X10_slip_32 (j := 10) rfl rfl)
theorem dX10_slip_43 : decode cX10_slip 43 = .ok (.invokevirtual 172, 3) := dc_182 (bq_nm bk_X10_slip_32 (j := 11) rfl rfl) (bq_nm bk_X10_slip_32 (j := 12) rfl rfl) (bq_nm bk_X10_slip_32 (j := 13) rfl rfl) rfl
theorem dX10_slip_46 : decode cX10_slip 46 = .ok (.iload_n 2, 1) := dc_28 (bq_nm bk_X10_slip_32 (j := 14) rfl rfl)
theorem dX10_slip_47 : decode cX10_slip 47 = .ok (.invokevirtual 185, 3) := dc_182 (bq_nm bk_X10_slip_32 (j := 15) rfl rfl) (bq_nm bk_X10_slip_32 (j := 16) rfl rfl) (bq_nm bk_X10_slip_32 (j := 17) rfl rfl) rfl
theorem dX10_slip_50 : decode cX10_slip 50 = .ok (.ireturn, 1) := dc_172 (bq_nm bk_X10_slip_32 (j := 18) rfl rfl)
set_option maxRecDepth 20000 in
theorem bk_X10_jury_0 : ((cX10_jury.data.toList.drop 0).take 32).length = 32 ∧ eN (((cX10_jury.data.toList.drop 0).take 32).map UInt8.toNat) = 77799066803339531711437808144057983339662546941392995808928077321855416972330 := by decide +kernel
theorem dX10_jury_0 : decode cX10_jury 0 = .ok (.aload_n 0, 1) := dc_42 (bq_nm bk_X10_jury_0 (j := 0) rfl rfl)
theorem dX10_jury_1 : decode cX10_jury 1 = .ok (.getfield 20, 3) := dc_180 (bq_nm bk_X10_jury_0 (j := 1) rfl rfl) (bq_nm bk_X10_jury_0 (j := 2) rfl rfl) (bq_nm bk_X10_jury_0 (j := 3) rfl rfl) rfl
theorem dX10_jury_4 : decode cX10_jury 4 = .ok (.getfield 162, 3) := dc_180 (bq_nm bk_X10_jury_0 (j := 4) rfl rfl) (bq_nm bk_X10_jury_0 (j := 5) rfl rfl) (bq_nm bk_X10_jury_0 (j := 6) rfl rfl) rfl
theorem dX10_jury_7 : decode cX10_jury 7 = .ok (.iload_n 1, 1) := dc_27 (bq_nm bk_X10_jury_0 (j := 7) rfl rfl)
theorem dX10_jury_8 : decode cX10_jury 8 = .ok (.invokevirtual 75, 3) := dc_182 (bq_nm bk_X10_jury_0 (j := 8) rfl rfl) (bq_nm bk_X10_jury_0 (j := 9) rfl rfl) (bq_nm bk_X10_jury_0 (j := 10) rfl rfl) rfl
theorem dX10_jury_11 : decode cX10_jury 11 = .ok (.ifCond .ne 6, 3) := dc_154 (bq_nm bk_X10_jury_0 (j := 11) rfl rfl) (bq_nm bk_X10_jury_0 (j := 12) rfl rfl) (bq_nm bk_X10_jury_0 (j := 13) rfl rfl) rfl
theorem dX10_jury_14 : decode cX10_jury 14 = .ok (.bipush (-2), 2) := dc_16 (bq_nm bk_X10_jury_0 (j := 14) rfl rfl) (bq_nm bk_X10_jury_0 (j := 15) rfl rfl) rfl
theorem dX10_jury_16 : decode cX10_jury 16 = .ok (.ireturn, 1) := dc_172 (bq_nm bk_X10_jury_0 (j := 16) rfl rfl)
theorem dX10_jury_17 : decode cX10_jury 17 = .ok (.aload_n 0, 1) := dc_42 (bq_nm bk_X10_jury_0 (j := 17) rfl rfl)
theorem dX10_jury_18 : decode cX10_jury 18 = .ok (.getfield 12, 3) := dc_180 (bq_nm bk_X10_jury_0 (j := 18) rfl rfl) (bq_nm bk_X10_jury_0 (j := 19) rfl rfl) (bq_nm bk_X10_jury_0 (j := 20) rfl rfl) rfl
theorem dX10_jury_21 : decode cX10_jury 21 = .ok (.invokevirtual 124, 3) := dc_182 (bq_nm bk_X10_jury_0 (j := 21) rfl rfl) (bq_nm bk_X10_jury_0 (j := 22) rfl rfl) (bq_nm bk_X10_jury_0 (j := 23) rfl rfl) rfl
theorem dX10_jury_24 : decode cX10_jury 24 = .ok (.aload_n 0, 1) := dc_42 (bq_nm bk_X10_jury_0 (j := 24) rfl rfl)
theorem dX10_jury_25 : decode cX10_jury 25 = .ok (.getfield 12, 3) := dc_180 (bq_nm bk_X10_jury_0 (j := 25) rfl rfl) (bq_nm bk_X10_jury_0 (j := 26) rfl rfl) (bq_nm bk_X10_jury_0 (j := 27) rfl rfl) rfl
theorem dX10_jury_28 : decode cX10_jury 28 = .ok (.iload_n 1, 1) := dc_27 (bq_nm bk_X10_jury_0 (j := 28) rfl rfl)
theorem dX10_jury_29 : decode cX10_jury 29 = .ok (.invokevirtual 172, 3) := dc_182 (bq_nm bk_X10_jury_0 (j := 29) rfl rfl) (bq_nm bk_X10_jury_0 (j := 30) rfl rfl) (bq_nm bk_X10_jury_0 (j := 31) rfl rfl) rfl
set_option maxRecDepth 20000 in
theorem bk_X10_jury_32 : ((cX10_jury.data.toList.drop 32).take 4).length = 4 ∧ eN (((cX10_jury.data.toList.drop 32).take 4).map UInt8.toNat) = 2898002100 := by decide +kernel
theorem dX10_jury_32 : decode cX10_jury 32 = .ok (.getfield 188, 3) := dc_180 (bq_nm bk_X10_jury_32 (j := 0) rfl rfl) (bq_nm bk_X10_jury_32 (j := 1) rfl rfl) (bq_nm bk_X10_jury_32 (j := 2) rfl rfl) rfl
theorem dX10_jury_35 : decode cX10_jury 35 = .ok (.ireturn, 1) := dc_172 (bq_nm bk_X10_jury_32 (j := 3) rfl rfl)
set_option maxRecDepth 20000 in
theorem bk_X10_about_0 : ((cX10_about.data.toList.drop 0).take 30).length = 30 ∧ eN (((cX10_about.data.toList.drop 0).take 30).map UInt8.toNat) = 82839929929377669593118292683983946862102896077117936953929838865986602 := by decide +kernel
theorem dX10_about_0 : decode cX10_about 0 = .ok (.aload_n 0, 1) := dc_42 (bq_nm bk_X10_about_0 (j := 0) rfl rfl)
theorem dX10_about_1 : decode cX10_about 1 = .ok (.getfield 20, 3) := dc_180 (bq_nm bk_X10_about_0 (j := 1) rfl rfl) (bq_nm bk_X10_about_0 (j := 2) rfl rfl) (bq_nm bk_X10_about_0 (j := 3) rfl rfl) rfl
theorem dX10_about_4 : decode cX10_about 4 = .ok (.getfield 162, 3) := dc_180 (bq_nm bk_X10_about_0 (j := 4) rfl rfl) (bq_nm bk_X10_about_0 (j := 5) rfl rfl) (bq_nm bk_X10_about_0 (j := 6) rfl rfl) rfl
theorem dX10_about_7 : decode cX10_about 7 = .ok (.iload_n 1, 1) := dc_27 (bq_nm bk_X10_about_0 (j := 7) rfl rfl)
theorem dX10_about_8 : decode cX10_about 8 = .ok (.invokevirtual 75, 3) := dc_182 (bq_nm bk_X10_about_0 (j := 8) rfl rfl) (bq_nm bk_X10_about_0 (j := 9) rfl rfl) (bq_nm bk_X10_about_0 (j := 10) rfl rfl) rfl
theorem dX10_about_11 : decode cX10_about 11 = .ok (.ifCond .eq 12, 3) := dc_153 (bq_nm bk_X10_about_0 (j := 11) rfl rfl) (bq_nm bk_X10_about_0 (j := 12) rfl rfl) (bq_nm bk_X10_about_0 (j := 13) rfl rfl) rfl
theorem dX10_about_14 : decode cX10_about 14 = .ok (.iload_n 2, 1) := dc_28 (bq_nm bk_X10_about_0 (j := 14) rfl rfl)
theorem dX10_about_15 : decode cX10_about 15 = .ok (.iconst 0, 1) := dc_3 (bq_nm bk_X10_about_0 (j := 15) rfl rfl)
theorem dX10_about_16 : decode cX10_about 16 = .ok (.iconst 3, 1) := dc_6 (bq_nm bk_X10_about_0 (j := 16) rfl rfl)
theorem dX10_about_17 : decode cX10_about 17 = .ok (.invokestatic 53, 3) := dc_184 (bq_nm bk_X10_about_0 (j := 17) rfl rfl) (bq_nm bk_X10_about_0 (j := 18) rfl rfl) (bq_nm bk_X10_about_0 (j := 19) rfl rfl) rfl
theorem dX10_about_20 : decode cX10_about 20 = .ok (.ifCond .ne 6, 3) := dc_154 (bq_nm bk_X10_about_0 (j := 20) rfl rfl) (bq_nm bk_X10_about_0 (j := 21) rfl rfl) (bq_nm bk_X10_about_0 (j := 22) rfl rfl) rfl
theorem dX10_about_23 : decode cX10_about 23 = .ok (.ldc 191, 2) := dc_18 (bq_nm bk_X10_about_0 (j := 23) rfl rfl) (bq_nm bk_X10_about_0 (j := 24) rfl rfl)
theorem dX10_about_25 : decode cX10_about 25 = .ok (.ireturn, 1) := dc_172 (bq_nm bk_X10_about_0 (j := 25) rfl rfl)
theorem dX10_about_26 : decode cX10_about 26 = .ok (.aload_n 0, 1) := dc_42 (bq_nm bk_X10_about_0 (j := 26) rfl rfl)
theorem dX10_about_27 : decode cX10_about 27 = .ok (.getfield 12, 3) := dc_180 (bq_nm bk_X10_about_0 (j := 27) rfl rfl) (bq_nm bk_X10_about_0 (j := 28) rfl rfl) (bq_nm bk_X10_about_0 (j := 29) rfl rfl) rfl
set_option maxRecDepth 20000 in
theorem bk_X10_about_30 : ((cX10_about.data.toList.drop 30).take 16).length = 16 ∧ eN (((cX10_about.data.toList.drop 30).take 16).map UInt8.toNat) = 229624150700243313515469844758461677750 := by decide +kernel
theorem dX10_about_30 : decode cX10_about 30 = .ok (.invokevirtual 124, 3) := dc_182 (bq_nm bk_X10_about_30 (j := 0) rfl rfl) (bq_nm bk_X10_about_30 (j := 1) rfl rfl) (bq_nm bk_X10_about_30 (j := 2) rfl rfl) rfl
theorem dX10_about_33 : decode cX10_about 33 = .ok (.aload_n 0, 1) := dc_42 (bq_nm bk_X10_about_30 (j := 3) rfl rfl)
theorem dX10_about_34 : decode cX10_about 34 = .ok (.getfield 12, 3) := dc_180 (bq_nm bk_X10_about_30 (j := 4) rfl rfl) (bq_nm bk_X10_about_30 (j := 5) rfl rfl) (bq_nm bk_X10_about_30 (j := 6) rfl rfl) rfl
theorem dX10_about_37 : decode cX10_about 37 = .ok (.iload_n 1, 1) := dc_27 (bq_nm bk_X10_about_30 (j := 7) rfl rfl)
theorem dX10_about_38 : decode cX10_about 38 = .ok (.invokevirtual 172, 3) := dc_182 (bq_nm bk_X10_about_30 (j := 8) rfl rfl) (bq_nm bk_X10_about_30 (j := 9) rfl rfl) (bq_nm bk_X10_about_30 (j := 10) rfl rfl) rfl
theorem dX10_about_41 : decode cX10_about 41 = .ok (.iload_n 2, 1) := dc_28 (bq_nm bk_X10_about_30 (j := 11) rfl rfl)
theorem dX10_about_42 : decode cX10_about 42 = .ok (.invokevirtual 192, 3) := dc_182 (bq_nm bk_X10_about_30 (j := 12) rfl rfl) (bq_nm bk_X10_about_30 (j := 13) rfl rfl) (bq_nm bk_X10_about_30 (j := 14) rfl rfl) rfl
theorem dX10_about_45 : decode cX10_about 45 = .ok (.ireturn, 1) := dc_172 (bq_nm bk_X10_about_30 (j := 15) rfl rfl)
set_option maxRecDepth 20000 in
theorem bk_X10_bad_0 : ((cX10_bad.data.toList.drop 0).take 32).length = 32 ∧ eN (((cX10_bad.data.toList.drop 0).take 32).map UInt8.toNat) = 88202265959157501542069131449720632829144313152515691129705944387462941947931 := by decide +kernel
theorem dX10_bad_0 : decode cX10_bad 0 = .ok (.iload_n 1, 1) := dc_27 (bq_nm bk_X10_bad_0 (j := 0) rfl rfl)
theorem dX10_bad_1 : decode cX10_bad 1 = .ok (.invokestatic 79, 3) := dc_184 (bq_nm bk_X10_bad_0 (j := 1) rfl rfl) (bq_nm bk_X10_bad_0 (j := 2) rfl rfl) (bq_nm bk_X10_bad_0 (j := 3) rfl rfl) rfl
theorem dX10_bad_4 : decode cX10_bad 4 = .ok (.ifCond .ne 6, 3) := dc_154 (bq_nm bk_X10_bad_0 (j := 4) rfl rfl) (bq_nm bk_X10_bad_0 (j := 5) rfl rfl) (bq_nm bk_X10_bad_0 (j := 6) rfl rfl) rfl
theorem dX10_bad_7 : decode cX10_bad 7 = .ok (.bipush (-2), 2) := dc_16 (bq_nm bk_X10_bad_0 (j := 7) rfl rfl) (bq_nm bk_X10_bad_0 (j := 8) rfl rfl) rfl
theorem dX10_bad_9 : decode cX10_bad 9 = .ok (.ireturn, 1) := dc_172 (bq_nm bk_X10_bad_0 (j := 9) rfl rfl)
theorem dX10_bad_10 : decode cX10_bad 10 = .ok (.aload_n 0, 1) := dc_42 (bq_nm bk_X10_bad_0 (j := 10) rfl rfl)
theorem dX10_bad_11 : decode cX10_bad 11 = .ok (.getfield 12, 3) := dc_180 (bq_nm bk_X10_bad_0 (j := 11) rfl rfl) (bq_nm bk_X10_bad_0 (j := 12) rfl rfl) (bq_nm bk_X10_bad_0 (j := 13) rfl rfl) rfl
theorem dX10_bad_14 : decode cX10_bad 14 = .ok (.invokevirtual 124, 3) := dc_182 (bq_nm bk_X10_bad_0 (j := 14) rfl rfl) (bq_nm bk_X10_bad_0 (j := 15) rfl rfl) (bq_nm bk_X10_bad_0 (j := 16) rfl rfl) rfl
theorem dX10_bad_17 : decode cX10_bad 17 = .ok (.iconst 0, 1) := dc_3 (bq_nm bk_X10_bad_0 (j := 17) rfl rfl)
theorem dX10_bad_18 : decode cX10_bad 18 = .ok (.istore_n 2, 1) := dc_61 (bq_nm bk_X10_bad_0 (j := 18) rfl rfl)
theorem dX10_bad_19 : decode cX10_bad 19 = .ok (.iconst 0, 1) := dc_3 (bq_nm bk_X10_bad_0 (j := 19) rfl rfl)
theorem dX10_bad_20 : decode cX10_bad 20 = .ok (.istore_n 3, 1) := dc_62 (bq_nm bk_X10_bad_0 (j := 20) rfl rfl)
theorem dX10_bad_21 : decode cX10_bad 21 = .ok (.iload_n 3, 1) := dc_29 (bq_nm bk_X10_bad_0 (j := 21) rfl rfl)
theorem dX10_bad_22 : decode cX10_bad 22 = .ok (.aload_n 0, 1) := dc_42 (bq_nm bk_X10_bad_0 (j := 22) rfl rfl)
theorem dX10_bad_23 : decode cX10_bad 23 = .ok (.getfield 20, 3) := dc_180 (bq_nm bk_X10_bad_0 (j := 23) rfl rfl) (bq_nm bk_X10_bad_0 (j := 24) rfl rfl) (bq_nm bk_X10_bad_0 (j := 25) rfl rfl) rfl
theorem dX10_bad_26 : decode cX10_bad 26 = .ok (.getfield 162, 3) := dc_180 (bq_nm bk_X10_bad_0 (j := 26) rfl rfl) (bq_nm bk_X10_bad_0 (j := 27) rfl rfl) (bq_nm bk_X10_bad_0 (j := 28) rfl rfl) rfl
theorem dX10_bad_29 : decode cX10_bad 29 = .ok (.invokevirtual 195, 3) := dc_182 (bq_nm bk_X10_bad_0 (j := 29) rfl rfl) (bq_nm bk_X10_bad_0 (j := 30) rfl rfl) (bq_nm bk_X10_bad_0 (j := 31) rfl rfl) rfl
set_option maxRecDepth 20000 in
theorem bk_X10_bad_32 : ((cX10_bad.data.toList.drop 32).take 32).length = 32 ∧ eN (((cX10_bad.data.toList.drop 32).take 32).map UInt8.toNat) = 58108266527867794941766498355171817375235387955047606761109159483228073427106 := by decide +kernel
theorem dX10_bad_32 : decode cX10_bad 32 = .ok (.if_icmp .ge 39, 3) := dc_162 (bq_nm bk_X10_bad_32 (j := 0) rfl rfl) (bq_nm bk_X10_bad_32 (j := 1) rfl rfl) (bq_nm bk_X10_bad_32 (j := 2) rfl rfl) rfl
theorem dX10_bad_35 : decode cX10_bad 35 = .ok (.aload_n 0, 1) := dc_42 (bq_nm bk_X10_bad_32 (j := 3) rfl rfl)
theorem dX10_bad_36 : decode cX10_bad 36 = .ok (.getfield 12, 3) := dc_180 (bq_nm bk_X10_bad_32 (j := 4) rfl rfl) (bq_nm bk_X10_bad_32 (j := 5) rfl rfl) (bq_nm bk_X10_bad_32 (j := 6) rfl rfl) rfl
theorem dX10_bad_39 : decode cX10_bad 39 = .ok (.iload_n 3, 1) := dc_29 (bq_nm bk_X10_bad_32 (j := 7) rfl rfl)
theorem dX10_bad_40 : decode cX10_bad 40 = .ok (.invokevirtual 172, 3) := dc_182 (bq_nm bk_X10_bad_32 (j := 8) rfl rfl) (bq_nm bk_X10_bad_32 (j := 9) rfl rfl) (bq_nm bk_X10_bad_32 (j := 10) rfl rfl) rfl
theorem dX10_bad_43 : decode cX10_bad 43 = .ok (.getfield 188, 3) := dc_180 (bq_nm bk_X10_bad_32 (j := 11) rfl rfl) (bq_nm bk_X10_bad_32 (j := 12) rfl rfl) (bq_nm bk_X10_bad_32 (j := 13) rfl rfl) rfl
theorem dX10_bad_46 : decode cX10_bad 46 = .ok (.aload_n 0, 1) := dc_42 (bq_nm bk_X10_bad_32 (j := 14) rfl rfl)
theorem dX10_bad_47 : decode cX10_bad 47 = .ok (.getfield 20, 3) := dc_180 (bq_nm bk_X10_bad_32 (j := 15) rfl rfl) (bq_nm bk_X10_bad_32 (j := 16) rfl rfl) (bq_nm bk_X10_bad_32 (j := 17) rfl rfl) rfl
theorem dX10_bad_50 : decode cX10_bad 50 = .ok (.iload_n 3, 1) := dc_29 (bq_nm bk_X10_bad_32 (j := 18) rfl rfl)
theorem dX10_bad_51 : decode cX10_bad 51 = .ok (.iload_n 1, 1) := dc_27 (bq_nm bk_X10_bad_32 (j := 19) rfl rfl)
theorem dX10_bad_52 : decode cX10_bad 52 = .ok (.invokevirtual 198, 3) := dc_182 (bq_nm bk_X10_bad_32 (j := 20) rfl rfl) (bq_nm bk_X10_bad_32 (j := 21) rfl rfl) (bq_nm bk_X10_bad_32 (j := 22) rfl rfl) rfl
theorem dX10_bad_55 : decode cX10_bad 55 = .ok (.iand, 1) := dc_126 (bq_nm bk_X10_bad_32 (j := 23) rfl rfl)
theorem dX10_bad_56 : decode cX10_bad 56 = .ok (.ifCond .eq 9, 3) := dc_153 (bq_nm bk_X10_bad_32 (j := 24) rfl rfl) (bq_nm bk_X10_bad_32 (j := 25) rfl rfl) (bq_nm bk_X10_bad_32 (j := 26) rfl rfl) rfl
theorem dX10_bad_59 : decode cX10_bad 59 = .ok (.iload_n 2, 1) := dc_28 (bq_nm bk_X10_bad_32 (j := 27) rfl rfl)
theorem dX10_bad_60 : decode cX10_bad 60 = .ok (.iconst 1, 1) := dc_4 (bq_nm bk_X10_bad_32 (j := 28) rfl rfl)
theorem dX10_bad_61 : decode cX10_bad 61 = .ok (.iload_n 3, 1) := dc_29 (bq_nm bk_X10_bad_32 (j := 29) rfl rfl)
theorem dX10_bad_62 : decode cX10_bad 62 = .ok (.ishl, 1) := dc_120 (bq_nm bk_X10_bad_32 (j := 30) rfl rfl)
theorem dX10_bad_63 : decode cX10_bad 63 = .ok (.ior, 1) := dc_128 (bq_nm bk_X10_bad_32 (j := 31) rfl rfl)
set_option maxRecDepth 20000 in
theorem bk_X10_bad_64 : ((cX10_bad.data.toList.drop 64).take 9).length = 9 ∧ eN (((cX10_bad.data.toList.drop 64).take 9).map UInt8.toNat) = 3174916702673979016253 := by decide +kernel
theorem dX10_bad_64 : decode cX10_bad 64 = .ok (.istore_n 2, 1) := dc_61 (bq_nm bk_X10_bad_64 (j := 0) rfl rfl)
theorem dX10_bad_65 : decode cX10_bad 65 = .ok (.iinc 3 1, 3) := dc_132 (bq_nm bk_X10_bad_64 (j := 1) rfl rfl) (bq_nm bk_X10_bad_64 (j := 2) rfl rfl) (bq_nm bk_X10_bad_64 (j := 3) rfl rfl) rfl
theorem dX10_bad_68 : decode cX10_bad 68 = .ok (.goto (-47), 3) := dc_167 (bq_nm bk_X10_bad_64 (j := 4) rfl rfl) (bq_nm bk_X10_bad_64 (j := 5) rfl rfl) (bq_nm bk_X10_bad_64 (j := 6) rfl rfl) rfl
theorem dX10_bad_71 : decode cX10_bad 71 = .ok (.iload_n 2, 1) := dc_28 (bq_nm bk_X10_bad_64 (j := 7) rfl rfl)
theorem dX10_bad_72 : decode cX10_bad 72 = .ok (.ireturn, 1) := dc_172 (bq_nm bk_X10_bad_64 (j := 8) rfl rfl)
set_option maxRecDepth 20000 in
theorem bk_X10_sums_0 : ((cX10_sums.data.toList.drop 0).take 32).length = 32 ∧ eN (((cX10_sums.data.toList.drop 0).take 32).map UInt8.toNat) = 90916132511350408518250101673753972216659010041763445889396635875056878093083 := by decide +kernel
theorem dX10_sums_0 : decode cX10_sums 0 = .ok (.iload_n 1, 1) := dc_27 (bq_nm bk_X10_sums_0 (j := 0) rfl rfl)
theorem dX10_sums_1 : decode cX10_sums 1 = .ok (.iconst 0, 1) := dc_3 (bq_nm bk_X10_sums_0 (j := 1) rfl rfl)
theorem dX10_sums_2 : decode cX10_sums 2 = .ok (.bipush 100, 2) := dc_16 (bq_nm bk_X10_sums_0 (j := 2) rfl rfl) (bq_nm bk_X10_sums_0 (j := 3) rfl rfl) rfl
theorem dX10_sums_4 : decode cX10_sums 4 = .ok (.invokestatic 53, 3) := dc_184 (bq_nm bk_X10_sums_0 (j := 4) rfl rfl) (bq_nm bk_X10_sums_0 (j := 5) rfl rfl) (bq_nm bk_X10_sums_0 (j := 6) rfl rfl) rfl
theorem dX10_sums_7 : decode cX10_sums 7 = .ok (.ifCond .eq 14, 3) := dc_153 (bq_nm bk_X10_sums_0 (j := 7) rfl rfl) (bq_nm bk_X10_sums_0 (j := 8) rfl rfl) (bq_nm bk_X10_sums_0 (j := 9) rfl rfl) rfl
theorem dX10_sums_10 : decode cX10_sums 10 = .ok (.iload_n 2, 1) := dc_28 (bq_nm bk_X10_sums_0 (j := 10) rfl rfl)
theorem dX10_sums_11 : decode cX10_sums 11 = .ok (.iconst 0, 1) := dc_3 (bq_nm bk_X10_sums_0 (j := 11) rfl rfl)
theorem dX10_sums_12 : decode cX10_sums 12 = .ok (.sipush 1000, 3) := dc_17 (bq_nm bk_X10_sums_0 (j := 12) rfl rfl) (bq_nm bk_X10_sums_0 (j := 13) rfl rfl) (bq_nm bk_X10_sums_0 (j := 14) rfl rfl) rfl
theorem dX10_sums_15 : decode cX10_sums 15 = .ok (.invokestatic 53, 3) := dc_184 (bq_nm bk_X10_sums_0 (j := 15) rfl rfl) (bq_nm bk_X10_sums_0 (j := 16) rfl rfl) (bq_nm bk_X10_sums_0 (j := 17) rfl rfl) rfl
theorem dX10_sums_18 : decode cX10_sums 18 = .ok (.ifCond .ne 6, 3) := dc_154 (bq_nm bk_X10_sums_0 (j := 18) rfl rfl) (bq_nm bk_X10_sums_0 (j := 19) rfl rfl) (bq_nm bk_X10_sums_0 (j := 20) rfl rfl) rfl
theorem dX10_sums_21 : decode cX10_sums 21 = .ok (.bipush (-2), 2) := dc_16 (bq_nm bk_X10_sums_0 (j := 21) rfl rfl) (bq_nm bk_X10_sums_0 (j := 22) rfl rfl) rfl
theorem dX10_sums_23 : decode cX10_sums 23 = .ok (.ireturn, 1) := dc_172 (bq_nm bk_X10_sums_0 (j := 23) rfl rfl)
theorem dX10_sums_24 : decode cX10_sums 24 = .ok (.aload_n 0, 1) := dc_42 (bq_nm bk_X10_sums_0 (j := 24) rfl rfl)
theorem dX10_sums_25 : decode cX10_sums 25 = .ok (.getfield 20, 3) := dc_180 (bq_nm bk_X10_sums_0 (j := 25) rfl rfl) (bq_nm bk_X10_sums_0 (j := 26) rfl rfl) (bq_nm bk_X10_sums_0 (j := 27) rfl rfl) rfl
theorem dX10_sums_28 : decode cX10_sums 28 = .ok (.iload_n 1, 1) := dc_27 (bq_nm bk_X10_sums_0 (j := 28) rfl rfl)
theorem dX10_sums_29 : decode cX10_sums 29 = .ok (.putfield 201, 3) := dc_181 (bq_nm bk_X10_sums_0 (j := 29) rfl rfl) (bq_nm bk_X10_sums_0 (j := 30) rfl rfl) (bq_nm bk_X10_sums_0 (j := 31) rfl rfl) rfl
set_option maxRecDepth 20000 in
theorem bk_X10_sums_32 : ((cX10_sums.data.toList.drop 32).take 10).length = 10 ∧ eN (((cX10_sums.data.toList.drop 32).take 10).map UInt8.toNat) = 812335521978189751563306 := by decide +kernel
theorem dX10_sums_32 : decode cX10_sums 32 = .ok (.aload_n 0, 1) := dc_42 (bq_nm bk_X10_sums_32 (j := 0) rfl rfl)
theorem dX10_sums_33 : decode cX10_sums 33 = .ok (.getfield 20, 3) := dc_180 (bq_nm bk_X10_sums_32 (j := 1) rfl rfl) (bq_nm bk_X10_sums_32 (j := 2) rfl rfl) (bq_nm bk_X10_sums_32 (j := 3) rfl rfl) rfl
theorem dX10_sums_36 : decode cX10_sums 36 = .ok (.iload_n 2, 1) := dc_28 (bq_nm bk_X10_sums_32 (j := 4) rfl rfl)
theorem dX10_sums_37 : decode cX10_sums 37 = .ok (.putfield 204, 3) := dc_181 (bq_nm bk_X10_sums_32 (j := 5) rfl rfl) (bq_nm bk_X10_sums_32 (j := 6) rfl rfl) (bq_nm bk_X10_sums_32 (j := 7) rfl rfl) rfl
theorem dX10_sums_40 : decode cX10_sums 40 = .ok (.iconst 1, 1) := dc_4 (bq_nm bk_X10_sums_32 (j := 8) rfl rfl)
theorem dX10_sums_41 : decode cX10_sums 41 = .ok (.ireturn, 1) := dc_172 (bq_nm bk_X10_sums_32 (j := 9) rfl rfl)
set_option maxRecDepth 20000 in
theorem bk_X10_owed_0 : ((cX10_owed.data.toList.drop 0).take 32).length = 32 ∧ eN (((cX10_owed.data.toList.drop 0).take 32).map UInt8.toNat) = 1576032489756649260150930877819509537143853198405030777489811445994697569322 := by decide +kernel
theorem dX10_owed_0 : decode cX10_owed 0 = .ok (.aload_n 0, 1) := dc_42 (bq_nm bk_X10_owed_0 (j := 0) rfl rfl)
theorem dX10_owed_1 : decode cX10_owed 1 = .ok (.getfield 20, 3) := dc_180 (bq_nm bk_X10_owed_0 (j := 1) rfl rfl) (bq_nm bk_X10_owed_0 (j := 2) rfl rfl) (bq_nm bk_X10_owed_0 (j := 3) rfl rfl) rfl
theorem dX10_owed_4 : decode cX10_owed 4 = .ok (.getfield 57, 3) := dc_180 (bq_nm bk_X10_owed_0 (j := 4) rfl rfl) (bq_nm bk_X10_owed_0 (j := 5) rfl rfl) (bq_nm bk_X10_owed_0 (j := 6) rfl rfl) rfl
theorem dX10_owed_7 : decode cX10_owed 7 = .ok (.iload_n 1, 1) := dc_27 (bq_nm bk_X10_owed_0 (j := 7) rfl rfl)
theorem dX10_owed_8 : decode cX10_owed 8 = .ok (.invokevirtual 75, 3) := dc_182 (bq_nm bk_X10_owed_0 (j := 8) rfl rfl) (bq_nm bk_X10_owed_0 (j := 9) rfl rfl) (bq_nm bk_X10_owed_0 (j := 10) rfl rfl) rfl
theorem dX10_owed_11 : decode cX10_owed 11 = .ok (.ifCond .eq 10, 3) := dc_153 (bq_nm bk_X10_owed_0 (j := 11) rfl rfl) (bq_nm bk_X10_owed_0 (j := 12) rfl rfl) (bq_nm bk_X10_owed_0 (j := 13) rfl rfl) rfl
theorem dX10_owed_14 : decode cX10_owed 14 = .ok (.iload_n 2, 1) := dc_28 (bq_nm bk_X10_owed_0 (j := 14) rfl rfl)
theorem dX10_owed_15 : decode cX10_owed 15 = .ok (.invokestatic 79, 3) := dc_184 (bq_nm bk_X10_owed_0 (j := 15) rfl rfl) (bq_nm bk_X10_owed_0 (j := 16) rfl rfl) (bq_nm bk_X10_owed_0 (j := 17) rfl rfl) rfl
theorem dX10_owed_18 : decode cX10_owed 18 = .ok (.ifCond .ne 6, 3) := dc_154 (bq_nm bk_X10_owed_0 (j := 18) rfl rfl) (bq_nm bk_X10_owed_0 (j := 19) rfl rfl) (bq_nm bk_X10_owed_0 (j := 20) rfl rfl) rfl
theorem dX10_owed_21 : decode cX10_owed 21 = .ok (.ldc 207, 2) := dc_18 (bq_nm bk_X10_owed_0 (j := 21) rfl rfl) (bq_nm bk_X10_owed_0 (j := 22) rfl rfl)
theorem dX10_owed_23 : decode cX10_owed 23 = .ok (.ireturn, 1) := dc_172 (bq_nm bk_X10_owed_0 (j := 23) rfl rfl)
theorem dX10_owed_24 : decode cX10_owed 24 = .ok (.aload_n 0, 1) := dc_42 (bq_nm bk_X10_owed_0 (j := 24) rfl rfl)
theorem dX10_owed_25 : decode cX10_owed 25 = .ok (.getfield 12, 3) := dc_180 (bq_nm bk_X10_owed_0 (j := 25) rfl rfl) (bq_nm bk_X10_owed_0 (j := 26) rfl rfl) (bq_nm bk_X10_owed_0 (j := 27) rfl rfl) rfl
theorem dX10_owed_28 : decode cX10_owed 28 = .ok (.invokevirtual 124, 3) := dc_182 (bq_nm bk_X10_owed_0 (j := 28) rfl rfl) (bq_nm bk_X10_owed_0 (j := 29) rfl rfl) (bq_nm bk_X10_owed_0 (j := 30) rfl rfl) rfl
theorem dX10_owed_31 : decode cX10_owed 31 = .ok (.iconst 0, 1) := dc_3 (bq_nm bk_X10_owed_0 (j := 31) rfl rfl)
set_option maxRecDepth 20000 in
theorem bk_X10_owed_32 : ((cX10_owed.data.toList.drop 32).take 32).length = 32 ∧ eN (((cX10_owed.data.toList.drop 32).take 32).map UInt8.toNat) = 65134306395135464203798749652324762981180180752380819907339058290180102685502 := by decide +kernel
theorem dX10_owed_32 : decode cX10_owed 32 = .ok (.istore_n 3, 1) := dc_62 (bq_nm bk_X10_owed_32 (j := 0) rfl rfl)
theorem dX10_owed_33 : decode cX10_owed 33 = .ok (.iconst 0, 1) := dc_3 (bq_nm bk_X10_owed_32 (j := 1) rfl rfl)
theorem dX10_owed_34 : decode cX10_owed 34 = .ok (.istore 4, 2) := dc_54 (bq_nm bk_X10_owed_32 (j := 2) rfl rfl) (bq_nm bk_X10_owed_32 (j := 3) rfl rfl)
theorem dX10_owed_36 : decode cX10_owed 36 = .ok (.iload 4, 2) := dc_21 (bq_nm bk_X10_owed_32 (j := 4) rfl rfl) (bq_nm bk_X10_owed_32 (j := 5) rfl rfl)
theorem dX10_owed_38 : decode cX10_owed 38 = .ok (.aload_n 0, 1) := dc_42 (bq_nm bk_X10_owed_32 (j := 6) rfl rfl)
theorem dX10_owed_39 : decode cX10_owed 39 = .ok (.getfield 20, 3) := dc_180 (bq_nm bk_X10_owed_32 (j := 7) rfl rfl) (bq_nm bk_X10_owed_32 (j := 8) rfl rfl) (bq_nm bk_X10_owed_32 (j := 9) rfl rfl) rfl
theorem dX10_owed_42 : decode cX10_owed 42 = .ok (.getfield 162, 3) := dc_180 (bq_nm bk_X10_owed_32 (j := 10) rfl rfl) (bq_nm bk_X10_owed_32 (j := 11) rfl rfl) (bq_nm bk_X10_owed_32 (j := 12) rfl rfl) rfl
theorem dX10_owed_45 : decode cX10_owed 45 = .ok (.invokevirtual 195, 3) := dc_182 (bq_nm bk_X10_owed_32 (j := 13) rfl rfl) (bq_nm bk_X10_owed_32 (j := 14) rfl rfl) (bq_nm bk_X10_owed_32 (j := 15) rfl rfl) rfl
theorem dX10_owed_48 : decode cX10_owed 48 = .ok (.if_icmp .ge 103, 3) := dc_162 (bq_nm bk_X10_owed_32 (j := 16) rfl rfl) (bq_nm bk_X10_owed_32 (j := 17) rfl rfl) (bq_nm bk_X10_owed_32 (j := 18) rfl rfl) rfl
theorem dX10_owed_51 : decode cX10_owed 51 = .ok (.aload_n 0, 1) := dc_42 (bq_nm bk_X10_owed_32 (j := 19) rfl rfl)
theorem dX10_owed_52 : decode cX10_owed 52 = .ok (.getfield 20, 3) := dc_180 (bq_nm bk_X10_owed_32 (j := 20) rfl rfl) (bq_nm bk_X10_owed_32 (j := 21) rfl rfl) (bq_nm bk_X10_owed_32 (j := 22) rfl rfl) rfl
theorem dX10_owed_55 : decode cX10_owed 55 = .ok (.getfield 162, 3) := dc_180 (bq_nm bk_X10_owed_32 (j := 23) rfl rfl) (bq_nm bk_X10_owed_32 (j := 24) rfl rfl) (bq_nm bk_X10_owed_32 (j := 25) rfl rfl) rfl
theorem dX10_owed_58 : decode cX10_owed 58 = .ok (.iload 4, 2) := dc_21 (bq_nm bk_X10_owed_32 (j := 26) rfl rfl) (bq_nm bk_X10_owed_32 (j := 27) rfl rfl)
theorem dX10_owed_60 : decode cX10_owed 60 = .ok (.iconst 0, 1) := dc_3 (bq_nm bk_X10_owed_32 (j := 28) rfl rfl)
theorem dX10_owed_61 : decode cX10_owed 61 = .ok (.invokevirtual 144, 3) := dc_182 (bq_nm bk_X10_owed_32 (j := 29) rfl rfl) (bq_nm bk_X10_owed_32 (j := 30) rfl rfl) (bq_nm bk_X10_owed_32 (j := 31) rfl rfl) rfl
set_option maxRecDepth 20000 in
theorem bk_X10_owed_64 : ((cX10_owed.data.toList.drop 64).take 32).length = 32 ∧ eN (((cX10_owed.data.toList.drop 64).take 32).map UInt8.toNat) = 9047500421169188861586328916417454370531771088465525944321700800639245787932 := by decide +kernel
theorem dX10_owed_64 : decode cX10_owed 64 = .ok (.iload_n 2, 1) := dc_28 (bq_nm bk_X10_owed_64 (j := 0) rfl rfl)
theorem dX10_owed_65 : decode cX10_owed 65 = .ok (.if_icmp .gt 80, 3) := dc_163 (bq_nm bk_X10_owed_64 (j := 1) rfl rfl) (bq_nm bk_X10_owed_64 (j := 2) rfl rfl) (bq_nm bk_X10_owed_64 (j := 3) rfl rfl) rfl
theorem dX10_owed_68 : decode cX10_owed 68 = .ok (.aload_n 0, 1) := dc_42 (bq_nm bk_X10_owed_64 (j := 4) rfl rfl)
theorem dX10_owed_69 : decode cX10_owed 69 = .ok (.getfield 12, 3) := dc_180 (bq_nm bk_X10_owed_64 (j := 5) rfl rfl) (bq_nm bk_X10_owed_64 (j := 6) rfl rfl) (bq_nm bk_X10_owed_64 (j := 7) rfl rfl) rfl
theorem dX10_owed_72 : decode cX10_owed 72 = .ok (.iload 4, 2) := dc_21 (bq_nm bk_X10_owed_64 (j := 8) rfl rfl) (bq_nm bk_X10_owed_64 (j := 9) rfl rfl)
theorem dX10_owed_74 : decode cX10_owed 74 = .ok (.invokevirtual 172, 3) := dc_182 (bq_nm bk_X10_owed_64 (j := 10) rfl rfl) (bq_nm bk_X10_owed_64 (j := 11) rfl rfl) (bq_nm bk_X10_owed_64 (j := 12) rfl rfl) rfl
theorem dX10_owed_77 : decode cX10_owed 77 = .ok (.astore 5, 2) := dc_58 (bq_nm bk_X10_owed_64 (j := 13) rfl rfl) (bq_nm bk_X10_owed_64 (j := 14) rfl rfl)
theorem dX10_owed_79 : decode cX10_owed 79 = .ok (.iload_n 3, 1) := dc_29 (bq_nm bk_X10_owed_64 (j := 15) rfl rfl)
theorem dX10_owed_80 : decode cX10_owed 80 = .ok (.aload 5, 2) := dc_25 (bq_nm bk_X10_owed_64 (j := 16) rfl rfl) (bq_nm bk_X10_owed_64 (j := 17) rfl rfl)
theorem dX10_owed_82 : decode cX10_owed 82 = .ok (.getfield 188, 3) := dc_180 (bq_nm bk_X10_owed_64 (j := 18) rfl rfl) (bq_nm bk_X10_owed_64 (j := 19) rfl rfl) (bq_nm bk_X10_owed_64 (j := 20) rfl rfl) rfl
theorem dX10_owed_85 : decode cX10_owed 85 = .ok (.iload_n 1, 1) := dc_27 (bq_nm bk_X10_owed_64 (j := 21) rfl rfl)
theorem dX10_owed_86 : decode cX10_owed 86 = .ok (.invokestatic 165, 3) := dc_184 (bq_nm bk_X10_owed_64 (j := 22) rfl rfl) (bq_nm bk_X10_owed_64 (j := 23) rfl rfl) (bq_nm bk_X10_owed_64 (j := 24) rfl rfl) rfl
theorem dX10_owed_89 : decode cX10_owed 89 = .ok (.ifCond .eq 27, 3) := dc_153 (bq_nm bk_X10_owed_64 (j := 25) rfl rfl) (bq_nm bk_X10_owed_64 (j := 26) rfl rfl) (bq_nm bk_X10_owed_64 (j := 27) rfl rfl) rfl
theorem dX10_owed_92 : decode cX10_owed 92 = .ok (.aload_n 0, 1) := dc_42 (bq_nm bk_X10_owed_64 (j := 28) rfl rfl)
theorem dX10_owed_93 : decode cX10_owed 93 = .ok (.getfield 20, 3) := dc_180 (bq_nm bk_X10_owed_64 (j := 29) rfl rfl) (bq_nm bk_X10_owed_64 (j := 30) rfl rfl) (bq_nm bk_X10_owed_64 (j := 31) rfl rfl) rfl
set_option maxRecDepth 20000 in
theorem bk_X10_owed_96 : ((cX10_owed.data.toList.drop 96).take 30).length = 30 ∧ eN (((cX10_owed.data.toList.drop 96).take 30).map UInt8.toNat) = 191954894326009969609254117012250973737143840114113979823520143467151540 := by decide +kernel
theorem dX10_owed_96 : decode cX10_owed 96 = .ok (.getfield 201, 3) := dc_180 (bq_nm bk_X10_owed_96 (j := 0) rfl rfl) (bq_nm bk_X10_owed_96 (j := 1) rfl rfl) (bq_nm bk_X10_owed_96 (j := 2) rfl rfl) rfl
theorem dX10_owed_99 : decode cX10_owed 99 = .ok (.aload_n 0, 1) := dc_42 (bq_nm bk_X10_owed_96 (j := 3) rfl rfl)
theorem dX10_owed_100 : decode cX10_owed 100 = .ok (.getfield 20, 3) := dc_180 (bq_nm bk_X10_owed_96 (j := 4) rfl rfl) (bq_nm bk_X10_owed_96 (j := 5) rfl rfl) (bq_nm bk_X10_owed_96 (j := 6) rfl rfl) rfl
theorem dX10_owed_103 : decode cX10_owed 103 = .ok (.getfield 162, 3) := dc_180 (bq_nm bk_X10_owed_96 (j := 7) rfl rfl) (bq_nm bk_X10_owed_96 (j := 8) rfl rfl) (bq_nm bk_X10_owed_96 (j := 9) rfl rfl) rfl
theorem dX10_owed_106 : decode cX10_owed 106 = .ok (.iload 4, 2) := dc_21 (bq_nm bk_X10_owed_96 (j := 10) rfl rfl) (bq_nm bk_X10_owed_96 (j := 11) rfl rfl)
theorem dX10_owed_108 : decode cX10_owed 108 = .ok (.iconst 1, 1) := dc_4 (bq_nm bk_X10_owed_96 (j := 12) rfl rfl)
theorem dX10_owed_109 : decode cX10_owed 109 = .ok (.invokevirtual 144, 3) := dc_182 (bq_nm bk_X10_owed_96 (j := 13) rfl rfl) (bq_nm bk_X10_owed_96 (j := 14) rfl rfl) (bq_nm bk_X10_owed_96 (j := 15) rfl rfl) rfl
theorem dX10_owed_112 : decode cX10_owed 112 = .ok (.imul, 1) := dc_104 (bq_nm bk_X10_owed_96 (j := 16) rfl rfl)
theorem dX10_owed_113 : decode cX10_owed 113 = .ok (.goto 4, 3) := dc_167 (bq_nm bk_X10_owed_96 (j := 17) rfl rfl) (bq_nm bk_X10_owed_96 (j := 18) rfl rfl) (bq_nm bk_X10_owed_96 (j := 19) rfl rfl) rfl
theorem dX10_owed_116 : decode cX10_owed 116 = .ok (.iconst 0, 1) := dc_3 (bq_nm bk_X10_owed_96 (j := 20) rfl rfl)
theorem dX10_owed_117 : decode cX10_owed 117 = .ok (.iadd, 1) := dc_96 (bq_nm bk_X10_owed_96 (j := 21) rfl rfl)
theorem dX10_owed_118 : decode cX10_owed 118 = .ok (.istore_n 3, 1) := dc_62 (bq_nm bk_X10_owed_96 (j := 22) rfl rfl)
theorem dX10_owed_119 : decode cX10_owed 119 = .ok (.iload_n 3, 1) := dc_29 (bq_nm bk_X10_owed_96 (j := 23) rfl rfl)
theorem dX10_owed_120 : decode cX10_owed 120 = .ok (.aload 5, 2) := dc_25 (bq_nm bk_X10_owed_96 (j := 24) rfl rfl) (bq_nm bk_X10_owed_96 (j := 25) rfl rfl)
theorem dX10_owed_122 : decode cX10_owed 122 = .ok (.getfield 208, 3) := dc_180 (bq_nm bk_X10_owed_96 (j := 26) rfl rfl) (bq_nm bk_X10_owed_96 (j := 27) rfl rfl) (bq_nm bk_X10_owed_96 (j := 28) rfl rfl) rfl
theorem dX10_owed_125 : decode cX10_owed 125 = .ok (.iload_n 1, 1) := dc_27 (bq_nm bk_X10_owed_96 (j := 29) rfl rfl)
set_option maxRecDepth 20000 in
theorem bk_X10_owed_126 : ((cX10_owed.data.toList.drop 126).take 27).length = 27 ∧ eN (((cX10_owed.data.toList.drop 126).take 27).map UInt8.toNat) = 70804207339322875898702487406067066090230618870964052892993257656 := by decide +kernel
theorem dX10_owed_126 : decode cX10_owed 126 = .ok (.invokestatic 165, 3) := dc_184 (bq_nm bk_X10_owed_126 (j := 0) rfl rfl) (bq_nm bk_X10_owed_126 (j := 1) rfl rfl) (bq_nm bk_X10_owed_126 (j := 2) rfl rfl) rfl
theorem dX10_owed_129 : decode cX10_owed 129 = .ok (.ifCond .eq 13, 3) := dc_153 (bq_nm bk_X10_owed_126 (j := 3) rfl rfl) (bq_nm bk_X10_owed_126 (j := 4) rfl rfl) (bq_nm bk_X10_owed_126 (j := 5) rfl rfl) rfl
theorem dX10_owed_132 : decode cX10_owed 132 = .ok (.aload_n 0, 1) := dc_42 (bq_nm bk_X10_owed_126 (j := 6) rfl rfl)
theorem dX10_owed_133 : decode cX10_owed 133 = .ok (.getfield 20, 3) := dc_180 (bq_nm bk_X10_owed_126 (j := 7) rfl rfl) (bq_nm bk_X10_owed_126 (j := 8) rfl rfl) (bq_nm bk_X10_owed_126 (j := 9) rfl rfl) rfl
theorem dX10_owed_136 : decode cX10_owed 136 = .ok (.getfield 204, 3) := dc_180 (bq_nm bk_X10_owed_126 (j := 10) rfl rfl) (bq_nm bk_X10_owed_126 (j := 11) rfl rfl) (bq_nm bk_X10_owed_126 (j := 12) rfl rfl) rfl
theorem dX10_owed_139 : decode cX10_owed 139 = .ok (.goto 4, 3) := dc_167 (bq_nm bk_X10_owed_126 (j := 13) rfl rfl) (bq_nm bk_X10_owed_126 (j := 14) rfl rfl) (bq_nm bk_X10_owed_126 (j := 15) rfl rfl) rfl
theorem dX10_owed_142 : decode cX10_owed 142 = .ok (.iconst 0, 1) := dc_3 (bq_nm bk_X10_owed_126 (j := 16) rfl rfl)
theorem dX10_owed_143 : decode cX10_owed 143 = .ok (.isub, 1) := dc_100 (bq_nm bk_X10_owed_126 (j := 17) rfl rfl)
theorem dX10_owed_144 : decode cX10_owed 144 = .ok (.istore_n 3, 1) := dc_62 (bq_nm bk_X10_owed_126 (j := 18) rfl rfl)
theorem dX10_owed_145 : decode cX10_owed 145 = .ok (.iinc 4 1, 3) := dc_132 (bq_nm bk_X10_owed_126 (j := 19) rfl rfl) (bq_nm bk_X10_owed_126 (j := 20) rfl rfl) (bq_nm bk_X10_owed_126 (j := 21) rfl rfl) rfl
theorem dX10_owed_148 : decode cX10_owed 148 = .ok (.goto (-112), 3) := dc_167 (bq_nm bk_X10_owed_126 (j := 22) rfl rfl) (bq_nm bk_X10_owed_126 (j := 23) rfl rfl) (bq_nm bk_X10_owed_126 (j := 24) rfl rfl) rfl
theorem dX10_owed_151 : decode cX10_owed 151 = .ok (.iload_n 3, 1) := dc_29 (bq_nm bk_X10_owed_126 (j := 25) rfl rfl)
theorem dX10_owed_152 : decode cX10_owed 152 = .ok (.ireturn, 1) := dc_172 (bq_nm bk_X10_owed_126 (j := 26) rfl rfl)
set_option maxRecDepth 20000 in
theorem bk_X10_chance_0 : ((cX10_chance.data.toList.drop 0).take 31).length = 31 ∧ eN (((cX10_chance.data.toList.drop 0).take 31).map UInt8.toNat) = 5328715813220602991933339479939048821802959467124347580183482227800146715 := by decide +kernel
theorem dX10_chance_0 : decode cX10_chance 0 = .ok (.iload_n 1, 1) := dc_27 (bq_nm bk_X10_chance_0 (j := 0) rfl rfl)
theorem dX10_chance_1 : decode cX10_chance 1 = .ok (.iconst 0, 1) := dc_3 (bq_nm bk_X10_chance_0 (j := 1) rfl rfl)
theorem dX10_chance_2 : decode cX10_chance 2 = .ok (.bipush 40, 2) := dc_16 (bq_nm bk_X10_chance_0 (j := 2) rfl rfl) (bq_nm bk_X10_chance_0 (j := 3) rfl rfl) rfl
theorem dX10_chance_4 : decode cX10_chance 4 = .ok (.invokestatic 53, 3) := dc_184 (bq_nm bk_X10_chance_0 (j := 4) rfl rfl) (bq_nm bk_X10_chance_0 (j := 5) rfl rfl) (bq_nm bk_X10_chance_0 (j := 6) rfl rfl) rfl
theorem dX10_chance_7 : decode cX10_chance 7 = .ok (.ifCond .eq 32, 3) := dc_153 (bq_nm bk_X10_chance_0 (j := 7) rfl rfl) (bq_nm bk_X10_chance_0 (j := 8) rfl rfl) (bq_nm bk_X10_chance_0 (j := 9) rfl rfl) rfl
theorem dX10_chance_10 : decode cX10_chance 10 = .ok (.iload_n 2, 1) := dc_28 (bq_nm bk_X10_chance_0 (j := 10) rfl rfl)
theorem dX10_chance_11 : decode cX10_chance 11 = .ok (.iconst 0, 1) := dc_3 (bq_nm bk_X10_chance_0 (j := 11) rfl rfl)
theorem dX10_chance_12 : decode cX10_chance 12 = .ok (.iload_n 1, 1) := dc_27 (bq_nm bk_X10_chance_0 (j := 12) rfl rfl)
theorem dX10_chance_13 : decode cX10_chance 13 = .ok (.invokestatic 53, 3) := dc_184 (bq_nm bk_X10_chance_0 (j := 13) rfl rfl) (bq_nm bk_X10_chance_0 (j := 14) rfl rfl) (bq_nm bk_X10_chance_0 (j := 15) rfl rfl) rfl
theorem dX10_chance_16 : decode cX10_chance 16 = .ok (.ifCond .eq 23, 3) := dc_153 (bq_nm bk_X10_chance_0 (j := 16) rfl rfl) (bq_nm bk_X10_chance_0 (j := 17) rfl rfl) (bq_nm bk_X10_chance_0 (j := 18) rfl rfl) rfl
theorem dX10_chance_19 : decode cX10_chance 19 = .ok (.iload_n 3, 1) := dc_29 (bq_nm bk_X10_chance_0 (j := 19) rfl rfl)
theorem dX10_chance_20 : decode cX10_chance 20 = .ok (.iconst 0, 1) := dc_3 (bq_nm bk_X10_chance_0 (j := 20) rfl rfl)
theorem dX10_chance_21 : decode cX10_chance 21 = .ok (.iload_n 1, 1) := dc_27 (bq_nm bk_X10_chance_0 (j := 21) rfl rfl)
theorem dX10_chance_22 : decode cX10_chance 22 = .ok (.invokestatic 53, 3) := dc_184 (bq_nm bk_X10_chance_0 (j := 22) rfl rfl) (bq_nm bk_X10_chance_0 (j := 23) rfl rfl) (bq_nm bk_X10_chance_0 (j := 24) rfl rfl) rfl
theorem dX10_chance_25 : decode cX10_chance 25 = .ok (.ifCond .eq 14, 3) := dc_153 (bq_nm bk_X10_chance_0 (j := 25) rfl rfl) (bq_nm bk_X10_chance_0 (j := 26) rfl rfl) (bq_nm bk_X10_chance_0 (j := 27) rfl rfl) rfl
theorem dX10_chance_28 : decode cX10_chance 28 = .ok (.iload 4, 2) := dc_21 (bq_nm bk_X10_chance_0 (j := 28) rfl rfl) (bq_nm bk_X10_chance_0 (j := 29) rfl rfl)
theorem dX10_chance_30 : decode cX10_chance 30 = .ok (.iconst 0, 1) := dc_3 (bq_nm bk_X10_chance_0 (j := 30) rfl rfl)
set_option maxRecDepth 20000 in
theorem bk_X10_chance_31 : ((cX10_chance.data.toList.drop 31).take 32).length = 32 ∧ eN (((cX10_chance.data.toList.drop 31).take 32).map UInt8.toNat) = 95439281163339728911050352010520751792061352410289555121588114051661913663504 := by decide +kernel
theorem dX10_chance_31 : decode cX10_chance 31 = .ok (.bipush 40, 2) := dc_16 (bq_nm bk_X10_chance_31 (j := 0) rfl rfl) (bq_nm bk_X10_chance_31 (j := 1) rfl rfl) rfl
theorem dX10_chance_33 : decode cX10_chance 33 = .ok (.invokestatic 53, 3) := dc_184 (bq_nm bk_X10_chance_31 (j := 2) rfl rfl) (bq_nm bk_X10_chance_31 (j := 3) rfl rfl) (bq_nm bk_X10_chance_31 (j := 4) rfl rfl) rfl
theorem dX10_chance_36 : decode cX10_chance 36 = .ok (.ifCond .ne 6, 3) := dc_154 (bq_nm bk_X10_chance_31 (j := 5) rfl rfl) (bq_nm bk_X10_chance_31 (j := 6) rfl rfl) (bq_nm bk_X10_chance_31 (j := 7) rfl rfl) rfl
theorem dX10_chance_39 : decode cX10_chance 39 = .ok (.bipush (-2), 2) := dc_16 (bq_nm bk_X10_chance_31 (j := 8) rfl rfl) (bq_nm bk_X10_chance_31 (j := 9) rfl rfl) rfl
theorem dX10_chance_41 : decode cX10_chance 41 = .ok (.ireturn, 1) := dc_172 (bq_nm bk_X10_chance_31 (j := 10) rfl rfl)
theorem dX10_chance_42 : decode cX10_chance 42 = .ok (.lconst 0, 1) := dc_9 (bq_nm bk_X10_chance_31 (j := 11) rfl rfl)
theorem dX10_chance_43 : decode cX10_chance 43 = .ok (.lstore 5, 2) := dc_55 (bq_nm bk_X10_chance_31 (j := 12) rfl rfl) (bq_nm bk_X10_chance_31 (j := 13) rfl rfl)
theorem dX10_chance_45 : decode cX10_chance 45 = .ok (.iload 4, 2) := dc_21 (bq_nm bk_X10_chance_31 (j := 14) rfl rfl) (bq_nm bk_X10_chance_31 (j := 15) rfl rfl)
theorem dX10_chance_47 : decode cX10_chance 47 = .ok (.istore 7, 2) := dc_54 (bq_nm bk_X10_chance_31 (j := 16) rfl rfl) (bq_nm bk_X10_chance_31 (j := 17) rfl rfl)
theorem dX10_chance_49 : decode cX10_chance 49 = .ok (.iload 7, 2) := dc_21 (bq_nm bk_X10_chance_31 (j := 18) rfl rfl) (bq_nm bk_X10_chance_31 (j := 19) rfl rfl)
theorem dX10_chance_51 : decode cX10_chance 51 = .ok (.iload_n 3, 1) := dc_29 (bq_nm bk_X10_chance_31 (j := 20) rfl rfl)
theorem dX10_chance_52 : decode cX10_chance 52 = .ok (.if_icmp .gt 31, 3) := dc_163 (bq_nm bk_X10_chance_31 (j := 21) rfl rfl) (bq_nm bk_X10_chance_31 (j := 22) rfl rfl) (bq_nm bk_X10_chance_31 (j := 23) rfl rfl) rfl
theorem dX10_chance_55 : decode cX10_chance 55 = .ok (.lload 5, 2) := dc_22 (bq_nm bk_X10_chance_31 (j := 24) rfl rfl) (bq_nm bk_X10_chance_31 (j := 25) rfl rfl)
theorem dX10_chance_57 : decode cX10_chance 57 = .ok (.iload_n 2, 1) := dc_28 (bq_nm bk_X10_chance_31 (j := 26) rfl rfl)
theorem dX10_chance_58 : decode cX10_chance 58 = .ok (.iload 7, 2) := dc_21 (bq_nm bk_X10_chance_31 (j := 27) rfl rfl) (bq_nm bk_X10_chance_31 (j := 28) rfl rfl)
theorem dX10_chance_60 : decode cX10_chance 60 = .ok (.invokestatic 211, 3) := dc_184 (bq_nm bk_X10_chance_31 (j := 29) rfl rfl) (bq_nm bk_X10_chance_31 (j := 30) rfl rfl) (bq_nm bk_X10_chance_31 (j := 31) rfl rfl) rfl
set_option maxRecDepth 20000 in
theorem bk_X10_chance_63 : ((cX10_chance.data.toList.drop 63).take 31).length = 31 ∧ eN (((cX10_chance.data.toList.drop 63).take 31).map UInt8.toNat) = 372809694363597637201718503346819406008658018867295086279250942681917168667 := by decide +kernel
theorem dX10_chance_63 : decode cX10_chance 63 = .ok (.iload_n 1, 1) := dc_27 (bq_nm bk_X10_chance_63 (j := 0) rfl rfl)
theorem dX10_chance_64 : decode cX10_chance 64 = .ok (.iload_n 2, 1) := dc_28 (bq_nm bk_X10_chance_63 (j := 1) rfl rfl)
theorem dX10_chance_65 : decode cX10_chance 65 = .ok (.isub, 1) := dc_100 (bq_nm bk_X10_chance_63 (j := 2) rfl rfl)
theorem dX10_chance_66 : decode cX10_chance 66 = .ok (.iload_n 3, 1) := dc_29 (bq_nm bk_X10_chance_63 (j := 3) rfl rfl)
theorem dX10_chance_67 : decode cX10_chance 67 = .ok (.iload 7, 2) := dc_21 (bq_nm bk_X10_chance_63 (j := 4) rfl rfl) (bq_nm bk_X10_chance_63 (j := 5) rfl rfl)
theorem dX10_chance_69 : decode cX10_chance 69 = .ok (.isub, 1) := dc_100 (bq_nm bk_X10_chance_63 (j := 6) rfl rfl)
theorem dX10_chance_70 : decode cX10_chance 70 = .ok (.invokestatic 211, 3) := dc_184 (bq_nm bk_X10_chance_63 (j := 7) rfl rfl) (bq_nm bk_X10_chance_63 (j := 8) rfl rfl) (bq_nm bk_X10_chance_63 (j := 9) rfl rfl) rfl
theorem dX10_chance_73 : decode cX10_chance 73 = .ok (.lmul, 1) := dc_105 (bq_nm bk_X10_chance_63 (j := 10) rfl rfl)
theorem dX10_chance_74 : decode cX10_chance 74 = .ok (.ladd, 1) := dc_97 (bq_nm bk_X10_chance_63 (j := 11) rfl rfl)
theorem dX10_chance_75 : decode cX10_chance 75 = .ok (.lstore 5, 2) := dc_55 (bq_nm bk_X10_chance_63 (j := 12) rfl rfl) (bq_nm bk_X10_chance_63 (j := 13) rfl rfl)
theorem dX10_chance_77 : decode cX10_chance 77 = .ok (.iinc 7 1, 3) := dc_132 (bq_nm bk_X10_chance_63 (j := 14) rfl rfl) (bq_nm bk_X10_chance_63 (j := 15) rfl rfl) (bq_nm bk_X10_chance_63 (j := 16) rfl rfl) rfl
theorem dX10_chance_80 : decode cX10_chance 80 = .ok (.goto (-31), 3) := dc_167 (bq_nm bk_X10_chance_63 (j := 17) rfl rfl) (bq_nm bk_X10_chance_63 (j := 18) rfl rfl) (bq_nm bk_X10_chance_63 (j := 19) rfl rfl) rfl
theorem dX10_chance_83 : decode cX10_chance 83 = .ok (.aload_n 0, 1) := dc_42 (bq_nm bk_X10_chance_63 (j := 20) rfl rfl)
theorem dX10_chance_84 : decode cX10_chance 84 = .ok (.getfield 41, 3) := dc_180 (bq_nm bk_X10_chance_63 (j := 21) rfl rfl) (bq_nm bk_X10_chance_63 (j := 22) rfl rfl) (bq_nm bk_X10_chance_63 (j := 23) rfl rfl) rfl
theorem dX10_chance_87 : decode cX10_chance 87 = .ok (.lload 5, 2) := dc_22 (bq_nm bk_X10_chance_63 (j := 24) rfl rfl) (bq_nm bk_X10_chance_63 (j := 25) rfl rfl)
theorem dX10_chance_89 : decode cX10_chance 89 = .ok (.iload_n 1, 1) := dc_27 (bq_nm bk_X10_chance_63 (j := 26) rfl rfl)
theorem dX10_chance_90 : decode cX10_chance 90 = .ok (.iload_n 3, 1) := dc_29 (bq_nm bk_X10_chance_63 (j := 27) rfl rfl)
theorem dX10_chance_91 : decode cX10_chance 91 = .ok (.invokestatic 211, 3) := dc_184 (bq_nm bk_X10_chance_63 (j := 28) rfl rfl) (bq_nm bk_X10_chance_63 (j := 29) rfl rfl) (bq_nm bk_X10_chance_63 (j := 30) rfl rfl) rfl
set_option maxRecDepth 20000 in
theorem bk_X10_chance_94 : ((cX10_chance.data.toList.drop 94).take 4).length = 4 ∧ eN (((cX10_chance.data.toList.drop 94).take 4).map UInt8.toNat) = 2899771574 := by decide +kernel
theorem dX10_chance_94 : decode cX10_chance 94 = .ok (.invokevirtual 215, 3) := dc_182 (bq_nm bk_X10_chance_94 (j := 0) rfl rfl) (bq_nm bk_X10_chance_94 (j := 1) rfl rfl) (bq_nm bk_X10_chance_94 (j := 2) rfl rfl) rfl
theorem dX10_chance_97 : decode cX10_chance 97 = .ok (.ireturn, 1) := dc_172 (bq_nm bk_X10_chance_94 (j := 3) rfl rfl)
set_option maxRecDepth 20000 in
theorem bk_X10_twelve_0 : ((cX10_twelve.data.toList.drop 0).take 30).length = 30 ∧ eN (((cX10_twelve.data.toList.drop 0).take 30).map UInt8.toNat) = 82839929929773077962590345863661453563926268374511582798064299628606506 := by decide +kernel
theorem dX10_twelve_0 : decode cX10_twelve 0 = .ok (.aload_n 0, 1) := dc_42 (bq_nm bk_X10_twelve_0 (j := 0) rfl rfl)
theorem dX10_twelve_1 : decode cX10_twelve 1 = .ok (.getfield 20, 3) := dc_180 (bq_nm bk_X10_twelve_0 (j := 1) rfl rfl) (bq_nm bk_X10_twelve_0 (j := 2) rfl rfl) (bq_nm bk_X10_twelve_0 (j := 3) rfl rfl) rfl
theorem dX10_twelve_4 : decode cX10_twelve 4 = .ok (.getfield 162, 3) := dc_180 (bq_nm bk_X10_twelve_0 (j := 4) rfl rfl) (bq_nm bk_X10_twelve_0 (j := 5) rfl rfl) (bq_nm bk_X10_twelve_0 (j := 6) rfl rfl) rfl
theorem dX10_twelve_7 : decode cX10_twelve 7 = .ok (.iload_n 1, 1) := dc_27 (bq_nm bk_X10_twelve_0 (j := 7) rfl rfl)
theorem dX10_twelve_8 : decode cX10_twelve 8 = .ok (.invokevirtual 75, 3) := dc_182 (bq_nm bk_X10_twelve_0 (j := 8) rfl rfl) (bq_nm bk_X10_twelve_0 (j := 9) rfl rfl) (bq_nm bk_X10_twelve_0 (j := 10) rfl rfl) rfl
theorem dX10_twelve_11 : decode cX10_twelve 11 = .ok (.ifCond .eq 12, 3) := dc_153 (bq_nm bk_X10_twelve_0 (j := 11) rfl rfl) (bq_nm bk_X10_twelve_0 (j := 12) rfl rfl) (bq_nm bk_X10_twelve_0 (j := 13) rfl rfl) rfl
theorem dX10_twelve_14 : decode cX10_twelve 14 = .ok (.iload_n 2, 1) := dc_28 (bq_nm bk_X10_twelve_0 (j := 14) rfl rfl)
theorem dX10_twelve_15 : decode cX10_twelve 15 = .ok (.iconst 0, 1) := dc_3 (bq_nm bk_X10_twelve_0 (j := 15) rfl rfl)
theorem dX10_twelve_16 : decode cX10_twelve 16 = .ok (.iconst 1, 1) := dc_4 (bq_nm bk_X10_twelve_0 (j := 16) rfl rfl)
theorem dX10_twelve_17 : decode cX10_twelve 17 = .ok (.invokestatic 53, 3) := dc_184 (bq_nm bk_X10_twelve_0 (j := 17) rfl rfl) (bq_nm bk_X10_twelve_0 (j := 18) rfl rfl) (bq_nm bk_X10_twelve_0 (j := 19) rfl rfl) rfl
theorem dX10_twelve_20 : decode cX10_twelve 20 = .ok (.ifCond .ne 6, 3) := dc_154 (bq_nm bk_X10_twelve_0 (j := 20) rfl rfl) (bq_nm bk_X10_twelve_0 (j := 21) rfl rfl) (bq_nm bk_X10_twelve_0 (j := 22) rfl rfl) rfl
theorem dX10_twelve_23 : decode cX10_twelve 23 = .ok (.bipush (-2), 2) := dc_16 (bq_nm bk_X10_twelve_0 (j := 23) rfl rfl) (bq_nm bk_X10_twelve_0 (j := 24) rfl rfl) rfl
theorem dX10_twelve_25 : decode cX10_twelve 25 = .ok (.ireturn, 1) := dc_172 (bq_nm bk_X10_twelve_0 (j := 25) rfl rfl)
theorem dX10_twelve_26 : decode cX10_twelve 26 = .ok (.aload_n 0, 1) := dc_42 (bq_nm bk_X10_twelve_0 (j := 26) rfl rfl)
theorem dX10_twelve_27 : decode cX10_twelve 27 = .ok (.getfield 12, 3) := dc_180 (bq_nm bk_X10_twelve_0 (j := 27) rfl rfl) (bq_nm bk_X10_twelve_0 (j := 28) rfl rfl) (bq_nm bk_X10_twelve_0 (j := 29) rfl rfl) rfl
set_option maxRecDepth 20000 in
theorem bk_X10_twelve_30 : ((cX10_twelve.data.toList.drop 30).take 31).length = 31 ∧ eN (((cX10_twelve.data.toList.drop 30).take 31).map UInt8.toNat) = 49500795801564444677384532916635309400504406464445998715833189462743711926 := by decide +kernel
theorem dX10_twelve_30 : decode cX10_twelve 30 = .ok (.invokevirtual 124, 3) := dc_182 (bq_nm bk_X10_twelve_30 (j := 0) rfl rfl) (bq_nm bk_X10_twelve_30 (j := 1) rfl rfl) (bq_nm bk_X10_twelve_30 (j := 2) rfl rfl) rfl
theorem dX10_twelve_33 : decode cX10_twelve 33 = .ok (.aload_n 0, 1) := dc_42 (bq_nm bk_X10_twelve_30 (j := 3) rfl rfl)
theorem dX10_twelve_34 : decode cX10_twelve 34 = .ok (.getfield 20, 3) := dc_180 (bq_nm bk_X10_twelve_30 (j := 4) rfl rfl) (bq_nm bk_X10_twelve_30 (j := 5) rfl rfl) (bq_nm bk_X10_twelve_30 (j := 6) rfl rfl) rfl
theorem dX10_twelve_37 : decode cX10_twelve 37 = .ok (.getfield 162, 3) := dc_180 (bq_nm bk_X10_twelve_30 (j := 7) rfl rfl) (bq_nm bk_X10_twelve_30 (j := 8) rfl rfl) (bq_nm bk_X10_twelve_30 (j := 9) rfl rfl) rfl
theorem dX10_twelve_40 : decode cX10_twelve 40 = .ok (.iload_n 1, 1) := dc_27 (bq_nm bk_X10_twelve_30 (j := 10) rfl rfl)
theorem dX10_twelve_41 : decode cX10_twelve 41 = .ok (.iconst 0, 1) := dc_3 (bq_nm bk_X10_twelve_30 (j := 11) rfl rfl)
theorem dX10_twelve_42 : decode cX10_twelve 42 = .ok (.invokevirtual 144, 3) := dc_182 (bq_nm bk_X10_twelve_30 (j := 12) rfl rfl) (bq_nm bk_X10_twelve_30 (j := 13) rfl rfl) (bq_nm bk_X10_twelve_30 (j := 14) rfl rfl) rfl
theorem dX10_twelve_45 : decode cX10_twelve 45 = .ok (.istore_n 3, 1) := dc_62 (bq_nm bk_X10_twelve_30 (j := 15) rfl rfl)
theorem dX10_twelve_46 : decode cX10_twelve 46 = .ok (.aload_n 0, 1) := dc_42 (bq_nm bk_X10_twelve_30 (j := 16) rfl rfl)
theorem dX10_twelve_47 : decode cX10_twelve 47 = .ok (.getfield 20, 3) := dc_180 (bq_nm bk_X10_twelve_30 (j := 17) rfl rfl) (bq_nm bk_X10_twelve_30 (j := 18) rfl rfl) (bq_nm bk_X10_twelve_30 (j := 19) rfl rfl) rfl
theorem dX10_twelve_50 : decode cX10_twelve 50 = .ok (.getfield 162, 3) := dc_180 (bq_nm bk_X10_twelve_30 (j := 20) rfl rfl) (bq_nm bk_X10_twelve_30 (j := 21) rfl rfl) (bq_nm bk_X10_twelve_30 (j := 22) rfl rfl) rfl
theorem dX10_twelve_53 : decode cX10_twelve 53 = .ok (.iload_n 1, 1) := dc_27 (bq_nm bk_X10_twelve_30 (j := 23) rfl rfl)
theorem dX10_twelve_54 : decode cX10_twelve 54 = .ok (.iconst 2, 1) := dc_5 (bq_nm bk_X10_twelve_30 (j := 24) rfl rfl)
theorem dX10_twelve_55 : decode cX10_twelve 55 = .ok (.invokevirtual 144, 3) := dc_182 (bq_nm bk_X10_twelve_30 (j := 25) rfl rfl) (bq_nm bk_X10_twelve_30 (j := 26) rfl rfl) (bq_nm bk_X10_twelve_30 (j := 27) rfl rfl) rfl
theorem dX10_twelve_58 : decode cX10_twelve 58 = .ok (.istore 4, 2) := dc_54 (bq_nm bk_X10_twelve_30 (j := 28) rfl rfl) (bq_nm bk_X10_twelve_30 (j := 29) rfl rfl)
theorem dX10_twelve_60 : decode cX10_twelve 60 = .ok (.iload_n 2, 1) := dc_28 (bq_nm bk_X10_twelve_30 (j := 30) rfl rfl)
set_option maxRecDepth 20000 in
theorem bk_X10_twelve_61 : ((cX10_twelve.data.toList.drop 61).take 32).length = 32 ∧ eN (((cX10_twelve.data.toList.drop 61).take 32).map UInt8.toNat) = 13123415332986197729038463700126389397373732532127661517050381340345405341850 := by decide +kernel
theorem dX10_twelve_61 : decode cX10_twelve 61 = .ok (.ifCond .ne 17, 3) := dc_154 (bq_nm bk_X10_twelve_61 (j := 0) rfl rfl) (bq_nm bk_X10_twelve_61 (j := 1) rfl rfl) (bq_nm bk_X10_twelve_61 (j := 2) rfl rfl) rfl
theorem dX10_twelve_64 : decode cX10_twelve 64 = .ok (.aload_n 0, 1) := dc_42 (bq_nm bk_X10_twelve_61 (j := 3) rfl rfl)
theorem dX10_twelve_65 : decode cX10_twelve 65 = .ok (.getfield 12, 3) := dc_180 (bq_nm bk_X10_twelve_61 (j := 4) rfl rfl) (bq_nm bk_X10_twelve_61 (j := 5) rfl rfl) (bq_nm bk_X10_twelve_61 (j := 6) rfl rfl) rfl
theorem dX10_twelve_68 : decode cX10_twelve 68 = .ok (.iload_n 1, 1) := dc_27 (bq_nm bk_X10_twelve_61 (j := 7) rfl rfl)
theorem dX10_twelve_69 : decode cX10_twelve 69 = .ok (.invokevirtual 172, 3) := dc_182 (bq_nm bk_X10_twelve_61 (j := 8) rfl rfl) (bq_nm bk_X10_twelve_61 (j := 9) rfl rfl) (bq_nm bk_X10_twelve_61 (j := 10) rfl rfl) rfl
theorem dX10_twelve_72 : decode cX10_twelve 72 = .ok (.getfield 176, 3) := dc_180 (bq_nm bk_X10_twelve_61 (j := 11) rfl rfl) (bq_nm bk_X10_twelve_61 (j := 12) rfl rfl) (bq_nm bk_X10_twelve_61 (j := 13) rfl rfl) rfl
theorem dX10_twelve_75 : decode cX10_twelve 75 = .ok (.goto 28, 3) := dc_167 (bq_nm bk_X10_twelve_61 (j := 14) rfl rfl) (bq_nm bk_X10_twelve_61 (j := 15) rfl rfl) (bq_nm bk_X10_twelve_61 (j := 16) rfl rfl) rfl
theorem dX10_twelve_78 : decode cX10_twelve 78 = .ok (.aload_n 0, 1) := dc_42 (bq_nm bk_X10_twelve_61 (j := 17) rfl rfl)
theorem dX10_twelve_79 : decode cX10_twelve 79 = .ok (.getfield 12, 3) := dc_180 (bq_nm bk_X10_twelve_61 (j := 18) rfl rfl) (bq_nm bk_X10_twelve_61 (j := 19) rfl rfl) (bq_nm bk_X10_twelve_61 (j := 20) rfl rfl) rfl
theorem dX10_twelve_82 : decode cX10_twelve 82 = .ok (.aload_n 0, 1) := dc_42 (bq_nm bk_X10_twelve_61 (j := 21) rfl rfl)
theorem dX10_twelve_83 : decode cX10_twelve 83 = .ok (.getfield 20, 3) := dc_180 (bq_nm bk_X10_twelve_61 (j := 22) rfl rfl) (bq_nm bk_X10_twelve_61 (j := 23) rfl rfl) (bq_nm bk_X10_twelve_61 (j := 24) rfl rfl) rfl
theorem dX10_twelve_86 : decode cX10_twelve 86 = .ok (.iconst 0, 1) := dc_3 (bq_nm bk_X10_twelve_61 (j := 25) rfl rfl)
theorem dX10_twelve_87 : decode cX10_twelve 87 = .ok (.iload_n 3, 1) := dc_29 (bq_nm bk_X10_twelve_61 (j := 26) rfl rfl)
theorem dX10_twelve_88 : decode cX10_twelve 88 = .ok (.invokevirtual 151, 3) := dc_182 (bq_nm bk_X10_twelve_61 (j := 27) rfl rfl) (bq_nm bk_X10_twelve_61 (j := 28) rfl rfl) (bq_nm bk_X10_twelve_61 (j := 29) rfl rfl) rfl
theorem dX10_twelve_91 : decode cX10_twelve 91 = .ok (.iconst 0, 1) := dc_3 (bq_nm bk_X10_twelve_61 (j := 30) rfl rfl)
theorem dX10_twelve_92 : decode cX10_twelve 92 = .ok (.iload_n 3, 1) := dc_29 (bq_nm bk_X10_twelve_61 (j := 31) rfl rfl)
set_option maxRecDepth 20000 in
theorem bk_X10_twelve_93 : ((cX10_twelve.data.toList.drop 93).take 32).length = 32 ∧ eN (((cX10_twelve.data.toList.drop 93).take 32).map UInt8.toNat) = 9047500418860720227126577330773491188905724382563306994013316175477795238954 := by decide +kernel
theorem dX10_twelve_93 : decode cX10_twelve 93 = .ok (.aload_n 0, 1) := dc_42 (bq_nm bk_X10_twelve_93 (j := 0) rfl rfl)
theorem dX10_twelve_94 : decode cX10_twelve 94 = .ok (.getfield 20, 3) := dc_180 (bq_nm bk_X10_twelve_93 (j := 1) rfl rfl) (bq_nm bk_X10_twelve_93 (j := 2) rfl rfl) (bq_nm bk_X10_twelve_93 (j := 3) rfl rfl) rfl
theorem dX10_twelve_97 : decode cX10_twelve 97 = .ok (.invokevirtual 85, 3) := dc_182 (bq_nm bk_X10_twelve_93 (j := 4) rfl rfl) (bq_nm bk_X10_twelve_93 (j := 5) rfl rfl) (bq_nm bk_X10_twelve_93 (j := 6) rfl rfl) rfl
theorem dX10_twelve_100 : decode cX10_twelve 100 = .ok (.invokevirtual 155, 3) := dc_182 (bq_nm bk_X10_twelve_93 (j := 7) rfl rfl) (bq_nm bk_X10_twelve_93 (j := 8) rfl rfl) (bq_nm bk_X10_twelve_93 (j := 9) rfl rfl) rfl
theorem dX10_twelve_103 : decode cX10_twelve 103 = .ok (.istore 5, 2) := dc_54 (bq_nm bk_X10_twelve_93 (j := 10) rfl rfl) (bq_nm bk_X10_twelve_93 (j := 11) rfl rfl)
theorem dX10_twelve_105 : decode cX10_twelve 105 = .ok (.lconst 0, 1) := dc_9 (bq_nm bk_X10_twelve_93 (j := 12) rfl rfl)
theorem dX10_twelve_106 : decode cX10_twelve 106 = .ok (.lstore 6, 2) := dc_55 (bq_nm bk_X10_twelve_93 (j := 13) rfl rfl) (bq_nm bk_X10_twelve_93 (j := 14) rfl rfl)
theorem dX10_twelve_108 : decode cX10_twelve 108 = .ok (.iconst 0, 1) := dc_3 (bq_nm bk_X10_twelve_93 (j := 15) rfl rfl)
theorem dX10_twelve_109 : decode cX10_twelve 109 = .ok (.istore 8, 2) := dc_54 (bq_nm bk_X10_twelve_93 (j := 16) rfl rfl) (bq_nm bk_X10_twelve_93 (j := 17) rfl rfl)
theorem dX10_twelve_111 : decode cX10_twelve 111 = .ok (.iload 8, 2) := dc_21 (bq_nm bk_X10_twelve_93 (j := 18) rfl rfl) (bq_nm bk_X10_twelve_93 (j := 19) rfl rfl)
theorem dX10_twelve_113 : decode cX10_twelve 113 = .ok (.iconst 3, 1) := dc_6 (bq_nm bk_X10_twelve_93 (j := 20) rfl rfl)
theorem dX10_twelve_114 : decode cX10_twelve 114 = .ok (.if_icmp .gt 35, 3) := dc_163 (bq_nm bk_X10_twelve_93 (j := 21) rfl rfl) (bq_nm bk_X10_twelve_93 (j := 22) rfl rfl) (bq_nm bk_X10_twelve_93 (j := 23) rfl rfl) rfl
theorem dX10_twelve_117 : decode cX10_twelve 117 = .ok (.lload 6, 2) := dc_22 (bq_nm bk_X10_twelve_93 (j := 24) rfl rfl) (bq_nm bk_X10_twelve_93 (j := 25) rfl rfl)
theorem dX10_twelve_119 : decode cX10_twelve 119 = .ok (.iload 5, 2) := dc_21 (bq_nm bk_X10_twelve_93 (j := 26) rfl rfl) (bq_nm bk_X10_twelve_93 (j := 27) rfl rfl)
theorem dX10_twelve_121 : decode cX10_twelve 121 = .ok (.aload_n 0, 1) := dc_42 (bq_nm bk_X10_twelve_93 (j := 28) rfl rfl)
theorem dX10_twelve_122 : decode cX10_twelve 122 = .ok (.getfield 20, 3) := dc_180 (bq_nm bk_X10_twelve_93 (j := 29) rfl rfl) (bq_nm bk_X10_twelve_93 (j := 30) rfl rfl) (bq_nm bk_X10_twelve_93 (j := 31) rfl rfl) rfl
set_option maxRecDepth 20000 in
theorem bk_X10_twelve_125 : ((cX10_twelve.data.toList.drop 125).take 32).length = 32 ∧ eN (((cX10_twelve.data.toList.drop 125).take 32).map UInt8.toNat) = 2298710039191678909825145162593321415966147425926864614975634877124006384899 := by decide +kernel
theorem dX10_twelve_125 : decode cX10_twelve 125 = .ok (.iconst 0, 1) := dc_3 (bq_nm bk_X10_twelve_125 (j := 0) rfl rfl)
theorem dX10_twelve_126 : decode cX10_twelve 126 = .ok (.iload 8, 2) := dc_21 (bq_nm bk_X10_twelve_125 (j := 1) rfl rfl) (bq_nm bk_X10_twelve_125 (j := 2) rfl rfl)
theorem dX10_twelve_128 : decode cX10_twelve 128 = .ok (.invokevirtual 219, 3) := dc_182 (bq_nm bk_X10_twelve_125 (j := 3) rfl rfl) (bq_nm bk_X10_twelve_125 (j := 4) rfl rfl) (bq_nm bk_X10_twelve_125 (j := 5) rfl rfl) rfl
theorem dX10_twelve_131 : decode cX10_twelve 131 = .ok (.iand, 1) := dc_126 (bq_nm bk_X10_twelve_125 (j := 6) rfl rfl)
theorem dX10_twelve_132 : decode cX10_twelve 132 = .ok (.invokestatic 222, 3) := dc_184 (bq_nm bk_X10_twelve_125 (j := 7) rfl rfl) (bq_nm bk_X10_twelve_125 (j := 8) rfl rfl) (bq_nm bk_X10_twelve_125 (j := 9) rfl rfl) rfl
theorem dX10_twelve_135 : decode cX10_twelve 135 = .ok (.iload 4, 2) := dc_21 (bq_nm bk_X10_twelve_125 (j := 10) rfl rfl) (bq_nm bk_X10_twelve_125 (j := 11) rfl rfl)
theorem dX10_twelve_137 : decode cX10_twelve 137 = .ok (.invokestatic 211, 3) := dc_184 (bq_nm bk_X10_twelve_125 (j := 12) rfl rfl) (bq_nm bk_X10_twelve_125 (j := 13) rfl rfl) (bq_nm bk_X10_twelve_125 (j := 14) rfl rfl) rfl
theorem dX10_twelve_140 : decode cX10_twelve 140 = .ok (.ladd, 1) := dc_97 (bq_nm bk_X10_twelve_125 (j := 15) rfl rfl)
theorem dX10_twelve_141 : decode cX10_twelve 141 = .ok (.lstore 6, 2) := dc_55 (bq_nm bk_X10_twelve_125 (j := 16) rfl rfl) (bq_nm bk_X10_twelve_125 (j := 17) rfl rfl)
theorem dX10_twelve_143 : decode cX10_twelve 143 = .ok (.iinc 8 1, 3) := dc_132 (bq_nm bk_X10_twelve_125 (j := 18) rfl rfl) (bq_nm bk_X10_twelve_125 (j := 19) rfl rfl) (bq_nm bk_X10_twelve_125 (j := 20) rfl rfl) rfl
theorem dX10_twelve_146 : decode cX10_twelve 146 = .ok (.goto (-35), 3) := dc_167 (bq_nm bk_X10_twelve_125 (j := 21) rfl rfl) (bq_nm bk_X10_twelve_125 (j := 22) rfl rfl) (bq_nm bk_X10_twelve_125 (j := 23) rfl rfl) rfl
theorem dX10_twelve_149 : decode cX10_twelve 149 = .ok (.aload_n 0, 1) := dc_42 (bq_nm bk_X10_twelve_125 (j := 24) rfl rfl)
theorem dX10_twelve_150 : decode cX10_twelve 150 = .ok (.getfield 41, 3) := dc_180 (bq_nm bk_X10_twelve_125 (j := 25) rfl rfl) (bq_nm bk_X10_twelve_125 (j := 26) rfl rfl) (bq_nm bk_X10_twelve_125 (j := 27) rfl rfl) rfl
theorem dX10_twelve_153 : decode cX10_twelve 153 = .ok (.lload 6, 2) := dc_22 (bq_nm bk_X10_twelve_125 (j := 28) rfl rfl) (bq_nm bk_X10_twelve_125 (j := 29) rfl rfl)
theorem dX10_twelve_155 : decode cX10_twelve 155 = .ok (.iload 5, 2) := dc_21 (bq_nm bk_X10_twelve_125 (j := 30) rfl rfl) (bq_nm bk_X10_twelve_125 (j := 31) rfl rfl)
set_option maxRecDepth 20000 in
theorem bk_X10_twelve_157 : ((cX10_twelve.data.toList.drop 157).take 12).length = 12 ∧ eN (((cX10_twelve.data.toList.drop 157).take 12).map UInt8.toNat) = 53491344113000273178051608760 := by decide +kernel
theorem dX10_twelve_157 : decode cX10_twelve 157 = .ok (.invokestatic 222, 3) := dc_184 (bq_nm bk_X10_twelve_157 (j := 0) rfl rfl) (bq_nm bk_X10_twelve_157 (j := 1) rfl rfl) (bq_nm bk_X10_twelve_157 (j := 2) rfl rfl) rfl
theorem dX10_twelve_160 : decode cX10_twelve 160 = .ok (.iload 4, 2) := dc_21 (bq_nm bk_X10_twelve_157 (j := 3) rfl rfl) (bq_nm bk_X10_twelve_157 (j := 4) rfl rfl)
theorem dX10_twelve_162 : decode cX10_twelve 162 = .ok (.invokestatic 211, 3) := dc_184 (bq_nm bk_X10_twelve_157 (j := 5) rfl rfl) (bq_nm bk_X10_twelve_157 (j := 6) rfl rfl) (bq_nm bk_X10_twelve_157 (j := 7) rfl rfl) rfl
theorem dX10_twelve_165 : decode cX10_twelve 165 = .ok (.invokevirtual 215, 3) := dc_182 (bq_nm bk_X10_twelve_157 (j := 8) rfl rfl) (bq_nm bk_X10_twelve_157 (j := 9) rfl rfl) (bq_nm bk_X10_twelve_157 (j := 10) rfl rfl) rfl
theorem dX10_twelve_168 : decode cX10_twelve 168 = .ok (.ireturn, 1) := dc_172 (bq_nm bk_X10_twelve_157 (j := 11) rfl rfl)
set_option maxRecDepth 20000 in
theorem bk_X10_part_0 : ((cX10_part.data.toList.drop 0).take 31).length = 31 ∧ eN (((cX10_part.data.toList.drop 0).take 31).map UInt8.toNat) = 307279552960524625091456478058936651560293972858365225068370179433632406043 := by decide +kernel
theorem dX10_part_0 : decode cX10_part 0 = .ok (.iload_n 1, 1) := dc_27 (bq_nm bk_X10_part_0 (j := 0) rfl rfl)
theorem dX10_part_1 : decode cX10_part 1 = .ok (.ifCond .ne 11, 3) := dc_154 (bq_nm bk_X10_part_0 (j := 1) rfl rfl) (bq_nm bk_X10_part_0 (j := 2) rfl rfl) (bq_nm bk_X10_part_0 (j := 3) rfl rfl) rfl
theorem dX10_part_4 : decode cX10_part 4 = .ok (.aload_n 0, 1) := dc_42 (bq_nm bk_X10_part_0 (j := 4) rfl rfl)
theorem dX10_part_5 : decode cX10_part 5 = .ok (.getfield 41, 3) := dc_180 (bq_nm bk_X10_part_0 (j := 5) rfl rfl) (bq_nm bk_X10_part_0 (j := 6) rfl rfl) (bq_nm bk_X10_part_0 (j := 7) rfl rfl) rfl
theorem dX10_part_8 : decode cX10_part 8 = .ok (.getfield 227, 3) := dc_180 (bq_nm bk_X10_part_0 (j := 8) rfl rfl) (bq_nm bk_X10_part_0 (j := 9) rfl rfl) (bq_nm bk_X10_part_0 (j := 10) rfl rfl) rfl
theorem dX10_part_11 : decode cX10_part 11 = .ok (.lreturn, 1) := dc_173 (bq_nm bk_X10_part_0 (j := 11) rfl rfl)
theorem dX10_part_12 : decode cX10_part 12 = .ok (.iload_n 1, 1) := dc_27 (bq_nm bk_X10_part_0 (j := 12) rfl rfl)
theorem dX10_part_13 : decode cX10_part 13 = .ok (.iconst 1, 1) := dc_4 (bq_nm bk_X10_part_0 (j := 13) rfl rfl)
theorem dX10_part_14 : decode cX10_part 14 = .ok (.if_icmp .ne 13, 3) := dc_160 (bq_nm bk_X10_part_0 (j := 14) rfl rfl) (bq_nm bk_X10_part_0 (j := 15) rfl rfl) (bq_nm bk_X10_part_0 (j := 16) rfl rfl) rfl
theorem dX10_part_17 : decode cX10_part 17 = .ok (.aload_n 0, 1) := dc_42 (bq_nm bk_X10_part_0 (j := 17) rfl rfl)
theorem dX10_part_18 : decode cX10_part 18 = .ok (.getfield 41, 3) := dc_180 (bq_nm bk_X10_part_0 (j := 18) rfl rfl) (bq_nm bk_X10_part_0 (j := 19) rfl rfl) (bq_nm bk_X10_part_0 (j := 20) rfl rfl) rfl
theorem dX10_part_21 : decode cX10_part 21 = .ok (.getfield 231, 3) := dc_180 (bq_nm bk_X10_part_0 (j := 21) rfl rfl) (bq_nm bk_X10_part_0 (j := 22) rfl rfl) (bq_nm bk_X10_part_0 (j := 23) rfl rfl) rfl
theorem dX10_part_24 : decode cX10_part 24 = .ok (.goto 6, 3) := dc_167 (bq_nm bk_X10_part_0 (j := 24) rfl rfl) (bq_nm bk_X10_part_0 (j := 25) rfl rfl) (bq_nm bk_X10_part_0 (j := 26) rfl rfl) rfl
theorem dX10_part_27 : decode cX10_part 27 = .ok (.ldc2_w 234, 3) := dc_20 (bq_nm bk_X10_part_0 (j := 27) rfl rfl) (bq_nm bk_X10_part_0 (j := 28) rfl rfl) (bq_nm bk_X10_part_0 (j := 29) rfl rfl) rfl
theorem dX10_part_30 : decode cX10_part 30 = .ok (.lreturn, 1) := dc_173 (bq_nm bk_X10_part_0 (j := 30) rfl rfl)
set_option maxRecDepth 20000 in
theorem bk_X10_beside_0 : ((cX10_beside.data.toList.drop 0).take 32).length = 32 ∧ eN (((cX10_beside.data.toList.drop 0).take 32).map UInt8.toNat) = 19302790811202423934768307944648573244161782322455193038217981155132051600426 := by decide +kernel
theorem dX10_beside_0 : decode cX10_beside 0 = .ok (.aload_n 0, 1) := dc_42 (bq_nm bk_X10_beside_0 (j := 0) rfl rfl)
theorem dX10_beside_1 : decode cX10_beside 1 = .ok (.getfield 20, 3) := dc_180 (bq_nm bk_X10_beside_0 (j := 1) rfl rfl) (bq_nm bk_X10_beside_0 (j := 2) rfl rfl) (bq_nm bk_X10_beside_0 (j := 3) rfl rfl) rfl
theorem dX10_beside_4 : decode cX10_beside 4 = .ok (.getfield 162, 3) := dc_180 (bq_nm bk_X10_beside_0 (j := 4) rfl rfl) (bq_nm bk_X10_beside_0 (j := 5) rfl rfl) (bq_nm bk_X10_beside_0 (j := 6) rfl rfl) rfl
theorem dX10_beside_7 : decode cX10_beside 7 = .ok (.iload_n 1, 1) := dc_27 (bq_nm bk_X10_beside_0 (j := 7) rfl rfl)
theorem dX10_beside_8 : decode cX10_beside 8 = .ok (.invokevirtual 75, 3) := dc_182 (bq_nm bk_X10_beside_0 (j := 8) rfl rfl) (bq_nm bk_X10_beside_0 (j := 9) rfl rfl) (bq_nm bk_X10_beside_0 (j := 10) rfl rfl) rfl
theorem dX10_beside_11 : decode cX10_beside 11 = .ok (.ifCond .eq 17, 3) := dc_153 (bq_nm bk_X10_beside_0 (j := 11) rfl rfl) (bq_nm bk_X10_beside_0 (j := 12) rfl rfl) (bq_nm bk_X10_beside_0 (j := 13) rfl rfl) rfl
theorem dX10_beside_14 : decode cX10_beside 14 = .ok (.iload_n 2, 1) := dc_28 (bq_nm bk_X10_beside_0 (j := 14) rfl rfl)
theorem dX10_beside_15 : decode cX10_beside 15 = .ok (.invokestatic 95, 3) := dc_184 (bq_nm bk_X10_beside_0 (j := 15) rfl rfl) (bq_nm bk_X10_beside_0 (j := 16) rfl rfl) (bq_nm bk_X10_beside_0 (j := 17) rfl rfl) rfl
theorem dX10_beside_18 : decode cX10_beside 18 = .ok (.ifCond .eq 10, 3) := dc_153 (bq_nm bk_X10_beside_0 (j := 18) rfl rfl) (bq_nm bk_X10_beside_0 (j := 19) rfl rfl) (bq_nm bk_X10_beside_0 (j := 20) rfl rfl) rfl
theorem dX10_beside_21 : decode cX10_beside 21 = .ok (.iload_n 3, 1) := dc_29 (bq_nm bk_X10_beside_0 (j := 21) rfl rfl)
theorem dX10_beside_22 : decode cX10_beside 22 = .ok (.invokestatic 131, 3) := dc_184 (bq_nm bk_X10_beside_0 (j := 22) rfl rfl) (bq_nm bk_X10_beside_0 (j := 23) rfl rfl) (bq_nm bk_X10_beside_0 (j := 24) rfl rfl) rfl
theorem dX10_beside_25 : decode cX10_beside 25 = .ok (.ifCond .ne 6, 3) := dc_154 (bq_nm bk_X10_beside_0 (j := 25) rfl rfl) (bq_nm bk_X10_beside_0 (j := 26) rfl rfl) (bq_nm bk_X10_beside_0 (j := 27) rfl rfl) rfl
theorem dX10_beside_28 : decode cX10_beside 28 = .ok (.bipush (-2), 2) := dc_16 (bq_nm bk_X10_beside_0 (j := 28) rfl rfl) (bq_nm bk_X10_beside_0 (j := 29) rfl rfl) rfl
theorem dX10_beside_30 : decode cX10_beside 30 = .ok (.ireturn, 1) := dc_172 (bq_nm bk_X10_beside_0 (j := 30) rfl rfl)
theorem dX10_beside_31 : decode cX10_beside 31 = .ok (.aload_n 0, 1) := dc_42 (bq_nm bk_X10_beside_0 (j := 31) rfl rfl)
set_option maxRecDepth 20000 in
theorem bk_X10_beside_32 : ((cX10_beside.data.toList.drop 32).take 32).length = 32 ∧ eN (((cX10_beside.data.toList.drop 32).take 32).map UInt8.toNat) = 5428997647877197061217450596989227123788742384706607139044719408445845143732 := by decide +kernel
theorem dX10_beside_32 : decode cX10_beside 32 = .ok (.getfield 20, 3) := dc_180 (bq_nm bk_X10_beside_32 (j := 0) rfl rfl) (bq_nm bk_X10_beside_32 (j := 1) rfl rfl) (bq_nm bk_X10_beside_32 (j := 2) rfl rfl) rfl
theorem dX10_beside_35 : decode cX10_beside 35 = .ok (.getfield 98, 3) := dc_180 (bq_nm bk_X10_beside_32 (j := 3) rfl rfl) (bq_nm bk_X10_beside_32 (j := 4) rfl rfl) (bq_nm bk_X10_beside_32 (j := 5) rfl rfl) rfl
theorem dX10_beside_38 : decode cX10_beside 38 = .ok (.iload_n 2, 1) := dc_28 (bq_nm bk_X10_beside_32 (j := 6) rfl rfl)
theorem dX10_beside_39 : decode cX10_beside 39 = .ok (.invokevirtual 102, 3) := dc_182 (bq_nm bk_X10_beside_32 (j := 7) rfl rfl) (bq_nm bk_X10_beside_32 (j := 8) rfl rfl) (bq_nm bk_X10_beside_32 (j := 9) rfl rfl) rfl
theorem dX10_beside_42 : decode cX10_beside 42 = .ok (.astore 4, 2) := dc_58 (bq_nm bk_X10_beside_32 (j := 10) rfl rfl) (bq_nm bk_X10_beside_32 (j := 11) rfl rfl)
theorem dX10_beside_44 : decode cX10_beside 44 = .ok (.aload_n 0, 1) := dc_42 (bq_nm bk_X10_beside_32 (j := 12) rfl rfl)
theorem dX10_beside_45 : decode cX10_beside 45 = .ok (.getfield 34, 3) := dc_180 (bq_nm bk_X10_beside_32 (j := 13) rfl rfl) (bq_nm bk_X10_beside_32 (j := 14) rfl rfl) (bq_nm bk_X10_beside_32 (j := 15) rfl rfl) rfl
theorem dX10_beside_48 : decode cX10_beside 48 = .ok (.aload 4, 2) := dc_25 (bq_nm bk_X10_beside_32 (j := 16) rfl rfl) (bq_nm bk_X10_beside_32 (j := 17) rfl rfl)
theorem dX10_beside_50 : decode cX10_beside 50 = .ok (.invokevirtual 116, 3) := dc_182 (bq_nm bk_X10_beside_32 (j := 18) rfl rfl) (bq_nm bk_X10_beside_32 (j := 19) rfl rfl) (bq_nm bk_X10_beside_32 (j := 20) rfl rfl) rfl
theorem dX10_beside_53 : decode cX10_beside 53 = .ok (.iconst (-1), 1) := dc_2 (bq_nm bk_X10_beside_32 (j := 21) rfl rfl)
theorem dX10_beside_54 : decode cX10_beside 54 = .ok (.if_icmp .eq 6, 3) := dc_159 (bq_nm bk_X10_beside_32 (j := 22) rfl rfl) (bq_nm bk_X10_beside_32 (j := 23) rfl rfl) (bq_nm bk_X10_beside_32 (j := 24) rfl rfl) rfl
theorem dX10_beside_57 : decode cX10_beside 57 = .ok (.bipush (-3), 2) := dc_16 (bq_nm bk_X10_beside_32 (j := 25) rfl rfl) (bq_nm bk_X10_beside_32 (j := 26) rfl rfl) rfl
theorem dX10_beside_59 : decode cX10_beside 59 = .ok (.ireturn, 1) := dc_172 (bq_nm bk_X10_beside_32 (j := 27) rfl rfl)
theorem dX10_beside_60 : decode cX10_beside 60 = .ok (.aload_n 0, 1) := dc_42 (bq_nm bk_X10_beside_32 (j := 28) rfl rfl)
theorem dX10_beside_61 : decode cX10_beside 61 = .ok (.getfield 12, 3) := dc_180 (bq_nm bk_X10_beside_32 (j := 29) rfl rfl) (bq_nm bk_X10_beside_32 (j := 30) rfl rfl) (bq_nm bk_X10_beside_32 (j := 31) rfl rfl) rfl
set_option maxRecDepth 20000 in
theorem bk_X10_beside_64 : ((cX10_beside.data.toList.drop 64).take 30).length = 30 ∧ eN (((cX10_beside.data.toList.drop 64).take 30).map UInt8.toNat) = 206513265537366654432607045734231253867166295701594931329816410510327990 := by decide +kernel
theorem dX10_beside_64 : decode cX10_beside 64 = .ok (.invokevirtual 124, 3) := dc_182 (bq_nm bk_X10_beside_64 (j := 0) rfl rfl) (bq_nm bk_X10_beside_64 (j := 1) rfl rfl) (bq_nm bk_X10_beside_64 (j := 2) rfl rfl) rfl
theorem dX10_beside_67 : decode cX10_beside 67 = .ok (.aload_n 0, 1) := dc_42 (bq_nm bk_X10_beside_64 (j := 3) rfl rfl)
theorem dX10_beside_68 : decode cX10_beside 68 = .ok (.getfield 20, 3) := dc_180 (bq_nm bk_X10_beside_64 (j := 4) rfl rfl) (bq_nm bk_X10_beside_64 (j := 5) rfl rfl) (bq_nm bk_X10_beside_64 (j := 6) rfl rfl) rfl
theorem dX10_beside_71 : decode cX10_beside 71 = .ok (.getfield 162, 3) := dc_180 (bq_nm bk_X10_beside_64 (j := 7) rfl rfl) (bq_nm bk_X10_beside_64 (j := 8) rfl rfl) (bq_nm bk_X10_beside_64 (j := 9) rfl rfl) rfl
theorem dX10_beside_74 : decode cX10_beside 74 = .ok (.iload_n 1, 1) := dc_27 (bq_nm bk_X10_beside_64 (j := 10) rfl rfl)
theorem dX10_beside_75 : decode cX10_beside 75 = .ok (.iconst 0, 1) := dc_3 (bq_nm bk_X10_beside_64 (j := 11) rfl rfl)
theorem dX10_beside_76 : decode cX10_beside 76 = .ok (.invokevirtual 144, 3) := dc_182 (bq_nm bk_X10_beside_64 (j := 12) rfl rfl) (bq_nm bk_X10_beside_64 (j := 13) rfl rfl) (bq_nm bk_X10_beside_64 (j := 14) rfl rfl) rfl
theorem dX10_beside_79 : decode cX10_beside 79 = .ok (.istore 5, 2) := dc_54 (bq_nm bk_X10_beside_64 (j := 15) rfl rfl) (bq_nm bk_X10_beside_64 (j := 16) rfl rfl)
theorem dX10_beside_81 : decode cX10_beside 81 = .ok (.aload_n 0, 1) := dc_42 (bq_nm bk_X10_beside_64 (j := 17) rfl rfl)
theorem dX10_beside_82 : decode cX10_beside 82 = .ok (.getfield 12, 3) := dc_180 (bq_nm bk_X10_beside_64 (j := 18) rfl rfl) (bq_nm bk_X10_beside_64 (j := 19) rfl rfl) (bq_nm bk_X10_beside_64 (j := 20) rfl rfl) rfl
theorem dX10_beside_85 : decode cX10_beside 85 = .ok (.iload_n 1, 1) := dc_27 (bq_nm bk_X10_beside_64 (j := 21) rfl rfl)
theorem dX10_beside_86 : decode cX10_beside 86 = .ok (.aload_n 0, 1) := dc_42 (bq_nm bk_X10_beside_64 (j := 22) rfl rfl)
theorem dX10_beside_87 : decode cX10_beside 87 = .ok (.getfield 12, 3) := dc_180 (bq_nm bk_X10_beside_64 (j := 23) rfl rfl) (bq_nm bk_X10_beside_64 (j := 24) rfl rfl) (bq_nm bk_X10_beside_64 (j := 25) rfl rfl) rfl
theorem dX10_beside_90 : decode cX10_beside 90 = .ok (.getfield 236, 3) := dc_180 (bq_nm bk_X10_beside_64 (j := 26) rfl rfl) (bq_nm bk_X10_beside_64 (j := 27) rfl rfl) (bq_nm bk_X10_beside_64 (j := 28) rfl rfl) rfl
theorem dX10_beside_93 : decode cX10_beside 93 = .ok (.iload_n 3, 1) := dc_29 (bq_nm bk_X10_beside_64 (j := 29) rfl rfl)
set_option maxRecDepth 20000 in
theorem bk_X10_beside_94 : ((cX10_beside.data.toList.drop 94).take 32).length = 32 ∧ eN (((cX10_beside.data.toList.drop 94).take 32).map UInt8.toNat) = 9047500419694838265341899153849805542951100553329325486810232386867870302362 := by decide +kernel
theorem dX10_beside_94 : decode cX10_beside 94 = .ok (.ifCond .ne 8, 3) := dc_154 (bq_nm bk_X10_beside_94 (j := 0) rfl rfl) (bq_nm bk_X10_beside_94 (j := 1) rfl rfl) (bq_nm bk_X10_beside_94 (j := 2) rfl rfl) rfl
theorem dX10_beside_97 : decode cX10_beside 97 = .ok (.aload 4, 2) := dc_25 (bq_nm bk_X10_beside_94 (j := 3) rfl rfl) (bq_nm bk_X10_beside_94 (j := 4) rfl rfl)
theorem dX10_beside_99 : decode cX10_beside 99 = .ok (.goto 13, 3) := dc_167 (bq_nm bk_X10_beside_94 (j := 5) rfl rfl) (bq_nm bk_X10_beside_94 (j := 6) rfl rfl) (bq_nm bk_X10_beside_94 (j := 7) rfl rfl) rfl
theorem dX10_beside_102 : decode cX10_beside 102 = .ok (.aload_n 0, 1) := dc_42 (bq_nm bk_X10_beside_94 (j := 8) rfl rfl)
theorem dX10_beside_103 : decode cX10_beside 103 = .ok (.getfield 20, 3) := dc_180 (bq_nm bk_X10_beside_94 (j := 9) rfl rfl) (bq_nm bk_X10_beside_94 (j := 10) rfl rfl) (bq_nm bk_X10_beside_94 (j := 11) rfl rfl) rfl
theorem dX10_beside_106 : decode cX10_beside 106 = .ok (.iconst 0, 1) := dc_3 (bq_nm bk_X10_beside_94 (j := 12) rfl rfl)
theorem dX10_beside_107 : decode cX10_beside 107 = .ok (.iload 5, 2) := dc_21 (bq_nm bk_X10_beside_94 (j := 13) rfl rfl) (bq_nm bk_X10_beside_94 (j := 14) rfl rfl)
theorem dX10_beside_109 : decode cX10_beside 109 = .ok (.invokevirtual 151, 3) := dc_182 (bq_nm bk_X10_beside_94 (j := 15) rfl rfl) (bq_nm bk_X10_beside_94 (j := 16) rfl rfl) (bq_nm bk_X10_beside_94 (j := 17) rfl rfl) rfl
theorem dX10_beside_112 : decode cX10_beside 112 = .ok (.iload_n 3, 1) := dc_29 (bq_nm bk_X10_beside_94 (j := 18) rfl rfl)
theorem dX10_beside_113 : decode cX10_beside 113 = .ok (.iconst 1, 1) := dc_4 (bq_nm bk_X10_beside_94 (j := 19) rfl rfl)
theorem dX10_beside_114 : decode cX10_beside 114 = .ok (.if_icmp .ne 8, 3) := dc_160 (bq_nm bk_X10_beside_94 (j := 20) rfl rfl) (bq_nm bk_X10_beside_94 (j := 21) rfl rfl) (bq_nm bk_X10_beside_94 (j := 22) rfl rfl) rfl
theorem dX10_beside_117 : decode cX10_beside 117 = .ok (.aload 4, 2) := dc_25 (bq_nm bk_X10_beside_94 (j := 23) rfl rfl) (bq_nm bk_X10_beside_94 (j := 24) rfl rfl)
theorem dX10_beside_119 : decode cX10_beside 119 = .ok (.goto 13, 3) := dc_167 (bq_nm bk_X10_beside_94 (j := 25) rfl rfl) (bq_nm bk_X10_beside_94 (j := 26) rfl rfl) (bq_nm bk_X10_beside_94 (j := 27) rfl rfl) rfl
theorem dX10_beside_122 : decode cX10_beside 122 = .ok (.aload_n 0, 1) := dc_42 (bq_nm bk_X10_beside_94 (j := 28) rfl rfl)
theorem dX10_beside_123 : decode cX10_beside 123 = .ok (.getfield 20, 3) := dc_180 (bq_nm bk_X10_beside_94 (j := 29) rfl rfl) (bq_nm bk_X10_beside_94 (j := 30) rfl rfl) (bq_nm bk_X10_beside_94 (j := 31) rfl rfl) rfl
set_option maxRecDepth 20000 in
theorem bk_X10_beside_126 : ((cX10_beside.data.toList.drop 126).take 32).length = 32 ∧ eN (((cX10_beside.data.toList.drop 126).take 32).map UInt8.toNat) = 78028797622109503788444485645923874872397120560853531405331397550333785085188 := by decide +kernel
theorem dX10_beside_126 : decode cX10_beside 126 = .ok (.iconst 1, 1) := dc_4 (bq_nm bk_X10_beside_126 (j := 0) rfl rfl)
theorem dX10_beside_127 : decode cX10_beside 127 = .ok (.iload 5, 2) := dc_21 (bq_nm bk_X10_beside_126 (j := 1) rfl rfl) (bq_nm bk_X10_beside_126 (j := 2) rfl rfl)
theorem dX10_beside_129 : decode cX10_beside 129 = .ok (.invokevirtual 151, 3) := dc_182 (bq_nm bk_X10_beside_126 (j := 3) rfl rfl) (bq_nm bk_X10_beside_126 (j := 4) rfl rfl) (bq_nm bk_X10_beside_126 (j := 5) rfl rfl) rfl
theorem dX10_beside_132 : decode cX10_beside 132 = .ok (.invokevirtual 240, 3) := dc_182 (bq_nm bk_X10_beside_126 (j := 6) rfl rfl) (bq_nm bk_X10_beside_126 (j := 7) rfl rfl) (bq_nm bk_X10_beside_126 (j := 8) rfl rfl) rfl
theorem dX10_beside_135 : decode cX10_beside 135 = .ok (.aload_n 0, 1) := dc_42 (bq_nm bk_X10_beside_126 (j := 9) rfl rfl)
theorem dX10_beside_136 : decode cX10_beside 136 = .ok (.getfield 12, 3) := dc_180 (bq_nm bk_X10_beside_126 (j := 10) rfl rfl) (bq_nm bk_X10_beside_126 (j := 11) rfl rfl) (bq_nm bk_X10_beside_126 (j := 12) rfl rfl) rfl
theorem dX10_beside_139 : decode cX10_beside 139 = .ok (.iload_n 1, 1) := dc_27 (bq_nm bk_X10_beside_126 (j := 13) rfl rfl)
theorem dX10_beside_140 : decode cX10_beside 140 = .ok (.invokevirtual 172, 3) := dc_182 (bq_nm bk_X10_beside_126 (j := 14) rfl rfl) (bq_nm bk_X10_beside_126 (j := 15) rfl rfl) (bq_nm bk_X10_beside_126 (j := 16) rfl rfl) rfl
theorem dX10_beside_143 : decode cX10_beside 143 = .ok (.getfield 188, 3) := dc_180 (bq_nm bk_X10_beside_126 (j := 17) rfl rfl) (bq_nm bk_X10_beside_126 (j := 18) rfl rfl) (bq_nm bk_X10_beside_126 (j := 19) rfl rfl) rfl
theorem dX10_beside_146 : decode cX10_beside 146 = .ok (.aload_n 0, 1) := dc_42 (bq_nm bk_X10_beside_126 (j := 20) rfl rfl)
theorem dX10_beside_147 : decode cX10_beside 147 = .ok (.getfield 12, 3) := dc_180 (bq_nm bk_X10_beside_126 (j := 21) rfl rfl) (bq_nm bk_X10_beside_126 (j := 22) rfl rfl) (bq_nm bk_X10_beside_126 (j := 23) rfl rfl) rfl
theorem dX10_beside_150 : decode cX10_beside 150 = .ok (.getfield 236, 3) := dc_180 (bq_nm bk_X10_beside_126 (j := 24) rfl rfl) (bq_nm bk_X10_beside_126 (j := 25) rfl rfl) (bq_nm bk_X10_beside_126 (j := 26) rfl rfl) rfl
theorem dX10_beside_153 : decode cX10_beside 153 = .ok (.getfield 188, 3) := dc_180 (bq_nm bk_X10_beside_126 (j := 27) rfl rfl) (bq_nm bk_X10_beside_126 (j := 28) rfl rfl) (bq_nm bk_X10_beside_126 (j := 29) rfl rfl) rfl
theorem dX10_beside_156 : decode cX10_beside 156 = .ok (.ixor, 1) := dc_130 (bq_nm bk_X10_beside_126 (j := 30) rfl rfl)
theorem dX10_beside_157 : decode cX10_beside 157 = .ok (.ireturn, 1) := dc_172 (bq_nm bk_X10_beside_126 (j := 31) rfl rfl)
set_option maxRecDepth 20000 in
theorem bk_X10_clash_0 : ((cX10_clash.data.toList.drop 0).take 30).length = 30 ∧ eN (((cX10_clash.data.toList.drop 0).take 30).map UInt8.toNat) = 27795772077890525853811319578762921515998094813576420967303289414887963 := by decide +kernel
theorem dX10_clash_0 : decode cX10_clash 0 = .ok (.iload_n 1, 1) := dc_27 (bq_nm bk_X10_clash_0 (j := 0) rfl rfl)
theorem dX10_clash_1 : decode cX10_clash 1 = .ok (.aload_n 0, 1) := dc_42 (bq_nm bk_X10_clash_0 (j := 1) rfl rfl)
theorem dX10_clash_2 : decode cX10_clash 2 = .ok (.getfield 20, 3) := dc_180 (bq_nm bk_X10_clash_0 (j := 2) rfl rfl) (bq_nm bk_X10_clash_0 (j := 3) rfl rfl) (bq_nm bk_X10_clash_0 (j := 4) rfl rfl) rfl
theorem dX10_clash_5 : decode cX10_clash 5 = .ok (.getfield 162, 3) := dc_180 (bq_nm bk_X10_clash_0 (j := 5) rfl rfl) (bq_nm bk_X10_clash_0 (j := 6) rfl rfl) (bq_nm bk_X10_clash_0 (j := 7) rfl rfl) rfl
theorem dX10_clash_8 : decode cX10_clash 8 = .ok (.invokevirtual 195, 3) := dc_182 (bq_nm bk_X10_clash_0 (j := 8) rfl rfl) (bq_nm bk_X10_clash_0 (j := 9) rfl rfl) (bq_nm bk_X10_clash_0 (j := 10) rfl rfl) rfl
theorem dX10_clash_11 : decode cX10_clash 11 = .ok (.invokestatic 244, 3) := dc_184 (bq_nm bk_X10_clash_0 (j := 11) rfl rfl) (bq_nm bk_X10_clash_0 (j := 12) rfl rfl) (bq_nm bk_X10_clash_0 (j := 13) rfl rfl) rfl
theorem dX10_clash_14 : decode cX10_clash 14 = .ok (.iconst (-1), 1) := dc_2 (bq_nm bk_X10_clash_0 (j := 14) rfl rfl)
theorem dX10_clash_15 : decode cX10_clash 15 = .ok (.ixor, 1) := dc_130 (bq_nm bk_X10_clash_0 (j := 15) rfl rfl)
theorem dX10_clash_16 : decode cX10_clash 16 = .ok (.iand, 1) := dc_126 (bq_nm bk_X10_clash_0 (j := 16) rfl rfl)
theorem dX10_clash_17 : decode cX10_clash 17 = .ok (.ifCond .ne 16, 3) := dc_154 (bq_nm bk_X10_clash_0 (j := 17) rfl rfl) (bq_nm bk_X10_clash_0 (j := 18) rfl rfl) (bq_nm bk_X10_clash_0 (j := 19) rfl rfl) rfl
theorem dX10_clash_20 : decode cX10_clash 20 = .ok (.iload_n 1, 1) := dc_27 (bq_nm bk_X10_clash_0 (j := 20) rfl rfl)
theorem dX10_clash_21 : decode cX10_clash 21 = .ok (.invokestatic 222, 3) := dc_184 (bq_nm bk_X10_clash_0 (j := 21) rfl rfl) (bq_nm bk_X10_clash_0 (j := 22) rfl rfl) (bq_nm bk_X10_clash_0 (j := 23) rfl rfl) rfl
theorem dX10_clash_24 : decode cX10_clash 24 = .ok (.bipush 6, 2) := dc_16 (bq_nm bk_X10_clash_0 (j := 24) rfl rfl) (bq_nm bk_X10_clash_0 (j := 25) rfl rfl) rfl
theorem dX10_clash_26 : decode cX10_clash 26 = .ok (.if_icmp .gt 7, 3) := dc_163 (bq_nm bk_X10_clash_0 (j := 26) rfl rfl) (bq_nm bk_X10_clash_0 (j := 27) rfl rfl) (bq_nm bk_X10_clash_0 (j := 28) rfl rfl) rfl
theorem dX10_clash_29 : decode cX10_clash 29 = .ok (.iconst 1, 1) := dc_4 (bq_nm bk_X10_clash_0 (j := 29) rfl rfl)
set_option maxRecDepth 20000 in
theorem bk_X10_clash_30 : ((cX10_clash.data.toList.drop 30).take 32).length = 32 ∧ eN (((cX10_clash.data.toList.drop 30).take 32).map UInt8.toNat) = 3167250355740862128479930627663580436924714892140898380711847095476452327591 := by decide +kernel
theorem dX10_clash_30 : decode cX10_clash 30 = .ok (.goto 4, 3) := dc_167 (bq_nm bk_X10_clash_30 (j := 0) rfl rfl) (bq_nm bk_X10_clash_30 (j := 1) rfl rfl) (bq_nm bk_X10_clash_30 (j := 2) rfl rfl) rfl
theorem dX10_clash_33 : decode cX10_clash 33 = .ok (.iconst 0, 1) := dc_3 (bq_nm bk_X10_clash_30 (j := 3) rfl rfl)
theorem dX10_clash_34 : decode cX10_clash 34 = .ok (.istore_n 3, 1) := dc_62 (bq_nm bk_X10_clash_30 (j := 4) rfl rfl)
theorem dX10_clash_35 : decode cX10_clash 35 = .ok (.iload_n 2, 1) := dc_28 (bq_nm bk_X10_clash_30 (j := 5) rfl rfl)
theorem dX10_clash_36 : decode cX10_clash 36 = .ok (.iconst (-1), 1) := dc_2 (bq_nm bk_X10_clash_30 (j := 6) rfl rfl)
theorem dX10_clash_37 : decode cX10_clash 37 = .ok (.if_icmp .eq 25, 3) := dc_159 (bq_nm bk_X10_clash_30 (j := 7) rfl rfl) (bq_nm bk_X10_clash_30 (j := 8) rfl rfl) (bq_nm bk_X10_clash_30 (j := 9) rfl rfl) rfl
theorem dX10_clash_40 : decode cX10_clash 40 = .ok (.aload_n 0, 1) := dc_42 (bq_nm bk_X10_clash_30 (j := 10) rfl rfl)
theorem dX10_clash_41 : decode cX10_clash 41 = .ok (.getfield 20, 3) := dc_180 (bq_nm bk_X10_clash_30 (j := 11) rfl rfl) (bq_nm bk_X10_clash_30 (j := 12) rfl rfl) (bq_nm bk_X10_clash_30 (j := 13) rfl rfl) rfl
theorem dX10_clash_44 : decode cX10_clash 44 = .ok (.getfield 162, 3) := dc_180 (bq_nm bk_X10_clash_30 (j := 14) rfl rfl) (bq_nm bk_X10_clash_30 (j := 15) rfl rfl) (bq_nm bk_X10_clash_30 (j := 16) rfl rfl) rfl
theorem dX10_clash_47 : decode cX10_clash 47 = .ok (.iload_n 2, 1) := dc_28 (bq_nm bk_X10_clash_30 (j := 17) rfl rfl)
theorem dX10_clash_48 : decode cX10_clash 48 = .ok (.invokevirtual 75, 3) := dc_182 (bq_nm bk_X10_clash_30 (j := 18) rfl rfl) (bq_nm bk_X10_clash_30 (j := 19) rfl rfl) (bq_nm bk_X10_clash_30 (j := 20) rfl rfl) rfl
theorem dX10_clash_51 : decode cX10_clash 51 = .ok (.ifCond .eq 15, 3) := dc_153 (bq_nm bk_X10_clash_30 (j := 21) rfl rfl) (bq_nm bk_X10_clash_30 (j := 22) rfl rfl) (bq_nm bk_X10_clash_30 (j := 23) rfl rfl) rfl
theorem dX10_clash_54 : decode cX10_clash 54 = .ok (.iload_n 1, 1) := dc_27 (bq_nm bk_X10_clash_30 (j := 24) rfl rfl)
theorem dX10_clash_55 : decode cX10_clash 55 = .ok (.iload_n 2, 1) := dc_28 (bq_nm bk_X10_clash_30 (j := 25) rfl rfl)
theorem dX10_clash_56 : decode cX10_clash 56 = .ok (.invokestatic 165, 3) := dc_184 (bq_nm bk_X10_clash_30 (j := 26) rfl rfl) (bq_nm bk_X10_clash_30 (j := 27) rfl rfl) (bq_nm bk_X10_clash_30 (j := 28) rfl rfl) rfl
theorem dX10_clash_59 : decode cX10_clash 59 = .ok (.ifCond .eq 7, 3) := dc_153 (bq_nm bk_X10_clash_30 (j := 29) rfl rfl) (bq_nm bk_X10_clash_30 (j := 30) rfl rfl) (bq_nm bk_X10_clash_30 (j := 31) rfl rfl) rfl
set_option maxRecDepth 20000 in
theorem bk_X10_clash_62 : ((cX10_clash.data.toList.drop 62).take 32).length = 32 ∧ eN (((cX10_clash.data.toList.drop 62).take 32).map UInt8.toNat) = 19433555775059403191253529034123610151551256208943019202596959907040559408900 := by decide +kernel
theorem dX10_clash_62 : decode cX10_clash 62 = .ok (.iconst 1, 1) := dc_4 (bq_nm bk_X10_clash_62 (j := 0) rfl rfl)
theorem dX10_clash_63 : decode cX10_clash 63 = .ok (.goto 4, 3) := dc_167 (bq_nm bk_X10_clash_62 (j := 1) rfl rfl) (bq_nm bk_X10_clash_62 (j := 2) rfl rfl) (bq_nm bk_X10_clash_62 (j := 3) rfl rfl) rfl
theorem dX10_clash_66 : decode cX10_clash 66 = .ok (.iconst 0, 1) := dc_3 (bq_nm bk_X10_clash_62 (j := 4) rfl rfl)
theorem dX10_clash_67 : decode cX10_clash 67 = .ok (.istore 4, 2) := dc_54 (bq_nm bk_X10_clash_62 (j := 5) rfl rfl) (bq_nm bk_X10_clash_62 (j := 6) rfl rfl)
theorem dX10_clash_69 : decode cX10_clash 69 = .ok (.iload_n 3, 1) := dc_29 (bq_nm bk_X10_clash_62 (j := 7) rfl rfl)
theorem dX10_clash_70 : decode cX10_clash 70 = .ok (.ifCond .eq 8, 3) := dc_153 (bq_nm bk_X10_clash_62 (j := 8) rfl rfl) (bq_nm bk_X10_clash_62 (j := 9) rfl rfl) (bq_nm bk_X10_clash_62 (j := 10) rfl rfl) rfl
theorem dX10_clash_73 : decode cX10_clash 73 = .ok (.iload 4, 2) := dc_21 (bq_nm bk_X10_clash_62 (j := 11) rfl rfl) (bq_nm bk_X10_clash_62 (j := 12) rfl rfl)
theorem dX10_clash_75 : decode cX10_clash 75 = .ok (.ifCond .ne 6, 3) := dc_154 (bq_nm bk_X10_clash_62 (j := 13) rfl rfl) (bq_nm bk_X10_clash_62 (j := 14) rfl rfl) (bq_nm bk_X10_clash_62 (j := 15) rfl rfl) rfl
theorem dX10_clash_78 : decode cX10_clash 78 = .ok (.bipush (-10), 2) := dc_16 (bq_nm bk_X10_clash_62 (j := 16) rfl rfl) (bq_nm bk_X10_clash_62 (j := 17) rfl rfl) rfl
theorem dX10_clash_80 : decode cX10_clash 80 = .ok (.ireturn, 1) := dc_172 (bq_nm bk_X10_clash_62 (j := 18) rfl rfl)
theorem dX10_clash_81 : decode cX10_clash 81 = .ok (.aload_n 0, 1) := dc_42 (bq_nm bk_X10_clash_62 (j := 19) rfl rfl)
theorem dX10_clash_82 : decode cX10_clash 82 = .ok (.getfield 48, 3) := dc_180 (bq_nm bk_X10_clash_62 (j := 20) rfl rfl) (bq_nm bk_X10_clash_62 (j := 21) rfl rfl) (bq_nm bk_X10_clash_62 (j := 22) rfl rfl) rfl
theorem dX10_clash_85 : decode cX10_clash 85 = .ok (.aload_n 0, 1) := dc_42 (bq_nm bk_X10_clash_62 (j := 23) rfl rfl)
theorem dX10_clash_86 : decode cX10_clash 86 = .ok (.getfield 20, 3) := dc_180 (bq_nm bk_X10_clash_62 (j := 24) rfl rfl) (bq_nm bk_X10_clash_62 (j := 25) rfl rfl) (bq_nm bk_X10_clash_62 (j := 26) rfl rfl) rfl
theorem dX10_clash_89 : decode cX10_clash 89 = .ok (.iload_n 1, 1) := dc_27 (bq_nm bk_X10_clash_62 (j := 27) rfl rfl)
theorem dX10_clash_90 : decode cX10_clash 90 = .ok (.invokevirtual 247, 3) := dc_182 (bq_nm bk_X10_clash_62 (j := 28) rfl rfl) (bq_nm bk_X10_clash_62 (j := 29) rfl rfl) (bq_nm bk_X10_clash_62 (j := 30) rfl rfl) rfl
theorem dX10_clash_93 : decode cX10_clash 93 = .ok (.aload_n 0, 1) := dc_42 (bq_nm bk_X10_clash_62 (j := 31) rfl rfl)
set_option maxRecDepth 20000 in
theorem bk_X10_clash_94 : ((cX10_clash.data.toList.drop 94).take 32).length = 32 ∧ eN (((cX10_clash.data.toList.drop 94).take 32).map UInt8.toNat) = 21712260180658172439653941236687572872846980280404059408811223997191942045876 := by decide +kernel
theorem dX10_clash_94 : decode cX10_clash 94 = .ok (.getfield 48, 3) := dc_180 (bq_nm bk_X10_clash_94 (j := 0) rfl rfl) (bq_nm bk_X10_clash_94 (j := 1) rfl rfl) (bq_nm bk_X10_clash_94 (j := 2) rfl rfl) rfl
theorem dX10_clash_97 : decode cX10_clash 97 = .ok (.getfield 251, 3) := dc_180 (bq_nm bk_X10_clash_94 (j := 3) rfl rfl) (bq_nm bk_X10_clash_94 (j := 4) rfl rfl) (bq_nm bk_X10_clash_94 (j := 5) rfl rfl) rfl
theorem dX10_clash_100 : decode cX10_clash 100 = .ok (.iconst (-1), 1) := dc_2 (bq_nm bk_X10_clash_94 (j := 6) rfl rfl)
theorem dX10_clash_101 : decode cX10_clash 101 = .ok (.if_icmp .ne 6, 3) := dc_160 (bq_nm bk_X10_clash_94 (j := 7) rfl rfl) (bq_nm bk_X10_clash_94 (j := 8) rfl rfl) (bq_nm bk_X10_clash_94 (j := 9) rfl rfl) rfl
theorem dX10_clash_104 : decode cX10_clash 104 = .ok (.bipush (-5), 2) := dc_16 (bq_nm bk_X10_clash_94 (j := 10) rfl rfl) (bq_nm bk_X10_clash_94 (j := 11) rfl rfl) rfl
theorem dX10_clash_106 : decode cX10_clash 106 = .ok (.ireturn, 1) := dc_172 (bq_nm bk_X10_clash_94 (j := 12) rfl rfl)
theorem dX10_clash_107 : decode cX10_clash 107 = .ok (.iload_n 2, 1) := dc_28 (bq_nm bk_X10_clash_94 (j := 13) rfl rfl)
theorem dX10_clash_108 : decode cX10_clash 108 = .ok (.iconst (-1), 1) := dc_2 (bq_nm bk_X10_clash_94 (j := 14) rfl rfl)
theorem dX10_clash_109 : decode cX10_clash 109 = .ok (.if_icmp .ne 13, 3) := dc_160 (bq_nm bk_X10_clash_94 (j := 15) rfl rfl) (bq_nm bk_X10_clash_94 (j := 16) rfl rfl) (bq_nm bk_X10_clash_94 (j := 17) rfl rfl) rfl
theorem dX10_clash_112 : decode cX10_clash 112 = .ok (.aload_n 0, 1) := dc_42 (bq_nm bk_X10_clash_94 (j := 18) rfl rfl)
theorem dX10_clash_113 : decode cX10_clash 113 = .ok (.getfield 48, 3) := dc_180 (bq_nm bk_X10_clash_94 (j := 19) rfl rfl) (bq_nm bk_X10_clash_94 (j := 20) rfl rfl) (bq_nm bk_X10_clash_94 (j := 21) rfl rfl) rfl
theorem dX10_clash_116 : decode cX10_clash 116 = .ok (.getfield 251, 3) := dc_180 (bq_nm bk_X10_clash_94 (j := 22) rfl rfl) (bq_nm bk_X10_clash_94 (j := 23) rfl rfl) (bq_nm bk_X10_clash_94 (j := 24) rfl rfl) rfl
theorem dX10_clash_119 : decode cX10_clash 119 = .ok (.goto 19, 3) := dc_167 (bq_nm bk_X10_clash_94 (j := 25) rfl rfl) (bq_nm bk_X10_clash_94 (j := 26) rfl rfl) (bq_nm bk_X10_clash_94 (j := 27) rfl rfl) rfl
theorem dX10_clash_122 : decode cX10_clash 122 = .ok (.aload_n 0, 1) := dc_42 (bq_nm bk_X10_clash_94 (j := 28) rfl rfl)
theorem dX10_clash_123 : decode cX10_clash 123 = .ok (.getfield 48, 3) := dc_180 (bq_nm bk_X10_clash_94 (j := 29) rfl rfl) (bq_nm bk_X10_clash_94 (j := 30) rfl rfl) (bq_nm bk_X10_clash_94 (j := 31) rfl rfl) rfl
set_option maxRecDepth 20000 in
theorem bk_X10_clash_126 : ((cX10_clash.data.toList.drop 126).take 13).length = 13 ∧ eN (((cX10_clash.data.toList.drop 126).take 13).map UInt8.toNat) = 13705854008514016711166767143963 := by decide +kernel
theorem dX10_clash_126 : decode cX10_clash 126 = .ok (.iload_n 1, 1) := dc_27 (bq_nm bk_X10_clash_126 (j := 0) rfl rfl)
theorem dX10_clash_127 : decode cX10_clash 127 = .ok (.iload_n 2, 1) := dc_28 (bq_nm bk_X10_clash_126 (j := 1) rfl rfl)
theorem dX10_clash_128 : decode cX10_clash 128 = .ok (.invokestatic 244, 3) := dc_184 (bq_nm bk_X10_clash_126 (j := 2) rfl rfl) (bq_nm bk_X10_clash_126 (j := 3) rfl rfl) (bq_nm bk_X10_clash_126 (j := 4) rfl rfl) rfl
theorem dX10_clash_131 : decode cX10_clash 131 = .ok (.iand, 1) := dc_126 (bq_nm bk_X10_clash_126 (j := 5) rfl rfl)
theorem dX10_clash_132 : decode cX10_clash 132 = .ok (.invokestatic 222, 3) := dc_184 (bq_nm bk_X10_clash_126 (j := 6) rfl rfl) (bq_nm bk_X10_clash_126 (j := 7) rfl rfl) (bq_nm bk_X10_clash_126 (j := 8) rfl rfl) rfl
theorem dX10_clash_135 : decode cX10_clash 135 = .ok (.invokevirtual 254, 3) := dc_182 (bq_nm bk_X10_clash_126 (j := 9) rfl rfl) (bq_nm bk_X10_clash_126 (j := 10) rfl rfl) (bq_nm bk_X10_clash_126 (j := 11) rfl rfl) rfl
theorem dX10_clash_138 : decode cX10_clash 138 = .ok (.ireturn, 1) := dc_172 (bq_nm bk_X10_clash_126 (j := 12) rfl rfl)
set_option maxRecDepth 20000 in
theorem bk_X10_turn_0 : ((cX10_turn.data.toList.drop 0).take 31).length = 31 ∧ eN (((cX10_turn.data.toList.drop 0).take 31).map UInt8.toNat) = 49609771714420135477512058971134585996871015914278069212165861209631228699 := by decide +kernel
theorem dX10_turn_0 : decode cX10_turn 0 = .ok (.iload_n 1, 1) := dc_27 (bq_nm bk_X10_turn_0 (j := 0) rfl rfl)
theorem dX10_turn_1 : decode cX10_turn 1 = .ok (.iconst 0, 1) := dc_3 (bq_nm bk_X10_turn_0 (j := 1) rfl rfl)
theorem dX10_turn_2 : decode cX10_turn 2 = .ok (.iconst 3, 1) := dc_6 (bq_nm bk_X10_turn_0 (j := 2) rfl rfl)
theorem dX10_turn_3 : decode cX10_turn 3 = .ok (.invokestatic 53, 3) := dc_184 (bq_nm bk_X10_turn_0 (j := 3) rfl rfl) (bq_nm bk_X10_turn_0 (j := 4) rfl rfl) (bq_nm bk_X10_turn_0 (j := 5) rfl rfl) rfl
theorem dX10_turn_6 : decode cX10_turn 6 = .ok (.ifCond .eq 10, 3) := dc_153 (bq_nm bk_X10_turn_0 (j := 6) rfl rfl) (bq_nm bk_X10_turn_0 (j := 7) rfl rfl) (bq_nm bk_X10_turn_0 (j := 8) rfl rfl) rfl
theorem dX10_turn_9 : decode cX10_turn 9 = .ok (.iload_n 2, 1) := dc_28 (bq_nm bk_X10_turn_0 (j := 9) rfl rfl)
theorem dX10_turn_10 : decode cX10_turn 10 = .ok (.invokestatic 79, 3) := dc_184 (bq_nm bk_X10_turn_0 (j := 10) rfl rfl) (bq_nm bk_X10_turn_0 (j := 11) rfl rfl) (bq_nm bk_X10_turn_0 (j := 12) rfl rfl) rfl
theorem dX10_turn_13 : decode cX10_turn 13 = .ok (.ifCond .ne 6, 3) := dc_154 (bq_nm bk_X10_turn_0 (j := 13) rfl rfl) (bq_nm bk_X10_turn_0 (j := 14) rfl rfl) (bq_nm bk_X10_turn_0 (j := 15) rfl rfl) rfl
theorem dX10_turn_16 : decode cX10_turn 16 = .ok (.bipush (-2), 2) := dc_16 (bq_nm bk_X10_turn_0 (j := 16) rfl rfl) (bq_nm bk_X10_turn_0 (j := 17) rfl rfl) rfl
theorem dX10_turn_18 : decode cX10_turn 18 = .ok (.ireturn, 1) := dc_172 (bq_nm bk_X10_turn_0 (j := 18) rfl rfl)
theorem dX10_turn_19 : decode cX10_turn 19 = .ok (.aload_n 0, 1) := dc_42 (bq_nm bk_X10_turn_0 (j := 19) rfl rfl)
theorem dX10_turn_20 : decode cX10_turn 20 = .ok (.getfield 12, 3) := dc_180 (bq_nm bk_X10_turn_0 (j := 20) rfl rfl) (bq_nm bk_X10_turn_0 (j := 21) rfl rfl) (bq_nm bk_X10_turn_0 (j := 22) rfl rfl) rfl
theorem dX10_turn_23 : decode cX10_turn 23 = .ok (.invokevirtual 124, 3) := dc_182 (bq_nm bk_X10_turn_0 (j := 23) rfl rfl) (bq_nm bk_X10_turn_0 (j := 24) rfl rfl) (bq_nm bk_X10_turn_0 (j := 25) rfl rfl) rfl
theorem dX10_turn_26 : decode cX10_turn 26 = .ok (.aload_n 0, 1) := dc_42 (bq_nm bk_X10_turn_0 (j := 26) rfl rfl)
theorem dX10_turn_27 : decode cX10_turn 27 = .ok (.getfield 20, 3) := dc_180 (bq_nm bk_X10_turn_0 (j := 27) rfl rfl) (bq_nm bk_X10_turn_0 (j := 28) rfl rfl) (bq_nm bk_X10_turn_0 (j := 29) rfl rfl) rfl
theorem dX10_turn_30 : decode cX10_turn 30 = .ok (.iload_n 2, 1) := dc_28 (bq_nm bk_X10_turn_0 (j := 30) rfl rfl)
set_option maxRecDepth 20000 in
theorem bk_X10_turn_31 : ((cX10_turn.data.toList.drop 31).take 32).length = 32 ∧ eN (((cX10_turn.data.toList.drop 31).take 32).map UInt8.toNat) = 1623737362191639058619584793708438561382313030033930464784524339184133669046 := by decide +kernel
theorem dX10_turn_31 : decode cX10_turn 31 = .ok (.invokevirtual 91, 3) := dc_182 (bq_nm bk_X10_turn_31 (j := 0) rfl rfl) (bq_nm bk_X10_turn_31 (j := 1) rfl rfl) (bq_nm bk_X10_turn_31 (j := 2) rfl rfl) rfl
theorem dX10_turn_34 : decode cX10_turn 34 = .ok (.aload_n 0, 1) := dc_42 (bq_nm bk_X10_turn_31 (j := 3) rfl rfl)
theorem dX10_turn_35 : decode cX10_turn 35 = .ok (.getfield 20, 3) := dc_180 (bq_nm bk_X10_turn_31 (j := 4) rfl rfl) (bq_nm bk_X10_turn_31 (j := 5) rfl rfl) (bq_nm bk_X10_turn_31 (j := 6) rfl rfl) rfl
theorem dX10_turn_38 : decode cX10_turn 38 = .ok (.iconst 0, 1) := dc_3 (bq_nm bk_X10_turn_31 (j := 7) rfl rfl)
theorem dX10_turn_39 : decode cX10_turn 39 = .ok (.iload_n 1, 1) := dc_27 (bq_nm bk_X10_turn_31 (j := 8) rfl rfl)
theorem dX10_turn_40 : decode cX10_turn 40 = .ok (.invokevirtual 219, 3) := dc_182 (bq_nm bk_X10_turn_31 (j := 9) rfl rfl) (bq_nm bk_X10_turn_31 (j := 10) rfl rfl) (bq_nm bk_X10_turn_31 (j := 11) rfl rfl) rfl
theorem dX10_turn_43 : decode cX10_turn 43 = .ok (.iand, 1) := dc_126 (bq_nm bk_X10_turn_31 (j := 12) rfl rfl)
theorem dX10_turn_44 : decode cX10_turn 44 = .ok (.istore_n 3, 1) := dc_62 (bq_nm bk_X10_turn_31 (j := 13) rfl rfl)
theorem dX10_turn_45 : decode cX10_turn 45 = .ok (.aload_n 0, 1) := dc_42 (bq_nm bk_X10_turn_31 (j := 14) rfl rfl)
theorem dX10_turn_46 : decode cX10_turn 46 = .ok (.getfield 12, 3) := dc_180 (bq_nm bk_X10_turn_31 (j := 15) rfl rfl) (bq_nm bk_X10_turn_31 (j := 16) rfl rfl) (bq_nm bk_X10_turn_31 (j := 17) rfl rfl) rfl
theorem dX10_turn_49 : decode cX10_turn 49 = .ok (.aload_n 0, 1) := dc_42 (bq_nm bk_X10_turn_31 (j := 18) rfl rfl)
theorem dX10_turn_50 : decode cX10_turn 50 = .ok (.getfield 12, 3) := dc_180 (bq_nm bk_X10_turn_31 (j := 19) rfl rfl) (bq_nm bk_X10_turn_31 (j := 20) rfl rfl) (bq_nm bk_X10_turn_31 (j := 21) rfl rfl) rfl
theorem dX10_turn_53 : decode cX10_turn 53 = .ok (.aload_n 0, 1) := dc_42 (bq_nm bk_X10_turn_31 (j := 22) rfl rfl)
theorem dX10_turn_54 : decode cX10_turn 54 = .ok (.getfield 20, 3) := dc_180 (bq_nm bk_X10_turn_31 (j := 23) rfl rfl) (bq_nm bk_X10_turn_31 (j := 24) rfl rfl) (bq_nm bk_X10_turn_31 (j := 25) rfl rfl) rfl
theorem dX10_turn_57 : decode cX10_turn 57 = .ok (.iconst 0, 1) := dc_3 (bq_nm bk_X10_turn_31 (j := 26) rfl rfl)
theorem dX10_turn_58 : decode cX10_turn 58 = .ok (.iload_n 2, 1) := dc_28 (bq_nm bk_X10_turn_31 (j := 27) rfl rfl)
theorem dX10_turn_59 : decode cX10_turn 59 = .ok (.invokevirtual 151, 3) := dc_182 (bq_nm bk_X10_turn_31 (j := 28) rfl rfl) (bq_nm bk_X10_turn_31 (j := 29) rfl rfl) (bq_nm bk_X10_turn_31 (j := 30) rfl rfl) rfl
theorem dX10_turn_62 : decode cX10_turn 62 = .ok (.iconst 0, 1) := dc_3 (bq_nm bk_X10_turn_31 (j := 31) rfl rfl)
set_option maxRecDepth 20000 in
theorem bk_X10_turn_63 : ((cX10_turn.data.toList.drop 63).take 10).length = 10 ∧ eN (((cX10_turn.data.toList.drop 63).take 10).map UInt8.toNat) = 812265605115144543018268 := by decide +kernel
theorem dX10_turn_63 : decode cX10_turn 63 = .ok (.iload_n 2, 1) := dc_28 (bq_nm bk_X10_turn_63 (j := 0) rfl rfl)
theorem dX10_turn_64 : decode cX10_turn 64 = .ok (.iload_n 3, 1) := dc_29 (bq_nm bk_X10_turn_63 (j := 1) rfl rfl)
theorem dX10_turn_65 : decode cX10_turn 65 = .ok (.invokevirtual 155, 3) := dc_182 (bq_nm bk_X10_turn_63 (j := 2) rfl rfl) (bq_nm bk_X10_turn_63 (j := 3) rfl rfl) (bq_nm bk_X10_turn_63 (j := 4) rfl rfl) rfl
theorem dX10_turn_68 : decode cX10_turn 68 = .ok (.iload_n 2, 1) := dc_28 (bq_nm bk_X10_turn_63 (j := 5) rfl rfl)
theorem dX10_turn_69 : decode cX10_turn 69 = .ok (.invokevirtual 257, 3) := dc_182 (bq_nm bk_X10_turn_63 (j := 6) rfl rfl) (bq_nm bk_X10_turn_63 (j := 7) rfl rfl) (bq_nm bk_X10_turn_63 (j := 8) rfl rfl) rfl
theorem dX10_turn_72 : decode cX10_turn 72 = .ok (.ireturn, 1) := dc_172 (bq_nm bk_X10_turn_63 (j := 9) rfl rfl)
set_option maxRecDepth 20000 in
theorem bk_X10_image_0 : ((cX10_image.data.toList.drop 0).take 32).length = 32 ∧ eN (((cX10_image.data.toList.drop 0).take 32).map UInt8.toNat) = 38001533744397528740594777480779795875200511562794222847841032298104927552283 := by decide +kernel
theorem dX10_image_0 : decode cX10_image 0 = .ok (.iload_n 1, 1) := dc_27 (bq_nm bk_X10_image_0 (j := 0) rfl rfl)
theorem dX10_image_1 : decode cX10_image 1 = .ok (.iconst 0, 1) := dc_3 (bq_nm bk_X10_image_0 (j := 1) rfl rfl)
theorem dX10_image_2 : decode cX10_image 2 = .ok (.iconst 1, 1) := dc_4 (bq_nm bk_X10_image_0 (j := 2) rfl rfl)
theorem dX10_image_3 : decode cX10_image 3 = .ok (.invokestatic 53, 3) := dc_184 (bq_nm bk_X10_image_0 (j := 3) rfl rfl) (bq_nm bk_X10_image_0 (j := 4) rfl rfl) (bq_nm bk_X10_image_0 (j := 5) rfl rfl) rfl
theorem dX10_image_6 : decode cX10_image 6 = .ok (.ifCond .ne 6, 3) := dc_154 (bq_nm bk_X10_image_0 (j := 6) rfl rfl) (bq_nm bk_X10_image_0 (j := 7) rfl rfl) (bq_nm bk_X10_image_0 (j := 8) rfl rfl) rfl
theorem dX10_image_9 : decode cX10_image 9 = .ok (.bipush (-2), 2) := dc_16 (bq_nm bk_X10_image_0 (j := 9) rfl rfl) (bq_nm bk_X10_image_0 (j := 10) rfl rfl) rfl
theorem dX10_image_11 : decode cX10_image 11 = .ok (.ireturn, 1) := dc_172 (bq_nm bk_X10_image_0 (j := 11) rfl rfl)
theorem dX10_image_12 : decode cX10_image 12 = .ok (.aload_n 0, 1) := dc_42 (bq_nm bk_X10_image_0 (j := 12) rfl rfl)
theorem dX10_image_13 : decode cX10_image 13 = .ok (.getfield 23, 3) := dc_180 (bq_nm bk_X10_image_0 (j := 13) rfl rfl) (bq_nm bk_X10_image_0 (j := 14) rfl rfl) (bq_nm bk_X10_image_0 (j := 15) rfl rfl) rfl
theorem dX10_image_16 : decode cX10_image 16 = .ok (.iload_n 1, 1) := dc_27 (bq_nm bk_X10_image_0 (j := 16) rfl rfl)
theorem dX10_image_17 : decode cX10_image 17 = .ok (.aaload, 1) := dc_50 (bq_nm bk_X10_image_0 (j := 17) rfl rfl)
theorem dX10_image_18 : decode cX10_image 18 = .ok (.aload_n 0, 1) := dc_42 (bq_nm bk_X10_image_0 (j := 18) rfl rfl)
theorem dX10_image_19 : decode cX10_image 19 = .ok (.getfield 20, 3) := dc_180 (bq_nm bk_X10_image_0 (j := 19) rfl rfl) (bq_nm bk_X10_image_0 (j := 20) rfl rfl) (bq_nm bk_X10_image_0 (j := 21) rfl rfl) rfl
theorem dX10_image_22 : decode cX10_image 22 = .ok (.invokevirtual 260, 3) := dc_182 (bq_nm bk_X10_image_0 (j := 22) rfl rfl) (bq_nm bk_X10_image_0 (j := 23) rfl rfl) (bq_nm bk_X10_image_0 (j := 24) rfl rfl) rfl
theorem dX10_image_25 : decode cX10_image 25 = .ok (.aload_n 0, 1) := dc_42 (bq_nm bk_X10_image_0 (j := 25) rfl rfl)
theorem dX10_image_26 : decode cX10_image 26 = .ok (.getfield 27, 3) := dc_180 (bq_nm bk_X10_image_0 (j := 26) rfl rfl) (bq_nm bk_X10_image_0 (j := 27) rfl rfl) (bq_nm bk_X10_image_0 (j := 28) rfl rfl) rfl
theorem dX10_image_29 : decode cX10_image 29 = .ok (.iload_n 1, 1) := dc_27 (bq_nm bk_X10_image_0 (j := 29) rfl rfl)
theorem dX10_image_30 : decode cX10_image 30 = .ok (.iconst 1, 1) := dc_4 (bq_nm bk_X10_image_0 (j := 30) rfl rfl)
theorem dX10_image_31 : decode cX10_image 31 = .ok (.bastore, 1) := dc_84 (bq_nm bk_X10_image_0 (j := 31) rfl rfl)
set_option maxRecDepth 20000 in
theorem bk_X10_image_32 : ((cX10_image.data.toList.drop 32).take 2).length = 2 ∧ eN (((cX10_image.data.toList.drop 32).take 2).map UInt8.toNat) = 44036 := by decide +kernel
theorem dX10_image_32 : decode cX10_image 32 = .ok (.iconst 1, 1) := dc_4 (bq_nm bk_X10_image_32 (j := 0) rfl rfl)
theorem dX10_image_33 : decode cX10_image 33 = .ok (.ireturn, 1) := dc_172 (bq_nm bk_X10_image_32 (j := 1) rfl rfl)
set_option maxRecDepth 20000 in
theorem bk_X10_from_0 : ((cX10_from.data.toList.drop 0).take 32).length = 32 ∧ eN (((cX10_from.data.toList.drop 0).take 32).map UInt8.toNat) = 10404438966181844604494114864178721032400746312849451929958669795431289193243 := by decide +kernel
theorem dX10_from_0 : decode cX10_from 0 = .ok (.iload_n 1, 1) := dc_27 (bq_nm bk_X10_from_0 (j := 0) rfl rfl)
theorem dX10_from_1 : decode cX10_from 1 = .ok (.iconst 0, 1) := dc_3 (bq_nm bk_X10_from_0 (j := 1) rfl rfl)
theorem dX10_from_2 : decode cX10_from 2 = .ok (.iconst 1, 1) := dc_4 (bq_nm bk_X10_from_0 (j := 2) rfl rfl)
theorem dX10_from_3 : decode cX10_from 3 = .ok (.invokestatic 53, 3) := dc_184 (bq_nm bk_X10_from_0 (j := 3) rfl rfl) (bq_nm bk_X10_from_0 (j := 4) rfl rfl) (bq_nm bk_X10_from_0 (j := 5) rfl rfl) rfl
theorem dX10_from_6 : decode cX10_from 6 = .ok (.ifCond .ne 6, 3) := dc_154 (bq_nm bk_X10_from_0 (j := 6) rfl rfl) (bq_nm bk_X10_from_0 (j := 7) rfl rfl) (bq_nm bk_X10_from_0 (j := 8) rfl rfl) rfl
theorem dX10_from_9 : decode cX10_from 9 = .ok (.bipush (-2), 2) := dc_16 (bq_nm bk_X10_from_0 (j := 9) rfl rfl) (bq_nm bk_X10_from_0 (j := 10) rfl rfl) rfl
theorem dX10_from_11 : decode cX10_from 11 = .ok (.ireturn, 1) := dc_172 (bq_nm bk_X10_from_0 (j := 11) rfl rfl)
theorem dX10_from_12 : decode cX10_from 12 = .ok (.aload_n 0, 1) := dc_42 (bq_nm bk_X10_from_0 (j := 12) rfl rfl)
theorem dX10_from_13 : decode cX10_from 13 = .ok (.getfield 27, 3) := dc_180 (bq_nm bk_X10_from_0 (j := 13) rfl rfl) (bq_nm bk_X10_from_0 (j := 14) rfl rfl) (bq_nm bk_X10_from_0 (j := 15) rfl rfl) rfl
theorem dX10_from_16 : decode cX10_from 16 = .ok (.iload_n 1, 1) := dc_27 (bq_nm bk_X10_from_0 (j := 16) rfl rfl)
theorem dX10_from_17 : decode cX10_from 17 = .ok (.baload, 1) := dc_51 (bq_nm bk_X10_from_0 (j := 17) rfl rfl)
theorem dX10_from_18 : decode cX10_from 18 = .ok (.ifCond .ne 6, 3) := dc_154 (bq_nm bk_X10_from_0 (j := 18) rfl rfl) (bq_nm bk_X10_from_0 (j := 19) rfl rfl) (bq_nm bk_X10_from_0 (j := 20) rfl rfl) rfl
theorem dX10_from_21 : decode cX10_from 21 = .ok (.bipush (-3), 2) := dc_16 (bq_nm bk_X10_from_0 (j := 21) rfl rfl) (bq_nm bk_X10_from_0 (j := 22) rfl rfl) rfl
theorem dX10_from_23 : decode cX10_from 23 = .ok (.ireturn, 1) := dc_172 (bq_nm bk_X10_from_0 (j := 23) rfl rfl)
theorem dX10_from_24 : decode cX10_from 24 = .ok (.aload_n 0, 1) := dc_42 (bq_nm bk_X10_from_0 (j := 24) rfl rfl)
theorem dX10_from_25 : decode cX10_from 25 = .ok (.getfield 20, 3) := dc_180 (bq_nm bk_X10_from_0 (j := 25) rfl rfl) (bq_nm bk_X10_from_0 (j := 26) rfl rfl) (bq_nm bk_X10_from_0 (j := 27) rfl rfl) rfl
theorem dX10_from_28 : decode cX10_from 28 = .ok (.aload_n 0, 1) := dc_42 (bq_nm bk_X10_from_0 (j := 28) rfl rfl)
theorem dX10_from_29 : decode cX10_from 29 = .ok (.getfield 23, 3) := dc_180 (bq_nm bk_X10_from_0 (j := 29) rfl rfl) (bq_nm bk_X10_from_0 (j := 30) rfl rfl) (bq_nm bk_X10_from_0 (j := 31) rfl rfl) rfl
set_option maxRecDepth 20000 in
theorem bk_X10_from_32 : ((cX10_from.data.toList.drop 32).take 15).length = 15 ∧ eN (((cX10_from.data.toList.drop 32).take 15).map UInt8.toNat) = 893161814725982359237861995003130395 := by decide +kernel
theorem dX10_from_32 : decode cX10_from 32 = .ok (.iload_n 1, 1) := dc_27 (bq_nm bk_X10_from_32 (j := 0) rfl rfl)
theorem dX10_from_33 : decode cX10_from 33 = .ok (.aaload, 1) := dc_50 (bq_nm bk_X10_from_32 (j := 1) rfl rfl)
theorem dX10_from_34 : decode cX10_from 34 = .ok (.invokevirtual 260, 3) := dc_182 (bq_nm bk_X10_from_32 (j := 2) rfl rfl) (bq_nm bk_X10_from_32 (j := 3) rfl rfl) (bq_nm bk_X10_from_32 (j := 4) rfl rfl) rfl
theorem dX10_from_37 : decode cX10_from 37 = .ok (.aload_n 0, 1) := dc_42 (bq_nm bk_X10_from_32 (j := 5) rfl rfl)
theorem dX10_from_38 : decode cX10_from 38 = .ok (.getfield 12, 3) := dc_180 (bq_nm bk_X10_from_32 (j := 6) rfl rfl) (bq_nm bk_X10_from_32 (j := 7) rfl rfl) (bq_nm bk_X10_from_32 (j := 8) rfl rfl) rfl
theorem dX10_from_41 : decode cX10_from 41 = .ok (.iconst 0, 1) := dc_3 (bq_nm bk_X10_from_32 (j := 9) rfl rfl)
theorem dX10_from_42 : decode cX10_from 42 = .ok (.invokevirtual 71, 3) := dc_182 (bq_nm bk_X10_from_32 (j := 10) rfl rfl) (bq_nm bk_X10_from_32 (j := 11) rfl rfl) (bq_nm bk_X10_from_32 (j := 12) rfl rfl) rfl
theorem dX10_from_45 : decode cX10_from 45 = .ok (.iconst 1, 1) := dc_4 (bq_nm bk_X10_from_32 (j := 13) rfl rfl)
theorem dX10_from_46 : decode cX10_from 46 = .ok (.ireturn, 1) := dc_172 (bq_nm bk_X10_from_32 (j := 14) rfl rfl)
set_option maxRecDepth 20000 in
theorem bk_X10_count_0 : ((cX10_count.data.toList.drop 0).take 25).length = 25 ∧ eN (((cX10_count.data.toList.drop 0).take 25).map UInt8.toNat) = 1079833301902044748746035271020094283353050672110502391841563 := by decide +kernel
theorem dX10_count_0 : decode cX10_count 0 = .ok (.iload_n 1, 1) := dc_27 (bq_nm bk_X10_count_0 (j := 0) rfl rfl)
theorem dX10_count_1 : decode cX10_count 1 = .ok (.iconst 0, 1) := dc_3 (bq_nm bk_X10_count_0 (j := 1) rfl rfl)
theorem dX10_count_2 : decode cX10_count 2 = .ok (.iconst 5, 1) := dc_8 (bq_nm bk_X10_count_0 (j := 2) rfl rfl)
theorem dX10_count_3 : decode cX10_count 3 = .ok (.invokestatic 53, 3) := dc_184 (bq_nm bk_X10_count_0 (j := 3) rfl rfl) (bq_nm bk_X10_count_0 (j := 4) rfl rfl) (bq_nm bk_X10_count_0 (j := 5) rfl rfl) rfl
theorem dX10_count_6 : decode cX10_count 6 = .ok (.ifCond .ne 6, 3) := dc_154 (bq_nm bk_X10_count_0 (j := 6) rfl rfl) (bq_nm bk_X10_count_0 (j := 7) rfl rfl) (bq_nm bk_X10_count_0 (j := 8) rfl rfl) rfl
theorem dX10_count_9 : decode cX10_count 9 = .ok (.bipush (-2), 2) := dc_16 (bq_nm bk_X10_count_0 (j := 9) rfl rfl) (bq_nm bk_X10_count_0 (j := 10) rfl rfl) rfl
theorem dX10_count_11 : decode cX10_count 11 = .ok (.ireturn, 1) := dc_172 (bq_nm bk_X10_count_0 (j := 11) rfl rfl)
theorem dX10_count_12 : decode cX10_count 12 = .ok (.aload_n 0, 1) := dc_42 (bq_nm bk_X10_count_0 (j := 12) rfl rfl)
theorem dX10_count_13 : decode cX10_count 13 = .ok (.getfield 12, 3) := dc_180 (bq_nm bk_X10_count_0 (j := 13) rfl rfl) (bq_nm bk_X10_count_0 (j := 14) rfl rfl) (bq_nm bk_X10_count_0 (j := 15) rfl rfl) rfl
theorem dX10_count_16 : decode cX10_count 16 = .ok (.invokevirtual 124, 3) := dc_182 (bq_nm bk_X10_count_0 (j := 16) rfl rfl) (bq_nm bk_X10_count_0 (j := 17) rfl rfl) (bq_nm bk_X10_count_0 (j := 18) rfl rfl) rfl
theorem dX10_count_19 : decode cX10_count 19 = .ok (.aload_n 0, 1) := dc_42 (bq_nm bk_X10_count_0 (j := 19) rfl rfl)
theorem dX10_count_20 : decode cX10_count 20 = .ok (.iload_n 1, 1) := dc_27 (bq_nm bk_X10_count_0 (j := 20) rfl rfl)
theorem dX10_count_21 : decode cX10_count 21 = .ok (.invokevirtual 263, 3) := dc_182 (bq_nm bk_X10_count_0 (j := 21) rfl rfl) (bq_nm bk_X10_count_0 (j := 22) rfl rfl) (bq_nm bk_X10_count_0 (j := 23) rfl rfl) rfl
theorem dX10_count_24 : decode cX10_count 24 = .ok (.ireturn, 1) := dc_172 (bq_nm bk_X10_count_0 (j := 24) rfl rfl)
set_option maxRecDepth 20000 in
theorem bk_X10_digest_0 : ((cX10_digest.data.toList.drop 0).take 31).length = 31 ∧ eN (((cX10_digest.data.toList.drop 0).take 31).map UInt8.toNat) = 113751267952252076434946594389030091340729032186107008003659994324034171946 := by decide +kernel
theorem dX10_digest_0 : decode cX10_digest 0 = .ok (.aload_n 0, 1) := dc_42 (bq_nm bk_X10_digest_0 (j := 0) rfl rfl)
theorem dX10_digest_1 : decode cX10_digest 1 = .ok (.getfield 12, 3) := dc_180 (bq_nm bk_X10_digest_0 (j := 1) rfl rfl) (bq_nm bk_X10_digest_0 (j := 2) rfl rfl) (bq_nm bk_X10_digest_0 (j := 3) rfl rfl) rfl
theorem dX10_digest_4 : decode cX10_digest 4 = .ok (.invokevirtual 124, 3) := dc_182 (bq_nm bk_X10_digest_0 (j := 4) rfl rfl) (bq_nm bk_X10_digest_0 (j := 5) rfl rfl) (bq_nm bk_X10_digest_0 (j := 6) rfl rfl) rfl
theorem dX10_digest_7 : decode cX10_digest 7 = .ok (.ldc2_w 266, 3) := dc_20 (bq_nm bk_X10_digest_0 (j := 7) rfl rfl) (bq_nm bk_X10_digest_0 (j := 8) rfl rfl) (bq_nm bk_X10_digest_0 (j := 9) rfl rfl) rfl
theorem dX10_digest_10 : decode cX10_digest 10 = .ok (.lstore_n 1, 1) := dc_64 (bq_nm bk_X10_digest_0 (j := 10) rfl rfl)
theorem dX10_digest_11 : decode cX10_digest 11 = .ok (.iconst 0, 1) := dc_3 (bq_nm bk_X10_digest_0 (j := 11) rfl rfl)
theorem dX10_digest_12 : decode cX10_digest 12 = .ok (.istore_n 3, 1) := dc_62 (bq_nm bk_X10_digest_0 (j := 12) rfl rfl)
theorem dX10_digest_13 : decode cX10_digest 13 = .ok (.iload_n 3, 1) := dc_29 (bq_nm bk_X10_digest_0 (j := 13) rfl rfl)
theorem dX10_digest_14 : decode cX10_digest 14 = .ok (.iconst 5, 1) := dc_8 (bq_nm bk_X10_digest_0 (j := 14) rfl rfl)
theorem dX10_digest_15 : decode cX10_digest 15 = .ok (.if_icmp .gt 22, 3) := dc_163 (bq_nm bk_X10_digest_0 (j := 15) rfl rfl) (bq_nm bk_X10_digest_0 (j := 16) rfl rfl) (bq_nm bk_X10_digest_0 (j := 17) rfl rfl) rfl
theorem dX10_digest_18 : decode cX10_digest 18 = .ok (.ldc2_w 268, 3) := dc_20 (bq_nm bk_X10_digest_0 (j := 18) rfl rfl) (bq_nm bk_X10_digest_0 (j := 19) rfl rfl) (bq_nm bk_X10_digest_0 (j := 20) rfl rfl) rfl
theorem dX10_digest_21 : decode cX10_digest 21 = .ok (.lload_n 1, 1) := dc_31 (bq_nm bk_X10_digest_0 (j := 21) rfl rfl)
theorem dX10_digest_22 : decode cX10_digest 22 = .ok (.lmul, 1) := dc_105 (bq_nm bk_X10_digest_0 (j := 22) rfl rfl)
theorem dX10_digest_23 : decode cX10_digest 23 = .ok (.aload_n 0, 1) := dc_42 (bq_nm bk_X10_digest_0 (j := 23) rfl rfl)
theorem dX10_digest_24 : decode cX10_digest 24 = .ok (.iload_n 3, 1) := dc_29 (bq_nm bk_X10_digest_0 (j := 24) rfl rfl)
theorem dX10_digest_25 : decode cX10_digest 25 = .ok (.invokevirtual 263, 3) := dc_182 (bq_nm bk_X10_digest_0 (j := 25) rfl rfl) (bq_nm bk_X10_digest_0 (j := 26) rfl rfl) (bq_nm bk_X10_digest_0 (j := 27) rfl rfl) rfl
theorem dX10_digest_28 : decode cX10_digest 28 = .ok (.i2l, 1) := dc_133 (bq_nm bk_X10_digest_0 (j := 28) rfl rfl)
theorem dX10_digest_29 : decode cX10_digest 29 = .ok (.ladd, 1) := dc_97 (bq_nm bk_X10_digest_0 (j := 29) rfl rfl)
theorem dX10_digest_30 : decode cX10_digest 30 = .ok (.lstore_n 1, 1) := dc_64 (bq_nm bk_X10_digest_0 (j := 30) rfl rfl)
set_option maxRecDepth 20000 in
theorem bk_X10_digest_31 : ((cX10_digest.data.toList.drop 31).take 31).length = 31 ∧ eN (((cX10_digest.data.toList.drop 31).take 31).map UInt8.toNat) = 74649666106373156879485895518618020296795421227528390918144635726144275332 := by decide +kernel
theorem dX10_digest_31 : decode cX10_digest 31 = .ok (.iinc 3 1, 3) := dc_132 (bq_nm bk_X10_digest_31 (j := 0) rfl rfl) (bq_nm bk_X10_digest_31 (j := 1) rfl rfl) (bq_nm bk_X10_digest_31 (j := 2) rfl rfl) rfl
theorem dX10_digest_34 : decode cX10_digest 34 = .ok (.goto (-21), 3) := dc_167 (bq_nm bk_X10_digest_31 (j := 3) rfl rfl) (bq_nm bk_X10_digest_31 (j := 4) rfl rfl) (bq_nm bk_X10_digest_31 (j := 5) rfl rfl) rfl
theorem dX10_digest_37 : decode cX10_digest 37 = .ok (.aload_n 0, 1) := dc_42 (bq_nm bk_X10_digest_31 (j := 6) rfl rfl)
theorem dX10_digest_38 : decode cX10_digest 38 = .ok (.getfield 20, 3) := dc_180 (bq_nm bk_X10_digest_31 (j := 7) rfl rfl) (bq_nm bk_X10_digest_31 (j := 8) rfl rfl) (bq_nm bk_X10_digest_31 (j := 9) rfl rfl) rfl
theorem dX10_digest_41 : decode cX10_digest 41 = .ok (.getfield 57, 3) := dc_180 (bq_nm bk_X10_digest_31 (j := 10) rfl rfl) (bq_nm bk_X10_digest_31 (j := 11) rfl rfl) (bq_nm bk_X10_digest_31 (j := 12) rfl rfl) rfl
theorem dX10_digest_44 : decode cX10_digest 44 = .ok (.lload_n 1, 1) := dc_31 (bq_nm bk_X10_digest_31 (j := 13) rfl rfl)
theorem dX10_digest_45 : decode cX10_digest 45 = .ok (.invokevirtual 270, 3) := dc_182 (bq_nm bk_X10_digest_31 (j := 14) rfl rfl) (bq_nm bk_X10_digest_31 (j := 15) rfl rfl) (bq_nm bk_X10_digest_31 (j := 16) rfl rfl) rfl
theorem dX10_digest_48 : decode cX10_digest 48 = .ok (.lstore_n 1, 1) := dc_64 (bq_nm bk_X10_digest_31 (j := 17) rfl rfl)
theorem dX10_digest_49 : decode cX10_digest 49 = .ok (.aload_n 0, 1) := dc_42 (bq_nm bk_X10_digest_31 (j := 18) rfl rfl)
theorem dX10_digest_50 : decode cX10_digest 50 = .ok (.getfield 20, 3) := dc_180 (bq_nm bk_X10_digest_31 (j := 19) rfl rfl) (bq_nm bk_X10_digest_31 (j := 20) rfl rfl) (bq_nm bk_X10_digest_31 (j := 21) rfl rfl) rfl
theorem dX10_digest_53 : decode cX10_digest 53 = .ok (.getfield 82, 3) := dc_180 (bq_nm bk_X10_digest_31 (j := 22) rfl rfl) (bq_nm bk_X10_digest_31 (j := 23) rfl rfl) (bq_nm bk_X10_digest_31 (j := 24) rfl rfl) rfl
theorem dX10_digest_56 : decode cX10_digest 56 = .ok (.lload_n 1, 1) := dc_31 (bq_nm bk_X10_digest_31 (j := 25) rfl rfl)
theorem dX10_digest_57 : decode cX10_digest 57 = .ok (.invokevirtual 270, 3) := dc_182 (bq_nm bk_X10_digest_31 (j := 26) rfl rfl) (bq_nm bk_X10_digest_31 (j := 27) rfl rfl) (bq_nm bk_X10_digest_31 (j := 28) rfl rfl) rfl
theorem dX10_digest_60 : decode cX10_digest 60 = .ok (.lstore_n 1, 1) := dc_64 (bq_nm bk_X10_digest_31 (j := 29) rfl rfl)
theorem dX10_digest_61 : decode cX10_digest 61 = .ok (.aload_n 0, 1) := dc_42 (bq_nm bk_X10_digest_31 (j := 30) rfl rfl)
set_option maxRecDepth 20000 in
theorem bk_X10_digest_62 : ((cX10_digest.data.toList.drop 62).take 31).length = 31 ∧ eN (((cX10_digest.data.toList.drop 62).take 31).map UInt8.toNat) = 35341798523894586474057196042904699073864370473147784451269834629272830132 := by decide +kernel
theorem dX10_digest_62 : decode cX10_digest 62 = .ok (.getfield 20, 3) := dc_180 (bq_nm bk_X10_digest_62 (j := 0) rfl rfl) (bq_nm bk_X10_digest_62 (j := 1) rfl rfl) (bq_nm bk_X10_digest_62 (j := 2) rfl rfl) rfl
theorem dX10_digest_65 : decode cX10_digest 65 = .ok (.getfield 88, 3) := dc_180 (bq_nm bk_X10_digest_62 (j := 3) rfl rfl) (bq_nm bk_X10_digest_62 (j := 4) rfl rfl) (bq_nm bk_X10_digest_62 (j := 5) rfl rfl) rfl
theorem dX10_digest_68 : decode cX10_digest 68 = .ok (.lload_n 1, 1) := dc_31 (bq_nm bk_X10_digest_62 (j := 6) rfl rfl)
theorem dX10_digest_69 : decode cX10_digest 69 = .ok (.invokevirtual 270, 3) := dc_182 (bq_nm bk_X10_digest_62 (j := 7) rfl rfl) (bq_nm bk_X10_digest_62 (j := 8) rfl rfl) (bq_nm bk_X10_digest_62 (j := 9) rfl rfl) rfl
theorem dX10_digest_72 : decode cX10_digest 72 = .ok (.lstore_n 1, 1) := dc_64 (bq_nm bk_X10_digest_62 (j := 10) rfl rfl)
theorem dX10_digest_73 : decode cX10_digest 73 = .ok (.iconst 0, 1) := dc_3 (bq_nm bk_X10_digest_62 (j := 11) rfl rfl)
theorem dX10_digest_74 : decode cX10_digest 74 = .ok (.istore_n 3, 1) := dc_62 (bq_nm bk_X10_digest_62 (j := 12) rfl rfl)
theorem dX10_digest_75 : decode cX10_digest 75 = .ok (.iload_n 3, 1) := dc_29 (bq_nm bk_X10_digest_62 (j := 13) rfl rfl)
theorem dX10_digest_76 : decode cX10_digest 76 = .ok (.aload_n 0, 1) := dc_42 (bq_nm bk_X10_digest_62 (j := 14) rfl rfl)
theorem dX10_digest_77 : decode cX10_digest 77 = .ok (.getfield 20, 3) := dc_180 (bq_nm bk_X10_digest_62 (j := 15) rfl rfl) (bq_nm bk_X10_digest_62 (j := 16) rfl rfl) (bq_nm bk_X10_digest_62 (j := 17) rfl rfl) rfl
theorem dX10_digest_80 : decode cX10_digest 80 = .ok (.getfield 134, 3) := dc_180 (bq_nm bk_X10_digest_62 (j := 18) rfl rfl) (bq_nm bk_X10_digest_62 (j := 19) rfl rfl) (bq_nm bk_X10_digest_62 (j := 20) rfl rfl) rfl
theorem dX10_digest_83 : decode cX10_digest 83 = .ok (.invokevirtual 195, 3) := dc_182 (bq_nm bk_X10_digest_62 (j := 21) rfl rfl) (bq_nm bk_X10_digest_62 (j := 22) rfl rfl) (bq_nm bk_X10_digest_62 (j := 23) rfl rfl) rfl
theorem dX10_digest_86 : decode cX10_digest 86 = .ok (.if_icmp .ge 36, 3) := dc_162 (bq_nm bk_X10_digest_62 (j := 24) rfl rfl) (bq_nm bk_X10_digest_62 (j := 25) rfl rfl) (bq_nm bk_X10_digest_62 (j := 26) rfl rfl) rfl
theorem dX10_digest_89 : decode cX10_digest 89 = .ok (.aload_n 0, 1) := dc_42 (bq_nm bk_X10_digest_62 (j := 27) rfl rfl)
theorem dX10_digest_90 : decode cX10_digest 90 = .ok (.getfield 20, 3) := dc_180 (bq_nm bk_X10_digest_62 (j := 28) rfl rfl) (bq_nm bk_X10_digest_62 (j := 29) rfl rfl) (bq_nm bk_X10_digest_62 (j := 30) rfl rfl) rfl
set_option maxRecDepth 20000 in
theorem bk_X10_digest_93 : ((cX10_digest.data.toList.drop 93).take 32).length = 32 ∧ eN (((cX10_digest.data.toList.drop 93).take 32).map UInt8.toNat) = 13226643574602054718649925087766039936948095749883037192207615966527458181300 := by decide +kernel
theorem dX10_digest_93 : decode cX10_digest 93 = .ok (.getfield 137, 3) := dc_180 (bq_nm bk_X10_digest_93 (j := 0) rfl rfl) (bq_nm bk_X10_digest_93 (j := 1) rfl rfl) (bq_nm bk_X10_digest_93 (j := 2) rfl rfl) rfl
theorem dX10_digest_96 : decode cX10_digest 96 = .ok (.iload_n 3, 1) := dc_29 (bq_nm bk_X10_digest_93 (j := 3) rfl rfl)
theorem dX10_digest_97 : decode cX10_digest 97 = .ok (.invokevirtual 102, 3) := dc_182 (bq_nm bk_X10_digest_93 (j := 4) rfl rfl) (bq_nm bk_X10_digest_93 (j := 5) rfl rfl) (bq_nm bk_X10_digest_93 (j := 6) rfl rfl) rfl
theorem dX10_digest_100 : decode cX10_digest 100 = .ok (.aload_n 0, 1) := dc_42 (bq_nm bk_X10_digest_93 (j := 7) rfl rfl)
theorem dX10_digest_101 : decode cX10_digest 101 = .ok (.getfield 20, 3) := dc_180 (bq_nm bk_X10_digest_93 (j := 8) rfl rfl) (bq_nm bk_X10_digest_93 (j := 9) rfl rfl) (bq_nm bk_X10_digest_93 (j := 10) rfl rfl) rfl
theorem dX10_digest_104 : decode cX10_digest 104 = .ok (.getfield 134, 3) := dc_180 (bq_nm bk_X10_digest_93 (j := 11) rfl rfl) (bq_nm bk_X10_digest_93 (j := 12) rfl rfl) (bq_nm bk_X10_digest_93 (j := 13) rfl rfl) rfl
theorem dX10_digest_107 : decode cX10_digest 107 = .ok (.lload_n 1, 1) := dc_31 (bq_nm bk_X10_digest_93 (j := 14) rfl rfl)
theorem dX10_digest_108 : decode cX10_digest 108 = .ok (.iload_n 3, 1) := dc_29 (bq_nm bk_X10_digest_93 (j := 15) rfl rfl)
theorem dX10_digest_109 : decode cX10_digest 109 = .ok (.invokevirtual 274, 3) := dc_182 (bq_nm bk_X10_digest_93 (j := 16) rfl rfl) (bq_nm bk_X10_digest_93 (j := 17) rfl rfl) (bq_nm bk_X10_digest_93 (j := 18) rfl rfl) rfl
theorem dX10_digest_112 : decode cX10_digest 112 = .ok (.invokevirtual 278, 3) := dc_182 (bq_nm bk_X10_digest_93 (j := 19) rfl rfl) (bq_nm bk_X10_digest_93 (j := 20) rfl rfl) (bq_nm bk_X10_digest_93 (j := 21) rfl rfl) rfl
theorem dX10_digest_115 : decode cX10_digest 115 = .ok (.lstore_n 1, 1) := dc_64 (bq_nm bk_X10_digest_93 (j := 22) rfl rfl)
theorem dX10_digest_116 : decode cX10_digest 116 = .ok (.iinc 3 1, 3) := dc_132 (bq_nm bk_X10_digest_93 (j := 23) rfl rfl) (bq_nm bk_X10_digest_93 (j := 24) rfl rfl) (bq_nm bk_X10_digest_93 (j := 25) rfl rfl) rfl
theorem dX10_digest_119 : decode cX10_digest 119 = .ok (.goto (-44), 3) := dc_167 (bq_nm bk_X10_digest_93 (j := 26) rfl rfl) (bq_nm bk_X10_digest_93 (j := 27) rfl rfl) (bq_nm bk_X10_digest_93 (j := 28) rfl rfl) rfl
theorem dX10_digest_122 : decode cX10_digest 122 = .ok (.iconst 0, 1) := dc_3 (bq_nm bk_X10_digest_93 (j := 29) rfl rfl)
theorem dX10_digest_123 : decode cX10_digest 123 = .ok (.istore_n 3, 1) := dc_62 (bq_nm bk_X10_digest_93 (j := 30) rfl rfl)
theorem dX10_digest_124 : decode cX10_digest 124 = .ok (.iload_n 3, 1) := dc_29 (bq_nm bk_X10_digest_93 (j := 31) rfl rfl)
set_option maxRecDepth 20000 in
theorem bk_X10_digest_125 : ((cX10_digest.data.toList.drop 125).take 32).length = 32 ∧ eN (((cX10_digest.data.toList.drop 125).take 32).map UInt8.toNat) = 102674402400306893994119753699387815523490325028287920702235986017276974380074 := by decide +kernel
theorem dX10_digest_125 : decode cX10_digest 125 = .ok (.aload_n 0, 1) := dc_42 (bq_nm bk_X10_digest_125 (j := 0) rfl rfl)
theorem dX10_digest_126 : decode cX10_digest 126 = .ok (.getfield 20, 3) := dc_180 (bq_nm bk_X10_digest_125 (j := 1) rfl rfl) (bq_nm bk_X10_digest_125 (j := 2) rfl rfl) (bq_nm bk_X10_digest_125 (j := 3) rfl rfl) rfl
theorem dX10_digest_129 : decode cX10_digest 129 = .ok (.getfield 162, 3) := dc_180 (bq_nm bk_X10_digest_125 (j := 4) rfl rfl) (bq_nm bk_X10_digest_125 (j := 5) rfl rfl) (bq_nm bk_X10_digest_125 (j := 6) rfl rfl) rfl
theorem dX10_digest_132 : decode cX10_digest 132 = .ok (.invokevirtual 195, 3) := dc_182 (bq_nm bk_X10_digest_125 (j := 7) rfl rfl) (bq_nm bk_X10_digest_125 (j := 8) rfl rfl) (bq_nm bk_X10_digest_125 (j := 9) rfl rfl) rfl
theorem dX10_digest_135 : decode cX10_digest 135 = .ok (.if_icmp .ge 22, 3) := dc_162 (bq_nm bk_X10_digest_125 (j := 10) rfl rfl) (bq_nm bk_X10_digest_125 (j := 11) rfl rfl) (bq_nm bk_X10_digest_125 (j := 12) rfl rfl) rfl
theorem dX10_digest_138 : decode cX10_digest 138 = .ok (.aload_n 0, 1) := dc_42 (bq_nm bk_X10_digest_125 (j := 13) rfl rfl)
theorem dX10_digest_139 : decode cX10_digest 139 = .ok (.getfield 12, 3) := dc_180 (bq_nm bk_X10_digest_125 (j := 14) rfl rfl) (bq_nm bk_X10_digest_125 (j := 15) rfl rfl) (bq_nm bk_X10_digest_125 (j := 16) rfl rfl) rfl
theorem dX10_digest_142 : decode cX10_digest 142 = .ok (.iload_n 3, 1) := dc_29 (bq_nm bk_X10_digest_125 (j := 17) rfl rfl)
theorem dX10_digest_143 : decode cX10_digest 143 = .ok (.invokevirtual 172, 3) := dc_182 (bq_nm bk_X10_digest_125 (j := 18) rfl rfl) (bq_nm bk_X10_digest_125 (j := 19) rfl rfl) (bq_nm bk_X10_digest_125 (j := 20) rfl rfl) rfl
theorem dX10_digest_146 : decode cX10_digest 146 = .ok (.lload_n 1, 1) := dc_31 (bq_nm bk_X10_digest_125 (j := 21) rfl rfl)
theorem dX10_digest_147 : decode cX10_digest 147 = .ok (.invokevirtual 281, 3) := dc_182 (bq_nm bk_X10_digest_125 (j := 22) rfl rfl) (bq_nm bk_X10_digest_125 (j := 23) rfl rfl) (bq_nm bk_X10_digest_125 (j := 24) rfl rfl) rfl
theorem dX10_digest_150 : decode cX10_digest 150 = .ok (.lstore_n 1, 1) := dc_64 (bq_nm bk_X10_digest_125 (j := 25) rfl rfl)
theorem dX10_digest_151 : decode cX10_digest 151 = .ok (.iinc 3 1, 3) := dc_132 (bq_nm bk_X10_digest_125 (j := 26) rfl rfl) (bq_nm bk_X10_digest_125 (j := 27) rfl rfl) (bq_nm bk_X10_digest_125 (j := 28) rfl rfl) rfl
theorem dX10_digest_154 : decode cX10_digest 154 = .ok (.goto (-30), 3) := dc_167 (bq_nm bk_X10_digest_125 (j := 29) rfl rfl) (bq_nm bk_X10_digest_125 (j := 30) rfl rfl) (bq_nm bk_X10_digest_125 (j := 31) rfl rfl) rfl
set_option maxRecDepth 20000 in
theorem bk_X10_digest_157 : ((cX10_digest.data.toList.drop 157).take 32).length = 32 ∧ eN (((cX10_digest.data.toList.drop 157).take 32).map UInt8.toNat) = 5429665346621873454796015501177799622727144449435926327855939300593481104899 := by decide +kernel
theorem dX10_digest_157 : decode cX10_digest 157 = .ok (.iconst 0, 1) := dc_3 (bq_nm bk_X10_digest_157 (j := 0) rfl rfl)
theorem dX10_digest_158 : decode cX10_digest 158 = .ok (.istore_n 3, 1) := dc_62 (bq_nm bk_X10_digest_157 (j := 1) rfl rfl)
theorem dX10_digest_159 : decode cX10_digest 159 = .ok (.iload_n 3, 1) := dc_29 (bq_nm bk_X10_digest_157 (j := 2) rfl rfl)
theorem dX10_digest_160 : decode cX10_digest 160 = .ok (.iconst 4, 1) := dc_7 (bq_nm bk_X10_digest_157 (j := 3) rfl rfl)
theorem dX10_digest_161 : decode cX10_digest 161 = .ok (.if_icmp .ge 25, 3) := dc_162 (bq_nm bk_X10_digest_157 (j := 4) rfl rfl) (bq_nm bk_X10_digest_157 (j := 5) rfl rfl) (bq_nm bk_X10_digest_157 (j := 6) rfl rfl) rfl
theorem dX10_digest_164 : decode cX10_digest 164 = .ok (.aload_n 0, 1) := dc_42 (bq_nm bk_X10_digest_157 (j := 7) rfl rfl)
theorem dX10_digest_165 : decode cX10_digest 165 = .ok (.getfield 20, 3) := dc_180 (bq_nm bk_X10_digest_157 (j := 8) rfl rfl) (bq_nm bk_X10_digest_157 (j := 9) rfl rfl) (bq_nm bk_X10_digest_157 (j := 10) rfl rfl) rfl
theorem dX10_digest_168 : decode cX10_digest 168 = .ok (.getfield 98, 3) := dc_180 (bq_nm bk_X10_digest_157 (j := 11) rfl rfl) (bq_nm bk_X10_digest_157 (j := 12) rfl rfl) (bq_nm bk_X10_digest_157 (j := 13) rfl rfl) rfl
theorem dX10_digest_171 : decode cX10_digest 171 = .ok (.iload_n 3, 1) := dc_29 (bq_nm bk_X10_digest_157 (j := 14) rfl rfl)
theorem dX10_digest_172 : decode cX10_digest 172 = .ok (.invokevirtual 102, 3) := dc_182 (bq_nm bk_X10_digest_157 (j := 15) rfl rfl) (bq_nm bk_X10_digest_157 (j := 16) rfl rfl) (bq_nm bk_X10_digest_157 (j := 17) rfl rfl) rfl
theorem dX10_digest_175 : decode cX10_digest 175 = .ok (.lload_n 1, 1) := dc_31 (bq_nm bk_X10_digest_157 (j := 18) rfl rfl)
theorem dX10_digest_176 : decode cX10_digest 176 = .ok (.invokevirtual 278, 3) := dc_182 (bq_nm bk_X10_digest_157 (j := 19) rfl rfl) (bq_nm bk_X10_digest_157 (j := 20) rfl rfl) (bq_nm bk_X10_digest_157 (j := 21) rfl rfl) rfl
theorem dX10_digest_179 : decode cX10_digest 179 = .ok (.lstore_n 1, 1) := dc_64 (bq_nm bk_X10_digest_157 (j := 22) rfl rfl)
theorem dX10_digest_180 : decode cX10_digest 180 = .ok (.iinc 3 1, 3) := dc_132 (bq_nm bk_X10_digest_157 (j := 23) rfl rfl) (bq_nm bk_X10_digest_157 (j := 24) rfl rfl) (bq_nm bk_X10_digest_157 (j := 25) rfl rfl) rfl
theorem dX10_digest_183 : decode cX10_digest 183 = .ok (.goto (-24), 3) := dc_167 (bq_nm bk_X10_digest_157 (j := 26) rfl rfl) (bq_nm bk_X10_digest_157 (j := 27) rfl rfl) (bq_nm bk_X10_digest_157 (j := 28) rfl rfl) rfl
theorem dX10_digest_186 : decode cX10_digest 186 = .ok (.ldc2_w 268, 3) := dc_20 (bq_nm bk_X10_digest_157 (j := 29) rfl rfl) (bq_nm bk_X10_digest_157 (j := 30) rfl rfl) (bq_nm bk_X10_digest_157 (j := 31) rfl rfl) rfl
set_option maxRecDepth 20000 in
theorem bk_X10_digest_189 : ((cX10_digest.data.toList.drop 189).take 32).length = 32 ∧ eN (((cX10_digest.data.toList.drop 189).take 32).map UInt8.toNat) = 47547704210299939466467447833963911828764591326216600175624704419016055875871 := by decide +kernel
theorem dX10_digest_189 : decode cX10_digest 189 = .ok (.lload_n 1, 1) := dc_31 (bq_nm bk_X10_digest_189 (j := 0) rfl rfl)
theorem dX10_digest_190 : decode cX10_digest 190 = .ok (.lmul, 1) := dc_105 (bq_nm bk_X10_digest_189 (j := 1) rfl rfl)
theorem dX10_digest_191 : decode cX10_digest 191 = .ok (.aload_n 0, 1) := dc_42 (bq_nm bk_X10_digest_189 (j := 2) rfl rfl)
theorem dX10_digest_192 : decode cX10_digest 192 = .ok (.getfield 20, 3) := dc_180 (bq_nm bk_X10_digest_189 (j := 3) rfl rfl) (bq_nm bk_X10_digest_189 (j := 4) rfl rfl) (bq_nm bk_X10_digest_189 (j := 5) rfl rfl) rfl
theorem dX10_digest_195 : decode cX10_digest 195 = .ok (.getfield 201, 3) := dc_180 (bq_nm bk_X10_digest_189 (j := 6) rfl rfl) (bq_nm bk_X10_digest_189 (j := 7) rfl rfl) (bq_nm bk_X10_digest_189 (j := 8) rfl rfl) rfl
theorem dX10_digest_198 : decode cX10_digest 198 = .ok (.i2l, 1) := dc_133 (bq_nm bk_X10_digest_189 (j := 9) rfl rfl)
theorem dX10_digest_199 : decode cX10_digest 199 = .ok (.ladd, 1) := dc_97 (bq_nm bk_X10_digest_189 (j := 10) rfl rfl)
theorem dX10_digest_200 : decode cX10_digest 200 = .ok (.lstore_n 1, 1) := dc_64 (bq_nm bk_X10_digest_189 (j := 11) rfl rfl)
theorem dX10_digest_201 : decode cX10_digest 201 = .ok (.ldc2_w 268, 3) := dc_20 (bq_nm bk_X10_digest_189 (j := 12) rfl rfl) (bq_nm bk_X10_digest_189 (j := 13) rfl rfl) (bq_nm bk_X10_digest_189 (j := 14) rfl rfl) rfl
theorem dX10_digest_204 : decode cX10_digest 204 = .ok (.lload_n 1, 1) := dc_31 (bq_nm bk_X10_digest_189 (j := 15) rfl rfl)
theorem dX10_digest_205 : decode cX10_digest 205 = .ok (.lmul, 1) := dc_105 (bq_nm bk_X10_digest_189 (j := 16) rfl rfl)
theorem dX10_digest_206 : decode cX10_digest 206 = .ok (.aload_n 0, 1) := dc_42 (bq_nm bk_X10_digest_189 (j := 17) rfl rfl)
theorem dX10_digest_207 : decode cX10_digest 207 = .ok (.getfield 20, 3) := dc_180 (bq_nm bk_X10_digest_189 (j := 18) rfl rfl) (bq_nm bk_X10_digest_189 (j := 19) rfl rfl) (bq_nm bk_X10_digest_189 (j := 20) rfl rfl) rfl
theorem dX10_digest_210 : decode cX10_digest 210 = .ok (.getfield 204, 3) := dc_180 (bq_nm bk_X10_digest_189 (j := 21) rfl rfl) (bq_nm bk_X10_digest_189 (j := 22) rfl rfl) (bq_nm bk_X10_digest_189 (j := 23) rfl rfl) rfl
theorem dX10_digest_213 : decode cX10_digest 213 = .ok (.i2l, 1) := dc_133 (bq_nm bk_X10_digest_189 (j := 24) rfl rfl)
theorem dX10_digest_214 : decode cX10_digest 214 = .ok (.ladd, 1) := dc_97 (bq_nm bk_X10_digest_189 (j := 25) rfl rfl)
theorem dX10_digest_215 : decode cX10_digest 215 = .ok (.lstore_n 1, 1) := dc_64 (bq_nm bk_X10_digest_189 (j := 26) rfl rfl)
theorem dX10_digest_216 : decode cX10_digest 216 = .ok (.ldc2_w 268, 3) := dc_20 (bq_nm bk_X10_digest_189 (j := 27) rfl rfl) (bq_nm bk_X10_digest_189 (j := 28) rfl rfl) (bq_nm bk_X10_digest_189 (j := 29) rfl rfl) rfl
theorem dX10_digest_219 : decode cX10_digest 219 = .ok (.lload_n 1, 1) := dc_31 (bq_nm bk_X10_digest_189 (j := 30) rfl rfl)
theorem dX10_digest_220 : decode cX10_digest 220 = .ok (.lmul, 1) := dc_105 (bq_nm bk_X10_digest_189 (j := 31) rfl rfl)
set_option maxRecDepth 20000 in
theorem bk_X10_digest_221 : ((cX10_digest.data.toList.drop 221).take 23).length = 23 ∧ eN (((cX10_digest.data.toList.drop 221).take 23).map UInt8.toNat) = 16606737655166553679778528341753893047478609643057493034 := by decide +kernel
theorem dX10_digest_221 : decode cX10_digest 221 = .ok (.aload_n 0, 1) := dc_42 (bq_nm bk_X10_digest_221 (j := 0) rfl rfl)
theorem dX10_digest_222 : decode cX10_digest 222 = .ok (.getfield 41, 3) := dc_180 (bq_nm bk_X10_digest_221 (j := 1) rfl rfl) (bq_nm bk_X10_digest_221 (j := 2) rfl rfl) (bq_nm bk_X10_digest_221 (j := 3) rfl rfl) rfl
theorem dX10_digest_225 : decode cX10_digest 225 = .ok (.getfield 227, 3) := dc_180 (bq_nm bk_X10_digest_221 (j := 4) rfl rfl) (bq_nm bk_X10_digest_221 (j := 5) rfl rfl) (bq_nm bk_X10_digest_221 (j := 6) rfl rfl) rfl
theorem dX10_digest_228 : decode cX10_digest 228 = .ok (.ladd, 1) := dc_97 (bq_nm bk_X10_digest_221 (j := 7) rfl rfl)
theorem dX10_digest_229 : decode cX10_digest 229 = .ok (.lstore_n 1, 1) := dc_64 (bq_nm bk_X10_digest_221 (j := 8) rfl rfl)
theorem dX10_digest_230 : decode cX10_digest 230 = .ok (.ldc2_w 268, 3) := dc_20 (bq_nm bk_X10_digest_221 (j := 9) rfl rfl) (bq_nm bk_X10_digest_221 (j := 10) rfl rfl) (bq_nm bk_X10_digest_221 (j := 11) rfl rfl) rfl
theorem dX10_digest_233 : decode cX10_digest 233 = .ok (.lload_n 1, 1) := dc_31 (bq_nm bk_X10_digest_221 (j := 12) rfl rfl)
theorem dX10_digest_234 : decode cX10_digest 234 = .ok (.lmul, 1) := dc_105 (bq_nm bk_X10_digest_221 (j := 13) rfl rfl)
theorem dX10_digest_235 : decode cX10_digest 235 = .ok (.aload_n 0, 1) := dc_42 (bq_nm bk_X10_digest_221 (j := 14) rfl rfl)
theorem dX10_digest_236 : decode cX10_digest 236 = .ok (.getfield 41, 3) := dc_180 (bq_nm bk_X10_digest_221 (j := 15) rfl rfl) (bq_nm bk_X10_digest_221 (j := 16) rfl rfl) (bq_nm bk_X10_digest_221 (j := 17) rfl rfl) rfl
theorem dX10_digest_239 : decode cX10_digest 239 = .ok (.getfield 231, 3) := dc_180 (bq_nm bk_X10_digest_221 (j := 18) rfl rfl) (bq_nm bk_X10_digest_221 (j := 19) rfl rfl) (bq_nm bk_X10_digest_221 (j := 20) rfl rfl) rfl
theorem dX10_digest_242 : decode cX10_digest 242 = .ok (.ladd, 1) := dc_97 (bq_nm bk_X10_digest_221 (j := 21) rfl rfl)
theorem dX10_digest_243 : decode cX10_digest 243 = .ok (.lreturn, 1) := dc_173 (bq_nm bk_X10_digest_221 (j := 22) rfl rfl)
set_option maxRecDepth 20000 in
theorem bk_X10_howMany_0 : ((cX10_howMany.data.toList.drop 0).take 1).length = 1 ∧ eN (((cX10_howMany.data.toList.drop 0).take 1).map UInt8.toNat) = 27 := by decide +kernel
theorem dX10_howMany_0 : decode cX10_howMany 0 = .ok (.iload_n 1, 1) := dc_27 (bq_nm bk_X10_howMany_0 (j := 0) rfl rfl)
set_option maxRecDepth 20000 in
theorem bk_X10_howMany_36 : ((cX10_howMany.data.toList.drop 36).take 32).length = 32 ∧ eN (((cX10_howMany.data.toList.drop 36).take 32).map UInt8.toNat) = 88202263964121448172921840341378751822166306480621789251501747172509143315498 := by decide +kernel
theorem dX10_howMany_36 : decode cX10_howMany 36 = .ok (.aload_n 0, 1) := dc_42 (bq_nm bk_X10_howMany_36 (j := 0) rfl rfl)
theorem dX10_howMany_37 : decode cX10_howMany 37 = .ok (.getfield 20, 3) := dc_180 (bq_nm bk_X10_howMany_36 (j := 1) rfl rfl) (bq_nm bk_X10_howMany_36 (j := 2) rfl rfl) (bq_nm bk_X10_howMany_36 (j := 3) rfl rfl) rfl
theorem dX10_howMany_40 : decode cX10_howMany 40 = .ok (.getfield 57, 3) := dc_180 (bq_nm bk_X10_howMany_36 (j := 4) rfl rfl) (bq_nm bk_X10_howMany_36 (j := 5) rfl rfl) (bq_nm bk_X10_howMany_36 (j := 6) rfl rfl) rfl
theorem dX10_howMany_43 : decode cX10_howMany 43 = .ok (.invokevirtual 195, 3) := dc_182 (bq_nm bk_X10_howMany_36 (j := 7) rfl rfl) (bq_nm bk_X10_howMany_36 (j := 8) rfl rfl) (bq_nm bk_X10_howMany_36 (j := 9) rfl rfl) rfl
theorem dX10_howMany_46 : decode cX10_howMany 46 = .ok (.ireturn, 1) := dc_172 (bq_nm bk_X10_howMany_36 (j := 10) rfl rfl)
theorem dX10_howMany_47 : decode cX10_howMany 47 = .ok (.aload_n 0, 1) := dc_42 (bq_nm bk_X10_howMany_36 (j := 11) rfl rfl)
theorem dX10_howMany_48 : decode cX10_howMany 48 = .ok (.getfield 20, 3) := dc_180 (bq_nm bk_X10_howMany_36 (j := 12) rfl rfl) (bq_nm bk_X10_howMany_36 (j := 13) rfl rfl) (bq_nm bk_X10_howMany_36 (j := 14) rfl rfl) rfl
theorem dX10_howMany_51 : decode cX10_howMany 51 = .ok (.getfield 82, 3) := dc_180 (bq_nm bk_X10_howMany_36 (j := 15) rfl rfl) (bq_nm bk_X10_howMany_36 (j := 16) rfl rfl) (bq_nm bk_X10_howMany_36 (j := 17) rfl rfl) rfl
theorem dX10_howMany_54 : decode cX10_howMany 54 = .ok (.invokevirtual 195, 3) := dc_182 (bq_nm bk_X10_howMany_36 (j := 18) rfl rfl) (bq_nm bk_X10_howMany_36 (j := 19) rfl rfl) (bq_nm bk_X10_howMany_36 (j := 20) rfl rfl) rfl
theorem dX10_howMany_57 : decode cX10_howMany 57 = .ok (.ireturn, 1) := dc_172 (bq_nm bk_X10_howMany_36 (j := 21) rfl rfl)
theorem dX10_howMany_58 : decode cX10_howMany 58 = .ok (.aload_n 0, 1) := dc_42 (bq_nm bk_X10_howMany_36 (j := 22) rfl rfl)
theorem dX10_howMany_59 : decode cX10_howMany 59 = .ok (.getfield 20, 3) := dc_180 (bq_nm bk_X10_howMany_36 (j := 23) rfl rfl) (bq_nm bk_X10_howMany_36 (j := 24) rfl rfl) (bq_nm bk_X10_howMany_36 (j := 25) rfl rfl) rfl
theorem dX10_howMany_62 : decode cX10_howMany 62 = .ok (.getfield 88, 3) := dc_180 (bq_nm bk_X10_howMany_36 (j := 26) rfl rfl) (bq_nm bk_X10_howMany_36 (j := 27) rfl rfl) (bq_nm bk_X10_howMany_36 (j := 28) rfl rfl) rfl
theorem dX10_howMany_65 : decode cX10_howMany 65 = .ok (.invokevirtual 195, 3) := dc_182 (bq_nm bk_X10_howMany_36 (j := 29) rfl rfl) (bq_nm bk_X10_howMany_36 (j := 30) rfl rfl) (bq_nm bk_X10_howMany_36 (j := 31) rfl rfl) rfl
set_option maxRecDepth 20000 in
theorem bk_X10_howMany_68 : ((cX10_howMany.data.toList.drop 68).take 31).length = 31 ∧ eN (((cX10_howMany.data.toList.drop 68).take 31).map UInt8.toNat) = 304077186678620054771508524927869989828861718659321935748522328312541096620 := by decide +kernel
theorem dX10_howMany_68 : decode cX10_howMany 68 = .ok (.ireturn, 1) := dc_172 (bq_nm bk_X10_howMany_68 (j := 0) rfl rfl)
theorem dX10_howMany_69 : decode cX10_howMany 69 = .ok (.aload_n 0, 1) := dc_42 (bq_nm bk_X10_howMany_68 (j := 1) rfl rfl)
theorem dX10_howMany_70 : decode cX10_howMany 70 = .ok (.getfield 20, 3) := dc_180 (bq_nm bk_X10_howMany_68 (j := 2) rfl rfl) (bq_nm bk_X10_howMany_68 (j := 3) rfl rfl) (bq_nm bk_X10_howMany_68 (j := 4) rfl rfl) rfl
theorem dX10_howMany_73 : decode cX10_howMany 73 = .ok (.getfield 134, 3) := dc_180 (bq_nm bk_X10_howMany_68 (j := 5) rfl rfl) (bq_nm bk_X10_howMany_68 (j := 6) rfl rfl) (bq_nm bk_X10_howMany_68 (j := 7) rfl rfl) rfl
theorem dX10_howMany_76 : decode cX10_howMany 76 = .ok (.invokevirtual 195, 3) := dc_182 (bq_nm bk_X10_howMany_68 (j := 8) rfl rfl) (bq_nm bk_X10_howMany_68 (j := 9) rfl rfl) (bq_nm bk_X10_howMany_68 (j := 10) rfl rfl) rfl
theorem dX10_howMany_79 : decode cX10_howMany 79 = .ok (.ireturn, 1) := dc_172 (bq_nm bk_X10_howMany_68 (j := 11) rfl rfl)
theorem dX10_howMany_80 : decode cX10_howMany 80 = .ok (.aload_n 0, 1) := dc_42 (bq_nm bk_X10_howMany_68 (j := 12) rfl rfl)
theorem dX10_howMany_81 : decode cX10_howMany 81 = .ok (.getfield 20, 3) := dc_180 (bq_nm bk_X10_howMany_68 (j := 13) rfl rfl) (bq_nm bk_X10_howMany_68 (j := 14) rfl rfl) (bq_nm bk_X10_howMany_68 (j := 15) rfl rfl) rfl
theorem dX10_howMany_84 : decode cX10_howMany 84 = .ok (.getfield 162, 3) := dc_180 (bq_nm bk_X10_howMany_68 (j := 16) rfl rfl) (bq_nm bk_X10_howMany_68 (j := 17) rfl rfl) (bq_nm bk_X10_howMany_68 (j := 18) rfl rfl) rfl
theorem dX10_howMany_87 : decode cX10_howMany 87 = .ok (.invokevirtual 195, 3) := dc_182 (bq_nm bk_X10_howMany_68 (j := 19) rfl rfl) (bq_nm bk_X10_howMany_68 (j := 20) rfl rfl) (bq_nm bk_X10_howMany_68 (j := 21) rfl rfl) rfl
theorem dX10_howMany_90 : decode cX10_howMany 90 = .ok (.ireturn, 1) := dc_172 (bq_nm bk_X10_howMany_68 (j := 22) rfl rfl)
theorem dX10_howMany_91 : decode cX10_howMany 91 = .ok (.aload_n 0, 1) := dc_42 (bq_nm bk_X10_howMany_68 (j := 23) rfl rfl)
theorem dX10_howMany_92 : decode cX10_howMany 92 = .ok (.getfield 12, 3) := dc_180 (bq_nm bk_X10_howMany_68 (j := 24) rfl rfl) (bq_nm bk_X10_howMany_68 (j := 25) rfl rfl) (bq_nm bk_X10_howMany_68 (j := 26) rfl rfl) rfl
theorem dX10_howMany_95 : decode cX10_howMany 95 = .ok (.invokevirtual 282, 3) := dc_182 (bq_nm bk_X10_howMany_68 (j := 27) rfl rfl) (bq_nm bk_X10_howMany_68 (j := 28) rfl rfl) (bq_nm bk_X10_howMany_68 (j := 29) rfl rfl) rfl
theorem dX10_howMany_98 : decode cX10_howMany 98 = .ok (.ireturn, 1) := dc_172 (bq_nm bk_X10_howMany_68 (j := 30) rfl rfl)
set_option maxRecDepth 20000 in
theorem bk_X10_isNextDay_0 : ((cX10_isNextDay.data.toList.drop 0).take 32).length = 32 ∧ eN (((cX10_isNextDay.data.toList.drop 0).take 32).map UInt8.toNat) = 1859841214019481540092836354263789802650428477431728905977699272303640097834 := by decide +kernel
theorem dX10_isNextDay_0 : decode cX10_isNextDay 0 = .ok (.aload_n 0, 1) := dc_42 (bq_nm bk_X10_isNextDay_0 (j := 0) rfl rfl)
theorem dX10_isNextDay_1 : decode cX10_isNextDay 1 = .ok (.getfield 20, 3) := dc_180 (bq_nm bk_X10_isNextDay_0 (j := 1) rfl rfl) (bq_nm bk_X10_isNextDay_0 (j := 2) rfl rfl) (bq_nm bk_X10_isNextDay_0 (j := 3) rfl rfl) rfl
theorem dX10_isNextDay_4 : decode cX10_isNextDay 4 = .ok (.getfield 162, 3) := dc_180 (bq_nm bk_X10_isNextDay_0 (j := 4) rfl rfl) (bq_nm bk_X10_isNextDay_0 (j := 5) rfl rfl) (bq_nm bk_X10_isNextDay_0 (j := 6) rfl rfl) rfl
theorem dX10_isNextDay_7 : decode cX10_isNextDay 7 = .ok (.invokevirtual 195, 3) := dc_182 (bq_nm bk_X10_isNextDay_0 (j := 7) rfl rfl) (bq_nm bk_X10_isNextDay_0 (j := 8) rfl rfl) (bq_nm bk_X10_isNextDay_0 (j := 9) rfl rfl) rfl
theorem dX10_isNextDay_10 : decode cX10_isNextDay 10 = .ok (.istore_n 2, 1) := dc_61 (bq_nm bk_X10_isNextDay_0 (j := 10) rfl rfl)
theorem dX10_isNextDay_11 : decode cX10_isNextDay 11 = .ok (.iload_n 1, 1) := dc_27 (bq_nm bk_X10_isNextDay_0 (j := 11) rfl rfl)
theorem dX10_isNextDay_12 : decode cX10_isNextDay 12 = .ok (.invokestatic 79, 3) := dc_184 (bq_nm bk_X10_isNextDay_0 (j := 12) rfl rfl) (bq_nm bk_X10_isNextDay_0 (j := 13) rfl rfl) (bq_nm bk_X10_isNextDay_0 (j := 14) rfl rfl) rfl
theorem dX10_isNextDay_15 : decode cX10_isNextDay 15 = .ok (.ifCond .eq 29, 3) := dc_153 (bq_nm bk_X10_isNextDay_0 (j := 15) rfl rfl) (bq_nm bk_X10_isNextDay_0 (j := 16) rfl rfl) (bq_nm bk_X10_isNextDay_0 (j := 17) rfl rfl) rfl
theorem dX10_isNextDay_18 : decode cX10_isNextDay 18 = .ok (.iload_n 2, 1) := dc_28 (bq_nm bk_X10_isNextDay_0 (j := 18) rfl rfl)
theorem dX10_isNextDay_19 : decode cX10_isNextDay 19 = .ok (.ifCond .eq 21, 3) := dc_153 (bq_nm bk_X10_isNextDay_0 (j := 19) rfl rfl) (bq_nm bk_X10_isNextDay_0 (j := 20) rfl rfl) (bq_nm bk_X10_isNextDay_0 (j := 21) rfl rfl) rfl
theorem dX10_isNextDay_22 : decode cX10_isNextDay 22 = .ok (.iload_n 1, 1) := dc_27 (bq_nm bk_X10_isNextDay_0 (j := 22) rfl rfl)
theorem dX10_isNextDay_23 : decode cX10_isNextDay 23 = .ok (.aload_n 0, 1) := dc_42 (bq_nm bk_X10_isNextDay_0 (j := 23) rfl rfl)
theorem dX10_isNextDay_24 : decode cX10_isNextDay 24 = .ok (.getfield 20, 3) := dc_180 (bq_nm bk_X10_isNextDay_0 (j := 24) rfl rfl) (bq_nm bk_X10_isNextDay_0 (j := 25) rfl rfl) (bq_nm bk_X10_isNextDay_0 (j := 26) rfl rfl) rfl
theorem dX10_isNextDay_27 : decode cX10_isNextDay 27 = .ok (.getfield 162, 3) := dc_180 (bq_nm bk_X10_isNextDay_0 (j := 27) rfl rfl) (bq_nm bk_X10_isNextDay_0 (j := 28) rfl rfl) (bq_nm bk_X10_isNextDay_0 (j := 29) rfl rfl) rfl
theorem dX10_isNextDay_30 : decode cX10_isNextDay 30 = .ok (.iload_n 2, 1) := dc_28 (bq_nm bk_X10_isNextDay_0 (j := 30) rfl rfl)
theorem dX10_isNextDay_31 : decode cX10_isNextDay 31 = .ok (.iconst 1, 1) := dc_4 (bq_nm bk_X10_isNextDay_0 (j := 31) rfl rfl)
set_option maxRecDepth 20000 in
theorem bk_X10_isNextDay_32 : ((cX10_isNextDay.data.toList.drop 32).take 14).length = 14 ∧ eN (((cX10_isNextDay.data.toList.drop 32).take 14).map UInt8.toNat) = 3488813375044378885508306465850212 := by decide +kernel
theorem dX10_isNextDay_32 : decode cX10_isNextDay 32 = .ok (.isub, 1) := dc_100 (bq_nm bk_X10_isNextDay_32 (j := 0) rfl rfl)
theorem dX10_isNextDay_33 : decode cX10_isNextDay 33 = .ok (.iconst 0, 1) := dc_3 (bq_nm bk_X10_isNextDay_32 (j := 1) rfl rfl)
theorem dX10_isNextDay_34 : decode cX10_isNextDay 34 = .ok (.invokevirtual 144, 3) := dc_182 (bq_nm bk_X10_isNextDay_32 (j := 2) rfl rfl) (bq_nm bk_X10_isNextDay_32 (j := 3) rfl rfl) (bq_nm bk_X10_isNextDay_32 (j := 4) rfl rfl) rfl
theorem dX10_isNextDay_37 : decode cX10_isNextDay 37 = .ok (.if_icmp .lt 7, 3) := dc_161 (bq_nm bk_X10_isNextDay_32 (j := 5) rfl rfl) (bq_nm bk_X10_isNextDay_32 (j := 6) rfl rfl) (bq_nm bk_X10_isNextDay_32 (j := 7) rfl rfl) rfl
theorem dX10_isNextDay_40 : decode cX10_isNextDay 40 = .ok (.iconst 1, 1) := dc_4 (bq_nm bk_X10_isNextDay_32 (j := 8) rfl rfl)
theorem dX10_isNextDay_41 : decode cX10_isNextDay 41 = .ok (.goto 4, 3) := dc_167 (bq_nm bk_X10_isNextDay_32 (j := 9) rfl rfl) (bq_nm bk_X10_isNextDay_32 (j := 10) rfl rfl) (bq_nm bk_X10_isNextDay_32 (j := 11) rfl rfl) rfl
theorem dX10_isNextDay_44 : decode cX10_isNextDay 44 = .ok (.iconst 0, 1) := dc_3 (bq_nm bk_X10_isNextDay_32 (j := 12) rfl rfl)
theorem dX10_isNextDay_45 : decode cX10_isNextDay 45 = .ok (.ireturn, 1) := dc_172 (bq_nm bk_X10_isNextDay_32 (j := 13) rfl rfl)
set_option maxRecDepth 20000 in
theorem bk_X10_within_0 : ((cX10_within.data.toList.drop 0).take 16).length = 16 ∧ eN (((cX10_within.data.toList.drop 0).take 16).map UInt8.toNat) = 228642873346908414640783864493848468250 := by decide +kernel
theorem dX10_within_0 : decode cX10_within 0 = .ok (.iload_n 0, 1) := dc_26 (bq_nm bk_X10_within_0 (j := 0) rfl rfl)
theorem dX10_within_1 : decode cX10_within 1 = .ok (.iload_n 1, 1) := dc_27 (bq_nm bk_X10_within_0 (j := 1) rfl rfl)
theorem dX10_within_2 : decode cX10_within 2 = .ok (.if_icmp .lt 12, 3) := dc_161 (bq_nm bk_X10_within_0 (j := 2) rfl rfl) (bq_nm bk_X10_within_0 (j := 3) rfl rfl) (bq_nm bk_X10_within_0 (j := 4) rfl rfl) rfl
theorem dX10_within_5 : decode cX10_within 5 = .ok (.iload_n 0, 1) := dc_26 (bq_nm bk_X10_within_0 (j := 5) rfl rfl)
theorem dX10_within_6 : decode cX10_within 6 = .ok (.iload_n 2, 1) := dc_28 (bq_nm bk_X10_within_0 (j := 6) rfl rfl)
theorem dX10_within_7 : decode cX10_within 7 = .ok (.if_icmp .gt 7, 3) := dc_163 (bq_nm bk_X10_within_0 (j := 7) rfl rfl) (bq_nm bk_X10_within_0 (j := 8) rfl rfl) (bq_nm bk_X10_within_0 (j := 9) rfl rfl) rfl
theorem dX10_within_10 : decode cX10_within 10 = .ok (.iconst 1, 1) := dc_4 (bq_nm bk_X10_within_0 (j := 10) rfl rfl)
theorem dX10_within_11 : decode cX10_within 11 = .ok (.goto 4, 3) := dc_167 (bq_nm bk_X10_within_0 (j := 11) rfl rfl) (bq_nm bk_X10_within_0 (j := 12) rfl rfl) (bq_nm bk_X10_within_0 (j := 13) rfl rfl) rfl
theorem dX10_within_14 : decode cX10_within 14 = .ok (.iconst 0, 1) := dc_3 (bq_nm bk_X10_within_0 (j := 14) rfl rfl)
theorem dX10_within_15 : decode cX10_within 15 = .ok (.ireturn, 1) := dc_172 (bq_nm bk_X10_within_0 (j := 15) rfl rfl)
set_option maxRecDepth 20000 in
theorem bk_X10_isDay_0 : ((cX10_isDay.data.toList.drop 0).take 9).length = 9 ∧ eN (((cX10_isDay.data.toList.drop 0).take 9).map UInt8.toNat) = 3176659235537272505114 := by decide +kernel
theorem dX10_isDay_0 : decode cX10_isDay 0 = .ok (.iload_n 0, 1) := dc_26 (bq_nm bk_X10_isDay_0 (j := 0) rfl rfl)
theorem dX10_isDay_1 : decode cX10_isDay 1 = .ok (.iconst 0, 1) := dc_3 (bq_nm bk_X10_isDay_0 (j := 1) rfl rfl)
theorem dX10_isDay_2 : decode cX10_isDay 2 = .ok (.sipush 9999, 3) := dc_17 (bq_nm bk_X10_isDay_0 (j := 2) rfl rfl) (bq_nm bk_X10_isDay_0 (j := 3) rfl rfl) (bq_nm bk_X10_isDay_0 (j := 4) rfl rfl) rfl
theorem dX10_isDay_5 : decode cX10_isDay 5 = .ok (.invokestatic 53, 3) := dc_184 (bq_nm bk_X10_isDay_0 (j := 5) rfl rfl) (bq_nm bk_X10_isDay_0 (j := 6) rfl rfl) (bq_nm bk_X10_isDay_0 (j := 7) rfl rfl) rfl
theorem dX10_isDay_8 : decode cX10_isDay 8 = .ok (.ireturn, 1) := dc_172 (bq_nm bk_X10_isDay_0 (j := 8) rfl rfl)
set_option maxRecDepth 20000 in
theorem bk_X10_isText_0 : ((cX10_isText.data.toList.drop 0).take 7).length = 7 ∧ eN (((cX10_isText.data.toList.drop 0).take 7).map UInt8.toNat) = 48471973197906714 := by decide +kernel
theorem dX10_isText_0 : decode cX10_isText 0 = .ok (.iload_n 0, 1) := dc_26 (bq_nm bk_X10_isText_0 (j := 0) rfl rfl)
theorem dX10_isText_1 : decode cX10_isText 1 = .ok (.iconst 0, 1) := dc_3 (bq_nm bk_X10_isText_0 (j := 1) rfl rfl)
theorem dX10_isText_2 : decode cX10_isText 2 = .ok (.iconst 3, 1) := dc_6 (bq_nm bk_X10_isText_0 (j := 2) rfl rfl)
theorem dX10_isText_3 : decode cX10_isText 3 = .ok (.invokestatic 53, 3) := dc_184 (bq_nm bk_X10_isText_0 (j := 3) rfl rfl) (bq_nm bk_X10_isText_0 (j := 4) rfl rfl) (bq_nm bk_X10_isText_0 (j := 5) rfl rfl) rfl
theorem dX10_isText_6 : decode cX10_isText 6 = .ok (.ireturn, 1) := dc_172 (bq_nm bk_X10_isText_0 (j := 6) rfl rfl)
set_option maxRecDepth 20000 in
theorem bk_X10_isSort_0 : ((cX10_isSort.data.toList.drop 0).take 15).length = 15 ∧ eN (((cX10_isSort.data.toList.drop 0).take 15).map UInt8.toNat) = 893136224011360994689691157402786074 := by decide +kernel
theorem dX10_isSort_0 : decode cX10_isSort 0 = .ok (.iload_n 0, 1) := dc_26 (bq_nm bk_X10_isSort_0 (j := 0) rfl rfl)
theorem dX10_isSort_1 : decode cX10_isSort 1 = .ok (.ifCond .eq 8, 3) := dc_153 (bq_nm bk_X10_isSort_0 (j := 1) rfl rfl) (bq_nm bk_X10_isSort_0 (j := 2) rfl rfl) (bq_nm bk_X10_isSort_0 (j := 3) rfl rfl) rfl
theorem dX10_isSort_4 : decode cX10_isSort 4 = .ok (.iload_n 0, 1) := dc_26 (bq_nm bk_X10_isSort_0 (j := 4) rfl rfl)
theorem dX10_isSort_5 : decode cX10_isSort 5 = .ok (.iconst 1, 1) := dc_4 (bq_nm bk_X10_isSort_0 (j := 5) rfl rfl)
theorem dX10_isSort_6 : decode cX10_isSort 6 = .ok (.if_icmp .ne 7, 3) := dc_160 (bq_nm bk_X10_isSort_0 (j := 6) rfl rfl) (bq_nm bk_X10_isSort_0 (j := 7) rfl rfl) (bq_nm bk_X10_isSort_0 (j := 8) rfl rfl) rfl
theorem dX10_isSort_9 : decode cX10_isSort 9 = .ok (.iconst 1, 1) := dc_4 (bq_nm bk_X10_isSort_0 (j := 9) rfl rfl)
theorem dX10_isSort_10 : decode cX10_isSort 10 = .ok (.goto 4, 3) := dc_167 (bq_nm bk_X10_isSort_0 (j := 10) rfl rfl) (bq_nm bk_X10_isSort_0 (j := 11) rfl rfl) (bq_nm bk_X10_isSort_0 (j := 12) rfl rfl) rfl
theorem dX10_isSort_13 : decode cX10_isSort 13 = .ok (.iconst 0, 1) := dc_3 (bq_nm bk_X10_isSort_0 (j := 13) rfl rfl)
theorem dX10_isSort_14 : decode cX10_isSort 14 = .ok (.ireturn, 1) := dc_172 (bq_nm bk_X10_isSort_0 (j := 14) rfl rfl)
set_option maxRecDepth 20000 in
theorem bk_X10_yearOf_0 : ((cX10_yearOf.data.toList.drop 0).take 8).length = 8 ∧ eN (((cX10_yearOf.data.toList.drop 0).take 8).map UInt8.toNat) = 12421046949310522384 := by decide +kernel
theorem dX10_yearOf_0 : decode cX10_yearOf 0 = .ok (.bipush 100, 2) := dc_16 (bq_nm bk_X10_yearOf_0 (j := 0) rfl rfl) (bq_nm bk_X10_yearOf_0 (j := 1) rfl rfl) rfl
theorem dX10_yearOf_2 : decode cX10_yearOf 2 = .ok (.iload_n 0, 1) := dc_26 (bq_nm bk_X10_yearOf_0 (j := 2) rfl rfl)
theorem dX10_yearOf_3 : decode cX10_yearOf 3 = .ok (.bipush 100, 2) := dc_16 (bq_nm bk_X10_yearOf_0 (j := 3) rfl rfl) (bq_nm bk_X10_yearOf_0 (j := 4) rfl rfl) rfl
theorem dX10_yearOf_5 : decode cX10_yearOf 5 = .ok (.idiv, 1) := dc_108 (bq_nm bk_X10_yearOf_0 (j := 5) rfl rfl)
theorem dX10_yearOf_6 : decode cX10_yearOf 6 = .ok (.iadd, 1) := dc_96 (bq_nm bk_X10_yearOf_0 (j := 6) rfl rfl)
theorem dX10_yearOf_7 : decode cX10_yearOf 7 = .ok (.ireturn, 1) := dc_172 (bq_nm bk_X10_yearOf_0 (j := 7) rfl rfl)
set_option maxRecDepth 20000 in
theorem bk_X10_hasBit_0 : ((cX10_hasBit.data.toList.drop 0).take 14).length = 14 ∧ eN (((cX10_hasBit.data.toList.drop 0).take 14).map UInt8.toNat) = 3488813375044378885499435066524698 := by decide +kernel
theorem dX10_hasBit_0 : decode cX10_hasBit 0 = .ok (.iload_n 0, 1) := dc_26 (bq_nm bk_X10_hasBit_0 (j := 0) rfl rfl)
theorem dX10_hasBit_1 : decode cX10_hasBit 1 = .ok (.iconst 1, 1) := dc_4 (bq_nm bk_X10_hasBit_0 (j := 1) rfl rfl)
theorem dX10_hasBit_2 : decode cX10_hasBit 2 = .ok (.iload_n 1, 1) := dc_27 (bq_nm bk_X10_hasBit_0 (j := 2) rfl rfl)
theorem dX10_hasBit_3 : decode cX10_hasBit 3 = .ok (.ishl, 1) := dc_120 (bq_nm bk_X10_hasBit_0 (j := 3) rfl rfl)
theorem dX10_hasBit_4 : decode cX10_hasBit 4 = .ok (.iand, 1) := dc_126 (bq_nm bk_X10_hasBit_0 (j := 4) rfl rfl)
theorem dX10_hasBit_5 : decode cX10_hasBit 5 = .ok (.ifCond .eq 7, 3) := dc_153 (bq_nm bk_X10_hasBit_0 (j := 5) rfl rfl) (bq_nm bk_X10_hasBit_0 (j := 6) rfl rfl) (bq_nm bk_X10_hasBit_0 (j := 7) rfl rfl) rfl
theorem dX10_hasBit_8 : decode cX10_hasBit 8 = .ok (.iconst 1, 1) := dc_4 (bq_nm bk_X10_hasBit_0 (j := 8) rfl rfl)
theorem dX10_hasBit_9 : decode cX10_hasBit 9 = .ok (.goto 4, 3) := dc_167 (bq_nm bk_X10_hasBit_0 (j := 9) rfl rfl) (bq_nm bk_X10_hasBit_0 (j := 10) rfl rfl) (bq_nm bk_X10_hasBit_0 (j := 11) rfl rfl) rfl
theorem dX10_hasBit_12 : decode cX10_hasBit 12 = .ok (.iconst 0, 1) := dc_3 (bq_nm bk_X10_hasBit_0 (j := 12) rfl rfl)
theorem dX10_hasBit_13 : decode cX10_hasBit 13 = .ok (.ireturn, 1) := dc_172 (bq_nm bk_X10_hasBit_0 (j := 13) rfl rfl)
set_option maxRecDepth 20000 in
theorem bk_X10_lowBits_0 : ((cX10_lowBits.data.toList.drop 0).take 6).length = 6 ∧ eN (((cX10_lowBits.data.toList.drop 0).take 6).map UInt8.toNat) = 189545571686916 := by decide +kernel
theorem dX10_lowBits_0 : decode cX10_lowBits 0 = .ok (.iconst 1, 1) := dc_4 (bq_nm bk_X10_lowBits_0 (j := 0) rfl rfl)
theorem dX10_lowBits_1 : decode cX10_lowBits 1 = .ok (.iload_n 0, 1) := dc_26 (bq_nm bk_X10_lowBits_0 (j := 1) rfl rfl)
theorem dX10_lowBits_2 : decode cX10_lowBits 2 = .ok (.ishl, 1) := dc_120 (bq_nm bk_X10_lowBits_0 (j := 2) rfl rfl)
theorem dX10_lowBits_3 : decode cX10_lowBits 3 = .ok (.iconst 1, 1) := dc_4 (bq_nm bk_X10_lowBits_0 (j := 3) rfl rfl)
theorem dX10_lowBits_4 : decode cX10_lowBits 4 = .ok (.isub, 1) := dc_100 (bq_nm bk_X10_lowBits_0 (j := 4) rfl rfl)
theorem dX10_lowBits_5 : decode cX10_lowBits 5 = .ok (.ireturn, 1) := dc_172 (bq_nm bk_X10_lowBits_0 (j := 5) rfl rfl)
set_option maxRecDepth 20000 in
theorem bk_X10_likesColumn_0 : ((cX10_likesColumn.data.toList.drop 0).take 10).length = 10 ∧ eN (((cX10_likesColumn.data.toList.drop 0).take 10).map UInt8.toNat) = 814019895175770210437648 := by decide +kernel
theorem dX10_likesColumn_0 : decode cX10_likesColumn 0 = .ok (.bipush 10, 2) := dc_16 (bq_nm bk_X10_likesColumn_0 (j := 0) rfl rfl) (bq_nm bk_X10_likesColumn_0 (j := 1) rfl rfl) rfl
theorem dX10_likesColumn_2 : decode cX10_likesColumn 2 = .ok (.iload_n 0, 1) := dc_26 (bq_nm bk_X10_likesColumn_0 (j := 2) rfl rfl)
theorem dX10_likesColumn_3 : decode cX10_likesColumn 3 = .ok (.bipush 30, 2) := dc_16 (bq_nm bk_X10_likesColumn_0 (j := 3) rfl rfl) (bq_nm bk_X10_likesColumn_0 (j := 4) rfl rfl) rfl
theorem dX10_likesColumn_5 : decode cX10_likesColumn 5 = .ok (.imul, 1) := dc_104 (bq_nm bk_X10_likesColumn_0 (j := 5) rfl rfl)
theorem dX10_likesColumn_6 : decode cX10_likesColumn 6 = .ok (.iadd, 1) := dc_96 (bq_nm bk_X10_likesColumn_0 (j := 6) rfl rfl)
theorem dX10_likesColumn_7 : decode cX10_likesColumn 7 = .ok (.iload_n 1, 1) := dc_27 (bq_nm bk_X10_likesColumn_0 (j := 7) rfl rfl)
theorem dX10_likesColumn_8 : decode cX10_likesColumn 8 = .ok (.iadd, 1) := dc_96 (bq_nm bk_X10_likesColumn_0 (j := 8) rfl rfl)
theorem dX10_likesColumn_9 : decode cX10_likesColumn 9 = .ok (.ireturn, 1) := dc_172 (bq_nm bk_X10_likesColumn_0 (j := 9) rfl rfl)
set_option maxRecDepth 20000 in
theorem bk_X10_ways_0 : ((cX10_ways.data.toList.drop 0).take 31).length = 31 ∧ eN (((cX10_ways.data.toList.drop 0).take 31).map UInt8.toNat) = 186439462650782475578324923456808279665751262722004482873265812741581478683 := by decide +kernel
theorem dX10_ways_0 : decode cX10_ways 0 = .ok (.iload_n 1, 1) := dc_27 (bq_nm bk_X10_ways_0 (j := 0) rfl rfl)
theorem dX10_ways_1 : decode cX10_ways 1 = .ok (.ifCond .lt 8, 3) := dc_155 (bq_nm bk_X10_ways_0 (j := 1) rfl rfl) (bq_nm bk_X10_ways_0 (j := 2) rfl rfl) (bq_nm bk_X10_ways_0 (j := 3) rfl rfl) rfl
theorem dX10_ways_4 : decode cX10_ways 4 = .ok (.iload_n 1, 1) := dc_27 (bq_nm bk_X10_ways_0 (j := 4) rfl rfl)
theorem dX10_ways_5 : decode cX10_ways 5 = .ok (.iload_n 0, 1) := dc_26 (bq_nm bk_X10_ways_0 (j := 5) rfl rfl)
theorem dX10_ways_6 : decode cX10_ways 6 = .ok (.if_icmp .le 5, 3) := dc_164 (bq_nm bk_X10_ways_0 (j := 6) rfl rfl) (bq_nm bk_X10_ways_0 (j := 7) rfl rfl) (bq_nm bk_X10_ways_0 (j := 8) rfl rfl) rfl
theorem dX10_ways_9 : decode cX10_ways 9 = .ok (.lconst 0, 1) := dc_9 (bq_nm bk_X10_ways_0 (j := 9) rfl rfl)
theorem dX10_ways_10 : decode cX10_ways 10 = .ok (.lreturn, 1) := dc_173 (bq_nm bk_X10_ways_0 (j := 10) rfl rfl)
theorem dX10_ways_11 : decode cX10_ways 11 = .ok (.lconst 1, 1) := dc_10 (bq_nm bk_X10_ways_0 (j := 11) rfl rfl)
theorem dX10_ways_12 : decode cX10_ways 12 = .ok (.lstore_n 2, 1) := dc_65 (bq_nm bk_X10_ways_0 (j := 12) rfl rfl)
theorem dX10_ways_13 : decode cX10_ways 13 = .ok (.iconst 1, 1) := dc_4 (bq_nm bk_X10_ways_0 (j := 13) rfl rfl)
theorem dX10_ways_14 : decode cX10_ways 14 = .ok (.istore 4, 2) := dc_54 (bq_nm bk_X10_ways_0 (j := 14) rfl rfl) (bq_nm bk_X10_ways_0 (j := 15) rfl rfl)
theorem dX10_ways_16 : decode cX10_ways 16 = .ok (.iload 4, 2) := dc_21 (bq_nm bk_X10_ways_0 (j := 16) rfl rfl) (bq_nm bk_X10_ways_0 (j := 17) rfl rfl)
theorem dX10_ways_18 : decode cX10_ways 18 = .ok (.iload_n 1, 1) := dc_27 (bq_nm bk_X10_ways_0 (j := 18) rfl rfl)
theorem dX10_ways_19 : decode cX10_ways 19 = .ok (.if_icmp .gt 23, 3) := dc_163 (bq_nm bk_X10_ways_0 (j := 19) rfl rfl) (bq_nm bk_X10_ways_0 (j := 20) rfl rfl) (bq_nm bk_X10_ways_0 (j := 21) rfl rfl) rfl
theorem dX10_ways_22 : decode cX10_ways 22 = .ok (.lload_n 2, 1) := dc_32 (bq_nm bk_X10_ways_0 (j := 22) rfl rfl)
theorem dX10_ways_23 : decode cX10_ways 23 = .ok (.iload_n 0, 1) := dc_26 (bq_nm bk_X10_ways_0 (j := 23) rfl rfl)
theorem dX10_ways_24 : decode cX10_ways 24 = .ok (.iload_n 1, 1) := dc_27 (bq_nm bk_X10_ways_0 (j := 24) rfl rfl)
theorem dX10_ways_25 : decode cX10_ways 25 = .ok (.isub, 1) := dc_100 (bq_nm bk_X10_ways_0 (j := 25) rfl rfl)
theorem dX10_ways_26 : decode cX10_ways 26 = .ok (.iload 4, 2) := dc_21 (bq_nm bk_X10_ways_0 (j := 26) rfl rfl) (bq_nm bk_X10_ways_0 (j := 27) rfl rfl)
theorem dX10_ways_28 : decode cX10_ways 28 = .ok (.iadd, 1) := dc_96 (bq_nm bk_X10_ways_0 (j := 28) rfl rfl)
theorem dX10_ways_29 : decode cX10_ways 29 = .ok (.i2l, 1) := dc_133 (bq_nm bk_X10_ways_0 (j := 29) rfl rfl)
theorem dX10_ways_30 : decode cX10_ways 30 = .ok (.lmul, 1) := dc_105 (bq_nm bk_X10_ways_0 (j := 30) rfl rfl)
set_option maxRecDepth 20000 in
theorem bk_X10_ways_31 : ((cX10_ways.data.toList.drop 31).take 13).length = 13 ∧ eN (((cX10_ways.data.toList.drop 31).take 13).map UInt8.toNat) = 13716658522282116375459517498389 := by decide +kernel
theorem dX10_ways_31 : decode cX10_ways 31 = .ok (.iload 4, 2) := dc_21 (bq_nm bk_X10_ways_31 (j := 0) rfl rfl) (bq_nm bk_X10_ways_31 (j := 1) rfl rfl)
theorem dX10_ways_33 : decode cX10_ways 33 = .ok (.i2l, 1) := dc_133 (bq_nm bk_X10_ways_31 (j := 2) rfl rfl)
theorem dX10_ways_34 : decode cX10_ways 34 = .ok (.ldiv, 1) := dc_109 (bq_nm bk_X10_ways_31 (j := 3) rfl rfl)
theorem dX10_ways_35 : decode cX10_ways 35 = .ok (.lstore_n 2, 1) := dc_65 (bq_nm bk_X10_ways_31 (j := 4) rfl rfl)
theorem dX10_ways_36 : decode cX10_ways 36 = .ok (.iinc 4 1, 3) := dc_132 (bq_nm bk_X10_ways_31 (j := 5) rfl rfl) (bq_nm bk_X10_ways_31 (j := 6) rfl rfl) (bq_nm bk_X10_ways_31 (j := 7) rfl rfl) rfl
theorem dX10_ways_39 : decode cX10_ways 39 = .ok (.goto (-23), 3) := dc_167 (bq_nm bk_X10_ways_31 (j := 8) rfl rfl) (bq_nm bk_X10_ways_31 (j := 9) rfl rfl) (bq_nm bk_X10_ways_31 (j := 10) rfl rfl) rfl
theorem dX10_ways_42 : decode cX10_ways 42 = .ok (.lload_n 2, 1) := dc_32 (bq_nm bk_X10_ways_31 (j := 11) rfl rfl)
theorem dX10_ways_43 : decode cX10_ways 43 = .ok (.lreturn, 1) := dc_173 (bq_nm bk_X10_ways_31 (j := 12) rfl rfl)
set_option maxRecDepth 20000 in
theorem bk_X11_in_0 : ((cX11_in.data.toList.drop 0).take 19).length = 19 ∧ eN (((cX11_in.data.toList.drop 0).take 19).map UInt8.toNat) = 3835990873001725404639306027888771831547830302 := by decide +kernel
theorem dX11_in_0 : decode cX11_in 0 = .ok (.lload_n 0, 1) := dc_30 (bq_nm bk_X11_in_0 (j := 0) rfl rfl)
theorem dX11_in_1 : decode cX11_in 1 = .ok (.lload_n 2, 1) := dc_32 (bq_nm bk_X11_in_0 (j := 1) rfl rfl)
theorem dX11_in_2 : decode cX11_in 2 = .ok (.lcmp, 1) := dc_148 (bq_nm bk_X11_in_0 (j := 2) rfl rfl)
theorem dX11_in_3 : decode cX11_in 3 = .ok (.ifCond .lt 14, 3) := dc_155 (bq_nm bk_X11_in_0 (j := 3) rfl rfl) (bq_nm bk_X11_in_0 (j := 4) rfl rfl) (bq_nm bk_X11_in_0 (j := 5) rfl rfl) rfl
theorem dX11_in_6 : decode cX11_in 6 = .ok (.lload_n 0, 1) := dc_30 (bq_nm bk_X11_in_0 (j := 6) rfl rfl)
theorem dX11_in_7 : decode cX11_in 7 = .ok (.lload 4, 2) := dc_22 (bq_nm bk_X11_in_0 (j := 7) rfl rfl) (bq_nm bk_X11_in_0 (j := 8) rfl rfl)
theorem dX11_in_9 : decode cX11_in 9 = .ok (.lcmp, 1) := dc_148 (bq_nm bk_X11_in_0 (j := 9) rfl rfl)
theorem dX11_in_10 : decode cX11_in 10 = .ok (.ifCond .gt 7, 3) := dc_157 (bq_nm bk_X11_in_0 (j := 10) rfl rfl) (bq_nm bk_X11_in_0 (j := 11) rfl rfl) (bq_nm bk_X11_in_0 (j := 12) rfl rfl) rfl
theorem dX11_in_13 : decode cX11_in 13 = .ok (.iconst 1, 1) := dc_4 (bq_nm bk_X11_in_0 (j := 13) rfl rfl)
theorem dX11_in_14 : decode cX11_in 14 = .ok (.goto 4, 3) := dc_167 (bq_nm bk_X11_in_0 (j := 14) rfl rfl) (bq_nm bk_X11_in_0 (j := 15) rfl rfl) (bq_nm bk_X11_in_0 (j := 16) rfl rfl) rfl
theorem dX11_in_17 : decode cX11_in 17 = .ok (.iconst 0, 1) := dc_3 (bq_nm bk_X11_in_0 (j := 17) rfl rfl)
theorem dX11_in_18 : decode cX11_in 18 = .ok (.ireturn, 1) := dc_172 (bq_nm bk_X11_in_0 (j := 18) rfl rfl)
set_option maxRecDepth 20000 in
theorem bk_X11_init_0 : ((cX11_init.data.toList.drop 0).take 32).length = 32 ∧ eN (((cX11_init.data.toList.drop 0).take 32).map UInt8.toNat) = 31690459258645279902688048118783101517662188939522153108202754287271688582954 := by decide +kernel
theorem dX11_init_0 : decode cX11_init 0 = .ok (.aload_n 0, 1) := dc_42 (bq_nm bk_X11_init_0 (j := 0) rfl rfl)
theorem dX11_init_1 : decode cX11_init 1 = .ok (.invokespecial 1, 3) := dc_183 (bq_nm bk_X11_init_0 (j := 1) rfl rfl) (bq_nm bk_X11_init_0 (j := 2) rfl rfl) (bq_nm bk_X11_init_0 (j := 3) rfl rfl) rfl
theorem dX11_init_4 : decode cX11_init 4 = .ok (.aload_n 0, 1) := dc_42 (bq_nm bk_X11_init_0 (j := 4) rfl rfl)
theorem dX11_init_5 : decode cX11_init 5 = .ok (.sipush 2246, 3) := dc_17 (bq_nm bk_X11_init_0 (j := 5) rfl rfl) (bq_nm bk_X11_init_0 (j := 6) rfl rfl) (bq_nm bk_X11_init_0 (j := 7) rfl rfl) rfl
theorem dX11_init_8 : decode cX11_init 8 = .ok (.newarray .int, 2) := dc_188_10 (bq_nm bk_X11_init_0 (j := 8) rfl rfl) (bq_nm bk_X11_init_0 (j := 9) rfl rfl)
theorem dX11_init_10 : decode cX11_init 10 = .ok (.putfield 7, 3) := dc_181 (bq_nm bk_X11_init_0 (j := 10) rfl rfl) (bq_nm bk_X11_init_0 (j := 11) rfl rfl) (bq_nm bk_X11_init_0 (j := 12) rfl rfl) rfl
theorem dX11_init_13 : decode cX11_init 13 = .ok (.aload_n 0, 1) := dc_42 (bq_nm bk_X11_init_0 (j := 13) rfl rfl)
theorem dX11_init_14 : decode cX11_init 14 = .ok (.sipush 4492, 3) := dc_17 (bq_nm bk_X11_init_0 (j := 14) rfl rfl) (bq_nm bk_X11_init_0 (j := 15) rfl rfl) (bq_nm bk_X11_init_0 (j := 16) rfl rfl) rfl
theorem dX11_init_17 : decode cX11_init 17 = .ok (.newarray .int, 2) := dc_188_10 (bq_nm bk_X11_init_0 (j := 17) rfl rfl) (bq_nm bk_X11_init_0 (j := 18) rfl rfl)
theorem dX11_init_19 : decode cX11_init 19 = .ok (.putfield 13, 3) := dc_181 (bq_nm bk_X11_init_0 (j := 19) rfl rfl) (bq_nm bk_X11_init_0 (j := 20) rfl rfl) (bq_nm bk_X11_init_0 (j := 21) rfl rfl) rfl
theorem dX11_init_22 : decode cX11_init 22 = .ok (.aload_n 0, 1) := dc_42 (bq_nm bk_X11_init_0 (j := 22) rfl rfl)
theorem dX11_init_23 : decode cX11_init 23 = .ok (.iconst 2, 1) := dc_5 (bq_nm bk_X11_init_0 (j := 23) rfl rfl)
theorem dX11_init_24 : decode cX11_init 24 = .ok (.newarray .boolean, 2) := dc_188_4 (bq_nm bk_X11_init_0 (j := 24) rfl rfl) (bq_nm bk_X11_init_0 (j := 25) rfl rfl)
theorem dX11_init_26 : decode cX11_init 26 = .ok (.putfield 16, 3) := dc_181 (bq_nm bk_X11_init_0 (j := 26) rfl rfl) (bq_nm bk_X11_init_0 (j := 27) rfl rfl) (bq_nm bk_X11_init_0 (j := 28) rfl rfl) rfl
theorem dX11_init_29 : decode cX11_init 29 = .ok (.aload_n 0, 1) := dc_42 (bq_nm bk_X11_init_0 (j := 29) rfl rfl)
theorem dX11_init_30 : decode cX11_init 30 = .ok (.bipush 70, 2) := dc_16 (bq_nm bk_X11_init_0 (j := 30) rfl rfl) (bq_nm bk_X11_init_0 (j := 31) rfl rfl) rfl
set_option maxRecDepth 20000 in
theorem bk_X11_init_32 : ((cX11_init.data.toList.drop 32).take 32).length = 32 ∧ eN (((cX11_init.data.toList.drop 32).take 32).map UInt8.toNat) = 5004001542711880911777865755569471246445241952602644867817357278878499146428 := by decide +kernel
theorem dX11_init_32 : decode cX11_init 32 = .ok (.newarray .int, 2) := dc_188_10 (bq_nm bk_X11_init_32 (j := 0) rfl rfl) (bq_nm bk_X11_init_32 (j := 1) rfl rfl)
theorem dX11_init_34 : decode cX11_init 34 = .ok (.putfield 20, 3) := dc_181 (bq_nm bk_X11_init_32 (j := 2) rfl rfl) (bq_nm bk_X11_init_32 (j := 3) rfl rfl) (bq_nm bk_X11_init_32 (j := 4) rfl rfl) rfl
theorem dX11_init_37 : decode cX11_init 37 = .ok (.aload_n 0, 1) := dc_42 (bq_nm bk_X11_init_32 (j := 5) rfl rfl)
theorem dX11_init_38 : decode cX11_init 38 = .ok (.bipush 70, 2) := dc_16 (bq_nm bk_X11_init_32 (j := 6) rfl rfl) (bq_nm bk_X11_init_32 (j := 7) rfl rfl) rfl
theorem dX11_init_40 : decode cX11_init 40 = .ok (.newarray .int, 2) := dc_188_10 (bq_nm bk_X11_init_32 (j := 8) rfl rfl) (bq_nm bk_X11_init_32 (j := 9) rfl rfl)
theorem dX11_init_42 : decode cX11_init 42 = .ok (.putfield 23, 3) := dc_181 (bq_nm bk_X11_init_32 (j := 10) rfl rfl) (bq_nm bk_X11_init_32 (j := 11) rfl rfl) (bq_nm bk_X11_init_32 (j := 12) rfl rfl) rfl
theorem dX11_init_45 : decode cX11_init 45 = .ok (.aload_n 0, 1) := dc_42 (bq_nm bk_X11_init_32 (j := 13) rfl rfl)
theorem dX11_init_46 : decode cX11_init 46 = .ok (.bipush 70, 2) := dc_16 (bq_nm bk_X11_init_32 (j := 14) rfl rfl) (bq_nm bk_X11_init_32 (j := 15) rfl rfl) rfl
theorem dX11_init_48 : decode cX11_init 48 = .ok (.newarray .int, 2) := dc_188_10 (bq_nm bk_X11_init_32 (j := 16) rfl rfl) (bq_nm bk_X11_init_32 (j := 17) rfl rfl)
theorem dX11_init_50 : decode cX11_init 50 = .ok (.putfield 26, 3) := dc_181 (bq_nm bk_X11_init_32 (j := 18) rfl rfl) (bq_nm bk_X11_init_32 (j := 19) rfl rfl) (bq_nm bk_X11_init_32 (j := 20) rfl rfl) rfl
theorem dX11_init_53 : decode cX11_init 53 = .ok (.aload_n 0, 1) := dc_42 (bq_nm bk_X11_init_32 (j := 21) rfl rfl)
theorem dX11_init_54 : decode cX11_init 54 = .ok (.bipush 70, 2) := dc_16 (bq_nm bk_X11_init_32 (j := 22) rfl rfl) (bq_nm bk_X11_init_32 (j := 23) rfl rfl) rfl
theorem dX11_init_56 : decode cX11_init 56 = .ok (.newarray .long, 2) := dc_188_11 (bq_nm bk_X11_init_32 (j := 24) rfl rfl) (bq_nm bk_X11_init_32 (j := 25) rfl rfl)
theorem dX11_init_58 : decode cX11_init 58 = .ok (.putfield 29, 3) := dc_181 (bq_nm bk_X11_init_32 (j := 26) rfl rfl) (bq_nm bk_X11_init_32 (j := 27) rfl rfl) (bq_nm bk_X11_init_32 (j := 28) rfl rfl) rfl
theorem dX11_init_61 : decode cX11_init 61 = .ok (.aload_n 0, 1) := dc_42 (bq_nm bk_X11_init_32 (j := 29) rfl rfl)
theorem dX11_init_62 : decode cX11_init 62 = .ok (.bipush 11, 2) := dc_16 (bq_nm bk_X11_init_32 (j := 30) rfl rfl) (bq_nm bk_X11_init_32 (j := 31) rfl rfl) rfl
set_option maxRecDepth 20000 in
theorem bk_X11_init_64 : ((cX11_init.data.toList.drop 64).take 31).length = 31 ∧ eN (((cX11_init.data.toList.drop 64).take 31).map UInt8.toNat) = 74497469133198072720520593553613272033738253735307313068030306113564248764 := by decide +kernel
theorem dX11_init_64 : decode cX11_init 64 = .ok (.newarray .int, 2) := dc_188_10 (bq_nm bk_X11_init_64 (j := 0) rfl rfl) (bq_nm bk_X11_init_64 (j := 1) rfl rfl)
theorem dX11_init_66 : decode cX11_init 66 = .ok (.putfield 33, 3) := dc_181 (bq_nm bk_X11_init_64 (j := 2) rfl rfl) (bq_nm bk_X11_init_64 (j := 3) rfl rfl) (bq_nm bk_X11_init_64 (j := 4) rfl rfl) rfl
theorem dX11_init_69 : decode cX11_init 69 = .ok (.aload_n 0, 1) := dc_42 (bq_nm bk_X11_init_64 (j := 5) rfl rfl)
theorem dX11_init_70 : decode cX11_init 70 = .ok (.bipush 11, 2) := dc_16 (bq_nm bk_X11_init_64 (j := 6) rfl rfl) (bq_nm bk_X11_init_64 (j := 7) rfl rfl) rfl
theorem dX11_init_72 : decode cX11_init 72 = .ok (.newarray .int, 2) := dc_188_10 (bq_nm bk_X11_init_64 (j := 8) rfl rfl) (bq_nm bk_X11_init_64 (j := 9) rfl rfl)
theorem dX11_init_74 : decode cX11_init 74 = .ok (.putfield 36, 3) := dc_181 (bq_nm bk_X11_init_64 (j := 10) rfl rfl) (bq_nm bk_X11_init_64 (j := 11) rfl rfl) (bq_nm bk_X11_init_64 (j := 12) rfl rfl) rfl
theorem dX11_init_77 : decode cX11_init 77 = .ok (.aload_n 0, 1) := dc_42 (bq_nm bk_X11_init_64 (j := 13) rfl rfl)
theorem dX11_init_78 : decode cX11_init 78 = .ok (.sipush 264, 3) := dc_17 (bq_nm bk_X11_init_64 (j := 14) rfl rfl) (bq_nm bk_X11_init_64 (j := 15) rfl rfl) (bq_nm bk_X11_init_64 (j := 16) rfl rfl) rfl
theorem dX11_init_81 : decode cX11_init 81 = .ok (.newarray .int, 2) := dc_188_10 (bq_nm bk_X11_init_64 (j := 17) rfl rfl) (bq_nm bk_X11_init_64 (j := 18) rfl rfl)
theorem dX11_init_83 : decode cX11_init 83 = .ok (.putfield 39, 3) := dc_181 (bq_nm bk_X11_init_64 (j := 19) rfl rfl) (bq_nm bk_X11_init_64 (j := 20) rfl rfl) (bq_nm bk_X11_init_64 (j := 21) rfl rfl) rfl
theorem dX11_init_86 : decode cX11_init 86 = .ok (.aload_n 0, 1) := dc_42 (bq_nm bk_X11_init_64 (j := 22) rfl rfl)
theorem dX11_init_87 : decode cX11_init 87 = .ok (.bipush 11, 2) := dc_16 (bq_nm bk_X11_init_64 (j := 23) rfl rfl) (bq_nm bk_X11_init_64 (j := 24) rfl rfl) rfl
theorem dX11_init_89 : decode cX11_init 89 = .ok (.newarray .int, 2) := dc_188_10 (bq_nm bk_X11_init_64 (j := 25) rfl rfl) (bq_nm bk_X11_init_64 (j := 26) rfl rfl)
theorem dX11_init_91 : decode cX11_init 91 = .ok (.putfield 42, 3) := dc_181 (bq_nm bk_X11_init_64 (j := 27) rfl rfl) (bq_nm bk_X11_init_64 (j := 28) rfl rfl) (bq_nm bk_X11_init_64 (j := 29) rfl rfl) rfl
theorem dX11_init_94 : decode cX11_init 94 = .ok (.aload_n 0, 1) := dc_42 (bq_nm bk_X11_init_64 (j := 30) rfl rfl)
set_option maxRecDepth 20000 in
theorem bk_X11_init_95 : ((cX11_init.data.toList.drop 95).take 32).length = 32 ∧ eN (((cX11_init.data.toList.drop 95).take 32).map UInt8.toNat) = 24426143328985825802133726323283560727272985238527026006710569809668276355345 := by decide +kernel
theorem dX11_init_95 : decode cX11_init 95 = .ok (.sipush 330, 3) := dc_17 (bq_nm bk_X11_init_95 (j := 0) rfl rfl) (bq_nm bk_X11_init_95 (j := 1) rfl rfl) (bq_nm bk_X11_init_95 (j := 2) rfl rfl) rfl
theorem dX11_init_98 : decode cX11_init 98 = .ok (.newarray .int, 2) := dc_188_10 (bq_nm bk_X11_init_95 (j := 3) rfl rfl) (bq_nm bk_X11_init_95 (j := 4) rfl rfl)
theorem dX11_init_100 : decode cX11_init 100 = .ok (.putfield 45, 3) := dc_181 (bq_nm bk_X11_init_95 (j := 5) rfl rfl) (bq_nm bk_X11_init_95 (j := 6) rfl rfl) (bq_nm bk_X11_init_95 (j := 7) rfl rfl) rfl
theorem dX11_init_103 : decode cX11_init 103 = .ok (.aload_n 0, 1) := dc_42 (bq_nm bk_X11_init_95 (j := 8) rfl rfl)
theorem dX11_init_104 : decode cX11_init 104 = .ok (.bipush 44, 2) := dc_16 (bq_nm bk_X11_init_95 (j := 9) rfl rfl) (bq_nm bk_X11_init_95 (j := 10) rfl rfl) rfl
theorem dX11_init_106 : decode cX11_init 106 = .ok (.newarray .int, 2) := dc_188_10 (bq_nm bk_X11_init_95 (j := 11) rfl rfl) (bq_nm bk_X11_init_95 (j := 12) rfl rfl)
theorem dX11_init_108 : decode cX11_init 108 = .ok (.putfield 48, 3) := dc_181 (bq_nm bk_X11_init_95 (j := 13) rfl rfl) (bq_nm bk_X11_init_95 (j := 14) rfl rfl) (bq_nm bk_X11_init_95 (j := 15) rfl rfl) rfl
theorem dX11_init_111 : decode cX11_init 111 = .ok (.aload_n 0, 1) := dc_42 (bq_nm bk_X11_init_95 (j := 16) rfl rfl)
theorem dX11_init_112 : decode cX11_init 112 = .ok (.bipush 30, 2) := dc_16 (bq_nm bk_X11_init_95 (j := 17) rfl rfl) (bq_nm bk_X11_init_95 (j := 18) rfl rfl) rfl
theorem dX11_init_114 : decode cX11_init 114 = .ok (.newarray .int, 2) := dc_188_10 (bq_nm bk_X11_init_95 (j := 19) rfl rfl) (bq_nm bk_X11_init_95 (j := 20) rfl rfl)
theorem dX11_init_116 : decode cX11_init 116 = .ok (.putfield 51, 3) := dc_181 (bq_nm bk_X11_init_95 (j := 21) rfl rfl) (bq_nm bk_X11_init_95 (j := 22) rfl rfl) (bq_nm bk_X11_init_95 (j := 23) rfl rfl) rfl
theorem dX11_init_119 : decode cX11_init 119 = .ok (.aload_n 0, 1) := dc_42 (bq_nm bk_X11_init_95 (j := 24) rfl rfl)
theorem dX11_init_120 : decode cX11_init 120 = .ok (.bipush 6, 2) := dc_16 (bq_nm bk_X11_init_95 (j := 25) rfl rfl) (bq_nm bk_X11_init_95 (j := 26) rfl rfl) rfl
theorem dX11_init_122 : decode cX11_init 122 = .ok (.newarray .int, 2) := dc_188_10 (bq_nm bk_X11_init_95 (j := 27) rfl rfl) (bq_nm bk_X11_init_95 (j := 28) rfl rfl)
theorem dX11_init_124 : decode cX11_init 124 = .ok (.putfield 54, 3) := dc_181 (bq_nm bk_X11_init_95 (j := 29) rfl rfl) (bq_nm bk_X11_init_95 (j := 30) rfl rfl) (bq_nm bk_X11_init_95 (j := 31) rfl rfl) rfl
set_option maxRecDepth 20000 in
theorem bk_X11_init_127 : ((cX11_init.data.toList.drop 127).take 32).length = 32 ∧ eN (((cX11_init.data.toList.drop 127).take 32).map UInt8.toNat) = 35768162570762718450596658501560774139757110449157175365019049986913766608938 := by decide +kernel
theorem dX11_init_127 : decode cX11_init 127 = .ok (.aload_n 0, 1) := dc_42 (bq_nm bk_X11_init_127 (j := 0) rfl rfl)
theorem dX11_init_128 : decode cX11_init 128 = .ok (.bipush 6, 2) := dc_16 (bq_nm bk_X11_init_127 (j := 1) rfl rfl) (bq_nm bk_X11_init_127 (j := 2) rfl rfl) rfl
theorem dX11_init_130 : decode cX11_init 130 = .ok (.newarray .int, 2) := dc_188_10 (bq_nm bk_X11_init_127 (j := 3) rfl rfl) (bq_nm bk_X11_init_127 (j := 4) rfl rfl)
theorem dX11_init_132 : decode cX11_init 132 = .ok (.putfield 57, 3) := dc_181 (bq_nm bk_X11_init_127 (j := 5) rfl rfl) (bq_nm bk_X11_init_127 (j := 6) rfl rfl) (bq_nm bk_X11_init_127 (j := 7) rfl rfl) rfl
theorem dX11_init_135 : decode cX11_init 135 = .ok (.aload_n 0, 1) := dc_42 (bq_nm bk_X11_init_127 (j := 8) rfl rfl)
theorem dX11_init_136 : decode cX11_init 136 = .ok (.bipush 6, 2) := dc_16 (bq_nm bk_X11_init_127 (j := 9) rfl rfl) (bq_nm bk_X11_init_127 (j := 10) rfl rfl) rfl
theorem dX11_init_138 : decode cX11_init 138 = .ok (.newarray .int, 2) := dc_188_10 (bq_nm bk_X11_init_127 (j := 11) rfl rfl) (bq_nm bk_X11_init_127 (j := 12) rfl rfl)
theorem dX11_init_140 : decode cX11_init 140 = .ok (.putfield 60, 3) := dc_181 (bq_nm bk_X11_init_127 (j := 13) rfl rfl) (bq_nm bk_X11_init_127 (j := 14) rfl rfl) (bq_nm bk_X11_init_127 (j := 15) rfl rfl) rfl
theorem dX11_init_143 : decode cX11_init 143 = .ok (.aload_n 0, 1) := dc_42 (bq_nm bk_X11_init_127 (j := 16) rfl rfl)
theorem dX11_init_144 : decode cX11_init 144 = .ok (.getfield 7, 3) := dc_180 (bq_nm bk_X11_init_127 (j := 17) rfl rfl) (bq_nm bk_X11_init_127 (j := 18) rfl rfl) (bq_nm bk_X11_init_127 (j := 19) rfl rfl) rfl
theorem dX11_init_147 : decode cX11_init 147 = .ok (.iconst 5, 1) := dc_8 (bq_nm bk_X11_init_127 (j := 20) rfl rfl)
theorem dX11_init_148 : decode cX11_init 148 = .ok (.iconst 5, 1) := dc_8 (bq_nm bk_X11_init_127 (j := 21) rfl rfl)
theorem dX11_init_149 : decode cX11_init 149 = .ok (.iastore, 1) := dc_79 (bq_nm bk_X11_init_127 (j := 22) rfl rfl)
theorem dX11_init_150 : decode cX11_init 150 = .ok (.aload_n 0, 1) := dc_42 (bq_nm bk_X11_init_127 (j := 23) rfl rfl)
theorem dX11_init_151 : decode cX11_init 151 = .ok (.getfield 7, 3) := dc_180 (bq_nm bk_X11_init_127 (j := 24) rfl rfl) (bq_nm bk_X11_init_127 (j := 25) rfl rfl) (bq_nm bk_X11_init_127 (j := 26) rfl rfl) rfl
theorem dX11_init_154 : decode cX11_init 154 = .ok (.bipush 6, 2) := dc_16 (bq_nm bk_X11_init_127 (j := 27) rfl rfl) (bq_nm bk_X11_init_127 (j := 28) rfl rfl) rfl
theorem dX11_init_156 : decode cX11_init 156 = .ok (.bipush 20, 2) := dc_16 (bq_nm bk_X11_init_127 (j := 29) rfl rfl) (bq_nm bk_X11_init_127 (j := 30) rfl rfl) rfl
theorem dX11_init_158 : decode cX11_init 158 = .ok (.iastore, 1) := dc_79 (bq_nm bk_X11_init_127 (j := 31) rfl rfl)
set_option maxRecDepth 20000 in
theorem bk_X11_init_159 : ((cX11_init.data.toList.drop 159).take 6).length = 6 ∧ eN (((cX11_init.data.toList.drop 159).take 6).map UInt8.toNat) = 194884152920618 := by decide +kernel
theorem dX11_init_159 : decode cX11_init 159 = .ok (.aload_n 0, 1) := dc_42 (bq_nm bk_X11_init_159 (j := 0) rfl rfl)
theorem dX11_init_160 : decode cX11_init 160 = .ok (.lconst 1, 1) := dc_10 (bq_nm bk_X11_init_159 (j := 1) rfl rfl)
theorem dX11_init_161 : decode cX11_init 161 = .ok (.putfield 63, 3) := dc_181 (bq_nm bk_X11_init_159 (j := 2) rfl rfl) (bq_nm bk_X11_init_159 (j := 3) rfl rfl) (bq_nm bk_X11_init_159 (j := 4) rfl rfl) rfl
theorem dX11_init_164 : decode cX11_init 164 = .ok (.return_, 1) := dc_177 (bq_nm bk_X11_init_159 (j := 5) rfl rfl)
set_option maxRecDepth 20000 in
theorem bk_X11_is_0 : ((cX11_is.data.toList.drop 0).take 16).length = 16 ∧ eN (((cX11_is.data.toList.drop 0).take 16).map UInt8.toNat) = 228975113783791684843368516899111011612 := by decide +kernel
theorem dX11_is_0 : decode cX11_is 0 = .ok (.iload_n 2, 1) := dc_28 (bq_nm bk_X11_is_0 (j := 0) rfl rfl)
theorem dX11_is_1 : decode cX11_is 1 = .ok (.i2l, 1) := dc_133 (bq_nm bk_X11_is_0 (j := 1) rfl rfl)
theorem dX11_is_2 : decode cX11_is 2 = .ok (.lconst 0, 1) := dc_9 (bq_nm bk_X11_is_0 (j := 2) rfl rfl)
theorem dX11_is_3 : decode cX11_is 3 = .ok (.aload_n 0, 1) := dc_42 (bq_nm bk_X11_is_0 (j := 3) rfl rfl)
theorem dX11_is_4 : decode cX11_is 4 = .ok (.getfield 7, 3) := dc_180 (bq_nm bk_X11_is_0 (j := 4) rfl rfl) (bq_nm bk_X11_is_0 (j := 5) rfl rfl) (bq_nm bk_X11_is_0 (j := 6) rfl rfl) rfl
theorem dX11_is_7 : decode cX11_is 7 = .ok (.iload_n 1, 1) := dc_27 (bq_nm bk_X11_is_0 (j := 7) rfl rfl)
theorem dX11_is_8 : decode cX11_is 8 = .ok (.iaload, 1) := dc_46 (bq_nm bk_X11_is_0 (j := 8) rfl rfl)
theorem dX11_is_9 : decode cX11_is 9 = .ok (.iconst 1, 1) := dc_4 (bq_nm bk_X11_is_0 (j := 9) rfl rfl)
theorem dX11_is_10 : decode cX11_is 10 = .ok (.isub, 1) := dc_100 (bq_nm bk_X11_is_0 (j := 10) rfl rfl)
theorem dX11_is_11 : decode cX11_is 11 = .ok (.i2l, 1) := dc_133 (bq_nm bk_X11_is_0 (j := 11) rfl rfl)
theorem dX11_is_12 : decode cX11_is 12 = .ok (.invokestatic 67, 3) := dc_184 (bq_nm bk_X11_is_0 (j := 12) rfl rfl) (bq_nm bk_X11_is_0 (j := 13) rfl rfl) (bq_nm bk_X11_is_0 (j := 14) rfl rfl) rfl
theorem dX11_is_15 : decode cX11_is 15 = .ok (.ireturn, 1) := dc_172 (bq_nm bk_X11_is_0 (j := 15) rfl rfl)
set_option maxRecDepth 20000 in
theorem bk_X11_one_0 : ((cX11_one.data.toList.drop 0).take 24).length = 24 ∧ eN (((cX11_one.data.toList.drop 0).take 24).map UInt8.toNat) = 4227007389554388804968688836106519829532560939697334957098 := by decide +kernel
theorem dX11_one_0 : decode cX11_one 0 = .ok (.aload_n 0, 1) := dc_42 (bq_nm bk_X11_one_0 (j := 0) rfl rfl)
theorem dX11_one_1 : decode cX11_one 1 = .ok (.getfield 7, 3) := dc_180 (bq_nm bk_X11_one_0 (j := 1) rfl rfl) (bq_nm bk_X11_one_0 (j := 2) rfl rfl) (bq_nm bk_X11_one_0 (j := 3) rfl rfl) rfl
theorem dX11_one_4 : decode cX11_one 4 = .ok (.iload_n 1, 1) := dc_27 (bq_nm bk_X11_one_0 (j := 4) rfl rfl)
theorem dX11_one_5 : decode cX11_one 5 = .ok (.dup2, 1) := dc_92 (bq_nm bk_X11_one_0 (j := 5) rfl rfl)
theorem dX11_one_6 : decode cX11_one 6 = .ok (.iaload, 1) := dc_46 (bq_nm bk_X11_one_0 (j := 6) rfl rfl)
theorem dX11_one_7 : decode cX11_one 7 = .ok (.iconst 1, 1) := dc_4 (bq_nm bk_X11_one_0 (j := 7) rfl rfl)
theorem dX11_one_8 : decode cX11_one 8 = .ok (.iadd, 1) := dc_96 (bq_nm bk_X11_one_0 (j := 8) rfl rfl)
theorem dX11_one_9 : decode cX11_one 9 = .ok (.iastore, 1) := dc_79 (bq_nm bk_X11_one_0 (j := 9) rfl rfl)
theorem dX11_one_10 : decode cX11_one 10 = .ok (.aload_n 0, 1) := dc_42 (bq_nm bk_X11_one_0 (j := 10) rfl rfl)
theorem dX11_one_11 : decode cX11_one 11 = .ok (.iconst 0, 1) := dc_3 (bq_nm bk_X11_one_0 (j := 11) rfl rfl)
theorem dX11_one_12 : decode cX11_one 12 = .ok (.putfield 71, 3) := dc_181 (bq_nm bk_X11_one_0 (j := 12) rfl rfl) (bq_nm bk_X11_one_0 (j := 13) rfl rfl) (bq_nm bk_X11_one_0 (j := 14) rfl rfl) rfl
theorem dX11_one_15 : decode cX11_one 15 = .ok (.aload_n 0, 1) := dc_42 (bq_nm bk_X11_one_0 (j := 15) rfl rfl)
theorem dX11_one_16 : decode cX11_one 16 = .ok (.getfield 7, 3) := dc_180 (bq_nm bk_X11_one_0 (j := 16) rfl rfl) (bq_nm bk_X11_one_0 (j := 17) rfl rfl) (bq_nm bk_X11_one_0 (j := 18) rfl rfl) rfl
theorem dX11_one_19 : decode cX11_one 19 = .ok (.iload_n 1, 1) := dc_27 (bq_nm bk_X11_one_0 (j := 19) rfl rfl)
theorem dX11_one_20 : decode cX11_one 20 = .ok (.iaload, 1) := dc_46 (bq_nm bk_X11_one_0 (j := 20) rfl rfl)
theorem dX11_one_21 : decode cX11_one 21 = .ok (.iconst 1, 1) := dc_4 (bq_nm bk_X11_one_0 (j := 21) rfl rfl)
theorem dX11_one_22 : decode cX11_one 22 = .ok (.isub, 1) := dc_100 (bq_nm bk_X11_one_0 (j := 22) rfl rfl)
theorem dX11_one_23 : decode cX11_one 23 = .ok (.ireturn, 1) := dc_172 (bq_nm bk_X11_one_0 (j := 23) rfl rfl)
set_option maxRecDepth 20000 in
theorem bk_X11_sizeOf_0 : ((cX11_sizeOf.data.toList.drop 0).take 23).length = 23 ∧ eN (((cX11_sizeOf.data.toList.drop 0).take 23).map UInt8.toNat) = 16484784106543996884416875061443755193273711573507652611 := by decide +kernel
theorem dX11_sizeOf_0 : decode cX11_sizeOf 0 = .ok (.iconst 0, 1) := dc_3 (bq_nm bk_X11_sizeOf_0 (j := 0) rfl rfl)
theorem dX11_sizeOf_1 : decode cX11_sizeOf 1 = .ok (.istore_n 1, 1) := dc_60 (bq_nm bk_X11_sizeOf_0 (j := 1) rfl rfl)
theorem dX11_sizeOf_2 : decode cX11_sizeOf 2 = .ok (.iload_n 0, 1) := dc_26 (bq_nm bk_X11_sizeOf_0 (j := 2) rfl rfl)
theorem dX11_sizeOf_3 : decode cX11_sizeOf 3 = .ok (.istore_n 2, 1) := dc_61 (bq_nm bk_X11_sizeOf_0 (j := 3) rfl rfl)
theorem dX11_sizeOf_4 : decode cX11_sizeOf 4 = .ok (.iload_n 2, 1) := dc_28 (bq_nm bk_X11_sizeOf_0 (j := 4) rfl rfl)
theorem dX11_sizeOf_5 : decode cX11_sizeOf 5 = .ok (.ifCond .le 16, 3) := dc_158 (bq_nm bk_X11_sizeOf_0 (j := 5) rfl rfl) (bq_nm bk_X11_sizeOf_0 (j := 6) rfl rfl) (bq_nm bk_X11_sizeOf_0 (j := 7) rfl rfl) rfl
theorem dX11_sizeOf_8 : decode cX11_sizeOf 8 = .ok (.iload_n 1, 1) := dc_27 (bq_nm bk_X11_sizeOf_0 (j := 8) rfl rfl)
theorem dX11_sizeOf_9 : decode cX11_sizeOf 9 = .ok (.iload_n 2, 1) := dc_28 (bq_nm bk_X11_sizeOf_0 (j := 9) rfl rfl)
theorem dX11_sizeOf_10 : decode cX11_sizeOf 10 = .ok (.iconst 1, 1) := dc_4 (bq_nm bk_X11_sizeOf_0 (j := 10) rfl rfl)
theorem dX11_sizeOf_11 : decode cX11_sizeOf 11 = .ok (.iand, 1) := dc_126 (bq_nm bk_X11_sizeOf_0 (j := 11) rfl rfl)
theorem dX11_sizeOf_12 : decode cX11_sizeOf 12 = .ok (.iadd, 1) := dc_96 (bq_nm bk_X11_sizeOf_0 (j := 12) rfl rfl)
theorem dX11_sizeOf_13 : decode cX11_sizeOf 13 = .ok (.istore_n 1, 1) := dc_60 (bq_nm bk_X11_sizeOf_0 (j := 13) rfl rfl)
theorem dX11_sizeOf_14 : decode cX11_sizeOf 14 = .ok (.iload_n 2, 1) := dc_28 (bq_nm bk_X11_sizeOf_0 (j := 14) rfl rfl)
theorem dX11_sizeOf_15 : decode cX11_sizeOf 15 = .ok (.iconst 1, 1) := dc_4 (bq_nm bk_X11_sizeOf_0 (j := 15) rfl rfl)
theorem dX11_sizeOf_16 : decode cX11_sizeOf 16 = .ok (.ishr, 1) := dc_122 (bq_nm bk_X11_sizeOf_0 (j := 16) rfl rfl)
theorem dX11_sizeOf_17 : decode cX11_sizeOf 17 = .ok (.istore_n 2, 1) := dc_61 (bq_nm bk_X11_sizeOf_0 (j := 17) rfl rfl)
theorem dX11_sizeOf_18 : decode cX11_sizeOf 18 = .ok (.goto (-14), 3) := dc_167 (bq_nm bk_X11_sizeOf_0 (j := 18) rfl rfl) (bq_nm bk_X11_sizeOf_0 (j := 19) rfl rfl) (bq_nm bk_X11_sizeOf_0 (j := 20) rfl rfl) rfl
theorem dX11_sizeOf_21 : decode cX11_sizeOf 21 = .ok (.iload_n 1, 1) := dc_27 (bq_nm bk_X11_sizeOf_0 (j := 21) rfl rfl)
theorem dX11_sizeOf_22 : decode cX11_sizeOf 22 = .ok (.ireturn, 1) := dc_172 (bq_nm bk_X11_sizeOf_0 (j := 22) rfl rfl)
set_option maxRecDepth 20000 in
theorem bk_X11_people_0 : ((cX11_people.data.toList.drop 0).take 11).length = 11 ∧ eN (((cX11_people.data.toList.drop 0).take 11).map UInt8.toNat) = 208407560068841939500542468 := by decide +kernel
theorem dX11_people_0 : decode cX11_people 0 = .ok (.iconst 1, 1) := dc_4 (bq_nm bk_X11_people_0 (j := 0) rfl rfl)
theorem dX11_people_1 : decode cX11_people 1 = .ok (.aload_n 0, 1) := dc_42 (bq_nm bk_X11_people_0 (j := 1) rfl rfl)
theorem dX11_people_2 : decode cX11_people 2 = .ok (.getfield 7, 3) := dc_180 (bq_nm bk_X11_people_0 (j := 2) rfl rfl) (bq_nm bk_X11_people_0 (j := 3) rfl rfl) (bq_nm bk_X11_people_0 (j := 4) rfl rfl) rfl
theorem dX11_people_5 : decode cX11_people 5 = .ok (.iconst 0, 1) := dc_3 (bq_nm bk_X11_people_0 (j := 5) rfl rfl)
theorem dX11_people_6 : decode cX11_people 6 = .ok (.iaload, 1) := dc_46 (bq_nm bk_X11_people_0 (j := 6) rfl rfl)
theorem dX11_people_7 : decode cX11_people 7 = .ok (.ishl, 1) := dc_120 (bq_nm bk_X11_people_0 (j := 7) rfl rfl)
theorem dX11_people_8 : decode cX11_people 8 = .ok (.iconst 1, 1) := dc_4 (bq_nm bk_X11_people_0 (j := 8) rfl rfl)
theorem dX11_people_9 : decode cX11_people 9 = .ok (.isub, 1) := dc_100 (bq_nm bk_X11_people_0 (j := 9) rfl rfl)
theorem dX11_people_10 : decode cX11_people 10 = .ok (.ireturn, 1) := dc_172 (bq_nm bk_X11_people_0 (j := 10) rfl rfl)
set_option maxRecDepth 20000 in
theorem bk_X11_isDay_0 : ((cX11_isDay.data.toList.drop 0).take 10).length = 10 ∧ eN (((cX11_isDay.data.toList.drop 0).take 10).map UInt8.toNat) = 813483018780376939726106 := by decide +kernel
theorem dX11_isDay_0 : decode cX11_isDay 0 = .ok (.iload_n 0, 1) := dc_26 (bq_nm bk_X11_isDay_0 (j := 0) rfl rfl)
theorem dX11_isDay_1 : decode cX11_isDay 1 = .ok (.i2l, 1) := dc_133 (bq_nm bk_X11_isDay_0 (j := 1) rfl rfl)
theorem dX11_isDay_2 : decode cX11_isDay 2 = .ok (.lconst 0, 1) := dc_9 (bq_nm bk_X11_isDay_0 (j := 2) rfl rfl)
theorem dX11_isDay_3 : decode cX11_isDay 3 = .ok (.ldc2_w 75, 3) := dc_20 (bq_nm bk_X11_isDay_0 (j := 3) rfl rfl) (bq_nm bk_X11_isDay_0 (j := 4) rfl rfl) (bq_nm bk_X11_isDay_0 (j := 5) rfl rfl) rfl
theorem dX11_isDay_6 : decode cX11_isDay 6 = .ok (.invokestatic 67, 3) := dc_184 (bq_nm bk_X11_isDay_0 (j := 6) rfl rfl) (bq_nm bk_X11_isDay_0 (j := 7) rfl rfl) (bq_nm bk_X11_isDay_0 (j := 8) rfl rfl) rfl
theorem dX11_isDay_9 : decode cX11_isDay 9 = .ok (.ireturn, 1) := dc_172 (bq_nm bk_X11_isDay_0 (j := 9) rfl rfl)
set_option maxRecDepth 20000 in
theorem bk_X11_person_0 : ((cX11_person.data.toList.drop 0).take 30).length = 30 ∧ eN (((cX11_person.data.toList.drop 0).take 30).map UInt8.toNat) = 545240071558578646775909515487282850796530584831635170107104958108763419 := by decide +kernel
theorem dX11_person_0 : decode cX11_person 0 = .ok (.iload_n 1, 1) := dc_27 (bq_nm bk_X11_person_0 (j := 0) rfl rfl)
theorem dX11_person_1 : decode cX11_person 1 = .ok (.i2l, 1) := dc_133 (bq_nm bk_X11_person_0 (j := 1) rfl rfl)
theorem dX11_person_2 : decode cX11_person 2 = .ok (.lconst 0, 1) := dc_9 (bq_nm bk_X11_person_0 (j := 2) rfl rfl)
theorem dX11_person_3 : decode cX11_person 3 = .ok (.ldc2_w 77, 3) := dc_20 (bq_nm bk_X11_person_0 (j := 3) rfl rfl) (bq_nm bk_X11_person_0 (j := 4) rfl rfl) (bq_nm bk_X11_person_0 (j := 5) rfl rfl) rfl
theorem dX11_person_6 : decode cX11_person 6 = .ok (.invokestatic 67, 3) := dc_184 (bq_nm bk_X11_person_0 (j := 6) rfl rfl) (bq_nm bk_X11_person_0 (j := 7) rfl rfl) (bq_nm bk_X11_person_0 (j := 8) rfl rfl) rfl
theorem dX11_person_9 : decode cX11_person 9 = .ok (.ifCond .eq 40, 3) := dc_153 (bq_nm bk_X11_person_0 (j := 9) rfl rfl) (bq_nm bk_X11_person_0 (j := 10) rfl rfl) (bq_nm bk_X11_person_0 (j := 11) rfl rfl) rfl
theorem dX11_person_12 : decode cX11_person 12 = .ok (.iload_n 2, 1) := dc_28 (bq_nm bk_X11_person_0 (j := 12) rfl rfl)
theorem dX11_person_13 : decode cX11_person 13 = .ok (.i2l, 1) := dc_133 (bq_nm bk_X11_person_0 (j := 13) rfl rfl)
theorem dX11_person_14 : decode cX11_person 14 = .ok (.lconst 0, 1) := dc_9 (bq_nm bk_X11_person_0 (j := 14) rfl rfl)
theorem dX11_person_15 : decode cX11_person 15 = .ok (.ldc2_w 77, 3) := dc_20 (bq_nm bk_X11_person_0 (j := 15) rfl rfl) (bq_nm bk_X11_person_0 (j := 16) rfl rfl) (bq_nm bk_X11_person_0 (j := 17) rfl rfl) rfl
theorem dX11_person_18 : decode cX11_person 18 = .ok (.invokestatic 67, 3) := dc_184 (bq_nm bk_X11_person_0 (j := 18) rfl rfl) (bq_nm bk_X11_person_0 (j := 19) rfl rfl) (bq_nm bk_X11_person_0 (j := 20) rfl rfl) rfl
theorem dX11_person_21 : decode cX11_person 21 = .ok (.ifCond .eq 28, 3) := dc_153 (bq_nm bk_X11_person_0 (j := 21) rfl rfl) (bq_nm bk_X11_person_0 (j := 22) rfl rfl) (bq_nm bk_X11_person_0 (j := 23) rfl rfl) rfl
theorem dX11_person_24 : decode cX11_person 24 = .ok (.iload_n 3, 1) := dc_29 (bq_nm bk_X11_person_0 (j := 24) rfl rfl)
theorem dX11_person_25 : decode cX11_person 25 = .ok (.i2l, 1) := dc_133 (bq_nm bk_X11_person_0 (j := 25) rfl rfl)
theorem dX11_person_26 : decode cX11_person 26 = .ok (.lconst 0, 1) := dc_9 (bq_nm bk_X11_person_0 (j := 26) rfl rfl)
theorem dX11_person_27 : decode cX11_person 27 = .ok (.ldc2_w 79, 3) := dc_20 (bq_nm bk_X11_person_0 (j := 27) rfl rfl) (bq_nm bk_X11_person_0 (j := 28) rfl rfl) (bq_nm bk_X11_person_0 (j := 29) rfl rfl) rfl
set_option maxRecDepth 20000 in
theorem bk_X11_person_30 : ((cX11_person.data.toList.drop 30).take 30).length = 30 ∧ eN (((cX11_person.data.toList.drop 30).take 30).map UInt8.toNat) = 207488595161189479465745557405413136853402724831363962851007202253275320 := by decide +kernel
theorem dX11_person_30 : decode cX11_person 30 = .ok (.invokestatic 67, 3) := dc_184 (bq_nm bk_X11_person_30 (j := 0) rfl rfl) (bq_nm bk_X11_person_30 (j := 1) rfl rfl) (bq_nm bk_X11_person_30 (j := 2) rfl rfl) rfl
theorem dX11_person_33 : decode cX11_person 33 = .ok (.ifCond .eq 16, 3) := dc_153 (bq_nm bk_X11_person_30 (j := 3) rfl rfl) (bq_nm bk_X11_person_30 (j := 4) rfl rfl) (bq_nm bk_X11_person_30 (j := 5) rfl rfl) rfl
theorem dX11_person_36 : decode cX11_person 36 = .ok (.iload 4, 2) := dc_21 (bq_nm bk_X11_person_30 (j := 6) rfl rfl) (bq_nm bk_X11_person_30 (j := 7) rfl rfl)
theorem dX11_person_38 : decode cX11_person 38 = .ok (.i2l, 1) := dc_133 (bq_nm bk_X11_person_30 (j := 8) rfl rfl)
theorem dX11_person_39 : decode cX11_person 39 = .ok (.lconst 0, 1) := dc_9 (bq_nm bk_X11_person_30 (j := 9) rfl rfl)
theorem dX11_person_40 : decode cX11_person 40 = .ok (.ldc2_w 81, 3) := dc_20 (bq_nm bk_X11_person_30 (j := 10) rfl rfl) (bq_nm bk_X11_person_30 (j := 11) rfl rfl) (bq_nm bk_X11_person_30 (j := 12) rfl rfl) rfl
theorem dX11_person_43 : decode cX11_person 43 = .ok (.invokestatic 67, 3) := dc_184 (bq_nm bk_X11_person_30 (j := 13) rfl rfl) (bq_nm bk_X11_person_30 (j := 14) rfl rfl) (bq_nm bk_X11_person_30 (j := 15) rfl rfl) rfl
theorem dX11_person_46 : decode cX11_person 46 = .ok (.ifCond .ne 6, 3) := dc_154 (bq_nm bk_X11_person_30 (j := 16) rfl rfl) (bq_nm bk_X11_person_30 (j := 17) rfl rfl) (bq_nm bk_X11_person_30 (j := 18) rfl rfl) rfl
theorem dX11_person_49 : decode cX11_person 49 = .ok (.bipush (-2), 2) := dc_16 (bq_nm bk_X11_person_30 (j := 19) rfl rfl) (bq_nm bk_X11_person_30 (j := 20) rfl rfl) rfl
theorem dX11_person_51 : decode cX11_person 51 = .ok (.ireturn, 1) := dc_172 (bq_nm bk_X11_person_30 (j := 21) rfl rfl)
theorem dX11_person_52 : decode cX11_person 52 = .ok (.aload_n 0, 1) := dc_42 (bq_nm bk_X11_person_30 (j := 22) rfl rfl)
theorem dX11_person_53 : decode cX11_person 53 = .ok (.getfield 7, 3) := dc_180 (bq_nm bk_X11_person_30 (j := 23) rfl rfl) (bq_nm bk_X11_person_30 (j := 24) rfl rfl) (bq_nm bk_X11_person_30 (j := 25) rfl rfl) rfl
theorem dX11_person_56 : decode cX11_person 56 = .ok (.iconst 0, 1) := dc_3 (bq_nm bk_X11_person_30 (j := 26) rfl rfl)
theorem dX11_person_57 : decode cX11_person 57 = .ok (.iaload, 1) := dc_46 (bq_nm bk_X11_person_30 (j := 27) rfl rfl)
theorem dX11_person_58 : decode cX11_person 58 = .ok (.bipush 30, 2) := dc_16 (bq_nm bk_X11_person_30 (j := 28) rfl rfl) (bq_nm bk_X11_person_30 (j := 29) rfl rfl) rfl
set_option maxRecDepth 20000 in
theorem bk_X11_person_60 : ((cX11_person.data.toList.drop 60).take 31).length = 31 ∧ eN (((cX11_person.data.toList.drop 60).take 31).map UInt8.toNat) = 12372786699507161737034684724133404685501525085959383224465395316634812576 := by decide +kernel
theorem dX11_person_60 : decode cX11_person 60 = .ok (.if_icmp .ne 6, 3) := dc_160 (bq_nm bk_X11_person_60 (j := 0) rfl rfl) (bq_nm bk_X11_person_60 (j := 1) rfl rfl) (bq_nm bk_X11_person_60 (j := 2) rfl rfl) rfl
theorem dX11_person_63 : decode cX11_person 63 = .ok (.bipush (-4), 2) := dc_16 (bq_nm bk_X11_person_60 (j := 3) rfl rfl) (bq_nm bk_X11_person_60 (j := 4) rfl rfl) rfl
theorem dX11_person_65 : decode cX11_person 65 = .ok (.ireturn, 1) := dc_172 (bq_nm bk_X11_person_60 (j := 5) rfl rfl)
theorem dX11_person_66 : decode cX11_person 66 = .ok (.bipush 10, 2) := dc_16 (bq_nm bk_X11_person_60 (j := 6) rfl rfl) (bq_nm bk_X11_person_60 (j := 7) rfl rfl) rfl
theorem dX11_person_68 : decode cX11_person 68 = .ok (.iconst 4, 1) := dc_7 (bq_nm bk_X11_person_60 (j := 8) rfl rfl)
theorem dX11_person_69 : decode cX11_person 69 = .ok (.aload_n 0, 1) := dc_42 (bq_nm bk_X11_person_60 (j := 9) rfl rfl)
theorem dX11_person_70 : decode cX11_person 70 = .ok (.getfield 7, 3) := dc_180 (bq_nm bk_X11_person_60 (j := 10) rfl rfl) (bq_nm bk_X11_person_60 (j := 11) rfl rfl) (bq_nm bk_X11_person_60 (j := 12) rfl rfl) rfl
theorem dX11_person_73 : decode cX11_person 73 = .ok (.iconst 0, 1) := dc_3 (bq_nm bk_X11_person_60 (j := 13) rfl rfl)
theorem dX11_person_74 : decode cX11_person 74 = .ok (.iaload, 1) := dc_46 (bq_nm bk_X11_person_60 (j := 14) rfl rfl)
theorem dX11_person_75 : decode cX11_person 75 = .ok (.imul, 1) := dc_104 (bq_nm bk_X11_person_60 (j := 15) rfl rfl)
theorem dX11_person_76 : decode cX11_person 76 = .ok (.iadd, 1) := dc_96 (bq_nm bk_X11_person_60 (j := 16) rfl rfl)
theorem dX11_person_77 : decode cX11_person 77 = .ok (.istore 5, 2) := dc_54 (bq_nm bk_X11_person_60 (j := 17) rfl rfl) (bq_nm bk_X11_person_60 (j := 18) rfl rfl)
theorem dX11_person_79 : decode cX11_person 79 = .ok (.aload_n 0, 1) := dc_42 (bq_nm bk_X11_person_60 (j := 19) rfl rfl)
theorem dX11_person_80 : decode cX11_person 80 = .ok (.getfield 7, 3) := dc_180 (bq_nm bk_X11_person_60 (j := 20) rfl rfl) (bq_nm bk_X11_person_60 (j := 21) rfl rfl) (bq_nm bk_X11_person_60 (j := 22) rfl rfl) rfl
theorem dX11_person_83 : decode cX11_person 83 = .ok (.iload 5, 2) := dc_21 (bq_nm bk_X11_person_60 (j := 23) rfl rfl) (bq_nm bk_X11_person_60 (j := 24) rfl rfl)
theorem dX11_person_85 : decode cX11_person 85 = .ok (.iload_n 1, 1) := dc_27 (bq_nm bk_X11_person_60 (j := 25) rfl rfl)
theorem dX11_person_86 : decode cX11_person 86 = .ok (.iastore, 1) := dc_79 (bq_nm bk_X11_person_60 (j := 26) rfl rfl)
theorem dX11_person_87 : decode cX11_person 87 = .ok (.aload_n 0, 1) := dc_42 (bq_nm bk_X11_person_60 (j := 27) rfl rfl)
theorem dX11_person_88 : decode cX11_person 88 = .ok (.getfield 7, 3) := dc_180 (bq_nm bk_X11_person_60 (j := 28) rfl rfl) (bq_nm bk_X11_person_60 (j := 29) rfl rfl) (bq_nm bk_X11_person_60 (j := 30) rfl rfl) rfl
set_option maxRecDepth 20000 in
theorem bk_X11_person_91 : ((cX11_person.data.toList.drop 91).take 32).length = 32 ∧ eN (((cX11_person.data.toList.drop 91).take 32).map UInt8.toNat) = 37543222635581687646059436683131467108732486582246336740701266468291129640213 := by decide +kernel
theorem dX11_person_91 : decode cX11_person 91 = .ok (.iload 5, 2) := dc_21 (bq_nm bk_X11_person_91 (j := 0) rfl rfl) (bq_nm bk_X11_person_91 (j := 1) rfl rfl)
theorem dX11_person_93 : decode cX11_person 93 = .ok (.iconst 1, 1) := dc_4 (bq_nm bk_X11_person_91 (j := 2) rfl rfl)
theorem dX11_person_94 : decode cX11_person 94 = .ok (.iadd, 1) := dc_96 (bq_nm bk_X11_person_91 (j := 3) rfl rfl)
theorem dX11_person_95 : decode cX11_person 95 = .ok (.iload_n 2, 1) := dc_28 (bq_nm bk_X11_person_91 (j := 4) rfl rfl)
theorem dX11_person_96 : decode cX11_person 96 = .ok (.iastore, 1) := dc_79 (bq_nm bk_X11_person_91 (j := 5) rfl rfl)
theorem dX11_person_97 : decode cX11_person 97 = .ok (.aload_n 0, 1) := dc_42 (bq_nm bk_X11_person_91 (j := 6) rfl rfl)
theorem dX11_person_98 : decode cX11_person 98 = .ok (.getfield 7, 3) := dc_180 (bq_nm bk_X11_person_91 (j := 7) rfl rfl) (bq_nm bk_X11_person_91 (j := 8) rfl rfl) (bq_nm bk_X11_person_91 (j := 9) rfl rfl) rfl
theorem dX11_person_101 : decode cX11_person 101 = .ok (.iload 5, 2) := dc_21 (bq_nm bk_X11_person_91 (j := 10) rfl rfl) (bq_nm bk_X11_person_91 (j := 11) rfl rfl)
theorem dX11_person_103 : decode cX11_person 103 = .ok (.iconst 2, 1) := dc_5 (bq_nm bk_X11_person_91 (j := 12) rfl rfl)
theorem dX11_person_104 : decode cX11_person 104 = .ok (.iadd, 1) := dc_96 (bq_nm bk_X11_person_91 (j := 13) rfl rfl)
theorem dX11_person_105 : decode cX11_person 105 = .ok (.iload_n 3, 1) := dc_29 (bq_nm bk_X11_person_91 (j := 14) rfl rfl)
theorem dX11_person_106 : decode cX11_person 106 = .ok (.iastore, 1) := dc_79 (bq_nm bk_X11_person_91 (j := 15) rfl rfl)
theorem dX11_person_107 : decode cX11_person 107 = .ok (.aload_n 0, 1) := dc_42 (bq_nm bk_X11_person_91 (j := 16) rfl rfl)
theorem dX11_person_108 : decode cX11_person 108 = .ok (.getfield 7, 3) := dc_180 (bq_nm bk_X11_person_91 (j := 17) rfl rfl) (bq_nm bk_X11_person_91 (j := 18) rfl rfl) (bq_nm bk_X11_person_91 (j := 19) rfl rfl) rfl
theorem dX11_person_111 : decode cX11_person 111 = .ok (.iload 5, 2) := dc_21 (bq_nm bk_X11_person_91 (j := 20) rfl rfl) (bq_nm bk_X11_person_91 (j := 21) rfl rfl)
theorem dX11_person_113 : decode cX11_person 113 = .ok (.iconst 3, 1) := dc_6 (bq_nm bk_X11_person_91 (j := 22) rfl rfl)
theorem dX11_person_114 : decode cX11_person 114 = .ok (.iadd, 1) := dc_96 (bq_nm bk_X11_person_91 (j := 23) rfl rfl)
theorem dX11_person_115 : decode cX11_person 115 = .ok (.iload 4, 2) := dc_21 (bq_nm bk_X11_person_91 (j := 24) rfl rfl) (bq_nm bk_X11_person_91 (j := 25) rfl rfl)
theorem dX11_person_117 : decode cX11_person 117 = .ok (.iastore, 1) := dc_79 (bq_nm bk_X11_person_91 (j := 26) rfl rfl)
theorem dX11_person_118 : decode cX11_person 118 = .ok (.aload_n 0, 1) := dc_42 (bq_nm bk_X11_person_91 (j := 27) rfl rfl)
theorem dX11_person_119 : decode cX11_person 119 = .ok (.iconst 0, 1) := dc_3 (bq_nm bk_X11_person_91 (j := 28) rfl rfl)
theorem dX11_person_120 : decode cX11_person 120 = .ok (.invokevirtual 83, 3) := dc_182 (bq_nm bk_X11_person_91 (j := 29) rfl rfl) (bq_nm bk_X11_person_91 (j := 30) rfl rfl) (bq_nm bk_X11_person_91 (j := 31) rfl rfl) rfl
set_option maxRecDepth 20000 in
theorem bk_X11_person_123 : ((cX11_person.data.toList.drop 123).take 1).length = 1 ∧ eN (((cX11_person.data.toList.drop 123).take 1).map UInt8.toNat) = 172 := by decide +kernel
theorem dX11_person_123 : decode cX11_person 123 = .ok (.ireturn, 1) := dc_172 (bq_nm bk_X11_person_123 (j := 0) rfl rfl)
set_option maxRecDepth 20000 in
theorem bk_X11_kin_0 : ((cX11_kin.data.toList.drop 0).take 32).length = 32 ∧ eN (((cX11_kin.data.toList.drop 0).take 32).map UInt8.toNat) = 19302790811202423696238441999954701779258104922718155208762873594346173301546 := by decide +kernel
theorem dX11_kin_0 : decode cX11_kin 0 = .ok (.aload_n 0, 1) := dc_42 (bq_nm bk_X11_kin_0 (j := 0) rfl rfl)
theorem dX11_kin_1 : decode cX11_kin 1 = .ok (.iconst 0, 1) := dc_3 (bq_nm bk_X11_kin_0 (j := 1) rfl rfl)
theorem dX11_kin_2 : decode cX11_kin 2 = .ok (.iload_n 1, 1) := dc_27 (bq_nm bk_X11_kin_0 (j := 2) rfl rfl)
theorem dX11_kin_3 : decode cX11_kin 3 = .ok (.invokevirtual 87, 3) := dc_182 (bq_nm bk_X11_kin_0 (j := 3) rfl rfl) (bq_nm bk_X11_kin_0 (j := 4) rfl rfl) (bq_nm bk_X11_kin_0 (j := 5) rfl rfl) rfl
theorem dX11_kin_6 : decode cX11_kin 6 = .ok (.ifCond .eq 22, 3) := dc_153 (bq_nm bk_X11_kin_0 (j := 6) rfl rfl) (bq_nm bk_X11_kin_0 (j := 7) rfl rfl) (bq_nm bk_X11_kin_0 (j := 8) rfl rfl) rfl
theorem dX11_kin_9 : decode cX11_kin 9 = .ok (.iload_n 2, 1) := dc_28 (bq_nm bk_X11_kin_0 (j := 9) rfl rfl)
theorem dX11_kin_10 : decode cX11_kin 10 = .ok (.i2l, 1) := dc_133 (bq_nm bk_X11_kin_0 (j := 10) rfl rfl)
theorem dX11_kin_11 : decode cX11_kin 11 = .ok (.lconst 0, 1) := dc_9 (bq_nm bk_X11_kin_0 (j := 11) rfl rfl)
theorem dX11_kin_12 : decode cX11_kin 12 = .ok (.ldc2_w 91, 3) := dc_20 (bq_nm bk_X11_kin_0 (j := 12) rfl rfl) (bq_nm bk_X11_kin_0 (j := 13) rfl rfl) (bq_nm bk_X11_kin_0 (j := 14) rfl rfl) rfl
theorem dX11_kin_15 : decode cX11_kin 15 = .ok (.invokestatic 67, 3) := dc_184 (bq_nm bk_X11_kin_0 (j := 15) rfl rfl) (bq_nm bk_X11_kin_0 (j := 16) rfl rfl) (bq_nm bk_X11_kin_0 (j := 17) rfl rfl) rfl
theorem dX11_kin_18 : decode cX11_kin 18 = .ok (.ifCond .eq 10, 3) := dc_153 (bq_nm bk_X11_kin_0 (j := 18) rfl rfl) (bq_nm bk_X11_kin_0 (j := 19) rfl rfl) (bq_nm bk_X11_kin_0 (j := 20) rfl rfl) rfl
theorem dX11_kin_21 : decode cX11_kin 21 = .ok (.iload_n 3, 1) := dc_29 (bq_nm bk_X11_kin_0 (j := 21) rfl rfl)
theorem dX11_kin_22 : decode cX11_kin 22 = .ok (.invokestatic 93, 3) := dc_184 (bq_nm bk_X11_kin_0 (j := 22) rfl rfl) (bq_nm bk_X11_kin_0 (j := 23) rfl rfl) (bq_nm bk_X11_kin_0 (j := 24) rfl rfl) rfl
theorem dX11_kin_25 : decode cX11_kin 25 = .ok (.ifCond .ne 6, 3) := dc_154 (bq_nm bk_X11_kin_0 (j := 25) rfl rfl) (bq_nm bk_X11_kin_0 (j := 26) rfl rfl) (bq_nm bk_X11_kin_0 (j := 27) rfl rfl) rfl
theorem dX11_kin_28 : decode cX11_kin 28 = .ok (.bipush (-2), 2) := dc_16 (bq_nm bk_X11_kin_0 (j := 28) rfl rfl) (bq_nm bk_X11_kin_0 (j := 29) rfl rfl) rfl
theorem dX11_kin_30 : decode cX11_kin 30 = .ok (.ireturn, 1) := dc_172 (bq_nm bk_X11_kin_0 (j := 30) rfl rfl)
theorem dX11_kin_31 : decode cX11_kin 31 = .ok (.aload_n 0, 1) := dc_42 (bq_nm bk_X11_kin_0 (j := 31) rfl rfl)
set_option maxRecDepth 20000 in
theorem bk_X11_kin_32 : ((cX11_kin.data.toList.drop 32).take 31).length = 31 ∧ eN (((cX11_kin.data.toList.drop 32).take 31).map UInt8.toNat) = 12372786668697911869605764011895193233017415039170668334953901021007904948 := by decide +kernel
theorem dX11_kin_32 : decode cX11_kin 32 = .ok (.getfield 7, 3) := dc_180 (bq_nm bk_X11_kin_32 (j := 0) rfl rfl) (bq_nm bk_X11_kin_32 (j := 1) rfl rfl) (bq_nm bk_X11_kin_32 (j := 2) rfl rfl) rfl
theorem dX11_kin_35 : decode cX11_kin 35 = .ok (.iconst 1, 1) := dc_4 (bq_nm bk_X11_kin_32 (j := 3) rfl rfl)
theorem dX11_kin_36 : decode cX11_kin 36 = .ok (.iaload, 1) := dc_46 (bq_nm bk_X11_kin_32 (j := 4) rfl rfl)
theorem dX11_kin_37 : decode cX11_kin 37 = .ok (.bipush 40, 2) := dc_16 (bq_nm bk_X11_kin_32 (j := 5) rfl rfl) (bq_nm bk_X11_kin_32 (j := 6) rfl rfl) rfl
theorem dX11_kin_39 : decode cX11_kin 39 = .ok (.if_icmp .ne 6, 3) := dc_160 (bq_nm bk_X11_kin_32 (j := 7) rfl rfl) (bq_nm bk_X11_kin_32 (j := 8) rfl rfl) (bq_nm bk_X11_kin_32 (j := 9) rfl rfl) rfl
theorem dX11_kin_42 : decode cX11_kin 42 = .ok (.bipush (-4), 2) := dc_16 (bq_nm bk_X11_kin_32 (j := 10) rfl rfl) (bq_nm bk_X11_kin_32 (j := 11) rfl rfl) rfl
theorem dX11_kin_44 : decode cX11_kin 44 = .ok (.ireturn, 1) := dc_172 (bq_nm bk_X11_kin_32 (j := 12) rfl rfl)
theorem dX11_kin_45 : decode cX11_kin 45 = .ok (.sipush 130, 3) := dc_17 (bq_nm bk_X11_kin_32 (j := 13) rfl rfl) (bq_nm bk_X11_kin_32 (j := 14) rfl rfl) (bq_nm bk_X11_kin_32 (j := 15) rfl rfl) rfl
theorem dX11_kin_48 : decode cX11_kin 48 = .ok (.iconst 3, 1) := dc_6 (bq_nm bk_X11_kin_32 (j := 16) rfl rfl)
theorem dX11_kin_49 : decode cX11_kin 49 = .ok (.aload_n 0, 1) := dc_42 (bq_nm bk_X11_kin_32 (j := 17) rfl rfl)
theorem dX11_kin_50 : decode cX11_kin 50 = .ok (.getfield 7, 3) := dc_180 (bq_nm bk_X11_kin_32 (j := 18) rfl rfl) (bq_nm bk_X11_kin_32 (j := 19) rfl rfl) (bq_nm bk_X11_kin_32 (j := 20) rfl rfl) rfl
theorem dX11_kin_53 : decode cX11_kin 53 = .ok (.iconst 1, 1) := dc_4 (bq_nm bk_X11_kin_32 (j := 21) rfl rfl)
theorem dX11_kin_54 : decode cX11_kin 54 = .ok (.iaload, 1) := dc_46 (bq_nm bk_X11_kin_32 (j := 22) rfl rfl)
theorem dX11_kin_55 : decode cX11_kin 55 = .ok (.imul, 1) := dc_104 (bq_nm bk_X11_kin_32 (j := 23) rfl rfl)
theorem dX11_kin_56 : decode cX11_kin 56 = .ok (.iadd, 1) := dc_96 (bq_nm bk_X11_kin_32 (j := 24) rfl rfl)
theorem dX11_kin_57 : decode cX11_kin 57 = .ok (.istore 4, 2) := dc_54 (bq_nm bk_X11_kin_32 (j := 25) rfl rfl) (bq_nm bk_X11_kin_32 (j := 26) rfl rfl)
theorem dX11_kin_59 : decode cX11_kin 59 = .ok (.aload_n 0, 1) := dc_42 (bq_nm bk_X11_kin_32 (j := 27) rfl rfl)
theorem dX11_kin_60 : decode cX11_kin 60 = .ok (.getfield 7, 3) := dc_180 (bq_nm bk_X11_kin_32 (j := 28) rfl rfl) (bq_nm bk_X11_kin_32 (j := 29) rfl rfl) (bq_nm bk_X11_kin_32 (j := 30) rfl rfl) rfl
set_option maxRecDepth 20000 in
theorem bk_X11_kin_63 : ((cX11_kin.data.toList.drop 63).take 30).length = 30 ∧ eN (((cX11_kin.data.toList.drop 63).take 30).map UInt8.toNat) = 1189338122098501162994469507664277968356344829325493444679240829755917333 := by decide +kernel
theorem dX11_kin_63 : decode cX11_kin 63 = .ok (.iload 4, 2) := dc_21 (bq_nm bk_X11_kin_63 (j := 0) rfl rfl) (bq_nm bk_X11_kin_63 (j := 1) rfl rfl)
theorem dX11_kin_65 : decode cX11_kin 65 = .ok (.iload_n 1, 1) := dc_27 (bq_nm bk_X11_kin_63 (j := 2) rfl rfl)
theorem dX11_kin_66 : decode cX11_kin 66 = .ok (.iastore, 1) := dc_79 (bq_nm bk_X11_kin_63 (j := 3) rfl rfl)
theorem dX11_kin_67 : decode cX11_kin 67 = .ok (.aload_n 0, 1) := dc_42 (bq_nm bk_X11_kin_63 (j := 4) rfl rfl)
theorem dX11_kin_68 : decode cX11_kin 68 = .ok (.getfield 7, 3) := dc_180 (bq_nm bk_X11_kin_63 (j := 5) rfl rfl) (bq_nm bk_X11_kin_63 (j := 6) rfl rfl) (bq_nm bk_X11_kin_63 (j := 7) rfl rfl) rfl
theorem dX11_kin_71 : decode cX11_kin 71 = .ok (.iload 4, 2) := dc_21 (bq_nm bk_X11_kin_63 (j := 8) rfl rfl) (bq_nm bk_X11_kin_63 (j := 9) rfl rfl)
theorem dX11_kin_73 : decode cX11_kin 73 = .ok (.iconst 1, 1) := dc_4 (bq_nm bk_X11_kin_63 (j := 10) rfl rfl)
theorem dX11_kin_74 : decode cX11_kin 74 = .ok (.iadd, 1) := dc_96 (bq_nm bk_X11_kin_63 (j := 11) rfl rfl)
theorem dX11_kin_75 : decode cX11_kin 75 = .ok (.iload_n 2, 1) := dc_28 (bq_nm bk_X11_kin_63 (j := 12) rfl rfl)
theorem dX11_kin_76 : decode cX11_kin 76 = .ok (.iastore, 1) := dc_79 (bq_nm bk_X11_kin_63 (j := 13) rfl rfl)
theorem dX11_kin_77 : decode cX11_kin 77 = .ok (.aload_n 0, 1) := dc_42 (bq_nm bk_X11_kin_63 (j := 14) rfl rfl)
theorem dX11_kin_78 : decode cX11_kin 78 = .ok (.getfield 7, 3) := dc_180 (bq_nm bk_X11_kin_63 (j := 15) rfl rfl) (bq_nm bk_X11_kin_63 (j := 16) rfl rfl) (bq_nm bk_X11_kin_63 (j := 17) rfl rfl) rfl
theorem dX11_kin_81 : decode cX11_kin 81 = .ok (.iload 4, 2) := dc_21 (bq_nm bk_X11_kin_63 (j := 18) rfl rfl) (bq_nm bk_X11_kin_63 (j := 19) rfl rfl)
theorem dX11_kin_83 : decode cX11_kin 83 = .ok (.iconst 2, 1) := dc_5 (bq_nm bk_X11_kin_63 (j := 20) rfl rfl)
theorem dX11_kin_84 : decode cX11_kin 84 = .ok (.iadd, 1) := dc_96 (bq_nm bk_X11_kin_63 (j := 21) rfl rfl)
theorem dX11_kin_85 : decode cX11_kin 85 = .ok (.iload_n 3, 1) := dc_29 (bq_nm bk_X11_kin_63 (j := 22) rfl rfl)
theorem dX11_kin_86 : decode cX11_kin 86 = .ok (.iastore, 1) := dc_79 (bq_nm bk_X11_kin_63 (j := 23) rfl rfl)
theorem dX11_kin_87 : decode cX11_kin 87 = .ok (.aload_n 0, 1) := dc_42 (bq_nm bk_X11_kin_63 (j := 24) rfl rfl)
theorem dX11_kin_88 : decode cX11_kin 88 = .ok (.iconst 1, 1) := dc_4 (bq_nm bk_X11_kin_63 (j := 25) rfl rfl)
theorem dX11_kin_89 : decode cX11_kin 89 = .ok (.invokevirtual 83, 3) := dc_182 (bq_nm bk_X11_kin_63 (j := 26) rfl rfl) (bq_nm bk_X11_kin_63 (j := 27) rfl rfl) (bq_nm bk_X11_kin_63 (j := 28) rfl rfl) rfl
theorem dX11_kin_92 : decode cX11_kin 92 = .ok (.ireturn, 1) := dc_172 (bq_nm bk_X11_kin_63 (j := 29) rfl rfl)
set_option maxRecDepth 20000 in
theorem bk_X11_roll_0 : ((cX11_roll.data.toList.drop 0).take 30).length = 30 ∧ eN (((cX11_roll.data.toList.drop 0).take 30).map UInt8.toNat) = 641881799659170625741797030470720437048636169220387556504246841000953115 := by decide +kernel
theorem dX11_roll_0 : decode cX11_roll 0 = .ok (.iload_n 1, 1) := dc_27 (bq_nm bk_X11_roll_0 (j := 0) rfl rfl)
theorem dX11_roll_1 : decode cX11_roll 1 = .ok (.i2l, 1) := dc_133 (bq_nm bk_X11_roll_0 (j := 1) rfl rfl)
theorem dX11_roll_2 : decode cX11_roll 2 = .ok (.lconst 0, 1) := dc_9 (bq_nm bk_X11_roll_0 (j := 2) rfl rfl)
theorem dX11_roll_3 : decode cX11_roll 3 = .ok (.aload_n 0, 1) := dc_42 (bq_nm bk_X11_roll_0 (j := 3) rfl rfl)
theorem dX11_roll_4 : decode cX11_roll 4 = .ok (.invokevirtual 97, 3) := dc_182 (bq_nm bk_X11_roll_0 (j := 4) rfl rfl) (bq_nm bk_X11_roll_0 (j := 5) rfl rfl) (bq_nm bk_X11_roll_0 (j := 6) rfl rfl) rfl
theorem dX11_roll_7 : decode cX11_roll 7 = .ok (.i2l, 1) := dc_133 (bq_nm bk_X11_roll_0 (j := 7) rfl rfl)
theorem dX11_roll_8 : decode cX11_roll 8 = .ok (.invokestatic 67, 3) := dc_184 (bq_nm bk_X11_roll_0 (j := 8) rfl rfl) (bq_nm bk_X11_roll_0 (j := 9) rfl rfl) (bq_nm bk_X11_roll_0 (j := 10) rfl rfl) rfl
theorem dX11_roll_11 : decode cX11_roll 11 = .ok (.ifCond .eq 22, 3) := dc_153 (bq_nm bk_X11_roll_0 (j := 11) rfl rfl) (bq_nm bk_X11_roll_0 (j := 12) rfl rfl) (bq_nm bk_X11_roll_0 (j := 13) rfl rfl) rfl
theorem dX11_roll_14 : decode cX11_roll 14 = .ok (.iload_n 2, 1) := dc_28 (bq_nm bk_X11_roll_0 (j := 14) rfl rfl)
theorem dX11_roll_15 : decode cX11_roll 15 = .ok (.i2l, 1) := dc_133 (bq_nm bk_X11_roll_0 (j := 15) rfl rfl)
theorem dX11_roll_16 : decode cX11_roll 16 = .ok (.lconst 0, 1) := dc_9 (bq_nm bk_X11_roll_0 (j := 16) rfl rfl)
theorem dX11_roll_17 : decode cX11_roll 17 = .ok (.ldc2_w 101, 3) := dc_20 (bq_nm bk_X11_roll_0 (j := 17) rfl rfl) (bq_nm bk_X11_roll_0 (j := 18) rfl rfl) (bq_nm bk_X11_roll_0 (j := 19) rfl rfl) rfl
theorem dX11_roll_20 : decode cX11_roll 20 = .ok (.invokestatic 67, 3) := dc_184 (bq_nm bk_X11_roll_0 (j := 20) rfl rfl) (bq_nm bk_X11_roll_0 (j := 21) rfl rfl) (bq_nm bk_X11_roll_0 (j := 22) rfl rfl) rfl
theorem dX11_roll_23 : decode cX11_roll 23 = .ok (.ifCond .eq 10, 3) := dc_153 (bq_nm bk_X11_roll_0 (j := 23) rfl rfl) (bq_nm bk_X11_roll_0 (j := 24) rfl rfl) (bq_nm bk_X11_roll_0 (j := 25) rfl rfl) rfl
theorem dX11_roll_26 : decode cX11_roll 26 = .ok (.iload_n 3, 1) := dc_29 (bq_nm bk_X11_roll_0 (j := 26) rfl rfl)
theorem dX11_roll_27 : decode cX11_roll 27 = .ok (.invokestatic 93, 3) := dc_184 (bq_nm bk_X11_roll_0 (j := 27) rfl rfl) (bq_nm bk_X11_roll_0 (j := 28) rfl rfl) (bq_nm bk_X11_roll_0 (j := 29) rfl rfl) rfl
set_option maxRecDepth 20000 in
theorem bk_X11_roll_30 : ((cX11_roll.data.toList.drop 30).take 31).length = 31 ∧ eN (((cX11_roll.data.toList.drop 30).take 31).map UInt8.toNat) = 170336340525780025430235968524991543951590504448005279045335537275684389018 := by decide +kernel
theorem dX11_roll_30 : decode cX11_roll 30 = .ok (.ifCond .ne 6, 3) := dc_154 (bq_nm bk_X11_roll_30 (j := 0) rfl rfl) (bq_nm bk_X11_roll_30 (j := 1) rfl rfl) (bq_nm bk_X11_roll_30 (j := 2) rfl rfl) rfl
theorem dX11_roll_33 : decode cX11_roll 33 = .ok (.bipush (-2), 2) := dc_16 (bq_nm bk_X11_roll_30 (j := 3) rfl rfl) (bq_nm bk_X11_roll_30 (j := 4) rfl rfl) rfl
theorem dX11_roll_35 : decode cX11_roll 35 = .ok (.ireturn, 1) := dc_172 (bq_nm bk_X11_roll_30 (j := 5) rfl rfl)
theorem dX11_roll_36 : decode cX11_roll 36 = .ok (.aload_n 0, 1) := dc_42 (bq_nm bk_X11_roll_30 (j := 6) rfl rfl)
theorem dX11_roll_37 : decode cX11_roll 37 = .ok (.getfield 7, 3) := dc_180 (bq_nm bk_X11_roll_30 (j := 7) rfl rfl) (bq_nm bk_X11_roll_30 (j := 8) rfl rfl) (bq_nm bk_X11_roll_30 (j := 9) rfl rfl) rfl
theorem dX11_roll_40 : decode cX11_roll 40 = .ok (.iconst 2, 1) := dc_5 (bq_nm bk_X11_roll_30 (j := 10) rfl rfl)
theorem dX11_roll_41 : decode cX11_roll 41 = .ok (.iaload, 1) := dc_46 (bq_nm bk_X11_roll_30 (j := 11) rfl rfl)
theorem dX11_roll_42 : decode cX11_roll 42 = .ok (.iconst 4, 1) := dc_7 (bq_nm bk_X11_roll_30 (j := 12) rfl rfl)
theorem dX11_roll_43 : decode cX11_roll 43 = .ok (.if_icmp .ne 6, 3) := dc_160 (bq_nm bk_X11_roll_30 (j := 13) rfl rfl) (bq_nm bk_X11_roll_30 (j := 14) rfl rfl) (bq_nm bk_X11_roll_30 (j := 15) rfl rfl) rfl
theorem dX11_roll_46 : decode cX11_roll 46 = .ok (.bipush (-4), 2) := dc_16 (bq_nm bk_X11_roll_30 (j := 16) rfl rfl) (bq_nm bk_X11_roll_30 (j := 17) rfl rfl) rfl
theorem dX11_roll_48 : decode cX11_roll 48 = .ok (.ireturn, 1) := dc_172 (bq_nm bk_X11_roll_30 (j := 18) rfl rfl)
theorem dX11_roll_49 : decode cX11_roll 49 = .ok (.sipush 250, 3) := dc_17 (bq_nm bk_X11_roll_30 (j := 19) rfl rfl) (bq_nm bk_X11_roll_30 (j := 20) rfl rfl) (bq_nm bk_X11_roll_30 (j := 21) rfl rfl) rfl
theorem dX11_roll_52 : decode cX11_roll 52 = .ok (.iconst 3, 1) := dc_6 (bq_nm bk_X11_roll_30 (j := 22) rfl rfl)
theorem dX11_roll_53 : decode cX11_roll 53 = .ok (.aload_n 0, 1) := dc_42 (bq_nm bk_X11_roll_30 (j := 23) rfl rfl)
theorem dX11_roll_54 : decode cX11_roll 54 = .ok (.getfield 7, 3) := dc_180 (bq_nm bk_X11_roll_30 (j := 24) rfl rfl) (bq_nm bk_X11_roll_30 (j := 25) rfl rfl) (bq_nm bk_X11_roll_30 (j := 26) rfl rfl) rfl
theorem dX11_roll_57 : decode cX11_roll 57 = .ok (.iconst 2, 1) := dc_5 (bq_nm bk_X11_roll_30 (j := 27) rfl rfl)
theorem dX11_roll_58 : decode cX11_roll 58 = .ok (.iaload, 1) := dc_46 (bq_nm bk_X11_roll_30 (j := 28) rfl rfl)
theorem dX11_roll_59 : decode cX11_roll 59 = .ok (.imul, 1) := dc_104 (bq_nm bk_X11_roll_30 (j := 29) rfl rfl)
theorem dX11_roll_60 : decode cX11_roll 60 = .ok (.iadd, 1) := dc_96 (bq_nm bk_X11_roll_30 (j := 30) rfl rfl)
set_option maxRecDepth 20000 in
theorem bk_X11_roll_61 : ((cX11_roll.data.toList.drop 61).take 32).length = 32 ∧ eN (((cX11_roll.data.toList.drop 61).take 32).map UInt8.toNat) = 2336317849548917326238042505080057847961647773684417417924757601206378562614 := by decide +kernel
theorem dX11_roll_61 : decode cX11_roll 61 = .ok (.istore 4, 2) := dc_54 (bq_nm bk_X11_roll_61 (j := 0) rfl rfl) (bq_nm bk_X11_roll_61 (j := 1) rfl rfl)
theorem dX11_roll_63 : decode cX11_roll 63 = .ok (.aload_n 0, 1) := dc_42 (bq_nm bk_X11_roll_61 (j := 2) rfl rfl)
theorem dX11_roll_64 : decode cX11_roll 64 = .ok (.getfield 7, 3) := dc_180 (bq_nm bk_X11_roll_61 (j := 3) rfl rfl) (bq_nm bk_X11_roll_61 (j := 4) rfl rfl) (bq_nm bk_X11_roll_61 (j := 5) rfl rfl) rfl
theorem dX11_roll_67 : decode cX11_roll 67 = .ok (.iload 4, 2) := dc_21 (bq_nm bk_X11_roll_61 (j := 6) rfl rfl) (bq_nm bk_X11_roll_61 (j := 7) rfl rfl)
theorem dX11_roll_69 : decode cX11_roll 69 = .ok (.iload_n 1, 1) := dc_27 (bq_nm bk_X11_roll_61 (j := 8) rfl rfl)
theorem dX11_roll_70 : decode cX11_roll 70 = .ok (.iastore, 1) := dc_79 (bq_nm bk_X11_roll_61 (j := 9) rfl rfl)
theorem dX11_roll_71 : decode cX11_roll 71 = .ok (.aload_n 0, 1) := dc_42 (bq_nm bk_X11_roll_61 (j := 10) rfl rfl)
theorem dX11_roll_72 : decode cX11_roll 72 = .ok (.getfield 7, 3) := dc_180 (bq_nm bk_X11_roll_61 (j := 11) rfl rfl) (bq_nm bk_X11_roll_61 (j := 12) rfl rfl) (bq_nm bk_X11_roll_61 (j := 13) rfl rfl) rfl
theorem dX11_roll_75 : decode cX11_roll 75 = .ok (.iload 4, 2) := dc_21 (bq_nm bk_X11_roll_61 (j := 14) rfl rfl) (bq_nm bk_X11_roll_61 (j := 15) rfl rfl)
theorem dX11_roll_77 : decode cX11_roll 77 = .ok (.iconst 1, 1) := dc_4 (bq_nm bk_X11_roll_61 (j := 16) rfl rfl)
theorem dX11_roll_78 : decode cX11_roll 78 = .ok (.iadd, 1) := dc_96 (bq_nm bk_X11_roll_61 (j := 17) rfl rfl)
theorem dX11_roll_79 : decode cX11_roll 79 = .ok (.iload_n 2, 1) := dc_28 (bq_nm bk_X11_roll_61 (j := 18) rfl rfl)
theorem dX11_roll_80 : decode cX11_roll 80 = .ok (.iastore, 1) := dc_79 (bq_nm bk_X11_roll_61 (j := 19) rfl rfl)
theorem dX11_roll_81 : decode cX11_roll 81 = .ok (.aload_n 0, 1) := dc_42 (bq_nm bk_X11_roll_61 (j := 20) rfl rfl)
theorem dX11_roll_82 : decode cX11_roll 82 = .ok (.getfield 7, 3) := dc_180 (bq_nm bk_X11_roll_61 (j := 21) rfl rfl) (bq_nm bk_X11_roll_61 (j := 22) rfl rfl) (bq_nm bk_X11_roll_61 (j := 23) rfl rfl) rfl
theorem dX11_roll_85 : decode cX11_roll 85 = .ok (.iload 4, 2) := dc_21 (bq_nm bk_X11_roll_61 (j := 24) rfl rfl) (bq_nm bk_X11_roll_61 (j := 25) rfl rfl)
theorem dX11_roll_87 : decode cX11_roll 87 = .ok (.iconst 2, 1) := dc_5 (bq_nm bk_X11_roll_61 (j := 26) rfl rfl)
theorem dX11_roll_88 : decode cX11_roll 88 = .ok (.iadd, 1) := dc_96 (bq_nm bk_X11_roll_61 (j := 27) rfl rfl)
theorem dX11_roll_89 : decode cX11_roll 89 = .ok (.iload_n 3, 1) := dc_29 (bq_nm bk_X11_roll_61 (j := 28) rfl rfl)
theorem dX11_roll_90 : decode cX11_roll 90 = .ok (.iastore, 1) := dc_79 (bq_nm bk_X11_roll_61 (j := 29) rfl rfl)
theorem dX11_roll_91 : decode cX11_roll 91 = .ok (.aload_n 0, 1) := dc_42 (bq_nm bk_X11_roll_61 (j := 30) rfl rfl)
theorem dX11_roll_92 : decode cX11_roll 92 = .ok (.iconst 2, 1) := dc_5 (bq_nm bk_X11_roll_61 (j := 31) rfl rfl)
set_option maxRecDepth 20000 in
theorem bk_X11_roll_93 : ((cX11_roll.data.toList.drop 93).take 4).length = 4 ∧ eN (((cX11_roll.data.toList.drop 93).take 4).map UInt8.toNat) = 2891120822 := by decide +kernel
theorem dX11_roll_93 : decode cX11_roll 93 = .ok (.invokevirtual 83, 3) := dc_182 (bq_nm bk_X11_roll_93 (j := 0) rfl rfl) (bq_nm bk_X11_roll_93 (j := 1) rfl rfl) (bq_nm bk_X11_roll_93 (j := 2) rfl rfl) rfl
theorem dX11_roll_96 : decode cX11_roll 96 = .ok (.ireturn, 1) := dc_172 (bq_nm bk_X11_roll_93 (j := 3) rfl rfl)
set_option maxRecDepth 20000 in
theorem bk_X11_theRoll_0 : ((cX11_theRoll.data.toList.drop 0).take 32).length = 32 ∧ eN (((cX11_theRoll.data.toList.drop 0).take 32).map UInt8.toNat) = 3167315657539817759552075706145910536468624665200002663983877320398900247810 := by decide +kernel
theorem dX11_theRoll_0 : decode cX11_theRoll 0 = .ok (.iconst (-1), 1) := dc_2 (bq_nm bk_X11_theRoll_0 (j := 0) rfl rfl)
theorem dX11_theRoll_1 : decode cX11_theRoll 1 = .ok (.istore_n 2, 1) := dc_61 (bq_nm bk_X11_theRoll_0 (j := 1) rfl rfl)
theorem dX11_theRoll_2 : decode cX11_theRoll 2 = .ok (.iconst 0, 1) := dc_3 (bq_nm bk_X11_theRoll_0 (j := 2) rfl rfl)
theorem dX11_theRoll_3 : decode cX11_theRoll 3 = .ok (.istore_n 3, 1) := dc_62 (bq_nm bk_X11_theRoll_0 (j := 3) rfl rfl)
theorem dX11_theRoll_4 : decode cX11_theRoll 4 = .ok (.iload_n 3, 1) := dc_29 (bq_nm bk_X11_theRoll_0 (j := 4) rfl rfl)
theorem dX11_theRoll_5 : decode cX11_theRoll 5 = .ok (.aload_n 0, 1) := dc_42 (bq_nm bk_X11_theRoll_0 (j := 5) rfl rfl)
theorem dX11_theRoll_6 : decode cX11_theRoll 6 = .ok (.getfield 7, 3) := dc_180 (bq_nm bk_X11_theRoll_0 (j := 6) rfl rfl) (bq_nm bk_X11_theRoll_0 (j := 7) rfl rfl) (bq_nm bk_X11_theRoll_0 (j := 8) rfl rfl) rfl
theorem dX11_theRoll_9 : decode cX11_theRoll 9 = .ok (.iconst 2, 1) := dc_5 (bq_nm bk_X11_theRoll_0 (j := 9) rfl rfl)
theorem dX11_theRoll_10 : decode cX11_theRoll 10 = .ok (.iaload, 1) := dc_46 (bq_nm bk_X11_theRoll_0 (j := 10) rfl rfl)
theorem dX11_theRoll_11 : decode cX11_theRoll 11 = .ok (.if_icmp .ge 81, 3) := dc_162 (bq_nm bk_X11_theRoll_0 (j := 11) rfl rfl) (bq_nm bk_X11_theRoll_0 (j := 12) rfl rfl) (bq_nm bk_X11_theRoll_0 (j := 13) rfl rfl) rfl
theorem dX11_theRoll_14 : decode cX11_theRoll 14 = .ok (.aload_n 0, 1) := dc_42 (bq_nm bk_X11_theRoll_0 (j := 14) rfl rfl)
theorem dX11_theRoll_15 : decode cX11_theRoll 15 = .ok (.getfield 7, 3) := dc_180 (bq_nm bk_X11_theRoll_0 (j := 15) rfl rfl) (bq_nm bk_X11_theRoll_0 (j := 16) rfl rfl) (bq_nm bk_X11_theRoll_0 (j := 17) rfl rfl) rfl
theorem dX11_theRoll_18 : decode cX11_theRoll 18 = .ok (.sipush 250, 3) := dc_17 (bq_nm bk_X11_theRoll_0 (j := 18) rfl rfl) (bq_nm bk_X11_theRoll_0 (j := 19) rfl rfl) (bq_nm bk_X11_theRoll_0 (j := 20) rfl rfl) rfl
theorem dX11_theRoll_21 : decode cX11_theRoll 21 = .ok (.iconst 3, 1) := dc_6 (bq_nm bk_X11_theRoll_0 (j := 21) rfl rfl)
theorem dX11_theRoll_22 : decode cX11_theRoll 22 = .ok (.iload_n 3, 1) := dc_29 (bq_nm bk_X11_theRoll_0 (j := 22) rfl rfl)
theorem dX11_theRoll_23 : decode cX11_theRoll 23 = .ok (.imul, 1) := dc_104 (bq_nm bk_X11_theRoll_0 (j := 23) rfl rfl)
theorem dX11_theRoll_24 : decode cX11_theRoll 24 = .ok (.iadd, 1) := dc_96 (bq_nm bk_X11_theRoll_0 (j := 24) rfl rfl)
theorem dX11_theRoll_25 : decode cX11_theRoll 25 = .ok (.iconst 2, 1) := dc_5 (bq_nm bk_X11_theRoll_0 (j := 25) rfl rfl)
theorem dX11_theRoll_26 : decode cX11_theRoll 26 = .ok (.iadd, 1) := dc_96 (bq_nm bk_X11_theRoll_0 (j := 26) rfl rfl)
theorem dX11_theRoll_27 : decode cX11_theRoll 27 = .ok (.iaload, 1) := dc_46 (bq_nm bk_X11_theRoll_0 (j := 27) rfl rfl)
theorem dX11_theRoll_28 : decode cX11_theRoll 28 = .ok (.iload_n 1, 1) := dc_27 (bq_nm bk_X11_theRoll_0 (j := 28) rfl rfl)
theorem dX11_theRoll_29 : decode cX11_theRoll 29 = .ok (.if_icmp .gt 7, 3) := dc_163 (bq_nm bk_X11_theRoll_0 (j := 29) rfl rfl) (bq_nm bk_X11_theRoll_0 (j := 30) rfl rfl) (bq_nm bk_X11_theRoll_0 (j := 31) rfl rfl) rfl
set_option maxRecDepth 20000 in
theorem bk_X11_theRoll_32 : ((cX11_theRoll.data.toList.drop 32).take 32).length = 32 ∧ eN (((cX11_theRoll.data.toList.drop 32).take 32).map UInt8.toNat) = 19079077291118882317234323065540318595982775466045980751844430783499435288324 := by decide +kernel
theorem dX11_theRoll_32 : decode cX11_theRoll 32 = .ok (.iconst 1, 1) := dc_4 (bq_nm bk_X11_theRoll_32 (j := 0) rfl rfl)
theorem dX11_theRoll_33 : decode cX11_theRoll 33 = .ok (.goto 4, 3) := dc_167 (bq_nm bk_X11_theRoll_32 (j := 1) rfl rfl) (bq_nm bk_X11_theRoll_32 (j := 2) rfl rfl) (bq_nm bk_X11_theRoll_32 (j := 3) rfl rfl) rfl
theorem dX11_theRoll_36 : decode cX11_theRoll 36 = .ok (.iconst 0, 1) := dc_3 (bq_nm bk_X11_theRoll_32 (j := 4) rfl rfl)
theorem dX11_theRoll_37 : decode cX11_theRoll 37 = .ok (.istore 4, 2) := dc_54 (bq_nm bk_X11_theRoll_32 (j := 5) rfl rfl) (bq_nm bk_X11_theRoll_32 (j := 6) rfl rfl)
theorem dX11_theRoll_39 : decode cX11_theRoll 39 = .ok (.iload 4, 2) := dc_21 (bq_nm bk_X11_theRoll_32 (j := 7) rfl rfl) (bq_nm bk_X11_theRoll_32 (j := 8) rfl rfl)
theorem dX11_theRoll_41 : decode cX11_theRoll 41 = .ok (.ifCond .eq 43, 3) := dc_153 (bq_nm bk_X11_theRoll_32 (j := 9) rfl rfl) (bq_nm bk_X11_theRoll_32 (j := 10) rfl rfl) (bq_nm bk_X11_theRoll_32 (j := 11) rfl rfl) rfl
theorem dX11_theRoll_44 : decode cX11_theRoll 44 = .ok (.iload_n 2, 1) := dc_28 (bq_nm bk_X11_theRoll_32 (j := 12) rfl rfl)
theorem dX11_theRoll_45 : decode cX11_theRoll 45 = .ok (.iconst (-1), 1) := dc_2 (bq_nm bk_X11_theRoll_32 (j := 13) rfl rfl)
theorem dX11_theRoll_46 : decode cX11_theRoll 46 = .ok (.if_icmp .eq 34, 3) := dc_159 (bq_nm bk_X11_theRoll_32 (j := 14) rfl rfl) (bq_nm bk_X11_theRoll_32 (j := 15) rfl rfl) (bq_nm bk_X11_theRoll_32 (j := 16) rfl rfl) rfl
theorem dX11_theRoll_49 : decode cX11_theRoll 49 = .ok (.aload_n 0, 1) := dc_42 (bq_nm bk_X11_theRoll_32 (j := 17) rfl rfl)
theorem dX11_theRoll_50 : decode cX11_theRoll 50 = .ok (.getfield 7, 3) := dc_180 (bq_nm bk_X11_theRoll_32 (j := 18) rfl rfl) (bq_nm bk_X11_theRoll_32 (j := 19) rfl rfl) (bq_nm bk_X11_theRoll_32 (j := 20) rfl rfl) rfl
theorem dX11_theRoll_53 : decode cX11_theRoll 53 = .ok (.sipush 250, 3) := dc_17 (bq_nm bk_X11_theRoll_32 (j := 21) rfl rfl) (bq_nm bk_X11_theRoll_32 (j := 22) rfl rfl) (bq_nm bk_X11_theRoll_32 (j := 23) rfl rfl) rfl
theorem dX11_theRoll_56 : decode cX11_theRoll 56 = .ok (.iconst 3, 1) := dc_6 (bq_nm bk_X11_theRoll_32 (j := 24) rfl rfl)
theorem dX11_theRoll_57 : decode cX11_theRoll 57 = .ok (.iload_n 3, 1) := dc_29 (bq_nm bk_X11_theRoll_32 (j := 25) rfl rfl)
theorem dX11_theRoll_58 : decode cX11_theRoll 58 = .ok (.imul, 1) := dc_104 (bq_nm bk_X11_theRoll_32 (j := 26) rfl rfl)
theorem dX11_theRoll_59 : decode cX11_theRoll 59 = .ok (.iadd, 1) := dc_96 (bq_nm bk_X11_theRoll_32 (j := 27) rfl rfl)
theorem dX11_theRoll_60 : decode cX11_theRoll 60 = .ok (.iconst 1, 1) := dc_4 (bq_nm bk_X11_theRoll_32 (j := 28) rfl rfl)
theorem dX11_theRoll_61 : decode cX11_theRoll 61 = .ok (.iadd, 1) := dc_96 (bq_nm bk_X11_theRoll_32 (j := 29) rfl rfl)
theorem dX11_theRoll_62 : decode cX11_theRoll 62 = .ok (.iaload, 1) := dc_46 (bq_nm bk_X11_theRoll_32 (j := 30) rfl rfl)
theorem dX11_theRoll_63 : decode cX11_theRoll 63 = .ok (.aload_n 0, 1) := dc_42 (bq_nm bk_X11_theRoll_32 (j := 31) rfl rfl)
set_option maxRecDepth 20000 in
theorem bk_X11_theRoll_64 : ((cX11_theRoll.data.toList.drop 64).take 30).length = 30 ∧ eN (((cX11_theRoll.data.toList.drop 64).take 30).map UInt8.toNat) = 14576484771417214713655410376455041901049244704354689097076141791314100 := by decide +kernel
theorem dX11_theRoll_64 : decode cX11_theRoll 64 = .ok (.getfield 7, 3) := dc_180 (bq_nm bk_X11_theRoll_64 (j := 0) rfl rfl) (bq_nm bk_X11_theRoll_64 (j := 1) rfl rfl) (bq_nm bk_X11_theRoll_64 (j := 2) rfl rfl) rfl
theorem dX11_theRoll_67 : decode cX11_theRoll 67 = .ok (.sipush 250, 3) := dc_17 (bq_nm bk_X11_theRoll_64 (j := 3) rfl rfl) (bq_nm bk_X11_theRoll_64 (j := 4) rfl rfl) (bq_nm bk_X11_theRoll_64 (j := 5) rfl rfl) rfl
theorem dX11_theRoll_70 : decode cX11_theRoll 70 = .ok (.iconst 3, 1) := dc_6 (bq_nm bk_X11_theRoll_64 (j := 6) rfl rfl)
theorem dX11_theRoll_71 : decode cX11_theRoll 71 = .ok (.iload_n 2, 1) := dc_28 (bq_nm bk_X11_theRoll_64 (j := 7) rfl rfl)
theorem dX11_theRoll_72 : decode cX11_theRoll 72 = .ok (.imul, 1) := dc_104 (bq_nm bk_X11_theRoll_64 (j := 8) rfl rfl)
theorem dX11_theRoll_73 : decode cX11_theRoll 73 = .ok (.iadd, 1) := dc_96 (bq_nm bk_X11_theRoll_64 (j := 9) rfl rfl)
theorem dX11_theRoll_74 : decode cX11_theRoll 74 = .ok (.iconst 1, 1) := dc_4 (bq_nm bk_X11_theRoll_64 (j := 10) rfl rfl)
theorem dX11_theRoll_75 : decode cX11_theRoll 75 = .ok (.iadd, 1) := dc_96 (bq_nm bk_X11_theRoll_64 (j := 11) rfl rfl)
theorem dX11_theRoll_76 : decode cX11_theRoll 76 = .ok (.iaload, 1) := dc_46 (bq_nm bk_X11_theRoll_64 (j := 12) rfl rfl)
theorem dX11_theRoll_77 : decode cX11_theRoll 77 = .ok (.if_icmp .lt 7, 3) := dc_161 (bq_nm bk_X11_theRoll_64 (j := 13) rfl rfl) (bq_nm bk_X11_theRoll_64 (j := 14) rfl rfl) (bq_nm bk_X11_theRoll_64 (j := 15) rfl rfl) rfl
theorem dX11_theRoll_80 : decode cX11_theRoll 80 = .ok (.iload_n 3, 1) := dc_29 (bq_nm bk_X11_theRoll_64 (j := 16) rfl rfl)
theorem dX11_theRoll_81 : decode cX11_theRoll 81 = .ok (.goto 4, 3) := dc_167 (bq_nm bk_X11_theRoll_64 (j := 17) rfl rfl) (bq_nm bk_X11_theRoll_64 (j := 18) rfl rfl) (bq_nm bk_X11_theRoll_64 (j := 19) rfl rfl) rfl
theorem dX11_theRoll_84 : decode cX11_theRoll 84 = .ok (.iload_n 2, 1) := dc_28 (bq_nm bk_X11_theRoll_64 (j := 20) rfl rfl)
theorem dX11_theRoll_85 : decode cX11_theRoll 85 = .ok (.istore_n 2, 1) := dc_61 (bq_nm bk_X11_theRoll_64 (j := 21) rfl rfl)
theorem dX11_theRoll_86 : decode cX11_theRoll 86 = .ok (.iinc 3 1, 3) := dc_132 (bq_nm bk_X11_theRoll_64 (j := 22) rfl rfl) (bq_nm bk_X11_theRoll_64 (j := 23) rfl rfl) (bq_nm bk_X11_theRoll_64 (j := 24) rfl rfl) rfl
theorem dX11_theRoll_89 : decode cX11_theRoll 89 = .ok (.goto (-85), 3) := dc_167 (bq_nm bk_X11_theRoll_64 (j := 25) rfl rfl) (bq_nm bk_X11_theRoll_64 (j := 26) rfl rfl) (bq_nm bk_X11_theRoll_64 (j := 27) rfl rfl) rfl
theorem dX11_theRoll_92 : decode cX11_theRoll 92 = .ok (.iload_n 2, 1) := dc_28 (bq_nm bk_X11_theRoll_64 (j := 28) rfl rfl)
theorem dX11_theRoll_93 : decode cX11_theRoll 93 = .ok (.iconst (-1), 1) := dc_2 (bq_nm bk_X11_theRoll_64 (j := 29) rfl rfl)
set_option maxRecDepth 20000 in
theorem bk_X11_theRoll_94 : ((cX11_theRoll.data.toList.drop 94).take 23).length = 23 ∧ eN (((cX11_theRoll.data.toList.drop 94).take 23).map UInt8.toNat) = 16491678606106766482431044531726005556785882758336086176 := by decide +kernel
theorem dX11_theRoll_94 : decode cX11_theRoll 94 = .ok (.if_icmp .ne 10, 3) := dc_160 (bq_nm bk_X11_theRoll_94 (j := 0) rfl rfl) (bq_nm bk_X11_theRoll_94 (j := 1) rfl rfl) (bq_nm bk_X11_theRoll_94 (j := 2) rfl rfl) rfl
theorem dX11_theRoll_97 : decode cX11_theRoll 97 = .ok (.aload_n 0, 1) := dc_42 (bq_nm bk_X11_theRoll_94 (j := 3) rfl rfl)
theorem dX11_theRoll_98 : decode cX11_theRoll 98 = .ok (.invokevirtual 97, 3) := dc_182 (bq_nm bk_X11_theRoll_94 (j := 4) rfl rfl) (bq_nm bk_X11_theRoll_94 (j := 5) rfl rfl) (bq_nm bk_X11_theRoll_94 (j := 6) rfl rfl) rfl
theorem dX11_theRoll_101 : decode cX11_theRoll 101 = .ok (.goto 15, 3) := dc_167 (bq_nm bk_X11_theRoll_94 (j := 7) rfl rfl) (bq_nm bk_X11_theRoll_94 (j := 8) rfl rfl) (bq_nm bk_X11_theRoll_94 (j := 9) rfl rfl) rfl
theorem dX11_theRoll_104 : decode cX11_theRoll 104 = .ok (.aload_n 0, 1) := dc_42 (bq_nm bk_X11_theRoll_94 (j := 10) rfl rfl)
theorem dX11_theRoll_105 : decode cX11_theRoll 105 = .ok (.getfield 7, 3) := dc_180 (bq_nm bk_X11_theRoll_94 (j := 11) rfl rfl) (bq_nm bk_X11_theRoll_94 (j := 12) rfl rfl) (bq_nm bk_X11_theRoll_94 (j := 13) rfl rfl) rfl
theorem dX11_theRoll_108 : decode cX11_theRoll 108 = .ok (.sipush 250, 3) := dc_17 (bq_nm bk_X11_theRoll_94 (j := 14) rfl rfl) (bq_nm bk_X11_theRoll_94 (j := 15) rfl rfl) (bq_nm bk_X11_theRoll_94 (j := 16) rfl rfl) rfl
theorem dX11_theRoll_111 : decode cX11_theRoll 111 = .ok (.iconst 3, 1) := dc_6 (bq_nm bk_X11_theRoll_94 (j := 17) rfl rfl)
theorem dX11_theRoll_112 : decode cX11_theRoll 112 = .ok (.iload_n 2, 1) := dc_28 (bq_nm bk_X11_theRoll_94 (j := 18) rfl rfl)
theorem dX11_theRoll_113 : decode cX11_theRoll 113 = .ok (.imul, 1) := dc_104 (bq_nm bk_X11_theRoll_94 (j := 19) rfl rfl)
theorem dX11_theRoll_114 : decode cX11_theRoll 114 = .ok (.iadd, 1) := dc_96 (bq_nm bk_X11_theRoll_94 (j := 20) rfl rfl)
theorem dX11_theRoll_115 : decode cX11_theRoll 115 = .ok (.iaload, 1) := dc_46 (bq_nm bk_X11_theRoll_94 (j := 21) rfl rfl)
theorem dX11_theRoll_116 : decode cX11_theRoll 116 = .ok (.ireturn, 1) := dc_172 (bq_nm bk_X11_theRoll_94 (j := 22) rfl rfl)
set_option maxRecDepth 20000 in
theorem bk_X11_rollOf_0 : ((cX11_rollOf.data.toList.drop 0).take 18).length = 18 ∧ eN (((cX11_rollOf.data.toList.drop 0).take 18).map UInt8.toNat) = 15069766195083360625222978002697032250210331 := by decide +kernel
theorem dX11_rollOf_0 : decode cX11_rollOf 0 = .ok (.iload_n 1, 1) := dc_27 (bq_nm bk_X11_rollOf_0 (j := 0) rfl rfl)
theorem dX11_rollOf_1 : decode cX11_rollOf 1 = .ok (.invokestatic 93, 3) := dc_184 (bq_nm bk_X11_rollOf_0 (j := 1) rfl rfl) (bq_nm bk_X11_rollOf_0 (j := 2) rfl rfl) (bq_nm bk_X11_rollOf_0 (j := 3) rfl rfl) rfl
theorem dX11_rollOf_4 : decode cX11_rollOf 4 = .ok (.ifCond .eq 11, 3) := dc_153 (bq_nm bk_X11_rollOf_0 (j := 4) rfl rfl) (bq_nm bk_X11_rollOf_0 (j := 5) rfl rfl) (bq_nm bk_X11_rollOf_0 (j := 6) rfl rfl) rfl
theorem dX11_rollOf_7 : decode cX11_rollOf 7 = .ok (.aload_n 0, 1) := dc_42 (bq_nm bk_X11_rollOf_0 (j := 7) rfl rfl)
theorem dX11_rollOf_8 : decode cX11_rollOf 8 = .ok (.iload_n 1, 1) := dc_27 (bq_nm bk_X11_rollOf_0 (j := 8) rfl rfl)
theorem dX11_rollOf_9 : decode cX11_rollOf 9 = .ok (.invokevirtual 103, 3) := dc_182 (bq_nm bk_X11_rollOf_0 (j := 9) rfl rfl) (bq_nm bk_X11_rollOf_0 (j := 10) rfl rfl) (bq_nm bk_X11_rollOf_0 (j := 11) rfl rfl) rfl
theorem dX11_rollOf_12 : decode cX11_rollOf 12 = .ok (.goto 5, 3) := dc_167 (bq_nm bk_X11_rollOf_0 (j := 12) rfl rfl) (bq_nm bk_X11_rollOf_0 (j := 13) rfl rfl) (bq_nm bk_X11_rollOf_0 (j := 14) rfl rfl) rfl
theorem dX11_rollOf_15 : decode cX11_rollOf 15 = .ok (.bipush (-2), 2) := dc_16 (bq_nm bk_X11_rollOf_0 (j := 15) rfl rfl) (bq_nm bk_X11_rollOf_0 (j := 16) rfl rfl) rfl
theorem dX11_rollOf_17 : decode cX11_rollOf 17 = .ok (.ireturn, 1) := dc_172 (bq_nm bk_X11_rollOf_0 (j := 17) rfl rfl)
set_option maxRecDepth 20000 in
theorem bk_X11_emits_0 : ((cX11_emits.data.toList.drop 0).take 31).length = 31 ∧ eN (((cX11_emits.data.toList.drop 0).take 31).map UInt8.toNat) = 313463534679557820624506401559802238316170203875163863377979959460096947242 := by decide +kernel
theorem dX11_emits_0 : decode cX11_emits 0 = .ok (.aload_n 0, 1) := dc_42 (bq_nm bk_X11_emits_0 (j := 0) rfl rfl)
theorem dX11_emits_1 : decode cX11_emits 1 = .ok (.getfield 20, 3) := dc_180 (bq_nm bk_X11_emits_0 (j := 1) rfl rfl) (bq_nm bk_X11_emits_0 (j := 2) rfl rfl) (bq_nm bk_X11_emits_0 (j := 3) rfl rfl) rfl
theorem dX11_emits_4 : decode cX11_emits 4 = .ok (.aload_n 0, 1) := dc_42 (bq_nm bk_X11_emits_0 (j := 4) rfl rfl)
theorem dX11_emits_5 : decode cX11_emits 5 = .ok (.getfield 106, 3) := dc_180 (bq_nm bk_X11_emits_0 (j := 5) rfl rfl) (bq_nm bk_X11_emits_0 (j := 6) rfl rfl) (bq_nm bk_X11_emits_0 (j := 7) rfl rfl) rfl
theorem dX11_emits_8 : decode cX11_emits 8 = .ok (.iload_n 1, 1) := dc_27 (bq_nm bk_X11_emits_0 (j := 8) rfl rfl)
theorem dX11_emits_9 : decode cX11_emits 9 = .ok (.iastore, 1) := dc_79 (bq_nm bk_X11_emits_0 (j := 9) rfl rfl)
theorem dX11_emits_10 : decode cX11_emits 10 = .ok (.aload_n 0, 1) := dc_42 (bq_nm bk_X11_emits_0 (j := 10) rfl rfl)
theorem dX11_emits_11 : decode cX11_emits 11 = .ok (.getfield 23, 3) := dc_180 (bq_nm bk_X11_emits_0 (j := 11) rfl rfl) (bq_nm bk_X11_emits_0 (j := 12) rfl rfl) (bq_nm bk_X11_emits_0 (j := 13) rfl rfl) rfl
theorem dX11_emits_14 : decode cX11_emits 14 = .ok (.aload_n 0, 1) := dc_42 (bq_nm bk_X11_emits_0 (j := 14) rfl rfl)
theorem dX11_emits_15 : decode cX11_emits 15 = .ok (.getfield 106, 3) := dc_180 (bq_nm bk_X11_emits_0 (j := 15) rfl rfl) (bq_nm bk_X11_emits_0 (j := 16) rfl rfl) (bq_nm bk_X11_emits_0 (j := 17) rfl rfl) rfl
theorem dX11_emits_18 : decode cX11_emits 18 = .ok (.iload_n 2, 1) := dc_28 (bq_nm bk_X11_emits_0 (j := 18) rfl rfl)
theorem dX11_emits_19 : decode cX11_emits 19 = .ok (.iastore, 1) := dc_79 (bq_nm bk_X11_emits_0 (j := 19) rfl rfl)
theorem dX11_emits_20 : decode cX11_emits 20 = .ok (.aload_n 0, 1) := dc_42 (bq_nm bk_X11_emits_0 (j := 20) rfl rfl)
theorem dX11_emits_21 : decode cX11_emits 21 = .ok (.dup, 1) := dc_89 (bq_nm bk_X11_emits_0 (j := 21) rfl rfl)
theorem dX11_emits_22 : decode cX11_emits 22 = .ok (.getfield 106, 3) := dc_180 (bq_nm bk_X11_emits_0 (j := 22) rfl rfl) (bq_nm bk_X11_emits_0 (j := 23) rfl rfl) (bq_nm bk_X11_emits_0 (j := 24) rfl rfl) rfl
theorem dX11_emits_25 : decode cX11_emits 25 = .ok (.iconst 1, 1) := dc_4 (bq_nm bk_X11_emits_0 (j := 25) rfl rfl)
theorem dX11_emits_26 : decode cX11_emits 26 = .ok (.iadd, 1) := dc_96 (bq_nm bk_X11_emits_0 (j := 26) rfl rfl)
theorem dX11_emits_27 : decode cX11_emits 27 = .ok (.putfield 106, 3) := dc_181 (bq_nm bk_X11_emits_0 (j := 27) rfl rfl) (bq_nm bk_X11_emits_0 (j := 28) rfl rfl) (bq_nm bk_X11_emits_0 (j := 29) rfl rfl) rfl
theorem dX11_emits_30 : decode cX11_emits 30 = .ok (.return_, 1) := dc_177 (bq_nm bk_X11_emits_0 (j := 30) rfl rfl)
set_option maxRecDepth 20000 in
theorem bk_X11_holds_0 : ((cX11_holds.data.toList.drop 0).take 1).length = 1 ∧ eN (((cX11_holds.data.toList.drop 0).take 1).map UInt8.toNat) = 26 := by decide +kernel
theorem dX11_holds_0 : decode cX11_holds 0 = .ok (.iload_n 0, 1) := dc_26 (bq_nm bk_X11_holds_0 (j := 0) rfl rfl)
set_option maxRecDepth 20000 in
theorem bk_X11_holds_60 : ((cX11_holds.data.toList.drop 60).take 26).length = 26 ∧ eN (((cX11_holds.data.toList.drop 60).take 26).map UInt8.toNat) = 276416392792965965276463012248395167500207543262222237999826448 := by decide +kernel
theorem dX11_holds_60 : decode cX11_holds 60 = .ok (.bipush 6, 2) := dc_16 (bq_nm bk_X11_holds_60 (j := 0) rfl rfl) (bq_nm bk_X11_holds_60 (j := 1) rfl rfl) rfl
theorem dX11_holds_62 : decode cX11_holds 62 = .ok (.ireturn, 1) := dc_172 (bq_nm bk_X11_holds_60 (j := 2) rfl rfl)
theorem dX11_holds_63 : decode cX11_holds 63 = .ok (.bipush 6, 2) := dc_16 (bq_nm bk_X11_holds_60 (j := 3) rfl rfl) (bq_nm bk_X11_holds_60 (j := 4) rfl rfl) rfl
theorem dX11_holds_65 : decode cX11_holds 65 = .ok (.ireturn, 1) := dc_172 (bq_nm bk_X11_holds_60 (j := 5) rfl rfl)
theorem dX11_holds_66 : decode cX11_holds 66 = .ok (.iconst 5, 1) := dc_8 (bq_nm bk_X11_holds_60 (j := 6) rfl rfl)
theorem dX11_holds_67 : decode cX11_holds 67 = .ok (.ireturn, 1) := dc_172 (bq_nm bk_X11_holds_60 (j := 7) rfl rfl)
theorem dX11_holds_68 : decode cX11_holds 68 = .ok (.iconst 5, 1) := dc_8 (bq_nm bk_X11_holds_60 (j := 8) rfl rfl)
theorem dX11_holds_69 : decode cX11_holds 69 = .ok (.ireturn, 1) := dc_172 (bq_nm bk_X11_holds_60 (j := 9) rfl rfl)
theorem dX11_holds_70 : decode cX11_holds 70 = .ok (.iconst 4, 1) := dc_7 (bq_nm bk_X11_holds_60 (j := 10) rfl rfl)
theorem dX11_holds_71 : decode cX11_holds 71 = .ok (.ireturn, 1) := dc_172 (bq_nm bk_X11_holds_60 (j := 11) rfl rfl)
theorem dX11_holds_72 : decode cX11_holds 72 = .ok (.iconst 4, 1) := dc_7 (bq_nm bk_X11_holds_60 (j := 12) rfl rfl)
theorem dX11_holds_73 : decode cX11_holds 73 = .ok (.ireturn, 1) := dc_172 (bq_nm bk_X11_holds_60 (j := 13) rfl rfl)
theorem dX11_holds_74 : decode cX11_holds 74 = .ok (.iconst 3, 1) := dc_6 (bq_nm bk_X11_holds_60 (j := 14) rfl rfl)
theorem dX11_holds_75 : decode cX11_holds 75 = .ok (.ireturn, 1) := dc_172 (bq_nm bk_X11_holds_60 (j := 15) rfl rfl)
theorem dX11_holds_76 : decode cX11_holds 76 = .ok (.iconst 3, 1) := dc_6 (bq_nm bk_X11_holds_60 (j := 16) rfl rfl)
theorem dX11_holds_77 : decode cX11_holds 77 = .ok (.ireturn, 1) := dc_172 (bq_nm bk_X11_holds_60 (j := 17) rfl rfl)
theorem dX11_holds_78 : decode cX11_holds 78 = .ok (.iconst 3, 1) := dc_6 (bq_nm bk_X11_holds_60 (j := 18) rfl rfl)
theorem dX11_holds_79 : decode cX11_holds 79 = .ok (.ireturn, 1) := dc_172 (bq_nm bk_X11_holds_60 (j := 19) rfl rfl)
theorem dX11_holds_80 : decode cX11_holds 80 = .ok (.iconst 2, 1) := dc_5 (bq_nm bk_X11_holds_60 (j := 20) rfl rfl)
theorem dX11_holds_81 : decode cX11_holds 81 = .ok (.ireturn, 1) := dc_172 (bq_nm bk_X11_holds_60 (j := 21) rfl rfl)
theorem dX11_holds_82 : decode cX11_holds 82 = .ok (.iconst 1, 1) := dc_4 (bq_nm bk_X11_holds_60 (j := 22) rfl rfl)
theorem dX11_holds_83 : decode cX11_holds 83 = .ok (.ireturn, 1) := dc_172 (bq_nm bk_X11_holds_60 (j := 23) rfl rfl)
theorem dX11_holds_84 : decode cX11_holds 84 = .ok (.iconst 0, 1) := dc_3 (bq_nm bk_X11_holds_60 (j := 24) rfl rfl)
theorem dX11_holds_85 : decode cX11_holds 85 = .ok (.ireturn, 1) := dc_172 (bq_nm bk_X11_holds_60 (j := 25) rfl rfl)
set_option maxRecDepth 20000 in
theorem bk_X11_settles_0 : ((cX11_settles.data.toList.drop 0).take 32).length = 32 ∧ eN (((cX11_settles.data.toList.drop 0).take 32).map UInt8.toNat) = 45239111457676791993134399414854797511446845723268130041125238934672796333098 := by decide +kernel
theorem dX11_settles_0 : decode cX11_settles 0 = .ok (.aload_n 0, 1) := dc_42 (bq_nm bk_X11_settles_0 (j := 0) rfl rfl)
theorem dX11_settles_1 : decode cX11_settles 1 = .ok (.getfield 110, 3) := dc_180 (bq_nm bk_X11_settles_0 (j := 1) rfl rfl) (bq_nm bk_X11_settles_0 (j := 2) rfl rfl) (bq_nm bk_X11_settles_0 (j := 3) rfl rfl) rfl
theorem dX11_settles_4 : decode cX11_settles 4 = .ok (.ifCond .le 48, 3) := dc_158 (bq_nm bk_X11_settles_0 (j := 4) rfl rfl) (bq_nm bk_X11_settles_0 (j := 5) rfl rfl) (bq_nm bk_X11_settles_0 (j := 6) rfl rfl) rfl
theorem dX11_settles_7 : decode cX11_settles 7 = .ok (.aload_n 0, 1) := dc_42 (bq_nm bk_X11_settles_0 (j := 7) rfl rfl)
theorem dX11_settles_8 : decode cX11_settles 8 = .ok (.getfield 26, 3) := dc_180 (bq_nm bk_X11_settles_0 (j := 8) rfl rfl) (bq_nm bk_X11_settles_0 (j := 9) rfl rfl) (bq_nm bk_X11_settles_0 (j := 10) rfl rfl) rfl
theorem dX11_settles_11 : decode cX11_settles 11 = .ok (.aload_n 0, 1) := dc_42 (bq_nm bk_X11_settles_0 (j := 11) rfl rfl)
theorem dX11_settles_12 : decode cX11_settles 12 = .ok (.getfield 110, 3) := dc_180 (bq_nm bk_X11_settles_0 (j := 12) rfl rfl) (bq_nm bk_X11_settles_0 (j := 13) rfl rfl) (bq_nm bk_X11_settles_0 (j := 14) rfl rfl) rfl
theorem dX11_settles_15 : decode cX11_settles 15 = .ok (.iconst 1, 1) := dc_4 (bq_nm bk_X11_settles_0 (j := 15) rfl rfl)
theorem dX11_settles_16 : decode cX11_settles 16 = .ok (.isub, 1) := dc_100 (bq_nm bk_X11_settles_0 (j := 16) rfl rfl)
theorem dX11_settles_17 : decode cX11_settles 17 = .ok (.iaload, 1) := dc_46 (bq_nm bk_X11_settles_0 (j := 17) rfl rfl)
theorem dX11_settles_18 : decode cX11_settles 18 = .ok (.invokestatic 113, 3) := dc_184 (bq_nm bk_X11_settles_0 (j := 18) rfl rfl) (bq_nm bk_X11_settles_0 (j := 19) rfl rfl) (bq_nm bk_X11_settles_0 (j := 20) rfl rfl) rfl
theorem dX11_settles_21 : decode cX11_settles 21 = .ok (.iload_n 1, 1) := dc_27 (bq_nm bk_X11_settles_0 (j := 21) rfl rfl)
theorem dX11_settles_22 : decode cX11_settles 22 = .ok (.if_icmp .lt 30, 3) := dc_161 (bq_nm bk_X11_settles_0 (j := 22) rfl rfl) (bq_nm bk_X11_settles_0 (j := 23) rfl rfl) (bq_nm bk_X11_settles_0 (j := 24) rfl rfl) rfl
theorem dX11_settles_25 : decode cX11_settles 25 = .ok (.aload_n 0, 1) := dc_42 (bq_nm bk_X11_settles_0 (j := 25) rfl rfl)
theorem dX11_settles_26 : decode cX11_settles 26 = .ok (.dup, 1) := dc_89 (bq_nm bk_X11_settles_0 (j := 26) rfl rfl)
theorem dX11_settles_27 : decode cX11_settles 27 = .ok (.getfield 110, 3) := dc_180 (bq_nm bk_X11_settles_0 (j := 27) rfl rfl) (bq_nm bk_X11_settles_0 (j := 28) rfl rfl) (bq_nm bk_X11_settles_0 (j := 29) rfl rfl) rfl
theorem dX11_settles_30 : decode cX11_settles 30 = .ok (.iconst 1, 1) := dc_4 (bq_nm bk_X11_settles_0 (j := 30) rfl rfl)
theorem dX11_settles_31 : decode cX11_settles 31 = .ok (.isub, 1) := dc_100 (bq_nm bk_X11_settles_0 (j := 31) rfl rfl)
set_option maxRecDepth 20000 in
theorem bk_X11_settles_32 : ((cX11_settles.data.toList.drop 32).take 21).length = 21 ∧ eN (((cX11_settles.data.toList.drop 32).take 21).map UInt8.toNat) = 259873252174381426841813641356710988341455226798261 := by decide +kernel
theorem dX11_settles_32 : decode cX11_settles 32 = .ok (.putfield 110, 3) := dc_181 (bq_nm bk_X11_settles_32 (j := 0) rfl rfl) (bq_nm bk_X11_settles_32 (j := 1) rfl rfl) (bq_nm bk_X11_settles_32 (j := 2) rfl rfl) rfl
theorem dX11_settles_35 : decode cX11_settles 35 = .ok (.aload_n 0, 1) := dc_42 (bq_nm bk_X11_settles_32 (j := 3) rfl rfl)
theorem dX11_settles_36 : decode cX11_settles 36 = .ok (.aload_n 0, 1) := dc_42 (bq_nm bk_X11_settles_32 (j := 4) rfl rfl)
theorem dX11_settles_37 : decode cX11_settles 37 = .ok (.getfield 26, 3) := dc_180 (bq_nm bk_X11_settles_32 (j := 5) rfl rfl) (bq_nm bk_X11_settles_32 (j := 6) rfl rfl) (bq_nm bk_X11_settles_32 (j := 7) rfl rfl) rfl
theorem dX11_settles_40 : decode cX11_settles 40 = .ok (.aload_n 0, 1) := dc_42 (bq_nm bk_X11_settles_32 (j := 8) rfl rfl)
theorem dX11_settles_41 : decode cX11_settles 41 = .ok (.getfield 110, 3) := dc_180 (bq_nm bk_X11_settles_32 (j := 9) rfl rfl) (bq_nm bk_X11_settles_32 (j := 10) rfl rfl) (bq_nm bk_X11_settles_32 (j := 11) rfl rfl) rfl
theorem dX11_settles_44 : decode cX11_settles 44 = .ok (.iaload, 1) := dc_46 (bq_nm bk_X11_settles_32 (j := 12) rfl rfl)
theorem dX11_settles_45 : decode cX11_settles 45 = .ok (.iconst 0, 1) := dc_3 (bq_nm bk_X11_settles_32 (j := 13) rfl rfl)
theorem dX11_settles_46 : decode cX11_settles 46 = .ok (.invokevirtual 116, 3) := dc_182 (bq_nm bk_X11_settles_32 (j := 14) rfl rfl) (bq_nm bk_X11_settles_32 (j := 15) rfl rfl) (bq_nm bk_X11_settles_32 (j := 16) rfl rfl) rfl
theorem dX11_settles_49 : decode cX11_settles 49 = .ok (.goto (-49), 3) := dc_167 (bq_nm bk_X11_settles_32 (j := 17) rfl rfl) (bq_nm bk_X11_settles_32 (j := 18) rfl rfl) (bq_nm bk_X11_settles_32 (j := 19) rfl rfl) rfl
theorem dX11_settles_52 : decode cX11_settles 52 = .ok (.return_, 1) := dc_177 (bq_nm bk_X11_settles_32 (j := 20) rfl rfl)
set_option maxRecDepth 20000 in
theorem bk_X11_waitsWith_0 : ((cX11_waitsWith.data.toList.drop 0).take 21).length = 21 ∧ eN (((cX11_waitsWith.data.toList.drop 0).take 21).map UInt8.toNat) = 259313794592357187821658839810179443256316372497450 := by decide +kernel
theorem dX11_waitsWith_0 : decode cX11_waitsWith 0 = .ok (.aload_n 0, 1) := dc_42 (bq_nm bk_X11_waitsWith_0 (j := 0) rfl rfl)
theorem dX11_waitsWith_1 : decode cX11_waitsWith 1 = .ok (.getfield 26, 3) := dc_180 (bq_nm bk_X11_waitsWith_0 (j := 1) rfl rfl) (bq_nm bk_X11_waitsWith_0 (j := 2) rfl rfl) (bq_nm bk_X11_waitsWith_0 (j := 3) rfl rfl) rfl
theorem dX11_waitsWith_4 : decode cX11_waitsWith 4 = .ok (.aload_n 0, 1) := dc_42 (bq_nm bk_X11_waitsWith_0 (j := 4) rfl rfl)
theorem dX11_waitsWith_5 : decode cX11_waitsWith 5 = .ok (.getfield 110, 3) := dc_180 (bq_nm bk_X11_waitsWith_0 (j := 5) rfl rfl) (bq_nm bk_X11_waitsWith_0 (j := 6) rfl rfl) (bq_nm bk_X11_waitsWith_0 (j := 7) rfl rfl) rfl
theorem dX11_waitsWith_8 : decode cX11_waitsWith 8 = .ok (.iload_n 1, 1) := dc_27 (bq_nm bk_X11_waitsWith_0 (j := 8) rfl rfl)
theorem dX11_waitsWith_9 : decode cX11_waitsWith 9 = .ok (.iastore, 1) := dc_79 (bq_nm bk_X11_waitsWith_0 (j := 9) rfl rfl)
theorem dX11_waitsWith_10 : decode cX11_waitsWith 10 = .ok (.aload_n 0, 1) := dc_42 (bq_nm bk_X11_waitsWith_0 (j := 10) rfl rfl)
theorem dX11_waitsWith_11 : decode cX11_waitsWith 11 = .ok (.dup, 1) := dc_89 (bq_nm bk_X11_waitsWith_0 (j := 11) rfl rfl)
theorem dX11_waitsWith_12 : decode cX11_waitsWith 12 = .ok (.getfield 110, 3) := dc_180 (bq_nm bk_X11_waitsWith_0 (j := 12) rfl rfl) (bq_nm bk_X11_waitsWith_0 (j := 13) rfl rfl) (bq_nm bk_X11_waitsWith_0 (j := 14) rfl rfl) rfl
theorem dX11_waitsWith_15 : decode cX11_waitsWith 15 = .ok (.iconst 1, 1) := dc_4 (bq_nm bk_X11_waitsWith_0 (j := 15) rfl rfl)
theorem dX11_waitsWith_16 : decode cX11_waitsWith 16 = .ok (.iadd, 1) := dc_96 (bq_nm bk_X11_waitsWith_0 (j := 16) rfl rfl)
theorem dX11_waitsWith_17 : decode cX11_waitsWith 17 = .ok (.putfield 110, 3) := dc_181 (bq_nm bk_X11_waitsWith_0 (j := 17) rfl rfl) (bq_nm bk_X11_waitsWith_0 (j := 18) rfl rfl) (bq_nm bk_X11_waitsWith_0 (j := 19) rfl rfl) rfl
theorem dX11_waitsWith_20 : decode cX11_waitsWith 20 = .ok (.return_, 1) := dc_177 (bq_nm bk_X11_waitsWith_0 (j := 20) rfl rfl)
set_option maxRecDepth 20000 in
theorem bk_X11_nameOf_0 : ((cX11_nameOf.data.toList.drop 0).take 1).length = 1 ∧ eN (((cX11_nameOf.data.toList.drop 0).take 1).map UInt8.toNat) = 26 := by decide +kernel
theorem dX11_nameOf_0 : decode cX11_nameOf 0 = .ok (.iload_n 0, 1) := dc_26 (bq_nm bk_X11_nameOf_0 (j := 0) rfl rfl)
set_option maxRecDepth 20000 in
theorem bk_X11_nameOf_60 : ((cX11_nameOf.data.toList.drop 60).take 14).length = 14 ∧ eN (((cX11_nameOf.data.toList.drop 60).take 14).map UInt8.toNat) = 3488786150058600227909228057373699 := by decide +kernel
theorem dX11_nameOf_60 : decode cX11_nameOf 60 = .ok (.iconst 0, 1) := dc_3 (bq_nm bk_X11_nameOf_60 (j := 0) rfl rfl)
theorem dX11_nameOf_61 : decode cX11_nameOf 61 = .ok (.ireturn, 1) := dc_172 (bq_nm bk_X11_nameOf_60 (j := 1) rfl rfl)
theorem dX11_nameOf_62 : decode cX11_nameOf 62 = .ok (.iconst 1, 1) := dc_4 (bq_nm bk_X11_nameOf_60 (j := 2) rfl rfl)
theorem dX11_nameOf_63 : decode cX11_nameOf 63 = .ok (.ireturn, 1) := dc_172 (bq_nm bk_X11_nameOf_60 (j := 3) rfl rfl)
theorem dX11_nameOf_64 : decode cX11_nameOf 64 = .ok (.iconst 2, 1) := dc_5 (bq_nm bk_X11_nameOf_60 (j := 4) rfl rfl)
theorem dX11_nameOf_65 : decode cX11_nameOf 65 = .ok (.ireturn, 1) := dc_172 (bq_nm bk_X11_nameOf_60 (j := 5) rfl rfl)
theorem dX11_nameOf_66 : decode cX11_nameOf 66 = .ok (.iconst 3, 1) := dc_6 (bq_nm bk_X11_nameOf_60 (j := 6) rfl rfl)
theorem dX11_nameOf_67 : decode cX11_nameOf 67 = .ok (.ireturn, 1) := dc_172 (bq_nm bk_X11_nameOf_60 (j := 7) rfl rfl)
theorem dX11_nameOf_68 : decode cX11_nameOf 68 = .ok (.iconst 4, 1) := dc_7 (bq_nm bk_X11_nameOf_60 (j := 8) rfl rfl)
theorem dX11_nameOf_69 : decode cX11_nameOf 69 = .ok (.ireturn, 1) := dc_172 (bq_nm bk_X11_nameOf_60 (j := 9) rfl rfl)
theorem dX11_nameOf_70 : decode cX11_nameOf 70 = .ok (.iconst 5, 1) := dc_8 (bq_nm bk_X11_nameOf_60 (j := 10) rfl rfl)
theorem dX11_nameOf_71 : decode cX11_nameOf 71 = .ok (.ireturn, 1) := dc_172 (bq_nm bk_X11_nameOf_60 (j := 11) rfl rfl)
theorem dX11_nameOf_72 : decode cX11_nameOf 72 = .ok (.iconst (-1), 1) := dc_2 (bq_nm bk_X11_nameOf_60 (j := 12) rfl rfl)
theorem dX11_nameOf_73 : decode cX11_nameOf 73 = .ok (.ireturn, 1) := dc_172 (bq_nm bk_X11_nameOf_60 (j := 13) rfl rfl)
set_option maxRecDepth 20000 in
theorem bk_X11_signOf_0 : ((cX11_signOf.data.toList.drop 0).take 1).length = 1 ∧ eN (((cX11_signOf.data.toList.drop 0).take 1).map UInt8.toNat) = 26 := by decide +kernel
theorem dX11_signOf_0 : decode cX11_signOf 0 = .ok (.iload_n 0, 1) := dc_26 (bq_nm bk_X11_signOf_0 (j := 0) rfl rfl)
set_option maxRecDepth 20000 in
theorem bk_X11_signOf_84 : ((cX11_signOf.data.toList.drop 84).take 27).length = 27 ∧ eN (((cX11_signOf.data.toList.drop 84).take 27).map UInt8.toNat) = 70760989798234872701216110453699138889765568902823892146035665927 := by decide +kernel
theorem dX11_signOf_84 : decode cX11_signOf 84 = .ok (.iconst 4, 1) := dc_7 (bq_nm bk_X11_signOf_84 (j := 0) rfl rfl)
theorem dX11_signOf_85 : decode cX11_signOf 85 = .ok (.ireturn, 1) := dc_172 (bq_nm bk_X11_signOf_84 (j := 1) rfl rfl)
theorem dX11_signOf_86 : decode cX11_signOf 86 = .ok (.iconst 5, 1) := dc_8 (bq_nm bk_X11_signOf_84 (j := 2) rfl rfl)
theorem dX11_signOf_87 : decode cX11_signOf 87 = .ok (.ireturn, 1) := dc_172 (bq_nm bk_X11_signOf_84 (j := 3) rfl rfl)
theorem dX11_signOf_88 : decode cX11_signOf 88 = .ok (.bipush 6, 2) := dc_16 (bq_nm bk_X11_signOf_84 (j := 4) rfl rfl) (bq_nm bk_X11_signOf_84 (j := 5) rfl rfl) rfl
theorem dX11_signOf_90 : decode cX11_signOf 90 = .ok (.ireturn, 1) := dc_172 (bq_nm bk_X11_signOf_84 (j := 6) rfl rfl)
theorem dX11_signOf_91 : decode cX11_signOf 91 = .ok (.bipush 7, 2) := dc_16 (bq_nm bk_X11_signOf_84 (j := 7) rfl rfl) (bq_nm bk_X11_signOf_84 (j := 8) rfl rfl) rfl
theorem dX11_signOf_93 : decode cX11_signOf 93 = .ok (.ireturn, 1) := dc_172 (bq_nm bk_X11_signOf_84 (j := 9) rfl rfl)
theorem dX11_signOf_94 : decode cX11_signOf 94 = .ok (.bipush 8, 2) := dc_16 (bq_nm bk_X11_signOf_84 (j := 10) rfl rfl) (bq_nm bk_X11_signOf_84 (j := 11) rfl rfl) rfl
theorem dX11_signOf_96 : decode cX11_signOf 96 = .ok (.ireturn, 1) := dc_172 (bq_nm bk_X11_signOf_84 (j := 12) rfl rfl)
theorem dX11_signOf_97 : decode cX11_signOf 97 = .ok (.bipush 9, 2) := dc_16 (bq_nm bk_X11_signOf_84 (j := 13) rfl rfl) (bq_nm bk_X11_signOf_84 (j := 14) rfl rfl) rfl
theorem dX11_signOf_99 : decode cX11_signOf 99 = .ok (.ireturn, 1) := dc_172 (bq_nm bk_X11_signOf_84 (j := 15) rfl rfl)
theorem dX11_signOf_100 : decode cX11_signOf 100 = .ok (.bipush 10, 2) := dc_16 (bq_nm bk_X11_signOf_84 (j := 16) rfl rfl) (bq_nm bk_X11_signOf_84 (j := 17) rfl rfl) rfl
theorem dX11_signOf_102 : decode cX11_signOf 102 = .ok (.ireturn, 1) := dc_172 (bq_nm bk_X11_signOf_84 (j := 18) rfl rfl)
theorem dX11_signOf_103 : decode cX11_signOf 103 = .ok (.bipush 11, 2) := dc_16 (bq_nm bk_X11_signOf_84 (j := 19) rfl rfl) (bq_nm bk_X11_signOf_84 (j := 20) rfl rfl) rfl
theorem dX11_signOf_105 : decode cX11_signOf 105 = .ok (.ireturn, 1) := dc_172 (bq_nm bk_X11_signOf_84 (j := 21) rfl rfl)
theorem dX11_signOf_106 : decode cX11_signOf 106 = .ok (.bipush 12, 2) := dc_16 (bq_nm bk_X11_signOf_84 (j := 22) rfl rfl) (bq_nm bk_X11_signOf_84 (j := 23) rfl rfl) rfl
theorem dX11_signOf_108 : decode cX11_signOf 108 = .ok (.ireturn, 1) := dc_172 (bq_nm bk_X11_signOf_84 (j := 24) rfl rfl)
theorem dX11_signOf_109 : decode cX11_signOf 109 = .ok (.iconst (-1), 1) := dc_2 (bq_nm bk_X11_signOf_84 (j := 25) rfl rfl)
theorem dX11_signOf_110 : decode cX11_signOf 110 = .ok (.ireturn, 1) := dc_172 (bq_nm bk_X11_signOf_84 (j := 26) rfl rfl)
set_option maxRecDepth 20000 in
theorem bk_X11_goesOn_0 : ((cX11_goesOn.data.toList.drop 0).take 32).length = 32 ∧ eN (((cX11_goesOn.data.toList.drop 0).take 32).map UInt8.toNat) = 45239111457657431419666302599696219562289492392967905710066417265815276533787 := by decide +kernel
theorem dX11_goesOn_0 : decode cX11_goesOn 0 = .ok (.iload_n 1, 1) := dc_27 (bq_nm bk_X11_goesOn_0 (j := 0) rfl rfl)
theorem dX11_goesOn_1 : decode cX11_goesOn 1 = .ok (.invokestatic 113, 3) := dc_184 (bq_nm bk_X11_goesOn_0 (j := 1) rfl rfl) (bq_nm bk_X11_goesOn_0 (j := 2) rfl rfl) (bq_nm bk_X11_goesOn_0 (j := 3) rfl rfl) rfl
theorem dX11_goesOn_4 : decode cX11_goesOn 4 = .ok (.istore_n 2, 1) := dc_61 (bq_nm bk_X11_goesOn_0 (j := 4) rfl rfl)
theorem dX11_goesOn_5 : decode cX11_goesOn 5 = .ok (.iload_n 2, 1) := dc_28 (bq_nm bk_X11_goesOn_0 (j := 5) rfl rfl)
theorem dX11_goesOn_6 : decode cX11_goesOn 6 = .ok (.iconst 3, 1) := dc_6 (bq_nm bk_X11_goesOn_0 (j := 6) rfl rfl)
theorem dX11_goesOn_7 : decode cX11_goesOn 7 = .ok (.if_icmp .ne 35, 3) := dc_160 (bq_nm bk_X11_goesOn_0 (j := 7) rfl rfl) (bq_nm bk_X11_goesOn_0 (j := 8) rfl rfl) (bq_nm bk_X11_goesOn_0 (j := 9) rfl rfl) rfl
theorem dX11_goesOn_10 : decode cX11_goesOn 10 = .ok (.aload_n 0, 1) := dc_42 (bq_nm bk_X11_goesOn_0 (j := 10) rfl rfl)
theorem dX11_goesOn_11 : decode cX11_goesOn 11 = .ok (.iconst 4, 1) := dc_7 (bq_nm bk_X11_goesOn_0 (j := 11) rfl rfl)
theorem dX11_goesOn_12 : decode cX11_goesOn 12 = .ok (.invokevirtual 120, 3) := dc_182 (bq_nm bk_X11_goesOn_0 (j := 12) rfl rfl) (bq_nm bk_X11_goesOn_0 (j := 13) rfl rfl) (bq_nm bk_X11_goesOn_0 (j := 14) rfl rfl) rfl
theorem dX11_goesOn_15 : decode cX11_goesOn 15 = .ok (.aload_n 0, 1) := dc_42 (bq_nm bk_X11_goesOn_0 (j := 15) rfl rfl)
theorem dX11_goesOn_16 : decode cX11_goesOn 16 = .ok (.getfield 110, 3) := dc_180 (bq_nm bk_X11_goesOn_0 (j := 16) rfl rfl) (bq_nm bk_X11_goesOn_0 (j := 17) rfl rfl) (bq_nm bk_X11_goesOn_0 (j := 18) rfl rfl) rfl
theorem dX11_goesOn_19 : decode cX11_goesOn 19 = .ok (.ifCond .le 23, 3) := dc_158 (bq_nm bk_X11_goesOn_0 (j := 19) rfl rfl) (bq_nm bk_X11_goesOn_0 (j := 20) rfl rfl) (bq_nm bk_X11_goesOn_0 (j := 21) rfl rfl) rfl
theorem dX11_goesOn_22 : decode cX11_goesOn 22 = .ok (.aload_n 0, 1) := dc_42 (bq_nm bk_X11_goesOn_0 (j := 22) rfl rfl)
theorem dX11_goesOn_23 : decode cX11_goesOn 23 = .ok (.getfield 26, 3) := dc_180 (bq_nm bk_X11_goesOn_0 (j := 23) rfl rfl) (bq_nm bk_X11_goesOn_0 (j := 24) rfl rfl) (bq_nm bk_X11_goesOn_0 (j := 25) rfl rfl) rfl
theorem dX11_goesOn_26 : decode cX11_goesOn 26 = .ok (.aload_n 0, 1) := dc_42 (bq_nm bk_X11_goesOn_0 (j := 26) rfl rfl)
theorem dX11_goesOn_27 : decode cX11_goesOn 27 = .ok (.getfield 110, 3) := dc_180 (bq_nm bk_X11_goesOn_0 (j := 27) rfl rfl) (bq_nm bk_X11_goesOn_0 (j := 28) rfl rfl) (bq_nm bk_X11_goesOn_0 (j := 29) rfl rfl) rfl
theorem dX11_goesOn_30 : decode cX11_goesOn 30 = .ok (.iconst 1, 1) := dc_4 (bq_nm bk_X11_goesOn_0 (j := 30) rfl rfl)
theorem dX11_goesOn_31 : decode cX11_goesOn 31 = .ok (.isub, 1) := dc_100 (bq_nm bk_X11_goesOn_0 (j := 31) rfl rfl)
set_option maxRecDepth 20000 in
theorem bk_X11_goesOn_32 : ((cX11_goesOn.data.toList.drop 32).take 22).length = 22 ∧ eN (((cX11_goesOn.data.toList.drop 32).take 22).map UInt8.toNat) = 64359394032222903176271574664925182477242079287228462 := by decide +kernel
theorem dX11_goesOn_32 : decode cX11_goesOn 32 = .ok (.iaload, 1) := dc_46 (bq_nm bk_X11_goesOn_32 (j := 0) rfl rfl)
theorem dX11_goesOn_33 : decode cX11_goesOn 33 = .ok (.invokestatic 113, 3) := dc_184 (bq_nm bk_X11_goesOn_32 (j := 1) rfl rfl) (bq_nm bk_X11_goesOn_32 (j := 2) rfl rfl) (bq_nm bk_X11_goesOn_32 (j := 3) rfl rfl) rfl
theorem dX11_goesOn_36 : decode cX11_goesOn 36 = .ok (.iconst 3, 1) := dc_6 (bq_nm bk_X11_goesOn_32 (j := 4) rfl rfl)
theorem dX11_goesOn_37 : decode cX11_goesOn 37 = .ok (.if_icmp .ne 5, 3) := dc_160 (bq_nm bk_X11_goesOn_32 (j := 5) rfl rfl) (bq_nm bk_X11_goesOn_32 (j := 6) rfl rfl) (bq_nm bk_X11_goesOn_32 (j := 7) rfl rfl) rfl
theorem dX11_goesOn_40 : decode cX11_goesOn 40 = .ok (.iconst 0, 1) := dc_3 (bq_nm bk_X11_goesOn_32 (j := 8) rfl rfl)
theorem dX11_goesOn_41 : decode cX11_goesOn 41 = .ok (.ireturn, 1) := dc_172 (bq_nm bk_X11_goesOn_32 (j := 9) rfl rfl)
theorem dX11_goesOn_42 : decode cX11_goesOn 42 = .ok (.aload_n 0, 1) := dc_42 (bq_nm bk_X11_goesOn_32 (j := 10) rfl rfl)
theorem dX11_goesOn_43 : decode cX11_goesOn 43 = .ok (.iload_n 2, 1) := dc_28 (bq_nm bk_X11_goesOn_32 (j := 11) rfl rfl)
theorem dX11_goesOn_44 : decode cX11_goesOn 44 = .ok (.invokevirtual 120, 3) := dc_182 (bq_nm bk_X11_goesOn_32 (j := 12) rfl rfl) (bq_nm bk_X11_goesOn_32 (j := 13) rfl rfl) (bq_nm bk_X11_goesOn_32 (j := 14) rfl rfl) rfl
theorem dX11_goesOn_47 : decode cX11_goesOn 47 = .ok (.aload_n 0, 1) := dc_42 (bq_nm bk_X11_goesOn_32 (j := 15) rfl rfl)
theorem dX11_goesOn_48 : decode cX11_goesOn 48 = .ok (.iload_n 1, 1) := dc_27 (bq_nm bk_X11_goesOn_32 (j := 16) rfl rfl)
theorem dX11_goesOn_49 : decode cX11_goesOn 49 = .ok (.invokevirtual 124, 3) := dc_182 (bq_nm bk_X11_goesOn_32 (j := 17) rfl rfl) (bq_nm bk_X11_goesOn_32 (j := 18) rfl rfl) (bq_nm bk_X11_goesOn_32 (j := 19) rfl rfl) rfl
theorem dX11_goesOn_52 : decode cX11_goesOn 52 = .ok (.iconst 1, 1) := dc_4 (bq_nm bk_X11_goesOn_32 (j := 20) rfl rfl)
theorem dX11_goesOn_53 : decode cX11_goesOn 53 = .ok (.ireturn, 1) := dc_172 (bq_nm bk_X11_goesOn_32 (j := 21) rfl rfl)
set_option maxRecDepth 20000 in
theorem bk_X11_reads_0 : ((cX11_reads.data.toList.drop 0).take 32).length = 32 ∧ eN (((cX11_reads.data.toList.drop 0).take 32).map UInt8.toNat) = 19157933995600562980464184887930675816106422836490146881677411981369060406314 := by decide +kernel
theorem dX11_reads_0 : decode cX11_reads 0 = .ok (.aload_n 0, 1) := dc_42 (bq_nm bk_X11_reads_0 (j := 0) rfl rfl)
theorem dX11_reads_1 : decode cX11_reads 1 = .ok (.getfield 7, 3) := dc_180 (bq_nm bk_X11_reads_0 (j := 1) rfl rfl) (bq_nm bk_X11_reads_0 (j := 2) rfl rfl) (bq_nm bk_X11_reads_0 (j := 3) rfl rfl) rfl
theorem dX11_reads_4 : decode cX11_reads 4 = .ok (.iload_n 1, 1) := dc_27 (bq_nm bk_X11_reads_0 (j := 4) rfl rfl)
theorem dX11_reads_5 : decode cX11_reads 5 = .ok (.iaload, 1) := dc_46 (bq_nm bk_X11_reads_0 (j := 5) rfl rfl)
theorem dX11_reads_6 : decode cX11_reads 6 = .ok (.istore_n 2, 1) := dc_61 (bq_nm bk_X11_reads_0 (j := 6) rfl rfl)
theorem dX11_reads_7 : decode cX11_reads 7 = .ok (.aload_n 0, 1) := dc_42 (bq_nm bk_X11_reads_0 (j := 7) rfl rfl)
theorem dX11_reads_8 : decode cX11_reads 8 = .ok (.iconst 0, 1) := dc_3 (bq_nm bk_X11_reads_0 (j := 8) rfl rfl)
theorem dX11_reads_9 : decode cX11_reads 9 = .ok (.putfield 106, 3) := dc_181 (bq_nm bk_X11_reads_0 (j := 9) rfl rfl) (bq_nm bk_X11_reads_0 (j := 10) rfl rfl) (bq_nm bk_X11_reads_0 (j := 11) rfl rfl) rfl
theorem dX11_reads_12 : decode cX11_reads 12 = .ok (.aload_n 0, 1) := dc_42 (bq_nm bk_X11_reads_0 (j := 12) rfl rfl)
theorem dX11_reads_13 : decode cX11_reads 13 = .ok (.iconst 0, 1) := dc_3 (bq_nm bk_X11_reads_0 (j := 13) rfl rfl)
theorem dX11_reads_14 : decode cX11_reads 14 = .ok (.putfield 110, 3) := dc_181 (bq_nm bk_X11_reads_0 (j := 14) rfl rfl) (bq_nm bk_X11_reads_0 (j := 15) rfl rfl) (bq_nm bk_X11_reads_0 (j := 16) rfl rfl) rfl
theorem dX11_reads_17 : decode cX11_reads 17 = .ok (.iconst 0, 1) := dc_3 (bq_nm bk_X11_reads_0 (j := 17) rfl rfl)
theorem dX11_reads_18 : decode cX11_reads 18 = .ok (.istore_n 3, 1) := dc_62 (bq_nm bk_X11_reads_0 (j := 18) rfl rfl)
theorem dX11_reads_19 : decode cX11_reads 19 = .ok (.iconst 0, 1) := dc_3 (bq_nm bk_X11_reads_0 (j := 19) rfl rfl)
theorem dX11_reads_20 : decode cX11_reads 20 = .ok (.istore 4, 2) := dc_54 (bq_nm bk_X11_reads_0 (j := 20) rfl rfl) (bq_nm bk_X11_reads_0 (j := 21) rfl rfl)
theorem dX11_reads_22 : decode cX11_reads 22 = .ok (.iconst 0, 1) := dc_3 (bq_nm bk_X11_reads_0 (j := 22) rfl rfl)
theorem dX11_reads_23 : decode cX11_reads 23 = .ok (.istore 5, 2) := dc_54 (bq_nm bk_X11_reads_0 (j := 23) rfl rfl) (bq_nm bk_X11_reads_0 (j := 24) rfl rfl)
theorem dX11_reads_25 : decode cX11_reads 25 = .ok (.iload 5, 2) := dc_21 (bq_nm bk_X11_reads_0 (j := 25) rfl rfl) (bq_nm bk_X11_reads_0 (j := 26) rfl rfl)
theorem dX11_reads_27 : decode cX11_reads 27 = .ok (.iload_n 2, 1) := dc_28 (bq_nm bk_X11_reads_0 (j := 27) rfl rfl)
theorem dX11_reads_28 : decode cX11_reads 28 = .ok (.if_icmp .ge 347, 3) := dc_162 (bq_nm bk_X11_reads_0 (j := 28) rfl rfl) (bq_nm bk_X11_reads_0 (j := 29) rfl rfl) (bq_nm bk_X11_reads_0 (j := 30) rfl rfl) rfl
theorem dX11_reads_31 : decode cX11_reads 31 = .ok (.aload_n 0, 1) := dc_42 (bq_nm bk_X11_reads_0 (j := 31) rfl rfl)
set_option maxRecDepth 20000 in
theorem bk_X11_reads_32 : ((cX11_reads.data.toList.drop 32).take 32).length = 32 ∧ eN (((cX11_reads.data.toList.drop 32).take 32).map UInt8.toNat) = 2751546839174841492158087395298394612039351563781215702654782936680449376436 := by decide +kernel
theorem dX11_reads_32 : decode cX11_reads 32 = .ok (.getfield 7, 3) := dc_180 (bq_nm bk_X11_reads_32 (j := 0) rfl rfl) (bq_nm bk_X11_reads_32 (j := 1) rfl rfl) (bq_nm bk_X11_reads_32 (j := 2) rfl rfl) rfl
theorem dX11_reads_35 : decode cX11_reads 35 = .ok (.iload_n 1, 1) := dc_27 (bq_nm bk_X11_reads_32 (j := 3) rfl rfl)
theorem dX11_reads_36 : decode cX11_reads 36 = .ok (.iconst 1, 1) := dc_4 (bq_nm bk_X11_reads_32 (j := 4) rfl rfl)
theorem dX11_reads_37 : decode cX11_reads 37 = .ok (.iadd, 1) := dc_96 (bq_nm bk_X11_reads_32 (j := 5) rfl rfl)
theorem dX11_reads_38 : decode cX11_reads 38 = .ok (.iload 5, 2) := dc_21 (bq_nm bk_X11_reads_32 (j := 6) rfl rfl) (bq_nm bk_X11_reads_32 (j := 7) rfl rfl)
theorem dX11_reads_40 : decode cX11_reads 40 = .ok (.iadd, 1) := dc_96 (bq_nm bk_X11_reads_32 (j := 8) rfl rfl)
theorem dX11_reads_41 : decode cX11_reads 41 = .ok (.iaload, 1) := dc_46 (bq_nm bk_X11_reads_32 (j := 9) rfl rfl)
theorem dX11_reads_42 : decode cX11_reads 42 = .ok (.istore 6, 2) := dc_54 (bq_nm bk_X11_reads_32 (j := 10) rfl rfl) (bq_nm bk_X11_reads_32 (j := 11) rfl rfl)
theorem dX11_reads_44 : decode cX11_reads 44 = .ok (.iload 6, 2) := dc_21 (bq_nm bk_X11_reads_32 (j := 12) rfl rfl) (bq_nm bk_X11_reads_32 (j := 13) rfl rfl)
theorem dX11_reads_46 : decode cX11_reads 46 = .ok (.bipush 32, 2) := dc_16 (bq_nm bk_X11_reads_32 (j := 14) rfl rfl) (bq_nm bk_X11_reads_32 (j := 15) rfl rfl) rfl
theorem dX11_reads_48 : decode cX11_reads 48 = .ok (.if_icmp .ne 9, 3) := dc_160 (bq_nm bk_X11_reads_32 (j := 16) rfl rfl) (bq_nm bk_X11_reads_32 (j := 17) rfl rfl) (bq_nm bk_X11_reads_32 (j := 18) rfl rfl) rfl
theorem dX11_reads_51 : decode cX11_reads 51 = .ok (.iinc 5 1, 3) := dc_132 (bq_nm bk_X11_reads_32 (j := 19) rfl rfl) (bq_nm bk_X11_reads_32 (j := 20) rfl rfl) (bq_nm bk_X11_reads_32 (j := 21) rfl rfl) rfl
theorem dX11_reads_54 : decode cX11_reads 54 = .ok (.goto 318, 3) := dc_167 (bq_nm bk_X11_reads_32 (j := 22) rfl rfl) (bq_nm bk_X11_reads_32 (j := 23) rfl rfl) (bq_nm bk_X11_reads_32 (j := 24) rfl rfl) rfl
theorem dX11_reads_57 : decode cX11_reads 57 = .ok (.iload 4, 2) := dc_21 (bq_nm bk_X11_reads_32 (j := 25) rfl rfl) (bq_nm bk_X11_reads_32 (j := 26) rfl rfl)
theorem dX11_reads_59 : decode cX11_reads 59 = .ok (.ifCond .eq 82, 3) := dc_153 (bq_nm bk_X11_reads_32 (j := 27) rfl rfl) (bq_nm bk_X11_reads_32 (j := 28) rfl rfl) (bq_nm bk_X11_reads_32 (j := 29) rfl rfl) rfl
theorem dX11_reads_62 : decode cX11_reads 62 = .ok (.iload 6, 2) := dc_21 (bq_nm bk_X11_reads_32 (j := 30) rfl rfl) (bq_nm bk_X11_reads_32 (j := 31) rfl rfl)
set_option maxRecDepth 20000 in
theorem bk_X11_reads_64 : ((cX11_reads.data.toList.drop 64).take 30).length = 30 ∧ eN (((cX11_reads.data.toList.drop 64).take 30).map UInt8.toNat) = 41846365250235490411915959323549722557672377422517794378608716592195856 := by decide +kernel
theorem dX11_reads_64 : decode cX11_reads 64 = .ok (.bipush 41, 2) := dc_16 (bq_nm bk_X11_reads_64 (j := 0) rfl rfl) (bq_nm bk_X11_reads_64 (j := 1) rfl rfl) rfl
theorem dX11_reads_66 : decode cX11_reads 66 = .ok (.if_icmp .ne 34, 3) := dc_160 (bq_nm bk_X11_reads_64 (j := 2) rfl rfl) (bq_nm bk_X11_reads_64 (j := 3) rfl rfl) (bq_nm bk_X11_reads_64 (j := 4) rfl rfl) rfl
theorem dX11_reads_69 : decode cX11_reads 69 = .ok (.iload_n 3, 1) := dc_29 (bq_nm bk_X11_reads_64 (j := 5) rfl rfl)
theorem dX11_reads_70 : decode cX11_reads 70 = .ok (.ifCond .le 30, 3) := dc_158 (bq_nm bk_X11_reads_64 (j := 6) rfl rfl) (bq_nm bk_X11_reads_64 (j := 7) rfl rfl) (bq_nm bk_X11_reads_64 (j := 8) rfl rfl) rfl
theorem dX11_reads_73 : decode cX11_reads 73 = .ok (.aload_n 0, 1) := dc_42 (bq_nm bk_X11_reads_64 (j := 9) rfl rfl)
theorem dX11_reads_74 : decode cX11_reads 74 = .ok (.iconst 1, 1) := dc_4 (bq_nm bk_X11_reads_64 (j := 10) rfl rfl)
theorem dX11_reads_75 : decode cX11_reads 75 = .ok (.invokevirtual 120, 3) := dc_182 (bq_nm bk_X11_reads_64 (j := 11) rfl rfl) (bq_nm bk_X11_reads_64 (j := 12) rfl rfl) (bq_nm bk_X11_reads_64 (j := 13) rfl rfl) rfl
theorem dX11_reads_78 : decode cX11_reads 78 = .ok (.aload_n 0, 1) := dc_42 (bq_nm bk_X11_reads_64 (j := 14) rfl rfl)
theorem dX11_reads_79 : decode cX11_reads 79 = .ok (.dup, 1) := dc_89 (bq_nm bk_X11_reads_64 (j := 15) rfl rfl)
theorem dX11_reads_80 : decode cX11_reads 80 = .ok (.getfield 110, 3) := dc_180 (bq_nm bk_X11_reads_64 (j := 16) rfl rfl) (bq_nm bk_X11_reads_64 (j := 17) rfl rfl) (bq_nm bk_X11_reads_64 (j := 18) rfl rfl) rfl
theorem dX11_reads_83 : decode cX11_reads 83 = .ok (.iconst 1, 1) := dc_4 (bq_nm bk_X11_reads_64 (j := 19) rfl rfl)
theorem dX11_reads_84 : decode cX11_reads 84 = .ok (.isub, 1) := dc_100 (bq_nm bk_X11_reads_64 (j := 20) rfl rfl)
theorem dX11_reads_85 : decode cX11_reads 85 = .ok (.putfield 110, 3) := dc_181 (bq_nm bk_X11_reads_64 (j := 21) rfl rfl) (bq_nm bk_X11_reads_64 (j := 22) rfl rfl) (bq_nm bk_X11_reads_64 (j := 23) rfl rfl) rfl
theorem dX11_reads_88 : decode cX11_reads 88 = .ok (.iinc 3 (-1), 3) := dc_132 (bq_nm bk_X11_reads_64 (j := 24) rfl rfl) (bq_nm bk_X11_reads_64 (j := 25) rfl rfl) (bq_nm bk_X11_reads_64 (j := 26) rfl rfl) rfl
theorem dX11_reads_91 : decode cX11_reads 91 = .ok (.aload_n 0, 1) := dc_42 (bq_nm bk_X11_reads_64 (j := 27) rfl rfl)
theorem dX11_reads_92 : decode cX11_reads 92 = .ok (.bipush 6, 2) := dc_16 (bq_nm bk_X11_reads_64 (j := 28) rfl rfl) (bq_nm bk_X11_reads_64 (j := 29) rfl rfl) rfl
set_option maxRecDepth 20000 in
theorem bk_X11_reads_94 : ((cX11_reads.data.toList.drop 94).take 30).length = 30 ∧ eN (((cX11_reads.data.toList.drop 94).take 30).map UInt8.toNat) = 29063142147412233567443793170592580322198846164607690205940835530834102 := by decide +kernel
theorem dX11_reads_94 : decode cX11_reads 94 = .ok (.invokevirtual 120, 3) := dc_182 (bq_nm bk_X11_reads_94 (j := 0) rfl rfl) (bq_nm bk_X11_reads_94 (j := 1) rfl rfl) (bq_nm bk_X11_reads_94 (j := 2) rfl rfl) rfl
theorem dX11_reads_97 : decode cX11_reads 97 = .ok (.goto 38, 3) := dc_167 (bq_nm bk_X11_reads_94 (j := 3) rfl rfl) (bq_nm bk_X11_reads_94 (j := 4) rfl rfl) (bq_nm bk_X11_reads_94 (j := 5) rfl rfl) rfl
theorem dX11_reads_100 : decode cX11_reads 100 = .ok (.iload 6, 2) := dc_21 (bq_nm bk_X11_reads_94 (j := 6) rfl rfl) (bq_nm bk_X11_reads_94 (j := 7) rfl rfl)
theorem dX11_reads_102 : decode cX11_reads 102 = .ok (.invokestatic 127, 3) := dc_184 (bq_nm bk_X11_reads_94 (j := 8) rfl rfl) (bq_nm bk_X11_reads_94 (j := 9) rfl rfl) (bq_nm bk_X11_reads_94 (j := 10) rfl rfl) rfl
theorem dX11_reads_105 : decode cX11_reads 105 = .ok (.iconst (-1), 1) := dc_2 (bq_nm bk_X11_reads_94 (j := 11) rfl rfl)
theorem dX11_reads_106 : decode cX11_reads 106 = .ok (.if_icmp .eq 21, 3) := dc_159 (bq_nm bk_X11_reads_94 (j := 12) rfl rfl) (bq_nm bk_X11_reads_94 (j := 13) rfl rfl) (bq_nm bk_X11_reads_94 (j := 14) rfl rfl) rfl
theorem dX11_reads_109 : decode cX11_reads 109 = .ok (.aload_n 0, 1) := dc_42 (bq_nm bk_X11_reads_94 (j := 15) rfl rfl)
theorem dX11_reads_110 : decode cX11_reads 110 = .ok (.iload 6, 2) := dc_21 (bq_nm bk_X11_reads_94 (j := 16) rfl rfl) (bq_nm bk_X11_reads_94 (j := 17) rfl rfl)
theorem dX11_reads_112 : decode cX11_reads 112 = .ok (.invokestatic 127, 3) := dc_184 (bq_nm bk_X11_reads_94 (j := 18) rfl rfl) (bq_nm bk_X11_reads_94 (j := 19) rfl rfl) (bq_nm bk_X11_reads_94 (j := 20) rfl rfl) rfl
theorem dX11_reads_115 : decode cX11_reads 115 = .ok (.invokevirtual 130, 3) := dc_182 (bq_nm bk_X11_reads_94 (j := 21) rfl rfl) (bq_nm bk_X11_reads_94 (j := 22) rfl rfl) (bq_nm bk_X11_reads_94 (j := 23) rfl rfl) rfl
theorem dX11_reads_118 : decode cX11_reads 118 = .ok (.ifCond .eq 9, 3) := dc_153 (bq_nm bk_X11_reads_94 (j := 24) rfl rfl) (bq_nm bk_X11_reads_94 (j := 25) rfl rfl) (bq_nm bk_X11_reads_94 (j := 26) rfl rfl) rfl
theorem dX11_reads_121 : decode cX11_reads 121 = .ok (.iconst 0, 1) := dc_3 (bq_nm bk_X11_reads_94 (j := 27) rfl rfl)
theorem dX11_reads_122 : decode cX11_reads 122 = .ok (.istore 4, 2) := dc_54 (bq_nm bk_X11_reads_94 (j := 28) rfl rfl) (bq_nm bk_X11_reads_94 (j := 29) rfl rfl)
set_option maxRecDepth 20000 in
theorem bk_X11_reads_124 : ((cX11_reads.data.toList.drop 124).take 32).length = 32 ∧ eN (((cX11_reads.data.toList.drop 124).take 32).map UInt8.toNat) = 47493906874826366581327268494182912036335892055205208381056991539915668521127 := by decide +kernel
theorem dX11_reads_124 : decode cX11_reads 124 = .ok (.goto 11, 3) := dc_167 (bq_nm bk_X11_reads_124 (j := 0) rfl rfl) (bq_nm bk_X11_reads_124 (j := 1) rfl rfl) (bq_nm bk_X11_reads_124 (j := 2) rfl rfl) rfl
theorem dX11_reads_127 : decode cX11_reads 127 = .ok (.bipush 10, 2) := dc_16 (bq_nm bk_X11_reads_124 (j := 3) rfl rfl) (bq_nm bk_X11_reads_124 (j := 4) rfl rfl) rfl
theorem dX11_reads_129 : decode cX11_reads 129 = .ok (.iload 5, 2) := dc_21 (bq_nm bk_X11_reads_124 (j := 5) rfl rfl) (bq_nm bk_X11_reads_124 (j := 6) rfl rfl)
theorem dX11_reads_131 : decode cX11_reads 131 = .ok (.imul, 1) := dc_104 (bq_nm bk_X11_reads_124 (j := 7) rfl rfl)
theorem dX11_reads_132 : decode cX11_reads 132 = .ok (.iconst 1, 1) := dc_4 (bq_nm bk_X11_reads_124 (j := 8) rfl rfl)
theorem dX11_reads_133 : decode cX11_reads 133 = .ok (.iadd, 1) := dc_96 (bq_nm bk_X11_reads_124 (j := 9) rfl rfl)
theorem dX11_reads_134 : decode cX11_reads 134 = .ok (.ireturn, 1) := dc_172 (bq_nm bk_X11_reads_124 (j := 10) rfl rfl)
theorem dX11_reads_135 : decode cX11_reads 135 = .ok (.iinc 5 1, 3) := dc_132 (bq_nm bk_X11_reads_124 (j := 11) rfl rfl) (bq_nm bk_X11_reads_124 (j := 12) rfl rfl) (bq_nm bk_X11_reads_124 (j := 13) rfl rfl) rfl
theorem dX11_reads_138 : decode cX11_reads 138 = .ok (.goto 234, 3) := dc_167 (bq_nm bk_X11_reads_124 (j := 14) rfl rfl) (bq_nm bk_X11_reads_124 (j := 15) rfl rfl) (bq_nm bk_X11_reads_124 (j := 16) rfl rfl) rfl
theorem dX11_reads_141 : decode cX11_reads 141 = .ok (.iload 6, 2) := dc_21 (bq_nm bk_X11_reads_124 (j := 17) rfl rfl) (bq_nm bk_X11_reads_124 (j := 18) rfl rfl)
theorem dX11_reads_143 : decode cX11_reads 143 = .ok (.i2l, 1) := dc_133 (bq_nm bk_X11_reads_124 (j := 19) rfl rfl)
theorem dX11_reads_144 : decode cX11_reads 144 = .ok (.ldc2_w 133, 3) := dc_20 (bq_nm bk_X11_reads_124 (j := 20) rfl rfl) (bq_nm bk_X11_reads_124 (j := 21) rfl rfl) (bq_nm bk_X11_reads_124 (j := 22) rfl rfl) rfl
theorem dX11_reads_147 : decode cX11_reads 147 = .ok (.ldc2_w 135, 3) := dc_20 (bq_nm bk_X11_reads_124 (j := 23) rfl rfl) (bq_nm bk_X11_reads_124 (j := 24) rfl rfl) (bq_nm bk_X11_reads_124 (j := 25) rfl rfl) rfl
theorem dX11_reads_150 : decode cX11_reads 150 = .ok (.invokestatic 67, 3) := dc_184 (bq_nm bk_X11_reads_124 (j := 26) rfl rfl) (bq_nm bk_X11_reads_124 (j := 27) rfl rfl) (bq_nm bk_X11_reads_124 (j := 28) rfl rfl) rfl
theorem dX11_reads_153 : decode cX11_reads 153 = .ok (.ifCond .eq 105, 3) := dc_153 (bq_nm bk_X11_reads_124 (j := 29) rfl rfl) (bq_nm bk_X11_reads_124 (j := 30) rfl rfl) (bq_nm bk_X11_reads_124 (j := 31) rfl rfl) rfl
set_option maxRecDepth 20000 in
theorem bk_X11_reads_156 : ((cX11_reads.data.toList.drop 156).take 31).length = 31 ∧ eN (((cX11_reads.data.toList.drop 156).take 31).map UInt8.toNat) = 238524906950582994177176466282020223160436398117093384651344843651771925781 := by decide +kernel
theorem dX11_reads_156 : decode cX11_reads 156 = .ok (.iload 5, 2) := dc_21 (bq_nm bk_X11_reads_156 (j := 0) rfl rfl) (bq_nm bk_X11_reads_156 (j := 1) rfl rfl)
theorem dX11_reads_158 : decode cX11_reads 158 = .ok (.istore 7, 2) := dc_54 (bq_nm bk_X11_reads_156 (j := 2) rfl rfl) (bq_nm bk_X11_reads_156 (j := 3) rfl rfl)
theorem dX11_reads_160 : decode cX11_reads 160 = .ok (.iconst 0, 1) := dc_3 (bq_nm bk_X11_reads_156 (j := 4) rfl rfl)
theorem dX11_reads_161 : decode cX11_reads 161 = .ok (.istore 8, 2) := dc_54 (bq_nm bk_X11_reads_156 (j := 5) rfl rfl) (bq_nm bk_X11_reads_156 (j := 6) rfl rfl)
theorem dX11_reads_163 : decode cX11_reads 163 = .ok (.iload 5, 2) := dc_21 (bq_nm bk_X11_reads_156 (j := 7) rfl rfl) (bq_nm bk_X11_reads_156 (j := 8) rfl rfl)
theorem dX11_reads_165 : decode cX11_reads 165 = .ok (.iload_n 2, 1) := dc_28 (bq_nm bk_X11_reads_156 (j := 9) rfl rfl)
theorem dX11_reads_166 : decode cX11_reads 166 = .ok (.if_icmp .ge 73, 3) := dc_162 (bq_nm bk_X11_reads_156 (j := 10) rfl rfl) (bq_nm bk_X11_reads_156 (j := 11) rfl rfl) (bq_nm bk_X11_reads_156 (j := 12) rfl rfl) rfl
theorem dX11_reads_169 : decode cX11_reads 169 = .ok (.aload_n 0, 1) := dc_42 (bq_nm bk_X11_reads_156 (j := 13) rfl rfl)
theorem dX11_reads_170 : decode cX11_reads 170 = .ok (.getfield 7, 3) := dc_180 (bq_nm bk_X11_reads_156 (j := 14) rfl rfl) (bq_nm bk_X11_reads_156 (j := 15) rfl rfl) (bq_nm bk_X11_reads_156 (j := 16) rfl rfl) rfl
theorem dX11_reads_173 : decode cX11_reads 173 = .ok (.iload_n 1, 1) := dc_27 (bq_nm bk_X11_reads_156 (j := 17) rfl rfl)
theorem dX11_reads_174 : decode cX11_reads 174 = .ok (.iconst 1, 1) := dc_4 (bq_nm bk_X11_reads_156 (j := 18) rfl rfl)
theorem dX11_reads_175 : decode cX11_reads 175 = .ok (.iadd, 1) := dc_96 (bq_nm bk_X11_reads_156 (j := 19) rfl rfl)
theorem dX11_reads_176 : decode cX11_reads 176 = .ok (.iload 5, 2) := dc_21 (bq_nm bk_X11_reads_156 (j := 20) rfl rfl) (bq_nm bk_X11_reads_156 (j := 21) rfl rfl)
theorem dX11_reads_178 : decode cX11_reads 178 = .ok (.iadd, 1) := dc_96 (bq_nm bk_X11_reads_156 (j := 22) rfl rfl)
theorem dX11_reads_179 : decode cX11_reads 179 = .ok (.iaload, 1) := dc_46 (bq_nm bk_X11_reads_156 (j := 23) rfl rfl)
theorem dX11_reads_180 : decode cX11_reads 180 = .ok (.i2l, 1) := dc_133 (bq_nm bk_X11_reads_156 (j := 24) rfl rfl)
theorem dX11_reads_181 : decode cX11_reads 181 = .ok (.ldc2_w 133, 3) := dc_20 (bq_nm bk_X11_reads_156 (j := 25) rfl rfl) (bq_nm bk_X11_reads_156 (j := 26) rfl rfl) (bq_nm bk_X11_reads_156 (j := 27) rfl rfl) rfl
theorem dX11_reads_184 : decode cX11_reads 184 = .ok (.ldc2_w 135, 3) := dc_20 (bq_nm bk_X11_reads_156 (j := 28) rfl rfl) (bq_nm bk_X11_reads_156 (j := 29) rfl rfl) (bq_nm bk_X11_reads_156 (j := 30) rfl rfl) rfl
set_option maxRecDepth 20000 in
theorem bk_X11_reads_187 : ((cX11_reads.data.toList.drop 187).take 30).length = 30 ∧ eN (((cX11_reads.data.toList.drop 187).take 30).map UInt8.toNat) = 292678032171993660699810976909800730834592983918773397142888161487290552 := by decide +kernel
theorem dX11_reads_187 : decode cX11_reads 187 = .ok (.invokestatic 67, 3) := dc_184 (bq_nm bk_X11_reads_187 (j := 0) rfl rfl) (bq_nm bk_X11_reads_187 (j := 1) rfl rfl) (bq_nm bk_X11_reads_187 (j := 2) rfl rfl) rfl
theorem dX11_reads_190 : decode cX11_reads 190 = .ok (.ifCond .eq 49, 3) := dc_153 (bq_nm bk_X11_reads_187 (j := 3) rfl rfl) (bq_nm bk_X11_reads_187 (j := 4) rfl rfl) (bq_nm bk_X11_reads_187 (j := 5) rfl rfl) rfl
theorem dX11_reads_193 : decode cX11_reads 193 = .ok (.iload 5, 2) := dc_21 (bq_nm bk_X11_reads_187 (j := 6) rfl rfl) (bq_nm bk_X11_reads_187 (j := 7) rfl rfl)
theorem dX11_reads_195 : decode cX11_reads 195 = .ok (.iload 7, 2) := dc_21 (bq_nm bk_X11_reads_187 (j := 8) rfl rfl) (bq_nm bk_X11_reads_187 (j := 9) rfl rfl)
theorem dX11_reads_197 : decode cX11_reads 197 = .ok (.isub, 1) := dc_100 (bq_nm bk_X11_reads_187 (j := 10) rfl rfl)
theorem dX11_reads_198 : decode cX11_reads 198 = .ok (.bipush 6, 2) := dc_16 (bq_nm bk_X11_reads_187 (j := 11) rfl rfl) (bq_nm bk_X11_reads_187 (j := 12) rfl rfl) rfl
theorem dX11_reads_200 : decode cX11_reads 200 = .ok (.if_icmp .ne 11, 3) := dc_160 (bq_nm bk_X11_reads_187 (j := 13) rfl rfl) (bq_nm bk_X11_reads_187 (j := 14) rfl rfl) (bq_nm bk_X11_reads_187 (j := 15) rfl rfl) rfl
theorem dX11_reads_203 : decode cX11_reads 203 = .ok (.bipush 10, 2) := dc_16 (bq_nm bk_X11_reads_187 (j := 16) rfl rfl) (bq_nm bk_X11_reads_187 (j := 17) rfl rfl) rfl
theorem dX11_reads_205 : decode cX11_reads 205 = .ok (.iload 7, 2) := dc_21 (bq_nm bk_X11_reads_187 (j := 18) rfl rfl) (bq_nm bk_X11_reads_187 (j := 19) rfl rfl)
theorem dX11_reads_207 : decode cX11_reads 207 = .ok (.imul, 1) := dc_104 (bq_nm bk_X11_reads_187 (j := 20) rfl rfl)
theorem dX11_reads_208 : decode cX11_reads 208 = .ok (.iconst 2, 1) := dc_5 (bq_nm bk_X11_reads_187 (j := 21) rfl rfl)
theorem dX11_reads_209 : decode cX11_reads 209 = .ok (.iadd, 1) := dc_96 (bq_nm bk_X11_reads_187 (j := 22) rfl rfl)
theorem dX11_reads_210 : decode cX11_reads 210 = .ok (.ireturn, 1) := dc_172 (bq_nm bk_X11_reads_187 (j := 23) rfl rfl)
theorem dX11_reads_211 : decode cX11_reads 211 = .ok (.bipush 10, 2) := dc_16 (bq_nm bk_X11_reads_187 (j := 24) rfl rfl) (bq_nm bk_X11_reads_187 (j := 25) rfl rfl) rfl
theorem dX11_reads_213 : decode cX11_reads 213 = .ok (.iload 8, 2) := dc_21 (bq_nm bk_X11_reads_187 (j := 26) rfl rfl) (bq_nm bk_X11_reads_187 (j := 27) rfl rfl)
theorem dX11_reads_215 : decode cX11_reads 215 = .ok (.imul, 1) := dc_104 (bq_nm bk_X11_reads_187 (j := 28) rfl rfl)
theorem dX11_reads_216 : decode cX11_reads 216 = .ok (.aload_n 0, 1) := dc_42 (bq_nm bk_X11_reads_187 (j := 29) rfl rfl)
set_option maxRecDepth 20000 in
theorem bk_X11_reads_217 : ((cX11_reads.data.toList.drop 217).take 32).length = 32 ∧ eN (((cX11_reads.data.toList.drop 217).take 32).map UInt8.toNat) = 2742439645311314517425822981054909800902037691072041412264292728479989301428 := by decide +kernel
theorem dX11_reads_217 : decode cX11_reads 217 = .ok (.getfield 7, 3) := dc_180 (bq_nm bk_X11_reads_217 (j := 0) rfl rfl) (bq_nm bk_X11_reads_217 (j := 1) rfl rfl) (bq_nm bk_X11_reads_217 (j := 2) rfl rfl) rfl
theorem dX11_reads_220 : decode cX11_reads 220 = .ok (.iload_n 1, 1) := dc_27 (bq_nm bk_X11_reads_217 (j := 3) rfl rfl)
theorem dX11_reads_221 : decode cX11_reads 221 = .ok (.iconst 1, 1) := dc_4 (bq_nm bk_X11_reads_217 (j := 4) rfl rfl)
theorem dX11_reads_222 : decode cX11_reads 222 = .ok (.iadd, 1) := dc_96 (bq_nm bk_X11_reads_217 (j := 5) rfl rfl)
theorem dX11_reads_223 : decode cX11_reads 223 = .ok (.iload 5, 2) := dc_21 (bq_nm bk_X11_reads_217 (j := 6) rfl rfl) (bq_nm bk_X11_reads_217 (j := 7) rfl rfl)
theorem dX11_reads_225 : decode cX11_reads 225 = .ok (.iadd, 1) := dc_96 (bq_nm bk_X11_reads_217 (j := 8) rfl rfl)
theorem dX11_reads_226 : decode cX11_reads 226 = .ok (.iaload, 1) := dc_46 (bq_nm bk_X11_reads_217 (j := 9) rfl rfl)
theorem dX11_reads_227 : decode cX11_reads 227 = .ok (.iadd, 1) := dc_96 (bq_nm bk_X11_reads_217 (j := 10) rfl rfl)
theorem dX11_reads_228 : decode cX11_reads 228 = .ok (.bipush 48, 2) := dc_16 (bq_nm bk_X11_reads_217 (j := 11) rfl rfl) (bq_nm bk_X11_reads_217 (j := 12) rfl rfl) rfl
theorem dX11_reads_230 : decode cX11_reads 230 = .ok (.isub, 1) := dc_100 (bq_nm bk_X11_reads_217 (j := 13) rfl rfl)
theorem dX11_reads_231 : decode cX11_reads 231 = .ok (.istore 8, 2) := dc_54 (bq_nm bk_X11_reads_217 (j := 14) rfl rfl) (bq_nm bk_X11_reads_217 (j := 15) rfl rfl)
theorem dX11_reads_233 : decode cX11_reads 233 = .ok (.iinc 5 1, 3) := dc_132 (bq_nm bk_X11_reads_217 (j := 16) rfl rfl) (bq_nm bk_X11_reads_217 (j := 17) rfl rfl) (bq_nm bk_X11_reads_217 (j := 18) rfl rfl) rfl
theorem dX11_reads_236 : decode cX11_reads 236 = .ok (.goto (-73), 3) := dc_167 (bq_nm bk_X11_reads_217 (j := 19) rfl rfl) (bq_nm bk_X11_reads_217 (j := 20) rfl rfl) (bq_nm bk_X11_reads_217 (j := 21) rfl rfl) rfl
theorem dX11_reads_239 : decode cX11_reads 239 = .ok (.aload_n 0, 1) := dc_42 (bq_nm bk_X11_reads_217 (j := 22) rfl rfl)
theorem dX11_reads_240 : decode cX11_reads 240 = .ok (.iconst 0, 1) := dc_3 (bq_nm bk_X11_reads_217 (j := 23) rfl rfl)
theorem dX11_reads_241 : decode cX11_reads 241 = .ok (.iload 8, 2) := dc_21 (bq_nm bk_X11_reads_217 (j := 24) rfl rfl) (bq_nm bk_X11_reads_217 (j := 25) rfl rfl)
theorem dX11_reads_243 : decode cX11_reads 243 = .ok (.invokevirtual 116, 3) := dc_182 (bq_nm bk_X11_reads_217 (j := 26) rfl rfl) (bq_nm bk_X11_reads_217 (j := 27) rfl rfl) (bq_nm bk_X11_reads_217 (j := 28) rfl rfl) rfl
theorem dX11_reads_246 : decode cX11_reads 246 = .ok (.aload_n 0, 1) := dc_42 (bq_nm bk_X11_reads_217 (j := 29) rfl rfl)
theorem dX11_reads_247 : decode cX11_reads 247 = .ok (.bipush 6, 2) := dc_16 (bq_nm bk_X11_reads_217 (j := 30) rfl rfl) (bq_nm bk_X11_reads_217 (j := 31) rfl rfl) rfl
set_option maxRecDepth 20000 in
theorem bk_X11_reads_249 : ((cX11_reads.data.toList.drop 249).take 31).length = 31 ∧ eN (((cX11_reads.data.toList.drop 249).take 31).map UInt8.toNat) = 10712654864498131582222632578574172060384416096546566496891890396583952566 := by decide +kernel
theorem dX11_reads_249 : decode cX11_reads 249 = .ok (.invokevirtual 120, 3) := dc_182 (bq_nm bk_X11_reads_249 (j := 0) rfl rfl) (bq_nm bk_X11_reads_249 (j := 1) rfl rfl) (bq_nm bk_X11_reads_249 (j := 2) rfl rfl) rfl
theorem dX11_reads_252 : decode cX11_reads 252 = .ok (.iconst 1, 1) := dc_4 (bq_nm bk_X11_reads_249 (j := 3) rfl rfl)
theorem dX11_reads_253 : decode cX11_reads 253 = .ok (.istore 4, 2) := dc_54 (bq_nm bk_X11_reads_249 (j := 4) rfl rfl) (bq_nm bk_X11_reads_249 (j := 5) rfl rfl)
theorem dX11_reads_255 : decode cX11_reads 255 = .ok (.goto 117, 3) := dc_167 (bq_nm bk_X11_reads_249 (j := 6) rfl rfl) (bq_nm bk_X11_reads_249 (j := 7) rfl rfl) (bq_nm bk_X11_reads_249 (j := 8) rfl rfl) rfl
theorem dX11_reads_258 : decode cX11_reads 258 = .ok (.iload 6, 2) := dc_21 (bq_nm bk_X11_reads_249 (j := 9) rfl rfl) (bq_nm bk_X11_reads_249 (j := 10) rfl rfl)
theorem dX11_reads_260 : decode cX11_reads 260 = .ok (.invokestatic 137, 3) := dc_184 (bq_nm bk_X11_reads_249 (j := 11) rfl rfl) (bq_nm bk_X11_reads_249 (j := 12) rfl rfl) (bq_nm bk_X11_reads_249 (j := 13) rfl rfl) rfl
theorem dX11_reads_263 : decode cX11_reads 263 = .ok (.iconst (-1), 1) := dc_2 (bq_nm bk_X11_reads_249 (j := 14) rfl rfl)
theorem dX11_reads_264 : decode cX11_reads 264 = .ok (.if_icmp .eq 28, 3) := dc_159 (bq_nm bk_X11_reads_249 (j := 15) rfl rfl) (bq_nm bk_X11_reads_249 (j := 16) rfl rfl) (bq_nm bk_X11_reads_249 (j := 17) rfl rfl) rfl
theorem dX11_reads_267 : decode cX11_reads 267 = .ok (.aload_n 0, 1) := dc_42 (bq_nm bk_X11_reads_249 (j := 18) rfl rfl)
theorem dX11_reads_268 : decode cX11_reads 268 = .ok (.iconst 1, 1) := dc_4 (bq_nm bk_X11_reads_249 (j := 19) rfl rfl)
theorem dX11_reads_269 : decode cX11_reads 269 = .ok (.iload 6, 2) := dc_21 (bq_nm bk_X11_reads_249 (j := 20) rfl rfl) (bq_nm bk_X11_reads_249 (j := 21) rfl rfl)
theorem dX11_reads_271 : decode cX11_reads 271 = .ok (.invokestatic 137, 3) := dc_184 (bq_nm bk_X11_reads_249 (j := 22) rfl rfl) (bq_nm bk_X11_reads_249 (j := 23) rfl rfl) (bq_nm bk_X11_reads_249 (j := 24) rfl rfl) rfl
theorem dX11_reads_274 : decode cX11_reads 274 = .ok (.invokevirtual 116, 3) := dc_182 (bq_nm bk_X11_reads_249 (j := 25) rfl rfl) (bq_nm bk_X11_reads_249 (j := 26) rfl rfl) (bq_nm bk_X11_reads_249 (j := 27) rfl rfl) rfl
theorem dX11_reads_277 : decode cX11_reads 277 = .ok (.aload_n 0, 1) := dc_42 (bq_nm bk_X11_reads_249 (j := 28) rfl rfl)
theorem dX11_reads_278 : decode cX11_reads 278 = .ok (.bipush 6, 2) := dc_16 (bq_nm bk_X11_reads_249 (j := 29) rfl rfl) (bq_nm bk_X11_reads_249 (j := 30) rfl rfl) rfl
set_option maxRecDepth 20000 in
theorem bk_X11_reads_280 : ((cX11_reads.data.toList.drop 280).take 32).length = 32 ∧ eN (((cX11_reads.data.toList.drop 280).take 32).map UInt8.toNat) = 43433352465017740810708870492181051029982933001496030396061492856345454969014 := by decide +kernel
theorem dX11_reads_280 : decode cX11_reads 280 = .ok (.invokevirtual 120, 3) := dc_182 (bq_nm bk_X11_reads_280 (j := 0) rfl rfl) (bq_nm bk_X11_reads_280 (j := 1) rfl rfl) (bq_nm bk_X11_reads_280 (j := 2) rfl rfl) rfl
theorem dX11_reads_283 : decode cX11_reads 283 = .ok (.iconst 1, 1) := dc_4 (bq_nm bk_X11_reads_280 (j := 3) rfl rfl)
theorem dX11_reads_284 : decode cX11_reads 284 = .ok (.istore 4, 2) := dc_54 (bq_nm bk_X11_reads_280 (j := 4) rfl rfl) (bq_nm bk_X11_reads_280 (j := 5) rfl rfl)
theorem dX11_reads_286 : decode cX11_reads 286 = .ok (.iinc 5 1, 3) := dc_132 (bq_nm bk_X11_reads_280 (j := 6) rfl rfl) (bq_nm bk_X11_reads_280 (j := 7) rfl rfl) (bq_nm bk_X11_reads_280 (j := 8) rfl rfl) rfl
theorem dX11_reads_289 : decode cX11_reads 289 = .ok (.goto 83, 3) := dc_167 (bq_nm bk_X11_reads_280 (j := 9) rfl rfl) (bq_nm bk_X11_reads_280 (j := 10) rfl rfl) (bq_nm bk_X11_reads_280 (j := 11) rfl rfl) rfl
theorem dX11_reads_292 : decode cX11_reads 292 = .ok (.iload 6, 2) := dc_21 (bq_nm bk_X11_reads_280 (j := 12) rfl rfl) (bq_nm bk_X11_reads_280 (j := 13) rfl rfl)
theorem dX11_reads_294 : decode cX11_reads 294 = .ok (.bipush 40, 2) := dc_16 (bq_nm bk_X11_reads_280 (j := 14) rfl rfl) (bq_nm bk_X11_reads_280 (j := 15) rfl rfl) rfl
theorem dX11_reads_296 : decode cX11_reads 296 = .ok (.if_icmp .ne 32, 3) := dc_160 (bq_nm bk_X11_reads_280 (j := 16) rfl rfl) (bq_nm bk_X11_reads_280 (j := 17) rfl rfl) (bq_nm bk_X11_reads_280 (j := 18) rfl rfl) rfl
theorem dX11_reads_299 : decode cX11_reads 299 = .ok (.iload_n 3, 1) := dc_29 (bq_nm bk_X11_reads_280 (j := 19) rfl rfl)
theorem dX11_reads_300 : decode cX11_reads 300 = .ok (.bipush 8, 2) := dc_16 (bq_nm bk_X11_reads_280 (j := 20) rfl rfl) (bq_nm bk_X11_reads_280 (j := 21) rfl rfl) rfl
theorem dX11_reads_302 : decode cX11_reads 302 = .ok (.if_icmp .ne 11, 3) := dc_160 (bq_nm bk_X11_reads_280 (j := 22) rfl rfl) (bq_nm bk_X11_reads_280 (j := 23) rfl rfl) (bq_nm bk_X11_reads_280 (j := 24) rfl rfl) rfl
theorem dX11_reads_305 : decode cX11_reads 305 = .ok (.bipush 10, 2) := dc_16 (bq_nm bk_X11_reads_280 (j := 25) rfl rfl) (bq_nm bk_X11_reads_280 (j := 26) rfl rfl) rfl
theorem dX11_reads_307 : decode cX11_reads 307 = .ok (.iload 5, 2) := dc_21 (bq_nm bk_X11_reads_280 (j := 27) rfl rfl) (bq_nm bk_X11_reads_280 (j := 28) rfl rfl)
theorem dX11_reads_309 : decode cX11_reads 309 = .ok (.imul, 1) := dc_104 (bq_nm bk_X11_reads_280 (j := 29) rfl rfl)
theorem dX11_reads_310 : decode cX11_reads 310 = .ok (.iconst 3, 1) := dc_6 (bq_nm bk_X11_reads_280 (j := 30) rfl rfl)
theorem dX11_reads_311 : decode cX11_reads 311 = .ok (.iadd, 1) := dc_96 (bq_nm bk_X11_reads_280 (j := 31) rfl rfl)
set_option maxRecDepth 20000 in
theorem bk_X11_reads_312 : ((cX11_reads.data.toList.drop 312).take 31).length = 31 ∧ eN (((cX11_reads.data.toList.drop 312).take 31).map UInt8.toNat) = 74380137242929734691429285686917781903461141837577439252109961396832404652 := by decide +kernel
theorem dX11_reads_312 : decode cX11_reads 312 = .ok (.ireturn, 1) := dc_172 (bq_nm bk_X11_reads_312 (j := 0) rfl rfl)
theorem dX11_reads_313 : decode cX11_reads 313 = .ok (.iinc 3 1, 3) := dc_132 (bq_nm bk_X11_reads_312 (j := 1) rfl rfl) (bq_nm bk_X11_reads_312 (j := 2) rfl rfl) (bq_nm bk_X11_reads_312 (j := 3) rfl rfl) rfl
theorem dX11_reads_316 : decode cX11_reads 316 = .ok (.aload_n 0, 1) := dc_42 (bq_nm bk_X11_reads_312 (j := 4) rfl rfl)
theorem dX11_reads_317 : decode cX11_reads 317 = .ok (.bipush 13, 2) := dc_16 (bq_nm bk_X11_reads_312 (j := 5) rfl rfl) (bq_nm bk_X11_reads_312 (j := 6) rfl rfl) rfl
theorem dX11_reads_319 : decode cX11_reads 319 = .ok (.invokevirtual 124, 3) := dc_182 (bq_nm bk_X11_reads_312 (j := 7) rfl rfl) (bq_nm bk_X11_reads_312 (j := 8) rfl rfl) (bq_nm bk_X11_reads_312 (j := 9) rfl rfl) rfl
theorem dX11_reads_322 : decode cX11_reads 322 = .ok (.iinc 5 1, 3) := dc_132 (bq_nm bk_X11_reads_312 (j := 10) rfl rfl) (bq_nm bk_X11_reads_312 (j := 11) rfl rfl) (bq_nm bk_X11_reads_312 (j := 12) rfl rfl) rfl
theorem dX11_reads_325 : decode cX11_reads 325 = .ok (.goto 47, 3) := dc_167 (bq_nm bk_X11_reads_312 (j := 13) rfl rfl) (bq_nm bk_X11_reads_312 (j := 14) rfl rfl) (bq_nm bk_X11_reads_312 (j := 15) rfl rfl) rfl
theorem dX11_reads_328 : decode cX11_reads 328 = .ok (.iload 6, 2) := dc_21 (bq_nm bk_X11_reads_312 (j := 16) rfl rfl) (bq_nm bk_X11_reads_312 (j := 17) rfl rfl)
theorem dX11_reads_330 : decode cX11_reads 330 = .ok (.bipush 45, 2) := dc_16 (bq_nm bk_X11_reads_312 (j := 18) rfl rfl) (bq_nm bk_X11_reads_312 (j := 19) rfl rfl) rfl
theorem dX11_reads_332 : decode cX11_reads 332 = .ok (.if_icmp .eq 10, 3) := dc_159 (bq_nm bk_X11_reads_312 (j := 20) rfl rfl) (bq_nm bk_X11_reads_312 (j := 21) rfl rfl) (bq_nm bk_X11_reads_312 (j := 22) rfl rfl) rfl
theorem dX11_reads_335 : decode cX11_reads 335 = .ok (.iload 6, 2) := dc_21 (bq_nm bk_X11_reads_312 (j := 23) rfl rfl) (bq_nm bk_X11_reads_312 (j := 24) rfl rfl)
theorem dX11_reads_337 : decode cX11_reads 337 = .ok (.bipush 33, 2) := dc_16 (bq_nm bk_X11_reads_312 (j := 25) rfl rfl) (bq_nm bk_X11_reads_312 (j := 26) rfl rfl) rfl
theorem dX11_reads_339 : decode cX11_reads 339 = .ok (.if_icmp .ne 25, 3) := dc_160 (bq_nm bk_X11_reads_312 (j := 27) rfl rfl) (bq_nm bk_X11_reads_312 (j := 28) rfl rfl) (bq_nm bk_X11_reads_312 (j := 29) rfl rfl) rfl
theorem dX11_reads_342 : decode cX11_reads 342 = .ok (.aload_n 0, 1) := dc_42 (bq_nm bk_X11_reads_312 (j := 30) rfl rfl)
set_option maxRecDepth 20000 in
theorem bk_X11_reads_343 : ((cX11_reads.data.toList.drop 343).take 32).length = 32 ∧ eN (((cX11_reads.data.toList.drop 343).take 32).map UInt8.toNat) = 75081556409555197133571995338324449120652723330340452700775291818403840394773 := by decide +kernel
theorem dX11_reads_343 : decode cX11_reads 343 = .ok (.iload 6, 2) := dc_21 (bq_nm bk_X11_reads_343 (j := 0) rfl rfl) (bq_nm bk_X11_reads_343 (j := 1) rfl rfl)
theorem dX11_reads_345 : decode cX11_reads 345 = .ok (.bipush 45, 2) := dc_16 (bq_nm bk_X11_reads_343 (j := 2) rfl rfl) (bq_nm bk_X11_reads_343 (j := 3) rfl rfl) rfl
theorem dX11_reads_347 : decode cX11_reads 347 = .ok (.if_icmp .ne 7, 3) := dc_160 (bq_nm bk_X11_reads_343 (j := 4) rfl rfl) (bq_nm bk_X11_reads_343 (j := 5) rfl rfl) (bq_nm bk_X11_reads_343 (j := 6) rfl rfl) rfl
theorem dX11_reads_350 : decode cX11_reads 350 = .ok (.iconst 3, 1) := dc_6 (bq_nm bk_X11_reads_343 (j := 7) rfl rfl)
theorem dX11_reads_351 : decode cX11_reads 351 = .ok (.goto 4, 3) := dc_167 (bq_nm bk_X11_reads_343 (j := 8) rfl rfl) (bq_nm bk_X11_reads_343 (j := 9) rfl rfl) (bq_nm bk_X11_reads_343 (j := 10) rfl rfl) rfl
theorem dX11_reads_354 : decode cX11_reads 354 = .ok (.iconst 2, 1) := dc_5 (bq_nm bk_X11_reads_343 (j := 11) rfl rfl)
theorem dX11_reads_355 : decode cX11_reads 355 = .ok (.invokevirtual 124, 3) := dc_182 (bq_nm bk_X11_reads_343 (j := 12) rfl rfl) (bq_nm bk_X11_reads_343 (j := 13) rfl rfl) (bq_nm bk_X11_reads_343 (j := 14) rfl rfl) rfl
theorem dX11_reads_358 : decode cX11_reads 358 = .ok (.iinc 5 1, 3) := dc_132 (bq_nm bk_X11_reads_343 (j := 15) rfl rfl) (bq_nm bk_X11_reads_343 (j := 16) rfl rfl) (bq_nm bk_X11_reads_343 (j := 17) rfl rfl) rfl
theorem dX11_reads_361 : decode cX11_reads 361 = .ok (.goto 11, 3) := dc_167 (bq_nm bk_X11_reads_343 (j := 18) rfl rfl) (bq_nm bk_X11_reads_343 (j := 19) rfl rfl) (bq_nm bk_X11_reads_343 (j := 20) rfl rfl) rfl
theorem dX11_reads_364 : decode cX11_reads 364 = .ok (.bipush 10, 2) := dc_16 (bq_nm bk_X11_reads_343 (j := 21) rfl rfl) (bq_nm bk_X11_reads_343 (j := 22) rfl rfl) rfl
theorem dX11_reads_366 : decode cX11_reads 366 = .ok (.iload 5, 2) := dc_21 (bq_nm bk_X11_reads_343 (j := 23) rfl rfl) (bq_nm bk_X11_reads_343 (j := 24) rfl rfl)
theorem dX11_reads_368 : decode cX11_reads 368 = .ok (.imul, 1) := dc_104 (bq_nm bk_X11_reads_343 (j := 25) rfl rfl)
theorem dX11_reads_369 : decode cX11_reads 369 = .ok (.iconst 1, 1) := dc_4 (bq_nm bk_X11_reads_343 (j := 26) rfl rfl)
theorem dX11_reads_370 : decode cX11_reads 370 = .ok (.iadd, 1) := dc_96 (bq_nm bk_X11_reads_343 (j := 27) rfl rfl)
theorem dX11_reads_371 : decode cX11_reads 371 = .ok (.ireturn, 1) := dc_172 (bq_nm bk_X11_reads_343 (j := 28) rfl rfl)
theorem dX11_reads_372 : decode cX11_reads 372 = .ok (.goto (-347), 3) := dc_167 (bq_nm bk_X11_reads_343 (j := 29) rfl rfl) (bq_nm bk_X11_reads_343 (j := 30) rfl rfl) (bq_nm bk_X11_reads_343 (j := 31) rfl rfl) rfl
set_option maxRecDepth 20000 in
theorem bk_X11_reads_375 : ((cX11_reads.data.toList.drop 375).take 25).length = 25 ∧ eN (((cX11_reads.data.toList.drop 375).take 25).map UInt8.toNat) = 1082015833713163398785497347249755624485510101041694872306730 := by decide +kernel
theorem dX11_reads_375 : decode cX11_reads 375 = .ok (.aload_n 0, 1) := dc_42 (bq_nm bk_X11_reads_375 (j := 0) rfl rfl)
theorem dX11_reads_376 : decode cX11_reads 376 = .ok (.iconst 1, 1) := dc_4 (bq_nm bk_X11_reads_375 (j := 1) rfl rfl)
theorem dX11_reads_377 : decode cX11_reads 377 = .ok (.invokevirtual 120, 3) := dc_182 (bq_nm bk_X11_reads_375 (j := 2) rfl rfl) (bq_nm bk_X11_reads_375 (j := 3) rfl rfl) (bq_nm bk_X11_reads_375 (j := 4) rfl rfl) rfl
theorem dX11_reads_380 : decode cX11_reads 380 = .ok (.iload 4, 2) := dc_21 (bq_nm bk_X11_reads_375 (j := 5) rfl rfl) (bq_nm bk_X11_reads_375 (j := 6) rfl rfl)
theorem dX11_reads_382 : decode cX11_reads 382 = .ok (.ifCond .eq 11, 3) := dc_153 (bq_nm bk_X11_reads_375 (j := 7) rfl rfl) (bq_nm bk_X11_reads_375 (j := 8) rfl rfl) (bq_nm bk_X11_reads_375 (j := 9) rfl rfl) rfl
theorem dX11_reads_385 : decode cX11_reads 385 = .ok (.iload_n 3, 1) := dc_29 (bq_nm bk_X11_reads_375 (j := 10) rfl rfl)
theorem dX11_reads_386 : decode cX11_reads 386 = .ok (.ifCond .ne 7, 3) := dc_154 (bq_nm bk_X11_reads_375 (j := 11) rfl rfl) (bq_nm bk_X11_reads_375 (j := 12) rfl rfl) (bq_nm bk_X11_reads_375 (j := 13) rfl rfl) rfl
theorem dX11_reads_389 : decode cX11_reads 389 = .ok (.iconst (-1), 1) := dc_2 (bq_nm bk_X11_reads_375 (j := 14) rfl rfl)
theorem dX11_reads_390 : decode cX11_reads 390 = .ok (.goto 9, 3) := dc_167 (bq_nm bk_X11_reads_375 (j := 15) rfl rfl) (bq_nm bk_X11_reads_375 (j := 16) rfl rfl) (bq_nm bk_X11_reads_375 (j := 17) rfl rfl) rfl
theorem dX11_reads_393 : decode cX11_reads 393 = .ok (.bipush 10, 2) := dc_16 (bq_nm bk_X11_reads_375 (j := 18) rfl rfl) (bq_nm bk_X11_reads_375 (j := 19) rfl rfl) rfl
theorem dX11_reads_395 : decode cX11_reads 395 = .ok (.iload_n 2, 1) := dc_28 (bq_nm bk_X11_reads_375 (j := 20) rfl rfl)
theorem dX11_reads_396 : decode cX11_reads 396 = .ok (.imul, 1) := dc_104 (bq_nm bk_X11_reads_375 (j := 21) rfl rfl)
theorem dX11_reads_397 : decode cX11_reads 397 = .ok (.iconst 1, 1) := dc_4 (bq_nm bk_X11_reads_375 (j := 22) rfl rfl)
theorem dX11_reads_398 : decode cX11_reads 398 = .ok (.iadd, 1) := dc_96 (bq_nm bk_X11_reads_375 (j := 23) rfl rfl)
theorem dX11_reads_399 : decode cX11_reads 399 = .ok (.ireturn, 1) := dc_172 (bq_nm bk_X11_reads_375 (j := 24) rfl rfl)
set_option maxRecDepth 20000 in
theorem bk_X11_findSat_0 : ((cX11_findSat.data.toList.drop 0).take 31).length = 31 ∧ eN (((cX11_findSat.data.toList.drop 0).take 31).map UInt8.toNat) = 49499891401764850076502644878181092914094283636321012712744769130415325994 := by decide +kernel
theorem dX11_findSat_0 : decode cX11_findSat 0 = .ok (.aload_n 0, 1) := dc_42 (bq_nm bk_X11_findSat_0 (j := 0) rfl rfl)
theorem dX11_findSat_1 : decode cX11_findSat 1 = .ok (.iconst 0, 1) := dc_3 (bq_nm bk_X11_findSat_0 (j := 1) rfl rfl)
theorem dX11_findSat_2 : decode cX11_findSat 2 = .ok (.putfield 140, 3) := dc_181 (bq_nm bk_X11_findSat_0 (j := 2) rfl rfl) (bq_nm bk_X11_findSat_0 (j := 3) rfl rfl) (bq_nm bk_X11_findSat_0 (j := 4) rfl rfl) rfl
theorem dX11_findSat_5 : decode cX11_findSat 5 = .ok (.aload_n 0, 1) := dc_42 (bq_nm bk_X11_findSat_0 (j := 5) rfl rfl)
theorem dX11_findSat_6 : decode cX11_findSat 6 = .ok (.iconst (-1), 1) := dc_2 (bq_nm bk_X11_findSat_0 (j := 6) rfl rfl)
theorem dX11_findSat_7 : decode cX11_findSat 7 = .ok (.putfield 143, 3) := dc_181 (bq_nm bk_X11_findSat_0 (j := 7) rfl rfl) (bq_nm bk_X11_findSat_0 (j := 8) rfl rfl) (bq_nm bk_X11_findSat_0 (j := 9) rfl rfl) rfl
theorem dX11_findSat_10 : decode cX11_findSat 10 = .ok (.iconst 0, 1) := dc_3 (bq_nm bk_X11_findSat_0 (j := 10) rfl rfl)
theorem dX11_findSat_11 : decode cX11_findSat 11 = .ok (.istore_n 3, 1) := dc_62 (bq_nm bk_X11_findSat_0 (j := 11) rfl rfl)
theorem dX11_findSat_12 : decode cX11_findSat 12 = .ok (.iload_n 3, 1) := dc_29 (bq_nm bk_X11_findSat_0 (j := 12) rfl rfl)
theorem dX11_findSat_13 : decode cX11_findSat 13 = .ok (.aload_n 0, 1) := dc_42 (bq_nm bk_X11_findSat_0 (j := 13) rfl rfl)
theorem dX11_findSat_14 : decode cX11_findSat 14 = .ok (.getfield 146, 3) := dc_180 (bq_nm bk_X11_findSat_0 (j := 14) rfl rfl) (bq_nm bk_X11_findSat_0 (j := 15) rfl rfl) (bq_nm bk_X11_findSat_0 (j := 16) rfl rfl) rfl
theorem dX11_findSat_17 : decode cX11_findSat 17 = .ok (.if_icmp .ge 75, 3) := dc_162 (bq_nm bk_X11_findSat_0 (j := 17) rfl rfl) (bq_nm bk_X11_findSat_0 (j := 18) rfl rfl) (bq_nm bk_X11_findSat_0 (j := 19) rfl rfl) rfl
theorem dX11_findSat_20 : decode cX11_findSat 20 = .ok (.aload_n 0, 1) := dc_42 (bq_nm bk_X11_findSat_0 (j := 20) rfl rfl)
theorem dX11_findSat_21 : decode cX11_findSat 21 = .ok (.iload_n 3, 1) := dc_29 (bq_nm bk_X11_findSat_0 (j := 21) rfl rfl)
theorem dX11_findSat_22 : decode cX11_findSat 22 = .ok (.iconst 0, 1) := dc_3 (bq_nm bk_X11_findSat_0 (j := 22) rfl rfl)
theorem dX11_findSat_23 : decode cX11_findSat 23 = .ok (.invokevirtual 149, 3) := dc_182 (bq_nm bk_X11_findSat_0 (j := 23) rfl rfl) (bq_nm bk_X11_findSat_0 (j := 24) rfl rfl) (bq_nm bk_X11_findSat_0 (j := 25) rfl rfl) rfl
theorem dX11_findSat_26 : decode cX11_findSat 26 = .ok (.istore 4, 2) := dc_54 (bq_nm bk_X11_findSat_0 (j := 26) rfl rfl) (bq_nm bk_X11_findSat_0 (j := 27) rfl rfl)
theorem dX11_findSat_28 : decode cX11_findSat 28 = .ok (.iload 4, 2) := dc_21 (bq_nm bk_X11_findSat_0 (j := 28) rfl rfl) (bq_nm bk_X11_findSat_0 (j := 29) rfl rfl)
theorem dX11_findSat_30 : decode cX11_findSat 30 = .ok (.iload_n 2, 1) := dc_28 (bq_nm bk_X11_findSat_0 (j := 30) rfl rfl)
set_option maxRecDepth 20000 in
theorem bk_X11_findSat_31 : ((cX11_findSat.data.toList.drop 31).take 32).length = 32 ∧ eN (((cX11_findSat.data.toList.drop 31).take 32).map UInt8.toNat) = 45259582588988070207119741019742076451285408895482991656006009825987338371234 := by decide +kernel
theorem dX11_findSat_31 : decode cX11_findSat 31 = .ok (.if_icmp .ge 55, 3) := dc_162 (bq_nm bk_X11_findSat_31 (j := 0) rfl rfl) (bq_nm bk_X11_findSat_31 (j := 1) rfl rfl) (bq_nm bk_X11_findSat_31 (j := 2) rfl rfl) rfl
theorem dX11_findSat_34 : decode cX11_findSat 34 = .ok (.aload_n 0, 1) := dc_42 (bq_nm bk_X11_findSat_31 (j := 3) rfl rfl)
theorem dX11_findSat_35 : decode cX11_findSat 35 = .ok (.getfield 36, 3) := dc_180 (bq_nm bk_X11_findSat_31 (j := 4) rfl rfl) (bq_nm bk_X11_findSat_31 (j := 5) rfl rfl) (bq_nm bk_X11_findSat_31 (j := 6) rfl rfl) rfl
theorem dX11_findSat_38 : decode cX11_findSat 38 = .ok (.iload_n 3, 1) := dc_29 (bq_nm bk_X11_findSat_31 (j := 7) rfl rfl)
theorem dX11_findSat_39 : decode cX11_findSat 39 = .ok (.iaload, 1) := dc_46 (bq_nm bk_X11_findSat_31 (j := 8) rfl rfl)
theorem dX11_findSat_40 : decode cX11_findSat 40 = .ok (.iload_n 1, 1) := dc_27 (bq_nm bk_X11_findSat_31 (j := 9) rfl rfl)
theorem dX11_findSat_41 : decode cX11_findSat 41 = .ok (.ishr, 1) := dc_122 (bq_nm bk_X11_findSat_31 (j := 10) rfl rfl)
theorem dX11_findSat_42 : decode cX11_findSat 42 = .ok (.iconst 1, 1) := dc_4 (bq_nm bk_X11_findSat_31 (j := 11) rfl rfl)
theorem dX11_findSat_43 : decode cX11_findSat 43 = .ok (.iand, 1) := dc_126 (bq_nm bk_X11_findSat_31 (j := 12) rfl rfl)
theorem dX11_findSat_44 : decode cX11_findSat 44 = .ok (.iconst 1, 1) := dc_4 (bq_nm bk_X11_findSat_31 (j := 13) rfl rfl)
theorem dX11_findSat_45 : decode cX11_findSat 45 = .ok (.if_icmp .ne 41, 3) := dc_160 (bq_nm bk_X11_findSat_31 (j := 14) rfl rfl) (bq_nm bk_X11_findSat_31 (j := 15) rfl rfl) (bq_nm bk_X11_findSat_31 (j := 16) rfl rfl) rfl
theorem dX11_findSat_48 : decode cX11_findSat 48 = .ok (.aload_n 0, 1) := dc_42 (bq_nm bk_X11_findSat_31 (j := 17) rfl rfl)
theorem dX11_findSat_49 : decode cX11_findSat 49 = .ok (.dup, 1) := dc_89 (bq_nm bk_X11_findSat_31 (j := 18) rfl rfl)
theorem dX11_findSat_50 : decode cX11_findSat 50 = .ok (.getfield 140, 3) := dc_180 (bq_nm bk_X11_findSat_31 (j := 19) rfl rfl) (bq_nm bk_X11_findSat_31 (j := 20) rfl rfl) (bq_nm bk_X11_findSat_31 (j := 21) rfl rfl) rfl
theorem dX11_findSat_53 : decode cX11_findSat 53 = .ok (.iconst 1, 1) := dc_4 (bq_nm bk_X11_findSat_31 (j := 22) rfl rfl)
theorem dX11_findSat_54 : decode cX11_findSat 54 = .ok (.iadd, 1) := dc_96 (bq_nm bk_X11_findSat_31 (j := 23) rfl rfl)
theorem dX11_findSat_55 : decode cX11_findSat 55 = .ok (.putfield 140, 3) := dc_181 (bq_nm bk_X11_findSat_31 (j := 24) rfl rfl) (bq_nm bk_X11_findSat_31 (j := 25) rfl rfl) (bq_nm bk_X11_findSat_31 (j := 26) rfl rfl) rfl
theorem dX11_findSat_58 : decode cX11_findSat 58 = .ok (.aload_n 0, 1) := dc_42 (bq_nm bk_X11_findSat_31 (j := 27) rfl rfl)
theorem dX11_findSat_59 : decode cX11_findSat 59 = .ok (.iload 4, 2) := dc_21 (bq_nm bk_X11_findSat_31 (j := 28) rfl rfl) (bq_nm bk_X11_findSat_31 (j := 29) rfl rfl)
theorem dX11_findSat_61 : decode cX11_findSat 61 = .ok (.bipush 100, 2) := dc_16 (bq_nm bk_X11_findSat_31 (j := 30) rfl rfl) (bq_nm bk_X11_findSat_31 (j := 31) rfl rfl) rfl
set_option maxRecDepth 20000 in
theorem bk_X11_findSat_63 : ((cX11_findSat.data.toList.drop 63).take 30).length = 30 ∧ eN (((cX11_findSat.data.toList.drop 63).take 30).map UInt8.toNat) = 1226461857171169524819149116152348354443676997028786843099201517288434284 := by decide +kernel
theorem dX11_findSat_63 : decode cX11_findSat 63 = .ok (.idiv, 1) := dc_108 (bq_nm bk_X11_findSat_63 (j := 0) rfl rfl)
theorem dX11_findSat_64 : decode cX11_findSat 64 = .ok (.aload_n 0, 1) := dc_42 (bq_nm bk_X11_findSat_63 (j := 1) rfl rfl)
theorem dX11_findSat_65 : decode cX11_findSat 65 = .ok (.getfield 143, 3) := dc_180 (bq_nm bk_X11_findSat_63 (j := 2) rfl rfl) (bq_nm bk_X11_findSat_63 (j := 3) rfl rfl) (bq_nm bk_X11_findSat_63 (j := 4) rfl rfl) rfl
theorem dX11_findSat_68 : decode cX11_findSat 68 = .ok (.if_icmp .le 11, 3) := dc_164 (bq_nm bk_X11_findSat_63 (j := 5) rfl rfl) (bq_nm bk_X11_findSat_63 (j := 6) rfl rfl) (bq_nm bk_X11_findSat_63 (j := 7) rfl rfl) rfl
theorem dX11_findSat_71 : decode cX11_findSat 71 = .ok (.iload 4, 2) := dc_21 (bq_nm bk_X11_findSat_63 (j := 8) rfl rfl) (bq_nm bk_X11_findSat_63 (j := 9) rfl rfl)
theorem dX11_findSat_73 : decode cX11_findSat 73 = .ok (.bipush 100, 2) := dc_16 (bq_nm bk_X11_findSat_63 (j := 10) rfl rfl) (bq_nm bk_X11_findSat_63 (j := 11) rfl rfl) rfl
theorem dX11_findSat_75 : decode cX11_findSat 75 = .ok (.idiv, 1) := dc_108 (bq_nm bk_X11_findSat_63 (j := 12) rfl rfl)
theorem dX11_findSat_76 : decode cX11_findSat 76 = .ok (.goto 7, 3) := dc_167 (bq_nm bk_X11_findSat_63 (j := 13) rfl rfl) (bq_nm bk_X11_findSat_63 (j := 14) rfl rfl) (bq_nm bk_X11_findSat_63 (j := 15) rfl rfl) rfl
theorem dX11_findSat_79 : decode cX11_findSat 79 = .ok (.aload_n 0, 1) := dc_42 (bq_nm bk_X11_findSat_63 (j := 16) rfl rfl)
theorem dX11_findSat_80 : decode cX11_findSat 80 = .ok (.getfield 143, 3) := dc_180 (bq_nm bk_X11_findSat_63 (j := 17) rfl rfl) (bq_nm bk_X11_findSat_63 (j := 18) rfl rfl) (bq_nm bk_X11_findSat_63 (j := 19) rfl rfl) rfl
theorem dX11_findSat_83 : decode cX11_findSat 83 = .ok (.putfield 143, 3) := dc_181 (bq_nm bk_X11_findSat_63 (j := 20) rfl rfl) (bq_nm bk_X11_findSat_63 (j := 21) rfl rfl) (bq_nm bk_X11_findSat_63 (j := 22) rfl rfl) rfl
theorem dX11_findSat_86 : decode cX11_findSat 86 = .ok (.iinc 3 1, 3) := dc_132 (bq_nm bk_X11_findSat_63 (j := 23) rfl rfl) (bq_nm bk_X11_findSat_63 (j := 24) rfl rfl) (bq_nm bk_X11_findSat_63 (j := 25) rfl rfl) rfl
theorem dX11_findSat_89 : decode cX11_findSat 89 = .ok (.goto (-77), 3) := dc_167 (bq_nm bk_X11_findSat_63 (j := 26) rfl rfl) (bq_nm bk_X11_findSat_63 (j := 27) rfl rfl) (bq_nm bk_X11_findSat_63 (j := 28) rfl rfl) rfl
theorem dX11_findSat_92 : decode cX11_findSat 92 = .ok (.return_, 1) := dc_177 (bq_nm bk_X11_findSat_63 (j := 29) rfl rfl)
set_option maxRecDepth 20000 in
theorem bk_X11_named_0 : ((cX11_named.data.toList.drop 0).take 9).length = 9 ∧ eN (((cX11_named.data.toList.drop 0).take 9).map UInt8.toNat) = 535259114162717395472 := by decide +kernel
theorem dX11_named_0 : decode cX11_named 0 = .ok (.bipush 10, 2) := dc_16 (bq_nm bk_X11_named_0 (j := 0) rfl rfl) (bq_nm bk_X11_named_0 (j := 1) rfl rfl) rfl
theorem dX11_named_2 : decode cX11_named 2 = .ok (.iconst 4, 1) := dc_7 (bq_nm bk_X11_named_0 (j := 2) rfl rfl)
theorem dX11_named_3 : decode cX11_named 3 = .ok (.iload_n 1, 1) := dc_27 (bq_nm bk_X11_named_0 (j := 3) rfl rfl)
theorem dX11_named_4 : decode cX11_named 4 = .ok (.imul, 1) := dc_104 (bq_nm bk_X11_named_0 (j := 4) rfl rfl)
theorem dX11_named_5 : decode cX11_named 5 = .ok (.iadd, 1) := dc_96 (bq_nm bk_X11_named_0 (j := 5) rfl rfl)
theorem dX11_named_6 : decode cX11_named 6 = .ok (.istore 4, 2) := dc_54 (bq_nm bk_X11_named_0 (j := 6) rfl rfl) (bq_nm bk_X11_named_0 (j := 7) rfl rfl)
theorem dX11_named_8 : decode cX11_named 8 = .ok (.iload_n 3, 1) := dc_29 (bq_nm bk_X11_named_0 (j := 8) rfl rfl)
set_option maxRecDepth 20000 in
theorem bk_X11_named_44 : ((cX11_named.data.toList.drop 44).take 31).length = 31 ∧ eN (((cX11_named.data.toList.drop 44).take 31).map UInt8.toNat) = 75405169395459226856374399966441839327061055654091496559044289443107988496 := by decide +kernel
theorem dX11_named_44 : decode cX11_named 44 = .ok (.bipush 100, 2) := dc_16 (bq_nm bk_X11_named_44 (j := 0) rfl rfl) (bq_nm bk_X11_named_44 (j := 1) rfl rfl) rfl
theorem dX11_named_46 : decode cX11_named 46 = .ok (.iload_n 2, 1) := dc_28 (bq_nm bk_X11_named_44 (j := 2) rfl rfl)
theorem dX11_named_47 : decode cX11_named 47 = .ok (.bipush 100, 2) := dc_16 (bq_nm bk_X11_named_44 (j := 3) rfl rfl) (bq_nm bk_X11_named_44 (j := 4) rfl rfl) rfl
theorem dX11_named_49 : decode cX11_named 49 = .ok (.idiv, 1) := dc_108 (bq_nm bk_X11_named_44 (j := 5) rfl rfl)
theorem dX11_named_50 : decode cX11_named 50 = .ok (.iadd, 1) := dc_96 (bq_nm bk_X11_named_44 (j := 6) rfl rfl)
theorem dX11_named_51 : decode cX11_named 51 = .ok (.aload_n 0, 1) := dc_42 (bq_nm bk_X11_named_44 (j := 7) rfl rfl)
theorem dX11_named_52 : decode cX11_named 52 = .ok (.getfield 7, 3) := dc_180 (bq_nm bk_X11_named_44 (j := 8) rfl rfl) (bq_nm bk_X11_named_44 (j := 9) rfl rfl) (bq_nm bk_X11_named_44 (j := 10) rfl rfl) rfl
theorem dX11_named_55 : decode cX11_named 55 = .ok (.iload 4, 2) := dc_21 (bq_nm bk_X11_named_44 (j := 11) rfl rfl) (bq_nm bk_X11_named_44 (j := 12) rfl rfl)
theorem dX11_named_57 : decode cX11_named 57 = .ok (.iconst 3, 1) := dc_6 (bq_nm bk_X11_named_44 (j := 13) rfl rfl)
theorem dX11_named_58 : decode cX11_named 58 = .ok (.iadd, 1) := dc_96 (bq_nm bk_X11_named_44 (j := 14) rfl rfl)
theorem dX11_named_59 : decode cX11_named 59 = .ok (.iaload, 1) := dc_46 (bq_nm bk_X11_named_44 (j := 15) rfl rfl)
theorem dX11_named_60 : decode cX11_named 60 = .ok (.isub, 1) := dc_100 (bq_nm bk_X11_named_44 (j := 16) rfl rfl)
theorem dX11_named_61 : decode cX11_named 61 = .ok (.i2l, 1) := dc_133 (bq_nm bk_X11_named_44 (j := 17) rfl rfl)
theorem dX11_named_62 : decode cX11_named 62 = .ok (.lreturn, 1) := dc_173 (bq_nm bk_X11_named_44 (j := 18) rfl rfl)
theorem dX11_named_63 : decode cX11_named 63 = .ok (.aload_n 0, 1) := dc_42 (bq_nm bk_X11_named_44 (j := 19) rfl rfl)
theorem dX11_named_64 : decode cX11_named 64 = .ok (.getfield 7, 3) := dc_180 (bq_nm bk_X11_named_44 (j := 20) rfl rfl) (bq_nm bk_X11_named_44 (j := 21) rfl rfl) (bq_nm bk_X11_named_44 (j := 22) rfl rfl) rfl
theorem dX11_named_67 : decode cX11_named 67 = .ok (.iload 4, 2) := dc_21 (bq_nm bk_X11_named_44 (j := 23) rfl rfl) (bq_nm bk_X11_named_44 (j := 24) rfl rfl)
theorem dX11_named_69 : decode cX11_named 69 = .ok (.iconst 2, 1) := dc_5 (bq_nm bk_X11_named_44 (j := 25) rfl rfl)
theorem dX11_named_70 : decode cX11_named 70 = .ok (.iadd, 1) := dc_96 (bq_nm bk_X11_named_44 (j := 26) rfl rfl)
theorem dX11_named_71 : decode cX11_named 71 = .ok (.iaload, 1) := dc_46 (bq_nm bk_X11_named_44 (j := 27) rfl rfl)
theorem dX11_named_72 : decode cX11_named 72 = .ok (.i2l, 1) := dc_133 (bq_nm bk_X11_named_44 (j := 28) rfl rfl)
theorem dX11_named_73 : decode cX11_named 73 = .ok (.lreturn, 1) := dc_173 (bq_nm bk_X11_named_44 (j := 29) rfl rfl)
theorem dX11_named_74 : decode cX11_named 74 = .ok (.aload_n 0, 1) := dc_42 (bq_nm bk_X11_named_44 (j := 30) rfl rfl)
set_option maxRecDepth 20000 in
theorem bk_X11_named_75 : ((cX11_named.data.toList.drop 75).take 32).length = 32 ∧ eN (((cX11_named.data.toList.drop 75).take 32).map UInt8.toNat) = 4071882280653452928963227129140035604895138234336917602871331856675416506548 := by decide +kernel
theorem dX11_named_75 : decode cX11_named 75 = .ok (.getfield 7, 3) := dc_180 (bq_nm bk_X11_named_75 (j := 0) rfl rfl) (bq_nm bk_X11_named_75 (j := 1) rfl rfl) (bq_nm bk_X11_named_75 (j := 2) rfl rfl) rfl
theorem dX11_named_78 : decode cX11_named 78 = .ok (.iload 4, 2) := dc_21 (bq_nm bk_X11_named_75 (j := 3) rfl rfl) (bq_nm bk_X11_named_75 (j := 4) rfl rfl)
theorem dX11_named_80 : decode cX11_named 80 = .ok (.iconst 1, 1) := dc_4 (bq_nm bk_X11_named_75 (j := 5) rfl rfl)
theorem dX11_named_81 : decode cX11_named 81 = .ok (.iadd, 1) := dc_96 (bq_nm bk_X11_named_75 (j := 6) rfl rfl)
theorem dX11_named_82 : decode cX11_named 82 = .ok (.iaload, 1) := dc_46 (bq_nm bk_X11_named_75 (j := 7) rfl rfl)
theorem dX11_named_83 : decode cX11_named 83 = .ok (.i2l, 1) := dc_133 (bq_nm bk_X11_named_75 (j := 8) rfl rfl)
theorem dX11_named_84 : decode cX11_named 84 = .ok (.lreturn, 1) := dc_173 (bq_nm bk_X11_named_75 (j := 9) rfl rfl)
theorem dX11_named_85 : decode cX11_named 85 = .ok (.aload_n 0, 1) := dc_42 (bq_nm bk_X11_named_75 (j := 10) rfl rfl)
theorem dX11_named_86 : decode cX11_named 86 = .ok (.getfield 7, 3) := dc_180 (bq_nm bk_X11_named_75 (j := 11) rfl rfl) (bq_nm bk_X11_named_75 (j := 12) rfl rfl) (bq_nm bk_X11_named_75 (j := 13) rfl rfl) rfl
theorem dX11_named_89 : decode cX11_named 89 = .ok (.iload 4, 2) := dc_21 (bq_nm bk_X11_named_75 (j := 14) rfl rfl) (bq_nm bk_X11_named_75 (j := 15) rfl rfl)
theorem dX11_named_91 : decode cX11_named 91 = .ok (.iaload, 1) := dc_46 (bq_nm bk_X11_named_75 (j := 16) rfl rfl)
theorem dX11_named_92 : decode cX11_named 92 = .ok (.i2l, 1) := dc_133 (bq_nm bk_X11_named_75 (j := 17) rfl rfl)
theorem dX11_named_93 : decode cX11_named 93 = .ok (.lreturn, 1) := dc_173 (bq_nm bk_X11_named_75 (j := 18) rfl rfl)
theorem dX11_named_94 : decode cX11_named 94 = .ok (.aload_n 0, 1) := dc_42 (bq_nm bk_X11_named_75 (j := 19) rfl rfl)
theorem dX11_named_95 : decode cX11_named 95 = .ok (.getfield 140, 3) := dc_180 (bq_nm bk_X11_named_75 (j := 20) rfl rfl) (bq_nm bk_X11_named_75 (j := 21) rfl rfl) (bq_nm bk_X11_named_75 (j := 22) rfl rfl) rfl
theorem dX11_named_98 : decode cX11_named 98 = .ok (.i2l, 1) := dc_133 (bq_nm bk_X11_named_75 (j := 23) rfl rfl)
theorem dX11_named_99 : decode cX11_named 99 = .ok (.lreturn, 1) := dc_173 (bq_nm bk_X11_named_75 (j := 24) rfl rfl)
theorem dX11_named_100 : decode cX11_named 100 = .ok (.aload_n 0, 1) := dc_42 (bq_nm bk_X11_named_75 (j := 25) rfl rfl)
theorem dX11_named_101 : decode cX11_named 101 = .ok (.getfield 140, 3) := dc_180 (bq_nm bk_X11_named_75 (j := 26) rfl rfl) (bq_nm bk_X11_named_75 (j := 27) rfl rfl) (bq_nm bk_X11_named_75 (j := 28) rfl rfl) rfl
theorem dX11_named_104 : decode cX11_named 104 = .ok (.ifCond .ne 9, 3) := dc_154 (bq_nm bk_X11_named_75 (j := 29) rfl rfl) (bq_nm bk_X11_named_75 (j := 30) rfl rfl) (bq_nm bk_X11_named_75 (j := 31) rfl rfl) rfl
set_option maxRecDepth 20000 in
theorem bk_X11_named_107 : ((cX11_named.data.toList.drop 107).take 17).length = 17 ∧ eN (((cX11_named.data.toList.drop 107).take 17).map UInt8.toNat) = 59046158930887933383725418399991896539156 := by decide +kernel
theorem dX11_named_107 : decode cX11_named 107 = .ok (.ldc2_w 153, 3) := dc_20 (bq_nm bk_X11_named_107 (j := 0) rfl rfl) (bq_nm bk_X11_named_107 (j := 1) rfl rfl) (bq_nm bk_X11_named_107 (j := 2) rfl rfl) rfl
theorem dX11_named_110 : decode cX11_named 110 = .ok (.goto 13, 3) := dc_167 (bq_nm bk_X11_named_107 (j := 3) rfl rfl) (bq_nm bk_X11_named_107 (j := 4) rfl rfl) (bq_nm bk_X11_named_107 (j := 5) rfl rfl) rfl
theorem dX11_named_113 : decode cX11_named 113 = .ok (.iload_n 2, 1) := dc_28 (bq_nm bk_X11_named_107 (j := 6) rfl rfl)
theorem dX11_named_114 : decode cX11_named 114 = .ok (.bipush 100, 2) := dc_16 (bq_nm bk_X11_named_107 (j := 7) rfl rfl) (bq_nm bk_X11_named_107 (j := 8) rfl rfl) rfl
theorem dX11_named_116 : decode cX11_named 116 = .ok (.idiv, 1) := dc_108 (bq_nm bk_X11_named_107 (j := 9) rfl rfl)
theorem dX11_named_117 : decode cX11_named 117 = .ok (.aload_n 0, 1) := dc_42 (bq_nm bk_X11_named_107 (j := 10) rfl rfl)
theorem dX11_named_118 : decode cX11_named 118 = .ok (.getfield 143, 3) := dc_180 (bq_nm bk_X11_named_107 (j := 11) rfl rfl) (bq_nm bk_X11_named_107 (j := 12) rfl rfl) (bq_nm bk_X11_named_107 (j := 13) rfl rfl) rfl
theorem dX11_named_121 : decode cX11_named 121 = .ok (.isub, 1) := dc_100 (bq_nm bk_X11_named_107 (j := 14) rfl rfl)
theorem dX11_named_122 : decode cX11_named 122 = .ok (.i2l, 1) := dc_133 (bq_nm bk_X11_named_107 (j := 15) rfl rfl)
theorem dX11_named_123 : decode cX11_named 123 = .ok (.lreturn, 1) := dc_173 (bq_nm bk_X11_named_107 (j := 16) rfl rfl)
set_option maxRecDepth 20000 in
theorem bk_X11_twoOf_0 : ((cX11_twoOf.data.toList.drop 0).take 1).length = 1 ∧ eN (((cX11_twoOf.data.toList.drop 0).take 1).map UInt8.toNat) = 26 := by decide +kernel
theorem dX11_twoOf_0 : decode cX11_twoOf 0 = .ok (.iload_n 0, 1) := dc_26 (bq_nm bk_X11_twoOf_0 (j := 0) rfl rfl)
set_option maxRecDepth 20000 in
theorem bk_X11_twoOf_48 : ((cX11_twoOf.data.toList.drop 48).take 32).length = 32 ∧ eN (((cX11_twoOf.data.toList.drop 48).take 32).map UInt8.toNat) = 3167270606073407705321548865821372941922335660123321167198448394846129955103 := by decide +kernel
theorem dX11_twoOf_48 : decode cX11_twoOf 48 = .ok (.lload_n 1, 1) := dc_31 (bq_nm bk_X11_twoOf_48 (j := 0) rfl rfl)
theorem dX11_twoOf_49 : decode cX11_twoOf 49 = .ok (.lload_n 3, 1) := dc_33 (bq_nm bk_X11_twoOf_48 (j := 1) rfl rfl)
theorem dX11_twoOf_50 : decode cX11_twoOf 50 = .ok (.lmul, 1) := dc_105 (bq_nm bk_X11_twoOf_48 (j := 2) rfl rfl)
theorem dX11_twoOf_51 : decode cX11_twoOf 51 = .ok (.lreturn, 1) := dc_173 (bq_nm bk_X11_twoOf_48 (j := 3) rfl rfl)
theorem dX11_twoOf_52 : decode cX11_twoOf 52 = .ok (.lload_n 3, 1) := dc_33 (bq_nm bk_X11_twoOf_48 (j := 4) rfl rfl)
theorem dX11_twoOf_53 : decode cX11_twoOf 53 = .ok (.lconst 0, 1) := dc_9 (bq_nm bk_X11_twoOf_48 (j := 5) rfl rfl)
theorem dX11_twoOf_54 : decode cX11_twoOf 54 = .ok (.lcmp, 1) := dc_148 (bq_nm bk_X11_twoOf_48 (j := 6) rfl rfl)
theorem dX11_twoOf_55 : decode cX11_twoOf 55 = .ok (.ifCond .ne 7, 3) := dc_154 (bq_nm bk_X11_twoOf_48 (j := 7) rfl rfl) (bq_nm bk_X11_twoOf_48 (j := 8) rfl rfl) (bq_nm bk_X11_twoOf_48 (j := 9) rfl rfl) rfl
theorem dX11_twoOf_58 : decode cX11_twoOf 58 = .ok (.lconst 0, 1) := dc_9 (bq_nm bk_X11_twoOf_48 (j := 10) rfl rfl)
theorem dX11_twoOf_59 : decode cX11_twoOf 59 = .ok (.goto 6, 3) := dc_167 (bq_nm bk_X11_twoOf_48 (j := 11) rfl rfl) (bq_nm bk_X11_twoOf_48 (j := 12) rfl rfl) (bq_nm bk_X11_twoOf_48 (j := 13) rfl rfl) rfl
theorem dX11_twoOf_62 : decode cX11_twoOf 62 = .ok (.lload_n 1, 1) := dc_31 (bq_nm bk_X11_twoOf_48 (j := 14) rfl rfl)
theorem dX11_twoOf_63 : decode cX11_twoOf 63 = .ok (.lload_n 3, 1) := dc_33 (bq_nm bk_X11_twoOf_48 (j := 15) rfl rfl)
theorem dX11_twoOf_64 : decode cX11_twoOf 64 = .ok (.ldiv, 1) := dc_109 (bq_nm bk_X11_twoOf_48 (j := 16) rfl rfl)
theorem dX11_twoOf_65 : decode cX11_twoOf 65 = .ok (.lreturn, 1) := dc_173 (bq_nm bk_X11_twoOf_48 (j := 17) rfl rfl)
theorem dX11_twoOf_66 : decode cX11_twoOf 66 = .ok (.lload_n 1, 1) := dc_31 (bq_nm bk_X11_twoOf_48 (j := 18) rfl rfl)
theorem dX11_twoOf_67 : decode cX11_twoOf 67 = .ok (.lload_n 3, 1) := dc_33 (bq_nm bk_X11_twoOf_48 (j := 19) rfl rfl)
theorem dX11_twoOf_68 : decode cX11_twoOf 68 = .ok (.ladd, 1) := dc_97 (bq_nm bk_X11_twoOf_48 (j := 20) rfl rfl)
theorem dX11_twoOf_69 : decode cX11_twoOf 69 = .ok (.lreturn, 1) := dc_173 (bq_nm bk_X11_twoOf_48 (j := 21) rfl rfl)
theorem dX11_twoOf_70 : decode cX11_twoOf 70 = .ok (.lload_n 1, 1) := dc_31 (bq_nm bk_X11_twoOf_48 (j := 22) rfl rfl)
theorem dX11_twoOf_71 : decode cX11_twoOf 71 = .ok (.lload_n 3, 1) := dc_33 (bq_nm bk_X11_twoOf_48 (j := 23) rfl rfl)
theorem dX11_twoOf_72 : decode cX11_twoOf 72 = .ok (.lsub, 1) := dc_101 (bq_nm bk_X11_twoOf_48 (j := 24) rfl rfl)
theorem dX11_twoOf_73 : decode cX11_twoOf 73 = .ok (.lreturn, 1) := dc_173 (bq_nm bk_X11_twoOf_48 (j := 25) rfl rfl)
theorem dX11_twoOf_74 : decode cX11_twoOf 74 = .ok (.lload_n 1, 1) := dc_31 (bq_nm bk_X11_twoOf_48 (j := 26) rfl rfl)
theorem dX11_twoOf_75 : decode cX11_twoOf 75 = .ok (.lload_n 3, 1) := dc_33 (bq_nm bk_X11_twoOf_48 (j := 27) rfl rfl)
theorem dX11_twoOf_76 : decode cX11_twoOf 76 = .ok (.lcmp, 1) := dc_148 (bq_nm bk_X11_twoOf_48 (j := 28) rfl rfl)
theorem dX11_twoOf_77 : decode cX11_twoOf 77 = .ok (.ifCond .ge 7, 3) := dc_156 (bq_nm bk_X11_twoOf_48 (j := 29) rfl rfl) (bq_nm bk_X11_twoOf_48 (j := 30) rfl rfl) (bq_nm bk_X11_twoOf_48 (j := 31) rfl rfl) rfl
set_option maxRecDepth 20000 in
theorem bk_X11_twoOf_80 : ((cX11_twoOf.data.toList.drop 80).take 32).length = 32 ∧ eN (((cX11_twoOf.data.toList.drop 80).take 32).map UInt8.toNat) = 4126782141436559769738318716345394802457204912923145809532960062938705602314 := by decide +kernel
theorem dX11_twoOf_80 : decode cX11_twoOf 80 = .ok (.lconst 1, 1) := dc_10 (bq_nm bk_X11_twoOf_80 (j := 0) rfl rfl)
theorem dX11_twoOf_81 : decode cX11_twoOf 81 = .ok (.goto 4, 3) := dc_167 (bq_nm bk_X11_twoOf_80 (j := 1) rfl rfl) (bq_nm bk_X11_twoOf_80 (j := 2) rfl rfl) (bq_nm bk_X11_twoOf_80 (j := 3) rfl rfl) rfl
theorem dX11_twoOf_84 : decode cX11_twoOf 84 = .ok (.lconst 0, 1) := dc_9 (bq_nm bk_X11_twoOf_80 (j := 4) rfl rfl)
theorem dX11_twoOf_85 : decode cX11_twoOf 85 = .ok (.lreturn, 1) := dc_173 (bq_nm bk_X11_twoOf_80 (j := 5) rfl rfl)
theorem dX11_twoOf_86 : decode cX11_twoOf 86 = .ok (.lload_n 1, 1) := dc_31 (bq_nm bk_X11_twoOf_80 (j := 6) rfl rfl)
theorem dX11_twoOf_87 : decode cX11_twoOf 87 = .ok (.lload_n 3, 1) := dc_33 (bq_nm bk_X11_twoOf_80 (j := 7) rfl rfl)
theorem dX11_twoOf_88 : decode cX11_twoOf 88 = .ok (.lcmp, 1) := dc_148 (bq_nm bk_X11_twoOf_80 (j := 8) rfl rfl)
theorem dX11_twoOf_89 : decode cX11_twoOf 89 = .ok (.ifCond .le 7, 3) := dc_158 (bq_nm bk_X11_twoOf_80 (j := 9) rfl rfl) (bq_nm bk_X11_twoOf_80 (j := 10) rfl rfl) (bq_nm bk_X11_twoOf_80 (j := 11) rfl rfl) rfl
theorem dX11_twoOf_92 : decode cX11_twoOf 92 = .ok (.lconst 1, 1) := dc_10 (bq_nm bk_X11_twoOf_80 (j := 12) rfl rfl)
theorem dX11_twoOf_93 : decode cX11_twoOf 93 = .ok (.goto 4, 3) := dc_167 (bq_nm bk_X11_twoOf_80 (j := 13) rfl rfl) (bq_nm bk_X11_twoOf_80 (j := 14) rfl rfl) (bq_nm bk_X11_twoOf_80 (j := 15) rfl rfl) rfl
theorem dX11_twoOf_96 : decode cX11_twoOf 96 = .ok (.lconst 0, 1) := dc_9 (bq_nm bk_X11_twoOf_80 (j := 16) rfl rfl)
theorem dX11_twoOf_97 : decode cX11_twoOf 97 = .ok (.lreturn, 1) := dc_173 (bq_nm bk_X11_twoOf_80 (j := 17) rfl rfl)
theorem dX11_twoOf_98 : decode cX11_twoOf 98 = .ok (.lload_n 1, 1) := dc_31 (bq_nm bk_X11_twoOf_80 (j := 18) rfl rfl)
theorem dX11_twoOf_99 : decode cX11_twoOf 99 = .ok (.lload_n 3, 1) := dc_33 (bq_nm bk_X11_twoOf_80 (j := 19) rfl rfl)
theorem dX11_twoOf_100 : decode cX11_twoOf 100 = .ok (.lcmp, 1) := dc_148 (bq_nm bk_X11_twoOf_80 (j := 20) rfl rfl)
theorem dX11_twoOf_101 : decode cX11_twoOf 101 = .ok (.ifCond .ne 7, 3) := dc_154 (bq_nm bk_X11_twoOf_80 (j := 21) rfl rfl) (bq_nm bk_X11_twoOf_80 (j := 22) rfl rfl) (bq_nm bk_X11_twoOf_80 (j := 23) rfl rfl) rfl
theorem dX11_twoOf_104 : decode cX11_twoOf 104 = .ok (.lconst 1, 1) := dc_10 (bq_nm bk_X11_twoOf_80 (j := 24) rfl rfl)
theorem dX11_twoOf_105 : decode cX11_twoOf 105 = .ok (.goto 4, 3) := dc_167 (bq_nm bk_X11_twoOf_80 (j := 25) rfl rfl) (bq_nm bk_X11_twoOf_80 (j := 26) rfl rfl) (bq_nm bk_X11_twoOf_80 (j := 27) rfl rfl) rfl
theorem dX11_twoOf_108 : decode cX11_twoOf 108 = .ok (.lconst 0, 1) := dc_9 (bq_nm bk_X11_twoOf_80 (j := 28) rfl rfl)
theorem dX11_twoOf_109 : decode cX11_twoOf 109 = .ok (.lreturn, 1) := dc_173 (bq_nm bk_X11_twoOf_80 (j := 29) rfl rfl)
theorem dX11_twoOf_110 : decode cX11_twoOf 110 = .ok (.lload_n 1, 1) := dc_31 (bq_nm bk_X11_twoOf_80 (j := 30) rfl rfl)
theorem dX11_twoOf_111 : decode cX11_twoOf 111 = .ok (.lconst 0, 1) := dc_9 (bq_nm bk_X11_twoOf_80 (j := 31) rfl rfl)
set_option maxRecDepth 20000 in
theorem bk_X11_twoOf_112 : ((cX11_twoOf.data.toList.drop 112).take 32).length = 32 ∧ eN (((cX11_twoOf.data.toList.drop 112).take 32).map UInt8.toNat) = 1810404256309879081587768459406219040896738879230523678034488439224840264084 := by decide +kernel
theorem dX11_twoOf_112 : decode cX11_twoOf 112 = .ok (.lcmp, 1) := dc_148 (bq_nm bk_X11_twoOf_112 (j := 0) rfl rfl)
theorem dX11_twoOf_113 : decode cX11_twoOf 113 = .ok (.ifCond .eq 13, 3) := dc_153 (bq_nm bk_X11_twoOf_112 (j := 1) rfl rfl) (bq_nm bk_X11_twoOf_112 (j := 2) rfl rfl) (bq_nm bk_X11_twoOf_112 (j := 3) rfl rfl) rfl
theorem dX11_twoOf_116 : decode cX11_twoOf 116 = .ok (.lload_n 3, 1) := dc_33 (bq_nm bk_X11_twoOf_112 (j := 4) rfl rfl)
theorem dX11_twoOf_117 : decode cX11_twoOf 117 = .ok (.lconst 0, 1) := dc_9 (bq_nm bk_X11_twoOf_112 (j := 5) rfl rfl)
theorem dX11_twoOf_118 : decode cX11_twoOf 118 = .ok (.lcmp, 1) := dc_148 (bq_nm bk_X11_twoOf_112 (j := 6) rfl rfl)
theorem dX11_twoOf_119 : decode cX11_twoOf 119 = .ok (.ifCond .eq 7, 3) := dc_153 (bq_nm bk_X11_twoOf_112 (j := 7) rfl rfl) (bq_nm bk_X11_twoOf_112 (j := 8) rfl rfl) (bq_nm bk_X11_twoOf_112 (j := 9) rfl rfl) rfl
theorem dX11_twoOf_122 : decode cX11_twoOf 122 = .ok (.lconst 1, 1) := dc_10 (bq_nm bk_X11_twoOf_112 (j := 10) rfl rfl)
theorem dX11_twoOf_123 : decode cX11_twoOf 123 = .ok (.goto 4, 3) := dc_167 (bq_nm bk_X11_twoOf_112 (j := 11) rfl rfl) (bq_nm bk_X11_twoOf_112 (j := 12) rfl rfl) (bq_nm bk_X11_twoOf_112 (j := 13) rfl rfl) rfl
theorem dX11_twoOf_126 : decode cX11_twoOf 126 = .ok (.lconst 0, 1) := dc_9 (bq_nm bk_X11_twoOf_112 (j := 14) rfl rfl)
theorem dX11_twoOf_127 : decode cX11_twoOf 127 = .ok (.lreturn, 1) := dc_173 (bq_nm bk_X11_twoOf_112 (j := 15) rfl rfl)
theorem dX11_twoOf_128 : decode cX11_twoOf 128 = .ok (.lload_n 1, 1) := dc_31 (bq_nm bk_X11_twoOf_112 (j := 16) rfl rfl)
theorem dX11_twoOf_129 : decode cX11_twoOf 129 = .ok (.lconst 0, 1) := dc_9 (bq_nm bk_X11_twoOf_112 (j := 17) rfl rfl)
theorem dX11_twoOf_130 : decode cX11_twoOf 130 = .ok (.lcmp, 1) := dc_148 (bq_nm bk_X11_twoOf_112 (j := 18) rfl rfl)
theorem dX11_twoOf_131 : decode cX11_twoOf 131 = .ok (.ifCond .ne 9, 3) := dc_154 (bq_nm bk_X11_twoOf_112 (j := 19) rfl rfl) (bq_nm bk_X11_twoOf_112 (j := 20) rfl rfl) (bq_nm bk_X11_twoOf_112 (j := 21) rfl rfl) rfl
theorem dX11_twoOf_134 : decode cX11_twoOf 134 = .ok (.lload_n 3, 1) := dc_33 (bq_nm bk_X11_twoOf_112 (j := 22) rfl rfl)
theorem dX11_twoOf_135 : decode cX11_twoOf 135 = .ok (.lconst 0, 1) := dc_9 (bq_nm bk_X11_twoOf_112 (j := 23) rfl rfl)
theorem dX11_twoOf_136 : decode cX11_twoOf 136 = .ok (.lcmp, 1) := dc_148 (bq_nm bk_X11_twoOf_112 (j := 24) rfl rfl)
theorem dX11_twoOf_137 : decode cX11_twoOf 137 = .ok (.ifCond .eq 7, 3) := dc_153 (bq_nm bk_X11_twoOf_112 (j := 25) rfl rfl) (bq_nm bk_X11_twoOf_112 (j := 26) rfl rfl) (bq_nm bk_X11_twoOf_112 (j := 27) rfl rfl) rfl
theorem dX11_twoOf_140 : decode cX11_twoOf 140 = .ok (.lconst 1, 1) := dc_10 (bq_nm bk_X11_twoOf_112 (j := 28) rfl rfl)
theorem dX11_twoOf_141 : decode cX11_twoOf 141 = .ok (.goto 4, 3) := dc_167 (bq_nm bk_X11_twoOf_112 (j := 29) rfl rfl) (bq_nm bk_X11_twoOf_112 (j := 30) rfl rfl) (bq_nm bk_X11_twoOf_112 (j := 31) rfl rfl) rfl
set_option maxRecDepth 20000 in
theorem bk_X11_twoOf_144 : ((cX11_twoOf.data.toList.drop 144).take 2).length = 2 ∧ eN (((cX11_twoOf.data.toList.drop 144).take 2).map UInt8.toNat) = 44297 := by decide +kernel
theorem dX11_twoOf_144 : decode cX11_twoOf 144 = .ok (.lconst 0, 1) := dc_9 (bq_nm bk_X11_twoOf_144 (j := 0) rfl rfl)
theorem dX11_twoOf_145 : decode cX11_twoOf 145 = .ok (.lreturn, 1) := dc_173 (bq_nm bk_X11_twoOf_144 (j := 1) rfl rfl)
set_option maxRecDepth 20000 in
theorem bk_X11_tellsOf_0 : ((cX11_tellsOf.data.toList.drop 0).take 31).length = 31 ∧ eN (((cX11_tellsOf.data.toList.drop 0).take 31).map UInt8.toNat) = 8979312502701471813713002340414767072242295837637298712814489841784593194 := by decide +kernel
theorem dX11_tellsOf_0 : decode cX11_tellsOf 0 = .ok (.aload_n 0, 1) := dc_42 (bq_nm bk_X11_tellsOf_0 (j := 0) rfl rfl)
theorem dX11_tellsOf_1 : decode cX11_tellsOf 1 = .ok (.iload_n 1, 1) := dc_27 (bq_nm bk_X11_tellsOf_0 (j := 1) rfl rfl)
theorem dX11_tellsOf_2 : decode cX11_tellsOf 2 = .ok (.iload_n 2, 1) := dc_28 (bq_nm bk_X11_tellsOf_0 (j := 2) rfl rfl)
theorem dX11_tellsOf_3 : decode cX11_tellsOf 3 = .ok (.invokevirtual 155, 3) := dc_182 (bq_nm bk_X11_tellsOf_0 (j := 3) rfl rfl) (bq_nm bk_X11_tellsOf_0 (j := 4) rfl rfl) (bq_nm bk_X11_tellsOf_0 (j := 5) rfl rfl) rfl
theorem dX11_tellsOf_6 : decode cX11_tellsOf 6 = .ok (.iconst 0, 1) := dc_3 (bq_nm bk_X11_tellsOf_0 (j := 6) rfl rfl)
theorem dX11_tellsOf_7 : decode cX11_tellsOf 7 = .ok (.istore_n 3, 1) := dc_62 (bq_nm bk_X11_tellsOf_0 (j := 7) rfl rfl)
theorem dX11_tellsOf_8 : decode cX11_tellsOf 8 = .ok (.iconst 0, 1) := dc_3 (bq_nm bk_X11_tellsOf_0 (j := 8) rfl rfl)
theorem dX11_tellsOf_9 : decode cX11_tellsOf 9 = .ok (.istore 4, 2) := dc_54 (bq_nm bk_X11_tellsOf_0 (j := 9) rfl rfl) (bq_nm bk_X11_tellsOf_0 (j := 10) rfl rfl)
theorem dX11_tellsOf_11 : decode cX11_tellsOf 11 = .ok (.iload 4, 2) := dc_21 (bq_nm bk_X11_tellsOf_0 (j := 11) rfl rfl) (bq_nm bk_X11_tellsOf_0 (j := 12) rfl rfl)
theorem dX11_tellsOf_13 : decode cX11_tellsOf 13 = .ok (.aload_n 0, 1) := dc_42 (bq_nm bk_X11_tellsOf_0 (j := 13) rfl rfl)
theorem dX11_tellsOf_14 : decode cX11_tellsOf 14 = .ok (.getfield 106, 3) := dc_180 (bq_nm bk_X11_tellsOf_0 (j := 14) rfl rfl) (bq_nm bk_X11_tellsOf_0 (j := 15) rfl rfl) (bq_nm bk_X11_tellsOf_0 (j := 16) rfl rfl) rfl
theorem dX11_tellsOf_17 : decode cX11_tellsOf 17 = .ok (.if_icmp .ge 161, 3) := dc_162 (bq_nm bk_X11_tellsOf_0 (j := 17) rfl rfl) (bq_nm bk_X11_tellsOf_0 (j := 18) rfl rfl) (bq_nm bk_X11_tellsOf_0 (j := 19) rfl rfl) rfl
theorem dX11_tellsOf_20 : decode cX11_tellsOf 20 = .ok (.aload_n 0, 1) := dc_42 (bq_nm bk_X11_tellsOf_0 (j := 20) rfl rfl)
theorem dX11_tellsOf_21 : decode cX11_tellsOf 21 = .ok (.getfield 20, 3) := dc_180 (bq_nm bk_X11_tellsOf_0 (j := 21) rfl rfl) (bq_nm bk_X11_tellsOf_0 (j := 22) rfl rfl) (bq_nm bk_X11_tellsOf_0 (j := 23) rfl rfl) rfl
theorem dX11_tellsOf_24 : decode cX11_tellsOf 24 = .ok (.iload 4, 2) := dc_21 (bq_nm bk_X11_tellsOf_0 (j := 24) rfl rfl) (bq_nm bk_X11_tellsOf_0 (j := 25) rfl rfl)
theorem dX11_tellsOf_26 : decode cX11_tellsOf 26 = .ok (.iaload, 1) := dc_46 (bq_nm bk_X11_tellsOf_0 (j := 26) rfl rfl)
theorem dX11_tellsOf_27 : decode cX11_tellsOf 27 = .ok (.istore 5, 2) := dc_54 (bq_nm bk_X11_tellsOf_0 (j := 27) rfl rfl) (bq_nm bk_X11_tellsOf_0 (j := 28) rfl rfl)
theorem dX11_tellsOf_29 : decode cX11_tellsOf 29 = .ok (.iload 5, 2) := dc_21 (bq_nm bk_X11_tellsOf_0 (j := 29) rfl rfl) (bq_nm bk_X11_tellsOf_0 (j := 30) rfl rfl)
set_option maxRecDepth 20000 in
theorem bk_X11_tellsOf_31 : ((cX11_tellsOf.data.toList.drop 31).take 32).length = 32 ∧ eN (((cX11_tellsOf.data.toList.drop 31).take 32).map UInt8.toNat) = 12286764934052372956898394638194731091986402689377413641850450599347963363481 := by decide +kernel
theorem dX11_tellsOf_31 : decode cX11_tellsOf 31 = .ok (.ifCond .eq 9, 3) := dc_153 (bq_nm bk_X11_tellsOf_31 (j := 0) rfl rfl) (bq_nm bk_X11_tellsOf_31 (j := 1) rfl rfl) (bq_nm bk_X11_tellsOf_31 (j := 2) rfl rfl) rfl
theorem dX11_tellsOf_34 : decode cX11_tellsOf 34 = .ok (.iload 5, 2) := dc_21 (bq_nm bk_X11_tellsOf_31 (j := 3) rfl rfl) (bq_nm bk_X11_tellsOf_31 (j := 4) rfl rfl)
theorem dX11_tellsOf_36 : decode cX11_tellsOf 36 = .ok (.iconst 1, 1) := dc_4 (bq_nm bk_X11_tellsOf_31 (j := 5) rfl rfl)
theorem dX11_tellsOf_37 : decode cX11_tellsOf 37 = .ok (.if_icmp .ne 44, 3) := dc_160 (bq_nm bk_X11_tellsOf_31 (j := 6) rfl rfl) (bq_nm bk_X11_tellsOf_31 (j := 7) rfl rfl) (bq_nm bk_X11_tellsOf_31 (j := 8) rfl rfl) rfl
theorem dX11_tellsOf_40 : decode cX11_tellsOf 40 = .ok (.aload_n 0, 1) := dc_42 (bq_nm bk_X11_tellsOf_31 (j := 9) rfl rfl)
theorem dX11_tellsOf_41 : decode cX11_tellsOf 41 = .ok (.getfield 29, 3) := dc_180 (bq_nm bk_X11_tellsOf_31 (j := 10) rfl rfl) (bq_nm bk_X11_tellsOf_31 (j := 11) rfl rfl) (bq_nm bk_X11_tellsOf_31 (j := 12) rfl rfl) rfl
theorem dX11_tellsOf_44 : decode cX11_tellsOf 44 = .ok (.iload_n 3, 1) := dc_29 (bq_nm bk_X11_tellsOf_31 (j := 13) rfl rfl)
theorem dX11_tellsOf_45 : decode cX11_tellsOf 45 = .ok (.iload 5, 2) := dc_21 (bq_nm bk_X11_tellsOf_31 (j := 14) rfl rfl) (bq_nm bk_X11_tellsOf_31 (j := 15) rfl rfl)
theorem dX11_tellsOf_47 : decode cX11_tellsOf 47 = .ok (.ifCond .ne 14, 3) := dc_154 (bq_nm bk_X11_tellsOf_31 (j := 16) rfl rfl) (bq_nm bk_X11_tellsOf_31 (j := 17) rfl rfl) (bq_nm bk_X11_tellsOf_31 (j := 18) rfl rfl) rfl
theorem dX11_tellsOf_50 : decode cX11_tellsOf 50 = .ok (.aload_n 0, 1) := dc_42 (bq_nm bk_X11_tellsOf_31 (j := 19) rfl rfl)
theorem dX11_tellsOf_51 : decode cX11_tellsOf 51 = .ok (.getfield 23, 3) := dc_180 (bq_nm bk_X11_tellsOf_31 (j := 20) rfl rfl) (bq_nm bk_X11_tellsOf_31 (j := 21) rfl rfl) (bq_nm bk_X11_tellsOf_31 (j := 22) rfl rfl) rfl
theorem dX11_tellsOf_54 : decode cX11_tellsOf 54 = .ok (.iload 4, 2) := dc_21 (bq_nm bk_X11_tellsOf_31 (j := 23) rfl rfl) (bq_nm bk_X11_tellsOf_31 (j := 24) rfl rfl)
theorem dX11_tellsOf_56 : decode cX11_tellsOf 56 = .ok (.iaload, 1) := dc_46 (bq_nm bk_X11_tellsOf_31 (j := 25) rfl rfl)
theorem dX11_tellsOf_57 : decode cX11_tellsOf 57 = .ok (.i2l, 1) := dc_133 (bq_nm bk_X11_tellsOf_31 (j := 26) rfl rfl)
theorem dX11_tellsOf_58 : decode cX11_tellsOf 58 = .ok (.goto 16, 3) := dc_167 (bq_nm bk_X11_tellsOf_31 (j := 27) rfl rfl) (bq_nm bk_X11_tellsOf_31 (j := 28) rfl rfl) (bq_nm bk_X11_tellsOf_31 (j := 29) rfl rfl) rfl
theorem dX11_tellsOf_61 : decode cX11_tellsOf 61 = .ok (.aload_n 0, 1) := dc_42 (bq_nm bk_X11_tellsOf_31 (j := 30) rfl rfl)
theorem dX11_tellsOf_62 : decode cX11_tellsOf 62 = .ok (.iload_n 1, 1) := dc_27 (bq_nm bk_X11_tellsOf_31 (j := 31) rfl rfl)
set_option maxRecDepth 20000 in
theorem bk_X11_tellsOf_63 : ((cX11_tellsOf.data.toList.drop 63).take 32).length = 32 ∧ eN (((cX11_tellsOf.data.toList.drop 63).take 32).map UInt8.toNat) = 19173852738853213225700064412102594258462145413283424258019672953879184812572 := by decide +kernel
theorem dX11_tellsOf_63 : decode cX11_tellsOf 63 = .ok (.iload_n 2, 1) := dc_28 (bq_nm bk_X11_tellsOf_63 (j := 0) rfl rfl)
theorem dX11_tellsOf_64 : decode cX11_tellsOf 64 = .ok (.aload_n 0, 1) := dc_42 (bq_nm bk_X11_tellsOf_63 (j := 1) rfl rfl)
theorem dX11_tellsOf_65 : decode cX11_tellsOf 65 = .ok (.getfield 23, 3) := dc_180 (bq_nm bk_X11_tellsOf_63 (j := 2) rfl rfl) (bq_nm bk_X11_tellsOf_63 (j := 3) rfl rfl) (bq_nm bk_X11_tellsOf_63 (j := 4) rfl rfl) rfl
theorem dX11_tellsOf_68 : decode cX11_tellsOf 68 = .ok (.iload 4, 2) := dc_21 (bq_nm bk_X11_tellsOf_63 (j := 5) rfl rfl) (bq_nm bk_X11_tellsOf_63 (j := 6) rfl rfl)
theorem dX11_tellsOf_70 : decode cX11_tellsOf 70 = .ok (.iaload, 1) := dc_46 (bq_nm bk_X11_tellsOf_63 (j := 7) rfl rfl)
theorem dX11_tellsOf_71 : decode cX11_tellsOf 71 = .ok (.invokevirtual 158, 3) := dc_182 (bq_nm bk_X11_tellsOf_63 (j := 8) rfl rfl) (bq_nm bk_X11_tellsOf_63 (j := 9) rfl rfl) (bq_nm bk_X11_tellsOf_63 (j := 10) rfl rfl) rfl
theorem dX11_tellsOf_74 : decode cX11_tellsOf 74 = .ok (.lastore, 1) := dc_80 (bq_nm bk_X11_tellsOf_63 (j := 11) rfl rfl)
theorem dX11_tellsOf_75 : decode cX11_tellsOf 75 = .ok (.iinc 3 1, 3) := dc_132 (bq_nm bk_X11_tellsOf_63 (j := 12) rfl rfl) (bq_nm bk_X11_tellsOf_63 (j := 13) rfl rfl) (bq_nm bk_X11_tellsOf_63 (j := 14) rfl rfl) rfl
theorem dX11_tellsOf_78 : decode cX11_tellsOf 78 = .ok (.goto 94, 3) := dc_167 (bq_nm bk_X11_tellsOf_63 (j := 15) rfl rfl) (bq_nm bk_X11_tellsOf_63 (j := 16) rfl rfl) (bq_nm bk_X11_tellsOf_63 (j := 17) rfl rfl) rfl
theorem dX11_tellsOf_81 : decode cX11_tellsOf 81 = .ok (.iload 5, 2) := dc_21 (bq_nm bk_X11_tellsOf_63 (j := 18) rfl rfl) (bq_nm bk_X11_tellsOf_63 (j := 19) rfl rfl)
theorem dX11_tellsOf_83 : decode cX11_tellsOf 83 = .ok (.iconst 3, 1) := dc_6 (bq_nm bk_X11_tellsOf_63 (j := 20) rfl rfl)
theorem dX11_tellsOf_84 : decode cX11_tellsOf 84 = .ok (.if_icmp .ne 23, 3) := dc_160 (bq_nm bk_X11_tellsOf_63 (j := 21) rfl rfl) (bq_nm bk_X11_tellsOf_63 (j := 22) rfl rfl) (bq_nm bk_X11_tellsOf_63 (j := 23) rfl rfl) rfl
theorem dX11_tellsOf_87 : decode cX11_tellsOf 87 = .ok (.aload_n 0, 1) := dc_42 (bq_nm bk_X11_tellsOf_63 (j := 24) rfl rfl)
theorem dX11_tellsOf_88 : decode cX11_tellsOf 88 = .ok (.getfield 29, 3) := dc_180 (bq_nm bk_X11_tellsOf_63 (j := 25) rfl rfl) (bq_nm bk_X11_tellsOf_63 (j := 26) rfl rfl) (bq_nm bk_X11_tellsOf_63 (j := 27) rfl rfl) rfl
theorem dX11_tellsOf_91 : decode cX11_tellsOf 91 = .ok (.iload_n 3, 1) := dc_29 (bq_nm bk_X11_tellsOf_63 (j := 28) rfl rfl)
theorem dX11_tellsOf_92 : decode cX11_tellsOf 92 = .ok (.iconst 1, 1) := dc_4 (bq_nm bk_X11_tellsOf_63 (j := 29) rfl rfl)
theorem dX11_tellsOf_93 : decode cX11_tellsOf 93 = .ok (.isub, 1) := dc_100 (bq_nm bk_X11_tellsOf_63 (j := 30) rfl rfl)
theorem dX11_tellsOf_94 : decode cX11_tellsOf 94 = .ok (.aload_n 0, 1) := dc_42 (bq_nm bk_X11_tellsOf_63 (j := 31) rfl rfl)
set_option maxRecDepth 20000 in
theorem bk_X11_tellsOf_95 : ((cX11_tellsOf.data.toList.drop 95).take 32).length = 32 ∧ eN (((cX11_tellsOf.data.toList.drop 95).take 32).map UInt8.toNat) = 45238553179142378472657493764441701608722664954209994969962911964125724475572 := by decide +kernel
theorem dX11_tellsOf_95 : decode cX11_tellsOf 95 = .ok (.getfield 29, 3) := dc_180 (bq_nm bk_X11_tellsOf_95 (j := 0) rfl rfl) (bq_nm bk_X11_tellsOf_95 (j := 1) rfl rfl) (bq_nm bk_X11_tellsOf_95 (j := 2) rfl rfl) rfl
theorem dX11_tellsOf_98 : decode cX11_tellsOf 98 = .ok (.iload_n 3, 1) := dc_29 (bq_nm bk_X11_tellsOf_95 (j := 3) rfl rfl)
theorem dX11_tellsOf_99 : decode cX11_tellsOf 99 = .ok (.iconst 1, 1) := dc_4 (bq_nm bk_X11_tellsOf_95 (j := 4) rfl rfl)
theorem dX11_tellsOf_100 : decode cX11_tellsOf 100 = .ok (.isub, 1) := dc_100 (bq_nm bk_X11_tellsOf_95 (j := 5) rfl rfl)
theorem dX11_tellsOf_101 : decode cX11_tellsOf 101 = .ok (.laload, 1) := dc_47 (bq_nm bk_X11_tellsOf_95 (j := 6) rfl rfl)
theorem dX11_tellsOf_102 : decode cX11_tellsOf 102 = .ok (.lneg, 1) := dc_117 (bq_nm bk_X11_tellsOf_95 (j := 7) rfl rfl)
theorem dX11_tellsOf_103 : decode cX11_tellsOf 103 = .ok (.lastore, 1) := dc_80 (bq_nm bk_X11_tellsOf_95 (j := 8) rfl rfl)
theorem dX11_tellsOf_104 : decode cX11_tellsOf 104 = .ok (.goto 68, 3) := dc_167 (bq_nm bk_X11_tellsOf_95 (j := 9) rfl rfl) (bq_nm bk_X11_tellsOf_95 (j := 10) rfl rfl) (bq_nm bk_X11_tellsOf_95 (j := 11) rfl rfl) rfl
theorem dX11_tellsOf_107 : decode cX11_tellsOf 107 = .ok (.iload 5, 2) := dc_21 (bq_nm bk_X11_tellsOf_95 (j := 12) rfl rfl) (bq_nm bk_X11_tellsOf_95 (j := 13) rfl rfl)
theorem dX11_tellsOf_109 : decode cX11_tellsOf 109 = .ok (.iconst 2, 1) := dc_5 (bq_nm bk_X11_tellsOf_95 (j := 14) rfl rfl)
theorem dX11_tellsOf_110 : decode cX11_tellsOf 110 = .ok (.if_icmp .ne 32, 3) := dc_160 (bq_nm bk_X11_tellsOf_95 (j := 15) rfl rfl) (bq_nm bk_X11_tellsOf_95 (j := 16) rfl rfl) (bq_nm bk_X11_tellsOf_95 (j := 17) rfl rfl) rfl
theorem dX11_tellsOf_113 : decode cX11_tellsOf 113 = .ok (.aload_n 0, 1) := dc_42 (bq_nm bk_X11_tellsOf_95 (j := 18) rfl rfl)
theorem dX11_tellsOf_114 : decode cX11_tellsOf 114 = .ok (.getfield 29, 3) := dc_180 (bq_nm bk_X11_tellsOf_95 (j := 19) rfl rfl) (bq_nm bk_X11_tellsOf_95 (j := 20) rfl rfl) (bq_nm bk_X11_tellsOf_95 (j := 21) rfl rfl) rfl
theorem dX11_tellsOf_117 : decode cX11_tellsOf 117 = .ok (.iload_n 3, 1) := dc_29 (bq_nm bk_X11_tellsOf_95 (j := 22) rfl rfl)
theorem dX11_tellsOf_118 : decode cX11_tellsOf 118 = .ok (.iconst 1, 1) := dc_4 (bq_nm bk_X11_tellsOf_95 (j := 23) rfl rfl)
theorem dX11_tellsOf_119 : decode cX11_tellsOf 119 = .ok (.isub, 1) := dc_100 (bq_nm bk_X11_tellsOf_95 (j := 24) rfl rfl)
theorem dX11_tellsOf_120 : decode cX11_tellsOf 120 = .ok (.aload_n 0, 1) := dc_42 (bq_nm bk_X11_tellsOf_95 (j := 25) rfl rfl)
theorem dX11_tellsOf_121 : decode cX11_tellsOf 121 = .ok (.getfield 29, 3) := dc_180 (bq_nm bk_X11_tellsOf_95 (j := 26) rfl rfl) (bq_nm bk_X11_tellsOf_95 (j := 27) rfl rfl) (bq_nm bk_X11_tellsOf_95 (j := 28) rfl rfl) rfl
theorem dX11_tellsOf_124 : decode cX11_tellsOf 124 = .ok (.iload_n 3, 1) := dc_29 (bq_nm bk_X11_tellsOf_95 (j := 29) rfl rfl)
theorem dX11_tellsOf_125 : decode cX11_tellsOf 125 = .ok (.iconst 1, 1) := dc_4 (bq_nm bk_X11_tellsOf_95 (j := 30) rfl rfl)
theorem dX11_tellsOf_126 : decode cX11_tellsOf 126 = .ok (.isub, 1) := dc_100 (bq_nm bk_X11_tellsOf_95 (j := 31) rfl rfl)
set_option maxRecDepth 20000 in
theorem bk_X11_tellsOf_127 : ((cX11_tellsOf.data.toList.drop 127).take 32).length = 32 ∧ eN (((cX11_tellsOf.data.toList.drop 127).take 32).map UInt8.toNat) = 13168316031008905999785503853428770040960987081342063026261301966821985093935 := by decide +kernel
theorem dX11_tellsOf_127 : decode cX11_tellsOf 127 = .ok (.laload, 1) := dc_47 (bq_nm bk_X11_tellsOf_127 (j := 0) rfl rfl)
theorem dX11_tellsOf_128 : decode cX11_tellsOf 128 = .ok (.lconst 0, 1) := dc_9 (bq_nm bk_X11_tellsOf_127 (j := 1) rfl rfl)
theorem dX11_tellsOf_129 : decode cX11_tellsOf 129 = .ok (.lcmp, 1) := dc_148 (bq_nm bk_X11_tellsOf_127 (j := 2) rfl rfl)
theorem dX11_tellsOf_130 : decode cX11_tellsOf 130 = .ok (.ifCond .ne 7, 3) := dc_154 (bq_nm bk_X11_tellsOf_127 (j := 3) rfl rfl) (bq_nm bk_X11_tellsOf_127 (j := 4) rfl rfl) (bq_nm bk_X11_tellsOf_127 (j := 5) rfl rfl) rfl
theorem dX11_tellsOf_133 : decode cX11_tellsOf 133 = .ok (.lconst 1, 1) := dc_10 (bq_nm bk_X11_tellsOf_127 (j := 6) rfl rfl)
theorem dX11_tellsOf_134 : decode cX11_tellsOf 134 = .ok (.goto 4, 3) := dc_167 (bq_nm bk_X11_tellsOf_127 (j := 7) rfl rfl) (bq_nm bk_X11_tellsOf_127 (j := 8) rfl rfl) (bq_nm bk_X11_tellsOf_127 (j := 9) rfl rfl) rfl
theorem dX11_tellsOf_137 : decode cX11_tellsOf 137 = .ok (.lconst 0, 1) := dc_9 (bq_nm bk_X11_tellsOf_127 (j := 10) rfl rfl)
theorem dX11_tellsOf_138 : decode cX11_tellsOf 138 = .ok (.lastore, 1) := dc_80 (bq_nm bk_X11_tellsOf_127 (j := 11) rfl rfl)
theorem dX11_tellsOf_139 : decode cX11_tellsOf 139 = .ok (.goto 33, 3) := dc_167 (bq_nm bk_X11_tellsOf_127 (j := 12) rfl rfl) (bq_nm bk_X11_tellsOf_127 (j := 13) rfl rfl) (bq_nm bk_X11_tellsOf_127 (j := 14) rfl rfl) rfl
theorem dX11_tellsOf_142 : decode cX11_tellsOf 142 = .ok (.iinc 3 (-1), 3) := dc_132 (bq_nm bk_X11_tellsOf_127 (j := 15) rfl rfl) (bq_nm bk_X11_tellsOf_127 (j := 16) rfl rfl) (bq_nm bk_X11_tellsOf_127 (j := 17) rfl rfl) rfl
theorem dX11_tellsOf_145 : decode cX11_tellsOf 145 = .ok (.aload_n 0, 1) := dc_42 (bq_nm bk_X11_tellsOf_127 (j := 18) rfl rfl)
theorem dX11_tellsOf_146 : decode cX11_tellsOf 146 = .ok (.getfield 29, 3) := dc_180 (bq_nm bk_X11_tellsOf_127 (j := 19) rfl rfl) (bq_nm bk_X11_tellsOf_127 (j := 20) rfl rfl) (bq_nm bk_X11_tellsOf_127 (j := 21) rfl rfl) rfl
theorem dX11_tellsOf_149 : decode cX11_tellsOf 149 = .ok (.iload_n 3, 1) := dc_29 (bq_nm bk_X11_tellsOf_127 (j := 22) rfl rfl)
theorem dX11_tellsOf_150 : decode cX11_tellsOf 150 = .ok (.iconst 1, 1) := dc_4 (bq_nm bk_X11_tellsOf_127 (j := 23) rfl rfl)
theorem dX11_tellsOf_151 : decode cX11_tellsOf 151 = .ok (.isub, 1) := dc_100 (bq_nm bk_X11_tellsOf_127 (j := 24) rfl rfl)
theorem dX11_tellsOf_152 : decode cX11_tellsOf 152 = .ok (.iload 5, 2) := dc_21 (bq_nm bk_X11_tellsOf_127 (j := 25) rfl rfl) (bq_nm bk_X11_tellsOf_127 (j := 26) rfl rfl)
theorem dX11_tellsOf_154 : decode cX11_tellsOf 154 = .ok (.aload_n 0, 1) := dc_42 (bq_nm bk_X11_tellsOf_127 (j := 27) rfl rfl)
theorem dX11_tellsOf_155 : decode cX11_tellsOf 155 = .ok (.getfield 29, 3) := dc_180 (bq_nm bk_X11_tellsOf_127 (j := 28) rfl rfl) (bq_nm bk_X11_tellsOf_127 (j := 29) rfl rfl) (bq_nm bk_X11_tellsOf_127 (j := 30) rfl rfl) rfl
theorem dX11_tellsOf_158 : decode cX11_tellsOf 158 = .ok (.iload_n 3, 1) := dc_29 (bq_nm bk_X11_tellsOf_127 (j := 31) rfl rfl)
set_option maxRecDepth 20000 in
theorem bk_X11_tellsOf_159 : ((cX11_tellsOf.data.toList.drop 159).take 26).length = 26 ∧ eN (((cX11_tellsOf.data.toList.drop 159).take 26).map UInt8.toNat) = 278295381776065933193019437864982699861359215760164620736619524 := by decide +kernel
theorem dX11_tellsOf_159 : decode cX11_tellsOf 159 = .ok (.iconst 1, 1) := dc_4 (bq_nm bk_X11_tellsOf_159 (j := 0) rfl rfl)
theorem dX11_tellsOf_160 : decode cX11_tellsOf 160 = .ok (.isub, 1) := dc_100 (bq_nm bk_X11_tellsOf_159 (j := 1) rfl rfl)
theorem dX11_tellsOf_161 : decode cX11_tellsOf 161 = .ok (.laload, 1) := dc_47 (bq_nm bk_X11_tellsOf_159 (j := 2) rfl rfl)
theorem dX11_tellsOf_162 : decode cX11_tellsOf 162 = .ok (.aload_n 0, 1) := dc_42 (bq_nm bk_X11_tellsOf_159 (j := 3) rfl rfl)
theorem dX11_tellsOf_163 : decode cX11_tellsOf 163 = .ok (.getfield 29, 3) := dc_180 (bq_nm bk_X11_tellsOf_159 (j := 4) rfl rfl) (bq_nm bk_X11_tellsOf_159 (j := 5) rfl rfl) (bq_nm bk_X11_tellsOf_159 (j := 6) rfl rfl) rfl
theorem dX11_tellsOf_166 : decode cX11_tellsOf 166 = .ok (.iload_n 3, 1) := dc_29 (bq_nm bk_X11_tellsOf_159 (j := 7) rfl rfl)
theorem dX11_tellsOf_167 : decode cX11_tellsOf 167 = .ok (.laload, 1) := dc_47 (bq_nm bk_X11_tellsOf_159 (j := 8) rfl rfl)
theorem dX11_tellsOf_168 : decode cX11_tellsOf 168 = .ok (.invokestatic 162, 3) := dc_184 (bq_nm bk_X11_tellsOf_159 (j := 9) rfl rfl) (bq_nm bk_X11_tellsOf_159 (j := 10) rfl rfl) (bq_nm bk_X11_tellsOf_159 (j := 11) rfl rfl) rfl
theorem dX11_tellsOf_171 : decode cX11_tellsOf 171 = .ok (.lastore, 1) := dc_80 (bq_nm bk_X11_tellsOf_159 (j := 12) rfl rfl)
theorem dX11_tellsOf_172 : decode cX11_tellsOf 172 = .ok (.iinc 4 1, 3) := dc_132 (bq_nm bk_X11_tellsOf_159 (j := 13) rfl rfl) (bq_nm bk_X11_tellsOf_159 (j := 14) rfl rfl) (bq_nm bk_X11_tellsOf_159 (j := 15) rfl rfl) rfl
theorem dX11_tellsOf_175 : decode cX11_tellsOf 175 = .ok (.goto (-164), 3) := dc_167 (bq_nm bk_X11_tellsOf_159 (j := 16) rfl rfl) (bq_nm bk_X11_tellsOf_159 (j := 17) rfl rfl) (bq_nm bk_X11_tellsOf_159 (j := 18) rfl rfl) rfl
theorem dX11_tellsOf_178 : decode cX11_tellsOf 178 = .ok (.aload_n 0, 1) := dc_42 (bq_nm bk_X11_tellsOf_159 (j := 19) rfl rfl)
theorem dX11_tellsOf_179 : decode cX11_tellsOf 179 = .ok (.getfield 29, 3) := dc_180 (bq_nm bk_X11_tellsOf_159 (j := 20) rfl rfl) (bq_nm bk_X11_tellsOf_159 (j := 21) rfl rfl) (bq_nm bk_X11_tellsOf_159 (j := 22) rfl rfl) rfl
theorem dX11_tellsOf_182 : decode cX11_tellsOf 182 = .ok (.iconst 0, 1) := dc_3 (bq_nm bk_X11_tellsOf_159 (j := 23) rfl rfl)
theorem dX11_tellsOf_183 : decode cX11_tellsOf 183 = .ok (.laload, 1) := dc_47 (bq_nm bk_X11_tellsOf_159 (j := 24) rfl rfl)
theorem dX11_tellsOf_184 : decode cX11_tellsOf 184 = .ok (.lreturn, 1) := dc_173 (bq_nm bk_X11_tellsOf_159 (j := 25) rfl rfl)


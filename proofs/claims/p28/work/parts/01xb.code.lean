set_option maxRecDepth 20000 in
theorem bk_X0_init_0 : ((cX0_init.data.toList.drop 0).take 32).length = 32 ∧ eN (((cX0_init.data.toList.drop 0).take 32).map UInt8.toNat) = 9047506484388801924779673515065480135335403778050275415120429801233717442346 := by decide +kernel
theorem dX0_init_0 : decode cX0_init 0 = .ok (.aload_n 0, 1) := dc_42 (bq_nm bk_X0_init_0 (j := 0) rfl rfl)
theorem dX0_init_1 : decode cX0_init 1 = .ok (.invokespecial 3, 3) := dc_183 (bq_nm bk_X0_init_0 (j := 1) rfl rfl) (bq_nm bk_X0_init_0 (j := 2) rfl rfl) (bq_nm bk_X0_init_0 (j := 3) rfl rfl) rfl
theorem dX0_init_4 : decode cX0_init 4 = .ok (.aload_n 0, 1) := dc_42 (bq_nm bk_X0_init_0 (j := 4) rfl rfl)
theorem dX0_init_5 : decode cX0_init 5 = .ok (.new 9, 3) := dc_187 (bq_nm bk_X0_init_0 (j := 5) rfl rfl) (bq_nm bk_X0_init_0 (j := 6) rfl rfl) (bq_nm bk_X0_init_0 (j := 7) rfl rfl) rfl
theorem dX0_init_8 : decode cX0_init 8 = .ok (.dup, 1) := dc_89 (bq_nm bk_X0_init_0 (j := 8) rfl rfl)
theorem dX0_init_9 : decode cX0_init 9 = .ok (.bipush 30, 2) := dc_16 (bq_nm bk_X0_init_0 (j := 9) rfl rfl) (bq_nm bk_X0_init_0 (j := 10) rfl rfl) rfl
theorem dX0_init_11 : decode cX0_init 11 = .ok (.iconst 4, 1) := dc_7 (bq_nm bk_X0_init_0 (j := 11) rfl rfl)
theorem dX0_init_12 : decode cX0_init 12 = .ok (.invokespecial 11, 3) := dc_183 (bq_nm bk_X0_init_0 (j := 12) rfl rfl) (bq_nm bk_X0_init_0 (j := 13) rfl rfl) (bq_nm bk_X0_init_0 (j := 14) rfl rfl) rfl
theorem dX0_init_15 : decode cX0_init 15 = .ok (.putfield 14, 3) := dc_181 (bq_nm bk_X0_init_0 (j := 15) rfl rfl) (bq_nm bk_X0_init_0 (j := 16) rfl rfl) (bq_nm bk_X0_init_0 (j := 17) rfl rfl) rfl
theorem dX0_init_18 : decode cX0_init 18 = .ok (.aload_n 0, 1) := dc_42 (bq_nm bk_X0_init_0 (j := 18) rfl rfl)
theorem dX0_init_19 : decode cX0_init 19 = .ok (.new 9, 3) := dc_187 (bq_nm bk_X0_init_0 (j := 19) rfl rfl) (bq_nm bk_X0_init_0 (j := 20) rfl rfl) (bq_nm bk_X0_init_0 (j := 21) rfl rfl) rfl
theorem dX0_init_22 : decode cX0_init 22 = .ok (.dup, 1) := dc_89 (bq_nm bk_X0_init_0 (j := 22) rfl rfl)
theorem dX0_init_23 : decode cX0_init 23 = .ok (.bipush 40, 2) := dc_16 (bq_nm bk_X0_init_0 (j := 23) rfl rfl) (bq_nm bk_X0_init_0 (j := 24) rfl rfl) rfl
theorem dX0_init_25 : decode cX0_init 25 = .ok (.iconst 3, 1) := dc_6 (bq_nm bk_X0_init_0 (j := 25) rfl rfl)
theorem dX0_init_26 : decode cX0_init 26 = .ok (.invokespecial 11, 3) := dc_183 (bq_nm bk_X0_init_0 (j := 26) rfl rfl) (bq_nm bk_X0_init_0 (j := 27) rfl rfl) (bq_nm bk_X0_init_0 (j := 28) rfl rfl) rfl
theorem dX0_init_29 : decode cX0_init 29 = .ok (.putfield 20, 3) := dc_181 (bq_nm bk_X0_init_0 (j := 29) rfl rfl) (bq_nm bk_X0_init_0 (j := 30) rfl rfl) (bq_nm bk_X0_init_0 (j := 31) rfl rfl) rfl
set_option maxRecDepth 20000 in
theorem bk_X0_init_32 : ((cX0_init.data.toList.drop 32).take 32).length = 32 ∧ eN (((cX0_init.data.toList.drop 32).take 32).map UInt8.toNat) = 40271750193437553947488933015245602045198455882724740678313433293110248520490 := by decide +kernel
theorem dX0_init_32 : decode cX0_init 32 = .ok (.aload_n 0, 1) := dc_42 (bq_nm bk_X0_init_32 (j := 0) rfl rfl)
theorem dX0_init_33 : decode cX0_init 33 = .ok (.new 9, 3) := dc_187 (bq_nm bk_X0_init_32 (j := 1) rfl rfl) (bq_nm bk_X0_init_32 (j := 2) rfl rfl) (bq_nm bk_X0_init_32 (j := 3) rfl rfl) rfl
theorem dX0_init_36 : decode cX0_init 36 = .ok (.dup, 1) := dc_89 (bq_nm bk_X0_init_32 (j := 4) rfl rfl)
theorem dX0_init_37 : decode cX0_init 37 = .ok (.iconst 4, 1) := dc_7 (bq_nm bk_X0_init_32 (j := 5) rfl rfl)
theorem dX0_init_38 : decode cX0_init 38 = .ok (.iconst 3, 1) := dc_6 (bq_nm bk_X0_init_32 (j := 6) rfl rfl)
theorem dX0_init_39 : decode cX0_init 39 = .ok (.invokespecial 11, 3) := dc_183 (bq_nm bk_X0_init_32 (j := 7) rfl rfl) (bq_nm bk_X0_init_32 (j := 8) rfl rfl) (bq_nm bk_X0_init_32 (j := 9) rfl rfl) rfl
theorem dX0_init_42 : decode cX0_init 42 = .ok (.putfield 23, 3) := dc_181 (bq_nm bk_X0_init_32 (j := 10) rfl rfl) (bq_nm bk_X0_init_32 (j := 11) rfl rfl) (bq_nm bk_X0_init_32 (j := 12) rfl rfl) rfl
theorem dX0_init_45 : decode cX0_init 45 = .ok (.aload_n 0, 1) := dc_42 (bq_nm bk_X0_init_32 (j := 13) rfl rfl)
theorem dX0_init_46 : decode cX0_init 46 = .ok (.new 9, 3) := dc_187 (bq_nm bk_X0_init_32 (j := 14) rfl rfl) (bq_nm bk_X0_init_32 (j := 15) rfl rfl) (bq_nm bk_X0_init_32 (j := 16) rfl rfl) rfl
theorem dX0_init_49 : decode cX0_init 49 = .ok (.dup, 1) := dc_89 (bq_nm bk_X0_init_32 (j := 17) rfl rfl)
theorem dX0_init_50 : decode cX0_init 50 = .ok (.bipush 20, 2) := dc_16 (bq_nm bk_X0_init_32 (j := 18) rfl rfl) (bq_nm bk_X0_init_32 (j := 19) rfl rfl) rfl
theorem dX0_init_52 : decode cX0_init 52 = .ok (.iconst 3, 1) := dc_6 (bq_nm bk_X0_init_32 (j := 20) rfl rfl)
theorem dX0_init_53 : decode cX0_init 53 = .ok (.invokespecial 11, 3) := dc_183 (bq_nm bk_X0_init_32 (j := 21) rfl rfl) (bq_nm bk_X0_init_32 (j := 22) rfl rfl) (bq_nm bk_X0_init_32 (j := 23) rfl rfl) rfl
theorem dX0_init_56 : decode cX0_init 56 = .ok (.putfield 26, 3) := dc_181 (bq_nm bk_X0_init_32 (j := 24) rfl rfl) (bq_nm bk_X0_init_32 (j := 25) rfl rfl) (bq_nm bk_X0_init_32 (j := 26) rfl rfl) rfl
theorem dX0_init_59 : decode cX0_init 59 = .ok (.aload_n 0, 1) := dc_42 (bq_nm bk_X0_init_32 (j := 27) rfl rfl)
theorem dX0_init_60 : decode cX0_init 60 = .ok (.new 9, 3) := dc_187 (bq_nm bk_X0_init_32 (j := 28) rfl rfl) (bq_nm bk_X0_init_32 (j := 29) rfl rfl) (bq_nm bk_X0_init_32 (j := 30) rfl rfl) rfl
theorem dX0_init_63 : decode cX0_init 63 = .ok (.dup, 1) := dc_89 (bq_nm bk_X0_init_32 (j := 31) rfl rfl)
set_option maxRecDepth 20000 in
theorem bk_X0_init_64 : ((cX0_init.data.toList.drop 64).take 32).length = 32 ∧ eN (((cX0_init.data.toList.drop 64).take 32).map UInt8.toNat) = 15379900069518105717732165515345559793436287407490530994202382734215091325456 := by decide +kernel
theorem dX0_init_64 : decode cX0_init 64 = .ok (.bipush 10, 2) := dc_16 (bq_nm bk_X0_init_64 (j := 0) rfl rfl) (bq_nm bk_X0_init_64 (j := 1) rfl rfl) rfl
theorem dX0_init_66 : decode cX0_init 66 = .ok (.bipush 70, 2) := dc_16 (bq_nm bk_X0_init_64 (j := 2) rfl rfl) (bq_nm bk_X0_init_64 (j := 3) rfl rfl) rfl
theorem dX0_init_68 : decode cX0_init 68 = .ok (.invokespecial 11, 3) := dc_183 (bq_nm bk_X0_init_64 (j := 4) rfl rfl) (bq_nm bk_X0_init_64 (j := 5) rfl rfl) (bq_nm bk_X0_init_64 (j := 6) rfl rfl) rfl
theorem dX0_init_71 : decode cX0_init 71 = .ok (.putfield 29, 3) := dc_181 (bq_nm bk_X0_init_64 (j := 7) rfl rfl) (bq_nm bk_X0_init_64 (j := 8) rfl rfl) (bq_nm bk_X0_init_64 (j := 9) rfl rfl) rfl
theorem dX0_init_74 : decode cX0_init 74 = .ok (.aload_n 0, 1) := dc_42 (bq_nm bk_X0_init_64 (j := 10) rfl rfl)
theorem dX0_init_75 : decode cX0_init 75 = .ok (.new 32, 3) := dc_187 (bq_nm bk_X0_init_64 (j := 11) rfl rfl) (bq_nm bk_X0_init_64 (j := 12) rfl rfl) (bq_nm bk_X0_init_64 (j := 13) rfl rfl) rfl
theorem dX0_init_78 : decode cX0_init 78 = .ok (.dup, 1) := dc_89 (bq_nm bk_X0_init_64 (j := 14) rfl rfl)
theorem dX0_init_79 : decode cX0_init 79 = .ok (.bipush 20, 2) := dc_16 (bq_nm bk_X0_init_64 (j := 15) rfl rfl) (bq_nm bk_X0_init_64 (j := 16) rfl rfl) rfl
theorem dX0_init_81 : decode cX0_init 81 = .ok (.invokespecial 34, 3) := dc_183 (bq_nm bk_X0_init_64 (j := 17) rfl rfl) (bq_nm bk_X0_init_64 (j := 18) rfl rfl) (bq_nm bk_X0_init_64 (j := 19) rfl rfl) rfl
theorem dX0_init_84 : decode cX0_init 84 = .ok (.putfield 37, 3) := dc_181 (bq_nm bk_X0_init_64 (j := 20) rfl rfl) (bq_nm bk_X0_init_64 (j := 21) rfl rfl) (bq_nm bk_X0_init_64 (j := 22) rfl rfl) rfl
theorem dX0_init_87 : decode cX0_init 87 = .ok (.aload_n 0, 1) := dc_42 (bq_nm bk_X0_init_64 (j := 23) rfl rfl)
theorem dX0_init_88 : decode cX0_init 88 = .ok (.new 32, 3) := dc_187 (bq_nm bk_X0_init_64 (j := 24) rfl rfl) (bq_nm bk_X0_init_64 (j := 25) rfl rfl) (bq_nm bk_X0_init_64 (j := 26) rfl rfl) rfl
theorem dX0_init_91 : decode cX0_init 91 = .ok (.dup, 1) := dc_89 (bq_nm bk_X0_init_64 (j := 27) rfl rfl)
theorem dX0_init_92 : decode cX0_init 92 = .ok (.iconst 4, 1) := dc_7 (bq_nm bk_X0_init_64 (j := 28) rfl rfl)
theorem dX0_init_93 : decode cX0_init 93 = .ok (.invokespecial 34, 3) := dc_183 (bq_nm bk_X0_init_64 (j := 29) rfl rfl) (bq_nm bk_X0_init_64 (j := 30) rfl rfl) (bq_nm bk_X0_init_64 (j := 31) rfl rfl) rfl
set_option maxRecDepth 20000 in
theorem bk_X0_init_96 : ((cX0_init.data.toList.drop 96).take 15).length = 15 ∧ eN (((cX0_init.data.toList.drop 96).take 15).map UInt8.toNat) = 920010155662681400283707535478292661 := by decide +kernel
theorem dX0_init_96 : decode cX0_init 96 = .ok (.putfield 41, 3) := dc_181 (bq_nm bk_X0_init_96 (j := 0) rfl rfl) (bq_nm bk_X0_init_96 (j := 1) rfl rfl) (bq_nm bk_X0_init_96 (j := 2) rfl rfl) rfl
theorem dX0_init_99 : decode cX0_init 99 = .ok (.aload_n 0, 1) := dc_42 (bq_nm bk_X0_init_96 (j := 3) rfl rfl)
theorem dX0_init_100 : decode cX0_init 100 = .ok (.iconst 5, 1) := dc_8 (bq_nm bk_X0_init_96 (j := 4) rfl rfl)
theorem dX0_init_101 : decode cX0_init 101 = .ok (.putfield 44, 3) := dc_181 (bq_nm bk_X0_init_96 (j := 5) rfl rfl) (bq_nm bk_X0_init_96 (j := 6) rfl rfl) (bq_nm bk_X0_init_96 (j := 7) rfl rfl) rfl
theorem dX0_init_104 : decode cX0_init 104 = .ok (.aload_n 0, 1) := dc_42 (bq_nm bk_X0_init_96 (j := 8) rfl rfl)
theorem dX0_init_105 : decode cX0_init 105 = .ok (.bipush 20, 2) := dc_16 (bq_nm bk_X0_init_96 (j := 9) rfl rfl) (bq_nm bk_X0_init_96 (j := 10) rfl rfl) rfl
theorem dX0_init_107 : decode cX0_init 107 = .ok (.putfield 48, 3) := dc_181 (bq_nm bk_X0_init_96 (j := 11) rfl rfl) (bq_nm bk_X0_init_96 (j := 12) rfl rfl) (bq_nm bk_X0_init_96 (j := 13) rfl rfl) rfl
theorem dX0_init_110 : decode cX0_init 110 = .ok (.return_, 1) := dc_177 (bq_nm bk_X0_init_96 (j := 14) rfl rfl)
set_option maxRecDepth 20000 in
theorem bk_X0_copy_0 : ((cX0_copy.data.toList.drop 0).take 30).length = 30 ∧ eN (((cX0_copy.data.toList.drop 0).take 30).map UInt8.toNat) = 158759139914821291254567632972997582425839696473150608842350933739353130 := by decide +kernel
theorem dX0_copy_0 : decode cX0_copy 0 = .ok (.aload_n 0, 1) := dc_42 (bq_nm bk_X0_copy_0 (j := 0) rfl rfl)
theorem dX0_copy_1 : decode cX0_copy 1 = .ok (.getfield 14, 3) := dc_180 (bq_nm bk_X0_copy_0 (j := 1) rfl rfl) (bq_nm bk_X0_copy_0 (j := 2) rfl rfl) (bq_nm bk_X0_copy_0 (j := 3) rfl rfl) rfl
theorem dX0_copy_4 : decode cX0_copy 4 = .ok (.aload_n 1, 1) := dc_43 (bq_nm bk_X0_copy_0 (j := 4) rfl rfl)
theorem dX0_copy_5 : decode cX0_copy 5 = .ok (.getfield 14, 3) := dc_180 (bq_nm bk_X0_copy_0 (j := 5) rfl rfl) (bq_nm bk_X0_copy_0 (j := 6) rfl rfl) (bq_nm bk_X0_copy_0 (j := 7) rfl rfl) rfl
theorem dX0_copy_8 : decode cX0_copy 8 = .ok (.invokevirtual 51, 3) := dc_182 (bq_nm bk_X0_copy_0 (j := 8) rfl rfl) (bq_nm bk_X0_copy_0 (j := 9) rfl rfl) (bq_nm bk_X0_copy_0 (j := 10) rfl rfl) rfl
theorem dX0_copy_11 : decode cX0_copy 11 = .ok (.aload_n 0, 1) := dc_42 (bq_nm bk_X0_copy_0 (j := 11) rfl rfl)
theorem dX0_copy_12 : decode cX0_copy 12 = .ok (.getfield 20, 3) := dc_180 (bq_nm bk_X0_copy_0 (j := 12) rfl rfl) (bq_nm bk_X0_copy_0 (j := 13) rfl rfl) (bq_nm bk_X0_copy_0 (j := 14) rfl rfl) rfl
theorem dX0_copy_15 : decode cX0_copy 15 = .ok (.aload_n 1, 1) := dc_43 (bq_nm bk_X0_copy_0 (j := 15) rfl rfl)
theorem dX0_copy_16 : decode cX0_copy 16 = .ok (.getfield 20, 3) := dc_180 (bq_nm bk_X0_copy_0 (j := 16) rfl rfl) (bq_nm bk_X0_copy_0 (j := 17) rfl rfl) (bq_nm bk_X0_copy_0 (j := 18) rfl rfl) rfl
theorem dX0_copy_19 : decode cX0_copy 19 = .ok (.invokevirtual 51, 3) := dc_182 (bq_nm bk_X0_copy_0 (j := 19) rfl rfl) (bq_nm bk_X0_copy_0 (j := 20) rfl rfl) (bq_nm bk_X0_copy_0 (j := 21) rfl rfl) rfl
theorem dX0_copy_22 : decode cX0_copy 22 = .ok (.aload_n 0, 1) := dc_42 (bq_nm bk_X0_copy_0 (j := 22) rfl rfl)
theorem dX0_copy_23 : decode cX0_copy 23 = .ok (.getfield 23, 3) := dc_180 (bq_nm bk_X0_copy_0 (j := 23) rfl rfl) (bq_nm bk_X0_copy_0 (j := 24) rfl rfl) (bq_nm bk_X0_copy_0 (j := 25) rfl rfl) rfl
theorem dX0_copy_26 : decode cX0_copy 26 = .ok (.aload_n 1, 1) := dc_43 (bq_nm bk_X0_copy_0 (j := 26) rfl rfl)
theorem dX0_copy_27 : decode cX0_copy 27 = .ok (.getfield 23, 3) := dc_180 (bq_nm bk_X0_copy_0 (j := 27) rfl rfl) (bq_nm bk_X0_copy_0 (j := 28) rfl rfl) (bq_nm bk_X0_copy_0 (j := 29) rfl rfl) rfl
set_option maxRecDepth 20000 in
theorem bk_X0_copy_30 : ((cX0_copy.data.toList.drop 30).take 30).length = 30 ∧ eN (((cX0_copy.data.toList.drop 30).take 30).map UInt8.toNat) = 297772685054195443476739384986290743701051367491580254268147343411052726 := by decide +kernel
theorem dX0_copy_30 : decode cX0_copy 30 = .ok (.invokevirtual 51, 3) := dc_182 (bq_nm bk_X0_copy_30 (j := 0) rfl rfl) (bq_nm bk_X0_copy_30 (j := 1) rfl rfl) (bq_nm bk_X0_copy_30 (j := 2) rfl rfl) rfl
theorem dX0_copy_33 : decode cX0_copy 33 = .ok (.aload_n 0, 1) := dc_42 (bq_nm bk_X0_copy_30 (j := 3) rfl rfl)
theorem dX0_copy_34 : decode cX0_copy 34 = .ok (.getfield 26, 3) := dc_180 (bq_nm bk_X0_copy_30 (j := 4) rfl rfl) (bq_nm bk_X0_copy_30 (j := 5) rfl rfl) (bq_nm bk_X0_copy_30 (j := 6) rfl rfl) rfl
theorem dX0_copy_37 : decode cX0_copy 37 = .ok (.aload_n 1, 1) := dc_43 (bq_nm bk_X0_copy_30 (j := 7) rfl rfl)
theorem dX0_copy_38 : decode cX0_copy 38 = .ok (.getfield 26, 3) := dc_180 (bq_nm bk_X0_copy_30 (j := 8) rfl rfl) (bq_nm bk_X0_copy_30 (j := 9) rfl rfl) (bq_nm bk_X0_copy_30 (j := 10) rfl rfl) rfl
theorem dX0_copy_41 : decode cX0_copy 41 = .ok (.invokevirtual 51, 3) := dc_182 (bq_nm bk_X0_copy_30 (j := 11) rfl rfl) (bq_nm bk_X0_copy_30 (j := 12) rfl rfl) (bq_nm bk_X0_copy_30 (j := 13) rfl rfl) rfl
theorem dX0_copy_44 : decode cX0_copy 44 = .ok (.aload_n 0, 1) := dc_42 (bq_nm bk_X0_copy_30 (j := 14) rfl rfl)
theorem dX0_copy_45 : decode cX0_copy 45 = .ok (.getfield 29, 3) := dc_180 (bq_nm bk_X0_copy_30 (j := 15) rfl rfl) (bq_nm bk_X0_copy_30 (j := 16) rfl rfl) (bq_nm bk_X0_copy_30 (j := 17) rfl rfl) rfl
theorem dX0_copy_48 : decode cX0_copy 48 = .ok (.aload_n 1, 1) := dc_43 (bq_nm bk_X0_copy_30 (j := 18) rfl rfl)
theorem dX0_copy_49 : decode cX0_copy 49 = .ok (.getfield 29, 3) := dc_180 (bq_nm bk_X0_copy_30 (j := 19) rfl rfl) (bq_nm bk_X0_copy_30 (j := 20) rfl rfl) (bq_nm bk_X0_copy_30 (j := 21) rfl rfl) rfl
theorem dX0_copy_52 : decode cX0_copy 52 = .ok (.invokevirtual 51, 3) := dc_182 (bq_nm bk_X0_copy_30 (j := 22) rfl rfl) (bq_nm bk_X0_copy_30 (j := 23) rfl rfl) (bq_nm bk_X0_copy_30 (j := 24) rfl rfl) rfl
theorem dX0_copy_55 : decode cX0_copy 55 = .ok (.aload_n 0, 1) := dc_42 (bq_nm bk_X0_copy_30 (j := 25) rfl rfl)
theorem dX0_copy_56 : decode cX0_copy 56 = .ok (.getfield 37, 3) := dc_180 (bq_nm bk_X0_copy_30 (j := 26) rfl rfl) (bq_nm bk_X0_copy_30 (j := 27) rfl rfl) (bq_nm bk_X0_copy_30 (j := 28) rfl rfl) rfl
theorem dX0_copy_59 : decode cX0_copy 59 = .ok (.aload_n 1, 1) := dc_43 (bq_nm bk_X0_copy_30 (j := 29) rfl rfl)
set_option maxRecDepth 20000 in
theorem bk_X0_copy_60 : ((cX0_copy.data.toList.drop 60).take 30).length = 30 ∧ eN (((cX0_copy.data.toList.drop 60).take 30).map UInt8.toNat) = 331302798615389000981492654395781402462460979400741223764048391270891700 := by decide +kernel
theorem dX0_copy_60 : decode cX0_copy 60 = .ok (.getfield 37, 3) := dc_180 (bq_nm bk_X0_copy_60 (j := 0) rfl rfl) (bq_nm bk_X0_copy_60 (j := 1) rfl rfl) (bq_nm bk_X0_copy_60 (j := 2) rfl rfl) rfl
theorem dX0_copy_63 : decode cX0_copy 63 = .ok (.invokevirtual 55, 3) := dc_182 (bq_nm bk_X0_copy_60 (j := 3) rfl rfl) (bq_nm bk_X0_copy_60 (j := 4) rfl rfl) (bq_nm bk_X0_copy_60 (j := 5) rfl rfl) rfl
theorem dX0_copy_66 : decode cX0_copy 66 = .ok (.aload_n 0, 1) := dc_42 (bq_nm bk_X0_copy_60 (j := 6) rfl rfl)
theorem dX0_copy_67 : decode cX0_copy 67 = .ok (.getfield 41, 3) := dc_180 (bq_nm bk_X0_copy_60 (j := 7) rfl rfl) (bq_nm bk_X0_copy_60 (j := 8) rfl rfl) (bq_nm bk_X0_copy_60 (j := 9) rfl rfl) rfl
theorem dX0_copy_70 : decode cX0_copy 70 = .ok (.aload_n 1, 1) := dc_43 (bq_nm bk_X0_copy_60 (j := 10) rfl rfl)
theorem dX0_copy_71 : decode cX0_copy 71 = .ok (.getfield 41, 3) := dc_180 (bq_nm bk_X0_copy_60 (j := 11) rfl rfl) (bq_nm bk_X0_copy_60 (j := 12) rfl rfl) (bq_nm bk_X0_copy_60 (j := 13) rfl rfl) rfl
theorem dX0_copy_74 : decode cX0_copy 74 = .ok (.invokevirtual 55, 3) := dc_182 (bq_nm bk_X0_copy_60 (j := 14) rfl rfl) (bq_nm bk_X0_copy_60 (j := 15) rfl rfl) (bq_nm bk_X0_copy_60 (j := 16) rfl rfl) rfl
theorem dX0_copy_77 : decode cX0_copy 77 = .ok (.aload_n 0, 1) := dc_42 (bq_nm bk_X0_copy_60 (j := 17) rfl rfl)
theorem dX0_copy_78 : decode cX0_copy 78 = .ok (.aload_n 1, 1) := dc_43 (bq_nm bk_X0_copy_60 (j := 18) rfl rfl)
theorem dX0_copy_79 : decode cX0_copy 79 = .ok (.getfield 44, 3) := dc_180 (bq_nm bk_X0_copy_60 (j := 19) rfl rfl) (bq_nm bk_X0_copy_60 (j := 20) rfl rfl) (bq_nm bk_X0_copy_60 (j := 21) rfl rfl) rfl
theorem dX0_copy_82 : decode cX0_copy 82 = .ok (.putfield 44, 3) := dc_181 (bq_nm bk_X0_copy_60 (j := 22) rfl rfl) (bq_nm bk_X0_copy_60 (j := 23) rfl rfl) (bq_nm bk_X0_copy_60 (j := 24) rfl rfl) rfl
theorem dX0_copy_85 : decode cX0_copy 85 = .ok (.aload_n 0, 1) := dc_42 (bq_nm bk_X0_copy_60 (j := 25) rfl rfl)
theorem dX0_copy_86 : decode cX0_copy 86 = .ok (.aload_n 1, 1) := dc_43 (bq_nm bk_X0_copy_60 (j := 26) rfl rfl)
theorem dX0_copy_87 : decode cX0_copy 87 = .ok (.getfield 48, 3) := dc_180 (bq_nm bk_X0_copy_60 (j := 27) rfl rfl) (bq_nm bk_X0_copy_60 (j := 28) rfl rfl) (bq_nm bk_X0_copy_60 (j := 29) rfl rfl) rfl
set_option maxRecDepth 20000 in
theorem bk_X0_copy_90 : ((cX0_copy.data.toList.drop 90).take 4).length = 4 ∧ eN (((cX0_copy.data.toList.drop 90).take 4).map UInt8.toNat) = 2972713141 := by decide +kernel
theorem dX0_copy_90 : decode cX0_copy 90 = .ok (.putfield 48, 3) := dc_181 (bq_nm bk_X0_copy_90 (j := 0) rfl rfl) (bq_nm bk_X0_copy_90 (j := 1) rfl rfl) (bq_nm bk_X0_copy_90 (j := 2) rfl rfl) rfl
theorem dX0_copy_93 : decode cX0_copy 93 = .ok (.return_, 1) := dc_177 (bq_nm bk_X0_copy_90 (j := 3) rfl rfl)
set_option maxRecDepth 20000 in
theorem bk_X0_everyone_0 : ((cX0_everyone.data.toList.drop 0).take 11).length = 11 ∧ eN (((cX0_everyone.data.toList.drop 0).take 11).map UInt8.toNat) = 208228040970577769599644714 := by decide +kernel
theorem dX0_everyone_0 : decode cX0_everyone 0 = .ok (.aload_n 0, 1) := dc_42 (bq_nm bk_X0_everyone_0 (j := 0) rfl rfl)
theorem dX0_everyone_1 : decode cX0_everyone 1 = .ok (.getfield 14, 3) := dc_180 (bq_nm bk_X0_everyone_0 (j := 1) rfl rfl) (bq_nm bk_X0_everyone_0 (j := 2) rfl rfl) (bq_nm bk_X0_everyone_0 (j := 3) rfl rfl) rfl
theorem dX0_everyone_4 : decode cX0_everyone 4 = .ok (.invokevirtual 58, 3) := dc_182 (bq_nm bk_X0_everyone_0 (j := 4) rfl rfl) (bq_nm bk_X0_everyone_0 (j := 5) rfl rfl) (bq_nm bk_X0_everyone_0 (j := 6) rfl rfl) rfl
theorem dX0_everyone_7 : decode cX0_everyone 7 = .ok (.invokestatic 62, 3) := dc_184 (bq_nm bk_X0_everyone_0 (j := 7) rfl rfl) (bq_nm bk_X0_everyone_0 (j := 8) rfl rfl) (bq_nm bk_X0_everyone_0 (j := 9) rfl rfl) rfl
theorem dX0_everyone_10 : decode cX0_everyone 10 = .ok (.ireturn, 1) := dc_172 (bq_nm bk_X0_everyone_0 (j := 10) rfl rfl)
set_option maxRecDepth 20000 in
theorem bk_X0_peopleWith_0 : ((cX0_peopleWith.data.toList.drop 0).take 32).length = 32 ∧ eN (((cX0_peopleWith.data.toList.drop 0).take 32).map UInt8.toNat) = 13134745396129871985234946809895554430224249085971166315518514955630730755587 := by decide +kernel
theorem dX0_peopleWith_0 : decode cX0_peopleWith 0 = .ok (.iconst 0, 1) := dc_3 (bq_nm bk_X0_peopleWith_0 (j := 0) rfl rfl)
theorem dX0_peopleWith_1 : decode cX0_peopleWith 1 = .ok (.istore_n 3, 1) := dc_62 (bq_nm bk_X0_peopleWith_0 (j := 1) rfl rfl)
theorem dX0_peopleWith_2 : decode cX0_peopleWith 2 = .ok (.iconst 0, 1) := dc_3 (bq_nm bk_X0_peopleWith_0 (j := 2) rfl rfl)
theorem dX0_peopleWith_3 : decode cX0_peopleWith 3 = .ok (.istore 4, 2) := dc_54 (bq_nm bk_X0_peopleWith_0 (j := 3) rfl rfl) (bq_nm bk_X0_peopleWith_0 (j := 4) rfl rfl)
theorem dX0_peopleWith_5 : decode cX0_peopleWith 5 = .ok (.iload 4, 2) := dc_21 (bq_nm bk_X0_peopleWith_0 (j := 5) rfl rfl) (bq_nm bk_X0_peopleWith_0 (j := 6) rfl rfl)
theorem dX0_peopleWith_7 : decode cX0_peopleWith 7 = .ok (.aload_n 0, 1) := dc_42 (bq_nm bk_X0_peopleWith_0 (j := 7) rfl rfl)
theorem dX0_peopleWith_8 : decode cX0_peopleWith 8 = .ok (.getfield 14, 3) := dc_180 (bq_nm bk_X0_peopleWith_0 (j := 8) rfl rfl) (bq_nm bk_X0_peopleWith_0 (j := 9) rfl rfl) (bq_nm bk_X0_peopleWith_0 (j := 10) rfl rfl) rfl
theorem dX0_peopleWith_11 : decode cX0_peopleWith 11 = .ok (.invokevirtual 58, 3) := dc_182 (bq_nm bk_X0_peopleWith_0 (j := 11) rfl rfl) (bq_nm bk_X0_peopleWith_0 (j := 12) rfl rfl) (bq_nm bk_X0_peopleWith_0 (j := 13) rfl rfl) rfl
theorem dX0_peopleWith_14 : decode cX0_peopleWith 14 = .ok (.if_icmp .ge 30, 3) := dc_162 (bq_nm bk_X0_peopleWith_0 (j := 14) rfl rfl) (bq_nm bk_X0_peopleWith_0 (j := 15) rfl rfl) (bq_nm bk_X0_peopleWith_0 (j := 16) rfl rfl) rfl
theorem dX0_peopleWith_17 : decode cX0_peopleWith 17 = .ok (.aload_n 0, 1) := dc_42 (bq_nm bk_X0_peopleWith_0 (j := 17) rfl rfl)
theorem dX0_peopleWith_18 : decode cX0_peopleWith 18 = .ok (.getfield 14, 3) := dc_180 (bq_nm bk_X0_peopleWith_0 (j := 18) rfl rfl) (bq_nm bk_X0_peopleWith_0 (j := 19) rfl rfl) (bq_nm bk_X0_peopleWith_0 (j := 20) rfl rfl) rfl
theorem dX0_peopleWith_21 : decode cX0_peopleWith 21 = .ok (.iload 4, 2) := dc_21 (bq_nm bk_X0_peopleWith_0 (j := 21) rfl rfl) (bq_nm bk_X0_peopleWith_0 (j := 22) rfl rfl)
theorem dX0_peopleWith_23 : decode cX0_peopleWith 23 = .ok (.iload_n 1, 1) := dc_27 (bq_nm bk_X0_peopleWith_0 (j := 23) rfl rfl)
theorem dX0_peopleWith_24 : decode cX0_peopleWith 24 = .ok (.invokevirtual 66, 3) := dc_182 (bq_nm bk_X0_peopleWith_0 (j := 24) rfl rfl) (bq_nm bk_X0_peopleWith_0 (j := 25) rfl rfl) (bq_nm bk_X0_peopleWith_0 (j := 26) rfl rfl) rfl
theorem dX0_peopleWith_27 : decode cX0_peopleWith 27 = .ok (.iload_n 2, 1) := dc_28 (bq_nm bk_X0_peopleWith_0 (j := 27) rfl rfl)
theorem dX0_peopleWith_28 : decode cX0_peopleWith 28 = .ok (.if_icmp .ne 10, 3) := dc_160 (bq_nm bk_X0_peopleWith_0 (j := 28) rfl rfl) (bq_nm bk_X0_peopleWith_0 (j := 29) rfl rfl) (bq_nm bk_X0_peopleWith_0 (j := 30) rfl rfl) rfl
theorem dX0_peopleWith_31 : decode cX0_peopleWith 31 = .ok (.iload_n 3, 1) := dc_29 (bq_nm bk_X0_peopleWith_0 (j := 31) rfl rfl)
set_option maxRecDepth 20000 in
theorem bk_X0_peopleWith_32 : ((cX0_peopleWith.data.toList.drop 32).take 14).length = 14 ∧ eN (((cX0_peopleWith.data.toList.drop 32).take 14).map UInt8.toNat) = 3490940464307899651191798025688324 := by decide +kernel
theorem dX0_peopleWith_32 : decode cX0_peopleWith 32 = .ok (.iconst 1, 1) := dc_4 (bq_nm bk_X0_peopleWith_32 (j := 0) rfl rfl)
theorem dX0_peopleWith_33 : decode cX0_peopleWith 33 = .ok (.iload 4, 2) := dc_21 (bq_nm bk_X0_peopleWith_32 (j := 1) rfl rfl) (bq_nm bk_X0_peopleWith_32 (j := 2) rfl rfl)
theorem dX0_peopleWith_35 : decode cX0_peopleWith 35 = .ok (.ishl, 1) := dc_120 (bq_nm bk_X0_peopleWith_32 (j := 3) rfl rfl)
theorem dX0_peopleWith_36 : decode cX0_peopleWith 36 = .ok (.ior, 1) := dc_128 (bq_nm bk_X0_peopleWith_32 (j := 4) rfl rfl)
theorem dX0_peopleWith_37 : decode cX0_peopleWith 37 = .ok (.istore_n 3, 1) := dc_62 (bq_nm bk_X0_peopleWith_32 (j := 5) rfl rfl)
theorem dX0_peopleWith_38 : decode cX0_peopleWith 38 = .ok (.iinc 4 1, 3) := dc_132 (bq_nm bk_X0_peopleWith_32 (j := 6) rfl rfl) (bq_nm bk_X0_peopleWith_32 (j := 7) rfl rfl) (bq_nm bk_X0_peopleWith_32 (j := 8) rfl rfl) rfl
theorem dX0_peopleWith_41 : decode cX0_peopleWith 41 = .ok (.goto (-36), 3) := dc_167 (bq_nm bk_X0_peopleWith_32 (j := 9) rfl rfl) (bq_nm bk_X0_peopleWith_32 (j := 10) rfl rfl) (bq_nm bk_X0_peopleWith_32 (j := 11) rfl rfl) rfl
theorem dX0_peopleWith_44 : decode cX0_peopleWith 44 = .ok (.iload_n 3, 1) := dc_29 (bq_nm bk_X0_peopleWith_32 (j := 12) rfl rfl)
theorem dX0_peopleWith_45 : decode cX0_peopleWith 45 = .ok (.ireturn, 1) := dc_172 (bq_nm bk_X0_peopleWith_32 (j := 13) rfl rfl)
set_option maxRecDepth 20000 in
theorem bk_X0_listedOn_0 : ((cX0_listedOn.data.toList.drop 0).take 32).length = 32 ∧ eN (((cX0_listedOn.data.toList.drop 0).take 32).map UInt8.toNat) = 1810404094550214389929602194310776382019611707648959419164466496208606805250 := by decide +kernel
theorem dX0_listedOn_0 : decode cX0_listedOn 0 = .ok (.iconst (-1), 1) := dc_2 (bq_nm bk_X0_listedOn_0 (j := 0) rfl rfl)
theorem dX0_listedOn_1 : decode cX0_listedOn 1 = .ok (.istore_n 2, 1) := dc_61 (bq_nm bk_X0_listedOn_0 (j := 1) rfl rfl)
theorem dX0_listedOn_2 : decode cX0_listedOn 2 = .ok (.iconst 0, 1) := dc_3 (bq_nm bk_X0_listedOn_0 (j := 2) rfl rfl)
theorem dX0_listedOn_3 : decode cX0_listedOn 3 = .ok (.istore_n 3, 1) := dc_62 (bq_nm bk_X0_listedOn_0 (j := 3) rfl rfl)
theorem dX0_listedOn_4 : decode cX0_listedOn 4 = .ok (.iload_n 3, 1) := dc_29 (bq_nm bk_X0_listedOn_0 (j := 4) rfl rfl)
theorem dX0_listedOn_5 : decode cX0_listedOn 5 = .ok (.aload_n 0, 1) := dc_42 (bq_nm bk_X0_listedOn_0 (j := 5) rfl rfl)
theorem dX0_listedOn_6 : decode cX0_listedOn 6 = .ok (.getfield 23, 3) := dc_180 (bq_nm bk_X0_listedOn_0 (j := 6) rfl rfl) (bq_nm bk_X0_listedOn_0 (j := 7) rfl rfl) (bq_nm bk_X0_listedOn_0 (j := 8) rfl rfl) rfl
theorem dX0_listedOn_9 : decode cX0_listedOn 9 = .ok (.invokevirtual 58, 3) := dc_182 (bq_nm bk_X0_listedOn_0 (j := 9) rfl rfl) (bq_nm bk_X0_listedOn_0 (j := 10) rfl rfl) (bq_nm bk_X0_listedOn_0 (j := 11) rfl rfl) rfl
theorem dX0_listedOn_12 : decode cX0_listedOn 12 = .ok (.if_icmp .ge 62, 3) := dc_162 (bq_nm bk_X0_listedOn_0 (j := 12) rfl rfl) (bq_nm bk_X0_listedOn_0 (j := 13) rfl rfl) (bq_nm bk_X0_listedOn_0 (j := 14) rfl rfl) rfl
theorem dX0_listedOn_15 : decode cX0_listedOn 15 = .ok (.aload_n 0, 1) := dc_42 (bq_nm bk_X0_listedOn_0 (j := 15) rfl rfl)
theorem dX0_listedOn_16 : decode cX0_listedOn 16 = .ok (.getfield 23, 3) := dc_180 (bq_nm bk_X0_listedOn_0 (j := 16) rfl rfl) (bq_nm bk_X0_listedOn_0 (j := 17) rfl rfl) (bq_nm bk_X0_listedOn_0 (j := 18) rfl rfl) rfl
theorem dX0_listedOn_19 : decode cX0_listedOn 19 = .ok (.iload_n 3, 1) := dc_29 (bq_nm bk_X0_listedOn_0 (j := 19) rfl rfl)
theorem dX0_listedOn_20 : decode cX0_listedOn 20 = .ok (.iconst 2, 1) := dc_5 (bq_nm bk_X0_listedOn_0 (j := 20) rfl rfl)
theorem dX0_listedOn_21 : decode cX0_listedOn 21 = .ok (.invokevirtual 66, 3) := dc_182 (bq_nm bk_X0_listedOn_0 (j := 21) rfl rfl) (bq_nm bk_X0_listedOn_0 (j := 22) rfl rfl) (bq_nm bk_X0_listedOn_0 (j := 23) rfl rfl) rfl
theorem dX0_listedOn_24 : decode cX0_listedOn 24 = .ok (.iload_n 1, 1) := dc_27 (bq_nm bk_X0_listedOn_0 (j := 24) rfl rfl)
theorem dX0_listedOn_25 : decode cX0_listedOn 25 = .ok (.if_icmp .gt 7, 3) := dc_163 (bq_nm bk_X0_listedOn_0 (j := 25) rfl rfl) (bq_nm bk_X0_listedOn_0 (j := 26) rfl rfl) (bq_nm bk_X0_listedOn_0 (j := 27) rfl rfl) rfl
theorem dX0_listedOn_28 : decode cX0_listedOn 28 = .ok (.iconst 1, 1) := dc_4 (bq_nm bk_X0_listedOn_0 (j := 28) rfl rfl)
theorem dX0_listedOn_29 : decode cX0_listedOn 29 = .ok (.goto 4, 3) := dc_167 (bq_nm bk_X0_listedOn_0 (j := 29) rfl rfl) (bq_nm bk_X0_listedOn_0 (j := 30) rfl rfl) (bq_nm bk_X0_listedOn_0 (j := 31) rfl rfl) rfl
set_option maxRecDepth 20000 in
theorem bk_X0_listedOn_32 : ((cX0_listedOn.data.toList.drop 32).take 31).length = 31 ∧ eN (((cX0_listedOn.data.toList.drop 32).take 31).map UInt8.toNat) = 116616813418471449737070063368198090373494480631630373935030521138352764419 := by decide +kernel
theorem dX0_listedOn_32 : decode cX0_listedOn 32 = .ok (.iconst 0, 1) := dc_3 (bq_nm bk_X0_listedOn_32 (j := 0) rfl rfl)
theorem dX0_listedOn_33 : decode cX0_listedOn 33 = .ok (.istore 4, 2) := dc_54 (bq_nm bk_X0_listedOn_32 (j := 1) rfl rfl) (bq_nm bk_X0_listedOn_32 (j := 2) rfl rfl)
theorem dX0_listedOn_35 : decode cX0_listedOn 35 = .ok (.iload 4, 2) := dc_21 (bq_nm bk_X0_listedOn_32 (j := 3) rfl rfl) (bq_nm bk_X0_listedOn_32 (j := 4) rfl rfl)
theorem dX0_listedOn_37 : decode cX0_listedOn 37 = .ok (.ifCond .eq 31, 3) := dc_153 (bq_nm bk_X0_listedOn_32 (j := 5) rfl rfl) (bq_nm bk_X0_listedOn_32 (j := 6) rfl rfl) (bq_nm bk_X0_listedOn_32 (j := 7) rfl rfl) rfl
theorem dX0_listedOn_40 : decode cX0_listedOn 40 = .ok (.iload_n 2, 1) := dc_28 (bq_nm bk_X0_listedOn_32 (j := 8) rfl rfl)
theorem dX0_listedOn_41 : decode cX0_listedOn 41 = .ok (.iconst (-1), 1) := dc_2 (bq_nm bk_X0_listedOn_32 (j := 9) rfl rfl)
theorem dX0_listedOn_42 : decode cX0_listedOn 42 = .ok (.if_icmp .eq 24, 3) := dc_159 (bq_nm bk_X0_listedOn_32 (j := 10) rfl rfl) (bq_nm bk_X0_listedOn_32 (j := 11) rfl rfl) (bq_nm bk_X0_listedOn_32 (j := 12) rfl rfl) rfl
theorem dX0_listedOn_45 : decode cX0_listedOn 45 = .ok (.aload_n 0, 1) := dc_42 (bq_nm bk_X0_listedOn_32 (j := 13) rfl rfl)
theorem dX0_listedOn_46 : decode cX0_listedOn 46 = .ok (.getfield 23, 3) := dc_180 (bq_nm bk_X0_listedOn_32 (j := 14) rfl rfl) (bq_nm bk_X0_listedOn_32 (j := 15) rfl rfl) (bq_nm bk_X0_listedOn_32 (j := 16) rfl rfl) rfl
theorem dX0_listedOn_49 : decode cX0_listedOn 49 = .ok (.iload_n 3, 1) := dc_29 (bq_nm bk_X0_listedOn_32 (j := 17) rfl rfl)
theorem dX0_listedOn_50 : decode cX0_listedOn 50 = .ok (.iconst 1, 1) := dc_4 (bq_nm bk_X0_listedOn_32 (j := 18) rfl rfl)
theorem dX0_listedOn_51 : decode cX0_listedOn 51 = .ok (.invokevirtual 66, 3) := dc_182 (bq_nm bk_X0_listedOn_32 (j := 19) rfl rfl) (bq_nm bk_X0_listedOn_32 (j := 20) rfl rfl) (bq_nm bk_X0_listedOn_32 (j := 21) rfl rfl) rfl
theorem dX0_listedOn_54 : decode cX0_listedOn 54 = .ok (.aload_n 0, 1) := dc_42 (bq_nm bk_X0_listedOn_32 (j := 22) rfl rfl)
theorem dX0_listedOn_55 : decode cX0_listedOn 55 = .ok (.getfield 23, 3) := dc_180 (bq_nm bk_X0_listedOn_32 (j := 23) rfl rfl) (bq_nm bk_X0_listedOn_32 (j := 24) rfl rfl) (bq_nm bk_X0_listedOn_32 (j := 25) rfl rfl) rfl
theorem dX0_listedOn_58 : decode cX0_listedOn 58 = .ok (.iload_n 2, 1) := dc_28 (bq_nm bk_X0_listedOn_32 (j := 26) rfl rfl)
theorem dX0_listedOn_59 : decode cX0_listedOn 59 = .ok (.iconst 1, 1) := dc_4 (bq_nm bk_X0_listedOn_32 (j := 27) rfl rfl)
theorem dX0_listedOn_60 : decode cX0_listedOn 60 = .ok (.invokevirtual 66, 3) := dc_182 (bq_nm bk_X0_listedOn_32 (j := 28) rfl rfl) (bq_nm bk_X0_listedOn_32 (j := 29) rfl rfl) (bq_nm bk_X0_listedOn_32 (j := 30) rfl rfl) rfl
set_option maxRecDepth 20000 in
theorem bk_X0_listedOn_63 : ((cX0_listedOn.data.toList.drop 63).take 32).length = 32 ∧ eN (((cX0_listedOn.data.toList.drop 63).take 32).map UInt8.toNat) = 29853904208168744465534124233594909647917207677649594627184108084550953140385 := by decide +kernel
theorem dX0_listedOn_63 : decode cX0_listedOn 63 = .ok (.if_icmp .lt 5, 3) := dc_161 (bq_nm bk_X0_listedOn_63 (j := 0) rfl rfl) (bq_nm bk_X0_listedOn_63 (j := 1) rfl rfl) (bq_nm bk_X0_listedOn_63 (j := 2) rfl rfl) rfl
theorem dX0_listedOn_66 : decode cX0_listedOn 66 = .ok (.iload_n 3, 1) := dc_29 (bq_nm bk_X0_listedOn_63 (j := 3) rfl rfl)
theorem dX0_listedOn_67 : decode cX0_listedOn 67 = .ok (.istore_n 2, 1) := dc_61 (bq_nm bk_X0_listedOn_63 (j := 4) rfl rfl)
theorem dX0_listedOn_68 : decode cX0_listedOn 68 = .ok (.iinc 3 1, 3) := dc_132 (bq_nm bk_X0_listedOn_63 (j := 5) rfl rfl) (bq_nm bk_X0_listedOn_63 (j := 6) rfl rfl) (bq_nm bk_X0_listedOn_63 (j := 7) rfl rfl) rfl
theorem dX0_listedOn_71 : decode cX0_listedOn 71 = .ok (.goto (-67), 3) := dc_167 (bq_nm bk_X0_listedOn_63 (j := 8) rfl rfl) (bq_nm bk_X0_listedOn_63 (j := 9) rfl rfl) (bq_nm bk_X0_listedOn_63 (j := 10) rfl rfl) rfl
theorem dX0_listedOn_74 : decode cX0_listedOn 74 = .ok (.iload_n 2, 1) := dc_28 (bq_nm bk_X0_listedOn_63 (j := 11) rfl rfl)
theorem dX0_listedOn_75 : decode cX0_listedOn 75 = .ok (.iconst (-1), 1) := dc_2 (bq_nm bk_X0_listedOn_63 (j := 12) rfl rfl)
theorem dX0_listedOn_76 : decode cX0_listedOn 76 = .ok (.if_icmp .ne 10, 3) := dc_160 (bq_nm bk_X0_listedOn_63 (j := 13) rfl rfl) (bq_nm bk_X0_listedOn_63 (j := 14) rfl rfl) (bq_nm bk_X0_listedOn_63 (j := 15) rfl rfl) rfl
theorem dX0_listedOn_79 : decode cX0_listedOn 79 = .ok (.aload_n 0, 1) := dc_42 (bq_nm bk_X0_listedOn_63 (j := 16) rfl rfl)
theorem dX0_listedOn_80 : decode cX0_listedOn 80 = .ok (.invokevirtual 70, 3) := dc_182 (bq_nm bk_X0_listedOn_63 (j := 17) rfl rfl) (bq_nm bk_X0_listedOn_63 (j := 18) rfl rfl) (bq_nm bk_X0_listedOn_63 (j := 19) rfl rfl) rfl
theorem dX0_listedOn_83 : decode cX0_listedOn 83 = .ok (.goto 12, 3) := dc_167 (bq_nm bk_X0_listedOn_63 (j := 20) rfl rfl) (bq_nm bk_X0_listedOn_63 (j := 21) rfl rfl) (bq_nm bk_X0_listedOn_63 (j := 22) rfl rfl) rfl
theorem dX0_listedOn_86 : decode cX0_listedOn 86 = .ok (.aload_n 0, 1) := dc_42 (bq_nm bk_X0_listedOn_63 (j := 23) rfl rfl)
theorem dX0_listedOn_87 : decode cX0_listedOn 87 = .ok (.getfield 23, 3) := dc_180 (bq_nm bk_X0_listedOn_63 (j := 24) rfl rfl) (bq_nm bk_X0_listedOn_63 (j := 25) rfl rfl) (bq_nm bk_X0_listedOn_63 (j := 26) rfl rfl) rfl
theorem dX0_listedOn_90 : decode cX0_listedOn 90 = .ok (.iload_n 2, 1) := dc_28 (bq_nm bk_X0_listedOn_63 (j := 27) rfl rfl)
theorem dX0_listedOn_91 : decode cX0_listedOn 91 = .ok (.iconst 0, 1) := dc_3 (bq_nm bk_X0_listedOn_63 (j := 28) rfl rfl)
theorem dX0_listedOn_92 : decode cX0_listedOn 92 = .ok (.invokevirtual 66, 3) := dc_182 (bq_nm bk_X0_listedOn_63 (j := 29) rfl rfl) (bq_nm bk_X0_listedOn_63 (j := 30) rfl rfl) (bq_nm bk_X0_listedOn_63 (j := 31) rfl rfl) rfl
set_option maxRecDepth 20000 in
theorem bk_X0_listedOn_95 : ((cX0_listedOn.data.toList.drop 95).take 1).length = 1 ∧ eN (((cX0_listedOn.data.toList.drop 95).take 1).map UInt8.toNat) = 172 := by decide +kernel
theorem dX0_listedOn_95 : decode cX0_listedOn 95 = .ok (.ireturn, 1) := dc_172 (bq_nm bk_X0_listedOn_95 (j := 0) rfl rfl)
set_option maxRecDepth 20000 in
theorem bk_X0_inForce_0 : ((cX0_inForce.data.toList.drop 0).take 30).length = 30 ∧ eN (((cX0_inForce.data.toList.drop 0).take 30).map UInt8.toNat) = 290013860314257285665717030670845033723219824364623601135385723030158850 := by decide +kernel
theorem dX0_inForce_0 : decode cX0_inForce 0 = .ok (.iconst (-1), 1) := dc_2 (bq_nm bk_X0_inForce_0 (j := 0) rfl rfl)
theorem dX0_inForce_1 : decode cX0_inForce 1 = .ok (.istore_n 3, 1) := dc_62 (bq_nm bk_X0_inForce_0 (j := 1) rfl rfl)
theorem dX0_inForce_2 : decode cX0_inForce 2 = .ok (.iconst 0, 1) := dc_3 (bq_nm bk_X0_inForce_0 (j := 2) rfl rfl)
theorem dX0_inForce_3 : decode cX0_inForce 3 = .ok (.istore 4, 2) := dc_54 (bq_nm bk_X0_inForce_0 (j := 3) rfl rfl) (bq_nm bk_X0_inForce_0 (j := 4) rfl rfl)
theorem dX0_inForce_5 : decode cX0_inForce 5 = .ok (.iload 4, 2) := dc_21 (bq_nm bk_X0_inForce_0 (j := 5) rfl rfl) (bq_nm bk_X0_inForce_0 (j := 6) rfl rfl)
theorem dX0_inForce_7 : decode cX0_inForce 7 = .ok (.aload_n 0, 1) := dc_42 (bq_nm bk_X0_inForce_0 (j := 7) rfl rfl)
theorem dX0_inForce_8 : decode cX0_inForce 8 = .ok (.getfield 26, 3) := dc_180 (bq_nm bk_X0_inForce_0 (j := 8) rfl rfl) (bq_nm bk_X0_inForce_0 (j := 9) rfl rfl) (bq_nm bk_X0_inForce_0 (j := 10) rfl rfl) rfl
theorem dX0_inForce_11 : decode cX0_inForce 11 = .ok (.invokevirtual 58, 3) := dc_182 (bq_nm bk_X0_inForce_0 (j := 11) rfl rfl) (bq_nm bk_X0_inForce_0 (j := 12) rfl rfl) (bq_nm bk_X0_inForce_0 (j := 13) rfl rfl) rfl
theorem dX0_inForce_14 : decode cX0_inForce 14 = .ok (.if_icmp .ge 103, 3) := dc_162 (bq_nm bk_X0_inForce_0 (j := 14) rfl rfl) (bq_nm bk_X0_inForce_0 (j := 15) rfl rfl) (bq_nm bk_X0_inForce_0 (j := 16) rfl rfl) rfl
theorem dX0_inForce_17 : decode cX0_inForce 17 = .ok (.aload_n 0, 1) := dc_42 (bq_nm bk_X0_inForce_0 (j := 17) rfl rfl)
theorem dX0_inForce_18 : decode cX0_inForce 18 = .ok (.getfield 26, 3) := dc_180 (bq_nm bk_X0_inForce_0 (j := 18) rfl rfl) (bq_nm bk_X0_inForce_0 (j := 19) rfl rfl) (bq_nm bk_X0_inForce_0 (j := 20) rfl rfl) rfl
theorem dX0_inForce_21 : decode cX0_inForce 21 = .ok (.iload 4, 2) := dc_21 (bq_nm bk_X0_inForce_0 (j := 21) rfl rfl) (bq_nm bk_X0_inForce_0 (j := 22) rfl rfl)
theorem dX0_inForce_23 : decode cX0_inForce 23 = .ok (.iconst 2, 1) := dc_5 (bq_nm bk_X0_inForce_0 (j := 23) rfl rfl)
theorem dX0_inForce_24 : decode cX0_inForce 24 = .ok (.invokevirtual 66, 3) := dc_182 (bq_nm bk_X0_inForce_0 (j := 24) rfl rfl) (bq_nm bk_X0_inForce_0 (j := 25) rfl rfl) (bq_nm bk_X0_inForce_0 (j := 26) rfl rfl) rfl
theorem dX0_inForce_27 : decode cX0_inForce 27 = .ok (.istore 5, 2) := dc_54 (bq_nm bk_X0_inForce_0 (j := 27) rfl rfl) (bq_nm bk_X0_inForce_0 (j := 28) rfl rfl)
theorem dX0_inForce_29 : decode cX0_inForce 29 = .ok (.aload_n 0, 1) := dc_42 (bq_nm bk_X0_inForce_0 (j := 29) rfl rfl)
set_option maxRecDepth 20000 in
theorem bk_X0_inForce_30 : ((cX0_inForce.data.toList.drop 30).take 30).length = 30 ∧ eN (((cX0_inForce.data.toList.drop 30).take 30).map UInt8.toNat) = 13940511802212428213172662494177936930564979271260640831038418369249460 := by decide +kernel
theorem dX0_inForce_30 : decode cX0_inForce 30 = .ok (.getfield 26, 3) := dc_180 (bq_nm bk_X0_inForce_30 (j := 0) rfl rfl) (bq_nm bk_X0_inForce_30 (j := 1) rfl rfl) (bq_nm bk_X0_inForce_30 (j := 2) rfl rfl) rfl
theorem dX0_inForce_33 : decode cX0_inForce 33 = .ok (.iload 4, 2) := dc_21 (bq_nm bk_X0_inForce_30 (j := 3) rfl rfl) (bq_nm bk_X0_inForce_30 (j := 4) rfl rfl)
theorem dX0_inForce_35 : decode cX0_inForce 35 = .ok (.iconst 0, 1) := dc_3 (bq_nm bk_X0_inForce_30 (j := 5) rfl rfl)
theorem dX0_inForce_36 : decode cX0_inForce 36 = .ok (.invokevirtual 66, 3) := dc_182 (bq_nm bk_X0_inForce_30 (j := 6) rfl rfl) (bq_nm bk_X0_inForce_30 (j := 7) rfl rfl) (bq_nm bk_X0_inForce_30 (j := 8) rfl rfl) rfl
theorem dX0_inForce_39 : decode cX0_inForce 39 = .ok (.iload_n 1, 1) := dc_27 (bq_nm bk_X0_inForce_30 (j := 9) rfl rfl)
theorem dX0_inForce_40 : decode cX0_inForce 40 = .ok (.if_icmp .ne 33, 3) := dc_160 (bq_nm bk_X0_inForce_30 (j := 10) rfl rfl) (bq_nm bk_X0_inForce_30 (j := 11) rfl rfl) (bq_nm bk_X0_inForce_30 (j := 12) rfl rfl) rfl
theorem dX0_inForce_43 : decode cX0_inForce 43 = .ok (.aload_n 0, 1) := dc_42 (bq_nm bk_X0_inForce_30 (j := 13) rfl rfl)
theorem dX0_inForce_44 : decode cX0_inForce 44 = .ok (.getfield 26, 3) := dc_180 (bq_nm bk_X0_inForce_30 (j := 14) rfl rfl) (bq_nm bk_X0_inForce_30 (j := 15) rfl rfl) (bq_nm bk_X0_inForce_30 (j := 16) rfl rfl) rfl
theorem dX0_inForce_47 : decode cX0_inForce 47 = .ok (.iload 4, 2) := dc_21 (bq_nm bk_X0_inForce_30 (j := 17) rfl rfl) (bq_nm bk_X0_inForce_30 (j := 18) rfl rfl)
theorem dX0_inForce_49 : decode cX0_inForce 49 = .ok (.iconst 1, 1) := dc_4 (bq_nm bk_X0_inForce_30 (j := 19) rfl rfl)
theorem dX0_inForce_50 : decode cX0_inForce 50 = .ok (.invokevirtual 66, 3) := dc_182 (bq_nm bk_X0_inForce_30 (j := 20) rfl rfl) (bq_nm bk_X0_inForce_30 (j := 21) rfl rfl) (bq_nm bk_X0_inForce_30 (j := 22) rfl rfl) rfl
theorem dX0_inForce_53 : decode cX0_inForce 53 = .ok (.iload_n 2, 1) := dc_28 (bq_nm bk_X0_inForce_30 (j := 23) rfl rfl)
theorem dX0_inForce_54 : decode cX0_inForce 54 = .ok (.if_icmp .gt 19, 3) := dc_163 (bq_nm bk_X0_inForce_30 (j := 24) rfl rfl) (bq_nm bk_X0_inForce_30 (j := 25) rfl rfl) (bq_nm bk_X0_inForce_30 (j := 26) rfl rfl) rfl
theorem dX0_inForce_57 : decode cX0_inForce 57 = .ok (.iload 5, 2) := dc_21 (bq_nm bk_X0_inForce_30 (j := 27) rfl rfl) (bq_nm bk_X0_inForce_30 (j := 28) rfl rfl)
theorem dX0_inForce_59 : decode cX0_inForce 59 = .ok (.iconst (-1), 1) := dc_2 (bq_nm bk_X0_inForce_30 (j := 29) rfl rfl)
set_option maxRecDepth 20000 in
theorem bk_X0_inForce_60 : ((cX0_inForce.data.toList.drop 60).take 32).length = 32 ∧ eN (((cX0_inForce.data.toList.drop 60).take 32).map UInt8.toNat) = 1846534647071958654615163052080081372388589897574631436088778191380922564767 := by decide +kernel
theorem dX0_inForce_60 : decode cX0_inForce 60 = .ok (.if_icmp .eq 9, 3) := dc_159 (bq_nm bk_X0_inForce_60 (j := 0) rfl rfl) (bq_nm bk_X0_inForce_60 (j := 1) rfl rfl) (bq_nm bk_X0_inForce_60 (j := 2) rfl rfl) rfl
theorem dX0_inForce_63 : decode cX0_inForce 63 = .ok (.iload 5, 2) := dc_21 (bq_nm bk_X0_inForce_60 (j := 3) rfl rfl) (bq_nm bk_X0_inForce_60 (j := 4) rfl rfl)
theorem dX0_inForce_65 : decode cX0_inForce 65 = .ok (.iload_n 2, 1) := dc_28 (bq_nm bk_X0_inForce_60 (j := 5) rfl rfl)
theorem dX0_inForce_66 : decode cX0_inForce 66 = .ok (.if_icmp .le 7, 3) := dc_164 (bq_nm bk_X0_inForce_60 (j := 6) rfl rfl) (bq_nm bk_X0_inForce_60 (j := 7) rfl rfl) (bq_nm bk_X0_inForce_60 (j := 8) rfl rfl) rfl
theorem dX0_inForce_69 : decode cX0_inForce 69 = .ok (.iconst 1, 1) := dc_4 (bq_nm bk_X0_inForce_60 (j := 9) rfl rfl)
theorem dX0_inForce_70 : decode cX0_inForce 70 = .ok (.goto 4, 3) := dc_167 (bq_nm bk_X0_inForce_60 (j := 10) rfl rfl) (bq_nm bk_X0_inForce_60 (j := 11) rfl rfl) (bq_nm bk_X0_inForce_60 (j := 12) rfl rfl) rfl
theorem dX0_inForce_73 : decode cX0_inForce 73 = .ok (.iconst 0, 1) := dc_3 (bq_nm bk_X0_inForce_60 (j := 13) rfl rfl)
theorem dX0_inForce_74 : decode cX0_inForce 74 = .ok (.istore 6, 2) := dc_54 (bq_nm bk_X0_inForce_60 (j := 14) rfl rfl) (bq_nm bk_X0_inForce_60 (j := 15) rfl rfl)
theorem dX0_inForce_76 : decode cX0_inForce 76 = .ok (.iload 6, 2) := dc_21 (bq_nm bk_X0_inForce_60 (j := 16) rfl rfl) (bq_nm bk_X0_inForce_60 (j := 17) rfl rfl)
theorem dX0_inForce_78 : decode cX0_inForce 78 = .ok (.ifCond .eq 33, 3) := dc_153 (bq_nm bk_X0_inForce_60 (j := 18) rfl rfl) (bq_nm bk_X0_inForce_60 (j := 19) rfl rfl) (bq_nm bk_X0_inForce_60 (j := 20) rfl rfl) rfl
theorem dX0_inForce_81 : decode cX0_inForce 81 = .ok (.iload_n 3, 1) := dc_29 (bq_nm bk_X0_inForce_60 (j := 21) rfl rfl)
theorem dX0_inForce_82 : decode cX0_inForce 82 = .ok (.iconst (-1), 1) := dc_2 (bq_nm bk_X0_inForce_60 (j := 22) rfl rfl)
theorem dX0_inForce_83 : decode cX0_inForce 83 = .ok (.if_icmp .eq 25, 3) := dc_159 (bq_nm bk_X0_inForce_60 (j := 23) rfl rfl) (bq_nm bk_X0_inForce_60 (j := 24) rfl rfl) (bq_nm bk_X0_inForce_60 (j := 25) rfl rfl) rfl
theorem dX0_inForce_86 : decode cX0_inForce 86 = .ok (.aload_n 0, 1) := dc_42 (bq_nm bk_X0_inForce_60 (j := 26) rfl rfl)
theorem dX0_inForce_87 : decode cX0_inForce 87 = .ok (.getfield 26, 3) := dc_180 (bq_nm bk_X0_inForce_60 (j := 27) rfl rfl) (bq_nm bk_X0_inForce_60 (j := 28) rfl rfl) (bq_nm bk_X0_inForce_60 (j := 29) rfl rfl) rfl
theorem dX0_inForce_90 : decode cX0_inForce 90 = .ok (.iload 4, 2) := dc_21 (bq_nm bk_X0_inForce_60 (j := 30) rfl rfl) (bq_nm bk_X0_inForce_60 (j := 31) rfl rfl)
set_option maxRecDepth 20000 in
theorem bk_X0_inForce_92 : ((cX0_inForce.data.toList.drop 92).take 27).length = 27 ∧ eN (((cX0_inForce.data.toList.drop 92).take 27).map UInt8.toNat) = 70804226170628082058736422261726814670072259309350133297448007172 := by decide +kernel
theorem dX0_inForce_92 : decode cX0_inForce 92 = .ok (.iconst 1, 1) := dc_4 (bq_nm bk_X0_inForce_92 (j := 0) rfl rfl)
theorem dX0_inForce_93 : decode cX0_inForce 93 = .ok (.invokevirtual 66, 3) := dc_182 (bq_nm bk_X0_inForce_92 (j := 1) rfl rfl) (bq_nm bk_X0_inForce_92 (j := 2) rfl rfl) (bq_nm bk_X0_inForce_92 (j := 3) rfl rfl) rfl
theorem dX0_inForce_96 : decode cX0_inForce 96 = .ok (.aload_n 0, 1) := dc_42 (bq_nm bk_X0_inForce_92 (j := 4) rfl rfl)
theorem dX0_inForce_97 : decode cX0_inForce 97 = .ok (.getfield 26, 3) := dc_180 (bq_nm bk_X0_inForce_92 (j := 5) rfl rfl) (bq_nm bk_X0_inForce_92 (j := 6) rfl rfl) (bq_nm bk_X0_inForce_92 (j := 7) rfl rfl) rfl
theorem dX0_inForce_100 : decode cX0_inForce 100 = .ok (.iload_n 3, 1) := dc_29 (bq_nm bk_X0_inForce_92 (j := 8) rfl rfl)
theorem dX0_inForce_101 : decode cX0_inForce 101 = .ok (.iconst 1, 1) := dc_4 (bq_nm bk_X0_inForce_92 (j := 9) rfl rfl)
theorem dX0_inForce_102 : decode cX0_inForce 102 = .ok (.invokevirtual 66, 3) := dc_182 (bq_nm bk_X0_inForce_92 (j := 10) rfl rfl) (bq_nm bk_X0_inForce_92 (j := 11) rfl rfl) (bq_nm bk_X0_inForce_92 (j := 12) rfl rfl) rfl
theorem dX0_inForce_105 : decode cX0_inForce 105 = .ok (.if_icmp .lt 6, 3) := dc_161 (bq_nm bk_X0_inForce_92 (j := 13) rfl rfl) (bq_nm bk_X0_inForce_92 (j := 14) rfl rfl) (bq_nm bk_X0_inForce_92 (j := 15) rfl rfl) rfl
theorem dX0_inForce_108 : decode cX0_inForce 108 = .ok (.iload 4, 2) := dc_21 (bq_nm bk_X0_inForce_92 (j := 16) rfl rfl) (bq_nm bk_X0_inForce_92 (j := 17) rfl rfl)
theorem dX0_inForce_110 : decode cX0_inForce 110 = .ok (.istore_n 3, 1) := dc_62 (bq_nm bk_X0_inForce_92 (j := 18) rfl rfl)
theorem dX0_inForce_111 : decode cX0_inForce 111 = .ok (.iinc 4 1, 3) := dc_132 (bq_nm bk_X0_inForce_92 (j := 19) rfl rfl) (bq_nm bk_X0_inForce_92 (j := 20) rfl rfl) (bq_nm bk_X0_inForce_92 (j := 21) rfl rfl) rfl
theorem dX0_inForce_114 : decode cX0_inForce 114 = .ok (.goto (-109), 3) := dc_167 (bq_nm bk_X0_inForce_92 (j := 22) rfl rfl) (bq_nm bk_X0_inForce_92 (j := 23) rfl rfl) (bq_nm bk_X0_inForce_92 (j := 24) rfl rfl) rfl
theorem dX0_inForce_117 : decode cX0_inForce 117 = .ok (.iload_n 3, 1) := dc_29 (bq_nm bk_X0_inForce_92 (j := 25) rfl rfl)
theorem dX0_inForce_118 : decode cX0_inForce 118 = .ok (.ireturn, 1) := dc_172 (bq_nm bk_X0_inForce_92 (j := 26) rfl rfl)
set_option maxRecDepth 20000 in
theorem bk_X0_lawOf_0 : ((cX0_lawOf.data.toList.drop 0).take 25).length = 25 ∧ eN (((cX0_lawOf.data.toList.drop 0).take 25).map UInt8.toNat) = 1106633488142627817643926072128672522645999328004836895234858 := by decide +kernel
theorem dX0_lawOf_0 : decode cX0_lawOf 0 = .ok (.aload_n 0, 1) := dc_42 (bq_nm bk_X0_lawOf_0 (j := 0) rfl rfl)
theorem dX0_lawOf_1 : decode cX0_lawOf 1 = .ok (.iload_n 1, 1) := dc_27 (bq_nm bk_X0_lawOf_0 (j := 1) rfl rfl)
theorem dX0_lawOf_2 : decode cX0_lawOf 2 = .ok (.iload_n 2, 1) := dc_28 (bq_nm bk_X0_lawOf_0 (j := 2) rfl rfl)
theorem dX0_lawOf_3 : decode cX0_lawOf 3 = .ok (.invokevirtual 73, 3) := dc_182 (bq_nm bk_X0_lawOf_0 (j := 3) rfl rfl) (bq_nm bk_X0_lawOf_0 (j := 4) rfl rfl) (bq_nm bk_X0_lawOf_0 (j := 5) rfl rfl) rfl
theorem dX0_lawOf_6 : decode cX0_lawOf 6 = .ok (.istore_n 3, 1) := dc_62 (bq_nm bk_X0_lawOf_0 (j := 6) rfl rfl)
theorem dX0_lawOf_7 : decode cX0_lawOf 7 = .ok (.iload_n 3, 1) := dc_29 (bq_nm bk_X0_lawOf_0 (j := 7) rfl rfl)
theorem dX0_lawOf_8 : decode cX0_lawOf 8 = .ok (.iconst (-1), 1) := dc_2 (bq_nm bk_X0_lawOf_0 (j := 8) rfl rfl)
theorem dX0_lawOf_9 : decode cX0_lawOf 9 = .ok (.if_icmp .ne 7, 3) := dc_160 (bq_nm bk_X0_lawOf_0 (j := 9) rfl rfl) (bq_nm bk_X0_lawOf_0 (j := 10) rfl rfl) (bq_nm bk_X0_lawOf_0 (j := 11) rfl rfl) rfl
theorem dX0_lawOf_12 : decode cX0_lawOf 12 = .ok (.aconst_null, 1) := dc_1 (bq_nm bk_X0_lawOf_0 (j := 12) rfl rfl)
theorem dX0_lawOf_13 : decode cX0_lawOf 13 = .ok (.goto 11, 3) := dc_167 (bq_nm bk_X0_lawOf_0 (j := 13) rfl rfl) (bq_nm bk_X0_lawOf_0 (j := 14) rfl rfl) (bq_nm bk_X0_lawOf_0 (j := 15) rfl rfl) rfl
theorem dX0_lawOf_16 : decode cX0_lawOf 16 = .ok (.aload_n 0, 1) := dc_42 (bq_nm bk_X0_lawOf_0 (j := 16) rfl rfl)
theorem dX0_lawOf_17 : decode cX0_lawOf 17 = .ok (.getfield 37, 3) := dc_180 (bq_nm bk_X0_lawOf_0 (j := 17) rfl rfl) (bq_nm bk_X0_lawOf_0 (j := 18) rfl rfl) (bq_nm bk_X0_lawOf_0 (j := 19) rfl rfl) rfl
theorem dX0_lawOf_20 : decode cX0_lawOf 20 = .ok (.iload_n 3, 1) := dc_29 (bq_nm bk_X0_lawOf_0 (j := 20) rfl rfl)
theorem dX0_lawOf_21 : decode cX0_lawOf 21 = .ok (.invokevirtual 76, 3) := dc_182 (bq_nm bk_X0_lawOf_0 (j := 21) rfl rfl) (bq_nm bk_X0_lawOf_0 (j := 22) rfl rfl) (bq_nm bk_X0_lawOf_0 (j := 23) rfl rfl) rfl
theorem dX0_lawOf_24 : decode cX0_lawOf 24 = .ok (.areturn, 1) := dc_176 (bq_nm bk_X0_lawOf_0 (j := 24) rfl rfl)
set_option maxRecDepth 20000 in
theorem bk_X0_kinOfSides_0 : ((cX0_kinOfSides.data.toList.drop 0).take 32).length = 32 ∧ eN (((cX0_kinOfSides.data.toList.drop 0).take 32).map UInt8.toNat) = 19006118953008111888749140865226273452112644193598260956183209351740473425411 := by decide +kernel
theorem dX0_kinOfSides_0 : decode cX0_kinOfSides 0 = .ok (.iconst 0, 1) := dc_3 (bq_nm bk_X0_kinOfSides_0 (j := 0) rfl rfl)
theorem dX0_kinOfSides_1 : decode cX0_kinOfSides 1 = .ok (.istore_n 3, 1) := dc_62 (bq_nm bk_X0_kinOfSides_0 (j := 1) rfl rfl)
theorem dX0_kinOfSides_2 : decode cX0_kinOfSides 2 = .ok (.iconst 0, 1) := dc_3 (bq_nm bk_X0_kinOfSides_0 (j := 2) rfl rfl)
theorem dX0_kinOfSides_3 : decode cX0_kinOfSides 3 = .ok (.istore 4, 2) := dc_54 (bq_nm bk_X0_kinOfSides_0 (j := 3) rfl rfl) (bq_nm bk_X0_kinOfSides_0 (j := 4) rfl rfl)
theorem dX0_kinOfSides_5 : decode cX0_kinOfSides 5 = .ok (.iload 4, 2) := dc_21 (bq_nm bk_X0_kinOfSides_0 (j := 5) rfl rfl) (bq_nm bk_X0_kinOfSides_0 (j := 6) rfl rfl)
theorem dX0_kinOfSides_7 : decode cX0_kinOfSides 7 = .ok (.aload_n 0, 1) := dc_42 (bq_nm bk_X0_kinOfSides_0 (j := 7) rfl rfl)
theorem dX0_kinOfSides_8 : decode cX0_kinOfSides 8 = .ok (.getfield 20, 3) := dc_180 (bq_nm bk_X0_kinOfSides_0 (j := 8) rfl rfl) (bq_nm bk_X0_kinOfSides_0 (j := 9) rfl rfl) (bq_nm bk_X0_kinOfSides_0 (j := 10) rfl rfl) rfl
theorem dX0_kinOfSides_11 : decode cX0_kinOfSides 11 = .ok (.invokevirtual 58, 3) := dc_182 (bq_nm bk_X0_kinOfSides_0 (j := 11) rfl rfl) (bq_nm bk_X0_kinOfSides_0 (j := 12) rfl rfl) (bq_nm bk_X0_kinOfSides_0 (j := 13) rfl rfl) rfl
theorem dX0_kinOfSides_14 : decode cX0_kinOfSides 14 = .ok (.if_icmp .ge 90, 3) := dc_162 (bq_nm bk_X0_kinOfSides_0 (j := 14) rfl rfl) (bq_nm bk_X0_kinOfSides_0 (j := 15) rfl rfl) (bq_nm bk_X0_kinOfSides_0 (j := 16) rfl rfl) rfl
theorem dX0_kinOfSides_17 : decode cX0_kinOfSides 17 = .ok (.aload_n 0, 1) := dc_42 (bq_nm bk_X0_kinOfSides_0 (j := 17) rfl rfl)
theorem dX0_kinOfSides_18 : decode cX0_kinOfSides 18 = .ok (.getfield 20, 3) := dc_180 (bq_nm bk_X0_kinOfSides_0 (j := 18) rfl rfl) (bq_nm bk_X0_kinOfSides_0 (j := 19) rfl rfl) (bq_nm bk_X0_kinOfSides_0 (j := 20) rfl rfl) rfl
theorem dX0_kinOfSides_21 : decode cX0_kinOfSides 21 = .ok (.iload 4, 2) := dc_21 (bq_nm bk_X0_kinOfSides_0 (j := 21) rfl rfl) (bq_nm bk_X0_kinOfSides_0 (j := 22) rfl rfl)
theorem dX0_kinOfSides_23 : decode cX0_kinOfSides 23 = .ok (.iconst 1, 1) := dc_4 (bq_nm bk_X0_kinOfSides_0 (j := 23) rfl rfl)
theorem dX0_kinOfSides_24 : decode cX0_kinOfSides 24 = .ok (.invokevirtual 66, 3) := dc_182 (bq_nm bk_X0_kinOfSides_0 (j := 24) rfl rfl) (bq_nm bk_X0_kinOfSides_0 (j := 25) rfl rfl) (bq_nm bk_X0_kinOfSides_0 (j := 26) rfl rfl) rfl
theorem dX0_kinOfSides_27 : decode cX0_kinOfSides 27 = .ok (.istore 5, 2) := dc_54 (bq_nm bk_X0_kinOfSides_0 (j := 27) rfl rfl) (bq_nm bk_X0_kinOfSides_0 (j := 28) rfl rfl)
theorem dX0_kinOfSides_29 : decode cX0_kinOfSides 29 = .ok (.iload 5, 2) := dc_21 (bq_nm bk_X0_kinOfSides_0 (j := 29) rfl rfl) (bq_nm bk_X0_kinOfSides_0 (j := 30) rfl rfl)
theorem dX0_kinOfSides_31 : decode cX0_kinOfSides 31 = .ok (.aload_n 0, 1) := dc_42 (bq_nm bk_X0_kinOfSides_0 (j := 31) rfl rfl)
set_option maxRecDepth 20000 in
theorem bk_X0_kinOfSides_32 : ((cX0_kinOfSides.data.toList.drop 32).take 32).length = 32 ∧ eN (((cX0_kinOfSides.data.toList.drop 32).take 32).map UInt8.toNat) = 2809307646145164411306763695024243116317706366029967244675938140629571010740 := by decide +kernel
theorem dX0_kinOfSides_32 : decode cX0_kinOfSides 32 = .ok (.getfield 29, 3) := dc_180 (bq_nm bk_X0_kinOfSides_32 (j := 0) rfl rfl) (bq_nm bk_X0_kinOfSides_32 (j := 1) rfl rfl) (bq_nm bk_X0_kinOfSides_32 (j := 2) rfl rfl) rfl
theorem dX0_kinOfSides_35 : decode cX0_kinOfSides 35 = .ok (.iload_n 1, 1) := dc_27 (bq_nm bk_X0_kinOfSides_32 (j := 3) rfl rfl)
theorem dX0_kinOfSides_36 : decode cX0_kinOfSides 36 = .ok (.iconst 3, 1) := dc_6 (bq_nm bk_X0_kinOfSides_32 (j := 4) rfl rfl)
theorem dX0_kinOfSides_37 : decode cX0_kinOfSides 37 = .ok (.invokevirtual 66, 3) := dc_182 (bq_nm bk_X0_kinOfSides_32 (j := 5) rfl rfl) (bq_nm bk_X0_kinOfSides_32 (j := 6) rfl rfl) (bq_nm bk_X0_kinOfSides_32 (j := 7) rfl rfl) rfl
theorem dX0_kinOfSides_40 : decode cX0_kinOfSides 40 = .ok (.if_icmp .eq 17, 3) := dc_159 (bq_nm bk_X0_kinOfSides_32 (j := 8) rfl rfl) (bq_nm bk_X0_kinOfSides_32 (j := 9) rfl rfl) (bq_nm bk_X0_kinOfSides_32 (j := 10) rfl rfl) rfl
theorem dX0_kinOfSides_43 : decode cX0_kinOfSides 43 = .ok (.iload 5, 2) := dc_21 (bq_nm bk_X0_kinOfSides_32 (j := 11) rfl rfl) (bq_nm bk_X0_kinOfSides_32 (j := 12) rfl rfl)
theorem dX0_kinOfSides_45 : decode cX0_kinOfSides 45 = .ok (.aload_n 0, 1) := dc_42 (bq_nm bk_X0_kinOfSides_32 (j := 13) rfl rfl)
theorem dX0_kinOfSides_46 : decode cX0_kinOfSides 46 = .ok (.getfield 29, 3) := dc_180 (bq_nm bk_X0_kinOfSides_32 (j := 14) rfl rfl) (bq_nm bk_X0_kinOfSides_32 (j := 15) rfl rfl) (bq_nm bk_X0_kinOfSides_32 (j := 16) rfl rfl) rfl
theorem dX0_kinOfSides_49 : decode cX0_kinOfSides 49 = .ok (.iload_n 1, 1) := dc_27 (bq_nm bk_X0_kinOfSides_32 (j := 17) rfl rfl)
theorem dX0_kinOfSides_50 : decode cX0_kinOfSides 50 = .ok (.iconst 4, 1) := dc_7 (bq_nm bk_X0_kinOfSides_32 (j := 18) rfl rfl)
theorem dX0_kinOfSides_51 : decode cX0_kinOfSides 51 = .ok (.invokevirtual 66, 3) := dc_182 (bq_nm bk_X0_kinOfSides_32 (j := 19) rfl rfl) (bq_nm bk_X0_kinOfSides_32 (j := 20) rfl rfl) (bq_nm bk_X0_kinOfSides_32 (j := 21) rfl rfl) rfl
theorem dX0_kinOfSides_54 : decode cX0_kinOfSides 54 = .ok (.if_icmp .ne 7, 3) := dc_160 (bq_nm bk_X0_kinOfSides_32 (j := 22) rfl rfl) (bq_nm bk_X0_kinOfSides_32 (j := 23) rfl rfl) (bq_nm bk_X0_kinOfSides_32 (j := 24) rfl rfl) rfl
theorem dX0_kinOfSides_57 : decode cX0_kinOfSides 57 = .ok (.iconst 1, 1) := dc_4 (bq_nm bk_X0_kinOfSides_32 (j := 25) rfl rfl)
theorem dX0_kinOfSides_58 : decode cX0_kinOfSides 58 = .ok (.goto 4, 3) := dc_167 (bq_nm bk_X0_kinOfSides_32 (j := 26) rfl rfl) (bq_nm bk_X0_kinOfSides_32 (j := 27) rfl rfl) (bq_nm bk_X0_kinOfSides_32 (j := 28) rfl rfl) rfl
theorem dX0_kinOfSides_61 : decode cX0_kinOfSides 61 = .ok (.iconst 0, 1) := dc_3 (bq_nm bk_X0_kinOfSides_32 (j := 29) rfl rfl)
theorem dX0_kinOfSides_62 : decode cX0_kinOfSides 62 = .ok (.istore 6, 2) := dc_54 (bq_nm bk_X0_kinOfSides_32 (j := 30) rfl rfl) (bq_nm bk_X0_kinOfSides_32 (j := 31) rfl rfl)
set_option maxRecDepth 20000 in
theorem bk_X0_kinOfSides_64 : ((cX0_kinOfSides.data.toList.drop 64).take 32).length = 32 ∧ eN (((cX0_kinOfSides.data.toList.drop 64).take 32).map UInt8.toNat) = 54394158643295249642789052694845860558110369525520238373016165637329279059477 := by decide +kernel
theorem dX0_kinOfSides_64 : decode cX0_kinOfSides 64 = .ok (.iload 6, 2) := dc_21 (bq_nm bk_X0_kinOfSides_64 (j := 0) rfl rfl) (bq_nm bk_X0_kinOfSides_64 (j := 1) rfl rfl)
theorem dX0_kinOfSides_66 : decode cX0_kinOfSides 66 = .ok (.ifCond .eq 32, 3) := dc_153 (bq_nm bk_X0_kinOfSides_64 (j := 2) rfl rfl) (bq_nm bk_X0_kinOfSides_64 (j := 3) rfl rfl) (bq_nm bk_X0_kinOfSides_64 (j := 4) rfl rfl) rfl
theorem dX0_kinOfSides_69 : decode cX0_kinOfSides 69 = .ok (.aload_n 0, 1) := dc_42 (bq_nm bk_X0_kinOfSides_64 (j := 5) rfl rfl)
theorem dX0_kinOfSides_70 : decode cX0_kinOfSides 70 = .ok (.getfield 20, 3) := dc_180 (bq_nm bk_X0_kinOfSides_64 (j := 6) rfl rfl) (bq_nm bk_X0_kinOfSides_64 (j := 7) rfl rfl) (bq_nm bk_X0_kinOfSides_64 (j := 8) rfl rfl) rfl
theorem dX0_kinOfSides_73 : decode cX0_kinOfSides 73 = .ok (.iload 4, 2) := dc_21 (bq_nm bk_X0_kinOfSides_64 (j := 9) rfl rfl) (bq_nm bk_X0_kinOfSides_64 (j := 10) rfl rfl)
theorem dX0_kinOfSides_75 : decode cX0_kinOfSides 75 = .ok (.iconst 2, 1) := dc_5 (bq_nm bk_X0_kinOfSides_64 (j := 11) rfl rfl)
theorem dX0_kinOfSides_76 : decode cX0_kinOfSides 76 = .ok (.invokevirtual 66, 3) := dc_182 (bq_nm bk_X0_kinOfSides_64 (j := 12) rfl rfl) (bq_nm bk_X0_kinOfSides_64 (j := 13) rfl rfl) (bq_nm bk_X0_kinOfSides_64 (j := 14) rfl rfl) rfl
theorem dX0_kinOfSides_79 : decode cX0_kinOfSides 79 = .ok (.iload_n 2, 1) := dc_28 (bq_nm bk_X0_kinOfSides_64 (j := 15) rfl rfl)
theorem dX0_kinOfSides_80 : decode cX0_kinOfSides 80 = .ok (.if_icmp .gt 18, 3) := dc_163 (bq_nm bk_X0_kinOfSides_64 (j := 16) rfl rfl) (bq_nm bk_X0_kinOfSides_64 (j := 17) rfl rfl) (bq_nm bk_X0_kinOfSides_64 (j := 18) rfl rfl) rfl
theorem dX0_kinOfSides_83 : decode cX0_kinOfSides 83 = .ok (.iload_n 3, 1) := dc_29 (bq_nm bk_X0_kinOfSides_64 (j := 19) rfl rfl)
theorem dX0_kinOfSides_84 : decode cX0_kinOfSides 84 = .ok (.iconst 1, 1) := dc_4 (bq_nm bk_X0_kinOfSides_64 (j := 20) rfl rfl)
theorem dX0_kinOfSides_85 : decode cX0_kinOfSides 85 = .ok (.aload_n 0, 1) := dc_42 (bq_nm bk_X0_kinOfSides_64 (j := 21) rfl rfl)
theorem dX0_kinOfSides_86 : decode cX0_kinOfSides 86 = .ok (.getfield 20, 3) := dc_180 (bq_nm bk_X0_kinOfSides_64 (j := 22) rfl rfl) (bq_nm bk_X0_kinOfSides_64 (j := 23) rfl rfl) (bq_nm bk_X0_kinOfSides_64 (j := 24) rfl rfl) rfl
theorem dX0_kinOfSides_89 : decode cX0_kinOfSides 89 = .ok (.iload 4, 2) := dc_21 (bq_nm bk_X0_kinOfSides_64 (j := 25) rfl rfl) (bq_nm bk_X0_kinOfSides_64 (j := 26) rfl rfl)
theorem dX0_kinOfSides_91 : decode cX0_kinOfSides 91 = .ok (.iconst 0, 1) := dc_3 (bq_nm bk_X0_kinOfSides_64 (j := 27) rfl rfl)
theorem dX0_kinOfSides_92 : decode cX0_kinOfSides 92 = .ok (.invokevirtual 66, 3) := dc_182 (bq_nm bk_X0_kinOfSides_64 (j := 28) rfl rfl) (bq_nm bk_X0_kinOfSides_64 (j := 29) rfl rfl) (bq_nm bk_X0_kinOfSides_64 (j := 30) rfl rfl) rfl
theorem dX0_kinOfSides_95 : decode cX0_kinOfSides 95 = .ok (.ishl, 1) := dc_120 (bq_nm bk_X0_kinOfSides_64 (j := 31) rfl rfl)
set_option maxRecDepth 20000 in
theorem bk_X0_kinOfSides_96 : ((cX0_kinOfSides.data.toList.drop 96).take 10).length = 10 ∧ eN (((cX0_kinOfSides.data.toList.drop 96).take 10).map UInt8.toNat) = 812793591806504496021120 := by decide +kernel
theorem dX0_kinOfSides_96 : decode cX0_kinOfSides 96 = .ok (.ior, 1) := dc_128 (bq_nm bk_X0_kinOfSides_96 (j := 0) rfl rfl)
theorem dX0_kinOfSides_97 : decode cX0_kinOfSides 97 = .ok (.istore_n 3, 1) := dc_62 (bq_nm bk_X0_kinOfSides_96 (j := 1) rfl rfl)
theorem dX0_kinOfSides_98 : decode cX0_kinOfSides 98 = .ok (.iinc 4 1, 3) := dc_132 (bq_nm bk_X0_kinOfSides_96 (j := 2) rfl rfl) (bq_nm bk_X0_kinOfSides_96 (j := 3) rfl rfl) (bq_nm bk_X0_kinOfSides_96 (j := 4) rfl rfl) rfl
theorem dX0_kinOfSides_101 : decode cX0_kinOfSides 101 = .ok (.goto (-96), 3) := dc_167 (bq_nm bk_X0_kinOfSides_96 (j := 5) rfl rfl) (bq_nm bk_X0_kinOfSides_96 (j := 6) rfl rfl) (bq_nm bk_X0_kinOfSides_96 (j := 7) rfl rfl) rfl
theorem dX0_kinOfSides_104 : decode cX0_kinOfSides 104 = .ok (.iload_n 3, 1) := dc_29 (bq_nm bk_X0_kinOfSides_96 (j := 8) rfl rfl)
theorem dX0_kinOfSides_105 : decode cX0_kinOfSides 105 = .ok (.ireturn, 1) := dc_172 (bq_nm bk_X0_kinOfSides_96 (j := 9) rfl rfl)
set_option maxRecDepth 20000 in
theorem bk_X0_ofTradeWanted_0 : ((cX0_ofTradeWanted.data.toList.drop 0).take 29).length = 29 ∧ eN (((cX0_ofTradeWanted.data.toList.drop 0).take 29).map UInt8.toNat) = 4645536102721979629229282172035040217439728864733158441951217735218218 := by decide +kernel
theorem dX0_ofTradeWanted_0 : decode cX0_ofTradeWanted 0 = .ok (.aload_n 0, 1) := dc_42 (bq_nm bk_X0_ofTradeWanted_0 (j := 0) rfl rfl)
theorem dX0_ofTradeWanted_1 : decode cX0_ofTradeWanted 1 = .ok (.getfield 29, 3) := dc_180 (bq_nm bk_X0_ofTradeWanted_0 (j := 1) rfl rfl) (bq_nm bk_X0_ofTradeWanted_0 (j := 2) rfl rfl) (bq_nm bk_X0_ofTradeWanted_0 (j := 3) rfl rfl) rfl
theorem dX0_ofTradeWanted_4 : decode cX0_ofTradeWanted 4 = .ok (.iload_n 1, 1) := dc_27 (bq_nm bk_X0_ofTradeWanted_0 (j := 4) rfl rfl)
theorem dX0_ofTradeWanted_5 : decode cX0_ofTradeWanted 5 = .ok (.iconst 5, 1) := dc_8 (bq_nm bk_X0_ofTradeWanted_0 (j := 5) rfl rfl)
theorem dX0_ofTradeWanted_6 : decode cX0_ofTradeWanted 6 = .ok (.invokevirtual 66, 3) := dc_182 (bq_nm bk_X0_ofTradeWanted_0 (j := 6) rfl rfl) (bq_nm bk_X0_ofTradeWanted_0 (j := 7) rfl rfl) (bq_nm bk_X0_ofTradeWanted_0 (j := 8) rfl rfl) rfl
theorem dX0_ofTradeWanted_9 : decode cX0_ofTradeWanted 9 = .ok (.istore_n 2, 1) := dc_61 (bq_nm bk_X0_ofTradeWanted_0 (j := 9) rfl rfl)
theorem dX0_ofTradeWanted_10 : decode cX0_ofTradeWanted 10 = .ok (.iload_n 2, 1) := dc_28 (bq_nm bk_X0_ofTradeWanted_0 (j := 10) rfl rfl)
theorem dX0_ofTradeWanted_11 : decode cX0_ofTradeWanted 11 = .ok (.iconst (-1), 1) := dc_2 (bq_nm bk_X0_ofTradeWanted_0 (j := 11) rfl rfl)
theorem dX0_ofTradeWanted_12 : decode cX0_ofTradeWanted 12 = .ok (.if_icmp .ne 10, 3) := dc_160 (bq_nm bk_X0_ofTradeWanted_0 (j := 12) rfl rfl) (bq_nm bk_X0_ofTradeWanted_0 (j := 13) rfl rfl) (bq_nm bk_X0_ofTradeWanted_0 (j := 14) rfl rfl) rfl
theorem dX0_ofTradeWanted_15 : decode cX0_ofTradeWanted 15 = .ok (.aload_n 0, 1) := dc_42 (bq_nm bk_X0_ofTradeWanted_0 (j := 15) rfl rfl)
theorem dX0_ofTradeWanted_16 : decode cX0_ofTradeWanted 16 = .ok (.invokevirtual 70, 3) := dc_182 (bq_nm bk_X0_ofTradeWanted_0 (j := 16) rfl rfl) (bq_nm bk_X0_ofTradeWanted_0 (j := 17) rfl rfl) (bq_nm bk_X0_ofTradeWanted_0 (j := 18) rfl rfl) rfl
theorem dX0_ofTradeWanted_19 : decode cX0_ofTradeWanted 19 = .ok (.goto 9, 3) := dc_167 (bq_nm bk_X0_ofTradeWanted_0 (j := 19) rfl rfl) (bq_nm bk_X0_ofTradeWanted_0 (j := 20) rfl rfl) (bq_nm bk_X0_ofTradeWanted_0 (j := 21) rfl rfl) rfl
theorem dX0_ofTradeWanted_22 : decode cX0_ofTradeWanted 22 = .ok (.aload_n 0, 1) := dc_42 (bq_nm bk_X0_ofTradeWanted_0 (j := 22) rfl rfl)
theorem dX0_ofTradeWanted_23 : decode cX0_ofTradeWanted 23 = .ok (.iconst 1, 1) := dc_4 (bq_nm bk_X0_ofTradeWanted_0 (j := 23) rfl rfl)
theorem dX0_ofTradeWanted_24 : decode cX0_ofTradeWanted 24 = .ok (.iload_n 2, 1) := dc_28 (bq_nm bk_X0_ofTradeWanted_0 (j := 24) rfl rfl)
theorem dX0_ofTradeWanted_25 : decode cX0_ofTradeWanted 25 = .ok (.invokevirtual 80, 3) := dc_182 (bq_nm bk_X0_ofTradeWanted_0 (j := 25) rfl rfl) (bq_nm bk_X0_ofTradeWanted_0 (j := 26) rfl rfl) (bq_nm bk_X0_ofTradeWanted_0 (j := 27) rfl rfl) rfl
theorem dX0_ofTradeWanted_28 : decode cX0_ofTradeWanted 28 = .ok (.ireturn, 1) := dc_172 (bq_nm bk_X0_ofTradeWanted_0 (j := 28) rfl rfl)
set_option maxRecDepth 20000 in
theorem bk_X0_lastDayOf_0 : ((cX0_lastDayOf.data.toList.drop 0).take 22).length = 22 ∧ eN (((cX0_lastDayOf.data.toList.drop 0).take 22).map UInt8.toNat) = 64499015241271682752773457018762537190285904407737386 := by decide +kernel
theorem dX0_lastDayOf_0 : decode cX0_lastDayOf 0 = .ok (.aload_n 0, 1) := dc_42 (bq_nm bk_X0_lastDayOf_0 (j := 0) rfl rfl)
theorem dX0_lastDayOf_1 : decode cX0_lastDayOf 1 = .ok (.getfield 29, 3) := dc_180 (bq_nm bk_X0_lastDayOf_0 (j := 1) rfl rfl) (bq_nm bk_X0_lastDayOf_0 (j := 2) rfl rfl) (bq_nm bk_X0_lastDayOf_0 (j := 3) rfl rfl) rfl
theorem dX0_lastDayOf_4 : decode cX0_lastDayOf 4 = .ok (.iload_n 1, 1) := dc_27 (bq_nm bk_X0_lastDayOf_0 (j := 4) rfl rfl)
theorem dX0_lastDayOf_5 : decode cX0_lastDayOf 5 = .ok (.iconst 0, 1) := dc_3 (bq_nm bk_X0_lastDayOf_0 (j := 5) rfl rfl)
theorem dX0_lastDayOf_6 : decode cX0_lastDayOf 6 = .ok (.invokevirtual 66, 3) := dc_182 (bq_nm bk_X0_lastDayOf_0 (j := 6) rfl rfl) (bq_nm bk_X0_lastDayOf_0 (j := 7) rfl rfl) (bq_nm bk_X0_lastDayOf_0 (j := 8) rfl rfl) rfl
theorem dX0_lastDayOf_9 : decode cX0_lastDayOf 9 = .ok (.aload_n 0, 1) := dc_42 (bq_nm bk_X0_lastDayOf_0 (j := 9) rfl rfl)
theorem dX0_lastDayOf_10 : decode cX0_lastDayOf 10 = .ok (.getfield 29, 3) := dc_180 (bq_nm bk_X0_lastDayOf_0 (j := 10) rfl rfl) (bq_nm bk_X0_lastDayOf_0 (j := 11) rfl rfl) (bq_nm bk_X0_lastDayOf_0 (j := 12) rfl rfl) rfl
theorem dX0_lastDayOf_13 : decode cX0_lastDayOf 13 = .ok (.iload_n 1, 1) := dc_27 (bq_nm bk_X0_lastDayOf_0 (j := 13) rfl rfl)
theorem dX0_lastDayOf_14 : decode cX0_lastDayOf 14 = .ok (.iconst 1, 1) := dc_4 (bq_nm bk_X0_lastDayOf_0 (j := 14) rfl rfl)
theorem dX0_lastDayOf_15 : decode cX0_lastDayOf 15 = .ok (.invokevirtual 66, 3) := dc_182 (bq_nm bk_X0_lastDayOf_0 (j := 15) rfl rfl) (bq_nm bk_X0_lastDayOf_0 (j := 16) rfl rfl) (bq_nm bk_X0_lastDayOf_0 (j := 17) rfl rfl) rfl
theorem dX0_lastDayOf_18 : decode cX0_lastDayOf 18 = .ok (.iadd, 1) := dc_96 (bq_nm bk_X0_lastDayOf_0 (j := 18) rfl rfl)
theorem dX0_lastDayOf_19 : decode cX0_lastDayOf 19 = .ok (.iconst 1, 1) := dc_4 (bq_nm bk_X0_lastDayOf_0 (j := 19) rfl rfl)
theorem dX0_lastDayOf_20 : decode cX0_lastDayOf 20 = .ok (.isub, 1) := dc_100 (bq_nm bk_X0_lastDayOf_0 (j := 20) rfl rfl)
theorem dX0_lastDayOf_21 : decode cX0_lastDayOf 21 = .ok (.ireturn, 1) := dc_172 (bq_nm bk_X0_lastDayOf_0 (j := 21) rfl rfl)
set_option maxRecDepth 20000 in
theorem bk_X0_overlap_0 : ((cX0_overlap.data.toList.drop 0).take 23).length = 23 ∧ eN (((cX0_overlap.data.toList.drop 0).take 23).map UInt8.toNat) = 16475455347296899964517291828336955969798005810378709802 := by decide +kernel
theorem dX0_overlap_0 : decode cX0_overlap 0 = .ok (.aload_n 0, 1) := dc_42 (bq_nm bk_X0_overlap_0 (j := 0) rfl rfl)
theorem dX0_overlap_1 : decode cX0_overlap 1 = .ok (.iload_n 1, 1) := dc_27 (bq_nm bk_X0_overlap_0 (j := 1) rfl rfl)
theorem dX0_overlap_2 : decode cX0_overlap 2 = .ok (.invokevirtual 83, 3) := dc_182 (bq_nm bk_X0_overlap_0 (j := 2) rfl rfl) (bq_nm bk_X0_overlap_0 (j := 3) rfl rfl) (bq_nm bk_X0_overlap_0 (j := 4) rfl rfl) rfl
theorem dX0_overlap_5 : decode cX0_overlap 5 = .ok (.aload_n 0, 1) := dc_42 (bq_nm bk_X0_overlap_0 (j := 5) rfl rfl)
theorem dX0_overlap_6 : decode cX0_overlap 6 = .ok (.getfield 29, 3) := dc_180 (bq_nm bk_X0_overlap_0 (j := 6) rfl rfl) (bq_nm bk_X0_overlap_0 (j := 7) rfl rfl) (bq_nm bk_X0_overlap_0 (j := 8) rfl rfl) rfl
theorem dX0_overlap_9 : decode cX0_overlap 9 = .ok (.iload_n 2, 1) := dc_28 (bq_nm bk_X0_overlap_0 (j := 9) rfl rfl)
theorem dX0_overlap_10 : decode cX0_overlap 10 = .ok (.iconst 0, 1) := dc_3 (bq_nm bk_X0_overlap_0 (j := 10) rfl rfl)
theorem dX0_overlap_11 : decode cX0_overlap 11 = .ok (.invokevirtual 66, 3) := dc_182 (bq_nm bk_X0_overlap_0 (j := 11) rfl rfl) (bq_nm bk_X0_overlap_0 (j := 12) rfl rfl) (bq_nm bk_X0_overlap_0 (j := 13) rfl rfl) rfl
theorem dX0_overlap_14 : decode cX0_overlap 14 = .ok (.if_icmp .lt 7, 3) := dc_161 (bq_nm bk_X0_overlap_0 (j := 14) rfl rfl) (bq_nm bk_X0_overlap_0 (j := 15) rfl rfl) (bq_nm bk_X0_overlap_0 (j := 16) rfl rfl) rfl
theorem dX0_overlap_17 : decode cX0_overlap 17 = .ok (.iconst 1, 1) := dc_4 (bq_nm bk_X0_overlap_0 (j := 17) rfl rfl)
theorem dX0_overlap_18 : decode cX0_overlap 18 = .ok (.goto 4, 3) := dc_167 (bq_nm bk_X0_overlap_0 (j := 18) rfl rfl) (bq_nm bk_X0_overlap_0 (j := 19) rfl rfl) (bq_nm bk_X0_overlap_0 (j := 20) rfl rfl) rfl
theorem dX0_overlap_21 : decode cX0_overlap 21 = .ok (.iconst 0, 1) := dc_3 (bq_nm bk_X0_overlap_0 (j := 21) rfl rfl)
theorem dX0_overlap_22 : decode cX0_overlap 22 = .ok (.ireturn, 1) := dc_172 (bq_nm bk_X0_overlap_0 (j := 22) rfl rfl)
set_option maxRecDepth 20000 in
theorem bk_X0_shareFamily_0 : ((cX0_shareFamily.data.toList.drop 0).take 31).length = 31 ∧ eN (((cX0_shareFamily.data.toList.drop 0).take 31).map UInt8.toNat) = 116616813629105674702426823428151960994084154635375672132037831014714523139 := by decide +kernel
theorem dX0_shareFamily_0 : decode cX0_shareFamily 0 = .ok (.iconst 0, 1) := dc_3 (bq_nm bk_X0_shareFamily_0 (j := 0) rfl rfl)
theorem dX0_shareFamily_1 : decode cX0_shareFamily 1 = .ok (.istore_n 3, 1) := dc_62 (bq_nm bk_X0_shareFamily_0 (j := 1) rfl rfl)
theorem dX0_shareFamily_2 : decode cX0_shareFamily 2 = .ok (.iload_n 3, 1) := dc_29 (bq_nm bk_X0_shareFamily_0 (j := 2) rfl rfl)
theorem dX0_shareFamily_3 : decode cX0_shareFamily 3 = .ok (.iconst 1, 1) := dc_4 (bq_nm bk_X0_shareFamily_0 (j := 3) rfl rfl)
theorem dX0_shareFamily_4 : decode cX0_shareFamily 4 = .ok (.if_icmp .gt 70, 3) := dc_163 (bq_nm bk_X0_shareFamily_0 (j := 4) rfl rfl) (bq_nm bk_X0_shareFamily_0 (j := 5) rfl rfl) (bq_nm bk_X0_shareFamily_0 (j := 6) rfl rfl) rfl
theorem dX0_shareFamily_7 : decode cX0_shareFamily 7 = .ok (.aload_n 0, 1) := dc_42 (bq_nm bk_X0_shareFamily_0 (j := 7) rfl rfl)
theorem dX0_shareFamily_8 : decode cX0_shareFamily 8 = .ok (.getfield 29, 3) := dc_180 (bq_nm bk_X0_shareFamily_0 (j := 8) rfl rfl) (bq_nm bk_X0_shareFamily_0 (j := 9) rfl rfl) (bq_nm bk_X0_shareFamily_0 (j := 10) rfl rfl) rfl
theorem dX0_shareFamily_11 : decode cX0_shareFamily 11 = .ok (.iload_n 1, 1) := dc_27 (bq_nm bk_X0_shareFamily_0 (j := 11) rfl rfl)
theorem dX0_shareFamily_12 : decode cX0_shareFamily 12 = .ok (.iconst 3, 1) := dc_6 (bq_nm bk_X0_shareFamily_0 (j := 12) rfl rfl)
theorem dX0_shareFamily_13 : decode cX0_shareFamily 13 = .ok (.iload_n 3, 1) := dc_29 (bq_nm bk_X0_shareFamily_0 (j := 13) rfl rfl)
theorem dX0_shareFamily_14 : decode cX0_shareFamily 14 = .ok (.iadd, 1) := dc_96 (bq_nm bk_X0_shareFamily_0 (j := 14) rfl rfl)
theorem dX0_shareFamily_15 : decode cX0_shareFamily 15 = .ok (.invokevirtual 66, 3) := dc_182 (bq_nm bk_X0_shareFamily_0 (j := 15) rfl rfl) (bq_nm bk_X0_shareFamily_0 (j := 16) rfl rfl) (bq_nm bk_X0_shareFamily_0 (j := 17) rfl rfl) rfl
theorem dX0_shareFamily_18 : decode cX0_shareFamily 18 = .ok (.istore 4, 2) := dc_54 (bq_nm bk_X0_shareFamily_0 (j := 18) rfl rfl) (bq_nm bk_X0_shareFamily_0 (j := 19) rfl rfl)
theorem dX0_shareFamily_20 : decode cX0_shareFamily 20 = .ok (.iload 4, 2) := dc_21 (bq_nm bk_X0_shareFamily_0 (j := 20) rfl rfl) (bq_nm bk_X0_shareFamily_0 (j := 21) rfl rfl)
theorem dX0_shareFamily_22 : decode cX0_shareFamily 22 = .ok (.aload_n 0, 1) := dc_42 (bq_nm bk_X0_shareFamily_0 (j := 22) rfl rfl)
theorem dX0_shareFamily_23 : decode cX0_shareFamily 23 = .ok (.getfield 29, 3) := dc_180 (bq_nm bk_X0_shareFamily_0 (j := 23) rfl rfl) (bq_nm bk_X0_shareFamily_0 (j := 24) rfl rfl) (bq_nm bk_X0_shareFamily_0 (j := 25) rfl rfl) rfl
theorem dX0_shareFamily_26 : decode cX0_shareFamily 26 = .ok (.iload_n 2, 1) := dc_28 (bq_nm bk_X0_shareFamily_0 (j := 26) rfl rfl)
theorem dX0_shareFamily_27 : decode cX0_shareFamily 27 = .ok (.iconst 3, 1) := dc_6 (bq_nm bk_X0_shareFamily_0 (j := 27) rfl rfl)
theorem dX0_shareFamily_28 : decode cX0_shareFamily 28 = .ok (.invokevirtual 66, 3) := dc_182 (bq_nm bk_X0_shareFamily_0 (j := 28) rfl rfl) (bq_nm bk_X0_shareFamily_0 (j := 29) rfl rfl) (bq_nm bk_X0_shareFamily_0 (j := 30) rfl rfl) rfl
set_option maxRecDepth 20000 in
theorem bk_X0_shareFamily_31 : ((cX0_shareFamily.data.toList.drop 31).take 32).length = 32 ∧ eN (((cX0_shareFamily.data.toList.drop 31).take 32).map UInt8.toNat) = 2298737065485629605704084107099283932343692779271392793269085099647493537951 := by decide +kernel
theorem dX0_shareFamily_31 : decode cX0_shareFamily 31 = .ok (.if_icmp .eq 17, 3) := dc_159 (bq_nm bk_X0_shareFamily_31 (j := 0) rfl rfl) (bq_nm bk_X0_shareFamily_31 (j := 1) rfl rfl) (bq_nm bk_X0_shareFamily_31 (j := 2) rfl rfl) rfl
theorem dX0_shareFamily_34 : decode cX0_shareFamily 34 = .ok (.iload 4, 2) := dc_21 (bq_nm bk_X0_shareFamily_31 (j := 3) rfl rfl) (bq_nm bk_X0_shareFamily_31 (j := 4) rfl rfl)
theorem dX0_shareFamily_36 : decode cX0_shareFamily 36 = .ok (.aload_n 0, 1) := dc_42 (bq_nm bk_X0_shareFamily_31 (j := 5) rfl rfl)
theorem dX0_shareFamily_37 : decode cX0_shareFamily 37 = .ok (.getfield 29, 3) := dc_180 (bq_nm bk_X0_shareFamily_31 (j := 6) rfl rfl) (bq_nm bk_X0_shareFamily_31 (j := 7) rfl rfl) (bq_nm bk_X0_shareFamily_31 (j := 8) rfl rfl) rfl
theorem dX0_shareFamily_40 : decode cX0_shareFamily 40 = .ok (.iload_n 2, 1) := dc_28 (bq_nm bk_X0_shareFamily_31 (j := 9) rfl rfl)
theorem dX0_shareFamily_41 : decode cX0_shareFamily 41 = .ok (.iconst 4, 1) := dc_7 (bq_nm bk_X0_shareFamily_31 (j := 10) rfl rfl)
theorem dX0_shareFamily_42 : decode cX0_shareFamily 42 = .ok (.invokevirtual 66, 3) := dc_182 (bq_nm bk_X0_shareFamily_31 (j := 11) rfl rfl) (bq_nm bk_X0_shareFamily_31 (j := 12) rfl rfl) (bq_nm bk_X0_shareFamily_31 (j := 13) rfl rfl) rfl
theorem dX0_shareFamily_45 : decode cX0_shareFamily 45 = .ok (.if_icmp .ne 7, 3) := dc_160 (bq_nm bk_X0_shareFamily_31 (j := 14) rfl rfl) (bq_nm bk_X0_shareFamily_31 (j := 15) rfl rfl) (bq_nm bk_X0_shareFamily_31 (j := 16) rfl rfl) rfl
theorem dX0_shareFamily_48 : decode cX0_shareFamily 48 = .ok (.iconst 1, 1) := dc_4 (bq_nm bk_X0_shareFamily_31 (j := 17) rfl rfl)
theorem dX0_shareFamily_49 : decode cX0_shareFamily 49 = .ok (.goto 4, 3) := dc_167 (bq_nm bk_X0_shareFamily_31 (j := 18) rfl rfl) (bq_nm bk_X0_shareFamily_31 (j := 19) rfl rfl) (bq_nm bk_X0_shareFamily_31 (j := 20) rfl rfl) rfl
theorem dX0_shareFamily_52 : decode cX0_shareFamily 52 = .ok (.iconst 0, 1) := dc_3 (bq_nm bk_X0_shareFamily_31 (j := 21) rfl rfl)
theorem dX0_shareFamily_53 : decode cX0_shareFamily 53 = .ok (.istore 5, 2) := dc_54 (bq_nm bk_X0_shareFamily_31 (j := 22) rfl rfl) (bq_nm bk_X0_shareFamily_31 (j := 23) rfl rfl)
theorem dX0_shareFamily_55 : decode cX0_shareFamily 55 = .ok (.iload 4, 2) := dc_21 (bq_nm bk_X0_shareFamily_31 (j := 24) rfl rfl) (bq_nm bk_X0_shareFamily_31 (j := 25) rfl rfl)
theorem dX0_shareFamily_57 : decode cX0_shareFamily 57 = .ok (.iconst (-1), 1) := dc_2 (bq_nm bk_X0_shareFamily_31 (j := 26) rfl rfl)
theorem dX0_shareFamily_58 : decode cX0_shareFamily 58 = .ok (.if_icmp .eq 10, 3) := dc_159 (bq_nm bk_X0_shareFamily_31 (j := 27) rfl rfl) (bq_nm bk_X0_shareFamily_31 (j := 28) rfl rfl) (bq_nm bk_X0_shareFamily_31 (j := 29) rfl rfl) rfl
theorem dX0_shareFamily_61 : decode cX0_shareFamily 61 = .ok (.iload 5, 2) := dc_21 (bq_nm bk_X0_shareFamily_31 (j := 30) rfl rfl) (bq_nm bk_X0_shareFamily_31 (j := 31) rfl rfl)
set_option maxRecDepth 20000 in
theorem bk_X0_shareFamily_63 : ((cX0_shareFamily.data.toList.drop 63).take 13).length = 13 ∧ eN (((cX0_shareFamily.data.toList.drop 63).take 13).map UInt8.toNat) = 13628399683895330476913733206169 := by decide +kernel
theorem dX0_shareFamily_63 : decode cX0_shareFamily 63 = .ok (.ifCond .eq 5, 3) := dc_153 (bq_nm bk_X0_shareFamily_63 (j := 0) rfl rfl) (bq_nm bk_X0_shareFamily_63 (j := 1) rfl rfl) (bq_nm bk_X0_shareFamily_63 (j := 2) rfl rfl) rfl
theorem dX0_shareFamily_66 : decode cX0_shareFamily 66 = .ok (.iconst 1, 1) := dc_4 (bq_nm bk_X0_shareFamily_63 (j := 3) rfl rfl)
theorem dX0_shareFamily_67 : decode cX0_shareFamily 67 = .ok (.ireturn, 1) := dc_172 (bq_nm bk_X0_shareFamily_63 (j := 4) rfl rfl)
theorem dX0_shareFamily_68 : decode cX0_shareFamily 68 = .ok (.iinc 3 1, 3) := dc_132 (bq_nm bk_X0_shareFamily_63 (j := 5) rfl rfl) (bq_nm bk_X0_shareFamily_63 (j := 6) rfl rfl) (bq_nm bk_X0_shareFamily_63 (j := 7) rfl rfl) rfl
theorem dX0_shareFamily_71 : decode cX0_shareFamily 71 = .ok (.goto (-69), 3) := dc_167 (bq_nm bk_X0_shareFamily_63 (j := 8) rfl rfl) (bq_nm bk_X0_shareFamily_63 (j := 9) rfl rfl) (bq_nm bk_X0_shareFamily_63 (j := 10) rfl rfl) rfl
theorem dX0_shareFamily_74 : decode cX0_shareFamily 74 = .ok (.iconst 0, 1) := dc_3 (bq_nm bk_X0_shareFamily_63 (j := 11) rfl rfl)
theorem dX0_shareFamily_75 : decode cX0_shareFamily 75 = .ok (.ireturn, 1) := dc_172 (bq_nm bk_X0_shareFamily_63 (j := 12) rfl rfl)
set_option maxRecDepth 20000 in
theorem bk_X0_shareTrade_0 : ((cX0_shareTrade.data.toList.drop 0).take 32).length = 32 ∧ eN (((cX0_shareTrade.data.toList.drop 0).take 32).map UInt8.toNat) = 1810404094550209812321488875528577504033149416525202576566313033981063377962 := by decide +kernel
theorem dX0_shareTrade_0 : decode cX0_shareTrade 0 = .ok (.aload_n 0, 1) := dc_42 (bq_nm bk_X0_shareTrade_0 (j := 0) rfl rfl)
theorem dX0_shareTrade_1 : decode cX0_shareTrade 1 = .ok (.getfield 29, 3) := dc_180 (bq_nm bk_X0_shareTrade_0 (j := 1) rfl rfl) (bq_nm bk_X0_shareTrade_0 (j := 2) rfl rfl) (bq_nm bk_X0_shareTrade_0 (j := 3) rfl rfl) rfl
theorem dX0_shareTrade_4 : decode cX0_shareTrade 4 = .ok (.iload_n 1, 1) := dc_27 (bq_nm bk_X0_shareTrade_0 (j := 4) rfl rfl)
theorem dX0_shareTrade_5 : decode cX0_shareTrade 5 = .ok (.iconst 5, 1) := dc_8 (bq_nm bk_X0_shareTrade_0 (j := 5) rfl rfl)
theorem dX0_shareTrade_6 : decode cX0_shareTrade 6 = .ok (.invokevirtual 66, 3) := dc_182 (bq_nm bk_X0_shareTrade_0 (j := 6) rfl rfl) (bq_nm bk_X0_shareTrade_0 (j := 7) rfl rfl) (bq_nm bk_X0_shareTrade_0 (j := 8) rfl rfl) rfl
theorem dX0_shareTrade_9 : decode cX0_shareTrade 9 = .ok (.istore_n 3, 1) := dc_62 (bq_nm bk_X0_shareTrade_0 (j := 9) rfl rfl)
theorem dX0_shareTrade_10 : decode cX0_shareTrade 10 = .ok (.iload_n 3, 1) := dc_29 (bq_nm bk_X0_shareTrade_0 (j := 10) rfl rfl)
theorem dX0_shareTrade_11 : decode cX0_shareTrade 11 = .ok (.iconst (-1), 1) := dc_2 (bq_nm bk_X0_shareTrade_0 (j := 11) rfl rfl)
theorem dX0_shareTrade_12 : decode cX0_shareTrade 12 = .ok (.if_icmp .eq 20, 3) := dc_159 (bq_nm bk_X0_shareTrade_0 (j := 12) rfl rfl) (bq_nm bk_X0_shareTrade_0 (j := 13) rfl rfl) (bq_nm bk_X0_shareTrade_0 (j := 14) rfl rfl) rfl
theorem dX0_shareTrade_15 : decode cX0_shareTrade 15 = .ok (.iload_n 3, 1) := dc_29 (bq_nm bk_X0_shareTrade_0 (j := 15) rfl rfl)
theorem dX0_shareTrade_16 : decode cX0_shareTrade 16 = .ok (.aload_n 0, 1) := dc_42 (bq_nm bk_X0_shareTrade_0 (j := 16) rfl rfl)
theorem dX0_shareTrade_17 : decode cX0_shareTrade 17 = .ok (.getfield 29, 3) := dc_180 (bq_nm bk_X0_shareTrade_0 (j := 17) rfl rfl) (bq_nm bk_X0_shareTrade_0 (j := 18) rfl rfl) (bq_nm bk_X0_shareTrade_0 (j := 19) rfl rfl) rfl
theorem dX0_shareTrade_20 : decode cX0_shareTrade 20 = .ok (.iload_n 2, 1) := dc_28 (bq_nm bk_X0_shareTrade_0 (j := 20) rfl rfl)
theorem dX0_shareTrade_21 : decode cX0_shareTrade 21 = .ok (.iconst 5, 1) := dc_8 (bq_nm bk_X0_shareTrade_0 (j := 21) rfl rfl)
theorem dX0_shareTrade_22 : decode cX0_shareTrade 22 = .ok (.invokevirtual 66, 3) := dc_182 (bq_nm bk_X0_shareTrade_0 (j := 22) rfl rfl) (bq_nm bk_X0_shareTrade_0 (j := 23) rfl rfl) (bq_nm bk_X0_shareTrade_0 (j := 24) rfl rfl) rfl
theorem dX0_shareTrade_25 : decode cX0_shareTrade 25 = .ok (.if_icmp .ne 7, 3) := dc_160 (bq_nm bk_X0_shareTrade_0 (j := 25) rfl rfl) (bq_nm bk_X0_shareTrade_0 (j := 26) rfl rfl) (bq_nm bk_X0_shareTrade_0 (j := 27) rfl rfl) rfl
theorem dX0_shareTrade_28 : decode cX0_shareTrade 28 = .ok (.iconst 1, 1) := dc_4 (bq_nm bk_X0_shareTrade_0 (j := 28) rfl rfl)
theorem dX0_shareTrade_29 : decode cX0_shareTrade 29 = .ok (.goto 4, 3) := dc_167 (bq_nm bk_X0_shareTrade_0 (j := 29) rfl rfl) (bq_nm bk_X0_shareTrade_0 (j := 30) rfl rfl) (bq_nm bk_X0_shareTrade_0 (j := 31) rfl rfl) rfl
set_option maxRecDepth 20000 in
theorem bk_X0_shareTrade_32 : ((cX0_shareTrade.data.toList.drop 32).take 2).length = 2 ∧ eN (((cX0_shareTrade.data.toList.drop 32).take 2).map UInt8.toNat) = 44035 := by decide +kernel
theorem dX0_shareTrade_32 : decode cX0_shareTrade 32 = .ok (.iconst 0, 1) := dc_3 (bq_nm bk_X0_shareTrade_32 (j := 0) rfl rfl)
theorem dX0_shareTrade_33 : decode cX0_shareTrade 33 = .ok (.ireturn, 1) := dc_172 (bq_nm bk_X0_shareTrade_32 (j := 1) rfl rfl)
set_option maxRecDepth 20000 in
theorem bk_X1_init_0 : ((cX1_init.data.toList.drop 0).take 32).length = 32 ∧ eN (((cX1_init.data.toList.drop 0).take 32).map UInt8.toNat) = 10856773786911031382116867127764470716783811759055374813384810522494596331306 := by decide +kernel
theorem dX1_init_0 : decode cX1_init 0 = .ok (.aload_n 0, 1) := dc_42 (bq_nm bk_X1_init_0 (j := 0) rfl rfl)
theorem dX1_init_1 : decode cX1_init 1 = .ok (.invokespecial 3, 3) := dc_183 (bq_nm bk_X1_init_0 (j := 1) rfl rfl) (bq_nm bk_X1_init_0 (j := 2) rfl rfl) (bq_nm bk_X1_init_0 (j := 3) rfl rfl) rfl
theorem dX1_init_4 : decode cX1_init 4 = .ok (.aload_n 0, 1) := dc_42 (bq_nm bk_X1_init_0 (j := 4) rfl rfl)
theorem dX1_init_5 : decode cX1_init 5 = .ok (.new 9, 3) := dc_187 (bq_nm bk_X1_init_0 (j := 5) rfl rfl) (bq_nm bk_X1_init_0 (j := 6) rfl rfl) (bq_nm bk_X1_init_0 (j := 7) rfl rfl) rfl
theorem dX1_init_8 : decode cX1_init 8 = .ok (.dup, 1) := dc_89 (bq_nm bk_X1_init_0 (j := 8) rfl rfl)
theorem dX1_init_9 : decode cX1_init 9 = .ok (.invokespecial 11, 3) := dc_183 (bq_nm bk_X1_init_0 (j := 9) rfl rfl) (bq_nm bk_X1_init_0 (j := 10) rfl rfl) (bq_nm bk_X1_init_0 (j := 11) rfl rfl) rfl
theorem dX1_init_12 : decode cX1_init 12 = .ok (.putfield 12, 3) := dc_181 (bq_nm bk_X1_init_0 (j := 12) rfl rfl) (bq_nm bk_X1_init_0 (j := 13) rfl rfl) (bq_nm bk_X1_init_0 (j := 14) rfl rfl) rfl
theorem dX1_init_15 : decode cX1_init 15 = .ok (.aload_n 0, 1) := dc_42 (bq_nm bk_X1_init_0 (j := 15) rfl rfl)
theorem dX1_init_16 : decode cX1_init 16 = .ok (.bipush 10, 2) := dc_16 (bq_nm bk_X1_init_0 (j := 16) rfl rfl) (bq_nm bk_X1_init_0 (j := 17) rfl rfl) rfl
theorem dX1_init_18 : decode cX1_init 18 = .ok (.anewarray 18, 3) := dc_189 (bq_nm bk_X1_init_0 (j := 18) rfl rfl) (bq_nm bk_X1_init_0 (j := 19) rfl rfl) (bq_nm bk_X1_init_0 (j := 20) rfl rfl) rfl
theorem dX1_init_21 : decode cX1_init 21 = .ok (.putfield 20, 3) := dc_181 (bq_nm bk_X1_init_0 (j := 21) rfl rfl) (bq_nm bk_X1_init_0 (j := 22) rfl rfl) (bq_nm bk_X1_init_0 (j := 23) rfl rfl) rfl
theorem dX1_init_24 : decode cX1_init 24 = .ok (.aload_n 0, 1) := dc_42 (bq_nm bk_X1_init_0 (j := 24) rfl rfl)
theorem dX1_init_25 : decode cX1_init 25 = .ok (.new 18, 3) := dc_187 (bq_nm bk_X1_init_0 (j := 25) rfl rfl) (bq_nm bk_X1_init_0 (j := 26) rfl rfl) (bq_nm bk_X1_init_0 (j := 27) rfl rfl) rfl
theorem dX1_init_28 : decode cX1_init 28 = .ok (.dup, 1) := dc_89 (bq_nm bk_X1_init_0 (j := 28) rfl rfl)
theorem dX1_init_29 : decode cX1_init 29 = .ok (.invokespecial 24, 3) := dc_183 (bq_nm bk_X1_init_0 (j := 29) rfl rfl) (bq_nm bk_X1_init_0 (j := 30) rfl rfl) (bq_nm bk_X1_init_0 (j := 31) rfl rfl) rfl
set_option maxRecDepth 20000 in
theorem bk_X1_init_32 : ((cX1_init.data.toList.drop 32).take 32).length = 32 ∧ eN (((cX1_init.data.toList.drop 32).take 32).map UInt8.toNat) = 37584375705016231450954500376871537607089816833605677950382218798617478103221 := by decide +kernel
theorem dX1_init_32 : decode cX1_init 32 = .ok (.putfield 25, 3) := dc_181 (bq_nm bk_X1_init_32 (j := 0) rfl rfl) (bq_nm bk_X1_init_32 (j := 1) rfl rfl) (bq_nm bk_X1_init_32 (j := 2) rfl rfl) rfl
theorem dX1_init_35 : decode cX1_init 35 = .ok (.aload_n 0, 1) := dc_42 (bq_nm bk_X1_init_32 (j := 3) rfl rfl)
theorem dX1_init_36 : decode cX1_init 36 = .ok (.bipush 50, 2) := dc_16 (bq_nm bk_X1_init_32 (j := 4) rfl rfl) (bq_nm bk_X1_init_32 (j := 5) rfl rfl) rfl
theorem dX1_init_38 : decode cX1_init 38 = .ok (.newarray .long, 2) := dc_188_11 (bq_nm bk_X1_init_32 (j := 6) rfl rfl) (bq_nm bk_X1_init_32 (j := 7) rfl rfl)
theorem dX1_init_40 : decode cX1_init 40 = .ok (.putfield 29, 3) := dc_181 (bq_nm bk_X1_init_32 (j := 8) rfl rfl) (bq_nm bk_X1_init_32 (j := 9) rfl rfl) (bq_nm bk_X1_init_32 (j := 10) rfl rfl) rfl
theorem dX1_init_43 : decode cX1_init 43 = .ok (.iconst 0, 1) := dc_3 (bq_nm bk_X1_init_32 (j := 11) rfl rfl)
theorem dX1_init_44 : decode cX1_init 44 = .ok (.istore_n 1, 1) := dc_60 (bq_nm bk_X1_init_32 (j := 12) rfl rfl)
theorem dX1_init_45 : decode cX1_init 45 = .ok (.iload_n 1, 1) := dc_27 (bq_nm bk_X1_init_32 (j := 13) rfl rfl)
theorem dX1_init_46 : decode cX1_init 46 = .ok (.bipush 10, 2) := dc_16 (bq_nm bk_X1_init_32 (j := 14) rfl rfl) (bq_nm bk_X1_init_32 (j := 15) rfl rfl) rfl
theorem dX1_init_48 : decode cX1_init 48 = .ok (.if_icmp .ge 22, 3) := dc_162 (bq_nm bk_X1_init_32 (j := 16) rfl rfl) (bq_nm bk_X1_init_32 (j := 17) rfl rfl) (bq_nm bk_X1_init_32 (j := 18) rfl rfl) rfl
theorem dX1_init_51 : decode cX1_init 51 = .ok (.aload_n 0, 1) := dc_42 (bq_nm bk_X1_init_32 (j := 19) rfl rfl)
theorem dX1_init_52 : decode cX1_init 52 = .ok (.getfield 20, 3) := dc_180 (bq_nm bk_X1_init_32 (j := 20) rfl rfl) (bq_nm bk_X1_init_32 (j := 21) rfl rfl) (bq_nm bk_X1_init_32 (j := 22) rfl rfl) rfl
theorem dX1_init_55 : decode cX1_init 55 = .ok (.iload_n 1, 1) := dc_27 (bq_nm bk_X1_init_32 (j := 23) rfl rfl)
theorem dX1_init_56 : decode cX1_init 56 = .ok (.new 18, 3) := dc_187 (bq_nm bk_X1_init_32 (j := 24) rfl rfl) (bq_nm bk_X1_init_32 (j := 25) rfl rfl) (bq_nm bk_X1_init_32 (j := 26) rfl rfl) rfl
theorem dX1_init_59 : decode cX1_init 59 = .ok (.dup, 1) := dc_89 (bq_nm bk_X1_init_32 (j := 27) rfl rfl)
theorem dX1_init_60 : decode cX1_init 60 = .ok (.invokespecial 24, 3) := dc_183 (bq_nm bk_X1_init_32 (j := 28) rfl rfl) (bq_nm bk_X1_init_32 (j := 29) rfl rfl) (bq_nm bk_X1_init_32 (j := 30) rfl rfl) rfl
theorem dX1_init_63 : decode cX1_init 63 = .ok (.aastore, 1) := dc_83 (bq_nm bk_X1_init_32 (j := 31) rfl rfl)
set_option maxRecDepth 20000 in
theorem bk_X1_init_64 : ((cX1_init.data.toList.drop 64).take 7).length = 7 ∧ eN (((cX1_init.data.toList.drop 64).take 7).map UInt8.toNat) = 50079454617207172 := by decide +kernel
theorem dX1_init_64 : decode cX1_init 64 = .ok (.iinc 1 1, 3) := dc_132 (bq_nm bk_X1_init_64 (j := 0) rfl rfl) (bq_nm bk_X1_init_64 (j := 1) rfl rfl) (bq_nm bk_X1_init_64 (j := 2) rfl rfl) rfl
theorem dX1_init_67 : decode cX1_init 67 = .ok (.goto (-22), 3) := dc_167 (bq_nm bk_X1_init_64 (j := 3) rfl rfl) (bq_nm bk_X1_init_64 (j := 4) rfl rfl) (bq_nm bk_X1_init_64 (j := 5) rfl rfl) rfl
theorem dX1_init_70 : decode cX1_init 70 = .ok (.return_, 1) := dc_177 (bq_nm bk_X1_init_64 (j := 6) rfl rfl)
set_option maxRecDepth 20000 in
theorem bk_X1_hearing_0 : ((cX1_hearing.data.toList.drop 0).take 24).length = 24 ∧ eN (((cX1_hearing.data.toList.drop 0).take 24).map UInt8.toNat) = 4317902230671174470525563670033345539736609387847264279323 := by decide +kernel
theorem dX1_hearing_0 : decode cX1_hearing 0 = .ok (.iload_n 1, 1) := dc_27 (bq_nm bk_X1_hearing_0 (j := 0) rfl rfl)
theorem dX1_hearing_1 : decode cX1_hearing 1 = .ok (.ifCond .lt 18, 3) := dc_155 (bq_nm bk_X1_hearing_0 (j := 1) rfl rfl) (bq_nm bk_X1_hearing_0 (j := 2) rfl rfl) (bq_nm bk_X1_hearing_0 (j := 3) rfl rfl) rfl
theorem dX1_hearing_4 : decode cX1_hearing 4 = .ok (.iload_n 1, 1) := dc_27 (bq_nm bk_X1_hearing_0 (j := 4) rfl rfl)
theorem dX1_hearing_5 : decode cX1_hearing 5 = .ok (.bipush 10, 2) := dc_16 (bq_nm bk_X1_hearing_0 (j := 5) rfl rfl) (bq_nm bk_X1_hearing_0 (j := 6) rfl rfl) rfl
theorem dX1_hearing_7 : decode cX1_hearing 7 = .ok (.if_icmp .ge 12, 3) := dc_162 (bq_nm bk_X1_hearing_0 (j := 7) rfl rfl) (bq_nm bk_X1_hearing_0 (j := 8) rfl rfl) (bq_nm bk_X1_hearing_0 (j := 9) rfl rfl) rfl
theorem dX1_hearing_10 : decode cX1_hearing 10 = .ok (.aload_n 0, 1) := dc_42 (bq_nm bk_X1_hearing_0 (j := 10) rfl rfl)
theorem dX1_hearing_11 : decode cX1_hearing 11 = .ok (.getfield 20, 3) := dc_180 (bq_nm bk_X1_hearing_0 (j := 11) rfl rfl) (bq_nm bk_X1_hearing_0 (j := 12) rfl rfl) (bq_nm bk_X1_hearing_0 (j := 13) rfl rfl) rfl
theorem dX1_hearing_14 : decode cX1_hearing 14 = .ok (.iload_n 1, 1) := dc_27 (bq_nm bk_X1_hearing_0 (j := 14) rfl rfl)
theorem dX1_hearing_15 : decode cX1_hearing 15 = .ok (.aaload, 1) := dc_50 (bq_nm bk_X1_hearing_0 (j := 15) rfl rfl)
theorem dX1_hearing_16 : decode cX1_hearing 16 = .ok (.goto 7, 3) := dc_167 (bq_nm bk_X1_hearing_0 (j := 16) rfl rfl) (bq_nm bk_X1_hearing_0 (j := 17) rfl rfl) (bq_nm bk_X1_hearing_0 (j := 18) rfl rfl) rfl
theorem dX1_hearing_23 : decode cX1_hearing 23 = .ok (.areturn, 1) := dc_176 (bq_nm bk_X1_hearing_0 (j := 23) rfl rfl)
set_option maxRecDepth 20000 in
theorem bk_X1_unsettle_0 : ((cX1_unsettle.data.toList.drop 0).take 13).length = 13 ∧ eN (((cX1_unsettle.data.toList.drop 0).take 13).map UInt8.toNat) = 14033598625779806892682508511786 := by decide +kernel
theorem dX1_unsettle_0 : decode cX1_unsettle 0 = .ok (.aload_n 0, 1) := dc_42 (bq_nm bk_X1_unsettle_0 (j := 0) rfl rfl)
theorem dX1_unsettle_1 : decode cX1_unsettle 1 = .ok (.aload_n 0, 1) := dc_42 (bq_nm bk_X1_unsettle_0 (j := 1) rfl rfl)
theorem dX1_unsettle_2 : decode cX1_unsettle 2 = .ok (.getfield 33, 3) := dc_180 (bq_nm bk_X1_unsettle_0 (j := 2) rfl rfl) (bq_nm bk_X1_unsettle_0 (j := 3) rfl rfl) (bq_nm bk_X1_unsettle_0 (j := 4) rfl rfl) rfl
theorem dX1_unsettle_5 : decode cX1_unsettle 5 = .ok (.iload_n 1, 1) := dc_27 (bq_nm bk_X1_unsettle_0 (j := 5) rfl rfl)
theorem dX1_unsettle_6 : decode cX1_unsettle 6 = .ok (.invokestatic 37, 3) := dc_184 (bq_nm bk_X1_unsettle_0 (j := 6) rfl rfl) (bq_nm bk_X1_unsettle_0 (j := 7) rfl rfl) (bq_nm bk_X1_unsettle_0 (j := 8) rfl rfl) rfl
theorem dX1_unsettle_9 : decode cX1_unsettle 9 = .ok (.putfield 33, 3) := dc_181 (bq_nm bk_X1_unsettle_0 (j := 9) rfl rfl) (bq_nm bk_X1_unsettle_0 (j := 10) rfl rfl) (bq_nm bk_X1_unsettle_0 (j := 11) rfl rfl) rfl
theorem dX1_unsettle_12 : decode cX1_unsettle 12 = .ok (.return_, 1) := dc_177 (bq_nm bk_X1_unsettle_0 (j := 12) rfl rfl)
set_option maxRecDepth 20000 in
theorem bk_X1_settle_0 : ((cX1_settle.data.toList.drop 0).take 32).length = 32 ∧ eN (((cX1_settle.data.toList.drop 0).take 32).map UInt8.toNat) = 27684731565049910615175360798658281244577953983062476106776279309339303392298 := by decide +kernel
theorem dX1_settle_0 : decode cX1_settle 0 = .ok (.aload_n 0, 1) := dc_42 (bq_nm bk_X1_settle_0 (j := 0) rfl rfl)
theorem dX1_settle_1 : decode cX1_settle 1 = .ok (.getfield 33, 3) := dc_180 (bq_nm bk_X1_settle_0 (j := 1) rfl rfl) (bq_nm bk_X1_settle_0 (j := 2) rfl rfl) (bq_nm bk_X1_settle_0 (j := 3) rfl rfl) rfl
theorem dX1_settle_4 : decode cX1_settle 4 = .ok (.istore_n 1, 1) := dc_60 (bq_nm bk_X1_settle_0 (j := 4) rfl rfl)
theorem dX1_settle_5 : decode cX1_settle 5 = .ok (.iload_n 1, 1) := dc_27 (bq_nm bk_X1_settle_0 (j := 5) rfl rfl)
theorem dX1_settle_6 : decode cX1_settle 6 = .ok (.aload_n 0, 1) := dc_42 (bq_nm bk_X1_settle_0 (j := 6) rfl rfl)
theorem dX1_settle_7 : decode cX1_settle 7 = .ok (.getfield 12, 3) := dc_180 (bq_nm bk_X1_settle_0 (j := 7) rfl rfl) (bq_nm bk_X1_settle_0 (j := 8) rfl rfl) (bq_nm bk_X1_settle_0 (j := 9) rfl rfl) rfl
theorem dX1_settle_10 : decode cX1_settle 10 = .ok (.getfield 43, 3) := dc_180 (bq_nm bk_X1_settle_0 (j := 10) rfl rfl) (bq_nm bk_X1_settle_0 (j := 11) rfl rfl) (bq_nm bk_X1_settle_0 (j := 12) rfl rfl) rfl
theorem dX1_settle_13 : decode cX1_settle 13 = .ok (.invokevirtual 47, 3) := dc_182 (bq_nm bk_X1_settle_0 (j := 13) rfl rfl) (bq_nm bk_X1_settle_0 (j := 14) rfl rfl) (bq_nm bk_X1_settle_0 (j := 15) rfl rfl) rfl
theorem dX1_settle_16 : decode cX1_settle 16 = .ok (.if_icmp .ge 50, 3) := dc_162 (bq_nm bk_X1_settle_0 (j := 16) rfl rfl) (bq_nm bk_X1_settle_0 (j := 17) rfl rfl) (bq_nm bk_X1_settle_0 (j := 18) rfl rfl) rfl
theorem dX1_settle_19 : decode cX1_settle 19 = .ok (.aload_n 0, 1) := dc_42 (bq_nm bk_X1_settle_0 (j := 19) rfl rfl)
theorem dX1_settle_20 : decode cX1_settle 20 = .ok (.getfield 12, 3) := dc_180 (bq_nm bk_X1_settle_0 (j := 20) rfl rfl) (bq_nm bk_X1_settle_0 (j := 21) rfl rfl) (bq_nm bk_X1_settle_0 (j := 22) rfl rfl) rfl
theorem dX1_settle_23 : decode cX1_settle 23 = .ok (.getfield 43, 3) := dc_180 (bq_nm bk_X1_settle_0 (j := 23) rfl rfl) (bq_nm bk_X1_settle_0 (j := 24) rfl rfl) (bq_nm bk_X1_settle_0 (j := 25) rfl rfl) rfl
theorem dX1_settle_26 : decode cX1_settle 26 = .ok (.iload_n 1, 1) := dc_27 (bq_nm bk_X1_settle_0 (j := 26) rfl rfl)
theorem dX1_settle_27 : decode cX1_settle 27 = .ok (.iconst 0, 1) := dc_3 (bq_nm bk_X1_settle_0 (j := 27) rfl rfl)
theorem dX1_settle_28 : decode cX1_settle 28 = .ok (.invokevirtual 53, 3) := dc_182 (bq_nm bk_X1_settle_0 (j := 28) rfl rfl) (bq_nm bk_X1_settle_0 (j := 29) rfl rfl) (bq_nm bk_X1_settle_0 (j := 30) rfl rfl) rfl
theorem dX1_settle_31 : decode cX1_settle 31 = .ok (.istore_n 2, 1) := dc_61 (bq_nm bk_X1_settle_0 (j := 31) rfl rfl)
set_option maxRecDepth 20000 in
theorem bk_X1_settle_32 : ((cX1_settle.data.toList.drop 32).take 31).length = 31 ∧ eN (((cX1_settle.data.toList.drop 32).take 31).map UInt8.toNat) = 1777314264364744933085455135960927968134137012880602704684956229128821546 := by decide +kernel
theorem dX1_settle_32 : decode cX1_settle 32 = .ok (.aload_n 0, 1) := dc_42 (bq_nm bk_X1_settle_32 (j := 0) rfl rfl)
theorem dX1_settle_33 : decode cX1_settle 33 = .ok (.iload_n 1, 1) := dc_27 (bq_nm bk_X1_settle_32 (j := 1) rfl rfl)
theorem dX1_settle_34 : decode cX1_settle 34 = .ok (.aload_n 0, 1) := dc_42 (bq_nm bk_X1_settle_32 (j := 2) rfl rfl)
theorem dX1_settle_35 : decode cX1_settle 35 = .ok (.iload_n 1, 1) := dc_27 (bq_nm bk_X1_settle_32 (j := 3) rfl rfl)
theorem dX1_settle_36 : decode cX1_settle 36 = .ok (.invokevirtual 56, 3) := dc_182 (bq_nm bk_X1_settle_32 (j := 4) rfl rfl) (bq_nm bk_X1_settle_32 (j := 5) rfl rfl) (bq_nm bk_X1_settle_32 (j := 6) rfl rfl) rfl
theorem dX1_settle_39 : decode cX1_settle 39 = .ok (.aload_n 0, 1) := dc_42 (bq_nm bk_X1_settle_32 (j := 7) rfl rfl)
theorem dX1_settle_40 : decode cX1_settle 40 = .ok (.getfield 12, 3) := dc_180 (bq_nm bk_X1_settle_32 (j := 8) rfl rfl) (bq_nm bk_X1_settle_32 (j := 9) rfl rfl) (bq_nm bk_X1_settle_32 (j := 10) rfl rfl) rfl
theorem dX1_settle_43 : decode cX1_settle 43 = .ok (.iconst 0, 1) := dc_3 (bq_nm bk_X1_settle_32 (j := 11) rfl rfl)
theorem dX1_settle_44 : decode cX1_settle 44 = .ok (.iload_n 2, 1) := dc_28 (bq_nm bk_X1_settle_32 (j := 12) rfl rfl)
theorem dX1_settle_45 : decode cX1_settle 45 = .ok (.invokevirtual 60, 3) := dc_182 (bq_nm bk_X1_settle_32 (j := 13) rfl rfl) (bq_nm bk_X1_settle_32 (j := 14) rfl rfl) (bq_nm bk_X1_settle_32 (j := 15) rfl rfl) rfl
theorem dX1_settle_48 : decode cX1_settle 48 = .ok (.aload_n 0, 1) := dc_42 (bq_nm bk_X1_settle_32 (j := 16) rfl rfl)
theorem dX1_settle_49 : decode cX1_settle 49 = .ok (.getfield 12, 3) := dc_180 (bq_nm bk_X1_settle_32 (j := 17) rfl rfl) (bq_nm bk_X1_settle_32 (j := 18) rfl rfl) (bq_nm bk_X1_settle_32 (j := 19) rfl rfl) rfl
theorem dX1_settle_52 : decode cX1_settle 52 = .ok (.iconst 1, 1) := dc_4 (bq_nm bk_X1_settle_32 (j := 20) rfl rfl)
theorem dX1_settle_53 : decode cX1_settle 53 = .ok (.iload_n 2, 1) := dc_28 (bq_nm bk_X1_settle_32 (j := 21) rfl rfl)
theorem dX1_settle_54 : decode cX1_settle 54 = .ok (.invokevirtual 60, 3) := dc_182 (bq_nm bk_X1_settle_32 (j := 22) rfl rfl) (bq_nm bk_X1_settle_32 (j := 23) rfl rfl) (bq_nm bk_X1_settle_32 (j := 24) rfl rfl) rfl
theorem dX1_settle_57 : decode cX1_settle 57 = .ok (.invokevirtual 64, 3) := dc_182 (bq_nm bk_X1_settle_32 (j := 25) rfl rfl) (bq_nm bk_X1_settle_32 (j := 26) rfl rfl) (bq_nm bk_X1_settle_32 (j := 27) rfl rfl) rfl
theorem dX1_settle_60 : decode cX1_settle 60 = .ok (.iinc 1 1, 3) := dc_132 (bq_nm bk_X1_settle_32 (j := 28) rfl rfl) (bq_nm bk_X1_settle_32 (j := 29) rfl rfl) (bq_nm bk_X1_settle_32 (j := 30) rfl rfl) rfl
set_option maxRecDepth 20000 in
theorem bk_X1_settle_63 : ((cX1_settle.data.toList.drop 63).take 18).length = 18 ∧ eN (((cX1_settle.data.toList.drop 63).take 18).map UInt8.toNat) = 15430104868789015650181069854992937744007079 := by decide +kernel
theorem dX1_settle_63 : decode cX1_settle 63 = .ok (.goto (-58), 3) := dc_167 (bq_nm bk_X1_settle_63 (j := 0) rfl rfl) (bq_nm bk_X1_settle_63 (j := 1) rfl rfl) (bq_nm bk_X1_settle_63 (j := 2) rfl rfl) rfl
theorem dX1_settle_66 : decode cX1_settle 66 = .ok (.aload_n 0, 1) := dc_42 (bq_nm bk_X1_settle_63 (j := 3) rfl rfl)
theorem dX1_settle_67 : decode cX1_settle 67 = .ok (.aload_n 0, 1) := dc_42 (bq_nm bk_X1_settle_63 (j := 4) rfl rfl)
theorem dX1_settle_68 : decode cX1_settle 68 = .ok (.getfield 12, 3) := dc_180 (bq_nm bk_X1_settle_63 (j := 5) rfl rfl) (bq_nm bk_X1_settle_63 (j := 6) rfl rfl) (bq_nm bk_X1_settle_63 (j := 7) rfl rfl) rfl
theorem dX1_settle_71 : decode cX1_settle 71 = .ok (.getfield 43, 3) := dc_180 (bq_nm bk_X1_settle_63 (j := 8) rfl rfl) (bq_nm bk_X1_settle_63 (j := 9) rfl rfl) (bq_nm bk_X1_settle_63 (j := 10) rfl rfl) rfl
theorem dX1_settle_74 : decode cX1_settle 74 = .ok (.invokevirtual 47, 3) := dc_182 (bq_nm bk_X1_settle_63 (j := 11) rfl rfl) (bq_nm bk_X1_settle_63 (j := 12) rfl rfl) (bq_nm bk_X1_settle_63 (j := 13) rfl rfl) rfl
theorem dX1_settle_77 : decode cX1_settle 77 = .ok (.putfield 33, 3) := dc_181 (bq_nm bk_X1_settle_63 (j := 14) rfl rfl) (bq_nm bk_X1_settle_63 (j := 15) rfl rfl) (bq_nm bk_X1_settle_63 (j := 16) rfl rfl) rfl
theorem dX1_settle_80 : decode cX1_settle 80 = .ok (.return_, 1) := dc_177 (bq_nm bk_X1_settle_63 (j := 17) rfl rfl)
set_option maxRecDepth 20000 in
theorem bk_X1_hear_0 : ((cX1_hear.data.toList.drop 0).take 32).length = 32 ∧ eN (((cX1_hear.data.toList.drop 0).take 32).map UInt8.toNat) = 2751167550604783375528800266390959846986453070099069057941006870081825715242 := by decide +kernel
theorem dX1_hear_0 : decode cX1_hear 0 = .ok (.aload_n 0, 1) := dc_42 (bq_nm bk_X1_hear_0 (j := 0) rfl rfl)
theorem dX1_hear_1 : decode cX1_hear 1 = .ok (.getfield 12, 3) := dc_180 (bq_nm bk_X1_hear_0 (j := 1) rfl rfl) (bq_nm bk_X1_hear_0 (j := 2) rfl rfl) (bq_nm bk_X1_hear_0 (j := 3) rfl rfl) rfl
theorem dX1_hear_4 : decode cX1_hear 4 = .ok (.getfield 43, 3) := dc_180 (bq_nm bk_X1_hear_0 (j := 4) rfl rfl) (bq_nm bk_X1_hear_0 (j := 5) rfl rfl) (bq_nm bk_X1_hear_0 (j := 6) rfl rfl) rfl
theorem dX1_hear_7 : decode cX1_hear 7 = .ok (.astore 5, 2) := dc_58 (bq_nm bk_X1_hear_0 (j := 7) rfl rfl) (bq_nm bk_X1_hear_0 (j := 8) rfl rfl)
theorem dX1_hear_9 : decode cX1_hear 9 = .ok (.aload 5, 2) := dc_25 (bq_nm bk_X1_hear_0 (j := 9) rfl rfl) (bq_nm bk_X1_hear_0 (j := 10) rfl rfl)
theorem dX1_hear_11 : decode cX1_hear 11 = .ok (.iload_n 1, 1) := dc_27 (bq_nm bk_X1_hear_0 (j := 11) rfl rfl)
theorem dX1_hear_12 : decode cX1_hear 12 = .ok (.iconst 0, 1) := dc_3 (bq_nm bk_X1_hear_0 (j := 12) rfl rfl)
theorem dX1_hear_13 : decode cX1_hear 13 = .ok (.invokevirtual 53, 3) := dc_182 (bq_nm bk_X1_hear_0 (j := 13) rfl rfl) (bq_nm bk_X1_hear_0 (j := 14) rfl rfl) (bq_nm bk_X1_hear_0 (j := 15) rfl rfl) rfl
theorem dX1_hear_16 : decode cX1_hear 16 = .ok (.istore 6, 2) := dc_54 (bq_nm bk_X1_hear_0 (j := 16) rfl rfl) (bq_nm bk_X1_hear_0 (j := 17) rfl rfl)
theorem dX1_hear_18 : decode cX1_hear 18 = .ok (.aload_n 0, 1) := dc_42 (bq_nm bk_X1_hear_0 (j := 18) rfl rfl)
theorem dX1_hear_19 : decode cX1_hear 19 = .ok (.getfield 12, 3) := dc_180 (bq_nm bk_X1_hear_0 (j := 19) rfl rfl) (bq_nm bk_X1_hear_0 (j := 20) rfl rfl) (bq_nm bk_X1_hear_0 (j := 21) rfl rfl) rfl
theorem dX1_hear_22 : decode cX1_hear 22 = .ok (.invokevirtual 68, 3) := dc_182 (bq_nm bk_X1_hear_0 (j := 22) rfl rfl) (bq_nm bk_X1_hear_0 (j := 23) rfl rfl) (bq_nm bk_X1_hear_0 (j := 24) rfl rfl) rfl
theorem dX1_hear_25 : decode cX1_hear 25 = .ok (.aload_n 0, 1) := dc_42 (bq_nm bk_X1_hear_0 (j := 25) rfl rfl)
theorem dX1_hear_26 : decode cX1_hear 26 = .ok (.getfield 12, 3) := dc_180 (bq_nm bk_X1_hear_0 (j := 26) rfl rfl) (bq_nm bk_X1_hear_0 (j := 27) rfl rfl) (bq_nm bk_X1_hear_0 (j := 28) rfl rfl) rfl
theorem dX1_hear_29 : decode cX1_hear 29 = .ok (.iload_n 1, 1) := dc_27 (bq_nm bk_X1_hear_0 (j := 29) rfl rfl)
theorem dX1_hear_30 : decode cX1_hear 30 = .ok (.iload 6, 2) := dc_21 (bq_nm bk_X1_hear_0 (j := 30) rfl rfl) (bq_nm bk_X1_hear_0 (j := 31) rfl rfl)
set_option maxRecDepth 20000 in
theorem bk_X1_hear_32 : ((cX1_hear.data.toList.drop 32).take 31).length = 31 ∧ eN (((cX1_hear.data.toList.drop 32).take 31).map UInt8.toNat) = 74263357715184467019284985201715139369462579743529048692795823827550929078 := by decide +kernel
theorem dX1_hear_32 : decode cX1_hear 32 = .ok (.invokevirtual 71, 3) := dc_182 (bq_nm bk_X1_hear_32 (j := 0) rfl rfl) (bq_nm bk_X1_hear_32 (j := 1) rfl rfl) (bq_nm bk_X1_hear_32 (j := 2) rfl rfl) rfl
theorem dX1_hear_35 : decode cX1_hear 35 = .ok (.iconst (-1), 1) := dc_2 (bq_nm bk_X1_hear_32 (j := 3) rfl rfl)
theorem dX1_hear_36 : decode cX1_hear 36 = .ok (.ixor, 1) := dc_130 (bq_nm bk_X1_hear_32 (j := 4) rfl rfl)
theorem dX1_hear_37 : decode cX1_hear 37 = .ok (.iand, 1) := dc_126 (bq_nm bk_X1_hear_32 (j := 5) rfl rfl)
theorem dX1_hear_38 : decode cX1_hear 38 = .ok (.aload_n 0, 1) := dc_42 (bq_nm bk_X1_hear_32 (j := 6) rfl rfl)
theorem dX1_hear_39 : decode cX1_hear 39 = .ok (.iload_n 1, 1) := dc_27 (bq_nm bk_X1_hear_32 (j := 7) rfl rfl)
theorem dX1_hear_40 : decode cX1_hear 40 = .ok (.invokevirtual 74, 3) := dc_182 (bq_nm bk_X1_hear_32 (j := 8) rfl rfl) (bq_nm bk_X1_hear_32 (j := 9) rfl rfl) (bq_nm bk_X1_hear_32 (j := 10) rfl rfl) rfl
theorem dX1_hear_43 : decode cX1_hear 43 = .ok (.iconst (-1), 1) := dc_2 (bq_nm bk_X1_hear_32 (j := 11) rfl rfl)
theorem dX1_hear_44 : decode cX1_hear 44 = .ok (.ixor, 1) := dc_130 (bq_nm bk_X1_hear_32 (j := 12) rfl rfl)
theorem dX1_hear_45 : decode cX1_hear 45 = .ok (.iand, 1) := dc_126 (bq_nm bk_X1_hear_32 (j := 13) rfl rfl)
theorem dX1_hear_46 : decode cX1_hear 46 = .ok (.istore 7, 2) := dc_54 (bq_nm bk_X1_hear_32 (j := 14) rfl rfl) (bq_nm bk_X1_hear_32 (j := 15) rfl rfl)
theorem dX1_hear_48 : decode cX1_hear 48 = .ok (.aload_n 0, 1) := dc_42 (bq_nm bk_X1_hear_32 (j := 16) rfl rfl)
theorem dX1_hear_49 : decode cX1_hear 49 = .ok (.aload_n 3, 1) := dc_45 (bq_nm bk_X1_hear_32 (j := 17) rfl rfl)
theorem dX1_hear_50 : decode cX1_hear 50 = .ok (.iconst 0, 1) := dc_3 (bq_nm bk_X1_hear_32 (j := 18) rfl rfl)
theorem dX1_hear_51 : decode cX1_hear 51 = .ok (.iload 6, 2) := dc_21 (bq_nm bk_X1_hear_32 (j := 19) rfl rfl) (bq_nm bk_X1_hear_32 (j := 20) rfl rfl)
theorem dX1_hear_53 : decode cX1_hear 53 = .ok (.iload 7, 2) := dc_21 (bq_nm bk_X1_hear_32 (j := 21) rfl rfl) (bq_nm bk_X1_hear_32 (j := 22) rfl rfl)
theorem dX1_hear_55 : decode cX1_hear 55 = .ok (.invokevirtual 78, 3) := dc_182 (bq_nm bk_X1_hear_32 (j := 23) rfl rfl) (bq_nm bk_X1_hear_32 (j := 24) rfl rfl) (bq_nm bk_X1_hear_32 (j := 25) rfl rfl) rfl
theorem dX1_hear_58 : decode cX1_hear 58 = .ok (.istore 8, 2) := dc_54 (bq_nm bk_X1_hear_32 (j := 26) rfl rfl) (bq_nm bk_X1_hear_32 (j := 27) rfl rfl)
theorem dX1_hear_60 : decode cX1_hear 60 = .ok (.iload 8, 2) := dc_21 (bq_nm bk_X1_hear_32 (j := 28) rfl rfl) (bq_nm bk_X1_hear_32 (j := 29) rfl rfl)
theorem dX1_hear_62 : decode cX1_hear 62 = .ok (.aload_n 0, 1) := dc_42 (bq_nm bk_X1_hear_32 (j := 30) rfl rfl)
set_option maxRecDepth 20000 in
theorem bk_X1_hear_63 : ((cX1_hear.data.toList.drop 63).take 31).length = 31 ∧ eN (((cX1_hear.data.toList.drop 63).take 31).map UInt8.toNat) = 137818978719466696612765097065995818570150471949364485124210207938101117108 := by decide +kernel
theorem dX1_hear_63 : decode cX1_hear 63 = .ok (.getfield 12, 3) := dc_180 (bq_nm bk_X1_hear_63 (j := 0) rfl rfl) (bq_nm bk_X1_hear_63 (j := 1) rfl rfl) (bq_nm bk_X1_hear_63 (j := 2) rfl rfl) rfl
theorem dX1_hear_66 : decode cX1_hear 66 = .ok (.iload 6, 2) := dc_21 (bq_nm bk_X1_hear_63 (j := 3) rfl rfl) (bq_nm bk_X1_hear_63 (j := 4) rfl rfl)
theorem dX1_hear_68 : decode cX1_hear 68 = .ok (.invokevirtual 82, 3) := dc_182 (bq_nm bk_X1_hear_63 (j := 5) rfl rfl) (bq_nm bk_X1_hear_63 (j := 6) rfl rfl) (bq_nm bk_X1_hear_63 (j := 7) rfl rfl) rfl
theorem dX1_hear_71 : decode cX1_hear 71 = .ok (.iand, 1) := dc_126 (bq_nm bk_X1_hear_63 (j := 8) rfl rfl)
theorem dX1_hear_72 : decode cX1_hear 72 = .ok (.aload_n 0, 1) := dc_42 (bq_nm bk_X1_hear_63 (j := 9) rfl rfl)
theorem dX1_hear_73 : decode cX1_hear 73 = .ok (.getfield 12, 3) := dc_180 (bq_nm bk_X1_hear_63 (j := 10) rfl rfl) (bq_nm bk_X1_hear_63 (j := 11) rfl rfl) (bq_nm bk_X1_hear_63 (j := 12) rfl rfl) rfl
theorem dX1_hear_76 : decode cX1_hear 76 = .ok (.iload_n 1, 1) := dc_27 (bq_nm bk_X1_hear_63 (j := 13) rfl rfl)
theorem dX1_hear_77 : decode cX1_hear 77 = .ok (.invokevirtual 85, 3) := dc_182 (bq_nm bk_X1_hear_63 (j := 14) rfl rfl) (bq_nm bk_X1_hear_63 (j := 15) rfl rfl) (bq_nm bk_X1_hear_63 (j := 16) rfl rfl) rfl
theorem dX1_hear_80 : decode cX1_hear 80 = .ok (.iand, 1) := dc_126 (bq_nm bk_X1_hear_63 (j := 17) rfl rfl)
theorem dX1_hear_81 : decode cX1_hear 81 = .ok (.istore 9, 2) := dc_54 (bq_nm bk_X1_hear_63 (j := 18) rfl rfl) (bq_nm bk_X1_hear_63 (j := 19) rfl rfl)
theorem dX1_hear_83 : decode cX1_hear 83 = .ok (.aload_n 0, 1) := dc_42 (bq_nm bk_X1_hear_63 (j := 20) rfl rfl)
theorem dX1_hear_84 : decode cX1_hear 84 = .ok (.aload 4, 2) := dc_25 (bq_nm bk_X1_hear_63 (j := 21) rfl rfl) (bq_nm bk_X1_hear_63 (j := 22) rfl rfl)
theorem dX1_hear_86 : decode cX1_hear 86 = .ok (.iconst 1, 1) := dc_4 (bq_nm bk_X1_hear_63 (j := 23) rfl rfl)
theorem dX1_hear_87 : decode cX1_hear 87 = .ok (.iload 6, 2) := dc_21 (bq_nm bk_X1_hear_63 (j := 24) rfl rfl) (bq_nm bk_X1_hear_63 (j := 25) rfl rfl)
theorem dX1_hear_89 : decode cX1_hear 89 = .ok (.iload 9, 2) := dc_21 (bq_nm bk_X1_hear_63 (j := 26) rfl rfl) (bq_nm bk_X1_hear_63 (j := 27) rfl rfl)
theorem dX1_hear_91 : decode cX1_hear 91 = .ok (.invokevirtual 78, 3) := dc_182 (bq_nm bk_X1_hear_63 (j := 28) rfl rfl) (bq_nm bk_X1_hear_63 (j := 29) rfl rfl) (bq_nm bk_X1_hear_63 (j := 30) rfl rfl) rfl
set_option maxRecDepth 20000 in
theorem bk_X1_hear_94 : ((cX1_hear.data.toList.drop 94).take 32).length = 32 ∧ eN (((cX1_hear.data.toList.drop 94).take 32).map UInt8.toNat) = 2306041468925312673707012188399690436758137628711589474094201545363225840182 := by decide +kernel
theorem dX1_hear_94 : decode cX1_hear 94 = .ok (.istore 10, 2) := dc_54 (bq_nm bk_X1_hear_94 (j := 0) rfl rfl) (bq_nm bk_X1_hear_94 (j := 1) rfl rfl)
theorem dX1_hear_96 : decode cX1_hear 96 = .ok (.aload_n 2, 1) := dc_44 (bq_nm bk_X1_hear_94 (j := 2) rfl rfl)
theorem dX1_hear_97 : decode cX1_hear 97 = .ok (.iload 9, 2) := dc_21 (bq_nm bk_X1_hear_94 (j := 3) rfl rfl) (bq_nm bk_X1_hear_94 (j := 4) rfl rfl)
theorem dX1_hear_99 : decode cX1_hear 99 = .ok (.iload 10, 2) := dc_21 (bq_nm bk_X1_hear_94 (j := 5) rfl rfl) (bq_nm bk_X1_hear_94 (j := 6) rfl rfl)
theorem dX1_hear_101 : decode cX1_hear 101 = .ok (.iconst (-1), 1) := dc_2 (bq_nm bk_X1_hear_94 (j := 7) rfl rfl)
theorem dX1_hear_102 : decode cX1_hear 102 = .ok (.ixor, 1) := dc_130 (bq_nm bk_X1_hear_94 (j := 8) rfl rfl)
theorem dX1_hear_103 : decode cX1_hear 103 = .ok (.iand, 1) := dc_126 (bq_nm bk_X1_hear_94 (j := 9) rfl rfl)
theorem dX1_hear_104 : decode cX1_hear 104 = .ok (.aload 5, 2) := dc_25 (bq_nm bk_X1_hear_94 (j := 10) rfl rfl) (bq_nm bk_X1_hear_94 (j := 11) rfl rfl)
theorem dX1_hear_106 : decode cX1_hear 106 = .ok (.iload_n 1, 1) := dc_27 (bq_nm bk_X1_hear_94 (j := 12) rfl rfl)
theorem dX1_hear_107 : decode cX1_hear 107 = .ok (.bipush 7, 2) := dc_16 (bq_nm bk_X1_hear_94 (j := 13) rfl rfl) (bq_nm bk_X1_hear_94 (j := 14) rfl rfl) rfl
theorem dX1_hear_109 : decode cX1_hear 109 = .ok (.invokevirtual 53, 3) := dc_182 (bq_nm bk_X1_hear_94 (j := 15) rfl rfl) (bq_nm bk_X1_hear_94 (j := 16) rfl rfl) (bq_nm bk_X1_hear_94 (j := 17) rfl rfl) rfl
theorem dX1_hear_112 : decode cX1_hear 112 = .ok (.aload 5, 2) := dc_25 (bq_nm bk_X1_hear_94 (j := 18) rfl rfl) (bq_nm bk_X1_hear_94 (j := 19) rfl rfl)
theorem dX1_hear_114 : decode cX1_hear 114 = .ok (.iload_n 1, 1) := dc_27 (bq_nm bk_X1_hear_94 (j := 20) rfl rfl)
theorem dX1_hear_115 : decode cX1_hear 115 = .ok (.bipush 8, 2) := dc_16 (bq_nm bk_X1_hear_94 (j := 21) rfl rfl) (bq_nm bk_X1_hear_94 (j := 22) rfl rfl) rfl
theorem dX1_hear_117 : decode cX1_hear 117 = .ok (.invokevirtual 53, 3) := dc_182 (bq_nm bk_X1_hear_94 (j := 23) rfl rfl) (bq_nm bk_X1_hear_94 (j := 24) rfl rfl) (bq_nm bk_X1_hear_94 (j := 25) rfl rfl) rfl
theorem dX1_hear_120 : decode cX1_hear 120 = .ok (.invokevirtual 88, 3) := dc_182 (bq_nm bk_X1_hear_94 (j := 26) rfl rfl) (bq_nm bk_X1_hear_94 (j := 27) rfl rfl) (bq_nm bk_X1_hear_94 (j := 28) rfl rfl) rfl
theorem dX1_hear_123 : decode cX1_hear 123 = .ok (.aload_n 2, 1) := dc_44 (bq_nm bk_X1_hear_94 (j := 29) rfl rfl)
theorem dX1_hear_124 : decode cX1_hear 124 = .ok (.aload 5, 2) := dc_25 (bq_nm bk_X1_hear_94 (j := 30) rfl rfl) (bq_nm bk_X1_hear_94 (j := 31) rfl rfl)
set_option maxRecDepth 20000 in
theorem bk_X1_hear_126 : ((cX1_hear.data.toList.drop 126).take 25).length = 25 ∧ eN (((cX1_hear.data.toList.drop 126).take 25).map UInt8.toNat) = 1113474548379349777740413317551133862284360410711417073743387 := by decide +kernel
theorem dX1_hear_126 : decode cX1_hear 126 = .ok (.iload_n 1, 1) := dc_27 (bq_nm bk_X1_hear_126 (j := 0) rfl rfl)
theorem dX1_hear_127 : decode cX1_hear 127 = .ok (.invokevirtual 92, 3) := dc_182 (bq_nm bk_X1_hear_126 (j := 1) rfl rfl) (bq_nm bk_X1_hear_126 (j := 2) rfl rfl) (bq_nm bk_X1_hear_126 (j := 3) rfl rfl) rfl
theorem dX1_hear_130 : decode cX1_hear 130 = .ok (.aload_n 2, 1) := dc_44 (bq_nm bk_X1_hear_126 (j := 4) rfl rfl)
theorem dX1_hear_131 : decode cX1_hear 131 = .ok (.aload 5, 2) := dc_25 (bq_nm bk_X1_hear_126 (j := 5) rfl rfl) (bq_nm bk_X1_hear_126 (j := 6) rfl rfl)
theorem dX1_hear_133 : decode cX1_hear 133 = .ok (.iload_n 1, 1) := dc_27 (bq_nm bk_X1_hear_126 (j := 7) rfl rfl)
theorem dX1_hear_134 : decode cX1_hear 134 = .ok (.iconst 2, 1) := dc_5 (bq_nm bk_X1_hear_126 (j := 8) rfl rfl)
theorem dX1_hear_135 : decode cX1_hear 135 = .ok (.invokevirtual 53, 3) := dc_182 (bq_nm bk_X1_hear_126 (j := 9) rfl rfl) (bq_nm bk_X1_hear_126 (j := 10) rfl rfl) (bq_nm bk_X1_hear_126 (j := 11) rfl rfl) rfl
theorem dX1_hear_138 : decode cX1_hear 138 = .ok (.iload 8, 2) := dc_21 (bq_nm bk_X1_hear_126 (j := 12) rfl rfl) (bq_nm bk_X1_hear_126 (j := 13) rfl rfl)
theorem dX1_hear_140 : decode cX1_hear 140 = .ok (.aload_n 2, 1) := dc_44 (bq_nm bk_X1_hear_126 (j := 14) rfl rfl)
theorem dX1_hear_141 : decode cX1_hear 141 = .ok (.getfield 96, 3) := dc_180 (bq_nm bk_X1_hear_126 (j := 15) rfl rfl) (bq_nm bk_X1_hear_126 (j := 16) rfl rfl) (bq_nm bk_X1_hear_126 (j := 17) rfl rfl) rfl
theorem dX1_hear_144 : decode cX1_hear 144 = .ok (.iconst (-1), 1) := dc_2 (bq_nm bk_X1_hear_126 (j := 18) rfl rfl)
theorem dX1_hear_145 : decode cX1_hear 145 = .ok (.ixor, 1) := dc_130 (bq_nm bk_X1_hear_126 (j := 19) rfl rfl)
theorem dX1_hear_146 : decode cX1_hear 146 = .ok (.iand, 1) := dc_126 (bq_nm bk_X1_hear_126 (j := 20) rfl rfl)
theorem dX1_hear_147 : decode cX1_hear 147 = .ok (.invokevirtual 99, 3) := dc_182 (bq_nm bk_X1_hear_126 (j := 21) rfl rfl) (bq_nm bk_X1_hear_126 (j := 22) rfl rfl) (bq_nm bk_X1_hear_126 (j := 23) rfl rfl) rfl
theorem dX1_hear_150 : decode cX1_hear 150 = .ok (.return_, 1) := dc_177 (bq_nm bk_X1_hear_126 (j := 24) rfl rfl)
set_option maxRecDepth 20000 in
theorem bk_X1_busy_0 : ((cX1_busy.data.toList.drop 0).take 32).length = 32 ∧ eN (((cX1_busy.data.toList.drop 0).take 32).map UInt8.toNat) = 27817978693709240182575108929429812010540583142779340862043818638389765422339 := by decide +kernel
theorem dX1_busy_0 : decode cX1_busy 0 = .ok (.iconst 0, 1) := dc_3 (bq_nm bk_X1_busy_0 (j := 0) rfl rfl)
theorem dX1_busy_1 : decode cX1_busy 1 = .ok (.istore_n 2, 1) := dc_61 (bq_nm bk_X1_busy_0 (j := 1) rfl rfl)
theorem dX1_busy_2 : decode cX1_busy 2 = .ok (.iconst 0, 1) := dc_3 (bq_nm bk_X1_busy_0 (j := 2) rfl rfl)
theorem dX1_busy_3 : decode cX1_busy 3 = .ok (.istore_n 3, 1) := dc_62 (bq_nm bk_X1_busy_0 (j := 3) rfl rfl)
theorem dX1_busy_4 : decode cX1_busy 4 = .ok (.iload_n 3, 1) := dc_29 (bq_nm bk_X1_busy_0 (j := 4) rfl rfl)
theorem dX1_busy_5 : decode cX1_busy 5 = .ok (.iload_n 1, 1) := dc_27 (bq_nm bk_X1_busy_0 (j := 5) rfl rfl)
theorem dX1_busy_6 : decode cX1_busy 6 = .ok (.if_icmp .ge 32, 3) := dc_162 (bq_nm bk_X1_busy_0 (j := 6) rfl rfl) (bq_nm bk_X1_busy_0 (j := 7) rfl rfl) (bq_nm bk_X1_busy_0 (j := 8) rfl rfl) rfl
theorem dX1_busy_9 : decode cX1_busy 9 = .ok (.aload_n 0, 1) := dc_42 (bq_nm bk_X1_busy_0 (j := 9) rfl rfl)
theorem dX1_busy_10 : decode cX1_busy 10 = .ok (.getfield 12, 3) := dc_180 (bq_nm bk_X1_busy_0 (j := 10) rfl rfl) (bq_nm bk_X1_busy_0 (j := 11) rfl rfl) (bq_nm bk_X1_busy_0 (j := 12) rfl rfl) rfl
theorem dX1_busy_13 : decode cX1_busy 13 = .ok (.iload_n 3, 1) := dc_29 (bq_nm bk_X1_busy_0 (j := 13) rfl rfl)
theorem dX1_busy_14 : decode cX1_busy 14 = .ok (.iload_n 1, 1) := dc_27 (bq_nm bk_X1_busy_0 (j := 14) rfl rfl)
theorem dX1_busy_15 : decode cX1_busy 15 = .ok (.invokevirtual 103, 3) := dc_182 (bq_nm bk_X1_busy_0 (j := 15) rfl rfl) (bq_nm bk_X1_busy_0 (j := 16) rfl rfl) (bq_nm bk_X1_busy_0 (j := 17) rfl rfl) rfl
theorem dX1_busy_18 : decode cX1_busy 18 = .ok (.ifCond .eq 14, 3) := dc_153 (bq_nm bk_X1_busy_0 (j := 18) rfl rfl) (bq_nm bk_X1_busy_0 (j := 19) rfl rfl) (bq_nm bk_X1_busy_0 (j := 20) rfl rfl) rfl
theorem dX1_busy_21 : decode cX1_busy 21 = .ok (.iload_n 2, 1) := dc_28 (bq_nm bk_X1_busy_0 (j := 21) rfl rfl)
theorem dX1_busy_22 : decode cX1_busy 22 = .ok (.aload_n 0, 1) := dc_42 (bq_nm bk_X1_busy_0 (j := 22) rfl rfl)
theorem dX1_busy_23 : decode cX1_busy 23 = .ok (.iload_n 3, 1) := dc_29 (bq_nm bk_X1_busy_0 (j := 23) rfl rfl)
theorem dX1_busy_24 : decode cX1_busy 24 = .ok (.invokevirtual 56, 3) := dc_182 (bq_nm bk_X1_busy_0 (j := 24) rfl rfl) (bq_nm bk_X1_busy_0 (j := 25) rfl rfl) (bq_nm bk_X1_busy_0 (j := 26) rfl rfl) rfl
theorem dX1_busy_27 : decode cX1_busy 27 = .ok (.getfield 107, 3) := dc_180 (bq_nm bk_X1_busy_0 (j := 27) rfl rfl) (bq_nm bk_X1_busy_0 (j := 28) rfl rfl) (bq_nm bk_X1_busy_0 (j := 29) rfl rfl) rfl
theorem dX1_busy_30 : decode cX1_busy 30 = .ok (.ior, 1) := dc_128 (bq_nm bk_X1_busy_0 (j := 30) rfl rfl)
theorem dX1_busy_31 : decode cX1_busy 31 = .ok (.istore_n 2, 1) := dc_61 (bq_nm bk_X1_busy_0 (j := 31) rfl rfl)
set_option maxRecDepth 20000 in
theorem bk_X1_busy_32 : ((cX1_busy.data.toList.drop 32).take 8).length = 8 ∧ eN (((cX1_busy.data.toList.drop 32).take 8).map UInt8.toNat) = 12402035962006274948 := by decide +kernel
theorem dX1_busy_32 : decode cX1_busy 32 = .ok (.iinc 3 1, 3) := dc_132 (bq_nm bk_X1_busy_32 (j := 0) rfl rfl) (bq_nm bk_X1_busy_32 (j := 1) rfl rfl) (bq_nm bk_X1_busy_32 (j := 2) rfl rfl) rfl
theorem dX1_busy_35 : decode cX1_busy 35 = .ok (.goto (-31), 3) := dc_167 (bq_nm bk_X1_busy_32 (j := 3) rfl rfl) (bq_nm bk_X1_busy_32 (j := 4) rfl rfl) (bq_nm bk_X1_busy_32 (j := 5) rfl rfl) rfl
theorem dX1_busy_38 : decode cX1_busy 38 = .ok (.iload_n 2, 1) := dc_28 (bq_nm bk_X1_busy_32 (j := 6) rfl rfl)
theorem dX1_busy_39 : decode cX1_busy 39 = .ok (.ireturn, 1) := dc_172 (bq_nm bk_X1_busy_32 (j := 7) rfl rfl)
set_option maxRecDepth 20000 in
theorem bk_X1_truths_0 : ((cX1_truths.data.toList.drop 0).take 30).length = 30 ∧ eN (((cX1_truths.data.toList.drop 0).take 30).map UInt8.toNat) = 759211059297106937606971898964847710056241816208582581472479647625168683 := by decide +kernel
theorem dX1_truths_0 : decode cX1_truths 0 = .ok (.aload_n 1, 1) := dc_43 (bq_nm bk_X1_truths_0 (j := 0) rfl rfl)
theorem dX1_truths_1 : decode cX1_truths 1 = .ok (.ifnonnull 14, 3) := dc_199 (bq_nm bk_X1_truths_0 (j := 1) rfl rfl) (bq_nm bk_X1_truths_0 (j := 2) rfl rfl) (bq_nm bk_X1_truths_0 (j := 3) rfl rfl) rfl
theorem dX1_truths_4 : decode cX1_truths 4 = .ok (.iload_n 2, 1) := dc_28 (bq_nm bk_X1_truths_0 (j := 4) rfl rfl)
theorem dX1_truths_5 : decode cX1_truths 5 = .ok (.ifCond .ne 8, 3) := dc_154 (bq_nm bk_X1_truths_0 (j := 5) rfl rfl) (bq_nm bk_X1_truths_0 (j := 6) rfl rfl) (bq_nm bk_X1_truths_0 (j := 7) rfl rfl) rfl
theorem dX1_truths_8 : decode cX1_truths 8 = .ok (.iload 4, 2) := dc_21 (bq_nm bk_X1_truths_0 (j := 8) rfl rfl) (bq_nm bk_X1_truths_0 (j := 9) rfl rfl)
theorem dX1_truths_10 : decode cX1_truths 10 = .ok (.goto 4, 3) := dc_167 (bq_nm bk_X1_truths_0 (j := 10) rfl rfl) (bq_nm bk_X1_truths_0 (j := 11) rfl rfl) (bq_nm bk_X1_truths_0 (j := 12) rfl rfl) rfl
theorem dX1_truths_13 : decode cX1_truths 13 = .ok (.iconst 0, 1) := dc_3 (bq_nm bk_X1_truths_0 (j := 13) rfl rfl)
theorem dX1_truths_14 : decode cX1_truths 14 = .ok (.ireturn, 1) := dc_172 (bq_nm bk_X1_truths_0 (j := 14) rfl rfl)
theorem dX1_truths_15 : decode cX1_truths 15 = .ok (.iconst 0, 1) := dc_3 (bq_nm bk_X1_truths_0 (j := 15) rfl rfl)
theorem dX1_truths_16 : decode cX1_truths 16 = .ok (.istore 5, 2) := dc_54 (bq_nm bk_X1_truths_0 (j := 16) rfl rfl) (bq_nm bk_X1_truths_0 (j := 17) rfl rfl)
theorem dX1_truths_18 : decode cX1_truths 18 = .ok (.iconst 0, 1) := dc_3 (bq_nm bk_X1_truths_0 (j := 18) rfl rfl)
theorem dX1_truths_19 : decode cX1_truths 19 = .ok (.istore 6, 2) := dc_54 (bq_nm bk_X1_truths_0 (j := 19) rfl rfl) (bq_nm bk_X1_truths_0 (j := 20) rfl rfl)
theorem dX1_truths_21 : decode cX1_truths 21 = .ok (.iload 6, 2) := dc_21 (bq_nm bk_X1_truths_0 (j := 21) rfl rfl) (bq_nm bk_X1_truths_0 (j := 22) rfl rfl)
theorem dX1_truths_23 : decode cX1_truths 23 = .ok (.aload_n 0, 1) := dc_42 (bq_nm bk_X1_truths_0 (j := 23) rfl rfl)
theorem dX1_truths_24 : decode cX1_truths 24 = .ok (.getfield 12, 3) := dc_180 (bq_nm bk_X1_truths_0 (j := 24) rfl rfl) (bq_nm bk_X1_truths_0 (j := 25) rfl rfl) (bq_nm bk_X1_truths_0 (j := 26) rfl rfl) rfl
theorem dX1_truths_27 : decode cX1_truths 27 = .ok (.getfield 110, 3) := dc_180 (bq_nm bk_X1_truths_0 (j := 27) rfl rfl) (bq_nm bk_X1_truths_0 (j := 28) rfl rfl) (bq_nm bk_X1_truths_0 (j := 29) rfl rfl) rfl
set_option maxRecDepth 20000 in
theorem bk_X1_truths_30 : ((cX1_truths.data.toList.drop 30).take 32).length = 32 ∧ eN (((cX1_truths.data.toList.drop 30).take 32).map UInt8.toNat) = 1818230889912778518274808734844736416266682569608170619316113050052747788470 := by decide +kernel
theorem dX1_truths_30 : decode cX1_truths 30 = .ok (.invokevirtual 47, 3) := dc_182 (bq_nm bk_X1_truths_30 (j := 0) rfl rfl) (bq_nm bk_X1_truths_30 (j := 1) rfl rfl) (bq_nm bk_X1_truths_30 (j := 2) rfl rfl) rfl
theorem dX1_truths_33 : decode cX1_truths 33 = .ok (.if_icmp .ge 41, 3) := dc_162 (bq_nm bk_X1_truths_30 (j := 3) rfl rfl) (bq_nm bk_X1_truths_30 (j := 4) rfl rfl) (bq_nm bk_X1_truths_30 (j := 5) rfl rfl) rfl
theorem dX1_truths_36 : decode cX1_truths 36 = .ok (.iload 4, 2) := dc_21 (bq_nm bk_X1_truths_30 (j := 6) rfl rfl) (bq_nm bk_X1_truths_30 (j := 7) rfl rfl)
theorem dX1_truths_38 : decode cX1_truths 38 = .ok (.iload 6, 2) := dc_21 (bq_nm bk_X1_truths_30 (j := 8) rfl rfl) (bq_nm bk_X1_truths_30 (j := 9) rfl rfl)
theorem dX1_truths_40 : decode cX1_truths 40 = .ok (.invokestatic 113, 3) := dc_184 (bq_nm bk_X1_truths_30 (j := 10) rfl rfl) (bq_nm bk_X1_truths_30 (j := 11) rfl rfl) (bq_nm bk_X1_truths_30 (j := 12) rfl rfl) rfl
theorem dX1_truths_43 : decode cX1_truths 43 = .ok (.ifCond .eq 25, 3) := dc_153 (bq_nm bk_X1_truths_30 (j := 13) rfl rfl) (bq_nm bk_X1_truths_30 (j := 14) rfl rfl) (bq_nm bk_X1_truths_30 (j := 15) rfl rfl) rfl
theorem dX1_truths_46 : decode cX1_truths 46 = .ok (.aload_n 0, 1) := dc_42 (bq_nm bk_X1_truths_30 (j := 16) rfl rfl)
theorem dX1_truths_47 : decode cX1_truths 47 = .ok (.aload_n 1, 1) := dc_43 (bq_nm bk_X1_truths_30 (j := 17) rfl rfl)
theorem dX1_truths_48 : decode cX1_truths 48 = .ok (.iload 6, 2) := dc_21 (bq_nm bk_X1_truths_30 (j := 18) rfl rfl) (bq_nm bk_X1_truths_30 (j := 19) rfl rfl)
theorem dX1_truths_50 : decode cX1_truths 50 = .ok (.iload_n 3, 1) := dc_29 (bq_nm bk_X1_truths_30 (j := 20) rfl rfl)
theorem dX1_truths_51 : decode cX1_truths 51 = .ok (.invokevirtual 116, 3) := dc_182 (bq_nm bk_X1_truths_30 (j := 21) rfl rfl) (bq_nm bk_X1_truths_30 (j := 22) rfl rfl) (bq_nm bk_X1_truths_30 (j := 23) rfl rfl) rfl
theorem dX1_truths_54 : decode cX1_truths 54 = .ok (.lconst 0, 1) := dc_9 (bq_nm bk_X1_truths_30 (j := 24) rfl rfl)
theorem dX1_truths_55 : decode cX1_truths 55 = .ok (.lcmp, 1) := dc_148 (bq_nm bk_X1_truths_30 (j := 25) rfl rfl)
theorem dX1_truths_56 : decode cX1_truths 56 = .ok (.ifCond .eq 12, 3) := dc_153 (bq_nm bk_X1_truths_30 (j := 26) rfl rfl) (bq_nm bk_X1_truths_30 (j := 27) rfl rfl) (bq_nm bk_X1_truths_30 (j := 28) rfl rfl) rfl
theorem dX1_truths_59 : decode cX1_truths 59 = .ok (.iload 5, 2) := dc_21 (bq_nm bk_X1_truths_30 (j := 29) rfl rfl) (bq_nm bk_X1_truths_30 (j := 30) rfl rfl)
theorem dX1_truths_61 : decode cX1_truths 61 = .ok (.iconst 1, 1) := dc_4 (bq_nm bk_X1_truths_30 (j := 31) rfl rfl)
set_option maxRecDepth 20000 in
theorem bk_X1_truths_62 : ((cX1_truths.data.toList.drop 62).take 15).length = 15 ∧ eN (((cX1_truths.data.toList.drop 62).take 15).map UInt8.toNat) = 893178199570398171328158463415551509 := by decide +kernel
theorem dX1_truths_62 : decode cX1_truths 62 = .ok (.iload 6, 2) := dc_21 (bq_nm bk_X1_truths_62 (j := 0) rfl rfl) (bq_nm bk_X1_truths_62 (j := 1) rfl rfl)
theorem dX1_truths_64 : decode cX1_truths 64 = .ok (.ishl, 1) := dc_120 (bq_nm bk_X1_truths_62 (j := 2) rfl rfl)
theorem dX1_truths_65 : decode cX1_truths 65 = .ok (.ior, 1) := dc_128 (bq_nm bk_X1_truths_62 (j := 3) rfl rfl)
theorem dX1_truths_66 : decode cX1_truths 66 = .ok (.istore 5, 2) := dc_54 (bq_nm bk_X1_truths_62 (j := 4) rfl rfl) (bq_nm bk_X1_truths_62 (j := 5) rfl rfl)
theorem dX1_truths_68 : decode cX1_truths 68 = .ok (.iinc 6 1, 3) := dc_132 (bq_nm bk_X1_truths_62 (j := 6) rfl rfl) (bq_nm bk_X1_truths_62 (j := 7) rfl rfl) (bq_nm bk_X1_truths_62 (j := 8) rfl rfl) rfl
theorem dX1_truths_71 : decode cX1_truths 71 = .ok (.goto (-50), 3) := dc_167 (bq_nm bk_X1_truths_62 (j := 9) rfl rfl) (bq_nm bk_X1_truths_62 (j := 10) rfl rfl) (bq_nm bk_X1_truths_62 (j := 11) rfl rfl) rfl
theorem dX1_truths_74 : decode cX1_truths 74 = .ok (.iload 5, 2) := dc_21 (bq_nm bk_X1_truths_62 (j := 12) rfl rfl) (bq_nm bk_X1_truths_62 (j := 13) rfl rfl)
theorem dX1_truths_76 : decode cX1_truths 76 = .ok (.ireturn, 1) := dc_172 (bq_nm bk_X1_truths_62 (j := 14) rfl rfl)
set_option maxRecDepth 20000 in
theorem bk_X1_tell_0 : ((cX1_tell.data.toList.drop 0).take 31).length = 31 ∧ eN (((cX1_tell.data.toList.drop 0).take 31).map UInt8.toNat) = 204996237415251556313537435855916170592703267411647886430252571570102089219 := by decide +kernel
theorem dX1_tell_0 : decode cX1_tell 0 = .ok (.iconst 0, 1) := dc_3 (bq_nm bk_X1_tell_0 (j := 0) rfl rfl)
theorem dX1_tell_1 : decode cX1_tell 1 = .ok (.istore 4, 2) := dc_54 (bq_nm bk_X1_tell_0 (j := 1) rfl rfl) (bq_nm bk_X1_tell_0 (j := 2) rfl rfl)
theorem dX1_tell_3 : decode cX1_tell 3 = .ok (.iconst 0, 1) := dc_3 (bq_nm bk_X1_tell_0 (j := 3) rfl rfl)
theorem dX1_tell_4 : decode cX1_tell 4 = .ok (.istore 5, 2) := dc_54 (bq_nm bk_X1_tell_0 (j := 4) rfl rfl) (bq_nm bk_X1_tell_0 (j := 5) rfl rfl)
theorem dX1_tell_6 : decode cX1_tell 6 = .ok (.iload 5, 2) := dc_21 (bq_nm bk_X1_tell_0 (j := 6) rfl rfl) (bq_nm bk_X1_tell_0 (j := 7) rfl rfl)
theorem dX1_tell_8 : decode cX1_tell 8 = .ok (.aload_n 1, 1) := dc_43 (bq_nm bk_X1_tell_0 (j := 8) rfl rfl)
theorem dX1_tell_9 : decode cX1_tell 9 = .ok (.invokevirtual 120, 3) := dc_182 (bq_nm bk_X1_tell_0 (j := 9) rfl rfl) (bq_nm bk_X1_tell_0 (j := 10) rfl rfl) (bq_nm bk_X1_tell_0 (j := 11) rfl rfl) rfl
theorem dX1_tell_12 : decode cX1_tell 12 = .ok (.if_icmp .ge 159, 3) := dc_162 (bq_nm bk_X1_tell_0 (j := 12) rfl rfl) (bq_nm bk_X1_tell_0 (j := 13) rfl rfl) (bq_nm bk_X1_tell_0 (j := 14) rfl rfl) rfl
theorem dX1_tell_15 : decode cX1_tell 15 = .ok (.aload_n 1, 1) := dc_43 (bq_nm bk_X1_tell_0 (j := 15) rfl rfl)
theorem dX1_tell_16 : decode cX1_tell 16 = .ok (.iload 5, 2) := dc_21 (bq_nm bk_X1_tell_0 (j := 16) rfl rfl) (bq_nm bk_X1_tell_0 (j := 17) rfl rfl)
theorem dX1_tell_18 : decode cX1_tell 18 = .ok (.invokevirtual 125, 3) := dc_182 (bq_nm bk_X1_tell_0 (j := 18) rfl rfl) (bq_nm bk_X1_tell_0 (j := 19) rfl rfl) (bq_nm bk_X1_tell_0 (j := 20) rfl rfl) rfl
theorem dX1_tell_21 : decode cX1_tell 21 = .ok (.istore 6, 2) := dc_54 (bq_nm bk_X1_tell_0 (j := 21) rfl rfl) (bq_nm bk_X1_tell_0 (j := 22) rfl rfl)
theorem dX1_tell_23 : decode cX1_tell 23 = .ok (.iload 6, 2) := dc_21 (bq_nm bk_X1_tell_0 (j := 23) rfl rfl) (bq_nm bk_X1_tell_0 (j := 24) rfl rfl)
theorem dX1_tell_25 : decode cX1_tell 25 = .ok (.ifCond .ge 12, 3) := dc_156 (bq_nm bk_X1_tell_0 (j := 25) rfl rfl) (bq_nm bk_X1_tell_0 (j := 26) rfl rfl) (bq_nm bk_X1_tell_0 (j := 27) rfl rfl) rfl
theorem dX1_tell_28 : decode cX1_tell 28 = .ok (.iload 6, 2) := dc_21 (bq_nm bk_X1_tell_0 (j := 28) rfl rfl) (bq_nm bk_X1_tell_0 (j := 29) rfl rfl)
theorem dX1_tell_30 : decode cX1_tell 30 = .ok (.ineg, 1) := dc_116 (bq_nm bk_X1_tell_0 (j := 30) rfl rfl)
set_option maxRecDepth 20000 in
theorem bk_X1_tell_31 : ((cX1_tell.data.toList.drop 31).take 32).length = 32 ∧ eN (((cX1_tell.data.toList.drop 31).take 32).map UInt8.toNat) = 4071885571906067592999966830098411661734521956265881756915655102461204496568 := by decide +kernel
theorem dX1_tell_31 : decode cX1_tell 31 = .ok (.invokestatic 128, 3) := dc_184 (bq_nm bk_X1_tell_31 (j := 0) rfl rfl) (bq_nm bk_X1_tell_31 (j := 1) rfl rfl) (bq_nm bk_X1_tell_31 (j := 2) rfl rfl) rfl
theorem dX1_tell_34 : decode cX1_tell 34 = .ok (.goto 4, 3) := dc_167 (bq_nm bk_X1_tell_31 (j := 3) rfl rfl) (bq_nm bk_X1_tell_31 (j := 4) rfl rfl) (bq_nm bk_X1_tell_31 (j := 5) rfl rfl) rfl
theorem dX1_tell_37 : decode cX1_tell 37 = .ok (.iconst 0, 1) := dc_3 (bq_nm bk_X1_tell_31 (j := 6) rfl rfl)
theorem dX1_tell_38 : decode cX1_tell 38 = .ok (.istore 7, 2) := dc_54 (bq_nm bk_X1_tell_31 (j := 7) rfl rfl) (bq_nm bk_X1_tell_31 (j := 8) rfl rfl)
theorem dX1_tell_40 : decode cX1_tell 40 = .ok (.iload 7, 2) := dc_21 (bq_nm bk_X1_tell_31 (j := 9) rfl rfl) (bq_nm bk_X1_tell_31 (j := 10) rfl rfl)
theorem dX1_tell_42 : decode cX1_tell 42 = .ok (.ifCond .ne 43, 3) := dc_154 (bq_nm bk_X1_tell_31 (j := 11) rfl rfl) (bq_nm bk_X1_tell_31 (j := 12) rfl rfl) (bq_nm bk_X1_tell_31 (j := 13) rfl rfl) rfl
theorem dX1_tell_45 : decode cX1_tell 45 = .ok (.iload 4, 2) := dc_21 (bq_nm bk_X1_tell_31 (j := 14) rfl rfl) (bq_nm bk_X1_tell_31 (j := 15) rfl rfl)
theorem dX1_tell_47 : decode cX1_tell 47 = .ok (.bipush 50, 2) := dc_16 (bq_nm bk_X1_tell_31 (j := 16) rfl rfl) (bq_nm bk_X1_tell_31 (j := 17) rfl rfl) rfl
theorem dX1_tell_49 : decode cX1_tell 49 = .ok (.if_icmp .ge 36, 3) := dc_162 (bq_nm bk_X1_tell_31 (j := 18) rfl rfl) (bq_nm bk_X1_tell_31 (j := 19) rfl rfl) (bq_nm bk_X1_tell_31 (j := 20) rfl rfl) rfl
theorem dX1_tell_52 : decode cX1_tell 52 = .ok (.aload_n 0, 1) := dc_42 (bq_nm bk_X1_tell_31 (j := 21) rfl rfl)
theorem dX1_tell_53 : decode cX1_tell 53 = .ok (.getfield 29, 3) := dc_180 (bq_nm bk_X1_tell_31 (j := 22) rfl rfl) (bq_nm bk_X1_tell_31 (j := 23) rfl rfl) (bq_nm bk_X1_tell_31 (j := 24) rfl rfl) rfl
theorem dX1_tell_56 : decode cX1_tell 56 = .ok (.iload 4, 2) := dc_21 (bq_nm bk_X1_tell_31 (j := 25) rfl rfl) (bq_nm bk_X1_tell_31 (j := 26) rfl rfl)
theorem dX1_tell_58 : decode cX1_tell 58 = .ok (.iload 6, 2) := dc_21 (bq_nm bk_X1_tell_31 (j := 27) rfl rfl) (bq_nm bk_X1_tell_31 (j := 28) rfl rfl)
theorem dX1_tell_60 : decode cX1_tell 60 = .ok (.ifCond .lt 9, 3) := dc_155 (bq_nm bk_X1_tell_31 (j := 29) rfl rfl) (bq_nm bk_X1_tell_31 (j := 30) rfl rfl) (bq_nm bk_X1_tell_31 (j := 31) rfl rfl) rfl
set_option maxRecDepth 20000 in
theorem bk_X1_tell_63 : ((cX1_tell.data.toList.drop 63).take 32).length = 32 ∧ eN (((cX1_tell.data.toList.drop 63).take 32).map UInt8.toNat) = 1816464689889371634602622086378695616193498919469087038547747828420319708693 := by decide +kernel
theorem dX1_tell_63 : decode cX1_tell 63 = .ok (.iload 6, 2) := dc_21 (bq_nm bk_X1_tell_63 (j := 0) rfl rfl) (bq_nm bk_X1_tell_63 (j := 1) rfl rfl)
theorem dX1_tell_65 : decode cX1_tell 65 = .ok (.i2l, 1) := dc_133 (bq_nm bk_X1_tell_63 (j := 2) rfl rfl)
theorem dX1_tell_66 : decode cX1_tell 66 = .ok (.goto 12, 3) := dc_167 (bq_nm bk_X1_tell_63 (j := 3) rfl rfl) (bq_nm bk_X1_tell_63 (j := 4) rfl rfl) (bq_nm bk_X1_tell_63 (j := 5) rfl rfl) rfl
theorem dX1_tell_69 : decode cX1_tell 69 = .ok (.aload_n 0, 1) := dc_42 (bq_nm bk_X1_tell_63 (j := 6) rfl rfl)
theorem dX1_tell_70 : decode cX1_tell 70 = .ok (.iload 6, 2) := dc_21 (bq_nm bk_X1_tell_63 (j := 7) rfl rfl) (bq_nm bk_X1_tell_63 (j := 8) rfl rfl)
theorem dX1_tell_72 : decode cX1_tell 72 = .ok (.ineg, 1) := dc_116 (bq_nm bk_X1_tell_63 (j := 9) rfl rfl)
theorem dX1_tell_73 : decode cX1_tell 73 = .ok (.iload_n 2, 1) := dc_28 (bq_nm bk_X1_tell_63 (j := 10) rfl rfl)
theorem dX1_tell_74 : decode cX1_tell 74 = .ok (.iload_n 3, 1) := dc_29 (bq_nm bk_X1_tell_63 (j := 11) rfl rfl)
theorem dX1_tell_75 : decode cX1_tell 75 = .ok (.invokevirtual 133, 3) := dc_182 (bq_nm bk_X1_tell_63 (j := 12) rfl rfl) (bq_nm bk_X1_tell_63 (j := 13) rfl rfl) (bq_nm bk_X1_tell_63 (j := 14) rfl rfl) rfl
theorem dX1_tell_78 : decode cX1_tell 78 = .ok (.lastore, 1) := dc_80 (bq_nm bk_X1_tell_63 (j := 15) rfl rfl)
theorem dX1_tell_79 : decode cX1_tell 79 = .ok (.iinc 4 1, 3) := dc_132 (bq_nm bk_X1_tell_63 (j := 16) rfl rfl) (bq_nm bk_X1_tell_63 (j := 17) rfl rfl) (bq_nm bk_X1_tell_63 (j := 18) rfl rfl) rfl
theorem dX1_tell_82 : decode cX1_tell 82 = .ok (.goto 83, 3) := dc_167 (bq_nm bk_X1_tell_63 (j := 19) rfl rfl) (bq_nm bk_X1_tell_63 (j := 20) rfl rfl) (bq_nm bk_X1_tell_63 (j := 21) rfl rfl) rfl
theorem dX1_tell_85 : decode cX1_tell 85 = .ok (.iload 7, 2) := dc_21 (bq_nm bk_X1_tell_63 (j := 22) rfl rfl) (bq_nm bk_X1_tell_63 (j := 23) rfl rfl)
theorem dX1_tell_87 : decode cX1_tell 87 = .ok (.bipush 6, 2) := dc_16 (bq_nm bk_X1_tell_63 (j := 24) rfl rfl) (bq_nm bk_X1_tell_63 (j := 25) rfl rfl) rfl
theorem dX1_tell_89 : decode cX1_tell 89 = .ok (.if_icmp .ne 36, 3) := dc_160 (bq_nm bk_X1_tell_63 (j := 26) rfl rfl) (bq_nm bk_X1_tell_63 (j := 27) rfl rfl) (bq_nm bk_X1_tell_63 (j := 28) rfl rfl) rfl
theorem dX1_tell_92 : decode cX1_tell 92 = .ok (.iload 4, 2) := dc_21 (bq_nm bk_X1_tell_63 (j := 29) rfl rfl) (bq_nm bk_X1_tell_63 (j := 30) rfl rfl)
theorem dX1_tell_94 : decode cX1_tell 94 = .ok (.iconst 1, 1) := dc_4 (bq_nm bk_X1_tell_63 (j := 31) rfl rfl)
set_option maxRecDepth 20000 in
theorem bk_X1_tell_95 : ((cX1_tell.data.toList.drop 95).take 32).length = 32 ∧ eN (((cX1_tell.data.toList.drop 95).take 32).map UInt8.toNat) = 1846651975406606573481149362113286389959892987202631459387781037141207679137 := by decide +kernel
theorem dX1_tell_95 : decode cX1_tell 95 = .ok (.if_icmp .lt 30, 3) := dc_161 (bq_nm bk_X1_tell_95 (j := 0) rfl rfl) (bq_nm bk_X1_tell_95 (j := 1) rfl rfl) (bq_nm bk_X1_tell_95 (j := 2) rfl rfl) rfl
theorem dX1_tell_98 : decode cX1_tell 98 = .ok (.aload_n 0, 1) := dc_42 (bq_nm bk_X1_tell_95 (j := 3) rfl rfl)
theorem dX1_tell_99 : decode cX1_tell 99 = .ok (.getfield 29, 3) := dc_180 (bq_nm bk_X1_tell_95 (j := 4) rfl rfl) (bq_nm bk_X1_tell_95 (j := 5) rfl rfl) (bq_nm bk_X1_tell_95 (j := 6) rfl rfl) rfl
theorem dX1_tell_102 : decode cX1_tell 102 = .ok (.iload 4, 2) := dc_21 (bq_nm bk_X1_tell_95 (j := 7) rfl rfl) (bq_nm bk_X1_tell_95 (j := 8) rfl rfl)
theorem dX1_tell_104 : decode cX1_tell 104 = .ok (.iconst 1, 1) := dc_4 (bq_nm bk_X1_tell_95 (j := 9) rfl rfl)
theorem dX1_tell_105 : decode cX1_tell 105 = .ok (.isub, 1) := dc_100 (bq_nm bk_X1_tell_95 (j := 10) rfl rfl)
theorem dX1_tell_106 : decode cX1_tell 106 = .ok (.iload 6, 2) := dc_21 (bq_nm bk_X1_tell_95 (j := 11) rfl rfl) (bq_nm bk_X1_tell_95 (j := 12) rfl rfl)
theorem dX1_tell_108 : decode cX1_tell 108 = .ok (.ineg, 1) := dc_116 (bq_nm bk_X1_tell_95 (j := 13) rfl rfl)
theorem dX1_tell_109 : decode cX1_tell 109 = .ok (.aload_n 0, 1) := dc_42 (bq_nm bk_X1_tell_95 (j := 14) rfl rfl)
theorem dX1_tell_110 : decode cX1_tell 110 = .ok (.getfield 29, 3) := dc_180 (bq_nm bk_X1_tell_95 (j := 15) rfl rfl) (bq_nm bk_X1_tell_95 (j := 16) rfl rfl) (bq_nm bk_X1_tell_95 (j := 17) rfl rfl) rfl
theorem dX1_tell_113 : decode cX1_tell 113 = .ok (.iload 4, 2) := dc_21 (bq_nm bk_X1_tell_95 (j := 18) rfl rfl) (bq_nm bk_X1_tell_95 (j := 19) rfl rfl)
theorem dX1_tell_115 : decode cX1_tell 115 = .ok (.iconst 1, 1) := dc_4 (bq_nm bk_X1_tell_95 (j := 20) rfl rfl)
theorem dX1_tell_116 : decode cX1_tell 116 = .ok (.isub, 1) := dc_100 (bq_nm bk_X1_tell_95 (j := 21) rfl rfl)
theorem dX1_tell_117 : decode cX1_tell 117 = .ok (.laload, 1) := dc_47 (bq_nm bk_X1_tell_95 (j := 22) rfl rfl)
theorem dX1_tell_118 : decode cX1_tell 118 = .ok (.invokestatic 137, 3) := dc_184 (bq_nm bk_X1_tell_95 (j := 23) rfl rfl) (bq_nm bk_X1_tell_95 (j := 24) rfl rfl) (bq_nm bk_X1_tell_95 (j := 25) rfl rfl) rfl
theorem dX1_tell_121 : decode cX1_tell 121 = .ok (.lastore, 1) := dc_80 (bq_nm bk_X1_tell_95 (j := 26) rfl rfl)
theorem dX1_tell_122 : decode cX1_tell 122 = .ok (.goto 43, 3) := dc_167 (bq_nm bk_X1_tell_95 (j := 27) rfl rfl) (bq_nm bk_X1_tell_95 (j := 28) rfl rfl) (bq_nm bk_X1_tell_95 (j := 29) rfl rfl) rfl
theorem dX1_tell_125 : decode cX1_tell 125 = .ok (.iload 4, 2) := dc_21 (bq_nm bk_X1_tell_95 (j := 30) rfl rfl) (bq_nm bk_X1_tell_95 (j := 31) rfl rfl)
set_option maxRecDepth 20000 in
theorem bk_X1_tell_127 : ((cX1_tell.data.toList.drop 127).take 31).length = 31 ∧ eN (((cX1_tell.data.toList.drop 127).take 31).map UInt8.toNat) = 51243422111584880313939486695939590480836192278974914741646212074720764165 := by decide +kernel
theorem dX1_tell_127 : decode cX1_tell 127 = .ok (.iconst 2, 1) := dc_5 (bq_nm bk_X1_tell_127 (j := 0) rfl rfl)
theorem dX1_tell_128 : decode cX1_tell 128 = .ok (.if_icmp .lt 37, 3) := dc_161 (bq_nm bk_X1_tell_127 (j := 1) rfl rfl) (bq_nm bk_X1_tell_127 (j := 2) rfl rfl) (bq_nm bk_X1_tell_127 (j := 3) rfl rfl) rfl
theorem dX1_tell_131 : decode cX1_tell 131 = .ok (.iinc 4 (-1), 3) := dc_132 (bq_nm bk_X1_tell_127 (j := 4) rfl rfl) (bq_nm bk_X1_tell_127 (j := 5) rfl rfl) (bq_nm bk_X1_tell_127 (j := 6) rfl rfl) rfl
theorem dX1_tell_134 : decode cX1_tell 134 = .ok (.aload_n 0, 1) := dc_42 (bq_nm bk_X1_tell_127 (j := 7) rfl rfl)
theorem dX1_tell_135 : decode cX1_tell 135 = .ok (.getfield 29, 3) := dc_180 (bq_nm bk_X1_tell_127 (j := 8) rfl rfl) (bq_nm bk_X1_tell_127 (j := 9) rfl rfl) (bq_nm bk_X1_tell_127 (j := 10) rfl rfl) rfl
theorem dX1_tell_138 : decode cX1_tell 138 = .ok (.iload 4, 2) := dc_21 (bq_nm bk_X1_tell_127 (j := 11) rfl rfl) (bq_nm bk_X1_tell_127 (j := 12) rfl rfl)
theorem dX1_tell_140 : decode cX1_tell 140 = .ok (.iconst 1, 1) := dc_4 (bq_nm bk_X1_tell_127 (j := 13) rfl rfl)
theorem dX1_tell_141 : decode cX1_tell 141 = .ok (.isub, 1) := dc_100 (bq_nm bk_X1_tell_127 (j := 14) rfl rfl)
theorem dX1_tell_142 : decode cX1_tell 142 = .ok (.iload 6, 2) := dc_21 (bq_nm bk_X1_tell_127 (j := 15) rfl rfl) (bq_nm bk_X1_tell_127 (j := 16) rfl rfl)
theorem dX1_tell_144 : decode cX1_tell 144 = .ok (.ineg, 1) := dc_116 (bq_nm bk_X1_tell_127 (j := 17) rfl rfl)
theorem dX1_tell_145 : decode cX1_tell 145 = .ok (.aload_n 0, 1) := dc_42 (bq_nm bk_X1_tell_127 (j := 18) rfl rfl)
theorem dX1_tell_146 : decode cX1_tell 146 = .ok (.getfield 29, 3) := dc_180 (bq_nm bk_X1_tell_127 (j := 19) rfl rfl) (bq_nm bk_X1_tell_127 (j := 20) rfl rfl) (bq_nm bk_X1_tell_127 (j := 21) rfl rfl) rfl
theorem dX1_tell_149 : decode cX1_tell 149 = .ok (.iload 4, 2) := dc_21 (bq_nm bk_X1_tell_127 (j := 22) rfl rfl) (bq_nm bk_X1_tell_127 (j := 23) rfl rfl)
theorem dX1_tell_151 : decode cX1_tell 151 = .ok (.iconst 1, 1) := dc_4 (bq_nm bk_X1_tell_127 (j := 24) rfl rfl)
theorem dX1_tell_152 : decode cX1_tell 152 = .ok (.isub, 1) := dc_100 (bq_nm bk_X1_tell_127 (j := 25) rfl rfl)
theorem dX1_tell_153 : decode cX1_tell 153 = .ok (.laload, 1) := dc_47 (bq_nm bk_X1_tell_127 (j := 26) rfl rfl)
theorem dX1_tell_154 : decode cX1_tell 154 = .ok (.aload_n 0, 1) := dc_42 (bq_nm bk_X1_tell_127 (j := 27) rfl rfl)
theorem dX1_tell_155 : decode cX1_tell 155 = .ok (.getfield 29, 3) := dc_180 (bq_nm bk_X1_tell_127 (j := 28) rfl rfl) (bq_nm bk_X1_tell_127 (j := 29) rfl rfl) (bq_nm bk_X1_tell_127 (j := 30) rfl rfl) rfl
set_option maxRecDepth 20000 in
theorem bk_X1_tell_158 : ((cX1_tell.data.toList.drop 158).take 20).length = 20 ∧ eN (((cX1_tell.data.toList.drop 158).take 20).map UInt8.toNat) = 988703809582837085790248921552021373684412253205 := by decide +kernel
theorem dX1_tell_158 : decode cX1_tell 158 = .ok (.iload 4, 2) := dc_21 (bq_nm bk_X1_tell_158 (j := 0) rfl rfl) (bq_nm bk_X1_tell_158 (j := 1) rfl rfl)
theorem dX1_tell_160 : decode cX1_tell 160 = .ok (.laload, 1) := dc_47 (bq_nm bk_X1_tell_158 (j := 2) rfl rfl)
theorem dX1_tell_161 : decode cX1_tell 161 = .ok (.invokestatic 141, 3) := dc_184 (bq_nm bk_X1_tell_158 (j := 3) rfl rfl) (bq_nm bk_X1_tell_158 (j := 4) rfl rfl) (bq_nm bk_X1_tell_158 (j := 5) rfl rfl) rfl
theorem dX1_tell_164 : decode cX1_tell 164 = .ok (.lastore, 1) := dc_80 (bq_nm bk_X1_tell_158 (j := 6) rfl rfl)
theorem dX1_tell_165 : decode cX1_tell 165 = .ok (.iinc 5 1, 3) := dc_132 (bq_nm bk_X1_tell_158 (j := 7) rfl rfl) (bq_nm bk_X1_tell_158 (j := 8) rfl rfl) (bq_nm bk_X1_tell_158 (j := 9) rfl rfl) rfl
theorem dX1_tell_168 : decode cX1_tell 168 = .ok (.goto (-162), 3) := dc_167 (bq_nm bk_X1_tell_158 (j := 10) rfl rfl) (bq_nm bk_X1_tell_158 (j := 11) rfl rfl) (bq_nm bk_X1_tell_158 (j := 12) rfl rfl) rfl
theorem dX1_tell_171 : decode cX1_tell 171 = .ok (.aload_n 0, 1) := dc_42 (bq_nm bk_X1_tell_158 (j := 13) rfl rfl)
theorem dX1_tell_172 : decode cX1_tell 172 = .ok (.getfield 29, 3) := dc_180 (bq_nm bk_X1_tell_158 (j := 14) rfl rfl) (bq_nm bk_X1_tell_158 (j := 15) rfl rfl) (bq_nm bk_X1_tell_158 (j := 16) rfl rfl) rfl
theorem dX1_tell_175 : decode cX1_tell 175 = .ok (.iconst 0, 1) := dc_3 (bq_nm bk_X1_tell_158 (j := 17) rfl rfl)
theorem dX1_tell_176 : decode cX1_tell 176 = .ok (.laload, 1) := dc_47 (bq_nm bk_X1_tell_158 (j := 18) rfl rfl)
theorem dX1_tell_177 : decode cX1_tell 177 = .ok (.lreturn, 1) := dc_173 (bq_nm bk_X1_tell_158 (j := 19) rfl rfl)
set_option maxRecDepth 20000 in
theorem bk_X1_letter_0 : ((cX1_letter.data.toList.drop 0).take 1).length = 1 ∧ eN (((cX1_letter.data.toList.drop 0).take 1).map UInt8.toNat) = 27 := by decide +kernel
theorem dX1_letter_0 : decode cX1_letter 0 = .ok (.iload_n 1, 1) := dc_27 (bq_nm bk_X1_letter_0 (j := 0) rfl rfl)
set_option maxRecDepth 20000 in
theorem bk_X1_letter_52 : ((cX1_letter.data.toList.drop 52).take 32).length = 32 ∧ eN (((cX1_letter.data.toList.drop 52).take 32).map UInt8.toNat) = 60251256663256234202380110359609345993937221037145166149155924599216017553437 := by decide +kernel
theorem dX1_letter_52 : decode cX1_letter 52 = .ok (.iload_n 3, 1) := dc_29 (bq_nm bk_X1_letter_52 (j := 0) rfl rfl)
theorem dX1_letter_53 : decode cX1_letter 53 = .ok (.invokestatic 145, 3) := dc_184 (bq_nm bk_X1_letter_52 (j := 1) rfl rfl) (bq_nm bk_X1_letter_52 (j := 2) rfl rfl) (bq_nm bk_X1_letter_52 (j := 3) rfl rfl) rfl
theorem dX1_letter_56 : decode cX1_letter 56 = .ok (.aload_n 0, 1) := dc_42 (bq_nm bk_X1_letter_52 (j := 4) rfl rfl)
theorem dX1_letter_57 : decode cX1_letter 57 = .ok (.getfield 12, 3) := dc_180 (bq_nm bk_X1_letter_52 (j := 5) rfl rfl) (bq_nm bk_X1_letter_52 (j := 6) rfl rfl) (bq_nm bk_X1_letter_52 (j := 7) rfl rfl) rfl
theorem dX1_letter_60 : decode cX1_letter 60 = .ok (.getfield 110, 3) := dc_180 (bq_nm bk_X1_letter_52 (j := 8) rfl rfl) (bq_nm bk_X1_letter_52 (j := 9) rfl rfl) (bq_nm bk_X1_letter_52 (j := 10) rfl rfl) rfl
theorem dX1_letter_63 : decode cX1_letter 63 = .ok (.iload_n 2, 1) := dc_28 (bq_nm bk_X1_letter_52 (j := 11) rfl rfl)
theorem dX1_letter_64 : decode cX1_letter 64 = .ok (.iconst 3, 1) := dc_6 (bq_nm bk_X1_letter_52 (j := 12) rfl rfl)
theorem dX1_letter_65 : decode cX1_letter 65 = .ok (.invokevirtual 53, 3) := dc_182 (bq_nm bk_X1_letter_52 (j := 13) rfl rfl) (bq_nm bk_X1_letter_52 (j := 14) rfl rfl) (bq_nm bk_X1_letter_52 (j := 15) rfl rfl) rfl
theorem dX1_letter_68 : decode cX1_letter 68 = .ok (.isub, 1) := dc_100 (bq_nm bk_X1_letter_52 (j := 16) rfl rfl)
theorem dX1_letter_69 : decode cX1_letter 69 = .ok (.i2l, 1) := dc_133 (bq_nm bk_X1_letter_52 (j := 17) rfl rfl)
theorem dX1_letter_70 : decode cX1_letter 70 = .ok (.lreturn, 1) := dc_173 (bq_nm bk_X1_letter_52 (j := 18) rfl rfl)
theorem dX1_letter_71 : decode cX1_letter 71 = .ok (.aload_n 0, 1) := dc_42 (bq_nm bk_X1_letter_52 (j := 19) rfl rfl)
theorem dX1_letter_72 : decode cX1_letter 72 = .ok (.getfield 12, 3) := dc_180 (bq_nm bk_X1_letter_52 (j := 20) rfl rfl) (bq_nm bk_X1_letter_52 (j := 21) rfl rfl) (bq_nm bk_X1_letter_52 (j := 22) rfl rfl) rfl
theorem dX1_letter_75 : decode cX1_letter 75 = .ok (.getfield 110, 3) := dc_180 (bq_nm bk_X1_letter_52 (j := 23) rfl rfl) (bq_nm bk_X1_letter_52 (j := 24) rfl rfl) (bq_nm bk_X1_letter_52 (j := 25) rfl rfl) rfl
theorem dX1_letter_78 : decode cX1_letter 78 = .ok (.iload_n 2, 1) := dc_28 (bq_nm bk_X1_letter_52 (j := 26) rfl rfl)
theorem dX1_letter_79 : decode cX1_letter 79 = .ok (.iconst 2, 1) := dc_5 (bq_nm bk_X1_letter_52 (j := 27) rfl rfl)
theorem dX1_letter_80 : decode cX1_letter 80 = .ok (.invokevirtual 53, 3) := dc_182 (bq_nm bk_X1_letter_52 (j := 28) rfl rfl) (bq_nm bk_X1_letter_52 (j := 29) rfl rfl) (bq_nm bk_X1_letter_52 (j := 30) rfl rfl) rfl
theorem dX1_letter_83 : decode cX1_letter 83 = .ok (.i2l, 1) := dc_133 (bq_nm bk_X1_letter_52 (j := 31) rfl rfl)
set_option maxRecDepth 20000 in
theorem bk_X1_letter_84 : ((cX1_letter.data.toList.drop 84).take 32).length = 32 ∧ eN (((cX1_letter.data.toList.drop 84).take 32).map UInt8.toNat) = 13166838878174197514605900174005675729049979354632773257926079601281598761645 := by decide +kernel
theorem dX1_letter_84 : decode cX1_letter 84 = .ok (.lreturn, 1) := dc_173 (bq_nm bk_X1_letter_84 (j := 0) rfl rfl)
theorem dX1_letter_85 : decode cX1_letter 85 = .ok (.aload_n 0, 1) := dc_42 (bq_nm bk_X1_letter_84 (j := 1) rfl rfl)
theorem dX1_letter_86 : decode cX1_letter 86 = .ok (.getfield 12, 3) := dc_180 (bq_nm bk_X1_letter_84 (j := 2) rfl rfl) (bq_nm bk_X1_letter_84 (j := 3) rfl rfl) (bq_nm bk_X1_letter_84 (j := 4) rfl rfl) rfl
theorem dX1_letter_89 : decode cX1_letter 89 = .ok (.getfield 110, 3) := dc_180 (bq_nm bk_X1_letter_84 (j := 5) rfl rfl) (bq_nm bk_X1_letter_84 (j := 6) rfl rfl) (bq_nm bk_X1_letter_84 (j := 7) rfl rfl) rfl
theorem dX1_letter_92 : decode cX1_letter 92 = .ok (.iload_n 2, 1) := dc_28 (bq_nm bk_X1_letter_84 (j := 8) rfl rfl)
theorem dX1_letter_93 : decode cX1_letter 93 = .ok (.iconst 1, 1) := dc_4 (bq_nm bk_X1_letter_84 (j := 9) rfl rfl)
theorem dX1_letter_94 : decode cX1_letter 94 = .ok (.invokevirtual 53, 3) := dc_182 (bq_nm bk_X1_letter_84 (j := 10) rfl rfl) (bq_nm bk_X1_letter_84 (j := 11) rfl rfl) (bq_nm bk_X1_letter_84 (j := 12) rfl rfl) rfl
theorem dX1_letter_97 : decode cX1_letter 97 = .ok (.i2l, 1) := dc_133 (bq_nm bk_X1_letter_84 (j := 13) rfl rfl)
theorem dX1_letter_98 : decode cX1_letter 98 = .ok (.lreturn, 1) := dc_173 (bq_nm bk_X1_letter_84 (j := 14) rfl rfl)
theorem dX1_letter_99 : decode cX1_letter 99 = .ok (.aload_n 0, 1) := dc_42 (bq_nm bk_X1_letter_84 (j := 15) rfl rfl)
theorem dX1_letter_100 : decode cX1_letter 100 = .ok (.getfield 12, 3) := dc_180 (bq_nm bk_X1_letter_84 (j := 16) rfl rfl) (bq_nm bk_X1_letter_84 (j := 17) rfl rfl) (bq_nm bk_X1_letter_84 (j := 18) rfl rfl) rfl
theorem dX1_letter_103 : decode cX1_letter 103 = .ok (.getfield 110, 3) := dc_180 (bq_nm bk_X1_letter_84 (j := 19) rfl rfl) (bq_nm bk_X1_letter_84 (j := 20) rfl rfl) (bq_nm bk_X1_letter_84 (j := 21) rfl rfl) rfl
theorem dX1_letter_106 : decode cX1_letter 106 = .ok (.iload_n 2, 1) := dc_28 (bq_nm bk_X1_letter_84 (j := 22) rfl rfl)
theorem dX1_letter_107 : decode cX1_letter 107 = .ok (.iconst 0, 1) := dc_3 (bq_nm bk_X1_letter_84 (j := 23) rfl rfl)
theorem dX1_letter_108 : decode cX1_letter 108 = .ok (.invokevirtual 53, 3) := dc_182 (bq_nm bk_X1_letter_84 (j := 24) rfl rfl) (bq_nm bk_X1_letter_84 (j := 25) rfl rfl) (bq_nm bk_X1_letter_84 (j := 26) rfl rfl) rfl
theorem dX1_letter_111 : decode cX1_letter 111 = .ok (.i2l, 1) := dc_133 (bq_nm bk_X1_letter_84 (j := 27) rfl rfl)
theorem dX1_letter_112 : decode cX1_letter 112 = .ok (.lreturn, 1) := dc_173 (bq_nm bk_X1_letter_84 (j := 28) rfl rfl)
theorem dX1_letter_113 : decode cX1_letter 113 = .ok (.aload_n 0, 1) := dc_42 (bq_nm bk_X1_letter_84 (j := 29) rfl rfl)
theorem dX1_letter_114 : decode cX1_letter 114 = .ok (.iload_n 2, 1) := dc_28 (bq_nm bk_X1_letter_84 (j := 30) rfl rfl)
theorem dX1_letter_115 : decode cX1_letter 115 = .ok (.iload_n 3, 1) := dc_29 (bq_nm bk_X1_letter_84 (j := 31) rfl rfl)
set_option maxRecDepth 20000 in
theorem bk_X1_letter_116 : ((cX1_letter.data.toList.drop 116).take 13).length = 13 ∧ eN (((cX1_letter.data.toList.drop 116).take 13).map UInt8.toNat) = 13747816172432136126695224901814 := by decide +kernel
theorem dX1_letter_116 : decode cX1_letter 116 = .ok (.invokevirtual 148, 3) := dc_182 (bq_nm bk_X1_letter_116 (j := 0) rfl rfl) (bq_nm bk_X1_letter_116 (j := 1) rfl rfl) (bq_nm bk_X1_letter_116 (j := 2) rfl rfl) rfl
theorem dX1_letter_119 : decode cX1_letter 119 = .ok (.i2l, 1) := dc_133 (bq_nm bk_X1_letter_116 (j := 3) rfl rfl)
theorem dX1_letter_120 : decode cX1_letter 120 = .ok (.lreturn, 1) := dc_173 (bq_nm bk_X1_letter_116 (j := 4) rfl rfl)
theorem dX1_letter_121 : decode cX1_letter 121 = .ok (.aload_n 0, 1) := dc_42 (bq_nm bk_X1_letter_116 (j := 5) rfl rfl)
theorem dX1_letter_122 : decode cX1_letter 122 = .ok (.iload_n 2, 1) := dc_28 (bq_nm bk_X1_letter_116 (j := 6) rfl rfl)
theorem dX1_letter_123 : decode cX1_letter 123 = .ok (.iload_n 3, 1) := dc_29 (bq_nm bk_X1_letter_116 (j := 7) rfl rfl)
theorem dX1_letter_124 : decode cX1_letter 124 = .ok (.invokevirtual 151, 3) := dc_182 (bq_nm bk_X1_letter_116 (j := 8) rfl rfl) (bq_nm bk_X1_letter_116 (j := 9) rfl rfl) (bq_nm bk_X1_letter_116 (j := 10) rfl rfl) rfl
theorem dX1_letter_127 : decode cX1_letter 127 = .ok (.i2l, 1) := dc_133 (bq_nm bk_X1_letter_116 (j := 11) rfl rfl)
theorem dX1_letter_128 : decode cX1_letter 128 = .ok (.lreturn, 1) := dc_173 (bq_nm bk_X1_letter_116 (j := 12) rfl rfl)
set_option maxRecDepth 20000 in
theorem bk_X1_timesSat_0 : ((cX1_timesSat.data.toList.drop 0).take 30).length = 30 ∧ eN (((cX1_timesSat.data.toList.drop 0).take 30).map UInt8.toNat) = 20815308075469497444289629315519247353680707668535575833071107447143939 := by decide +kernel
theorem dX1_timesSat_0 : decode cX1_timesSat 0 = .ok (.iconst 0, 1) := dc_3 (bq_nm bk_X1_timesSat_0 (j := 0) rfl rfl)
theorem dX1_timesSat_1 : decode cX1_timesSat 1 = .ok (.istore_n 3, 1) := dc_62 (bq_nm bk_X1_timesSat_0 (j := 1) rfl rfl)
theorem dX1_timesSat_2 : decode cX1_timesSat 2 = .ok (.iconst 0, 1) := dc_3 (bq_nm bk_X1_timesSat_0 (j := 2) rfl rfl)
theorem dX1_timesSat_3 : decode cX1_timesSat 3 = .ok (.istore 4, 2) := dc_54 (bq_nm bk_X1_timesSat_0 (j := 3) rfl rfl) (bq_nm bk_X1_timesSat_0 (j := 4) rfl rfl)
theorem dX1_timesSat_5 : decode cX1_timesSat 5 = .ok (.iload 4, 2) := dc_21 (bq_nm bk_X1_timesSat_0 (j := 5) rfl rfl) (bq_nm bk_X1_timesSat_0 (j := 6) rfl rfl)
theorem dX1_timesSat_7 : decode cX1_timesSat 7 = .ok (.aload_n 0, 1) := dc_42 (bq_nm bk_X1_timesSat_0 (j := 7) rfl rfl)
theorem dX1_timesSat_8 : decode cX1_timesSat 8 = .ok (.getfield 12, 3) := dc_180 (bq_nm bk_X1_timesSat_0 (j := 8) rfl rfl) (bq_nm bk_X1_timesSat_0 (j := 9) rfl rfl) (bq_nm bk_X1_timesSat_0 (j := 10) rfl rfl) rfl
theorem dX1_timesSat_11 : decode cX1_timesSat 11 = .ok (.getfield 43, 3) := dc_180 (bq_nm bk_X1_timesSat_0 (j := 11) rfl rfl) (bq_nm bk_X1_timesSat_0 (j := 12) rfl rfl) (bq_nm bk_X1_timesSat_0 (j := 13) rfl rfl) rfl
theorem dX1_timesSat_14 : decode cX1_timesSat 14 = .ok (.invokevirtual 47, 3) := dc_182 (bq_nm bk_X1_timesSat_0 (j := 14) rfl rfl) (bq_nm bk_X1_timesSat_0 (j := 15) rfl rfl) (bq_nm bk_X1_timesSat_0 (j := 16) rfl rfl) rfl
theorem dX1_timesSat_17 : decode cX1_timesSat 17 = .ok (.if_icmp .ge 45, 3) := dc_162 (bq_nm bk_X1_timesSat_0 (j := 17) rfl rfl) (bq_nm bk_X1_timesSat_0 (j := 18) rfl rfl) (bq_nm bk_X1_timesSat_0 (j := 19) rfl rfl) rfl
theorem dX1_timesSat_20 : decode cX1_timesSat 20 = .ok (.aload_n 0, 1) := dc_42 (bq_nm bk_X1_timesSat_0 (j := 20) rfl rfl)
theorem dX1_timesSat_21 : decode cX1_timesSat 21 = .ok (.getfield 12, 3) := dc_180 (bq_nm bk_X1_timesSat_0 (j := 21) rfl rfl) (bq_nm bk_X1_timesSat_0 (j := 22) rfl rfl) (bq_nm bk_X1_timesSat_0 (j := 23) rfl rfl) rfl
theorem dX1_timesSat_24 : decode cX1_timesSat 24 = .ok (.getfield 43, 3) := dc_180 (bq_nm bk_X1_timesSat_0 (j := 24) rfl rfl) (bq_nm bk_X1_timesSat_0 (j := 25) rfl rfl) (bq_nm bk_X1_timesSat_0 (j := 26) rfl rfl) rfl
theorem dX1_timesSat_27 : decode cX1_timesSat 27 = .ok (.iload 4, 2) := dc_21 (bq_nm bk_X1_timesSat_0 (j := 27) rfl rfl) (bq_nm bk_X1_timesSat_0 (j := 28) rfl rfl)
theorem dX1_timesSat_29 : decode cX1_timesSat 29 = .ok (.iconst 0, 1) := dc_3 (bq_nm bk_X1_timesSat_0 (j := 29) rfl rfl)
set_option maxRecDepth 20000 in
theorem bk_X1_timesSat_30 : ((cX1_timesSat.data.toList.drop 30).take 32).length = 32 ∧ eN (((cX1_timesSat.data.toList.drop 30).take 32).map UInt8.toNat) = 91818894034413711592830746123727830273402000638945592027595926113633390887094 := by decide +kernel
theorem dX1_timesSat_30 : decode cX1_timesSat 30 = .ok (.invokevirtual 53, 3) := dc_182 (bq_nm bk_X1_timesSat_30 (j := 0) rfl rfl) (bq_nm bk_X1_timesSat_30 (j := 1) rfl rfl) (bq_nm bk_X1_timesSat_30 (j := 2) rfl rfl) rfl
theorem dX1_timesSat_33 : decode cX1_timesSat 33 = .ok (.iload_n 2, 1) := dc_28 (bq_nm bk_X1_timesSat_30 (j := 3) rfl rfl)
theorem dX1_timesSat_34 : decode cX1_timesSat 34 = .ok (.if_icmp .ge 22, 3) := dc_162 (bq_nm bk_X1_timesSat_30 (j := 4) rfl rfl) (bq_nm bk_X1_timesSat_30 (j := 5) rfl rfl) (bq_nm bk_X1_timesSat_30 (j := 6) rfl rfl) rfl
theorem dX1_timesSat_37 : decode cX1_timesSat 37 = .ok (.aload_n 0, 1) := dc_42 (bq_nm bk_X1_timesSat_30 (j := 7) rfl rfl)
theorem dX1_timesSat_38 : decode cX1_timesSat 38 = .ok (.iload 4, 2) := dc_21 (bq_nm bk_X1_timesSat_30 (j := 8) rfl rfl) (bq_nm bk_X1_timesSat_30 (j := 9) rfl rfl)
theorem dX1_timesSat_40 : decode cX1_timesSat 40 = .ok (.invokevirtual 56, 3) := dc_182 (bq_nm bk_X1_timesSat_30 (j := 10) rfl rfl) (bq_nm bk_X1_timesSat_30 (j := 11) rfl rfl) (bq_nm bk_X1_timesSat_30 (j := 12) rfl rfl) rfl
theorem dX1_timesSat_43 : decode cX1_timesSat 43 = .ok (.getfield 107, 3) := dc_180 (bq_nm bk_X1_timesSat_30 (j := 13) rfl rfl) (bq_nm bk_X1_timesSat_30 (j := 14) rfl rfl) (bq_nm bk_X1_timesSat_30 (j := 15) rfl rfl) rfl
theorem dX1_timesSat_46 : decode cX1_timesSat 46 = .ok (.iload_n 1, 1) := dc_27 (bq_nm bk_X1_timesSat_30 (j := 16) rfl rfl)
theorem dX1_timesSat_47 : decode cX1_timesSat 47 = .ok (.invokestatic 113, 3) := dc_184 (bq_nm bk_X1_timesSat_30 (j := 17) rfl rfl) (bq_nm bk_X1_timesSat_30 (j := 18) rfl rfl) (bq_nm bk_X1_timesSat_30 (j := 19) rfl rfl) rfl
theorem dX1_timesSat_50 : decode cX1_timesSat 50 = .ok (.ifCond .eq 6, 3) := dc_153 (bq_nm bk_X1_timesSat_30 (j := 20) rfl rfl) (bq_nm bk_X1_timesSat_30 (j := 21) rfl rfl) (bq_nm bk_X1_timesSat_30 (j := 22) rfl rfl) rfl
theorem dX1_timesSat_53 : decode cX1_timesSat 53 = .ok (.iinc 3 1, 3) := dc_132 (bq_nm bk_X1_timesSat_30 (j := 23) rfl rfl) (bq_nm bk_X1_timesSat_30 (j := 24) rfl rfl) (bq_nm bk_X1_timesSat_30 (j := 25) rfl rfl) rfl
theorem dX1_timesSat_56 : decode cX1_timesSat 56 = .ok (.iinc 4 1, 3) := dc_132 (bq_nm bk_X1_timesSat_30 (j := 26) rfl rfl) (bq_nm bk_X1_timesSat_30 (j := 27) rfl rfl) (bq_nm bk_X1_timesSat_30 (j := 28) rfl rfl) rfl
theorem dX1_timesSat_59 : decode cX1_timesSat 59 = .ok (.goto (-54), 3) := dc_167 (bq_nm bk_X1_timesSat_30 (j := 29) rfl rfl) (bq_nm bk_X1_timesSat_30 (j := 30) rfl rfl) (bq_nm bk_X1_timesSat_30 (j := 31) rfl rfl) rfl
set_option maxRecDepth 20000 in
theorem bk_X1_timesSat_62 : ((cX1_timesSat.data.toList.drop 62).take 2).length = 2 ∧ eN (((cX1_timesSat.data.toList.drop 62).take 2).map UInt8.toNat) = 44061 := by decide +kernel
theorem dX1_timesSat_62 : decode cX1_timesSat 62 = .ok (.iload_n 3, 1) := dc_29 (bq_nm bk_X1_timesSat_62 (j := 0) rfl rfl)
theorem dX1_timesSat_63 : decode cX1_timesSat 63 = .ok (.ireturn, 1) := dc_172 (bq_nm bk_X1_timesSat_62 (j := 1) rfl rfl)
set_option maxRecDepth 20000 in
theorem bk_X1_yearsSince_0 : ((cX1_yearsSince.data.toList.drop 0).take 32).length = 32 ∧ eN (((cX1_yearsSince.data.toList.drop 0).take 32).map UInt8.toNat) = 1364152030033968984508969636554899275104583579484953602217584480680812151569 := by decide +kernel
theorem dX1_yearsSince_0 : decode cX1_yearsSince 0 = .ok (.sipush 999, 3) := dc_17 (bq_nm bk_X1_yearsSince_0 (j := 0) rfl rfl) (bq_nm bk_X1_yearsSince_0 (j := 1) rfl rfl) (bq_nm bk_X1_yearsSince_0 (j := 2) rfl rfl) rfl
theorem dX1_yearsSince_3 : decode cX1_yearsSince 3 = .ok (.istore_n 3, 1) := dc_62 (bq_nm bk_X1_yearsSince_0 (j := 3) rfl rfl)
theorem dX1_yearsSince_4 : decode cX1_yearsSince 4 = .ok (.iconst 0, 1) := dc_3 (bq_nm bk_X1_yearsSince_0 (j := 4) rfl rfl)
theorem dX1_yearsSince_5 : decode cX1_yearsSince 5 = .ok (.istore 4, 2) := dc_54 (bq_nm bk_X1_yearsSince_0 (j := 5) rfl rfl) (bq_nm bk_X1_yearsSince_0 (j := 6) rfl rfl)
theorem dX1_yearsSince_7 : decode cX1_yearsSince 7 = .ok (.iload 4, 2) := dc_21 (bq_nm bk_X1_yearsSince_0 (j := 7) rfl rfl) (bq_nm bk_X1_yearsSince_0 (j := 8) rfl rfl)
theorem dX1_yearsSince_9 : decode cX1_yearsSince 9 = .ok (.aload_n 0, 1) := dc_42 (bq_nm bk_X1_yearsSince_0 (j := 9) rfl rfl)
theorem dX1_yearsSince_10 : decode cX1_yearsSince 10 = .ok (.getfield 12, 3) := dc_180 (bq_nm bk_X1_yearsSince_0 (j := 10) rfl rfl) (bq_nm bk_X1_yearsSince_0 (j := 11) rfl rfl) (bq_nm bk_X1_yearsSince_0 (j := 12) rfl rfl) rfl
theorem dX1_yearsSince_13 : decode cX1_yearsSince 13 = .ok (.getfield 43, 3) := dc_180 (bq_nm bk_X1_yearsSince_0 (j := 13) rfl rfl) (bq_nm bk_X1_yearsSince_0 (j := 14) rfl rfl) (bq_nm bk_X1_yearsSince_0 (j := 15) rfl rfl) rfl
theorem dX1_yearsSince_16 : decode cX1_yearsSince 16 = .ok (.invokevirtual 47, 3) := dc_182 (bq_nm bk_X1_yearsSince_0 (j := 16) rfl rfl) (bq_nm bk_X1_yearsSince_0 (j := 17) rfl rfl) (bq_nm bk_X1_yearsSince_0 (j := 18) rfl rfl) rfl
theorem dX1_yearsSince_19 : decode cX1_yearsSince 19 = .ok (.if_icmp .ge 57, 3) := dc_162 (bq_nm bk_X1_yearsSince_0 (j := 19) rfl rfl) (bq_nm bk_X1_yearsSince_0 (j := 20) rfl rfl) (bq_nm bk_X1_yearsSince_0 (j := 21) rfl rfl) rfl
theorem dX1_yearsSince_22 : decode cX1_yearsSince 22 = .ok (.aload_n 0, 1) := dc_42 (bq_nm bk_X1_yearsSince_0 (j := 22) rfl rfl)
theorem dX1_yearsSince_23 : decode cX1_yearsSince 23 = .ok (.getfield 12, 3) := dc_180 (bq_nm bk_X1_yearsSince_0 (j := 23) rfl rfl) (bq_nm bk_X1_yearsSince_0 (j := 24) rfl rfl) (bq_nm bk_X1_yearsSince_0 (j := 25) rfl rfl) rfl
theorem dX1_yearsSince_26 : decode cX1_yearsSince 26 = .ok (.getfield 43, 3) := dc_180 (bq_nm bk_X1_yearsSince_0 (j := 26) rfl rfl) (bq_nm bk_X1_yearsSince_0 (j := 27) rfl rfl) (bq_nm bk_X1_yearsSince_0 (j := 28) rfl rfl) rfl
theorem dX1_yearsSince_29 : decode cX1_yearsSince 29 = .ok (.iload 4, 2) := dc_21 (bq_nm bk_X1_yearsSince_0 (j := 29) rfl rfl) (bq_nm bk_X1_yearsSince_0 (j := 30) rfl rfl)
theorem dX1_yearsSince_31 : decode cX1_yearsSince 31 = .ok (.iconst 0, 1) := dc_3 (bq_nm bk_X1_yearsSince_0 (j := 31) rfl rfl)
set_option maxRecDepth 20000 in
theorem bk_X1_yearsSince_32 : ((cX1_yearsSince.data.toList.drop 32).take 31).length = 31 ∧ eN (((cX1_yearsSince.data.toList.drop 32).take 31).map UInt8.toNat) = 256197787977556879344912139719977041008239154053226710303499047394128232630 := by decide +kernel
theorem dX1_yearsSince_32 : decode cX1_yearsSince 32 = .ok (.invokevirtual 53, 3) := dc_182 (bq_nm bk_X1_yearsSince_32 (j := 0) rfl rfl) (bq_nm bk_X1_yearsSince_32 (j := 1) rfl rfl) (bq_nm bk_X1_yearsSince_32 (j := 2) rfl rfl) rfl
theorem dX1_yearsSince_35 : decode cX1_yearsSince 35 = .ok (.istore 5, 2) := dc_54 (bq_nm bk_X1_yearsSince_32 (j := 3) rfl rfl) (bq_nm bk_X1_yearsSince_32 (j := 4) rfl rfl)
theorem dX1_yearsSince_37 : decode cX1_yearsSince 37 = .ok (.iload 5, 2) := dc_21 (bq_nm bk_X1_yearsSince_32 (j := 5) rfl rfl) (bq_nm bk_X1_yearsSince_32 (j := 6) rfl rfl)
theorem dX1_yearsSince_39 : decode cX1_yearsSince 39 = .ok (.iload_n 2, 1) := dc_28 (bq_nm bk_X1_yearsSince_32 (j := 7) rfl rfl)
theorem dX1_yearsSince_40 : decode cX1_yearsSince 40 = .ok (.if_icmp .ge 30, 3) := dc_162 (bq_nm bk_X1_yearsSince_32 (j := 8) rfl rfl) (bq_nm bk_X1_yearsSince_32 (j := 9) rfl rfl) (bq_nm bk_X1_yearsSince_32 (j := 10) rfl rfl) rfl
theorem dX1_yearsSince_43 : decode cX1_yearsSince 43 = .ok (.aload_n 0, 1) := dc_42 (bq_nm bk_X1_yearsSince_32 (j := 11) rfl rfl)
theorem dX1_yearsSince_44 : decode cX1_yearsSince 44 = .ok (.iload 4, 2) := dc_21 (bq_nm bk_X1_yearsSince_32 (j := 12) rfl rfl) (bq_nm bk_X1_yearsSince_32 (j := 13) rfl rfl)
theorem dX1_yearsSince_46 : decode cX1_yearsSince 46 = .ok (.invokevirtual 56, 3) := dc_182 (bq_nm bk_X1_yearsSince_32 (j := 14) rfl rfl) (bq_nm bk_X1_yearsSince_32 (j := 15) rfl rfl) (bq_nm bk_X1_yearsSince_32 (j := 16) rfl rfl) rfl
theorem dX1_yearsSince_49 : decode cX1_yearsSince 49 = .ok (.getfield 107, 3) := dc_180 (bq_nm bk_X1_yearsSince_32 (j := 17) rfl rfl) (bq_nm bk_X1_yearsSince_32 (j := 18) rfl rfl) (bq_nm bk_X1_yearsSince_32 (j := 19) rfl rfl) rfl
theorem dX1_yearsSince_52 : decode cX1_yearsSince 52 = .ok (.iload_n 1, 1) := dc_27 (bq_nm bk_X1_yearsSince_32 (j := 20) rfl rfl)
theorem dX1_yearsSince_53 : decode cX1_yearsSince 53 = .ok (.invokestatic 113, 3) := dc_184 (bq_nm bk_X1_yearsSince_32 (j := 21) rfl rfl) (bq_nm bk_X1_yearsSince_32 (j := 22) rfl rfl) (bq_nm bk_X1_yearsSince_32 (j := 23) rfl rfl) rfl
theorem dX1_yearsSince_56 : decode cX1_yearsSince 56 = .ok (.ifCond .eq 14, 3) := dc_153 (bq_nm bk_X1_yearsSince_32 (j := 24) rfl rfl) (bq_nm bk_X1_yearsSince_32 (j := 25) rfl rfl) (bq_nm bk_X1_yearsSince_32 (j := 26) rfl rfl) rfl
theorem dX1_yearsSince_59 : decode cX1_yearsSince 59 = .ok (.iload_n 2, 1) := dc_28 (bq_nm bk_X1_yearsSince_32 (j := 27) rfl rfl)
theorem dX1_yearsSince_60 : decode cX1_yearsSince 60 = .ok (.invokestatic 145, 3) := dc_184 (bq_nm bk_X1_yearsSince_32 (j := 28) rfl rfl) (bq_nm bk_X1_yearsSince_32 (j := 29) rfl rfl) (bq_nm bk_X1_yearsSince_32 (j := 30) rfl rfl) rfl
set_option maxRecDepth 20000 in
theorem bk_X1_yearsSince_63 : ((cX1_yearsSince.data.toList.drop 63).take 15).length = 15 ∧ eN (((cX1_yearsSince.data.toList.drop 63).take 15).map UInt8.toNat) = 893678382017946882774941809249879317 := by decide +kernel
theorem dX1_yearsSince_63 : decode cX1_yearsSince 63 = .ok (.iload 5, 2) := dc_21 (bq_nm bk_X1_yearsSince_63 (j := 0) rfl rfl) (bq_nm bk_X1_yearsSince_63 (j := 1) rfl rfl)
theorem dX1_yearsSince_65 : decode cX1_yearsSince 65 = .ok (.invokestatic 145, 3) := dc_184 (bq_nm bk_X1_yearsSince_63 (j := 2) rfl rfl) (bq_nm bk_X1_yearsSince_63 (j := 3) rfl rfl) (bq_nm bk_X1_yearsSince_63 (j := 4) rfl rfl) rfl
theorem dX1_yearsSince_68 : decode cX1_yearsSince 68 = .ok (.isub, 1) := dc_100 (bq_nm bk_X1_yearsSince_63 (j := 5) rfl rfl)
theorem dX1_yearsSince_69 : decode cX1_yearsSince 69 = .ok (.istore_n 3, 1) := dc_62 (bq_nm bk_X1_yearsSince_63 (j := 6) rfl rfl)
theorem dX1_yearsSince_70 : decode cX1_yearsSince 70 = .ok (.iinc 4 1, 3) := dc_132 (bq_nm bk_X1_yearsSince_63 (j := 7) rfl rfl) (bq_nm bk_X1_yearsSince_63 (j := 8) rfl rfl) (bq_nm bk_X1_yearsSince_63 (j := 9) rfl rfl) rfl
theorem dX1_yearsSince_73 : decode cX1_yearsSince 73 = .ok (.goto (-66), 3) := dc_167 (bq_nm bk_X1_yearsSince_63 (j := 10) rfl rfl) (bq_nm bk_X1_yearsSince_63 (j := 11) rfl rfl) (bq_nm bk_X1_yearsSince_63 (j := 12) rfl rfl) rfl
theorem dX1_yearsSince_76 : decode cX1_yearsSince 76 = .ok (.iload_n 3, 1) := dc_29 (bq_nm bk_X1_yearsSince_63 (j := 13) rfl rfl)
theorem dX1_yearsSince_77 : decode cX1_yearsSince 77 = .ok (.ireturn, 1) := dc_172 (bq_nm bk_X1_yearsSince_63 (j := 14) rfl rfl)
set_option maxRecDepth 20000 in
theorem bk_X1_nextInTurn_0 : ((cX1_nextInTurn.data.toList.drop 0).take 31).length = 31 ∧ eN (((cX1_nextInTurn.data.toList.drop 0).take 31).map UInt8.toNat) = 3734437955562510151672975508374154945955849346967522606456670184758525442 := by decide +kernel
theorem dX1_nextInTurn_0 : decode cX1_nextInTurn 0 = .ok (.iconst (-1), 1) := dc_2 (bq_nm bk_X1_nextInTurn_0 (j := 0) rfl rfl)
theorem dX1_nextInTurn_1 : decode cX1_nextInTurn 1 = .ok (.istore_n 3, 1) := dc_62 (bq_nm bk_X1_nextInTurn_0 (j := 1) rfl rfl)
theorem dX1_nextInTurn_2 : decode cX1_nextInTurn 2 = .ok (.iconst 0, 1) := dc_3 (bq_nm bk_X1_nextInTurn_0 (j := 2) rfl rfl)
theorem dX1_nextInTurn_3 : decode cX1_nextInTurn 3 = .ok (.istore 4, 2) := dc_54 (bq_nm bk_X1_nextInTurn_0 (j := 3) rfl rfl) (bq_nm bk_X1_nextInTurn_0 (j := 4) rfl rfl)
theorem dX1_nextInTurn_5 : decode cX1_nextInTurn 5 = .ok (.iload 4, 2) := dc_21 (bq_nm bk_X1_nextInTurn_0 (j := 5) rfl rfl) (bq_nm bk_X1_nextInTurn_0 (j := 6) rfl rfl)
theorem dX1_nextInTurn_7 : decode cX1_nextInTurn 7 = .ok (.aload_n 0, 1) := dc_42 (bq_nm bk_X1_nextInTurn_0 (j := 7) rfl rfl)
theorem dX1_nextInTurn_8 : decode cX1_nextInTurn 8 = .ok (.getfield 12, 3) := dc_180 (bq_nm bk_X1_nextInTurn_0 (j := 8) rfl rfl) (bq_nm bk_X1_nextInTurn_0 (j := 9) rfl rfl) (bq_nm bk_X1_nextInTurn_0 (j := 10) rfl rfl) rfl
theorem dX1_nextInTurn_11 : decode cX1_nextInTurn 11 = .ok (.getfield 110, 3) := dc_180 (bq_nm bk_X1_nextInTurn_0 (j := 11) rfl rfl) (bq_nm bk_X1_nextInTurn_0 (j := 12) rfl rfl) (bq_nm bk_X1_nextInTurn_0 (j := 13) rfl rfl) rfl
theorem dX1_nextInTurn_14 : decode cX1_nextInTurn 14 = .ok (.invokevirtual 47, 3) := dc_182 (bq_nm bk_X1_nextInTurn_0 (j := 14) rfl rfl) (bq_nm bk_X1_nextInTurn_0 (j := 15) rfl rfl) (bq_nm bk_X1_nextInTurn_0 (j := 16) rfl rfl) rfl
theorem dX1_nextInTurn_17 : decode cX1_nextInTurn 17 = .ok (.if_icmp .ge 37, 3) := dc_162 (bq_nm bk_X1_nextInTurn_0 (j := 17) rfl rfl) (bq_nm bk_X1_nextInTurn_0 (j := 18) rfl rfl) (bq_nm bk_X1_nextInTurn_0 (j := 19) rfl rfl) rfl
theorem dX1_nextInTurn_20 : decode cX1_nextInTurn 20 = .ok (.iload_n 1, 1) := dc_27 (bq_nm bk_X1_nextInTurn_0 (j := 20) rfl rfl)
theorem dX1_nextInTurn_21 : decode cX1_nextInTurn 21 = .ok (.iload 4, 2) := dc_21 (bq_nm bk_X1_nextInTurn_0 (j := 21) rfl rfl) (bq_nm bk_X1_nextInTurn_0 (j := 22) rfl rfl)
theorem dX1_nextInTurn_23 : decode cX1_nextInTurn 23 = .ok (.invokestatic 113, 3) := dc_184 (bq_nm bk_X1_nextInTurn_0 (j := 23) rfl rfl) (bq_nm bk_X1_nextInTurn_0 (j := 24) rfl rfl) (bq_nm bk_X1_nextInTurn_0 (j := 25) rfl rfl) rfl
theorem dX1_nextInTurn_26 : decode cX1_nextInTurn 26 = .ok (.ifCond .eq 22, 3) := dc_153 (bq_nm bk_X1_nextInTurn_0 (j := 26) rfl rfl) (bq_nm bk_X1_nextInTurn_0 (j := 27) rfl rfl) (bq_nm bk_X1_nextInTurn_0 (j := 28) rfl rfl) rfl
theorem dX1_nextInTurn_29 : decode cX1_nextInTurn 29 = .ok (.iload_n 3, 1) := dc_29 (bq_nm bk_X1_nextInTurn_0 (j := 29) rfl rfl)
theorem dX1_nextInTurn_30 : decode cX1_nextInTurn 30 = .ok (.iconst (-1), 1) := dc_2 (bq_nm bk_X1_nextInTurn_0 (j := 30) rfl rfl)
set_option maxRecDepth 20000 in
theorem bk_X1_nextInTurn_31 : ((cX1_nextInTurn.data.toList.drop 31).take 25).length = 25 ∧ eN (((cX1_nextInTurn.data.toList.drop 31).take 25).map UInt8.toNat) = 1080392786072348196710579588569035666898468919904442323435679 := by decide +kernel
theorem dX1_nextInTurn_31 : decode cX1_nextInTurn 31 = .ok (.if_icmp .eq 14, 3) := dc_159 (bq_nm bk_X1_nextInTurn_31 (j := 0) rfl rfl) (bq_nm bk_X1_nextInTurn_31 (j := 1) rfl rfl) (bq_nm bk_X1_nextInTurn_31 (j := 2) rfl rfl) rfl
theorem dX1_nextInTurn_34 : decode cX1_nextInTurn 34 = .ok (.aload_n 0, 1) := dc_42 (bq_nm bk_X1_nextInTurn_31 (j := 3) rfl rfl)
theorem dX1_nextInTurn_35 : decode cX1_nextInTurn 35 = .ok (.iload 4, 2) := dc_21 (bq_nm bk_X1_nextInTurn_31 (j := 4) rfl rfl) (bq_nm bk_X1_nextInTurn_31 (j := 5) rfl rfl)
theorem dX1_nextInTurn_37 : decode cX1_nextInTurn 37 = .ok (.iload_n 3, 1) := dc_29 (bq_nm bk_X1_nextInTurn_31 (j := 6) rfl rfl)
theorem dX1_nextInTurn_38 : decode cX1_nextInTurn 38 = .ok (.iload_n 2, 1) := dc_28 (bq_nm bk_X1_nextInTurn_31 (j := 7) rfl rfl)
theorem dX1_nextInTurn_39 : decode cX1_nextInTurn 39 = .ok (.invokevirtual 154, 3) := dc_182 (bq_nm bk_X1_nextInTurn_31 (j := 8) rfl rfl) (bq_nm bk_X1_nextInTurn_31 (j := 9) rfl rfl) (bq_nm bk_X1_nextInTurn_31 (j := 10) rfl rfl) rfl
theorem dX1_nextInTurn_42 : decode cX1_nextInTurn 42 = .ok (.ifCond .eq 6, 3) := dc_153 (bq_nm bk_X1_nextInTurn_31 (j := 11) rfl rfl) (bq_nm bk_X1_nextInTurn_31 (j := 12) rfl rfl) (bq_nm bk_X1_nextInTurn_31 (j := 13) rfl rfl) rfl
theorem dX1_nextInTurn_45 : decode cX1_nextInTurn 45 = .ok (.iload 4, 2) := dc_21 (bq_nm bk_X1_nextInTurn_31 (j := 14) rfl rfl) (bq_nm bk_X1_nextInTurn_31 (j := 15) rfl rfl)
theorem dX1_nextInTurn_47 : decode cX1_nextInTurn 47 = .ok (.istore_n 3, 1) := dc_62 (bq_nm bk_X1_nextInTurn_31 (j := 16) rfl rfl)
theorem dX1_nextInTurn_48 : decode cX1_nextInTurn 48 = .ok (.iinc 4 1, 3) := dc_132 (bq_nm bk_X1_nextInTurn_31 (j := 17) rfl rfl) (bq_nm bk_X1_nextInTurn_31 (j := 18) rfl rfl) (bq_nm bk_X1_nextInTurn_31 (j := 19) rfl rfl) rfl
theorem dX1_nextInTurn_51 : decode cX1_nextInTurn 51 = .ok (.goto (-46), 3) := dc_167 (bq_nm bk_X1_nextInTurn_31 (j := 20) rfl rfl) (bq_nm bk_X1_nextInTurn_31 (j := 21) rfl rfl) (bq_nm bk_X1_nextInTurn_31 (j := 22) rfl rfl) rfl
theorem dX1_nextInTurn_54 : decode cX1_nextInTurn 54 = .ok (.iload_n 3, 1) := dc_29 (bq_nm bk_X1_nextInTurn_31 (j := 23) rfl rfl)
theorem dX1_nextInTurn_55 : decode cX1_nextInTurn 55 = .ok (.ireturn, 1) := dc_172 (bq_nm bk_X1_nextInTurn_31 (j := 24) rfl rfl)
set_option maxRecDepth 20000 in
theorem bk_X1_isAhead_0 : ((cX1_isAhead.data.toList.drop 0).take 30).length = 30 ∧ eN (((cX1_isAhead.data.toList.drop 0).take 30).map UInt8.toNat) = 200882994784431335545509242089080866077945719226466557022351139870153514 := by decide +kernel
theorem dX1_isAhead_0 : decode cX1_isAhead 0 = .ok (.aload_n 0, 1) := dc_42 (bq_nm bk_X1_isAhead_0 (j := 0) rfl rfl)
theorem dX1_isAhead_1 : decode cX1_isAhead 1 = .ok (.iload_n 1, 1) := dc_27 (bq_nm bk_X1_isAhead_0 (j := 1) rfl rfl)
theorem dX1_isAhead_2 : decode cX1_isAhead 2 = .ok (.iload_n 3, 1) := dc_29 (bq_nm bk_X1_isAhead_0 (j := 2) rfl rfl)
theorem dX1_isAhead_3 : decode cX1_isAhead 3 = .ok (.invokevirtual 148, 3) := dc_182 (bq_nm bk_X1_isAhead_0 (j := 3) rfl rfl) (bq_nm bk_X1_isAhead_0 (j := 4) rfl rfl) (bq_nm bk_X1_isAhead_0 (j := 5) rfl rfl) rfl
theorem dX1_isAhead_6 : decode cX1_isAhead 6 = .ok (.aload_n 0, 1) := dc_42 (bq_nm bk_X1_isAhead_0 (j := 6) rfl rfl)
theorem dX1_isAhead_7 : decode cX1_isAhead 7 = .ok (.iload_n 2, 1) := dc_28 (bq_nm bk_X1_isAhead_0 (j := 7) rfl rfl)
theorem dX1_isAhead_8 : decode cX1_isAhead 8 = .ok (.iload_n 3, 1) := dc_29 (bq_nm bk_X1_isAhead_0 (j := 8) rfl rfl)
theorem dX1_isAhead_9 : decode cX1_isAhead 9 = .ok (.invokevirtual 148, 3) := dc_182 (bq_nm bk_X1_isAhead_0 (j := 9) rfl rfl) (bq_nm bk_X1_isAhead_0 (j := 10) rfl rfl) (bq_nm bk_X1_isAhead_0 (j := 11) rfl rfl) rfl
theorem dX1_isAhead_12 : decode cX1_isAhead 12 = .ok (.invokestatic 158, 3) := dc_184 (bq_nm bk_X1_isAhead_0 (j := 12) rfl rfl) (bq_nm bk_X1_isAhead_0 (j := 13) rfl rfl) (bq_nm bk_X1_isAhead_0 (j := 14) rfl rfl) rfl
theorem dX1_isAhead_15 : decode cX1_isAhead 15 = .ok (.istore 4, 2) := dc_54 (bq_nm bk_X1_isAhead_0 (j := 15) rfl rfl) (bq_nm bk_X1_isAhead_0 (j := 16) rfl rfl)
theorem dX1_isAhead_17 : decode cX1_isAhead 17 = .ok (.iload 4, 2) := dc_21 (bq_nm bk_X1_isAhead_0 (j := 17) rfl rfl) (bq_nm bk_X1_isAhead_0 (j := 18) rfl rfl)
theorem dX1_isAhead_19 : decode cX1_isAhead 19 = .ok (.ifCond .lt 23, 3) := dc_155 (bq_nm bk_X1_isAhead_0 (j := 19) rfl rfl) (bq_nm bk_X1_isAhead_0 (j := 20) rfl rfl) (bq_nm bk_X1_isAhead_0 (j := 21) rfl rfl) rfl
theorem dX1_isAhead_22 : decode cX1_isAhead 22 = .ok (.iload 4, 2) := dc_21 (bq_nm bk_X1_isAhead_0 (j := 22) rfl rfl) (bq_nm bk_X1_isAhead_0 (j := 23) rfl rfl)
theorem dX1_isAhead_24 : decode cX1_isAhead 24 = .ok (.ifCond .ne 22, 3) := dc_154 (bq_nm bk_X1_isAhead_0 (j := 24) rfl rfl) (bq_nm bk_X1_isAhead_0 (j := 25) rfl rfl) (bq_nm bk_X1_isAhead_0 (j := 26) rfl rfl) rfl
theorem dX1_isAhead_27 : decode cX1_isAhead 27 = .ok (.aload_n 0, 1) := dc_42 (bq_nm bk_X1_isAhead_0 (j := 27) rfl rfl)
theorem dX1_isAhead_28 : decode cX1_isAhead 28 = .ok (.iload_n 1, 1) := dc_27 (bq_nm bk_X1_isAhead_0 (j := 28) rfl rfl)
theorem dX1_isAhead_29 : decode cX1_isAhead 29 = .ok (.iload_n 3, 1) := dc_29 (bq_nm bk_X1_isAhead_0 (j := 29) rfl rfl)
set_option maxRecDepth 20000 in
theorem bk_X1_isAhead_30 : ((cX1_isAhead.data.toList.drop 30).take 18).length = 18 ∧ eN (((cX1_isAhead.data.toList.drop 30).take 18).map UInt8.toNat) = 14984339347662989861905400833857405056385206 := by decide +kernel
theorem dX1_isAhead_30 : decode cX1_isAhead 30 = .ok (.invokevirtual 151, 3) := dc_182 (bq_nm bk_X1_isAhead_30 (j := 0) rfl rfl) (bq_nm bk_X1_isAhead_30 (j := 1) rfl rfl) (bq_nm bk_X1_isAhead_30 (j := 2) rfl rfl) rfl
theorem dX1_isAhead_33 : decode cX1_isAhead 33 = .ok (.aload_n 0, 1) := dc_42 (bq_nm bk_X1_isAhead_30 (j := 3) rfl rfl)
theorem dX1_isAhead_34 : decode cX1_isAhead 34 = .ok (.iload_n 2, 1) := dc_28 (bq_nm bk_X1_isAhead_30 (j := 4) rfl rfl)
theorem dX1_isAhead_35 : decode cX1_isAhead 35 = .ok (.iload_n 3, 1) := dc_29 (bq_nm bk_X1_isAhead_30 (j := 5) rfl rfl)
theorem dX1_isAhead_36 : decode cX1_isAhead 36 = .ok (.invokevirtual 151, 3) := dc_182 (bq_nm bk_X1_isAhead_30 (j := 6) rfl rfl) (bq_nm bk_X1_isAhead_30 (j := 7) rfl rfl) (bq_nm bk_X1_isAhead_30 (j := 8) rfl rfl) rfl
theorem dX1_isAhead_39 : decode cX1_isAhead 39 = .ok (.if_icmp .le 7, 3) := dc_164 (bq_nm bk_X1_isAhead_30 (j := 9) rfl rfl) (bq_nm bk_X1_isAhead_30 (j := 10) rfl rfl) (bq_nm bk_X1_isAhead_30 (j := 11) rfl rfl) rfl
theorem dX1_isAhead_42 : decode cX1_isAhead 42 = .ok (.iconst 1, 1) := dc_4 (bq_nm bk_X1_isAhead_30 (j := 12) rfl rfl)
theorem dX1_isAhead_43 : decode cX1_isAhead 43 = .ok (.goto 4, 3) := dc_167 (bq_nm bk_X1_isAhead_30 (j := 13) rfl rfl) (bq_nm bk_X1_isAhead_30 (j := 14) rfl rfl) (bq_nm bk_X1_isAhead_30 (j := 15) rfl rfl) rfl
theorem dX1_isAhead_46 : decode cX1_isAhead 46 = .ok (.iconst 0, 1) := dc_3 (bq_nm bk_X1_isAhead_30 (j := 16) rfl rfl)
theorem dX1_isAhead_47 : decode cX1_isAhead 47 = .ok (.ireturn, 1) := dc_172 (bq_nm bk_X1_isAhead_30 (j := 17) rfl rfl)
set_option maxRecDepth 20000 in
theorem bk_X1_sworn_0 : ((cX1_sworn.data.toList.drop 0).take 32).length = 32 ∧ eN (((cX1_sworn.data.toList.drop 0).take 32).map UInt8.toNat) = 454990887988613626133910614779630603202056087815329899085178917353641163779 := by decide +kernel
theorem dX1_sworn_0 : decode cX1_sworn 0 = .ok (.iconst 0, 1) := dc_3 (bq_nm bk_X1_sworn_0 (j := 0) rfl rfl)
theorem dX1_sworn_1 : decode cX1_sworn 1 = .ok (.istore_n 1, 1) := dc_60 (bq_nm bk_X1_sworn_0 (j := 1) rfl rfl)
theorem dX1_sworn_2 : decode cX1_sworn 2 = .ok (.iconst 0, 1) := dc_3 (bq_nm bk_X1_sworn_0 (j := 2) rfl rfl)
theorem dX1_sworn_3 : decode cX1_sworn 3 = .ok (.istore_n 2, 1) := dc_61 (bq_nm bk_X1_sworn_0 (j := 3) rfl rfl)
theorem dX1_sworn_4 : decode cX1_sworn 4 = .ok (.iload_n 2, 1) := dc_28 (bq_nm bk_X1_sworn_0 (j := 4) rfl rfl)
theorem dX1_sworn_5 : decode cX1_sworn 5 = .ok (.aload_n 0, 1) := dc_42 (bq_nm bk_X1_sworn_0 (j := 5) rfl rfl)
theorem dX1_sworn_6 : decode cX1_sworn 6 = .ok (.getfield 12, 3) := dc_180 (bq_nm bk_X1_sworn_0 (j := 6) rfl rfl) (bq_nm bk_X1_sworn_0 (j := 7) rfl rfl) (bq_nm bk_X1_sworn_0 (j := 8) rfl rfl) rfl
theorem dX1_sworn_9 : decode cX1_sworn 9 = .ok (.getfield 43, 3) := dc_180 (bq_nm bk_X1_sworn_0 (j := 9) rfl rfl) (bq_nm bk_X1_sworn_0 (j := 10) rfl rfl) (bq_nm bk_X1_sworn_0 (j := 11) rfl rfl) rfl
theorem dX1_sworn_12 : decode cX1_sworn 12 = .ok (.invokevirtual 47, 3) := dc_182 (bq_nm bk_X1_sworn_0 (j := 12) rfl rfl) (bq_nm bk_X1_sworn_0 (j := 13) rfl rfl) (bq_nm bk_X1_sworn_0 (j := 14) rfl rfl) rfl
theorem dX1_sworn_15 : decode cX1_sworn 15 = .ok (.if_icmp .ge 23, 3) := dc_162 (bq_nm bk_X1_sworn_0 (j := 15) rfl rfl) (bq_nm bk_X1_sworn_0 (j := 16) rfl rfl) (bq_nm bk_X1_sworn_0 (j := 17) rfl rfl) rfl
theorem dX1_sworn_18 : decode cX1_sworn 18 = .ok (.aload_n 0, 1) := dc_42 (bq_nm bk_X1_sworn_0 (j := 18) rfl rfl)
theorem dX1_sworn_19 : decode cX1_sworn 19 = .ok (.iload_n 2, 1) := dc_28 (bq_nm bk_X1_sworn_0 (j := 19) rfl rfl)
theorem dX1_sworn_20 : decode cX1_sworn 20 = .ok (.invokevirtual 56, 3) := dc_182 (bq_nm bk_X1_sworn_0 (j := 20) rfl rfl) (bq_nm bk_X1_sworn_0 (j := 21) rfl rfl) (bq_nm bk_X1_sworn_0 (j := 22) rfl rfl) rfl
theorem dX1_sworn_23 : decode cX1_sworn 23 = .ok (.getfield 107, 3) := dc_180 (bq_nm bk_X1_sworn_0 (j := 23) rfl rfl) (bq_nm bk_X1_sworn_0 (j := 24) rfl rfl) (bq_nm bk_X1_sworn_0 (j := 25) rfl rfl) rfl
theorem dX1_sworn_26 : decode cX1_sworn 26 = .ok (.ifCond .eq 6, 3) := dc_153 (bq_nm bk_X1_sworn_0 (j := 26) rfl rfl) (bq_nm bk_X1_sworn_0 (j := 27) rfl rfl) (bq_nm bk_X1_sworn_0 (j := 28) rfl rfl) rfl
theorem dX1_sworn_29 : decode cX1_sworn 29 = .ok (.iinc 1 1, 3) := dc_132 (bq_nm bk_X1_sworn_0 (j := 29) rfl rfl) (bq_nm bk_X1_sworn_0 (j := 30) rfl rfl) (bq_nm bk_X1_sworn_0 (j := 31) rfl rfl) rfl
set_option maxRecDepth 20000 in
theorem bk_X1_sworn_32 : ((cX1_sworn.data.toList.drop 32).take 8).length = 8 ∧ eN (((cX1_sworn.data.toList.drop 32).take 8).map UInt8.toNat) = 12401754487029564036 := by decide +kernel
theorem dX1_sworn_32 : decode cX1_sworn 32 = .ok (.iinc 2 1, 3) := dc_132 (bq_nm bk_X1_sworn_32 (j := 0) rfl rfl) (bq_nm bk_X1_sworn_32 (j := 1) rfl rfl) (bq_nm bk_X1_sworn_32 (j := 2) rfl rfl) rfl
theorem dX1_sworn_35 : decode cX1_sworn 35 = .ok (.goto (-31), 3) := dc_167 (bq_nm bk_X1_sworn_32 (j := 3) rfl rfl) (bq_nm bk_X1_sworn_32 (j := 4) rfl rfl) (bq_nm bk_X1_sworn_32 (j := 5) rfl rfl) rfl
theorem dX1_sworn_38 : decode cX1_sworn 38 = .ok (.iload_n 1, 1) := dc_27 (bq_nm bk_X1_sworn_32 (j := 6) rfl rfl)
theorem dX1_sworn_39 : decode cX1_sworn 39 = .ok (.ireturn, 1) := dc_172 (bq_nm bk_X1_sworn_32 (j := 7) rfl rfl)
set_option maxRecDepth 20000 in
theorem bk_X2_init_0 : ((cX2_init.data.toList.drop 0).take 15).length = 15 ∧ eN (((cX2_init.data.toList.drop 0).take 15).map UInt8.toNat) = 919300271314586466395458983331673898 := by decide +kernel
theorem dX2_init_0 : decode cX2_init 0 = .ok (.aload_n 0, 1) := dc_42 (bq_nm bk_X2_init_0 (j := 0) rfl rfl)
theorem dX2_init_1 : decode cX2_init 1 = .ok (.invokespecial 1, 3) := dc_183 (bq_nm bk_X2_init_0 (j := 1) rfl rfl) (bq_nm bk_X2_init_0 (j := 2) rfl rfl) (bq_nm bk_X2_init_0 (j := 3) rfl rfl) rfl
theorem dX2_init_4 : decode cX2_init 4 = .ok (.aload_n 0, 1) := dc_42 (bq_nm bk_X2_init_0 (j := 4) rfl rfl)
theorem dX2_init_5 : decode cX2_init 5 = .ok (.lconst 0, 1) := dc_9 (bq_nm bk_X2_init_0 (j := 5) rfl rfl)
theorem dX2_init_6 : decode cX2_init 6 = .ok (.putfield 7, 3) := dc_181 (bq_nm bk_X2_init_0 (j := 6) rfl rfl) (bq_nm bk_X2_init_0 (j := 7) rfl rfl) (bq_nm bk_X2_init_0 (j := 8) rfl rfl) rfl
theorem dX2_init_9 : decode cX2_init 9 = .ok (.aload_n 0, 1) := dc_42 (bq_nm bk_X2_init_0 (j := 9) rfl rfl)
theorem dX2_init_10 : decode cX2_init 10 = .ok (.lconst 1, 1) := dc_10 (bq_nm bk_X2_init_0 (j := 10) rfl rfl)
theorem dX2_init_11 : decode cX2_init 11 = .ok (.putfield 13, 3) := dc_181 (bq_nm bk_X2_init_0 (j := 11) rfl rfl) (bq_nm bk_X2_init_0 (j := 12) rfl rfl) (bq_nm bk_X2_init_0 (j := 13) rfl rfl) rfl
theorem dX2_init_14 : decode cX2_init 14 = .ok (.return_, 1) := dc_177 (bq_nm bk_X2_init_0 (j := 14) rfl rfl)
set_option maxRecDepth 20000 in
theorem bk_X2_become_0 : ((cX2_become.data.toList.drop 0).take 32).length = 32 ∧ eN (((cX2_become.data.toList.drop 0).take 32).map UInt8.toNat) = 19009512450666096287055859630942037356904639831838408382046458095653868806431 := by decide +kernel
theorem dX2_become_0 : decode cX2_become 0 = .ok (.lload_n 1, 1) := dc_31 (bq_nm bk_X2_become_0 (j := 0) rfl rfl)
theorem dX2_become_1 : decode cX2_become 1 = .ok (.lload_n 3, 1) := dc_33 (bq_nm bk_X2_become_0 (j := 1) rfl rfl)
theorem dX2_become_2 : decode cX2_become 2 = .ok (.invokestatic 16, 3) := dc_184 (bq_nm bk_X2_become_0 (j := 2) rfl rfl) (bq_nm bk_X2_become_0 (j := 3) rfl rfl) (bq_nm bk_X2_become_0 (j := 4) rfl rfl) rfl
theorem dX2_become_5 : decode cX2_become 5 = .ok (.lstore 5, 2) := dc_55 (bq_nm bk_X2_become_0 (j := 5) rfl rfl) (bq_nm bk_X2_become_0 (j := 6) rfl rfl)
theorem dX2_become_7 : decode cX2_become 7 = .ok (.lload_n 1, 1) := dc_31 (bq_nm bk_X2_become_0 (j := 7) rfl rfl)
theorem dX2_become_8 : decode cX2_become 8 = .ok (.lconst 0, 1) := dc_9 (bq_nm bk_X2_become_0 (j := 8) rfl rfl)
theorem dX2_become_9 : decode cX2_become 9 = .ok (.lcmp, 1) := dc_148 (bq_nm bk_X2_become_0 (j := 9) rfl rfl)
theorem dX2_become_10 : decode cX2_become 10 = .ok (.ifCond .le 16, 3) := dc_158 (bq_nm bk_X2_become_0 (j := 10) rfl rfl) (bq_nm bk_X2_become_0 (j := 11) rfl rfl) (bq_nm bk_X2_become_0 (j := 12) rfl rfl) rfl
theorem dX2_become_13 : decode cX2_become 13 = .ok (.lload_n 3, 1) := dc_33 (bq_nm bk_X2_become_0 (j := 13) rfl rfl)
theorem dX2_become_14 : decode cX2_become 14 = .ok (.lconst 0, 1) := dc_9 (bq_nm bk_X2_become_0 (j := 14) rfl rfl)
theorem dX2_become_15 : decode cX2_become 15 = .ok (.lcmp, 1) := dc_148 (bq_nm bk_X2_become_0 (j := 15) rfl rfl)
theorem dX2_become_16 : decode cX2_become 16 = .ok (.ifCond .le 10, 3) := dc_158 (bq_nm bk_X2_become_0 (j := 16) rfl rfl) (bq_nm bk_X2_become_0 (j := 17) rfl rfl) (bq_nm bk_X2_become_0 (j := 18) rfl rfl) rfl
theorem dX2_become_19 : decode cX2_become 19 = .ok (.lload 5, 2) := dc_22 (bq_nm bk_X2_become_0 (j := 19) rfl rfl) (bq_nm bk_X2_become_0 (j := 20) rfl rfl)
theorem dX2_become_21 : decode cX2_become 21 = .ok (.lconst 0, 1) := dc_9 (bq_nm bk_X2_become_0 (j := 21) rfl rfl)
theorem dX2_become_22 : decode cX2_become 22 = .ok (.lcmp, 1) := dc_148 (bq_nm bk_X2_become_0 (j := 22) rfl rfl)
theorem dX2_become_23 : decode cX2_become 23 = .ok (.ifCond .gt 15, 3) := dc_157 (bq_nm bk_X2_become_0 (j := 23) rfl rfl) (bq_nm bk_X2_become_0 (j := 24) rfl rfl) (bq_nm bk_X2_become_0 (j := 25) rfl rfl) rfl
theorem dX2_become_26 : decode cX2_become 26 = .ok (.aload_n 0, 1) := dc_42 (bq_nm bk_X2_become_0 (j := 26) rfl rfl)
theorem dX2_become_27 : decode cX2_become 27 = .ok (.lconst 0, 1) := dc_9 (bq_nm bk_X2_become_0 (j := 27) rfl rfl)
theorem dX2_become_28 : decode cX2_become 28 = .ok (.putfield 7, 3) := dc_181 (bq_nm bk_X2_become_0 (j := 28) rfl rfl) (bq_nm bk_X2_become_0 (j := 29) rfl rfl) (bq_nm bk_X2_become_0 (j := 30) rfl rfl) rfl
theorem dX2_become_31 : decode cX2_become 31 = .ok (.aload_n 0, 1) := dc_42 (bq_nm bk_X2_become_0 (j := 31) rfl rfl)
set_option maxRecDepth 20000 in
theorem bk_X2_become_32 : ((cX2_become.data.toList.drop 32).take 24).length = 24 ∧ eN (((cX2_become.data.toList.drop 32).take 24).map UInt8.toNat) = 4217815717261350201499151652570044090731281104228996658442 := by decide +kernel
theorem dX2_become_32 : decode cX2_become 32 = .ok (.lconst 1, 1) := dc_10 (bq_nm bk_X2_become_32 (j := 0) rfl rfl)
theorem dX2_become_33 : decode cX2_become 33 = .ok (.putfield 13, 3) := dc_181 (bq_nm bk_X2_become_32 (j := 1) rfl rfl) (bq_nm bk_X2_become_32 (j := 2) rfl rfl) (bq_nm bk_X2_become_32 (j := 3) rfl rfl) rfl
theorem dX2_become_36 : decode cX2_become 36 = .ok (.iconst 0, 1) := dc_3 (bq_nm bk_X2_become_32 (j := 4) rfl rfl)
theorem dX2_become_37 : decode cX2_become 37 = .ok (.ireturn, 1) := dc_172 (bq_nm bk_X2_become_32 (j := 5) rfl rfl)
theorem dX2_become_38 : decode cX2_become 38 = .ok (.aload_n 0, 1) := dc_42 (bq_nm bk_X2_become_32 (j := 6) rfl rfl)
theorem dX2_become_39 : decode cX2_become 39 = .ok (.lload_n 1, 1) := dc_31 (bq_nm bk_X2_become_32 (j := 7) rfl rfl)
theorem dX2_become_40 : decode cX2_become 40 = .ok (.lload 5, 2) := dc_22 (bq_nm bk_X2_become_32 (j := 8) rfl rfl) (bq_nm bk_X2_become_32 (j := 9) rfl rfl)
theorem dX2_become_42 : decode cX2_become 42 = .ok (.ldiv, 1) := dc_109 (bq_nm bk_X2_become_32 (j := 10) rfl rfl)
theorem dX2_become_43 : decode cX2_become 43 = .ok (.putfield 7, 3) := dc_181 (bq_nm bk_X2_become_32 (j := 11) rfl rfl) (bq_nm bk_X2_become_32 (j := 12) rfl rfl) (bq_nm bk_X2_become_32 (j := 13) rfl rfl) rfl
theorem dX2_become_46 : decode cX2_become 46 = .ok (.aload_n 0, 1) := dc_42 (bq_nm bk_X2_become_32 (j := 14) rfl rfl)
theorem dX2_become_47 : decode cX2_become 47 = .ok (.lload_n 3, 1) := dc_33 (bq_nm bk_X2_become_32 (j := 15) rfl rfl)
theorem dX2_become_48 : decode cX2_become 48 = .ok (.lload 5, 2) := dc_22 (bq_nm bk_X2_become_32 (j := 16) rfl rfl) (bq_nm bk_X2_become_32 (j := 17) rfl rfl)
theorem dX2_become_50 : decode cX2_become 50 = .ok (.ldiv, 1) := dc_109 (bq_nm bk_X2_become_32 (j := 18) rfl rfl)
theorem dX2_become_51 : decode cX2_become 51 = .ok (.putfield 13, 3) := dc_181 (bq_nm bk_X2_become_32 (j := 19) rfl rfl) (bq_nm bk_X2_become_32 (j := 20) rfl rfl) (bq_nm bk_X2_become_32 (j := 21) rfl rfl) rfl
theorem dX2_become_54 : decode cX2_become 54 = .ok (.iconst 1, 1) := dc_4 (bq_nm bk_X2_become_32 (j := 22) rfl rfl)
theorem dX2_become_55 : decode cX2_become 55 = .ok (.ireturn, 1) := dc_172 (bq_nm bk_X2_become_32 (j := 23) rfl rfl)
set_option maxRecDepth 20000 in
theorem bk_X2_commonDivisor_0 : ((cX2_commonDivisor.data.toList.drop 0).take 31).length = 31 ∧ eN (((cX2_commonDivisor.data.toList.drop 0).take 31).map UInt8.toNat) = 16284266746982919510416102481647076919655159780858842193997809497187563294 := by decide +kernel
theorem dX2_commonDivisor_0 : decode cX2_commonDivisor 0 = .ok (.lload_n 0, 1) := dc_30 (bq_nm bk_X2_commonDivisor_0 (j := 0) rfl rfl)
theorem dX2_commonDivisor_1 : decode cX2_commonDivisor 1 = .ok (.lstore 4, 2) := dc_55 (bq_nm bk_X2_commonDivisor_0 (j := 1) rfl rfl) (bq_nm bk_X2_commonDivisor_0 (j := 2) rfl rfl)
theorem dX2_commonDivisor_3 : decode cX2_commonDivisor 3 = .ok (.lload_n 2, 1) := dc_32 (bq_nm bk_X2_commonDivisor_0 (j := 3) rfl rfl)
theorem dX2_commonDivisor_4 : decode cX2_commonDivisor 4 = .ok (.lstore 6, 2) := dc_55 (bq_nm bk_X2_commonDivisor_0 (j := 4) rfl rfl) (bq_nm bk_X2_commonDivisor_0 (j := 5) rfl rfl)
theorem dX2_commonDivisor_6 : decode cX2_commonDivisor 6 = .ok (.iconst 0, 1) := dc_3 (bq_nm bk_X2_commonDivisor_0 (j := 6) rfl rfl)
theorem dX2_commonDivisor_7 : decode cX2_commonDivisor 7 = .ok (.istore 8, 2) := dc_54 (bq_nm bk_X2_commonDivisor_0 (j := 7) rfl rfl) (bq_nm bk_X2_commonDivisor_0 (j := 8) rfl rfl)
theorem dX2_commonDivisor_9 : decode cX2_commonDivisor 9 = .ok (.iload 8, 2) := dc_21 (bq_nm bk_X2_commonDivisor_0 (j := 9) rfl rfl) (bq_nm bk_X2_commonDivisor_0 (j := 10) rfl rfl)
theorem dX2_commonDivisor_11 : decode cX2_commonDivisor 11 = .ok (.sipush 200, 3) := dc_17 (bq_nm bk_X2_commonDivisor_0 (j := 11) rfl rfl) (bq_nm bk_X2_commonDivisor_0 (j := 12) rfl rfl) (bq_nm bk_X2_commonDivisor_0 (j := 13) rfl rfl) rfl
theorem dX2_commonDivisor_14 : decode cX2_commonDivisor 14 = .ok (.if_icmp .ge 31, 3) := dc_162 (bq_nm bk_X2_commonDivisor_0 (j := 14) rfl rfl) (bq_nm bk_X2_commonDivisor_0 (j := 15) rfl rfl) (bq_nm bk_X2_commonDivisor_0 (j := 16) rfl rfl) rfl
theorem dX2_commonDivisor_17 : decode cX2_commonDivisor 17 = .ok (.lload 6, 2) := dc_22 (bq_nm bk_X2_commonDivisor_0 (j := 17) rfl rfl) (bq_nm bk_X2_commonDivisor_0 (j := 18) rfl rfl)
theorem dX2_commonDivisor_19 : decode cX2_commonDivisor 19 = .ok (.lconst 0, 1) := dc_9 (bq_nm bk_X2_commonDivisor_0 (j := 19) rfl rfl)
theorem dX2_commonDivisor_20 : decode cX2_commonDivisor 20 = .ok (.lcmp, 1) := dc_148 (bq_nm bk_X2_commonDivisor_0 (j := 20) rfl rfl)
theorem dX2_commonDivisor_21 : decode cX2_commonDivisor 21 = .ok (.ifCond .eq 24, 3) := dc_153 (bq_nm bk_X2_commonDivisor_0 (j := 21) rfl rfl) (bq_nm bk_X2_commonDivisor_0 (j := 22) rfl rfl) (bq_nm bk_X2_commonDivisor_0 (j := 23) rfl rfl) rfl
theorem dX2_commonDivisor_24 : decode cX2_commonDivisor 24 = .ok (.lload 4, 2) := dc_22 (bq_nm bk_X2_commonDivisor_0 (j := 24) rfl rfl) (bq_nm bk_X2_commonDivisor_0 (j := 25) rfl rfl)
theorem dX2_commonDivisor_26 : decode cX2_commonDivisor 26 = .ok (.lload 6, 2) := dc_22 (bq_nm bk_X2_commonDivisor_0 (j := 26) rfl rfl) (bq_nm bk_X2_commonDivisor_0 (j := 27) rfl rfl)
theorem dX2_commonDivisor_28 : decode cX2_commonDivisor 28 = .ok (.lrem, 1) := dc_113 (bq_nm bk_X2_commonDivisor_0 (j := 28) rfl rfl)
theorem dX2_commonDivisor_29 : decode cX2_commonDivisor 29 = .ok (.lstore 9, 2) := dc_55 (bq_nm bk_X2_commonDivisor_0 (j := 29) rfl rfl) (bq_nm bk_X2_commonDivisor_0 (j := 30) rfl rfl)
set_option maxRecDepth 20000 in
theorem bk_X2_commonDivisor_31 : ((cX2_commonDivisor.data.toList.drop 31).take 17).length = 17 ∧ eN (((cX2_commonDivisor.data.toList.drop 31).take 17).map UInt8.toNat) = 58874285163068589910103494769918155884054 := by decide +kernel
theorem dX2_commonDivisor_31 : decode cX2_commonDivisor 31 = .ok (.lload 6, 2) := dc_22 (bq_nm bk_X2_commonDivisor_31 (j := 0) rfl rfl) (bq_nm bk_X2_commonDivisor_31 (j := 1) rfl rfl)
theorem dX2_commonDivisor_33 : decode cX2_commonDivisor 33 = .ok (.lstore 4, 2) := dc_55 (bq_nm bk_X2_commonDivisor_31 (j := 2) rfl rfl) (bq_nm bk_X2_commonDivisor_31 (j := 3) rfl rfl)
theorem dX2_commonDivisor_35 : decode cX2_commonDivisor 35 = .ok (.lload 9, 2) := dc_22 (bq_nm bk_X2_commonDivisor_31 (j := 4) rfl rfl) (bq_nm bk_X2_commonDivisor_31 (j := 5) rfl rfl)
theorem dX2_commonDivisor_37 : decode cX2_commonDivisor 37 = .ok (.lstore 6, 2) := dc_55 (bq_nm bk_X2_commonDivisor_31 (j := 6) rfl rfl) (bq_nm bk_X2_commonDivisor_31 (j := 7) rfl rfl)
theorem dX2_commonDivisor_39 : decode cX2_commonDivisor 39 = .ok (.iinc 8 1, 3) := dc_132 (bq_nm bk_X2_commonDivisor_31 (j := 8) rfl rfl) (bq_nm bk_X2_commonDivisor_31 (j := 9) rfl rfl) (bq_nm bk_X2_commonDivisor_31 (j := 10) rfl rfl) rfl
theorem dX2_commonDivisor_42 : decode cX2_commonDivisor 42 = .ok (.goto (-33), 3) := dc_167 (bq_nm bk_X2_commonDivisor_31 (j := 11) rfl rfl) (bq_nm bk_X2_commonDivisor_31 (j := 12) rfl rfl) (bq_nm bk_X2_commonDivisor_31 (j := 13) rfl rfl) rfl
theorem dX2_commonDivisor_45 : decode cX2_commonDivisor 45 = .ok (.lload 4, 2) := dc_22 (bq_nm bk_X2_commonDivisor_31 (j := 14) rfl rfl) (bq_nm bk_X2_commonDivisor_31 (j := 15) rfl rfl)
theorem dX2_commonDivisor_47 : decode cX2_commonDivisor 47 = .ok (.lreturn, 1) := dc_173 (bq_nm bk_X2_commonDivisor_31 (j := 16) rfl rfl)
set_option maxRecDepth 20000 in
theorem bk_X3_init_0 : ((cX3_init.data.toList.drop 0).take 13).length = 13 ∧ eN (((cX3_init.data.toList.drop 0).take 13).map UInt8.toNat) = 14026170985059534300669877991210 := by decide +kernel
theorem dX3_init_0 : decode cX3_init 0 = .ok (.aload_n 0, 1) := dc_42 (bq_nm bk_X3_init_0 (j := 0) rfl rfl)
theorem dX3_init_1 : decode cX3_init 1 = .ok (.invokespecial 3, 3) := dc_183 (bq_nm bk_X3_init_0 (j := 1) rfl rfl) (bq_nm bk_X3_init_0 (j := 2) rfl rfl) (bq_nm bk_X3_init_0 (j := 3) rfl rfl) rfl
theorem dX3_init_4 : decode cX3_init 4 = .ok (.aload_n 0, 1) := dc_42 (bq_nm bk_X3_init_0 (j := 4) rfl rfl)
theorem dX3_init_5 : decode cX3_init 5 = .ok (.bipush 24, 2) := dc_16 (bq_nm bk_X3_init_0 (j := 5) rfl rfl) (bq_nm bk_X3_init_0 (j := 6) rfl rfl) rfl
theorem dX3_init_7 : decode cX3_init 7 = .ok (.newarray .int, 2) := dc_188_10 (bq_nm bk_X3_init_0 (j := 7) rfl rfl) (bq_nm bk_X3_init_0 (j := 8) rfl rfl)
theorem dX3_init_9 : decode cX3_init 9 = .ok (.putfield 9, 3) := dc_181 (bq_nm bk_X3_init_0 (j := 9) rfl rfl) (bq_nm bk_X3_init_0 (j := 10) rfl rfl) (bq_nm bk_X3_init_0 (j := 11) rfl rfl) rfl
theorem dX3_init_12 : decode cX3_init 12 = .ok (.return_, 1) := dc_177 (bq_nm bk_X3_init_0 (j := 12) rfl rfl)
set_option maxRecDepth 20000 in
theorem bk_X3_draw_0 : ((cX3_draw.data.toList.drop 0).take 32).length = 32 ∧ eN (((cX3_draw.data.toList.drop 0).take 32).map UInt8.toNat) = 15379907421894520022185055875851886996411188820077183082624760066243988626218 := by decide +kernel
theorem dX3_draw_0 : decode cX3_draw 0 = .ok (.aload_n 0, 1) := dc_42 (bq_nm bk_X3_draw_0 (j := 0) rfl rfl)
theorem dX3_draw_1 : decode cX3_draw 1 = .ok (.iload_n 1, 1) := dc_27 (bq_nm bk_X3_draw_0 (j := 1) rfl rfl)
theorem dX3_draw_2 : decode cX3_draw 2 = .ok (.putfield 15, 3) := dc_181 (bq_nm bk_X3_draw_0 (j := 2) rfl rfl) (bq_nm bk_X3_draw_0 (j := 3) rfl rfl) (bq_nm bk_X3_draw_0 (j := 4) rfl rfl) rfl
theorem dX3_draw_5 : decode cX3_draw 5 = .ok (.aload_n 0, 1) := dc_42 (bq_nm bk_X3_draw_0 (j := 5) rfl rfl)
theorem dX3_draw_6 : decode cX3_draw 6 = .ok (.iload_n 2, 1) := dc_28 (bq_nm bk_X3_draw_0 (j := 6) rfl rfl)
theorem dX3_draw_7 : decode cX3_draw 7 = .ok (.putfield 19, 3) := dc_181 (bq_nm bk_X3_draw_0 (j := 7) rfl rfl) (bq_nm bk_X3_draw_0 (j := 8) rfl rfl) (bq_nm bk_X3_draw_0 (j := 9) rfl rfl) rfl
theorem dX3_draw_10 : decode cX3_draw 10 = .ok (.aload_n 0, 1) := dc_42 (bq_nm bk_X3_draw_0 (j := 10) rfl rfl)
theorem dX3_draw_11 : decode cX3_draw 11 = .ok (.iconst 0, 1) := dc_3 (bq_nm bk_X3_draw_0 (j := 11) rfl rfl)
theorem dX3_draw_12 : decode cX3_draw 12 = .ok (.putfield 22, 3) := dc_181 (bq_nm bk_X3_draw_0 (j := 12) rfl rfl) (bq_nm bk_X3_draw_0 (j := 13) rfl rfl) (bq_nm bk_X3_draw_0 (j := 14) rfl rfl) rfl
theorem dX3_draw_15 : decode cX3_draw 15 = .ok (.aload_n 0, 1) := dc_42 (bq_nm bk_X3_draw_0 (j := 15) rfl rfl)
theorem dX3_draw_16 : decode cX3_draw 16 = .ok (.iconst 0, 1) := dc_3 (bq_nm bk_X3_draw_0 (j := 16) rfl rfl)
theorem dX3_draw_17 : decode cX3_draw 17 = .ok (.putfield 25, 3) := dc_181 (bq_nm bk_X3_draw_0 (j := 17) rfl rfl) (bq_nm bk_X3_draw_0 (j := 18) rfl rfl) (bq_nm bk_X3_draw_0 (j := 19) rfl rfl) rfl
theorem dX3_draw_20 : decode cX3_draw 20 = .ok (.iload_n 1, 1) := dc_27 (bq_nm bk_X3_draw_0 (j := 20) rfl rfl)
theorem dX3_draw_21 : decode cX3_draw 21 = .ok (.invokestatic 28, 3) := dc_184 (bq_nm bk_X3_draw_0 (j := 21) rfl rfl) (bq_nm bk_X3_draw_0 (j := 22) rfl rfl) (bq_nm bk_X3_draw_0 (j := 23) rfl rfl) rfl
theorem dX3_draw_24 : decode cX3_draw 24 = .ok (.istore 4, 2) := dc_54 (bq_nm bk_X3_draw_0 (j := 24) rfl rfl) (bq_nm bk_X3_draw_0 (j := 25) rfl rfl)
theorem dX3_draw_26 : decode cX3_draw 26 = .ok (.iload_n 3, 1) := dc_29 (bq_nm bk_X3_draw_0 (j := 26) rfl rfl)
theorem dX3_draw_27 : decode cX3_draw 27 = .ok (.bipush 24, 2) := dc_16 (bq_nm bk_X3_draw_0 (j := 27) rfl rfl) (bq_nm bk_X3_draw_0 (j := 28) rfl rfl) rfl
theorem dX3_draw_29 : decode cX3_draw 29 = .ok (.invokestatic 34, 3) := dc_184 (bq_nm bk_X3_draw_0 (j := 29) rfl rfl) (bq_nm bk_X3_draw_0 (j := 30) rfl rfl) (bq_nm bk_X3_draw_0 (j := 31) rfl rfl) rfl
set_option maxRecDepth 20000 in
theorem bk_X3_draw_32 : ((cX3_draw.data.toList.drop 32).take 32).length = 32 ∧ eN (((cX3_draw.data.toList.drop 32).take 32).map UInt8.toNat) = 25866761166097822381841100058341007458580723432375226625478890861502177739797 := by decide +kernel
theorem dX3_draw_32 : decode cX3_draw 32 = .ok (.iload 4, 2) := dc_21 (bq_nm bk_X3_draw_32 (j := 0) rfl rfl) (bq_nm bk_X3_draw_32 (j := 1) rfl rfl)
theorem dX3_draw_34 : decode cX3_draw 34 = .ok (.invokestatic 34, 3) := dc_184 (bq_nm bk_X3_draw_32 (j := 2) rfl rfl) (bq_nm bk_X3_draw_32 (j := 3) rfl rfl) (bq_nm bk_X3_draw_32 (j := 4) rfl rfl) rfl
theorem dX3_draw_37 : decode cX3_draw 37 = .ok (.istore 5, 2) := dc_54 (bq_nm bk_X3_draw_32 (j := 5) rfl rfl) (bq_nm bk_X3_draw_32 (j := 6) rfl rfl)
theorem dX3_draw_39 : decode cX3_draw 39 = .ok (.aload_n 0, 1) := dc_42 (bq_nm bk_X3_draw_32 (j := 7) rfl rfl)
theorem dX3_draw_40 : decode cX3_draw 40 = .ok (.getfield 22, 3) := dc_180 (bq_nm bk_X3_draw_32 (j := 8) rfl rfl) (bq_nm bk_X3_draw_32 (j := 9) rfl rfl) (bq_nm bk_X3_draw_32 (j := 10) rfl rfl) rfl
theorem dX3_draw_43 : decode cX3_draw 43 = .ok (.iload 5, 2) := dc_21 (bq_nm bk_X3_draw_32 (j := 11) rfl rfl) (bq_nm bk_X3_draw_32 (j := 12) rfl rfl)
theorem dX3_draw_45 : decode cX3_draw 45 = .ok (.if_icmp .ge 89, 3) := dc_162 (bq_nm bk_X3_draw_32 (j := 13) rfl rfl) (bq_nm bk_X3_draw_32 (j := 14) rfl rfl) (bq_nm bk_X3_draw_32 (j := 15) rfl rfl) rfl
theorem dX3_draw_48 : decode cX3_draw 48 = .ok (.iload 4, 2) := dc_21 (bq_nm bk_X3_draw_32 (j := 16) rfl rfl) (bq_nm bk_X3_draw_32 (j := 17) rfl rfl)
theorem dX3_draw_50 : decode cX3_draw 50 = .ok (.ifCond .le 84, 3) := dc_158 (bq_nm bk_X3_draw_32 (j := 18) rfl rfl) (bq_nm bk_X3_draw_32 (j := 19) rfl rfl) (bq_nm bk_X3_draw_32 (j := 20) rfl rfl) rfl
theorem dX3_draw_53 : decode cX3_draw 53 = .ok (.aload_n 0, 1) := dc_42 (bq_nm bk_X3_draw_32 (j := 21) rfl rfl)
theorem dX3_draw_54 : decode cX3_draw 54 = .ok (.aload_n 0, 1) := dc_42 (bq_nm bk_X3_draw_32 (j := 22) rfl rfl)
theorem dX3_draw_55 : decode cX3_draw 55 = .ok (.getfield 19, 3) := dc_180 (bq_nm bk_X3_draw_32 (j := 23) rfl rfl) (bq_nm bk_X3_draw_32 (j := 24) rfl rfl) (bq_nm bk_X3_draw_32 (j := 25) rfl rfl) rfl
theorem dX3_draw_58 : decode cX3_draw 58 = .ok (.ldc 40, 2) := dc_18 (bq_nm bk_X3_draw_32 (j := 26) rfl rfl) (bq_nm bk_X3_draw_32 (j := 27) rfl rfl)
theorem dX3_draw_60 : decode cX3_draw 60 = .ok (.imul, 1) := dc_104 (bq_nm bk_X3_draw_32 (j := 28) rfl rfl)
theorem dX3_draw_61 : decode cX3_draw 61 = .ok (.sipush 12345, 3) := dc_17 (bq_nm bk_X3_draw_32 (j := 29) rfl rfl) (bq_nm bk_X3_draw_32 (j := 30) rfl rfl) (bq_nm bk_X3_draw_32 (j := 31) rfl rfl) rfl
set_option maxRecDepth 20000 in
theorem bk_X3_draw_64 : ((cX3_draw.data.toList.drop 64).take 31).length = 31 ∧ eN (((cX3_draw.data.toList.drop 64).take 31).map UInt8.toNat) = 74250447353993249506292220115347967878894996324578608527895690877905974624 := by decide +kernel
theorem dX3_draw_64 : decode cX3_draw 64 = .ok (.iadd, 1) := dc_96 (bq_nm bk_X3_draw_64 (j := 0) rfl rfl)
theorem dX3_draw_65 : decode cX3_draw 65 = .ok (.putfield 19, 3) := dc_181 (bq_nm bk_X3_draw_64 (j := 1) rfl rfl) (bq_nm bk_X3_draw_64 (j := 2) rfl rfl) (bq_nm bk_X3_draw_64 (j := 3) rfl rfl) rfl
theorem dX3_draw_68 : decode cX3_draw 68 = .ok (.aload_n 0, 1) := dc_42 (bq_nm bk_X3_draw_64 (j := 4) rfl rfl)
theorem dX3_draw_69 : decode cX3_draw 69 = .ok (.getfield 15, 3) := dc_180 (bq_nm bk_X3_draw_64 (j := 5) rfl rfl) (bq_nm bk_X3_draw_64 (j := 6) rfl rfl) (bq_nm bk_X3_draw_64 (j := 7) rfl rfl) rfl
theorem dX3_draw_72 : decode cX3_draw 72 = .ok (.aload_n 0, 1) := dc_42 (bq_nm bk_X3_draw_64 (j := 8) rfl rfl)
theorem dX3_draw_73 : decode cX3_draw 73 = .ok (.getfield 25, 3) := dc_180 (bq_nm bk_X3_draw_64 (j := 9) rfl rfl) (bq_nm bk_X3_draw_64 (j := 10) rfl rfl) (bq_nm bk_X3_draw_64 (j := 11) rfl rfl) rfl
theorem dX3_draw_76 : decode cX3_draw 76 = .ok (.iconst (-1), 1) := dc_2 (bq_nm bk_X3_draw_64 (j := 12) rfl rfl)
theorem dX3_draw_77 : decode cX3_draw 77 = .ok (.ixor, 1) := dc_130 (bq_nm bk_X3_draw_64 (j := 13) rfl rfl)
theorem dX3_draw_78 : decode cX3_draw 78 = .ok (.iand, 1) := dc_126 (bq_nm bk_X3_draw_64 (j := 14) rfl rfl)
theorem dX3_draw_79 : decode cX3_draw 79 = .ok (.aload_n 0, 1) := dc_42 (bq_nm bk_X3_draw_64 (j := 15) rfl rfl)
theorem dX3_draw_80 : decode cX3_draw 80 = .ok (.getfield 19, 3) := dc_180 (bq_nm bk_X3_draw_64 (j := 16) rfl rfl) (bq_nm bk_X3_draw_64 (j := 17) rfl rfl) (bq_nm bk_X3_draw_64 (j := 18) rfl rfl) rfl
theorem dX3_draw_83 : decode cX3_draw 83 = .ok (.bipush 16, 2) := dc_16 (bq_nm bk_X3_draw_64 (j := 19) rfl rfl) (bq_nm bk_X3_draw_64 (j := 20) rfl rfl) rfl
theorem dX3_draw_85 : decode cX3_draw 85 = .ok (.iushr, 1) := dc_124 (bq_nm bk_X3_draw_64 (j := 21) rfl rfl)
theorem dX3_draw_86 : decode cX3_draw 86 = .ok (.iload 4, 2) := dc_21 (bq_nm bk_X3_draw_64 (j := 22) rfl rfl) (bq_nm bk_X3_draw_64 (j := 23) rfl rfl)
theorem dX3_draw_88 : decode cX3_draw 88 = .ok (.irem, 1) := dc_112 (bq_nm bk_X3_draw_64 (j := 24) rfl rfl)
theorem dX3_draw_89 : decode cX3_draw 89 = .ok (.invokestatic 41, 3) := dc_184 (bq_nm bk_X3_draw_64 (j := 25) rfl rfl) (bq_nm bk_X3_draw_64 (j := 26) rfl rfl) (bq_nm bk_X3_draw_64 (j := 27) rfl rfl) rfl
theorem dX3_draw_92 : decode cX3_draw 92 = .ok (.istore 6, 2) := dc_54 (bq_nm bk_X3_draw_64 (j := 28) rfl rfl) (bq_nm bk_X3_draw_64 (j := 29) rfl rfl)
theorem dX3_draw_94 : decode cX3_draw 94 = .ok (.aload_n 0, 1) := dc_42 (bq_nm bk_X3_draw_64 (j := 30) rfl rfl)
set_option maxRecDepth 20000 in
theorem bk_X3_draw_95 : ((cX3_draw.data.toList.drop 95).take 32).length = 32 ∧ eN (((cX3_draw.data.toList.drop 95).take 32).map UInt8.toNat) = 54288287959526803281496707892246152477557020566760842927141577836078284996788 := by decide +kernel
theorem dX3_draw_95 : decode cX3_draw 95 = .ok (.getfield 9, 3) := dc_180 (bq_nm bk_X3_draw_95 (j := 0) rfl rfl) (bq_nm bk_X3_draw_95 (j := 1) rfl rfl) (bq_nm bk_X3_draw_95 (j := 2) rfl rfl) rfl
theorem dX3_draw_98 : decode cX3_draw 98 = .ok (.aload_n 0, 1) := dc_42 (bq_nm bk_X3_draw_95 (j := 3) rfl rfl)
theorem dX3_draw_99 : decode cX3_draw 99 = .ok (.getfield 22, 3) := dc_180 (bq_nm bk_X3_draw_95 (j := 4) rfl rfl) (bq_nm bk_X3_draw_95 (j := 5) rfl rfl) (bq_nm bk_X3_draw_95 (j := 6) rfl rfl) rfl
theorem dX3_draw_102 : decode cX3_draw 102 = .ok (.iload 6, 2) := dc_21 (bq_nm bk_X3_draw_95 (j := 7) rfl rfl) (bq_nm bk_X3_draw_95 (j := 8) rfl rfl)
theorem dX3_draw_104 : decode cX3_draw 104 = .ok (.iastore, 1) := dc_79 (bq_nm bk_X3_draw_95 (j := 9) rfl rfl)
theorem dX3_draw_105 : decode cX3_draw 105 = .ok (.aload_n 0, 1) := dc_42 (bq_nm bk_X3_draw_95 (j := 10) rfl rfl)
theorem dX3_draw_106 : decode cX3_draw 106 = .ok (.dup, 1) := dc_89 (bq_nm bk_X3_draw_95 (j := 11) rfl rfl)
theorem dX3_draw_107 : decode cX3_draw 107 = .ok (.getfield 22, 3) := dc_180 (bq_nm bk_X3_draw_95 (j := 12) rfl rfl) (bq_nm bk_X3_draw_95 (j := 13) rfl rfl) (bq_nm bk_X3_draw_95 (j := 14) rfl rfl) rfl
theorem dX3_draw_110 : decode cX3_draw 110 = .ok (.iconst 1, 1) := dc_4 (bq_nm bk_X3_draw_95 (j := 15) rfl rfl)
theorem dX3_draw_111 : decode cX3_draw 111 = .ok (.iadd, 1) := dc_96 (bq_nm bk_X3_draw_95 (j := 16) rfl rfl)
theorem dX3_draw_112 : decode cX3_draw 112 = .ok (.putfield 22, 3) := dc_181 (bq_nm bk_X3_draw_95 (j := 17) rfl rfl) (bq_nm bk_X3_draw_95 (j := 18) rfl rfl) (bq_nm bk_X3_draw_95 (j := 19) rfl rfl) rfl
theorem dX3_draw_115 : decode cX3_draw 115 = .ok (.iinc 4 (-1), 3) := dc_132 (bq_nm bk_X3_draw_95 (j := 20) rfl rfl) (bq_nm bk_X3_draw_95 (j := 21) rfl rfl) (bq_nm bk_X3_draw_95 (j := 22) rfl rfl) rfl
theorem dX3_draw_118 : decode cX3_draw 118 = .ok (.aload_n 0, 1) := dc_42 (bq_nm bk_X3_draw_95 (j := 23) rfl rfl)
theorem dX3_draw_119 : decode cX3_draw 119 = .ok (.dup, 1) := dc_89 (bq_nm bk_X3_draw_95 (j := 24) rfl rfl)
theorem dX3_draw_120 : decode cX3_draw 120 = .ok (.getfield 25, 3) := dc_180 (bq_nm bk_X3_draw_95 (j := 25) rfl rfl) (bq_nm bk_X3_draw_95 (j := 26) rfl rfl) (bq_nm bk_X3_draw_95 (j := 27) rfl rfl) rfl
theorem dX3_draw_123 : decode cX3_draw 123 = .ok (.iconst 1, 1) := dc_4 (bq_nm bk_X3_draw_95 (j := 28) rfl rfl)
theorem dX3_draw_124 : decode cX3_draw 124 = .ok (.iload 6, 2) := dc_21 (bq_nm bk_X3_draw_95 (j := 29) rfl rfl) (bq_nm bk_X3_draw_95 (j := 30) rfl rfl)
theorem dX3_draw_126 : decode cX3_draw 126 = .ok (.ishl, 1) := dc_120 (bq_nm bk_X3_draw_95 (j := 31) rfl rfl)
set_option maxRecDepth 20000 in
theorem bk_X3_draw_127 : ((cX3_draw.data.toList.drop 127).take 8).length = 8 ∧ eN (((cX3_draw.data.toList.drop 127).take 8).map UInt8.toNat) = 12800637134037890432 := by decide +kernel
theorem dX3_draw_127 : decode cX3_draw 127 = .ok (.ior, 1) := dc_128 (bq_nm bk_X3_draw_127 (j := 0) rfl rfl)
theorem dX3_draw_128 : decode cX3_draw 128 = .ok (.putfield 25, 3) := dc_181 (bq_nm bk_X3_draw_127 (j := 1) rfl rfl) (bq_nm bk_X3_draw_127 (j := 2) rfl rfl) (bq_nm bk_X3_draw_127 (j := 3) rfl rfl) rfl
theorem dX3_draw_131 : decode cX3_draw 131 = .ok (.goto (-92), 3) := dc_167 (bq_nm bk_X3_draw_127 (j := 4) rfl rfl) (bq_nm bk_X3_draw_127 (j := 5) rfl rfl) (bq_nm bk_X3_draw_127 (j := 6) rfl rfl) rfl
theorem dX3_draw_134 : decode cX3_draw 134 = .ok (.return_, 1) := dc_177 (bq_nm bk_X3_draw_127 (j := 7) rfl rfl)
set_option maxRecDepth 20000 in
theorem bk_X3_bitAt_0 : ((cX3_bitAt.data.toList.drop 0).take 31).length = 31 ∧ eN (((cX3_bitAt.data.toList.drop 0).take 31).map UInt8.toNat) = 1791111123127060047514030572102965042449603203020516020450148805563858179 := by decide +kernel
theorem dX3_bitAt_0 : decode cX3_bitAt 0 = .ok (.iconst 0, 1) := dc_3 (bq_nm bk_X3_bitAt_0 (j := 0) rfl rfl)
theorem dX3_bitAt_1 : decode cX3_bitAt 1 = .ok (.istore_n 2, 1) := dc_61 (bq_nm bk_X3_bitAt_0 (j := 1) rfl rfl)
theorem dX3_bitAt_2 : decode cX3_bitAt 2 = .ok (.iconst 0, 1) := dc_3 (bq_nm bk_X3_bitAt_0 (j := 2) rfl rfl)
theorem dX3_bitAt_3 : decode cX3_bitAt 3 = .ok (.istore_n 3, 1) := dc_62 (bq_nm bk_X3_bitAt_0 (j := 3) rfl rfl)
theorem dX3_bitAt_4 : decode cX3_bitAt 4 = .ok (.iload_n 3, 1) := dc_29 (bq_nm bk_X3_bitAt_0 (j := 4) rfl rfl)
theorem dX3_bitAt_5 : decode cX3_bitAt 5 = .ok (.bipush 30, 2) := dc_16 (bq_nm bk_X3_bitAt_0 (j := 5) rfl rfl) (bq_nm bk_X3_bitAt_0 (j := 6) rfl rfl) rfl
theorem dX3_bitAt_7 : decode cX3_bitAt 7 = .ok (.if_icmp .ge 27, 3) := dc_162 (bq_nm bk_X3_bitAt_0 (j := 7) rfl rfl) (bq_nm bk_X3_bitAt_0 (j := 8) rfl rfl) (bq_nm bk_X3_bitAt_0 (j := 9) rfl rfl) rfl
theorem dX3_bitAt_10 : decode cX3_bitAt 10 = .ok (.iload_n 0, 1) := dc_26 (bq_nm bk_X3_bitAt_0 (j := 10) rfl rfl)
theorem dX3_bitAt_11 : decode cX3_bitAt 11 = .ok (.iload_n 3, 1) := dc_29 (bq_nm bk_X3_bitAt_0 (j := 11) rfl rfl)
theorem dX3_bitAt_12 : decode cX3_bitAt 12 = .ok (.invokestatic 44, 3) := dc_184 (bq_nm bk_X3_bitAt_0 (j := 12) rfl rfl) (bq_nm bk_X3_bitAt_0 (j := 13) rfl rfl) (bq_nm bk_X3_bitAt_0 (j := 14) rfl rfl) rfl
theorem dX3_bitAt_15 : decode cX3_bitAt 15 = .ok (.ifCond .eq 13, 3) := dc_153 (bq_nm bk_X3_bitAt_0 (j := 15) rfl rfl) (bq_nm bk_X3_bitAt_0 (j := 16) rfl rfl) (bq_nm bk_X3_bitAt_0 (j := 17) rfl rfl) rfl
theorem dX3_bitAt_18 : decode cX3_bitAt 18 = .ok (.iload_n 2, 1) := dc_28 (bq_nm bk_X3_bitAt_0 (j := 18) rfl rfl)
theorem dX3_bitAt_19 : decode cX3_bitAt 19 = .ok (.iload_n 1, 1) := dc_27 (bq_nm bk_X3_bitAt_0 (j := 19) rfl rfl)
theorem dX3_bitAt_20 : decode cX3_bitAt 20 = .ok (.if_icmp .ne 5, 3) := dc_160 (bq_nm bk_X3_bitAt_0 (j := 20) rfl rfl) (bq_nm bk_X3_bitAt_0 (j := 21) rfl rfl) (bq_nm bk_X3_bitAt_0 (j := 22) rfl rfl) rfl
theorem dX3_bitAt_23 : decode cX3_bitAt 23 = .ok (.iload_n 3, 1) := dc_29 (bq_nm bk_X3_bitAt_0 (j := 23) rfl rfl)
theorem dX3_bitAt_24 : decode cX3_bitAt 24 = .ok (.ireturn, 1) := dc_172 (bq_nm bk_X3_bitAt_0 (j := 24) rfl rfl)
theorem dX3_bitAt_25 : decode cX3_bitAt 25 = .ok (.iinc 2 1, 3) := dc_132 (bq_nm bk_X3_bitAt_0 (j := 25) rfl rfl) (bq_nm bk_X3_bitAt_0 (j := 26) rfl rfl) (bq_nm bk_X3_bitAt_0 (j := 27) rfl rfl) rfl
theorem dX3_bitAt_28 : decode cX3_bitAt 28 = .ok (.iinc 3 1, 3) := dc_132 (bq_nm bk_X3_bitAt_0 (j := 28) rfl rfl) (bq_nm bk_X3_bitAt_0 (j := 29) rfl rfl) (bq_nm bk_X3_bitAt_0 (j := 30) rfl rfl) rfl
set_option maxRecDepth 20000 in
theorem bk_X3_bitAt_31 : ((cX3_bitAt.data.toList.drop 31).take 5).length = 5 ∧ eN (((cX3_bitAt.data.toList.drop 31).take 5).map UInt8.toNat) = 738799779751 := by decide +kernel
theorem dX3_bitAt_31 : decode cX3_bitAt 31 = .ok (.goto (-27), 3) := dc_167 (bq_nm bk_X3_bitAt_31 (j := 0) rfl rfl) (bq_nm bk_X3_bitAt_31 (j := 1) rfl rfl) (bq_nm bk_X3_bitAt_31 (j := 2) rfl rfl) rfl
theorem dX3_bitAt_34 : decode cX3_bitAt 34 = .ok (.iconst 0, 1) := dc_3 (bq_nm bk_X3_bitAt_31 (j := 3) rfl rfl)
theorem dX3_bitAt_35 : decode cX3_bitAt 35 = .ok (.ireturn, 1) := dc_172 (bq_nm bk_X3_bitAt_31 (j := 4) rfl rfl)
set_option maxRecDepth 20000 in
theorem bk_X3_strike_0 : ((cX3_strike.data.toList.drop 0).take 31).length = 31 ∧ eN (((cX3_strike.data.toList.drop 0).take 31).map UInt8.toNat) = 49769281275851128491304055270367544090406567278965553618098045399292193322 := by decide +kernel
theorem dX3_strike_0 : decode cX3_strike 0 = .ok (.aload_n 0, 1) := dc_42 (bq_nm bk_X3_strike_0 (j := 0) rfl rfl)
theorem dX3_strike_1 : decode cX3_strike 1 = .ok (.aload_n 0, 1) := dc_42 (bq_nm bk_X3_strike_0 (j := 1) rfl rfl)
theorem dX3_strike_2 : decode cX3_strike 2 = .ok (.getfield 25, 3) := dc_180 (bq_nm bk_X3_strike_0 (j := 2) rfl rfl) (bq_nm bk_X3_strike_0 (j := 3) rfl rfl) (bq_nm bk_X3_strike_0 (j := 4) rfl rfl) rfl
theorem dX3_strike_5 : decode cX3_strike 5 = .ok (.aload_n 1, 1) := dc_43 (bq_nm bk_X3_strike_0 (j := 5) rfl rfl)
theorem dX3_strike_6 : decode cX3_strike 6 = .ok (.iload_n 2, 1) := dc_28 (bq_nm bk_X3_strike_0 (j := 6) rfl rfl)
theorem dX3_strike_7 : decode cX3_strike 7 = .ok (.bipush 9, 2) := dc_16 (bq_nm bk_X3_strike_0 (j := 7) rfl rfl) (bq_nm bk_X3_strike_0 (j := 8) rfl rfl) rfl
theorem dX3_strike_9 : decode cX3_strike 9 = .ok (.invokevirtual 48, 3) := dc_182 (bq_nm bk_X3_strike_0 (j := 9) rfl rfl) (bq_nm bk_X3_strike_0 (j := 10) rfl rfl) (bq_nm bk_X3_strike_0 (j := 11) rfl rfl) rfl
theorem dX3_strike_12 : decode cX3_strike 12 = .ok (.iand, 1) := dc_126 (bq_nm bk_X3_strike_0 (j := 12) rfl rfl)
theorem dX3_strike_13 : decode cX3_strike 13 = .ok (.putfield 53, 3) := dc_181 (bq_nm bk_X3_strike_0 (j := 13) rfl rfl) (bq_nm bk_X3_strike_0 (j := 14) rfl rfl) (bq_nm bk_X3_strike_0 (j := 15) rfl rfl) rfl
theorem dX3_strike_16 : decode cX3_strike 16 = .ok (.aload_n 0, 1) := dc_42 (bq_nm bk_X3_strike_0 (j := 16) rfl rfl)
theorem dX3_strike_17 : decode cX3_strike 17 = .ok (.iconst 0, 1) := dc_3 (bq_nm bk_X3_strike_0 (j := 17) rfl rfl)
theorem dX3_strike_18 : decode cX3_strike 18 = .ok (.putfield 56, 3) := dc_181 (bq_nm bk_X3_strike_0 (j := 18) rfl rfl) (bq_nm bk_X3_strike_0 (j := 19) rfl rfl) (bq_nm bk_X3_strike_0 (j := 20) rfl rfl) rfl
theorem dX3_strike_21 : decode cX3_strike 21 = .ok (.aload_n 0, 1) := dc_42 (bq_nm bk_X3_strike_0 (j := 21) rfl rfl)
theorem dX3_strike_22 : decode cX3_strike 22 = .ok (.iconst 0, 1) := dc_3 (bq_nm bk_X3_strike_0 (j := 22) rfl rfl)
theorem dX3_strike_23 : decode cX3_strike 23 = .ok (.putfield 59, 3) := dc_181 (bq_nm bk_X3_strike_0 (j := 23) rfl rfl) (bq_nm bk_X3_strike_0 (j := 24) rfl rfl) (bq_nm bk_X3_strike_0 (j := 25) rfl rfl) rfl
theorem dX3_strike_26 : decode cX3_strike 26 = .ok (.iconst 0, 1) := dc_3 (bq_nm bk_X3_strike_0 (j := 26) rfl rfl)
theorem dX3_strike_27 : decode cX3_strike 27 = .ok (.istore_n 3, 1) := dc_62 (bq_nm bk_X3_strike_0 (j := 27) rfl rfl)
theorem dX3_strike_28 : decode cX3_strike 28 = .ok (.iload_n 3, 1) := dc_29 (bq_nm bk_X3_strike_0 (j := 28) rfl rfl)
theorem dX3_strike_29 : decode cX3_strike 29 = .ok (.aload_n 1, 1) := dc_43 (bq_nm bk_X3_strike_0 (j := 29) rfl rfl)
theorem dX3_strike_30 : decode cX3_strike 30 = .ok (.iload_n 2, 1) := dc_28 (bq_nm bk_X3_strike_0 (j := 30) rfl rfl)
set_option maxRecDepth 20000 in
theorem bk_X3_strike_31 : ((cX3_strike.data.toList.drop 31).take 32).length = 32 ∧ eN (((cX3_strike.data.toList.drop 31).take 32).map UInt8.toNat) = 12741025648174538953768828543411266759251331575370274937636965101824185337360 := by decide +kernel
theorem dX3_strike_31 : decode cX3_strike 31 = .ok (.bipush 6, 2) := dc_16 (bq_nm bk_X3_strike_31 (j := 0) rfl rfl) (bq_nm bk_X3_strike_31 (j := 1) rfl rfl) rfl
theorem dX3_strike_33 : decode cX3_strike 33 = .ok (.invokevirtual 48, 3) := dc_182 (bq_nm bk_X3_strike_31 (j := 2) rfl rfl) (bq_nm bk_X3_strike_31 (j := 3) rfl rfl) (bq_nm bk_X3_strike_31 (j := 4) rfl rfl) rfl
theorem dX3_strike_36 : decode cX3_strike 36 = .ok (.if_icmp .ge 41, 3) := dc_162 (bq_nm bk_X3_strike_31 (j := 5) rfl rfl) (bq_nm bk_X3_strike_31 (j := 6) rfl rfl) (bq_nm bk_X3_strike_31 (j := 7) rfl rfl) rfl
theorem dX3_strike_39 : decode cX3_strike 39 = .ok (.aload_n 0, 1) := dc_42 (bq_nm bk_X3_strike_31 (j := 8) rfl rfl)
theorem dX3_strike_40 : decode cX3_strike 40 = .ok (.dup, 1) := dc_89 (bq_nm bk_X3_strike_31 (j := 9) rfl rfl)
theorem dX3_strike_41 : decode cX3_strike 41 = .ok (.getfield 56, 3) := dc_180 (bq_nm bk_X3_strike_31 (j := 10) rfl rfl) (bq_nm bk_X3_strike_31 (j := 11) rfl rfl) (bq_nm bk_X3_strike_31 (j := 12) rfl rfl) rfl
theorem dX3_strike_44 : decode cX3_strike 44 = .ok (.aload_n 0, 1) := dc_42 (bq_nm bk_X3_strike_31 (j := 13) rfl rfl)
theorem dX3_strike_45 : decode cX3_strike 45 = .ok (.aload_n 1, 1) := dc_43 (bq_nm bk_X3_strike_31 (j := 14) rfl rfl)
theorem dX3_strike_46 : decode cX3_strike 46 = .ok (.iload_n 2, 1) := dc_28 (bq_nm bk_X3_strike_31 (j := 15) rfl rfl)
theorem dX3_strike_47 : decode cX3_strike 47 = .ok (.iconst 0, 1) := dc_3 (bq_nm bk_X3_strike_31 (j := 16) rfl rfl)
theorem dX3_strike_48 : decode cX3_strike 48 = .ok (.invokevirtual 62, 3) := dc_182 (bq_nm bk_X3_strike_31 (j := 17) rfl rfl) (bq_nm bk_X3_strike_31 (j := 18) rfl rfl) (bq_nm bk_X3_strike_31 (j := 19) rfl rfl) rfl
theorem dX3_strike_51 : decode cX3_strike 51 = .ok (.ior, 1) := dc_128 (bq_nm bk_X3_strike_31 (j := 20) rfl rfl)
theorem dX3_strike_52 : decode cX3_strike 52 = .ok (.putfield 56, 3) := dc_181 (bq_nm bk_X3_strike_31 (j := 21) rfl rfl) (bq_nm bk_X3_strike_31 (j := 22) rfl rfl) (bq_nm bk_X3_strike_31 (j := 23) rfl rfl) rfl
theorem dX3_strike_55 : decode cX3_strike 55 = .ok (.aload_n 0, 1) := dc_42 (bq_nm bk_X3_strike_31 (j := 24) rfl rfl)
theorem dX3_strike_56 : decode cX3_strike 56 = .ok (.dup, 1) := dc_89 (bq_nm bk_X3_strike_31 (j := 25) rfl rfl)
theorem dX3_strike_57 : decode cX3_strike 57 = .ok (.getfield 59, 3) := dc_180 (bq_nm bk_X3_strike_31 (j := 26) rfl rfl) (bq_nm bk_X3_strike_31 (j := 27) rfl rfl) (bq_nm bk_X3_strike_31 (j := 28) rfl rfl) rfl
theorem dX3_strike_60 : decode cX3_strike 60 = .ok (.aload_n 0, 1) := dc_42 (bq_nm bk_X3_strike_31 (j := 29) rfl rfl)
theorem dX3_strike_61 : decode cX3_strike 61 = .ok (.aload_n 1, 1) := dc_43 (bq_nm bk_X3_strike_31 (j := 30) rfl rfl)
theorem dX3_strike_62 : decode cX3_strike 62 = .ok (.iload_n 2, 1) := dc_28 (bq_nm bk_X3_strike_31 (j := 31) rfl rfl)
set_option maxRecDepth 20000 in
theorem bk_X3_strike_63 : ((cX3_strike.data.toList.drop 63).take 15).length = 15 ∧ eN (((cX3_strike.data.toList.drop 63).take 15).map UInt8.toNat) = 923316104844094650750518182197376516 := by decide +kernel
theorem dX3_strike_63 : decode cX3_strike 63 = .ok (.iconst 1, 1) := dc_4 (bq_nm bk_X3_strike_63 (j := 0) rfl rfl)
theorem dX3_strike_64 : decode cX3_strike 64 = .ok (.invokevirtual 62, 3) := dc_182 (bq_nm bk_X3_strike_63 (j := 1) rfl rfl) (bq_nm bk_X3_strike_63 (j := 2) rfl rfl) (bq_nm bk_X3_strike_63 (j := 3) rfl rfl) rfl
theorem dX3_strike_67 : decode cX3_strike 67 = .ok (.ior, 1) := dc_128 (bq_nm bk_X3_strike_63 (j := 4) rfl rfl)
theorem dX3_strike_68 : decode cX3_strike 68 = .ok (.putfield 59, 3) := dc_181 (bq_nm bk_X3_strike_63 (j := 5) rfl rfl) (bq_nm bk_X3_strike_63 (j := 6) rfl rfl) (bq_nm bk_X3_strike_63 (j := 7) rfl rfl) rfl
theorem dX3_strike_71 : decode cX3_strike 71 = .ok (.iinc 3 1, 3) := dc_132 (bq_nm bk_X3_strike_63 (j := 8) rfl rfl) (bq_nm bk_X3_strike_63 (j := 9) rfl rfl) (bq_nm bk_X3_strike_63 (j := 10) rfl rfl) rfl
theorem dX3_strike_74 : decode cX3_strike 74 = .ok (.goto (-46), 3) := dc_167 (bq_nm bk_X3_strike_63 (j := 11) rfl rfl) (bq_nm bk_X3_strike_63 (j := 12) rfl rfl) (bq_nm bk_X3_strike_63 (j := 13) rfl rfl) rfl
theorem dX3_strike_77 : decode cX3_strike 77 = .ok (.return_, 1) := dc_177 (bq_nm bk_X3_strike_63 (j := 14) rfl rfl)
set_option maxRecDepth 20000 in
theorem bk_X3_left_0 : ((cX3_left.data.toList.drop 0).take 26).length = 26 ∧ eN (((cX3_left.data.toList.drop 0).take 26).map UInt8.toNat) = 277187446235567542122758673996903377208951821208793891010032682 := by decide +kernel
theorem dX3_left_0 : decode cX3_left 0 = .ok (.aload_n 0, 1) := dc_42 (bq_nm bk_X3_left_0 (j := 0) rfl rfl)
theorem dX3_left_1 : decode cX3_left 1 = .ok (.getfield 25, 3) := dc_180 (bq_nm bk_X3_left_0 (j := 1) rfl rfl) (bq_nm bk_X3_left_0 (j := 2) rfl rfl) (bq_nm bk_X3_left_0 (j := 3) rfl rfl) rfl
theorem dX3_left_4 : decode cX3_left 4 = .ok (.aload_n 0, 1) := dc_42 (bq_nm bk_X3_left_0 (j := 4) rfl rfl)
theorem dX3_left_5 : decode cX3_left 5 = .ok (.getfield 53, 3) := dc_180 (bq_nm bk_X3_left_0 (j := 5) rfl rfl) (bq_nm bk_X3_left_0 (j := 6) rfl rfl) (bq_nm bk_X3_left_0 (j := 7) rfl rfl) rfl
theorem dX3_left_8 : decode cX3_left 8 = .ok (.iconst (-1), 1) := dc_2 (bq_nm bk_X3_left_0 (j := 8) rfl rfl)
theorem dX3_left_9 : decode cX3_left 9 = .ok (.ixor, 1) := dc_130 (bq_nm bk_X3_left_0 (j := 9) rfl rfl)
theorem dX3_left_10 : decode cX3_left 10 = .ok (.iand, 1) := dc_126 (bq_nm bk_X3_left_0 (j := 10) rfl rfl)
theorem dX3_left_11 : decode cX3_left 11 = .ok (.aload_n 0, 1) := dc_42 (bq_nm bk_X3_left_0 (j := 11) rfl rfl)
theorem dX3_left_12 : decode cX3_left 12 = .ok (.getfield 56, 3) := dc_180 (bq_nm bk_X3_left_0 (j := 12) rfl rfl) (bq_nm bk_X3_left_0 (j := 13) rfl rfl) (bq_nm bk_X3_left_0 (j := 14) rfl rfl) rfl
theorem dX3_left_15 : decode cX3_left 15 = .ok (.iconst (-1), 1) := dc_2 (bq_nm bk_X3_left_0 (j := 15) rfl rfl)
theorem dX3_left_16 : decode cX3_left 16 = .ok (.ixor, 1) := dc_130 (bq_nm bk_X3_left_0 (j := 16) rfl rfl)
theorem dX3_left_17 : decode cX3_left 17 = .ok (.iand, 1) := dc_126 (bq_nm bk_X3_left_0 (j := 17) rfl rfl)
theorem dX3_left_18 : decode cX3_left 18 = .ok (.aload_n 0, 1) := dc_42 (bq_nm bk_X3_left_0 (j := 18) rfl rfl)
theorem dX3_left_19 : decode cX3_left 19 = .ok (.getfield 59, 3) := dc_180 (bq_nm bk_X3_left_0 (j := 19) rfl rfl) (bq_nm bk_X3_left_0 (j := 20) rfl rfl) (bq_nm bk_X3_left_0 (j := 21) rfl rfl) rfl
theorem dX3_left_22 : decode cX3_left 22 = .ok (.iconst (-1), 1) := dc_2 (bq_nm bk_X3_left_0 (j := 22) rfl rfl)
theorem dX3_left_23 : decode cX3_left 23 = .ok (.ixor, 1) := dc_130 (bq_nm bk_X3_left_0 (j := 23) rfl rfl)
theorem dX3_left_24 : decode cX3_left 24 = .ok (.iand, 1) := dc_126 (bq_nm bk_X3_left_0 (j := 24) rfl rfl)
theorem dX3_left_25 : decode cX3_left 25 = .ok (.ireturn, 1) := dc_172 (bq_nm bk_X3_left_0 (j := 25) rfl rfl)
set_option maxRecDepth 20000 in
theorem bk_X3_leastLiked_0 : ((cX3_leastLiked.data.toList.drop 0).take 32).length = 32 ∧ eN (((cX3_leastLiked.data.toList.drop 0).take 32).map UInt8.toNat) = 3203494638497169634375743519938624945278166765105381522868628138458031076866 := by decide +kernel
theorem dX3_leastLiked_0 : decode cX3_leastLiked 0 = .ok (.iconst (-1), 1) := dc_2 (bq_nm bk_X3_leastLiked_0 (j := 0) rfl rfl)
theorem dX3_leastLiked_1 : decode cX3_leastLiked 1 = .ok (.istore 4, 2) := dc_54 (bq_nm bk_X3_leastLiked_0 (j := 1) rfl rfl) (bq_nm bk_X3_leastLiked_0 (j := 2) rfl rfl)
theorem dX3_leastLiked_3 : decode cX3_leastLiked 3 = .ok (.iconst 0, 1) := dc_3 (bq_nm bk_X3_leastLiked_0 (j := 3) rfl rfl)
theorem dX3_leastLiked_4 : decode cX3_leastLiked 4 = .ok (.istore 5, 2) := dc_54 (bq_nm bk_X3_leastLiked_0 (j := 4) rfl rfl) (bq_nm bk_X3_leastLiked_0 (j := 5) rfl rfl)
theorem dX3_leastLiked_6 : decode cX3_leastLiked 6 = .ok (.iconst 0, 1) := dc_3 (bq_nm bk_X3_leastLiked_0 (j := 6) rfl rfl)
theorem dX3_leastLiked_7 : decode cX3_leastLiked 7 = .ok (.istore 6, 2) := dc_54 (bq_nm bk_X3_leastLiked_0 (j := 7) rfl rfl) (bq_nm bk_X3_leastLiked_0 (j := 8) rfl rfl)
theorem dX3_leastLiked_9 : decode cX3_leastLiked 9 = .ok (.iload 6, 2) := dc_21 (bq_nm bk_X3_leastLiked_0 (j := 9) rfl rfl) (bq_nm bk_X3_leastLiked_0 (j := 10) rfl rfl)
theorem dX3_leastLiked_11 : decode cX3_leastLiked 11 = .ok (.aload_n 0, 1) := dc_42 (bq_nm bk_X3_leastLiked_0 (j := 11) rfl rfl)
theorem dX3_leastLiked_12 : decode cX3_leastLiked 12 = .ok (.getfield 22, 3) := dc_180 (bq_nm bk_X3_leastLiked_0 (j := 12) rfl rfl) (bq_nm bk_X3_leastLiked_0 (j := 13) rfl rfl) (bq_nm bk_X3_leastLiked_0 (j := 14) rfl rfl) rfl
theorem dX3_leastLiked_15 : decode cX3_leastLiked 15 = .ok (.if_icmp .ge 60, 3) := dc_162 (bq_nm bk_X3_leastLiked_0 (j := 15) rfl rfl) (bq_nm bk_X3_leastLiked_0 (j := 16) rfl rfl) (bq_nm bk_X3_leastLiked_0 (j := 17) rfl rfl) rfl
theorem dX3_leastLiked_18 : decode cX3_leastLiked 18 = .ok (.aload_n 0, 1) := dc_42 (bq_nm bk_X3_leastLiked_0 (j := 18) rfl rfl)
theorem dX3_leastLiked_19 : decode cX3_leastLiked 19 = .ok (.getfield 9, 3) := dc_180 (bq_nm bk_X3_leastLiked_0 (j := 19) rfl rfl) (bq_nm bk_X3_leastLiked_0 (j := 20) rfl rfl) (bq_nm bk_X3_leastLiked_0 (j := 21) rfl rfl) rfl
theorem dX3_leastLiked_22 : decode cX3_leastLiked 22 = .ok (.iload 6, 2) := dc_21 (bq_nm bk_X3_leastLiked_0 (j := 22) rfl rfl) (bq_nm bk_X3_leastLiked_0 (j := 23) rfl rfl)
theorem dX3_leastLiked_24 : decode cX3_leastLiked 24 = .ok (.iaload, 1) := dc_46 (bq_nm bk_X3_leastLiked_0 (j := 24) rfl rfl)
theorem dX3_leastLiked_25 : decode cX3_leastLiked 25 = .ok (.istore 7, 2) := dc_54 (bq_nm bk_X3_leastLiked_0 (j := 25) rfl rfl) (bq_nm bk_X3_leastLiked_0 (j := 26) rfl rfl)
theorem dX3_leastLiked_27 : decode cX3_leastLiked 27 = .ok (.aload_n 1, 1) := dc_43 (bq_nm bk_X3_leastLiked_0 (j := 27) rfl rfl)
theorem dX3_leastLiked_28 : decode cX3_leastLiked 28 = .ok (.iload_n 2, 1) := dc_28 (bq_nm bk_X3_leastLiked_0 (j := 28) rfl rfl)
theorem dX3_leastLiked_29 : decode cX3_leastLiked 29 = .ok (.iload_n 3, 1) := dc_29 (bq_nm bk_X3_leastLiked_0 (j := 29) rfl rfl)
theorem dX3_leastLiked_30 : decode cX3_leastLiked 30 = .ok (.iload 7, 2) := dc_21 (bq_nm bk_X3_leastLiked_0 (j := 30) rfl rfl) (bq_nm bk_X3_leastLiked_0 (j := 31) rfl rfl)
set_option maxRecDepth 20000 in
theorem bk_X3_leastLiked_32 : ((cX3_leastLiked.data.toList.drop 32).take 32).length = 32 ∧ eN (((cX3_leastLiked.data.toList.drop 32).take 32).map UInt8.toNat) = 1816691694791386156579941512212534788505468969899755624320701835761254793400 := by decide +kernel
theorem dX3_leastLiked_32 : decode cX3_leastLiked 32 = .ok (.invokestatic 66, 3) := dc_184 (bq_nm bk_X3_leastLiked_32 (j := 0) rfl rfl) (bq_nm bk_X3_leastLiked_32 (j := 1) rfl rfl) (bq_nm bk_X3_leastLiked_32 (j := 2) rfl rfl) rfl
theorem dX3_leastLiked_35 : decode cX3_leastLiked 35 = .ok (.invokevirtual 48, 3) := dc_182 (bq_nm bk_X3_leastLiked_32 (j := 3) rfl rfl) (bq_nm bk_X3_leastLiked_32 (j := 4) rfl rfl) (bq_nm bk_X3_leastLiked_32 (j := 5) rfl rfl) rfl
theorem dX3_leastLiked_38 : decode cX3_leastLiked 38 = .ok (.istore 8, 2) := dc_54 (bq_nm bk_X3_leastLiked_32 (j := 6) rfl rfl) (bq_nm bk_X3_leastLiked_32 (j := 7) rfl rfl)
theorem dX3_leastLiked_40 : decode cX3_leastLiked 40 = .ok (.aload_n 0, 1) := dc_42 (bq_nm bk_X3_leastLiked_32 (j := 8) rfl rfl)
theorem dX3_leastLiked_41 : decode cX3_leastLiked 41 = .ok (.invokevirtual 69, 3) := dc_182 (bq_nm bk_X3_leastLiked_32 (j := 9) rfl rfl) (bq_nm bk_X3_leastLiked_32 (j := 10) rfl rfl) (bq_nm bk_X3_leastLiked_32 (j := 11) rfl rfl) rfl
theorem dX3_leastLiked_44 : decode cX3_leastLiked 44 = .ok (.iload 7, 2) := dc_21 (bq_nm bk_X3_leastLiked_32 (j := 12) rfl rfl) (bq_nm bk_X3_leastLiked_32 (j := 13) rfl rfl)
theorem dX3_leastLiked_46 : decode cX3_leastLiked 46 = .ok (.invokestatic 44, 3) := dc_184 (bq_nm bk_X3_leastLiked_32 (j := 14) rfl rfl) (bq_nm bk_X3_leastLiked_32 (j := 15) rfl rfl) (bq_nm bk_X3_leastLiked_32 (j := 16) rfl rfl) rfl
theorem dX3_leastLiked_49 : decode cX3_leastLiked 49 = .ok (.ifCond .eq 20, 3) := dc_153 (bq_nm bk_X3_leastLiked_32 (j := 17) rfl rfl) (bq_nm bk_X3_leastLiked_32 (j := 18) rfl rfl) (bq_nm bk_X3_leastLiked_32 (j := 19) rfl rfl) rfl
theorem dX3_leastLiked_52 : decode cX3_leastLiked 52 = .ok (.iload 8, 2) := dc_21 (bq_nm bk_X3_leastLiked_32 (j := 20) rfl rfl) (bq_nm bk_X3_leastLiked_32 (j := 21) rfl rfl)
theorem dX3_leastLiked_54 : decode cX3_leastLiked 54 = .ok (.iload 4, 2) := dc_21 (bq_nm bk_X3_leastLiked_32 (j := 22) rfl rfl) (bq_nm bk_X3_leastLiked_32 (j := 23) rfl rfl)
theorem dX3_leastLiked_56 : decode cX3_leastLiked 56 = .ok (.if_icmp .gt 13, 3) := dc_163 (bq_nm bk_X3_leastLiked_32 (j := 24) rfl rfl) (bq_nm bk_X3_leastLiked_32 (j := 25) rfl rfl) (bq_nm bk_X3_leastLiked_32 (j := 26) rfl rfl) rfl
theorem dX3_leastLiked_59 : decode cX3_leastLiked 59 = .ok (.iload 8, 2) := dc_21 (bq_nm bk_X3_leastLiked_32 (j := 27) rfl rfl) (bq_nm bk_X3_leastLiked_32 (j := 28) rfl rfl)
theorem dX3_leastLiked_61 : decode cX3_leastLiked 61 = .ok (.istore 4, 2) := dc_54 (bq_nm bk_X3_leastLiked_32 (j := 29) rfl rfl) (bq_nm bk_X3_leastLiked_32 (j := 30) rfl rfl)
theorem dX3_leastLiked_63 : decode cX3_leastLiked 63 = .ok (.iconst 1, 1) := dc_4 (bq_nm bk_X3_leastLiked_32 (j := 31) rfl rfl)
set_option maxRecDepth 20000 in
theorem bk_X3_leastLiked_64 : ((cX3_leastLiked.data.toList.drop 64).take 14).length = 14 ∧ eN (((cX3_leastLiked.data.toList.drop 64).take 14).map UInt8.toNat) = 3488977326355832201760439725983509 := by decide +kernel
theorem dX3_leastLiked_64 : decode cX3_leastLiked 64 = .ok (.iload 7, 2) := dc_21 (bq_nm bk_X3_leastLiked_64 (j := 0) rfl rfl) (bq_nm bk_X3_leastLiked_64 (j := 1) rfl rfl)
theorem dX3_leastLiked_66 : decode cX3_leastLiked 66 = .ok (.ishl, 1) := dc_120 (bq_nm bk_X3_leastLiked_64 (j := 2) rfl rfl)
theorem dX3_leastLiked_67 : decode cX3_leastLiked 67 = .ok (.istore 5, 2) := dc_54 (bq_nm bk_X3_leastLiked_64 (j := 3) rfl rfl) (bq_nm bk_X3_leastLiked_64 (j := 4) rfl rfl)
theorem dX3_leastLiked_69 : decode cX3_leastLiked 69 = .ok (.iinc 6 1, 3) := dc_132 (bq_nm bk_X3_leastLiked_64 (j := 5) rfl rfl) (bq_nm bk_X3_leastLiked_64 (j := 6) rfl rfl) (bq_nm bk_X3_leastLiked_64 (j := 7) rfl rfl) rfl
theorem dX3_leastLiked_72 : decode cX3_leastLiked 72 = .ok (.goto (-63), 3) := dc_167 (bq_nm bk_X3_leastLiked_64 (j := 8) rfl rfl) (bq_nm bk_X3_leastLiked_64 (j := 9) rfl rfl) (bq_nm bk_X3_leastLiked_64 (j := 10) rfl rfl) rfl
theorem dX3_leastLiked_75 : decode cX3_leastLiked 75 = .ok (.iload 5, 2) := dc_21 (bq_nm bk_X3_leastLiked_64 (j := 11) rfl rfl) (bq_nm bk_X3_leastLiked_64 (j := 12) rfl rfl)
theorem dX3_leastLiked_77 : decode cX3_leastLiked 77 = .ok (.ireturn, 1) := dc_172 (bq_nm bk_X3_leastLiked_64 (j := 13) rfl rfl)
set_option maxRecDepth 20000 in
theorem bk_X3_seat_0 : ((cX3_seat.data.toList.drop 0).take 32).length = 32 ∧ eN (((cX3_seat.data.toList.drop 0).take 32).map UInt8.toNat) = 19126124338406532030262017799106095852217801478933980927612326645561493357354 := by decide +kernel
theorem dX3_seat_0 : decode cX3_seat 0 = .ok (.aload_n 0, 1) := dc_42 (bq_nm bk_X3_seat_0 (j := 0) rfl rfl)
theorem dX3_seat_1 : decode cX3_seat 1 = .ok (.iconst 0, 1) := dc_3 (bq_nm bk_X3_seat_0 (j := 1) rfl rfl)
theorem dX3_seat_2 : decode cX3_seat 2 = .ok (.putfield 73, 3) := dc_181 (bq_nm bk_X3_seat_0 (j := 2) rfl rfl) (bq_nm bk_X3_seat_0 (j := 3) rfl rfl) (bq_nm bk_X3_seat_0 (j := 4) rfl rfl) rfl
theorem dX3_seat_5 : decode cX3_seat 5 = .ok (.iconst 0, 1) := dc_3 (bq_nm bk_X3_seat_0 (j := 5) rfl rfl)
theorem dX3_seat_6 : decode cX3_seat 6 = .ok (.istore_n 3, 1) := dc_62 (bq_nm bk_X3_seat_0 (j := 6) rfl rfl)
theorem dX3_seat_7 : decode cX3_seat 7 = .ok (.iload_n 3, 1) := dc_29 (bq_nm bk_X3_seat_0 (j := 7) rfl rfl)
theorem dX3_seat_8 : decode cX3_seat 8 = .ok (.aload_n 0, 1) := dc_42 (bq_nm bk_X3_seat_0 (j := 8) rfl rfl)
theorem dX3_seat_9 : decode cX3_seat 9 = .ok (.getfield 22, 3) := dc_180 (bq_nm bk_X3_seat_0 (j := 9) rfl rfl) (bq_nm bk_X3_seat_0 (j := 10) rfl rfl) (bq_nm bk_X3_seat_0 (j := 11) rfl rfl) rfl
theorem dX3_seat_12 : decode cX3_seat 12 = .ok (.if_icmp .ge 42, 3) := dc_162 (bq_nm bk_X3_seat_0 (j := 12) rfl rfl) (bq_nm bk_X3_seat_0 (j := 13) rfl rfl) (bq_nm bk_X3_seat_0 (j := 14) rfl rfl) rfl
theorem dX3_seat_15 : decode cX3_seat 15 = .ok (.aload_n 0, 1) := dc_42 (bq_nm bk_X3_seat_0 (j := 15) rfl rfl)
theorem dX3_seat_16 : decode cX3_seat 16 = .ok (.getfield 73, 3) := dc_180 (bq_nm bk_X3_seat_0 (j := 16) rfl rfl) (bq_nm bk_X3_seat_0 (j := 17) rfl rfl) (bq_nm bk_X3_seat_0 (j := 18) rfl rfl) rfl
theorem dX3_seat_19 : decode cX3_seat 19 = .ok (.invokestatic 28, 3) := dc_184 (bq_nm bk_X3_seat_0 (j := 19) rfl rfl) (bq_nm bk_X3_seat_0 (j := 20) rfl rfl) (bq_nm bk_X3_seat_0 (j := 21) rfl rfl) rfl
theorem dX3_seat_22 : decode cX3_seat 22 = .ok (.iload_n 1, 1) := dc_27 (bq_nm bk_X3_seat_0 (j := 22) rfl rfl)
theorem dX3_seat_23 : decode cX3_seat 23 = .ok (.if_icmp .ge 31, 3) := dc_162 (bq_nm bk_X3_seat_0 (j := 23) rfl rfl) (bq_nm bk_X3_seat_0 (j := 24) rfl rfl) (bq_nm bk_X3_seat_0 (j := 25) rfl rfl) rfl
theorem dX3_seat_26 : decode cX3_seat 26 = .ok (.aload_n 0, 1) := dc_42 (bq_nm bk_X3_seat_0 (j := 26) rfl rfl)
theorem dX3_seat_27 : decode cX3_seat 27 = .ok (.dup, 1) := dc_89 (bq_nm bk_X3_seat_0 (j := 27) rfl rfl)
theorem dX3_seat_28 : decode cX3_seat 28 = .ok (.getfield 73, 3) := dc_180 (bq_nm bk_X3_seat_0 (j := 28) rfl rfl) (bq_nm bk_X3_seat_0 (j := 29) rfl rfl) (bq_nm bk_X3_seat_0 (j := 30) rfl rfl) rfl
theorem dX3_seat_31 : decode cX3_seat 31 = .ok (.aload_n 0, 1) := dc_42 (bq_nm bk_X3_seat_0 (j := 31) rfl rfl)
set_option maxRecDepth 20000 in
theorem bk_X3_seat_32 : ((cX3_seat.data.toList.drop 32).take 31).length = 31 ∧ eN (((cX3_seat.data.toList.drop 32).take 31).map UInt8.toNat) = 74442253169441450062705648873630482405089175773219101315477465042654658742 := by decide +kernel
theorem dX3_seat_32 : decode cX3_seat 32 = .ok (.invokevirtual 69, 3) := dc_182 (bq_nm bk_X3_seat_32 (j := 0) rfl rfl) (bq_nm bk_X3_seat_32 (j := 1) rfl rfl) (bq_nm bk_X3_seat_32 (j := 2) rfl rfl) rfl
theorem dX3_seat_35 : decode cX3_seat 35 = .ok (.iconst 1, 1) := dc_4 (bq_nm bk_X3_seat_32 (j := 3) rfl rfl)
theorem dX3_seat_36 : decode cX3_seat 36 = .ok (.aload_n 0, 1) := dc_42 (bq_nm bk_X3_seat_32 (j := 4) rfl rfl)
theorem dX3_seat_37 : decode cX3_seat 37 = .ok (.getfield 9, 3) := dc_180 (bq_nm bk_X3_seat_32 (j := 5) rfl rfl) (bq_nm bk_X3_seat_32 (j := 6) rfl rfl) (bq_nm bk_X3_seat_32 (j := 7) rfl rfl) rfl
theorem dX3_seat_40 : decode cX3_seat 40 = .ok (.iload_n 3, 1) := dc_29 (bq_nm bk_X3_seat_32 (j := 8) rfl rfl)
theorem dX3_seat_41 : decode cX3_seat 41 = .ok (.iaload, 1) := dc_46 (bq_nm bk_X3_seat_32 (j := 9) rfl rfl)
theorem dX3_seat_42 : decode cX3_seat 42 = .ok (.ishl, 1) := dc_120 (bq_nm bk_X3_seat_32 (j := 10) rfl rfl)
theorem dX3_seat_43 : decode cX3_seat 43 = .ok (.iand, 1) := dc_126 (bq_nm bk_X3_seat_32 (j := 11) rfl rfl)
theorem dX3_seat_44 : decode cX3_seat 44 = .ok (.ior, 1) := dc_128 (bq_nm bk_X3_seat_32 (j := 12) rfl rfl)
theorem dX3_seat_45 : decode cX3_seat 45 = .ok (.putfield 73, 3) := dc_181 (bq_nm bk_X3_seat_32 (j := 13) rfl rfl) (bq_nm bk_X3_seat_32 (j := 14) rfl rfl) (bq_nm bk_X3_seat_32 (j := 15) rfl rfl) rfl
theorem dX3_seat_48 : decode cX3_seat 48 = .ok (.iinc 3 1, 3) := dc_132 (bq_nm bk_X3_seat_32 (j := 16) rfl rfl) (bq_nm bk_X3_seat_32 (j := 17) rfl rfl) (bq_nm bk_X3_seat_32 (j := 18) rfl rfl) rfl
theorem dX3_seat_51 : decode cX3_seat 51 = .ok (.goto (-44), 3) := dc_167 (bq_nm bk_X3_seat_32 (j := 19) rfl rfl) (bq_nm bk_X3_seat_32 (j := 20) rfl rfl) (bq_nm bk_X3_seat_32 (j := 21) rfl rfl) rfl
theorem dX3_seat_54 : decode cX3_seat 54 = .ok (.iconst 0, 1) := dc_3 (bq_nm bk_X3_seat_32 (j := 22) rfl rfl)
theorem dX3_seat_55 : decode cX3_seat 55 = .ok (.istore_n 3, 1) := dc_62 (bq_nm bk_X3_seat_32 (j := 23) rfl rfl)
theorem dX3_seat_56 : decode cX3_seat 56 = .ok (.iload_n 3, 1) := dc_29 (bq_nm bk_X3_seat_32 (j := 24) rfl rfl)
theorem dX3_seat_57 : decode cX3_seat 57 = .ok (.bipush 30, 2) := dc_16 (bq_nm bk_X3_seat_32 (j := 25) rfl rfl) (bq_nm bk_X3_seat_32 (j := 26) rfl rfl) rfl
theorem dX3_seat_59 : decode cX3_seat 59 = .ok (.if_icmp .ge 34, 3) := dc_162 (bq_nm bk_X3_seat_32 (j := 27) rfl rfl) (bq_nm bk_X3_seat_32 (j := 28) rfl rfl) (bq_nm bk_X3_seat_32 (j := 29) rfl rfl) rfl
theorem dX3_seat_62 : decode cX3_seat 62 = .ok (.aload_n 0, 1) := dc_42 (bq_nm bk_X3_seat_32 (j := 30) rfl rfl)
set_option maxRecDepth 20000 in
theorem bk_X3_seat_63 : ((cX3_seat.data.toList.drop 63).take 31).length = 31 ∧ eN (((cX3_seat.data.toList.drop 63).take 31).map UInt8.toNat) = 75746656783649506386421678662458668838489792240137143273509840720849600692 := by decide +kernel
theorem dX3_seat_63 : decode cX3_seat 63 = .ok (.getfield 73, 3) := dc_180 (bq_nm bk_X3_seat_63 (j := 0) rfl rfl) (bq_nm bk_X3_seat_63 (j := 1) rfl rfl) (bq_nm bk_X3_seat_63 (j := 2) rfl rfl) rfl
theorem dX3_seat_66 : decode cX3_seat 66 = .ok (.invokestatic 28, 3) := dc_184 (bq_nm bk_X3_seat_63 (j := 3) rfl rfl) (bq_nm bk_X3_seat_63 (j := 4) rfl rfl) (bq_nm bk_X3_seat_63 (j := 5) rfl rfl) rfl
theorem dX3_seat_69 : decode cX3_seat 69 = .ok (.iload_n 1, 1) := dc_27 (bq_nm bk_X3_seat_63 (j := 6) rfl rfl)
theorem dX3_seat_70 : decode cX3_seat 70 = .ok (.if_icmp .ge 23, 3) := dc_162 (bq_nm bk_X3_seat_63 (j := 7) rfl rfl) (bq_nm bk_X3_seat_63 (j := 8) rfl rfl) (bq_nm bk_X3_seat_63 (j := 9) rfl rfl) rfl
theorem dX3_seat_73 : decode cX3_seat 73 = .ok (.aload_n 0, 1) := dc_42 (bq_nm bk_X3_seat_63 (j := 10) rfl rfl)
theorem dX3_seat_74 : decode cX3_seat 74 = .ok (.dup, 1) := dc_89 (bq_nm bk_X3_seat_63 (j := 11) rfl rfl)
theorem dX3_seat_75 : decode cX3_seat 75 = .ok (.getfield 73, 3) := dc_180 (bq_nm bk_X3_seat_63 (j := 12) rfl rfl) (bq_nm bk_X3_seat_63 (j := 13) rfl rfl) (bq_nm bk_X3_seat_63 (j := 14) rfl rfl) rfl
theorem dX3_seat_78 : decode cX3_seat 78 = .ok (.iload_n 2, 1) := dc_28 (bq_nm bk_X3_seat_63 (j := 15) rfl rfl)
theorem dX3_seat_79 : decode cX3_seat 79 = .ok (.iconst 1, 1) := dc_4 (bq_nm bk_X3_seat_63 (j := 16) rfl rfl)
theorem dX3_seat_80 : decode cX3_seat 80 = .ok (.iload_n 3, 1) := dc_29 (bq_nm bk_X3_seat_63 (j := 17) rfl rfl)
theorem dX3_seat_81 : decode cX3_seat 81 = .ok (.ishl, 1) := dc_120 (bq_nm bk_X3_seat_63 (j := 18) rfl rfl)
theorem dX3_seat_82 : decode cX3_seat 82 = .ok (.iand, 1) := dc_126 (bq_nm bk_X3_seat_63 (j := 19) rfl rfl)
theorem dX3_seat_83 : decode cX3_seat 83 = .ok (.ior, 1) := dc_128 (bq_nm bk_X3_seat_63 (j := 20) rfl rfl)
theorem dX3_seat_84 : decode cX3_seat 84 = .ok (.putfield 73, 3) := dc_181 (bq_nm bk_X3_seat_63 (j := 21) rfl rfl) (bq_nm bk_X3_seat_63 (j := 22) rfl rfl) (bq_nm bk_X3_seat_63 (j := 23) rfl rfl) rfl
theorem dX3_seat_87 : decode cX3_seat 87 = .ok (.iinc 3 1, 3) := dc_132 (bq_nm bk_X3_seat_63 (j := 24) rfl rfl) (bq_nm bk_X3_seat_63 (j := 25) rfl rfl) (bq_nm bk_X3_seat_63 (j := 26) rfl rfl) rfl
theorem dX3_seat_90 : decode cX3_seat 90 = .ok (.goto (-34), 3) := dc_167 (bq_nm bk_X3_seat_63 (j := 27) rfl rfl) (bq_nm bk_X3_seat_63 (j := 28) rfl rfl) (bq_nm bk_X3_seat_63 (j := 29) rfl rfl) rfl
theorem dX3_seat_93 : decode cX3_seat 93 = .ok (.aload_n 0, 1) := dc_42 (bq_nm bk_X3_seat_63 (j := 30) rfl rfl)
set_option maxRecDepth 20000 in
theorem bk_X3_seat_94 : ((cX3_seat.data.toList.drop 94).take 16).length = 16 ∧ eN (((cX3_seat.data.toList.drop 94).take 16).map UInt8.toNat) = 235652407265879834707202353769715663028 := by decide +kernel
theorem dX3_seat_94 : decode cX3_seat 94 = .ok (.getfield 73, 3) := dc_180 (bq_nm bk_X3_seat_94 (j := 0) rfl rfl) (bq_nm bk_X3_seat_94 (j := 1) rfl rfl) (bq_nm bk_X3_seat_94 (j := 2) rfl rfl) rfl
theorem dX3_seat_97 : decode cX3_seat 97 = .ok (.invokestatic 28, 3) := dc_184 (bq_nm bk_X3_seat_94 (j := 3) rfl rfl) (bq_nm bk_X3_seat_94 (j := 4) rfl rfl) (bq_nm bk_X3_seat_94 (j := 5) rfl rfl) rfl
theorem dX3_seat_100 : decode cX3_seat 100 = .ok (.iload_n 1, 1) := dc_27 (bq_nm bk_X3_seat_94 (j := 6) rfl rfl)
theorem dX3_seat_101 : decode cX3_seat 101 = .ok (.if_icmp .ge 8, 3) := dc_162 (bq_nm bk_X3_seat_94 (j := 7) rfl rfl) (bq_nm bk_X3_seat_94 (j := 8) rfl rfl) (bq_nm bk_X3_seat_94 (j := 9) rfl rfl) rfl
theorem dX3_seat_104 : decode cX3_seat 104 = .ok (.aload_n 0, 1) := dc_42 (bq_nm bk_X3_seat_94 (j := 10) rfl rfl)
theorem dX3_seat_105 : decode cX3_seat 105 = .ok (.iconst 0, 1) := dc_3 (bq_nm bk_X3_seat_94 (j := 11) rfl rfl)
theorem dX3_seat_106 : decode cX3_seat 106 = .ok (.putfield 73, 3) := dc_181 (bq_nm bk_X3_seat_94 (j := 12) rfl rfl) (bq_nm bk_X3_seat_94 (j := 13) rfl rfl) (bq_nm bk_X3_seat_94 (j := 14) rfl rfl) rfl
theorem dX3_seat_109 : decode cX3_seat 109 = .ok (.return_, 1) := dc_177 (bq_nm bk_X3_seat_94 (j := 15) rfl rfl)
set_option maxRecDepth 20000 in
theorem bk_X3_slipAt_0 : ((cX3_slipAt.data.toList.drop 0).take 23).length = 23 ∧ eN (((cX3_slipAt.data.toList.drop 0).take 23).map UInt8.toNat) = 16475081202881408786156111671650539790981581653393054491 := by decide +kernel
theorem dX3_slipAt_0 : decode cX3_slipAt 0 = .ok (.iload_n 1, 1) := dc_27 (bq_nm bk_X3_slipAt_0 (j := 0) rfl rfl)
theorem dX3_slipAt_1 : decode cX3_slipAt 1 = .ok (.ifCond .lt 20, 3) := dc_155 (bq_nm bk_X3_slipAt_0 (j := 1) rfl rfl) (bq_nm bk_X3_slipAt_0 (j := 2) rfl rfl) (bq_nm bk_X3_slipAt_0 (j := 3) rfl rfl) rfl
theorem dX3_slipAt_4 : decode cX3_slipAt 4 = .ok (.iload_n 1, 1) := dc_27 (bq_nm bk_X3_slipAt_0 (j := 4) rfl rfl)
theorem dX3_slipAt_5 : decode cX3_slipAt 5 = .ok (.aload_n 0, 1) := dc_42 (bq_nm bk_X3_slipAt_0 (j := 5) rfl rfl)
theorem dX3_slipAt_6 : decode cX3_slipAt 6 = .ok (.getfield 22, 3) := dc_180 (bq_nm bk_X3_slipAt_0 (j := 6) rfl rfl) (bq_nm bk_X3_slipAt_0 (j := 7) rfl rfl) (bq_nm bk_X3_slipAt_0 (j := 8) rfl rfl) rfl
theorem dX3_slipAt_9 : decode cX3_slipAt 9 = .ok (.if_icmp .ge 12, 3) := dc_162 (bq_nm bk_X3_slipAt_0 (j := 9) rfl rfl) (bq_nm bk_X3_slipAt_0 (j := 10) rfl rfl) (bq_nm bk_X3_slipAt_0 (j := 11) rfl rfl) rfl
theorem dX3_slipAt_12 : decode cX3_slipAt 12 = .ok (.aload_n 0, 1) := dc_42 (bq_nm bk_X3_slipAt_0 (j := 12) rfl rfl)
theorem dX3_slipAt_13 : decode cX3_slipAt 13 = .ok (.getfield 9, 3) := dc_180 (bq_nm bk_X3_slipAt_0 (j := 13) rfl rfl) (bq_nm bk_X3_slipAt_0 (j := 14) rfl rfl) (bq_nm bk_X3_slipAt_0 (j := 15) rfl rfl) rfl
theorem dX3_slipAt_16 : decode cX3_slipAt 16 = .ok (.iload_n 1, 1) := dc_27 (bq_nm bk_X3_slipAt_0 (j := 16) rfl rfl)
theorem dX3_slipAt_17 : decode cX3_slipAt 17 = .ok (.iaload, 1) := dc_46 (bq_nm bk_X3_slipAt_0 (j := 17) rfl rfl)
theorem dX3_slipAt_18 : decode cX3_slipAt 18 = .ok (.goto 4, 3) := dc_167 (bq_nm bk_X3_slipAt_0 (j := 18) rfl rfl) (bq_nm bk_X3_slipAt_0 (j := 19) rfl rfl) (bq_nm bk_X3_slipAt_0 (j := 20) rfl rfl) rfl
theorem dX3_slipAt_21 : decode cX3_slipAt 21 = .ok (.iconst (-1), 1) := dc_2 (bq_nm bk_X3_slipAt_0 (j := 21) rfl rfl)
theorem dX3_slipAt_22 : decode cX3_slipAt 22 = .ok (.ireturn, 1) := dc_172 (bq_nm bk_X3_slipAt_0 (j := 22) rfl rfl)
set_option maxRecDepth 20000 in
theorem bk_X3_standing_0 : ((cX3_standing.data.toList.drop 0).take 30).length = 30 ∧ eN (((cX3_standing.data.toList.drop 0).take 30).map UInt8.toNat) = 294510774975381601274508332062793312557346431688331490524817644775846954 := by decide +kernel
theorem dX3_standing_0 : decode cX3_standing 0 = .ok (.aload_n 0, 1) := dc_42 (bq_nm bk_X3_standing_0 (j := 0) rfl rfl)
theorem dX3_standing_1 : decode cX3_standing 1 = .ok (.getfield 15, 3) := dc_180 (bq_nm bk_X3_standing_0 (j := 1) rfl rfl) (bq_nm bk_X3_standing_0 (j := 2) rfl rfl) (bq_nm bk_X3_standing_0 (j := 3) rfl rfl) rfl
theorem dX3_standing_4 : decode cX3_standing 4 = .ok (.iload_n 1, 1) := dc_27 (bq_nm bk_X3_standing_0 (j := 4) rfl rfl)
theorem dX3_standing_5 : decode cX3_standing 5 = .ok (.invokestatic 44, 3) := dc_184 (bq_nm bk_X3_standing_0 (j := 5) rfl rfl) (bq_nm bk_X3_standing_0 (j := 6) rfl rfl) (bq_nm bk_X3_standing_0 (j := 7) rfl rfl) rfl
theorem dX3_standing_8 : decode cX3_standing 8 = .ok (.ifCond .ne 21, 3) := dc_154 (bq_nm bk_X3_standing_0 (j := 8) rfl rfl) (bq_nm bk_X3_standing_0 (j := 9) rfl rfl) (bq_nm bk_X3_standing_0 (j := 10) rfl rfl) rfl
theorem dX3_standing_11 : decode cX3_standing 11 = .ok (.aload_n 0, 1) := dc_42 (bq_nm bk_X3_standing_0 (j := 11) rfl rfl)
theorem dX3_standing_12 : decode cX3_standing 12 = .ok (.getfield 73, 3) := dc_180 (bq_nm bk_X3_standing_0 (j := 12) rfl rfl) (bq_nm bk_X3_standing_0 (j := 13) rfl rfl) (bq_nm bk_X3_standing_0 (j := 14) rfl rfl) rfl
theorem dX3_standing_15 : decode cX3_standing 15 = .ok (.iload_n 1, 1) := dc_27 (bq_nm bk_X3_standing_0 (j := 15) rfl rfl)
theorem dX3_standing_16 : decode cX3_standing 16 = .ok (.invokestatic 44, 3) := dc_184 (bq_nm bk_X3_standing_0 (j := 16) rfl rfl) (bq_nm bk_X3_standing_0 (j := 17) rfl rfl) (bq_nm bk_X3_standing_0 (j := 18) rfl rfl) rfl
theorem dX3_standing_19 : decode cX3_standing 19 = .ok (.ifCond .eq 8, 3) := dc_153 (bq_nm bk_X3_standing_0 (j := 19) rfl rfl) (bq_nm bk_X3_standing_0 (j := 20) rfl rfl) (bq_nm bk_X3_standing_0 (j := 21) rfl rfl) rfl
theorem dX3_standing_22 : decode cX3_standing 22 = .ok (.bipush 7, 2) := dc_16 (bq_nm bk_X3_standing_0 (j := 22) rfl rfl) (bq_nm bk_X3_standing_0 (j := 23) rfl rfl) rfl
theorem dX3_standing_24 : decode cX3_standing 24 = .ok (.goto 4, 3) := dc_167 (bq_nm bk_X3_standing_0 (j := 24) rfl rfl) (bq_nm bk_X3_standing_0 (j := 25) rfl rfl) (bq_nm bk_X3_standing_0 (j := 26) rfl rfl) rfl
theorem dX3_standing_27 : decode cX3_standing 27 = .ok (.iconst 0, 1) := dc_3 (bq_nm bk_X3_standing_0 (j := 27) rfl rfl)
theorem dX3_standing_28 : decode cX3_standing 28 = .ok (.ireturn, 1) := dc_172 (bq_nm bk_X3_standing_0 (j := 28) rfl rfl)
theorem dX3_standing_29 : decode cX3_standing 29 = .ok (.aload_n 0, 1) := dc_42 (bq_nm bk_X3_standing_0 (j := 29) rfl rfl)
set_option maxRecDepth 20000 in
theorem bk_X3_standing_30 : ((cX3_standing.data.toList.drop 30).take 30).length = 30 ∧ eN (((cX3_standing.data.toList.drop 30).take 30).map UInt8.toNat) = 187856982492981919979647745517950565262055484405618805022496184977653940 := by decide +kernel
theorem dX3_standing_30 : decode cX3_standing 30 = .ok (.getfield 25, 3) := dc_180 (bq_nm bk_X3_standing_30 (j := 0) rfl rfl) (bq_nm bk_X3_standing_30 (j := 1) rfl rfl) (bq_nm bk_X3_standing_30 (j := 2) rfl rfl) rfl
theorem dX3_standing_33 : decode cX3_standing 33 = .ok (.iload_n 1, 1) := dc_27 (bq_nm bk_X3_standing_30 (j := 3) rfl rfl)
theorem dX3_standing_34 : decode cX3_standing 34 = .ok (.invokestatic 44, 3) := dc_184 (bq_nm bk_X3_standing_30 (j := 4) rfl rfl) (bq_nm bk_X3_standing_30 (j := 5) rfl rfl) (bq_nm bk_X3_standing_30 (j := 6) rfl rfl) rfl
theorem dX3_standing_37 : decode cX3_standing 37 = .ok (.ifCond .ne 5, 3) := dc_154 (bq_nm bk_X3_standing_30 (j := 7) rfl rfl) (bq_nm bk_X3_standing_30 (j := 8) rfl rfl) (bq_nm bk_X3_standing_30 (j := 9) rfl rfl) rfl
theorem dX3_standing_40 : decode cX3_standing 40 = .ok (.iconst 1, 1) := dc_4 (bq_nm bk_X3_standing_30 (j := 10) rfl rfl)
theorem dX3_standing_41 : decode cX3_standing 41 = .ok (.ireturn, 1) := dc_172 (bq_nm bk_X3_standing_30 (j := 11) rfl rfl)
theorem dX3_standing_42 : decode cX3_standing 42 = .ok (.aload_n 0, 1) := dc_42 (bq_nm bk_X3_standing_30 (j := 12) rfl rfl)
theorem dX3_standing_43 : decode cX3_standing 43 = .ok (.getfield 53, 3) := dc_180 (bq_nm bk_X3_standing_30 (j := 13) rfl rfl) (bq_nm bk_X3_standing_30 (j := 14) rfl rfl) (bq_nm bk_X3_standing_30 (j := 15) rfl rfl) rfl
theorem dX3_standing_46 : decode cX3_standing 46 = .ok (.iload_n 1, 1) := dc_27 (bq_nm bk_X3_standing_30 (j := 16) rfl rfl)
theorem dX3_standing_47 : decode cX3_standing 47 = .ok (.invokestatic 44, 3) := dc_184 (bq_nm bk_X3_standing_30 (j := 17) rfl rfl) (bq_nm bk_X3_standing_30 (j := 18) rfl rfl) (bq_nm bk_X3_standing_30 (j := 19) rfl rfl) rfl
theorem dX3_standing_50 : decode cX3_standing 50 = .ok (.ifCond .eq 5, 3) := dc_153 (bq_nm bk_X3_standing_30 (j := 20) rfl rfl) (bq_nm bk_X3_standing_30 (j := 21) rfl rfl) (bq_nm bk_X3_standing_30 (j := 22) rfl rfl) rfl
theorem dX3_standing_53 : decode cX3_standing 53 = .ok (.iconst 2, 1) := dc_5 (bq_nm bk_X3_standing_30 (j := 23) rfl rfl)
theorem dX3_standing_54 : decode cX3_standing 54 = .ok (.ireturn, 1) := dc_172 (bq_nm bk_X3_standing_30 (j := 24) rfl rfl)
theorem dX3_standing_55 : decode cX3_standing 55 = .ok (.aload_n 0, 1) := dc_42 (bq_nm bk_X3_standing_30 (j := 25) rfl rfl)
theorem dX3_standing_56 : decode cX3_standing 56 = .ok (.getfield 56, 3) := dc_180 (bq_nm bk_X3_standing_30 (j := 26) rfl rfl) (bq_nm bk_X3_standing_30 (j := 27) rfl rfl) (bq_nm bk_X3_standing_30 (j := 28) rfl rfl) rfl
theorem dX3_standing_59 : decode cX3_standing 59 = .ok (.iload_n 1, 1) := dc_27 (bq_nm bk_X3_standing_30 (j := 29) rfl rfl)
set_option maxRecDepth 20000 in
theorem bk_X3_standing_60 : ((cX3_standing.data.toList.drop 60).take 32).length = 32 ∧ eN (((cX3_standing.data.toList.drop 60).take 32).map UInt8.toNat) = 3167247093587314084710551298549868113191046327420130549870500940878495613112 := by decide +kernel
theorem dX3_standing_60 : decode cX3_standing 60 = .ok (.invokestatic 44, 3) := dc_184 (bq_nm bk_X3_standing_60 (j := 0) rfl rfl) (bq_nm bk_X3_standing_60 (j := 1) rfl rfl) (bq_nm bk_X3_standing_60 (j := 2) rfl rfl) rfl
theorem dX3_standing_63 : decode cX3_standing 63 = .ok (.ifCond .eq 5, 3) := dc_153 (bq_nm bk_X3_standing_60 (j := 3) rfl rfl) (bq_nm bk_X3_standing_60 (j := 4) rfl rfl) (bq_nm bk_X3_standing_60 (j := 5) rfl rfl) rfl
theorem dX3_standing_66 : decode cX3_standing 66 = .ok (.iconst 3, 1) := dc_6 (bq_nm bk_X3_standing_60 (j := 6) rfl rfl)
theorem dX3_standing_67 : decode cX3_standing 67 = .ok (.ireturn, 1) := dc_172 (bq_nm bk_X3_standing_60 (j := 7) rfl rfl)
theorem dX3_standing_68 : decode cX3_standing 68 = .ok (.aload_n 0, 1) := dc_42 (bq_nm bk_X3_standing_60 (j := 8) rfl rfl)
theorem dX3_standing_69 : decode cX3_standing 69 = .ok (.getfield 59, 3) := dc_180 (bq_nm bk_X3_standing_60 (j := 9) rfl rfl) (bq_nm bk_X3_standing_60 (j := 10) rfl rfl) (bq_nm bk_X3_standing_60 (j := 11) rfl rfl) rfl
theorem dX3_standing_72 : decode cX3_standing 72 = .ok (.iload_n 1, 1) := dc_27 (bq_nm bk_X3_standing_60 (j := 12) rfl rfl)
theorem dX3_standing_73 : decode cX3_standing 73 = .ok (.invokestatic 44, 3) := dc_184 (bq_nm bk_X3_standing_60 (j := 13) rfl rfl) (bq_nm bk_X3_standing_60 (j := 14) rfl rfl) (bq_nm bk_X3_standing_60 (j := 15) rfl rfl) rfl
theorem dX3_standing_76 : decode cX3_standing 76 = .ok (.ifCond .eq 5, 3) := dc_153 (bq_nm bk_X3_standing_60 (j := 16) rfl rfl) (bq_nm bk_X3_standing_60 (j := 17) rfl rfl) (bq_nm bk_X3_standing_60 (j := 18) rfl rfl) rfl
theorem dX3_standing_79 : decode cX3_standing 79 = .ok (.iconst 4, 1) := dc_7 (bq_nm bk_X3_standing_60 (j := 19) rfl rfl)
theorem dX3_standing_80 : decode cX3_standing 80 = .ok (.ireturn, 1) := dc_172 (bq_nm bk_X3_standing_60 (j := 20) rfl rfl)
theorem dX3_standing_81 : decode cX3_standing 81 = .ok (.aload_n 0, 1) := dc_42 (bq_nm bk_X3_standing_60 (j := 21) rfl rfl)
theorem dX3_standing_82 : decode cX3_standing 82 = .ok (.getfield 73, 3) := dc_180 (bq_nm bk_X3_standing_60 (j := 22) rfl rfl) (bq_nm bk_X3_standing_60 (j := 23) rfl rfl) (bq_nm bk_X3_standing_60 (j := 24) rfl rfl) rfl
theorem dX3_standing_85 : decode cX3_standing 85 = .ok (.iload_n 1, 1) := dc_27 (bq_nm bk_X3_standing_60 (j := 25) rfl rfl)
theorem dX3_standing_86 : decode cX3_standing 86 = .ok (.invokestatic 44, 3) := dc_184 (bq_nm bk_X3_standing_60 (j := 26) rfl rfl) (bq_nm bk_X3_standing_60 (j := 27) rfl rfl) (bq_nm bk_X3_standing_60 (j := 28) rfl rfl) rfl
theorem dX3_standing_89 : decode cX3_standing 89 = .ok (.ifCond .eq 7, 3) := dc_153 (bq_nm bk_X3_standing_60 (j := 29) rfl rfl) (bq_nm bk_X3_standing_60 (j := 30) rfl rfl) (bq_nm bk_X3_standing_60 (j := 31) rfl rfl) rfl
set_option maxRecDepth 20000 in
theorem bk_X3_standing_92 : ((cX3_standing.data.toList.drop 92).take 7).length = 7 ∧ eN (((cX3_standing.data.toList.drop 92).take 7).map UInt8.toNat) = 48420361867405064 := by decide +kernel
theorem dX3_standing_92 : decode cX3_standing 92 = .ok (.iconst 5, 1) := dc_8 (bq_nm bk_X3_standing_92 (j := 0) rfl rfl)
theorem dX3_standing_93 : decode cX3_standing 93 = .ok (.goto 5, 3) := dc_167 (bq_nm bk_X3_standing_92 (j := 1) rfl rfl) (bq_nm bk_X3_standing_92 (j := 2) rfl rfl) (bq_nm bk_X3_standing_92 (j := 3) rfl rfl) rfl
theorem dX3_standing_96 : decode cX3_standing 96 = .ok (.bipush 6, 2) := dc_16 (bq_nm bk_X3_standing_92 (j := 4) rfl rfl) (bq_nm bk_X3_standing_92 (j := 5) rfl rfl) rfl
theorem dX3_standing_98 : decode cX3_standing 98 = .ok (.ireturn, 1) := dc_172 (bq_nm bk_X3_standing_92 (j := 6) rfl rfl)
set_option maxRecDepth 20000 in
theorem bk_X3_figure_0 : ((cX3_figure.data.toList.drop 0).take 32).length = 32 ∧ eN (((cX3_figure.data.toList.drop 0).take 32).map UInt8.toNat) = 33020081398504243257518969664465426191005181498522250763530330832595419441691 := by decide +kernel
theorem dX3_figure_0 : decode cX3_figure 0 = .ok (.iload_n 1, 1) := dc_27 (bq_nm bk_X3_figure_0 (j := 0) rfl rfl)
theorem dX3_figure_28 : decode cX3_figure 28 = .ok (.aload_n 0, 1) := dc_42 (bq_nm bk_X3_figure_0 (j := 28) rfl rfl)
theorem dX3_figure_29 : decode cX3_figure 29 = .ok (.getfield 73, 3) := dc_180 (bq_nm bk_X3_figure_0 (j := 29) rfl rfl) (bq_nm bk_X3_figure_0 (j := 30) rfl rfl) (bq_nm bk_X3_figure_0 (j := 31) rfl rfl) rfl
set_option maxRecDepth 20000 in
theorem bk_X3_figure_32 : ((cX3_figure.data.toList.drop 32).take 32).length = 32 ∧ eN (((cX3_figure.data.toList.drop 32).take 32).map UInt8.toNat) = 77831384907836926134415772411071985480425042857478826396167861192364667221034 := by decide +kernel
theorem dX3_figure_32 : decode cX3_figure 32 = .ok (.aload_n 0, 1) := dc_42 (bq_nm bk_X3_figure_32 (j := 0) rfl rfl)
theorem dX3_figure_33 : decode cX3_figure 33 = .ok (.getfield 15, 3) := dc_180 (bq_nm bk_X3_figure_32 (j := 1) rfl rfl) (bq_nm bk_X3_figure_32 (j := 2) rfl rfl) (bq_nm bk_X3_figure_32 (j := 3) rfl rfl) rfl
theorem dX3_figure_36 : decode cX3_figure 36 = .ok (.iconst (-1), 1) := dc_2 (bq_nm bk_X3_figure_32 (j := 4) rfl rfl)
theorem dX3_figure_37 : decode cX3_figure 37 = .ok (.ixor, 1) := dc_130 (bq_nm bk_X3_figure_32 (j := 5) rfl rfl)
theorem dX3_figure_38 : decode cX3_figure 38 = .ok (.iand, 1) := dc_126 (bq_nm bk_X3_figure_32 (j := 6) rfl rfl)
theorem dX3_figure_39 : decode cX3_figure 39 = .ok (.invokestatic 28, 3) := dc_184 (bq_nm bk_X3_figure_32 (j := 7) rfl rfl) (bq_nm bk_X3_figure_32 (j := 8) rfl rfl) (bq_nm bk_X3_figure_32 (j := 9) rfl rfl) rfl
theorem dX3_figure_42 : decode cX3_figure 42 = .ok (.ireturn, 1) := dc_172 (bq_nm bk_X3_figure_32 (j := 10) rfl rfl)
theorem dX3_figure_43 : decode cX3_figure 43 = .ok (.aload_n 0, 1) := dc_42 (bq_nm bk_X3_figure_32 (j := 11) rfl rfl)
theorem dX3_figure_44 : decode cX3_figure 44 = .ok (.getfield 56, 3) := dc_180 (bq_nm bk_X3_figure_32 (j := 12) rfl rfl) (bq_nm bk_X3_figure_32 (j := 13) rfl rfl) (bq_nm bk_X3_figure_32 (j := 14) rfl rfl) rfl
theorem dX3_figure_47 : decode cX3_figure 47 = .ok (.invokestatic 28, 3) := dc_184 (bq_nm bk_X3_figure_32 (j := 15) rfl rfl) (bq_nm bk_X3_figure_32 (j := 16) rfl rfl) (bq_nm bk_X3_figure_32 (j := 17) rfl rfl) rfl
theorem dX3_figure_50 : decode cX3_figure 50 = .ok (.ireturn, 1) := dc_172 (bq_nm bk_X3_figure_32 (j := 18) rfl rfl)
theorem dX3_figure_51 : decode cX3_figure 51 = .ok (.aload_n 0, 1) := dc_42 (bq_nm bk_X3_figure_32 (j := 19) rfl rfl)
theorem dX3_figure_52 : decode cX3_figure 52 = .ok (.getfield 59, 3) := dc_180 (bq_nm bk_X3_figure_32 (j := 20) rfl rfl) (bq_nm bk_X3_figure_32 (j := 21) rfl rfl) (bq_nm bk_X3_figure_32 (j := 22) rfl rfl) rfl
theorem dX3_figure_55 : decode cX3_figure 55 = .ok (.invokestatic 28, 3) := dc_184 (bq_nm bk_X3_figure_32 (j := 23) rfl rfl) (bq_nm bk_X3_figure_32 (j := 24) rfl rfl) (bq_nm bk_X3_figure_32 (j := 25) rfl rfl) rfl
theorem dX3_figure_58 : decode cX3_figure 58 = .ok (.ireturn, 1) := dc_172 (bq_nm bk_X3_figure_32 (j := 26) rfl rfl)
theorem dX3_figure_59 : decode cX3_figure 59 = .ok (.aload_n 0, 1) := dc_42 (bq_nm bk_X3_figure_32 (j := 27) rfl rfl)
theorem dX3_figure_60 : decode cX3_figure 60 = .ok (.getfield 19, 3) := dc_180 (bq_nm bk_X3_figure_32 (j := 28) rfl rfl) (bq_nm bk_X3_figure_32 (j := 29) rfl rfl) (bq_nm bk_X3_figure_32 (j := 30) rfl rfl) rfl
theorem dX3_figure_63 : decode cX3_figure 63 = .ok (.ireturn, 1) := dc_172 (bq_nm bk_X3_figure_32 (j := 31) rfl rfl)
set_option maxRecDepth 20000 in
theorem bk_X3_fold_0 : ((cX3_fold.data.toList.drop 0).take 31).length = 31 ∧ eN (((cX3_fold.data.toList.drop 0).take 31).map UInt8.toNat) = 38875030540334509425706259254615815904871974778291464434825370081210138644 := by decide +kernel
theorem dX3_fold_0 : decode cX3_fold 0 = .ok (.ldc2_w 76, 3) := dc_20 (bq_nm bk_X3_fold_0 (j := 0) rfl rfl) (bq_nm bk_X3_fold_0 (j := 1) rfl rfl) (bq_nm bk_X3_fold_0 (j := 2) rfl rfl) rfl
theorem dX3_fold_3 : decode cX3_fold 3 = .ok (.lload_n 1, 1) := dc_31 (bq_nm bk_X3_fold_0 (j := 3) rfl rfl)
theorem dX3_fold_4 : decode cX3_fold 4 = .ok (.lmul, 1) := dc_105 (bq_nm bk_X3_fold_0 (j := 4) rfl rfl)
theorem dX3_fold_5 : decode cX3_fold 5 = .ok (.aload_n 0, 1) := dc_42 (bq_nm bk_X3_fold_0 (j := 5) rfl rfl)
theorem dX3_fold_6 : decode cX3_fold 6 = .ok (.getfield 15, 3) := dc_180 (bq_nm bk_X3_fold_0 (j := 6) rfl rfl) (bq_nm bk_X3_fold_0 (j := 7) rfl rfl) (bq_nm bk_X3_fold_0 (j := 8) rfl rfl) rfl
theorem dX3_fold_9 : decode cX3_fold 9 = .ok (.i2l, 1) := dc_133 (bq_nm bk_X3_fold_0 (j := 9) rfl rfl)
theorem dX3_fold_10 : decode cX3_fold 10 = .ok (.ladd, 1) := dc_97 (bq_nm bk_X3_fold_0 (j := 10) rfl rfl)
theorem dX3_fold_11 : decode cX3_fold 11 = .ok (.lstore_n 1, 1) := dc_64 (bq_nm bk_X3_fold_0 (j := 11) rfl rfl)
theorem dX3_fold_12 : decode cX3_fold 12 = .ok (.ldc2_w 76, 3) := dc_20 (bq_nm bk_X3_fold_0 (j := 12) rfl rfl) (bq_nm bk_X3_fold_0 (j := 13) rfl rfl) (bq_nm bk_X3_fold_0 (j := 14) rfl rfl) rfl
theorem dX3_fold_15 : decode cX3_fold 15 = .ok (.lload_n 1, 1) := dc_31 (bq_nm bk_X3_fold_0 (j := 15) rfl rfl)
theorem dX3_fold_16 : decode cX3_fold 16 = .ok (.lmul, 1) := dc_105 (bq_nm bk_X3_fold_0 (j := 16) rfl rfl)
theorem dX3_fold_17 : decode cX3_fold 17 = .ok (.aload_n 0, 1) := dc_42 (bq_nm bk_X3_fold_0 (j := 17) rfl rfl)
theorem dX3_fold_18 : decode cX3_fold 18 = .ok (.getfield 73, 3) := dc_180 (bq_nm bk_X3_fold_0 (j := 18) rfl rfl) (bq_nm bk_X3_fold_0 (j := 19) rfl rfl) (bq_nm bk_X3_fold_0 (j := 20) rfl rfl) rfl
theorem dX3_fold_21 : decode cX3_fold 21 = .ok (.i2l, 1) := dc_133 (bq_nm bk_X3_fold_0 (j := 21) rfl rfl)
theorem dX3_fold_22 : decode cX3_fold 22 = .ok (.ladd, 1) := dc_97 (bq_nm bk_X3_fold_0 (j := 22) rfl rfl)
theorem dX3_fold_23 : decode cX3_fold 23 = .ok (.lstore_n 1, 1) := dc_64 (bq_nm bk_X3_fold_0 (j := 23) rfl rfl)
theorem dX3_fold_24 : decode cX3_fold 24 = .ok (.iconst 0, 1) := dc_3 (bq_nm bk_X3_fold_0 (j := 24) rfl rfl)
theorem dX3_fold_25 : decode cX3_fold 25 = .ok (.istore_n 3, 1) := dc_62 (bq_nm bk_X3_fold_0 (j := 25) rfl rfl)
theorem dX3_fold_26 : decode cX3_fold 26 = .ok (.iload_n 3, 1) := dc_29 (bq_nm bk_X3_fold_0 (j := 26) rfl rfl)
theorem dX3_fold_27 : decode cX3_fold 27 = .ok (.iconst 3, 1) := dc_6 (bq_nm bk_X3_fold_0 (j := 27) rfl rfl)
theorem dX3_fold_28 : decode cX3_fold 28 = .ok (.if_icmp .gt 22, 3) := dc_163 (bq_nm bk_X3_fold_0 (j := 28) rfl rfl) (bq_nm bk_X3_fold_0 (j := 29) rfl rfl) (bq_nm bk_X3_fold_0 (j := 30) rfl rfl) rfl
set_option maxRecDepth 20000 in
theorem bk_X3_fold_31 : ((cX3_fold.data.toList.drop 31).take 21).length = 21 ∧ eN (((cX3_fold.data.toList.drop 31).take 21).map UInt8.toNat) = 253022024917724813932851794506134295287548160507924 := by decide +kernel
theorem dX3_fold_31 : decode cX3_fold 31 = .ok (.ldc2_w 76, 3) := dc_20 (bq_nm bk_X3_fold_31 (j := 0) rfl rfl) (bq_nm bk_X3_fold_31 (j := 1) rfl rfl) (bq_nm bk_X3_fold_31 (j := 2) rfl rfl) rfl
theorem dX3_fold_34 : decode cX3_fold 34 = .ok (.lload_n 1, 1) := dc_31 (bq_nm bk_X3_fold_31 (j := 3) rfl rfl)
theorem dX3_fold_35 : decode cX3_fold 35 = .ok (.lmul, 1) := dc_105 (bq_nm bk_X3_fold_31 (j := 4) rfl rfl)
theorem dX3_fold_36 : decode cX3_fold 36 = .ok (.aload_n 0, 1) := dc_42 (bq_nm bk_X3_fold_31 (j := 5) rfl rfl)
theorem dX3_fold_37 : decode cX3_fold 37 = .ok (.iload_n 3, 1) := dc_29 (bq_nm bk_X3_fold_31 (j := 6) rfl rfl)
theorem dX3_fold_38 : decode cX3_fold 38 = .ok (.invokevirtual 78, 3) := dc_182 (bq_nm bk_X3_fold_31 (j := 7) rfl rfl) (bq_nm bk_X3_fold_31 (j := 8) rfl rfl) (bq_nm bk_X3_fold_31 (j := 9) rfl rfl) rfl
theorem dX3_fold_41 : decode cX3_fold 41 = .ok (.i2l, 1) := dc_133 (bq_nm bk_X3_fold_31 (j := 10) rfl rfl)
theorem dX3_fold_42 : decode cX3_fold 42 = .ok (.ladd, 1) := dc_97 (bq_nm bk_X3_fold_31 (j := 11) rfl rfl)
theorem dX3_fold_43 : decode cX3_fold 43 = .ok (.lstore_n 1, 1) := dc_64 (bq_nm bk_X3_fold_31 (j := 12) rfl rfl)
theorem dX3_fold_44 : decode cX3_fold 44 = .ok (.iinc 3 1, 3) := dc_132 (bq_nm bk_X3_fold_31 (j := 13) rfl rfl) (bq_nm bk_X3_fold_31 (j := 14) rfl rfl) (bq_nm bk_X3_fold_31 (j := 15) rfl rfl) rfl
theorem dX3_fold_47 : decode cX3_fold 47 = .ok (.goto (-21), 3) := dc_167 (bq_nm bk_X3_fold_31 (j := 16) rfl rfl) (bq_nm bk_X3_fold_31 (j := 17) rfl rfl) (bq_nm bk_X3_fold_31 (j := 18) rfl rfl) rfl
theorem dX3_fold_50 : decode cX3_fold 50 = .ok (.lload_n 1, 1) := dc_31 (bq_nm bk_X3_fold_31 (j := 19) rfl rfl)
theorem dX3_fold_51 : decode cX3_fold 51 = .ok (.lreturn, 1) := dc_173 (bq_nm bk_X3_fold_31 (j := 20) rfl rfl)
set_option maxRecDepth 20000 in
theorem bk_X4_init_0 : ((cX4_init.data.toList.drop 0).take 13).length = 13 ∧ eN (((cX4_init.data.toList.drop 0).take 13).map UInt8.toNat) = 14026170985059541619019272468266 := by decide +kernel
theorem dX4_init_0 : decode cX4_init 0 = .ok (.aload_n 0, 1) := dc_42 (bq_nm bk_X4_init_0 (j := 0) rfl rfl)
theorem dX4_init_1 : decode cX4_init 1 = .ok (.invokespecial 3, 3) := dc_183 (bq_nm bk_X4_init_0 (j := 1) rfl rfl) (bq_nm bk_X4_init_0 (j := 2) rfl rfl) (bq_nm bk_X4_init_0 (j := 3) rfl rfl) rfl
theorem dX4_init_4 : decode cX4_init 4 = .ok (.aload_n 0, 1) := dc_42 (bq_nm bk_X4_init_0 (j := 4) rfl rfl)
theorem dX4_init_5 : decode cX4_init 5 = .ok (.bipush 50, 2) := dc_16 (bq_nm bk_X4_init_0 (j := 5) rfl rfl) (bq_nm bk_X4_init_0 (j := 6) rfl rfl) rfl
theorem dX4_init_7 : decode cX4_init 7 = .ok (.newarray .int, 2) := dc_188_10 (bq_nm bk_X4_init_0 (j := 7) rfl rfl) (bq_nm bk_X4_init_0 (j := 8) rfl rfl)
theorem dX4_init_9 : decode cX4_init 9 = .ok (.putfield 9, 3) := dc_181 (bq_nm bk_X4_init_0 (j := 9) rfl rfl) (bq_nm bk_X4_init_0 (j := 10) rfl rfl) (bq_nm bk_X4_init_0 (j := 11) rfl rfl) rfl
theorem dX4_init_12 : decode cX4_init 12 = .ok (.return_, 1) := dc_177 (bq_nm bk_X4_init_0 (j := 12) rfl rfl)
set_option maxRecDepth 20000 in
theorem bk_X4_read_0 : ((cX4_read.data.toList.drop 0).take 31).length = 31 ∧ eN (((cX4_read.data.toList.drop 0).take 31).map UInt8.toNat) = 60077711452803605059152805136295753125160556852213488039566657356721862187 := by decide +kernel
theorem dX4_read_0 : decode cX4_read 0 = .ok (.aload_n 1, 1) := dc_43 (bq_nm bk_X4_read_0 (j := 0) rfl rfl)
theorem dX4_read_1 : decode cX4_read 1 = .ok (.invokevirtual 15, 3) := dc_182 (bq_nm bk_X4_read_0 (j := 1) rfl rfl) (bq_nm bk_X4_read_0 (j := 2) rfl rfl) (bq_nm bk_X4_read_0 (j := 3) rfl rfl) rfl
theorem dX4_read_4 : decode cX4_read 4 = .ok (.aload_n 0, 1) := dc_42 (bq_nm bk_X4_read_0 (j := 4) rfl rfl)
theorem dX4_read_5 : decode cX4_read 5 = .ok (.iconst 0, 1) := dc_3 (bq_nm bk_X4_read_0 (j := 5) rfl rfl)
theorem dX4_read_6 : decode cX4_read 6 = .ok (.putfield 20, 3) := dc_181 (bq_nm bk_X4_read_0 (j := 6) rfl rfl) (bq_nm bk_X4_read_0 (j := 7) rfl rfl) (bq_nm bk_X4_read_0 (j := 8) rfl rfl) rfl
theorem dX4_read_9 : decode cX4_read 9 = .ok (.aload_n 0, 1) := dc_42 (bq_nm bk_X4_read_0 (j := 9) rfl rfl)
theorem dX4_read_10 : decode cX4_read 10 = .ok (.iconst 0, 1) := dc_3 (bq_nm bk_X4_read_0 (j := 10) rfl rfl)
theorem dX4_read_11 : decode cX4_read 11 = .ok (.putfield 24, 3) := dc_181 (bq_nm bk_X4_read_0 (j := 11) rfl rfl) (bq_nm bk_X4_read_0 (j := 12) rfl rfl) (bq_nm bk_X4_read_0 (j := 13) rfl rfl) rfl
theorem dX4_read_14 : decode cX4_read 14 = .ok (.aload_n 0, 1) := dc_42 (bq_nm bk_X4_read_0 (j := 14) rfl rfl)
theorem dX4_read_15 : decode cX4_read 15 = .ok (.iconst 0, 1) := dc_3 (bq_nm bk_X4_read_0 (j := 15) rfl rfl)
theorem dX4_read_16 : decode cX4_read 16 = .ok (.putfield 27, 3) := dc_181 (bq_nm bk_X4_read_0 (j := 16) rfl rfl) (bq_nm bk_X4_read_0 (j := 17) rfl rfl) (bq_nm bk_X4_read_0 (j := 18) rfl rfl) rfl
theorem dX4_read_19 : decode cX4_read 19 = .ok (.aload_n 0, 1) := dc_42 (bq_nm bk_X4_read_0 (j := 19) rfl rfl)
theorem dX4_read_20 : decode cX4_read 20 = .ok (.iconst 1, 1) := dc_4 (bq_nm bk_X4_read_0 (j := 20) rfl rfl)
theorem dX4_read_21 : decode cX4_read 21 = .ok (.putfield 30, 3) := dc_181 (bq_nm bk_X4_read_0 (j := 21) rfl rfl) (bq_nm bk_X4_read_0 (j := 22) rfl rfl) (bq_nm bk_X4_read_0 (j := 23) rfl rfl) rfl
theorem dX4_read_24 : decode cX4_read 24 = .ok (.iconst 0, 1) := dc_3 (bq_nm bk_X4_read_0 (j := 24) rfl rfl)
theorem dX4_read_25 : decode cX4_read 25 = .ok (.istore_n 2, 1) := dc_61 (bq_nm bk_X4_read_0 (j := 25) rfl rfl)
theorem dX4_read_26 : decode cX4_read 26 = .ok (.iload_n 2, 1) := dc_28 (bq_nm bk_X4_read_0 (j := 26) rfl rfl)
theorem dX4_read_27 : decode cX4_read 27 = .ok (.aload_n 1, 1) := dc_43 (bq_nm bk_X4_read_0 (j := 27) rfl rfl)
theorem dX4_read_28 : decode cX4_read 28 = .ok (.invokevirtual 34, 3) := dc_182 (bq_nm bk_X4_read_0 (j := 28) rfl rfl) (bq_nm bk_X4_read_0 (j := 29) rfl rfl) (bq_nm bk_X4_read_0 (j := 30) rfl rfl) rfl
set_option maxRecDepth 20000 in
theorem bk_X4_read_31 : ((cX4_read.data.toList.drop 31).take 32).length = 32 ∧ eN (((cX4_read.data.toList.drop 31).take 32).map UInt8.toNat) = 1846384250360580082976396700876302110137657382478234222648872396581334548642 := by decide +kernel
theorem dX4_read_31 : decode cX4_read 31 = .ok (.if_icmp .ge 150, 3) := dc_162 (bq_nm bk_X4_read_31 (j := 0) rfl rfl) (bq_nm bk_X4_read_31 (j := 1) rfl rfl) (bq_nm bk_X4_read_31 (j := 2) rfl rfl) rfl
theorem dX4_read_34 : decode cX4_read 34 = .ok (.aload_n 1, 1) := dc_43 (bq_nm bk_X4_read_31 (j := 3) rfl rfl)
theorem dX4_read_35 : decode cX4_read 35 = .ok (.iload_n 2, 1) := dc_28 (bq_nm bk_X4_read_31 (j := 4) rfl rfl)
theorem dX4_read_36 : decode cX4_read 36 = .ok (.invokevirtual 38, 3) := dc_182 (bq_nm bk_X4_read_31 (j := 5) rfl rfl) (bq_nm bk_X4_read_31 (j := 6) rfl rfl) (bq_nm bk_X4_read_31 (j := 7) rfl rfl) rfl
theorem dX4_read_39 : decode cX4_read 39 = .ok (.istore_n 3, 1) := dc_62 (bq_nm bk_X4_read_31 (j := 8) rfl rfl)
theorem dX4_read_40 : decode cX4_read 40 = .ok (.aload_n 0, 1) := dc_42 (bq_nm bk_X4_read_31 (j := 9) rfl rfl)
theorem dX4_read_41 : decode cX4_read 41 = .ok (.getfield 30, 3) := dc_180 (bq_nm bk_X4_read_31 (j := 10) rfl rfl) (bq_nm bk_X4_read_31 (j := 11) rfl rfl) (bq_nm bk_X4_read_31 (j := 12) rfl rfl) rfl
theorem dX4_read_44 : decode cX4_read 44 = .ok (.ifCond .eq 61, 3) := dc_153 (bq_nm bk_X4_read_31 (j := 13) rfl rfl) (bq_nm bk_X4_read_31 (j := 14) rfl rfl) (bq_nm bk_X4_read_31 (j := 15) rfl rfl) rfl
theorem dX4_read_47 : decode cX4_read 47 = .ok (.iload_n 3, 1) := dc_29 (bq_nm bk_X4_read_31 (j := 16) rfl rfl)
theorem dX4_read_48 : decode cX4_read 48 = .ok (.invokestatic 42, 3) := dc_184 (bq_nm bk_X4_read_31 (j := 17) rfl rfl) (bq_nm bk_X4_read_31 (j := 18) rfl rfl) (bq_nm bk_X4_read_31 (j := 19) rfl rfl) rfl
theorem dX4_read_51 : decode cX4_read 51 = .ok (.ifCond .eq 54, 3) := dc_153 (bq_nm bk_X4_read_31 (j := 20) rfl rfl) (bq_nm bk_X4_read_31 (j := 21) rfl rfl) (bq_nm bk_X4_read_31 (j := 22) rfl rfl) rfl
theorem dX4_read_54 : decode cX4_read 54 = .ok (.aload_n 1, 1) := dc_43 (bq_nm bk_X4_read_31 (j := 23) rfl rfl)
theorem dX4_read_55 : decode cX4_read 55 = .ok (.iload_n 2, 1) := dc_28 (bq_nm bk_X4_read_31 (j := 24) rfl rfl)
theorem dX4_read_56 : decode cX4_read 56 = .ok (.invokestatic 46, 3) := dc_184 (bq_nm bk_X4_read_31 (j := 25) rfl rfl) (bq_nm bk_X4_read_31 (j := 26) rfl rfl) (bq_nm bk_X4_read_31 (j := 27) rfl rfl) rfl
theorem dX4_read_59 : decode cX4_read 59 = .ok (.istore 4, 2) := dc_54 (bq_nm bk_X4_read_31 (j := 28) rfl rfl) (bq_nm bk_X4_read_31 (j := 29) rfl rfl)
theorem dX4_read_61 : decode cX4_read 61 = .ok (.iload 4, 2) := dc_21 (bq_nm bk_X4_read_31 (j := 30) rfl rfl) (bq_nm bk_X4_read_31 (j := 31) rfl rfl)
set_option maxRecDepth 20000 in
theorem bk_X4_read_63 : ((cX4_read.data.toList.drop 63).take 31).length = 31 ∧ eN (((cX4_read.data.toList.drop 63).take 31).map UInt8.toNat) = 49678789267025228947600503072635941455370736092035967052030565863637672988 := by decide +kernel
theorem dX4_read_63 : decode cX4_read 63 = .ok (.iload_n 2, 1) := dc_28 (bq_nm bk_X4_read_63 (j := 0) rfl rfl)
theorem dX4_read_64 : decode cX4_read 64 = .ok (.isub, 1) := dc_100 (bq_nm bk_X4_read_63 (j := 1) rfl rfl)
theorem dX4_read_65 : decode cX4_read 65 = .ok (.bipush 6, 2) := dc_16 (bq_nm bk_X4_read_63 (j := 2) rfl rfl) (bq_nm bk_X4_read_63 (j := 3) rfl rfl) rfl
theorem dX4_read_67 : decode cX4_read 67 = .ok (.if_icmp .le 10, 3) := dc_164 (bq_nm bk_X4_read_63 (j := 4) rfl rfl) (bq_nm bk_X4_read_63 (j := 5) rfl rfl) (bq_nm bk_X4_read_63 (j := 6) rfl rfl) rfl
theorem dX4_read_70 : decode cX4_read 70 = .ok (.bipush 10, 2) := dc_16 (bq_nm bk_X4_read_63 (j := 7) rfl rfl) (bq_nm bk_X4_read_63 (j := 8) rfl rfl) rfl
theorem dX4_read_72 : decode cX4_read 72 = .ok (.iload_n 2, 1) := dc_28 (bq_nm bk_X4_read_63 (j := 9) rfl rfl)
theorem dX4_read_73 : decode cX4_read 73 = .ok (.imul, 1) := dc_104 (bq_nm bk_X4_read_63 (j := 10) rfl rfl)
theorem dX4_read_74 : decode cX4_read 74 = .ok (.iconst 2, 1) := dc_5 (bq_nm bk_X4_read_63 (j := 11) rfl rfl)
theorem dX4_read_75 : decode cX4_read 75 = .ok (.iadd, 1) := dc_96 (bq_nm bk_X4_read_63 (j := 12) rfl rfl)
theorem dX4_read_76 : decode cX4_read 76 = .ok (.ireturn, 1) := dc_172 (bq_nm bk_X4_read_63 (j := 13) rfl rfl)
theorem dX4_read_77 : decode cX4_read 77 = .ok (.aload_n 1, 1) := dc_43 (bq_nm bk_X4_read_63 (j := 14) rfl rfl)
theorem dX4_read_78 : decode cX4_read 78 = .ok (.aload_n 1, 1) := dc_43 (bq_nm bk_X4_read_63 (j := 15) rfl rfl)
theorem dX4_read_79 : decode cX4_read 79 = .ok (.iload_n 2, 1) := dc_28 (bq_nm bk_X4_read_63 (j := 16) rfl rfl)
theorem dX4_read_80 : decode cX4_read 80 = .ok (.iload 4, 2) := dc_21 (bq_nm bk_X4_read_63 (j := 17) rfl rfl) (bq_nm bk_X4_read_63 (j := 18) rfl rfl)
theorem dX4_read_82 : decode cX4_read 82 = .ok (.invokestatic 50, 3) := dc_184 (bq_nm bk_X4_read_63 (j := 19) rfl rfl) (bq_nm bk_X4_read_63 (j := 20) rfl rfl) (bq_nm bk_X4_read_63 (j := 21) rfl rfl) rfl
theorem dX4_read_85 : decode cX4_read 85 = .ok (.invokevirtual 54, 3) := dc_182 (bq_nm bk_X4_read_63 (j := 22) rfl rfl) (bq_nm bk_X4_read_63 (j := 23) rfl rfl) (bq_nm bk_X4_read_63 (j := 24) rfl rfl) rfl
theorem dX4_read_88 : decode cX4_read 88 = .ok (.aload_n 0, 1) := dc_42 (bq_nm bk_X4_read_63 (j := 25) rfl rfl)
theorem dX4_read_89 : decode cX4_read 89 = .ok (.iconst 0, 1) := dc_3 (bq_nm bk_X4_read_63 (j := 26) rfl rfl)
theorem dX4_read_90 : decode cX4_read 90 = .ok (.putfield 30, 3) := dc_181 (bq_nm bk_X4_read_63 (j := 27) rfl rfl) (bq_nm bk_X4_read_63 (j := 28) rfl rfl) (bq_nm bk_X4_read_63 (j := 29) rfl rfl) rfl
theorem dX4_read_93 : decode cX4_read 93 = .ok (.iload_n 2, 1) := dc_28 (bq_nm bk_X4_read_63 (j := 30) rfl rfl)
set_option maxRecDepth 20000 in
theorem bk_X4_read_94 : ((cX4_read.data.toList.drop 94).take 30).length = 30 ∧ eN (((cX4_read.data.toList.drop 94).take 30).map UInt8.toNat) = 55647857705511918086744041715439120776575041854300121719501714905891861 := by decide +kernel
theorem dX4_read_94 : decode cX4_read 94 = .ok (.iload 4, 2) := dc_21 (bq_nm bk_X4_read_94 (j := 0) rfl rfl) (bq_nm bk_X4_read_94 (j := 1) rfl rfl)
theorem dX4_read_96 : decode cX4_read 96 = .ok (.iconst 1, 1) := dc_4 (bq_nm bk_X4_read_94 (j := 2) rfl rfl)
theorem dX4_read_97 : decode cX4_read 97 = .ok (.isub, 1) := dc_100 (bq_nm bk_X4_read_94 (j := 3) rfl rfl)
theorem dX4_read_98 : decode cX4_read 98 = .ok (.invokestatic 58, 3) := dc_184 (bq_nm bk_X4_read_94 (j := 4) rfl rfl) (bq_nm bk_X4_read_94 (j := 5) rfl rfl) (bq_nm bk_X4_read_94 (j := 6) rfl rfl) rfl
theorem dX4_read_101 : decode cX4_read 101 = .ok (.istore_n 2, 1) := dc_61 (bq_nm bk_X4_read_94 (j := 7) rfl rfl)
theorem dX4_read_102 : decode cX4_read 102 = .ok (.goto 73, 3) := dc_167 (bq_nm bk_X4_read_94 (j := 8) rfl rfl) (bq_nm bk_X4_read_94 (j := 9) rfl rfl) (bq_nm bk_X4_read_94 (j := 10) rfl rfl) rfl
theorem dX4_read_105 : decode cX4_read 105 = .ok (.aload_n 0, 1) := dc_42 (bq_nm bk_X4_read_94 (j := 11) rfl rfl)
theorem dX4_read_106 : decode cX4_read 106 = .ok (.getfield 30, 3) := dc_180 (bq_nm bk_X4_read_94 (j := 12) rfl rfl) (bq_nm bk_X4_read_94 (j := 13) rfl rfl) (bq_nm bk_X4_read_94 (j := 14) rfl rfl) rfl
theorem dX4_read_109 : decode cX4_read 109 = .ok (.ifCond .eq 25, 3) := dc_153 (bq_nm bk_X4_read_94 (j := 15) rfl rfl) (bq_nm bk_X4_read_94 (j := 16) rfl rfl) (bq_nm bk_X4_read_94 (j := 17) rfl rfl) rfl
theorem dX4_read_112 : decode cX4_read 112 = .ok (.iload_n 3, 1) := dc_29 (bq_nm bk_X4_read_94 (j := 18) rfl rfl)
theorem dX4_read_113 : decode cX4_read 113 = .ok (.bipush 40, 2) := dc_16 (bq_nm bk_X4_read_94 (j := 19) rfl rfl) (bq_nm bk_X4_read_94 (j := 20) rfl rfl) rfl
theorem dX4_read_115 : decode cX4_read 115 = .ok (.if_icmp .ne 19, 3) := dc_160 (bq_nm bk_X4_read_94 (j := 21) rfl rfl) (bq_nm bk_X4_read_94 (j := 22) rfl rfl) (bq_nm bk_X4_read_94 (j := 23) rfl rfl) rfl
theorem dX4_read_118 : decode cX4_read 118 = .ok (.aload_n 0, 1) := dc_42 (bq_nm bk_X4_read_94 (j := 24) rfl rfl)
theorem dX4_read_119 : decode cX4_read 119 = .ok (.getfield 24, 3) := dc_180 (bq_nm bk_X4_read_94 (j := 25) rfl rfl) (bq_nm bk_X4_read_94 (j := 26) rfl rfl) (bq_nm bk_X4_read_94 (j := 27) rfl rfl) rfl
theorem dX4_read_122 : decode cX4_read 122 = .ok (.bipush 8, 2) := dc_16 (bq_nm bk_X4_read_94 (j := 28) rfl rfl) (bq_nm bk_X4_read_94 (j := 29) rfl rfl) rfl
set_option maxRecDepth 20000 in
theorem bk_X4_read_124 : ((cX4_read.data.toList.drop 124).take 32).length = 32 ∧ eN (((cX4_read.data.toList.drop 124).take 32).map UInt8.toNat) = 6785750421451558809008333728264490727502331678354994812307994174989632405665 := by decide +kernel
theorem dX4_read_124 : decode cX4_read 124 = .ok (.if_icmp .lt 10, 3) := dc_161 (bq_nm bk_X4_read_124 (j := 0) rfl rfl) (bq_nm bk_X4_read_124 (j := 1) rfl rfl) (bq_nm bk_X4_read_124 (j := 2) rfl rfl) rfl
theorem dX4_read_127 : decode cX4_read 127 = .ok (.bipush 10, 2) := dc_16 (bq_nm bk_X4_read_124 (j := 3) rfl rfl) (bq_nm bk_X4_read_124 (j := 4) rfl rfl) rfl
theorem dX4_read_129 : decode cX4_read 129 = .ok (.iload_n 2, 1) := dc_28 (bq_nm bk_X4_read_124 (j := 5) rfl rfl)
theorem dX4_read_130 : decode cX4_read 130 = .ok (.imul, 1) := dc_104 (bq_nm bk_X4_read_124 (j := 6) rfl rfl)
theorem dX4_read_131 : decode cX4_read 131 = .ok (.iconst 3, 1) := dc_6 (bq_nm bk_X4_read_124 (j := 7) rfl rfl)
theorem dX4_read_132 : decode cX4_read 132 = .ok (.iadd, 1) := dc_96 (bq_nm bk_X4_read_124 (j := 8) rfl rfl)
theorem dX4_read_133 : decode cX4_read 133 = .ok (.ireturn, 1) := dc_172 (bq_nm bk_X4_read_124 (j := 9) rfl rfl)
theorem dX4_read_134 : decode cX4_read 134 = .ok (.iload_n 3, 1) := dc_29 (bq_nm bk_X4_read_124 (j := 10) rfl rfl)
theorem dX4_read_135 : decode cX4_read 135 = .ok (.bipush 32, 2) := dc_16 (bq_nm bk_X4_read_124 (j := 11) rfl rfl) (bq_nm bk_X4_read_124 (j := 12) rfl rfl) rfl
theorem dX4_read_137 : decode cX4_read 137 = .ok (.if_icmp .eq 38, 3) := dc_159 (bq_nm bk_X4_read_124 (j := 13) rfl rfl) (bq_nm bk_X4_read_124 (j := 14) rfl rfl) (bq_nm bk_X4_read_124 (j := 15) rfl rfl) rfl
theorem dX4_read_140 : decode cX4_read 140 = .ok (.aload_n 0, 1) := dc_42 (bq_nm bk_X4_read_124 (j := 16) rfl rfl)
theorem dX4_read_141 : decode cX4_read 141 = .ok (.getfield 30, 3) := dc_180 (bq_nm bk_X4_read_124 (j := 17) rfl rfl) (bq_nm bk_X4_read_124 (j := 18) rfl rfl) (bq_nm bk_X4_read_124 (j := 19) rfl rfl) rfl
theorem dX4_read_144 : decode cX4_read 144 = .ok (.ifCond .eq 15, 3) := dc_153 (bq_nm bk_X4_read_124 (j := 20) rfl rfl) (bq_nm bk_X4_read_124 (j := 21) rfl rfl) (bq_nm bk_X4_read_124 (j := 22) rfl rfl) rfl
theorem dX4_read_147 : decode cX4_read 147 = .ok (.aload_n 0, 1) := dc_42 (bq_nm bk_X4_read_124 (j := 23) rfl rfl)
theorem dX4_read_148 : decode cX4_read 148 = .ok (.aload_n 1, 1) := dc_43 (bq_nm bk_X4_read_124 (j := 24) rfl rfl)
theorem dX4_read_149 : decode cX4_read 149 = .ok (.iload_n 3, 1) := dc_29 (bq_nm bk_X4_read_124 (j := 25) rfl rfl)
theorem dX4_read_150 : decode cX4_read 150 = .ok (.invokevirtual 64, 3) := dc_182 (bq_nm bk_X4_read_124 (j := 26) rfl rfl) (bq_nm bk_X4_read_124 (j := 27) rfl rfl) (bq_nm bk_X4_read_124 (j := 28) rfl rfl) rfl
theorem dX4_read_153 : decode cX4_read 153 = .ok (.ifCond .eq 15, 3) := dc_153 (bq_nm bk_X4_read_124 (j := 29) rfl rfl) (bq_nm bk_X4_read_124 (j := 30) rfl rfl) (bq_nm bk_X4_read_124 (j := 31) rfl rfl) rfl
set_option maxRecDepth 20000 in
theorem bk_X4_read_156 : ((cX4_read.data.toList.drop 156).take 32).length = 32 ∧ eN (((cX4_read.data.toList.drop 156).take 32).map UInt8.toNat) = 4524192163642585500640171630783928050207997886483360938189382534213917671591 := by decide +kernel
theorem dX4_read_156 : decode cX4_read 156 = .ok (.goto 19, 3) := dc_167 (bq_nm bk_X4_read_156 (j := 0) rfl rfl) (bq_nm bk_X4_read_156 (j := 1) rfl rfl) (bq_nm bk_X4_read_156 (j := 2) rfl rfl) rfl
theorem dX4_read_159 : decode cX4_read 159 = .ok (.aload_n 0, 1) := dc_42 (bq_nm bk_X4_read_156 (j := 3) rfl rfl)
theorem dX4_read_160 : decode cX4_read 160 = .ok (.aload_n 1, 1) := dc_43 (bq_nm bk_X4_read_156 (j := 4) rfl rfl)
theorem dX4_read_161 : decode cX4_read 161 = .ok (.iload_n 3, 1) := dc_29 (bq_nm bk_X4_read_156 (j := 5) rfl rfl)
theorem dX4_read_162 : decode cX4_read 162 = .ok (.invokevirtual 68, 3) := dc_182 (bq_nm bk_X4_read_156 (j := 6) rfl rfl) (bq_nm bk_X4_read_156 (j := 7) rfl rfl) (bq_nm bk_X4_read_156 (j := 8) rfl rfl) rfl
theorem dX4_read_165 : decode cX4_read 165 = .ok (.ifCond .ne 10, 3) := dc_154 (bq_nm bk_X4_read_156 (j := 9) rfl rfl) (bq_nm bk_X4_read_156 (j := 10) rfl rfl) (bq_nm bk_X4_read_156 (j := 11) rfl rfl) rfl
theorem dX4_read_168 : decode cX4_read 168 = .ok (.bipush 10, 2) := dc_16 (bq_nm bk_X4_read_156 (j := 12) rfl rfl) (bq_nm bk_X4_read_156 (j := 13) rfl rfl) rfl
theorem dX4_read_170 : decode cX4_read 170 = .ok (.iload_n 2, 1) := dc_28 (bq_nm bk_X4_read_156 (j := 14) rfl rfl)
theorem dX4_read_171 : decode cX4_read 171 = .ok (.imul, 1) := dc_104 (bq_nm bk_X4_read_156 (j := 15) rfl rfl)
theorem dX4_read_172 : decode cX4_read 172 = .ok (.iconst 1, 1) := dc_4 (bq_nm bk_X4_read_156 (j := 16) rfl rfl)
theorem dX4_read_173 : decode cX4_read 173 = .ok (.iadd, 1) := dc_96 (bq_nm bk_X4_read_156 (j := 17) rfl rfl)
theorem dX4_read_174 : decode cX4_read 174 = .ok (.ireturn, 1) := dc_172 (bq_nm bk_X4_read_156 (j := 18) rfl rfl)
theorem dX4_read_175 : decode cX4_read 175 = .ok (.iinc 2 1, 3) := dc_132 (bq_nm bk_X4_read_156 (j := 19) rfl rfl) (bq_nm bk_X4_read_156 (j := 20) rfl rfl) (bq_nm bk_X4_read_156 (j := 21) rfl rfl) rfl
theorem dX4_read_178 : decode cX4_read 178 = .ok (.goto (-152), 3) := dc_167 (bq_nm bk_X4_read_156 (j := 22) rfl rfl) (bq_nm bk_X4_read_156 (j := 23) rfl rfl) (bq_nm bk_X4_read_156 (j := 24) rfl rfl) rfl
theorem dX4_read_181 : decode cX4_read 181 = .ok (.aload_n 0, 1) := dc_42 (bq_nm bk_X4_read_156 (j := 25) rfl rfl)
theorem dX4_read_182 : decode cX4_read 182 = .ok (.getfield 30, 3) := dc_180 (bq_nm bk_X4_read_156 (j := 26) rfl rfl) (bq_nm bk_X4_read_156 (j := 27) rfl rfl) (bq_nm bk_X4_read_156 (j := 28) rfl rfl) rfl
theorem dX4_read_185 : decode cX4_read 185 = .ok (.ifCond .ne 10, 3) := dc_154 (bq_nm bk_X4_read_156 (j := 29) rfl rfl) (bq_nm bk_X4_read_156 (j := 30) rfl rfl) (bq_nm bk_X4_read_156 (j := 31) rfl rfl) rfl
set_option maxRecDepth 20000 in
theorem bk_X4_read_188 : ((cX4_read.data.toList.drop 188).take 25).length = 25 ∧ eN (((cX4_read.data.toList.drop 188).take 25).map UInt8.toNat) = 1079717530620739097047862876156040602384910377377178125906986 := by decide +kernel
theorem dX4_read_188 : decode cX4_read 188 = .ok (.aload_n 0, 1) := dc_42 (bq_nm bk_X4_read_188 (j := 0) rfl rfl)
theorem dX4_read_189 : decode cX4_read 189 = .ok (.getfield 24, 3) := dc_180 (bq_nm bk_X4_read_188 (j := 1) rfl rfl) (bq_nm bk_X4_read_188 (j := 2) rfl rfl) (bq_nm bk_X4_read_188 (j := 3) rfl rfl) rfl
theorem dX4_read_192 : decode cX4_read 192 = .ok (.ifCond .le 13, 3) := dc_158 (bq_nm bk_X4_read_188 (j := 4) rfl rfl) (bq_nm bk_X4_read_188 (j := 5) rfl rfl) (bq_nm bk_X4_read_188 (j := 6) rfl rfl) rfl
theorem dX4_read_195 : decode cX4_read 195 = .ok (.bipush 10, 2) := dc_16 (bq_nm bk_X4_read_188 (j := 7) rfl rfl) (bq_nm bk_X4_read_188 (j := 8) rfl rfl) rfl
theorem dX4_read_197 : decode cX4_read 197 = .ok (.aload_n 1, 1) := dc_43 (bq_nm bk_X4_read_188 (j := 9) rfl rfl)
theorem dX4_read_198 : decode cX4_read 198 = .ok (.invokevirtual 34, 3) := dc_182 (bq_nm bk_X4_read_188 (j := 10) rfl rfl) (bq_nm bk_X4_read_188 (j := 11) rfl rfl) (bq_nm bk_X4_read_188 (j := 12) rfl rfl) rfl
theorem dX4_read_201 : decode cX4_read 201 = .ok (.imul, 1) := dc_104 (bq_nm bk_X4_read_188 (j := 13) rfl rfl)
theorem dX4_read_202 : decode cX4_read 202 = .ok (.iconst 1, 1) := dc_4 (bq_nm bk_X4_read_188 (j := 14) rfl rfl)
theorem dX4_read_203 : decode cX4_read 203 = .ok (.iadd, 1) := dc_96 (bq_nm bk_X4_read_188 (j := 15) rfl rfl)
theorem dX4_read_204 : decode cX4_read 204 = .ok (.ireturn, 1) := dc_172 (bq_nm bk_X4_read_188 (j := 16) rfl rfl)
theorem dX4_read_205 : decode cX4_read 205 = .ok (.aload_n 0, 1) := dc_42 (bq_nm bk_X4_read_188 (j := 17) rfl rfl)
theorem dX4_read_206 : decode cX4_read 206 = .ok (.aload_n 1, 1) := dc_43 (bq_nm bk_X4_read_188 (j := 18) rfl rfl)
theorem dX4_read_207 : decode cX4_read 207 = .ok (.iconst 1, 1) := dc_4 (bq_nm bk_X4_read_188 (j := 19) rfl rfl)
theorem dX4_read_208 : decode cX4_read 208 = .ok (.invokevirtual 73, 3) := dc_182 (bq_nm bk_X4_read_188 (j := 20) rfl rfl) (bq_nm bk_X4_read_188 (j := 21) rfl rfl) (bq_nm bk_X4_read_188 (j := 22) rfl rfl) rfl
theorem dX4_read_211 : decode cX4_read 211 = .ok (.iconst (-1), 1) := dc_2 (bq_nm bk_X4_read_188 (j := 23) rfl rfl)
theorem dX4_read_212 : decode cX4_read 212 = .ok (.ireturn, 1) := dc_172 (bq_nm bk_X4_read_188 (j := 24) rfl rfl)
set_option maxRecDepth 20000 in
theorem bk_X4_isDigit_0 : ((cX4_isDigit.data.toList.drop 0).take 18).length = 18 ∧ eN (((cX4_isDigit.data.toList.drop 0).take 18).map UInt8.toNat) = 14984339347662989861898945582425304497917978 := by decide +kernel
theorem dX4_isDigit_0 : decode cX4_isDigit 0 = .ok (.iload_n 0, 1) := dc_26 (bq_nm bk_X4_isDigit_0 (j := 0) rfl rfl)
theorem dX4_isDigit_1 : decode cX4_isDigit 1 = .ok (.bipush 48, 2) := dc_16 (bq_nm bk_X4_isDigit_0 (j := 1) rfl rfl) (bq_nm bk_X4_isDigit_0 (j := 2) rfl rfl) rfl
theorem dX4_isDigit_3 : decode cX4_isDigit 3 = .ok (.if_icmp .lt 13, 3) := dc_161 (bq_nm bk_X4_isDigit_0 (j := 3) rfl rfl) (bq_nm bk_X4_isDigit_0 (j := 4) rfl rfl) (bq_nm bk_X4_isDigit_0 (j := 5) rfl rfl) rfl
theorem dX4_isDigit_6 : decode cX4_isDigit 6 = .ok (.iload_n 0, 1) := dc_26 (bq_nm bk_X4_isDigit_0 (j := 6) rfl rfl)
theorem dX4_isDigit_7 : decode cX4_isDigit 7 = .ok (.bipush 57, 2) := dc_16 (bq_nm bk_X4_isDigit_0 (j := 7) rfl rfl) (bq_nm bk_X4_isDigit_0 (j := 8) rfl rfl) rfl
theorem dX4_isDigit_9 : decode cX4_isDigit 9 = .ok (.if_icmp .gt 7, 3) := dc_163 (bq_nm bk_X4_isDigit_0 (j := 9) rfl rfl) (bq_nm bk_X4_isDigit_0 (j := 10) rfl rfl) (bq_nm bk_X4_isDigit_0 (j := 11) rfl rfl) rfl
theorem dX4_isDigit_12 : decode cX4_isDigit 12 = .ok (.iconst 1, 1) := dc_4 (bq_nm bk_X4_isDigit_0 (j := 12) rfl rfl)
theorem dX4_isDigit_13 : decode cX4_isDigit 13 = .ok (.goto 4, 3) := dc_167 (bq_nm bk_X4_isDigit_0 (j := 13) rfl rfl) (bq_nm bk_X4_isDigit_0 (j := 14) rfl rfl) (bq_nm bk_X4_isDigit_0 (j := 15) rfl rfl) rfl
theorem dX4_isDigit_16 : decode cX4_isDigit 16 = .ok (.iconst 0, 1) := dc_3 (bq_nm bk_X4_isDigit_0 (j := 16) rfl rfl)
theorem dX4_isDigit_17 : decode cX4_isDigit 17 = .ok (.ireturn, 1) := dc_172 (bq_nm bk_X4_isDigit_0 (j := 17) rfl rfl)
set_option maxRecDepth 20000 in
theorem bk_X4_digitsEnd_0 : ((cX4_digitsEnd.data.toList.drop 0).take 29).length = 29 ∧ eN (((cX4_digitsEnd.data.toList.drop 0).take 29).map UInt8.toNat) = 4640156243750734973206647037753275959787971462420236602123703021223195 := by decide +kernel
theorem dX4_digitsEnd_0 : decode cX4_digitsEnd 0 = .ok (.iload_n 1, 1) := dc_27 (bq_nm bk_X4_digitsEnd_0 (j := 0) rfl rfl)
theorem dX4_digitsEnd_1 : decode cX4_digitsEnd 1 = .ok (.istore_n 2, 1) := dc_61 (bq_nm bk_X4_digitsEnd_0 (j := 1) rfl rfl)
theorem dX4_digitsEnd_2 : decode cX4_digitsEnd 2 = .ok (.iload_n 2, 1) := dc_28 (bq_nm bk_X4_digitsEnd_0 (j := 2) rfl rfl)
theorem dX4_digitsEnd_3 : decode cX4_digitsEnd 3 = .ok (.aload_n 0, 1) := dc_42 (bq_nm bk_X4_digitsEnd_0 (j := 3) rfl rfl)
theorem dX4_digitsEnd_4 : decode cX4_digitsEnd 4 = .ok (.invokevirtual 34, 3) := dc_182 (bq_nm bk_X4_digitsEnd_0 (j := 4) rfl rfl) (bq_nm bk_X4_digitsEnd_0 (j := 5) rfl rfl) (bq_nm bk_X4_digitsEnd_0 (j := 6) rfl rfl) rfl
theorem dX4_digitsEnd_7 : decode cX4_digitsEnd 7 = .ok (.if_icmp .ge 20, 3) := dc_162 (bq_nm bk_X4_digitsEnd_0 (j := 7) rfl rfl) (bq_nm bk_X4_digitsEnd_0 (j := 8) rfl rfl) (bq_nm bk_X4_digitsEnd_0 (j := 9) rfl rfl) rfl
theorem dX4_digitsEnd_10 : decode cX4_digitsEnd 10 = .ok (.aload_n 0, 1) := dc_42 (bq_nm bk_X4_digitsEnd_0 (j := 10) rfl rfl)
theorem dX4_digitsEnd_11 : decode cX4_digitsEnd 11 = .ok (.iload_n 2, 1) := dc_28 (bq_nm bk_X4_digitsEnd_0 (j := 11) rfl rfl)
theorem dX4_digitsEnd_12 : decode cX4_digitsEnd 12 = .ok (.invokevirtual 38, 3) := dc_182 (bq_nm bk_X4_digitsEnd_0 (j := 12) rfl rfl) (bq_nm bk_X4_digitsEnd_0 (j := 13) rfl rfl) (bq_nm bk_X4_digitsEnd_0 (j := 14) rfl rfl) rfl
theorem dX4_digitsEnd_15 : decode cX4_digitsEnd 15 = .ok (.invokestatic 42, 3) := dc_184 (bq_nm bk_X4_digitsEnd_0 (j := 15) rfl rfl) (bq_nm bk_X4_digitsEnd_0 (j := 16) rfl rfl) (bq_nm bk_X4_digitsEnd_0 (j := 17) rfl rfl) rfl
theorem dX4_digitsEnd_18 : decode cX4_digitsEnd 18 = .ok (.ifCond .eq 9, 3) := dc_153 (bq_nm bk_X4_digitsEnd_0 (j := 18) rfl rfl) (bq_nm bk_X4_digitsEnd_0 (j := 19) rfl rfl) (bq_nm bk_X4_digitsEnd_0 (j := 20) rfl rfl) rfl
theorem dX4_digitsEnd_21 : decode cX4_digitsEnd 21 = .ok (.iinc 2 1, 3) := dc_132 (bq_nm bk_X4_digitsEnd_0 (j := 21) rfl rfl) (bq_nm bk_X4_digitsEnd_0 (j := 22) rfl rfl) (bq_nm bk_X4_digitsEnd_0 (j := 23) rfl rfl) rfl
theorem dX4_digitsEnd_24 : decode cX4_digitsEnd 24 = .ok (.goto (-22), 3) := dc_167 (bq_nm bk_X4_digitsEnd_0 (j := 24) rfl rfl) (bq_nm bk_X4_digitsEnd_0 (j := 25) rfl rfl) (bq_nm bk_X4_digitsEnd_0 (j := 26) rfl rfl) rfl
theorem dX4_digitsEnd_27 : decode cX4_digitsEnd 27 = .ok (.iload_n 2, 1) := dc_28 (bq_nm bk_X4_digitsEnd_0 (j := 27) rfl rfl)
theorem dX4_digitsEnd_28 : decode cX4_digitsEnd 28 = .ok (.ireturn, 1) := dc_172 (bq_nm bk_X4_digitsEnd_0 (j := 28) rfl rfl)
set_option maxRecDepth 20000 in
theorem bk_X4_numberIn_0 : ((cX4_numberIn.data.toList.drop 0).take 32).length = 32 ∧ eN (((cX4_numberIn.data.toList.drop 0).take 32).map UInt8.toNat) = 105388279491911801874071358612288051029019435473416458582052752547628814384643 := by decide +kernel
theorem dX4_numberIn_0 : decode cX4_numberIn 0 = .ok (.iconst 0, 1) := dc_3 (bq_nm bk_X4_numberIn_0 (j := 0) rfl rfl)
theorem dX4_numberIn_1 : decode cX4_numberIn 1 = .ok (.istore_n 3, 1) := dc_62 (bq_nm bk_X4_numberIn_0 (j := 1) rfl rfl)
theorem dX4_numberIn_2 : decode cX4_numberIn 2 = .ok (.iload_n 1, 1) := dc_27 (bq_nm bk_X4_numberIn_0 (j := 2) rfl rfl)
theorem dX4_numberIn_3 : decode cX4_numberIn 3 = .ok (.istore 4, 2) := dc_54 (bq_nm bk_X4_numberIn_0 (j := 3) rfl rfl) (bq_nm bk_X4_numberIn_0 (j := 4) rfl rfl)
theorem dX4_numberIn_5 : decode cX4_numberIn 5 = .ok (.iload 4, 2) := dc_21 (bq_nm bk_X4_numberIn_0 (j := 5) rfl rfl) (bq_nm bk_X4_numberIn_0 (j := 6) rfl rfl)
theorem dX4_numberIn_7 : decode cX4_numberIn 7 = .ok (.iload_n 2, 1) := dc_28 (bq_nm bk_X4_numberIn_0 (j := 7) rfl rfl)
theorem dX4_numberIn_8 : decode cX4_numberIn 8 = .ok (.if_icmp .ge 24, 3) := dc_162 (bq_nm bk_X4_numberIn_0 (j := 8) rfl rfl) (bq_nm bk_X4_numberIn_0 (j := 9) rfl rfl) (bq_nm bk_X4_numberIn_0 (j := 10) rfl rfl) rfl
theorem dX4_numberIn_11 : decode cX4_numberIn 11 = .ok (.bipush 10, 2) := dc_16 (bq_nm bk_X4_numberIn_0 (j := 11) rfl rfl) (bq_nm bk_X4_numberIn_0 (j := 12) rfl rfl) rfl
theorem dX4_numberIn_13 : decode cX4_numberIn 13 = .ok (.iload_n 3, 1) := dc_29 (bq_nm bk_X4_numberIn_0 (j := 13) rfl rfl)
theorem dX4_numberIn_14 : decode cX4_numberIn 14 = .ok (.imul, 1) := dc_104 (bq_nm bk_X4_numberIn_0 (j := 14) rfl rfl)
theorem dX4_numberIn_15 : decode cX4_numberIn 15 = .ok (.aload_n 0, 1) := dc_42 (bq_nm bk_X4_numberIn_0 (j := 15) rfl rfl)
theorem dX4_numberIn_16 : decode cX4_numberIn 16 = .ok (.iload 4, 2) := dc_21 (bq_nm bk_X4_numberIn_0 (j := 16) rfl rfl) (bq_nm bk_X4_numberIn_0 (j := 17) rfl rfl)
theorem dX4_numberIn_18 : decode cX4_numberIn 18 = .ok (.invokevirtual 38, 3) := dc_182 (bq_nm bk_X4_numberIn_0 (j := 18) rfl rfl) (bq_nm bk_X4_numberIn_0 (j := 19) rfl rfl) (bq_nm bk_X4_numberIn_0 (j := 20) rfl rfl) rfl
theorem dX4_numberIn_21 : decode cX4_numberIn 21 = .ok (.iadd, 1) := dc_96 (bq_nm bk_X4_numberIn_0 (j := 21) rfl rfl)
theorem dX4_numberIn_22 : decode cX4_numberIn 22 = .ok (.bipush 48, 2) := dc_16 (bq_nm bk_X4_numberIn_0 (j := 22) rfl rfl) (bq_nm bk_X4_numberIn_0 (j := 23) rfl rfl) rfl
theorem dX4_numberIn_24 : decode cX4_numberIn 24 = .ok (.isub, 1) := dc_100 (bq_nm bk_X4_numberIn_0 (j := 24) rfl rfl)
theorem dX4_numberIn_25 : decode cX4_numberIn 25 = .ok (.istore_n 3, 1) := dc_62 (bq_nm bk_X4_numberIn_0 (j := 25) rfl rfl)
theorem dX4_numberIn_26 : decode cX4_numberIn 26 = .ok (.iinc 4 1, 3) := dc_132 (bq_nm bk_X4_numberIn_0 (j := 26) rfl rfl) (bq_nm bk_X4_numberIn_0 (j := 27) rfl rfl) (bq_nm bk_X4_numberIn_0 (j := 28) rfl rfl) rfl
theorem dX4_numberIn_29 : decode cX4_numberIn 29 = .ok (.goto (-24), 3) := dc_167 (bq_nm bk_X4_numberIn_0 (j := 29) rfl rfl) (bq_nm bk_X4_numberIn_0 (j := 30) rfl rfl) (bq_nm bk_X4_numberIn_0 (j := 31) rfl rfl) rfl
set_option maxRecDepth 20000 in
theorem bk_X4_numberIn_32 : ((cX4_numberIn.data.toList.drop 32).take 2).length = 2 ∧ eN (((cX4_numberIn.data.toList.drop 32).take 2).map UInt8.toNat) = 44061 := by decide +kernel
theorem dX4_numberIn_32 : decode cX4_numberIn 32 = .ok (.iload_n 3, 1) := dc_29 (bq_nm bk_X4_numberIn_32 (j := 0) rfl rfl)
theorem dX4_numberIn_33 : decode cX4_numberIn 33 = .ok (.ireturn, 1) := dc_172 (bq_nm bk_X4_numberIn_32 (j := 1) rfl rfl)
set_option maxRecDepth 20000 in
theorem bk_X4_startsUnit_0 : ((cX4_startsUnit.data.toList.drop 0).take 1).length = 1 ∧ eN (((cX4_startsUnit.data.toList.drop 0).take 1).map UInt8.toNat) = 28 := by decide +kernel
theorem dX4_startsUnit_0 : decode cX4_startsUnit 0 = .ok (.iload_n 2, 1) := dc_28 (bq_nm bk_X4_startsUnit_0 (j := 0) rfl rfl)
set_option maxRecDepth 20000 in
theorem bk_X4_startsUnit_84 : ((cX4_startsUnit.data.toList.drop 84).take 30).length = 30 ∧ eN (((cX4_startsUnit.data.toList.drop 84).take 30).map UInt8.toNat) = 289984030073555874832558775375176080751404355312856548891264920268839979 := by decide +kernel
theorem dX4_startsUnit_84 : decode cX4_startsUnit 84 = .ok (.aload_n 1, 1) := dc_43 (bq_nm bk_X4_startsUnit_84 (j := 0) rfl rfl)
theorem dX4_startsUnit_85 : decode cX4_startsUnit 85 = .ok (.iload_n 2, 1) := dc_28 (bq_nm bk_X4_startsUnit_84 (j := 1) rfl rfl)
theorem dX4_startsUnit_86 : decode cX4_startsUnit 86 = .ok (.ineg, 1) := dc_116 (bq_nm bk_X4_startsUnit_84 (j := 2) rfl rfl)
theorem dX4_startsUnit_87 : decode cX4_startsUnit 87 = .ok (.invokevirtual 54, 3) := dc_182 (bq_nm bk_X4_startsUnit_84 (j := 3) rfl rfl) (bq_nm bk_X4_startsUnit_84 (j := 4) rfl rfl) (bq_nm bk_X4_startsUnit_84 (j := 5) rfl rfl) rfl
theorem dX4_startsUnit_90 : decode cX4_startsUnit 90 = .ok (.aload_n 0, 1) := dc_42 (bq_nm bk_X4_startsUnit_84 (j := 6) rfl rfl)
theorem dX4_startsUnit_91 : decode cX4_startsUnit 91 = .ok (.iconst 0, 1) := dc_3 (bq_nm bk_X4_startsUnit_84 (j := 7) rfl rfl)
theorem dX4_startsUnit_92 : decode cX4_startsUnit 92 = .ok (.putfield 30, 3) := dc_181 (bq_nm bk_X4_startsUnit_84 (j := 8) rfl rfl) (bq_nm bk_X4_startsUnit_84 (j := 9) rfl rfl) (bq_nm bk_X4_startsUnit_84 (j := 10) rfl rfl) rfl
theorem dX4_startsUnit_95 : decode cX4_startsUnit 95 = .ok (.iconst 1, 1) := dc_4 (bq_nm bk_X4_startsUnit_84 (j := 11) rfl rfl)
theorem dX4_startsUnit_96 : decode cX4_startsUnit 96 = .ok (.ireturn, 1) := dc_172 (bq_nm bk_X4_startsUnit_84 (j := 12) rfl rfl)
theorem dX4_startsUnit_97 : decode cX4_startsUnit 97 = .ok (.aload_n 0, 1) := dc_42 (bq_nm bk_X4_startsUnit_84 (j := 13) rfl rfl)
theorem dX4_startsUnit_98 : decode cX4_startsUnit 98 = .ok (.dup, 1) := dc_89 (bq_nm bk_X4_startsUnit_84 (j := 14) rfl rfl)
theorem dX4_startsUnit_99 : decode cX4_startsUnit 99 = .ok (.getfield 24, 3) := dc_180 (bq_nm bk_X4_startsUnit_84 (j := 15) rfl rfl) (bq_nm bk_X4_startsUnit_84 (j := 16) rfl rfl) (bq_nm bk_X4_startsUnit_84 (j := 17) rfl rfl) rfl
theorem dX4_startsUnit_102 : decode cX4_startsUnit 102 = .ok (.iconst 1, 1) := dc_4 (bq_nm bk_X4_startsUnit_84 (j := 18) rfl rfl)
theorem dX4_startsUnit_103 : decode cX4_startsUnit 103 = .ok (.iadd, 1) := dc_96 (bq_nm bk_X4_startsUnit_84 (j := 19) rfl rfl)
theorem dX4_startsUnit_104 : decode cX4_startsUnit 104 = .ok (.putfield 24, 3) := dc_181 (bq_nm bk_X4_startsUnit_84 (j := 20) rfl rfl) (bq_nm bk_X4_startsUnit_84 (j := 21) rfl rfl) (bq_nm bk_X4_startsUnit_84 (j := 22) rfl rfl) rfl
theorem dX4_startsUnit_107 : decode cX4_startsUnit 107 = .ok (.aload_n 0, 1) := dc_42 (bq_nm bk_X4_startsUnit_84 (j := 23) rfl rfl)
theorem dX4_startsUnit_108 : decode cX4_startsUnit 108 = .ok (.dup, 1) := dc_89 (bq_nm bk_X4_startsUnit_84 (j := 24) rfl rfl)
theorem dX4_startsUnit_109 : decode cX4_startsUnit 109 = .ok (.getfield 27, 3) := dc_180 (bq_nm bk_X4_startsUnit_84 (j := 25) rfl rfl) (bq_nm bk_X4_startsUnit_84 (j := 26) rfl rfl) (bq_nm bk_X4_startsUnit_84 (j := 27) rfl rfl) rfl
theorem dX4_startsUnit_112 : decode cX4_startsUnit 112 = .ok (.iconst 1, 1) := dc_4 (bq_nm bk_X4_startsUnit_84 (j := 28) rfl rfl)
theorem dX4_startsUnit_113 : decode cX4_startsUnit 113 = .ok (.aload_n 0, 1) := dc_42 (bq_nm bk_X4_startsUnit_84 (j := 29) rfl rfl)
set_option maxRecDepth 20000 in
theorem bk_X4_startsUnit_114 : ((cX4_startsUnit.data.toList.drop 114).take 32).length = 32 ∧ eN (((cX4_startsUnit.data.toList.drop 114).take 32).map UInt8.toNat) = 77805408798268331667039567880858600549695002939444626853074175871087355101364 := by decide +kernel
theorem dX4_startsUnit_114 : decode cX4_startsUnit 114 = .ok (.getfield 24, 3) := dc_180 (bq_nm bk_X4_startsUnit_114 (j := 0) rfl rfl) (bq_nm bk_X4_startsUnit_114 (j := 1) rfl rfl) (bq_nm bk_X4_startsUnit_114 (j := 2) rfl rfl) rfl
theorem dX4_startsUnit_117 : decode cX4_startsUnit 117 = .ok (.ishl, 1) := dc_120 (bq_nm bk_X4_startsUnit_114 (j := 3) rfl rfl)
theorem dX4_startsUnit_118 : decode cX4_startsUnit 118 = .ok (.iconst (-1), 1) := dc_2 (bq_nm bk_X4_startsUnit_114 (j := 4) rfl rfl)
theorem dX4_startsUnit_119 : decode cX4_startsUnit 119 = .ok (.ixor, 1) := dc_130 (bq_nm bk_X4_startsUnit_114 (j := 5) rfl rfl)
theorem dX4_startsUnit_120 : decode cX4_startsUnit 120 = .ok (.iand, 1) := dc_126 (bq_nm bk_X4_startsUnit_114 (j := 6) rfl rfl)
theorem dX4_startsUnit_121 : decode cX4_startsUnit 121 = .ok (.putfield 27, 3) := dc_181 (bq_nm bk_X4_startsUnit_114 (j := 7) rfl rfl) (bq_nm bk_X4_startsUnit_114 (j := 8) rfl rfl) (bq_nm bk_X4_startsUnit_114 (j := 9) rfl rfl) rfl
theorem dX4_startsUnit_124 : decode cX4_startsUnit 124 = .ok (.aload_n 0, 1) := dc_42 (bq_nm bk_X4_startsUnit_114 (j := 10) rfl rfl)
theorem dX4_startsUnit_125 : decode cX4_startsUnit 125 = .ok (.iload_n 2, 1) := dc_28 (bq_nm bk_X4_startsUnit_114 (j := 11) rfl rfl)
theorem dX4_startsUnit_126 : decode cX4_startsUnit 126 = .ok (.invokevirtual 77, 3) := dc_182 (bq_nm bk_X4_startsUnit_114 (j := 12) rfl rfl) (bq_nm bk_X4_startsUnit_114 (j := 13) rfl rfl) (bq_nm bk_X4_startsUnit_114 (j := 14) rfl rfl) rfl
theorem dX4_startsUnit_129 : decode cX4_startsUnit 129 = .ok (.iconst 1, 1) := dc_4 (bq_nm bk_X4_startsUnit_114 (j := 15) rfl rfl)
theorem dX4_startsUnit_130 : decode cX4_startsUnit 130 = .ok (.ireturn, 1) := dc_172 (bq_nm bk_X4_startsUnit_114 (j := 16) rfl rfl)
theorem dX4_startsUnit_131 : decode cX4_startsUnit 131 = .ok (.aload_n 0, 1) := dc_42 (bq_nm bk_X4_startsUnit_114 (j := 17) rfl rfl)
theorem dX4_startsUnit_132 : decode cX4_startsUnit 132 = .ok (.iload_n 2, 1) := dc_28 (bq_nm bk_X4_startsUnit_114 (j := 18) rfl rfl)
theorem dX4_startsUnit_133 : decode cX4_startsUnit 133 = .ok (.invokevirtual 77, 3) := dc_182 (bq_nm bk_X4_startsUnit_114 (j := 19) rfl rfl) (bq_nm bk_X4_startsUnit_114 (j := 20) rfl rfl) (bq_nm bk_X4_startsUnit_114 (j := 21) rfl rfl) rfl
theorem dX4_startsUnit_136 : decode cX4_startsUnit 136 = .ok (.iconst 1, 1) := dc_4 (bq_nm bk_X4_startsUnit_114 (j := 22) rfl rfl)
theorem dX4_startsUnit_137 : decode cX4_startsUnit 137 = .ok (.ireturn, 1) := dc_172 (bq_nm bk_X4_startsUnit_114 (j := 23) rfl rfl)
theorem dX4_startsUnit_138 : decode cX4_startsUnit 138 = .ok (.aload_n 0, 1) := dc_42 (bq_nm bk_X4_startsUnit_114 (j := 24) rfl rfl)
theorem dX4_startsUnit_139 : decode cX4_startsUnit 139 = .ok (.bipush 126, 2) := dc_16 (bq_nm bk_X4_startsUnit_114 (j := 25) rfl rfl) (bq_nm bk_X4_startsUnit_114 (j := 26) rfl rfl) rfl
theorem dX4_startsUnit_141 : decode cX4_startsUnit 141 = .ok (.invokevirtual 77, 3) := dc_182 (bq_nm bk_X4_startsUnit_114 (j := 27) rfl rfl) (bq_nm bk_X4_startsUnit_114 (j := 28) rfl rfl) (bq_nm bk_X4_startsUnit_114 (j := 29) rfl rfl) rfl
theorem dX4_startsUnit_144 : decode cX4_startsUnit 144 = .ok (.iconst 1, 1) := dc_4 (bq_nm bk_X4_startsUnit_114 (j := 30) rfl rfl)
theorem dX4_startsUnit_145 : decode cX4_startsUnit 145 = .ok (.ireturn, 1) := dc_172 (bq_nm bk_X4_startsUnit_114 (j := 31) rfl rfl)
set_option maxRecDepth 20000 in
theorem bk_X4_startsUnit_146 : ((cX4_startsUnit.data.toList.drop 146).take 2).length = 2 ∧ eN (((cX4_startsUnit.data.toList.drop 146).take 2).map UInt8.toNat) = 44035 := by decide +kernel
theorem dX4_startsUnit_146 : decode cX4_startsUnit 146 = .ok (.iconst 0, 1) := dc_3 (bq_nm bk_X4_startsUnit_146 (j := 0) rfl rfl)
theorem dX4_startsUnit_147 : decode cX4_startsUnit 147 = .ok (.ireturn, 1) := dc_172 (bq_nm bk_X4_startsUnit_146 (j := 1) rfl rfl)
set_option maxRecDepth 20000 in
theorem bk_X4_goesOn_0 : ((cX4_goesOn.data.toList.drop 0).take 30).length = 30 ∧ eN (((cX4_goesOn.data.toList.drop 0).take 30).map UInt8.toNat) = 165660885856663467877512380916477592663561500363196938191698315480469532 := by decide +kernel
theorem dX4_goesOn_0 : decode cX4_goesOn 0 = .ok (.iload_n 2, 1) := dc_28 (bq_nm bk_X4_goesOn_0 (j := 0) rfl rfl)
theorem dX4_goesOn_1 : decode cX4_goesOn 1 = .ok (.bipush 41, 2) := dc_16 (bq_nm bk_X4_goesOn_0 (j := 1) rfl rfl) (bq_nm bk_X4_goesOn_0 (j := 2) rfl rfl) rfl
theorem dX4_goesOn_3 : decode cX4_goesOn 3 = .ok (.if_icmp .ne 9, 3) := dc_160 (bq_nm bk_X4_goesOn_0 (j := 3) rfl rfl) (bq_nm bk_X4_goesOn_0 (j := 4) rfl rfl) (bq_nm bk_X4_goesOn_0 (j := 5) rfl rfl) rfl
theorem dX4_goesOn_6 : decode cX4_goesOn 6 = .ok (.aload_n 0, 1) := dc_42 (bq_nm bk_X4_goesOn_0 (j := 6) rfl rfl)
theorem dX4_goesOn_7 : decode cX4_goesOn 7 = .ok (.aload_n 1, 1) := dc_43 (bq_nm bk_X4_goesOn_0 (j := 7) rfl rfl)
theorem dX4_goesOn_8 : decode cX4_goesOn 8 = .ok (.invokevirtual 80, 3) := dc_182 (bq_nm bk_X4_goesOn_0 (j := 8) rfl rfl) (bq_nm bk_X4_goesOn_0 (j := 9) rfl rfl) (bq_nm bk_X4_goesOn_0 (j := 10) rfl rfl) rfl
theorem dX4_goesOn_11 : decode cX4_goesOn 11 = .ok (.ireturn, 1) := dc_172 (bq_nm bk_X4_goesOn_0 (j := 11) rfl rfl)
theorem dX4_goesOn_12 : decode cX4_goesOn 12 = .ok (.iload_n 2, 1) := dc_28 (bq_nm bk_X4_goesOn_0 (j := 12) rfl rfl)
theorem dX4_goesOn_13 : decode cX4_goesOn 13 = .ok (.invokestatic 84, 3) := dc_184 (bq_nm bk_X4_goesOn_0 (j := 13) rfl rfl) (bq_nm bk_X4_goesOn_0 (j := 14) rfl rfl) (bq_nm bk_X4_goesOn_0 (j := 15) rfl rfl) rfl
theorem dX4_goesOn_16 : decode cX4_goesOn 16 = .ok (.istore_n 3, 1) := dc_62 (bq_nm bk_X4_goesOn_0 (j := 16) rfl rfl)
theorem dX4_goesOn_17 : decode cX4_goesOn 17 = .ok (.iload_n 3, 1) := dc_29 (bq_nm bk_X4_goesOn_0 (j := 17) rfl rfl)
theorem dX4_goesOn_18 : decode cX4_goesOn 18 = .ok (.iconst 3, 1) := dc_6 (bq_nm bk_X4_goesOn_0 (j := 18) rfl rfl)
theorem dX4_goesOn_19 : decode cX4_goesOn 19 = .ok (.if_icmp .ne 21, 3) := dc_160 (bq_nm bk_X4_goesOn_0 (j := 19) rfl rfl) (bq_nm bk_X4_goesOn_0 (j := 20) rfl rfl) (bq_nm bk_X4_goesOn_0 (j := 21) rfl rfl) rfl
theorem dX4_goesOn_22 : decode cX4_goesOn 22 = .ok (.aload_n 0, 1) := dc_42 (bq_nm bk_X4_goesOn_0 (j := 22) rfl rfl)
theorem dX4_goesOn_23 : decode cX4_goesOn 23 = .ok (.getfield 27, 3) := dc_180 (bq_nm bk_X4_goesOn_0 (j := 23) rfl rfl) (bq_nm bk_X4_goesOn_0 (j := 24) rfl rfl) (bq_nm bk_X4_goesOn_0 (j := 25) rfl rfl) rfl
theorem dX4_goesOn_26 : decode cX4_goesOn 26 = .ok (.aload_n 0, 1) := dc_42 (bq_nm bk_X4_goesOn_0 (j := 26) rfl rfl)
theorem dX4_goesOn_27 : decode cX4_goesOn 27 = .ok (.getfield 24, 3) := dc_180 (bq_nm bk_X4_goesOn_0 (j := 27) rfl rfl) (bq_nm bk_X4_goesOn_0 (j := 28) rfl rfl) (bq_nm bk_X4_goesOn_0 (j := 29) rfl rfl) rfl
set_option maxRecDepth 20000 in
theorem bk_X4_goesOn_30 : ((cX4_goesOn.data.toList.drop 30).take 32).length = 32 ∧ eN (((cX4_goesOn.data.toList.drop 30).take 32).map UInt8.toNat) = 2766302838156466799708868233135240724688671426589102220347898350052534845624 := by decide +kernel
theorem dX4_goesOn_30 : decode cX4_goesOn 30 = .ok (.invokestatic 87, 3) := dc_184 (bq_nm bk_X4_goesOn_30 (j := 0) rfl rfl) (bq_nm bk_X4_goesOn_30 (j := 1) rfl rfl) (bq_nm bk_X4_goesOn_30 (j := 2) rfl rfl) rfl
theorem dX4_goesOn_33 : decode cX4_goesOn 33 = .ok (.ifCond .eq 7, 3) := dc_153 (bq_nm bk_X4_goesOn_30 (j := 3) rfl rfl) (bq_nm bk_X4_goesOn_30 (j := 4) rfl rfl) (bq_nm bk_X4_goesOn_30 (j := 5) rfl rfl) rfl
theorem dX4_goesOn_36 : decode cX4_goesOn 36 = .ok (.iconst 1, 1) := dc_4 (bq_nm bk_X4_goesOn_30 (j := 6) rfl rfl)
theorem dX4_goesOn_37 : decode cX4_goesOn 37 = .ok (.goto 4, 3) := dc_167 (bq_nm bk_X4_goesOn_30 (j := 7) rfl rfl) (bq_nm bk_X4_goesOn_30 (j := 8) rfl rfl) (bq_nm bk_X4_goesOn_30 (j := 9) rfl rfl) rfl
theorem dX4_goesOn_40 : decode cX4_goesOn 40 = .ok (.iconst 0, 1) := dc_3 (bq_nm bk_X4_goesOn_30 (j := 10) rfl rfl)
theorem dX4_goesOn_41 : decode cX4_goesOn 41 = .ok (.istore 4, 2) := dc_54 (bq_nm bk_X4_goesOn_30 (j := 11) rfl rfl) (bq_nm bk_X4_goesOn_30 (j := 12) rfl rfl)
theorem dX4_goesOn_43 : decode cX4_goesOn 43 = .ok (.iload_n 3, 1) := dc_29 (bq_nm bk_X4_goesOn_30 (j := 13) rfl rfl)
theorem dX4_goesOn_44 : decode cX4_goesOn 44 = .ok (.ifCond .eq 14, 3) := dc_153 (bq_nm bk_X4_goesOn_30 (j := 14) rfl rfl) (bq_nm bk_X4_goesOn_30 (j := 15) rfl rfl) (bq_nm bk_X4_goesOn_30 (j := 16) rfl rfl) rfl
theorem dX4_goesOn_47 : decode cX4_goesOn 47 = .ok (.iload_n 3, 1) := dc_29 (bq_nm bk_X4_goesOn_30 (j := 17) rfl rfl)
theorem dX4_goesOn_48 : decode cX4_goesOn 48 = .ok (.bipush 6, 2) := dc_16 (bq_nm bk_X4_goesOn_30 (j := 18) rfl rfl) (bq_nm bk_X4_goesOn_30 (j := 19) rfl rfl) rfl
theorem dX4_goesOn_50 : decode cX4_goesOn 50 = .ok (.if_icmp .eq 8, 3) := dc_159 (bq_nm bk_X4_goesOn_30 (j := 20) rfl rfl) (bq_nm bk_X4_goesOn_30 (j := 21) rfl rfl) (bq_nm bk_X4_goesOn_30 (j := 22) rfl rfl) rfl
theorem dX4_goesOn_53 : decode cX4_goesOn 53 = .ok (.iload 4, 2) := dc_21 (bq_nm bk_X4_goesOn_30 (j := 23) rfl rfl) (bq_nm bk_X4_goesOn_30 (j := 24) rfl rfl)
theorem dX4_goesOn_55 : decode cX4_goesOn 55 = .ok (.ifCond .eq 5, 3) := dc_153 (bq_nm bk_X4_goesOn_30 (j := 25) rfl rfl) (bq_nm bk_X4_goesOn_30 (j := 26) rfl rfl) (bq_nm bk_X4_goesOn_30 (j := 27) rfl rfl) rfl
theorem dX4_goesOn_58 : decode cX4_goesOn 58 = .ok (.iconst 0, 1) := dc_3 (bq_nm bk_X4_goesOn_30 (j := 28) rfl rfl)
theorem dX4_goesOn_59 : decode cX4_goesOn 59 = .ok (.ireturn, 1) := dc_172 (bq_nm bk_X4_goesOn_30 (j := 29) rfl rfl)
theorem dX4_goesOn_60 : decode cX4_goesOn 60 = .ok (.iload_n 3, 1) := dc_29 (bq_nm bk_X4_goesOn_30 (j := 30) rfl rfl)
theorem dX4_goesOn_61 : decode cX4_goesOn 61 = .ok (.iconst 3, 1) := dc_6 (bq_nm bk_X4_goesOn_30 (j := 31) rfl rfl)
set_option maxRecDepth 20000 in
theorem bk_X4_goesOn_62 : ((cX4_goesOn.data.toList.drop 62).take 32).length = 32 ∧ eN (((cX4_goesOn.data.toList.drop 62).take 32).map UInt8.toNat) = 1856961127262585916594370187187997186977263972612510215396906556691087425696 := by decide +kernel
theorem dX4_goesOn_62 : decode cX4_goesOn 62 = .ok (.if_icmp .ne 21, 3) := dc_160 (bq_nm bk_X4_goesOn_62 (j := 0) rfl rfl) (bq_nm bk_X4_goesOn_62 (j := 1) rfl rfl) (bq_nm bk_X4_goesOn_62 (j := 2) rfl rfl) rfl
theorem dX4_goesOn_65 : decode cX4_goesOn 65 = .ok (.aload_n 0, 1) := dc_42 (bq_nm bk_X4_goesOn_62 (j := 3) rfl rfl)
theorem dX4_goesOn_66 : decode cX4_goesOn 66 = .ok (.dup, 1) := dc_89 (bq_nm bk_X4_goesOn_62 (j := 4) rfl rfl)
theorem dX4_goesOn_67 : decode cX4_goesOn 67 = .ok (.getfield 27, 3) := dc_180 (bq_nm bk_X4_goesOn_62 (j := 5) rfl rfl) (bq_nm bk_X4_goesOn_62 (j := 6) rfl rfl) (bq_nm bk_X4_goesOn_62 (j := 7) rfl rfl) rfl
theorem dX4_goesOn_70 : decode cX4_goesOn 70 = .ok (.iconst 1, 1) := dc_4 (bq_nm bk_X4_goesOn_62 (j := 8) rfl rfl)
theorem dX4_goesOn_71 : decode cX4_goesOn 71 = .ok (.aload_n 0, 1) := dc_42 (bq_nm bk_X4_goesOn_62 (j := 9) rfl rfl)
theorem dX4_goesOn_72 : decode cX4_goesOn 72 = .ok (.getfield 24, 3) := dc_180 (bq_nm bk_X4_goesOn_62 (j := 10) rfl rfl) (bq_nm bk_X4_goesOn_62 (j := 11) rfl rfl) (bq_nm bk_X4_goesOn_62 (j := 12) rfl rfl) rfl
theorem dX4_goesOn_75 : decode cX4_goesOn 75 = .ok (.ishl, 1) := dc_120 (bq_nm bk_X4_goesOn_62 (j := 13) rfl rfl)
theorem dX4_goesOn_76 : decode cX4_goesOn 76 = .ok (.ior, 1) := dc_128 (bq_nm bk_X4_goesOn_62 (j := 14) rfl rfl)
theorem dX4_goesOn_77 : decode cX4_goesOn 77 = .ok (.putfield 27, 3) := dc_181 (bq_nm bk_X4_goesOn_62 (j := 15) rfl rfl) (bq_nm bk_X4_goesOn_62 (j := 16) rfl rfl) (bq_nm bk_X4_goesOn_62 (j := 17) rfl rfl) rfl
theorem dX4_goesOn_80 : decode cX4_goesOn 80 = .ok (.goto 25, 3) := dc_167 (bq_nm bk_X4_goesOn_62 (j := 18) rfl rfl) (bq_nm bk_X4_goesOn_62 (j := 19) rfl rfl) (bq_nm bk_X4_goesOn_62 (j := 20) rfl rfl) rfl
theorem dX4_goesOn_83 : decode cX4_goesOn 83 = .ok (.iload_n 3, 1) := dc_29 (bq_nm bk_X4_goesOn_62 (j := 21) rfl rfl)
theorem dX4_goesOn_84 : decode cX4_goesOn 84 = .ok (.iconst 3, 1) := dc_6 (bq_nm bk_X4_goesOn_62 (j := 22) rfl rfl)
theorem dX4_goesOn_85 : decode cX4_goesOn 85 = .ok (.if_icmp .ge 20, 3) := dc_162 (bq_nm bk_X4_goesOn_62 (j := 23) rfl rfl) (bq_nm bk_X4_goesOn_62 (j := 24) rfl rfl) (bq_nm bk_X4_goesOn_62 (j := 25) rfl rfl) rfl
theorem dX4_goesOn_88 : decode cX4_goesOn 88 = .ok (.aload_n 0, 1) := dc_42 (bq_nm bk_X4_goesOn_62 (j := 26) rfl rfl)
theorem dX4_goesOn_89 : decode cX4_goesOn 89 = .ok (.dup, 1) := dc_89 (bq_nm bk_X4_goesOn_62 (j := 27) rfl rfl)
theorem dX4_goesOn_90 : decode cX4_goesOn 90 = .ok (.getfield 27, 3) := dc_180 (bq_nm bk_X4_goesOn_62 (j := 28) rfl rfl) (bq_nm bk_X4_goesOn_62 (j := 29) rfl rfl) (bq_nm bk_X4_goesOn_62 (j := 30) rfl rfl) rfl
theorem dX4_goesOn_93 : decode cX4_goesOn 93 = .ok (.iconst 1, 1) := dc_4 (bq_nm bk_X4_goesOn_62 (j := 31) rfl rfl)
set_option maxRecDepth 20000 in
theorem bk_X4_goesOn_94 : ((cX4_goesOn.data.toList.drop 94).take 29).length = 29 ∧ eN (((cX4_goesOn.data.toList.drop 94).take 29).map UInt8.toNat) = 4637544418337021727905393776937917736985613960769127528483711789085738 := by decide +kernel
theorem dX4_goesOn_94 : decode cX4_goesOn 94 = .ok (.aload_n 0, 1) := dc_42 (bq_nm bk_X4_goesOn_94 (j := 0) rfl rfl)
theorem dX4_goesOn_95 : decode cX4_goesOn 95 = .ok (.getfield 24, 3) := dc_180 (bq_nm bk_X4_goesOn_94 (j := 1) rfl rfl) (bq_nm bk_X4_goesOn_94 (j := 2) rfl rfl) (bq_nm bk_X4_goesOn_94 (j := 3) rfl rfl) rfl
theorem dX4_goesOn_98 : decode cX4_goesOn 98 = .ok (.ishl, 1) := dc_120 (bq_nm bk_X4_goesOn_94 (j := 4) rfl rfl)
theorem dX4_goesOn_99 : decode cX4_goesOn 99 = .ok (.iconst (-1), 1) := dc_2 (bq_nm bk_X4_goesOn_94 (j := 5) rfl rfl)
theorem dX4_goesOn_100 : decode cX4_goesOn 100 = .ok (.ixor, 1) := dc_130 (bq_nm bk_X4_goesOn_94 (j := 6) rfl rfl)
theorem dX4_goesOn_101 : decode cX4_goesOn 101 = .ok (.iand, 1) := dc_126 (bq_nm bk_X4_goesOn_94 (j := 7) rfl rfl)
theorem dX4_goesOn_102 : decode cX4_goesOn 102 = .ok (.putfield 27, 3) := dc_181 (bq_nm bk_X4_goesOn_94 (j := 8) rfl rfl) (bq_nm bk_X4_goesOn_94 (j := 9) rfl rfl) (bq_nm bk_X4_goesOn_94 (j := 10) rfl rfl) rfl
theorem dX4_goesOn_105 : decode cX4_goesOn 105 = .ok (.aload_n 0, 1) := dc_42 (bq_nm bk_X4_goesOn_94 (j := 11) rfl rfl)
theorem dX4_goesOn_106 : decode cX4_goesOn 106 = .ok (.aload_n 1, 1) := dc_43 (bq_nm bk_X4_goesOn_94 (j := 12) rfl rfl)
theorem dX4_goesOn_107 : decode cX4_goesOn 107 = .ok (.iload_n 3, 1) := dc_29 (bq_nm bk_X4_goesOn_94 (j := 13) rfl rfl)
theorem dX4_goesOn_108 : decode cX4_goesOn 108 = .ok (.invokevirtual 73, 3) := dc_182 (bq_nm bk_X4_goesOn_94 (j := 14) rfl rfl) (bq_nm bk_X4_goesOn_94 (j := 15) rfl rfl) (bq_nm bk_X4_goesOn_94 (j := 16) rfl rfl) rfl
theorem dX4_goesOn_111 : decode cX4_goesOn 111 = .ok (.aload_n 0, 1) := dc_42 (bq_nm bk_X4_goesOn_94 (j := 17) rfl rfl)
theorem dX4_goesOn_112 : decode cX4_goesOn 112 = .ok (.iload_n 2, 1) := dc_28 (bq_nm bk_X4_goesOn_94 (j := 18) rfl rfl)
theorem dX4_goesOn_113 : decode cX4_goesOn 113 = .ok (.invokevirtual 77, 3) := dc_182 (bq_nm bk_X4_goesOn_94 (j := 19) rfl rfl) (bq_nm bk_X4_goesOn_94 (j := 20) rfl rfl) (bq_nm bk_X4_goesOn_94 (j := 21) rfl rfl) rfl
theorem dX4_goesOn_116 : decode cX4_goesOn 116 = .ok (.aload_n 0, 1) := dc_42 (bq_nm bk_X4_goesOn_94 (j := 22) rfl rfl)
theorem dX4_goesOn_117 : decode cX4_goesOn 117 = .ok (.iconst 1, 1) := dc_4 (bq_nm bk_X4_goesOn_94 (j := 23) rfl rfl)
theorem dX4_goesOn_118 : decode cX4_goesOn 118 = .ok (.putfield 30, 3) := dc_181 (bq_nm bk_X4_goesOn_94 (j := 24) rfl rfl) (bq_nm bk_X4_goesOn_94 (j := 25) rfl rfl) (bq_nm bk_X4_goesOn_94 (j := 26) rfl rfl) rfl
theorem dX4_goesOn_121 : decode cX4_goesOn 121 = .ok (.iconst 1, 1) := dc_4 (bq_nm bk_X4_goesOn_94 (j := 27) rfl rfl)
theorem dX4_goesOn_122 : decode cX4_goesOn 122 = .ok (.ireturn, 1) := dc_172 (bq_nm bk_X4_goesOn_94 (j := 28) rfl rfl)
set_option maxRecDepth 20000 in
theorem bk_X4_closes_0 : ((cX4_closes.data.toList.drop 0).take 32).length = 32 ∧ eN (((cX4_closes.data.toList.drop 0).take 32).map UInt8.toNat) = 1844593192843451655341237633941673915899655220313600990435708131821226079274 := by decide +kernel
theorem dX4_closes_0 : decode cX4_closes 0 = .ok (.aload_n 0, 1) := dc_42 (bq_nm bk_X4_closes_0 (j := 0) rfl rfl)
theorem dX4_closes_1 : decode cX4_closes 1 = .ok (.getfield 24, 3) := dc_180 (bq_nm bk_X4_closes_0 (j := 1) rfl rfl) (bq_nm bk_X4_closes_0 (j := 2) rfl rfl) (bq_nm bk_X4_closes_0 (j := 3) rfl rfl) rfl
theorem dX4_closes_4 : decode cX4_closes 4 = .ok (.ifCond .ne 5, 3) := dc_154 (bq_nm bk_X4_closes_0 (j := 4) rfl rfl) (bq_nm bk_X4_closes_0 (j := 5) rfl rfl) (bq_nm bk_X4_closes_0 (j := 6) rfl rfl) rfl
theorem dX4_closes_7 : decode cX4_closes 7 = .ok (.iconst 0, 1) := dc_3 (bq_nm bk_X4_closes_0 (j := 7) rfl rfl)
theorem dX4_closes_8 : decode cX4_closes 8 = .ok (.ireturn, 1) := dc_172 (bq_nm bk_X4_closes_0 (j := 8) rfl rfl)
theorem dX4_closes_9 : decode cX4_closes 9 = .ok (.aload_n 0, 1) := dc_42 (bq_nm bk_X4_closes_0 (j := 9) rfl rfl)
theorem dX4_closes_10 : decode cX4_closes 10 = .ok (.dup, 1) := dc_89 (bq_nm bk_X4_closes_0 (j := 10) rfl rfl)
theorem dX4_closes_11 : decode cX4_closes 11 = .ok (.getfield 24, 3) := dc_180 (bq_nm bk_X4_closes_0 (j := 11) rfl rfl) (bq_nm bk_X4_closes_0 (j := 12) rfl rfl) (bq_nm bk_X4_closes_0 (j := 13) rfl rfl) rfl
theorem dX4_closes_14 : decode cX4_closes 14 = .ok (.iconst 1, 1) := dc_4 (bq_nm bk_X4_closes_0 (j := 14) rfl rfl)
theorem dX4_closes_15 : decode cX4_closes 15 = .ok (.isub, 1) := dc_100 (bq_nm bk_X4_closes_0 (j := 15) rfl rfl)
theorem dX4_closes_16 : decode cX4_closes 16 = .ok (.putfield 24, 3) := dc_181 (bq_nm bk_X4_closes_0 (j := 16) rfl rfl) (bq_nm bk_X4_closes_0 (j := 17) rfl rfl) (bq_nm bk_X4_closes_0 (j := 18) rfl rfl) rfl
theorem dX4_closes_19 : decode cX4_closes 19 = .ok (.aload_n 0, 1) := dc_42 (bq_nm bk_X4_closes_0 (j := 19) rfl rfl)
theorem dX4_closes_20 : decode cX4_closes 20 = .ok (.aload_n 1, 1) := dc_43 (bq_nm bk_X4_closes_0 (j := 20) rfl rfl)
theorem dX4_closes_21 : decode cX4_closes 21 = .ok (.iconst 1, 1) := dc_4 (bq_nm bk_X4_closes_0 (j := 21) rfl rfl)
theorem dX4_closes_22 : decode cX4_closes 22 = .ok (.invokevirtual 73, 3) := dc_182 (bq_nm bk_X4_closes_0 (j := 22) rfl rfl) (bq_nm bk_X4_closes_0 (j := 23) rfl rfl) (bq_nm bk_X4_closes_0 (j := 24) rfl rfl) rfl
theorem dX4_closes_25 : decode cX4_closes 25 = .ok (.aload_n 0, 1) := dc_42 (bq_nm bk_X4_closes_0 (j := 25) rfl rfl)
theorem dX4_closes_26 : decode cX4_closes 26 = .ok (.iconst 0, 1) := dc_3 (bq_nm bk_X4_closes_0 (j := 26) rfl rfl)
theorem dX4_closes_27 : decode cX4_closes 27 = .ok (.aload_n 0, 1) := dc_42 (bq_nm bk_X4_closes_0 (j := 27) rfl rfl)
theorem dX4_closes_28 : decode cX4_closes 28 = .ok (.getfield 20, 3) := dc_180 (bq_nm bk_X4_closes_0 (j := 28) rfl rfl) (bq_nm bk_X4_closes_0 (j := 29) rfl rfl) (bq_nm bk_X4_closes_0 (j := 30) rfl rfl) rfl
theorem dX4_closes_31 : decode cX4_closes 31 = .ok (.iconst 1, 1) := dc_4 (bq_nm bk_X4_closes_0 (j := 31) rfl rfl)
set_option maxRecDepth 20000 in
theorem bk_X4_closes_32 : ((cX4_closes.data.toList.drop 32).take 9).length = 9 ∧ eN (((cX4_closes.data.toList.drop 32).take 9).map UInt8.toNat) = 3173133841332091009124 := by decide +kernel
theorem dX4_closes_32 : decode cX4_closes 32 = .ok (.isub, 1) := dc_100 (bq_nm bk_X4_closes_32 (j := 0) rfl rfl)
theorem dX4_closes_33 : decode cX4_closes 33 = .ok (.invokestatic 58, 3) := dc_184 (bq_nm bk_X4_closes_32 (j := 1) rfl rfl) (bq_nm bk_X4_closes_32 (j := 2) rfl rfl) (bq_nm bk_X4_closes_32 (j := 3) rfl rfl) rfl
theorem dX4_closes_36 : decode cX4_closes 36 = .ok (.putfield 20, 3) := dc_181 (bq_nm bk_X4_closes_32 (j := 4) rfl rfl) (bq_nm bk_X4_closes_32 (j := 5) rfl rfl) (bq_nm bk_X4_closes_32 (j := 6) rfl rfl) rfl
theorem dX4_closes_39 : decode cX4_closes 39 = .ok (.iconst 1, 1) := dc_4 (bq_nm bk_X4_closes_32 (j := 7) rfl rfl)
theorem dX4_closes_40 : decode cX4_closes 40 = .ok (.ireturn, 1) := dc_172 (bq_nm bk_X4_closes_32 (j := 8) rfl rfl)
set_option maxRecDepth 20000 in
theorem bk_X4_hold_0 : ((cX4_hold.data.toList.drop 0).take 30).length = 30 ∧ eN (((cX4_hold.data.toList.drop 0).take 30).map UInt8.toNat) = 1222148376928645673078272536332308327529609635492802983937952909952594986 := by decide +kernel
theorem dX4_hold_0 : decode cX4_hold 0 = .ok (.aload_n 0, 1) := dc_42 (bq_nm bk_X4_hold_0 (j := 0) rfl rfl)
theorem dX4_hold_1 : decode cX4_hold 1 = .ok (.getfield 20, 3) := dc_180 (bq_nm bk_X4_hold_0 (j := 1) rfl rfl) (bq_nm bk_X4_hold_0 (j := 2) rfl rfl) (bq_nm bk_X4_hold_0 (j := 3) rfl rfl) rfl
theorem dX4_hold_4 : decode cX4_hold 4 = .ok (.bipush 50, 2) := dc_16 (bq_nm bk_X4_hold_0 (j := 4) rfl rfl) (bq_nm bk_X4_hold_0 (j := 5) rfl rfl) rfl
theorem dX4_hold_6 : decode cX4_hold 6 = .ok (.if_icmp .ge 23, 3) := dc_162 (bq_nm bk_X4_hold_0 (j := 6) rfl rfl) (bq_nm bk_X4_hold_0 (j := 7) rfl rfl) (bq_nm bk_X4_hold_0 (j := 8) rfl rfl) rfl
theorem dX4_hold_9 : decode cX4_hold 9 = .ok (.aload_n 0, 1) := dc_42 (bq_nm bk_X4_hold_0 (j := 9) rfl rfl)
theorem dX4_hold_10 : decode cX4_hold 10 = .ok (.getfield 9, 3) := dc_180 (bq_nm bk_X4_hold_0 (j := 10) rfl rfl) (bq_nm bk_X4_hold_0 (j := 11) rfl rfl) (bq_nm bk_X4_hold_0 (j := 12) rfl rfl) rfl
theorem dX4_hold_13 : decode cX4_hold 13 = .ok (.aload_n 0, 1) := dc_42 (bq_nm bk_X4_hold_0 (j := 13) rfl rfl)
theorem dX4_hold_14 : decode cX4_hold 14 = .ok (.getfield 20, 3) := dc_180 (bq_nm bk_X4_hold_0 (j := 14) rfl rfl) (bq_nm bk_X4_hold_0 (j := 15) rfl rfl) (bq_nm bk_X4_hold_0 (j := 16) rfl rfl) rfl
theorem dX4_hold_17 : decode cX4_hold 17 = .ok (.iload_n 1, 1) := dc_27 (bq_nm bk_X4_hold_0 (j := 17) rfl rfl)
theorem dX4_hold_18 : decode cX4_hold 18 = .ok (.iastore, 1) := dc_79 (bq_nm bk_X4_hold_0 (j := 18) rfl rfl)
theorem dX4_hold_19 : decode cX4_hold 19 = .ok (.aload_n 0, 1) := dc_42 (bq_nm bk_X4_hold_0 (j := 19) rfl rfl)
theorem dX4_hold_20 : decode cX4_hold 20 = .ok (.dup, 1) := dc_89 (bq_nm bk_X4_hold_0 (j := 20) rfl rfl)
theorem dX4_hold_21 : decode cX4_hold 21 = .ok (.getfield 20, 3) := dc_180 (bq_nm bk_X4_hold_0 (j := 21) rfl rfl) (bq_nm bk_X4_hold_0 (j := 22) rfl rfl) (bq_nm bk_X4_hold_0 (j := 23) rfl rfl) rfl
theorem dX4_hold_24 : decode cX4_hold 24 = .ok (.iconst 1, 1) := dc_4 (bq_nm bk_X4_hold_0 (j := 24) rfl rfl)
theorem dX4_hold_25 : decode cX4_hold 25 = .ok (.iadd, 1) := dc_96 (bq_nm bk_X4_hold_0 (j := 25) rfl rfl)
theorem dX4_hold_26 : decode cX4_hold 26 = .ok (.putfield 20, 3) := dc_181 (bq_nm bk_X4_hold_0 (j := 26) rfl rfl) (bq_nm bk_X4_hold_0 (j := 27) rfl rfl) (bq_nm bk_X4_hold_0 (j := 28) rfl rfl) rfl
theorem dX4_hold_29 : decode cX4_hold 29 = .ok (.return_, 1) := dc_177 (bq_nm bk_X4_hold_0 (j := 29) rfl rfl)
set_option maxRecDepth 20000 in
theorem bk_X4_release_0 : ((cX4_release.data.toList.drop 0).take 32).length = 32 ∧ eN (((cX4_release.data.toList.drop 0).take 32).map UInt8.toNat) = 45238490300505580842393530618588064253270620248979803046706018576022231888938 := by decide +kernel
theorem dX4_release_0 : decode cX4_release 0 = .ok (.aload_n 0, 1) := dc_42 (bq_nm bk_X4_release_0 (j := 0) rfl rfl)
theorem dX4_release_1 : decode cX4_release 1 = .ok (.getfield 20, 3) := dc_180 (bq_nm bk_X4_release_0 (j := 1) rfl rfl) (bq_nm bk_X4_release_0 (j := 2) rfl rfl) (bq_nm bk_X4_release_0 (j := 3) rfl rfl) rfl
theorem dX4_release_4 : decode cX4_release 4 = .ok (.ifCond .le 48, 3) := dc_158 (bq_nm bk_X4_release_0 (j := 4) rfl rfl) (bq_nm bk_X4_release_0 (j := 5) rfl rfl) (bq_nm bk_X4_release_0 (j := 6) rfl rfl) rfl
theorem dX4_release_7 : decode cX4_release 7 = .ok (.aload_n 0, 1) := dc_42 (bq_nm bk_X4_release_0 (j := 7) rfl rfl)
theorem dX4_release_8 : decode cX4_release 8 = .ok (.getfield 9, 3) := dc_180 (bq_nm bk_X4_release_0 (j := 8) rfl rfl) (bq_nm bk_X4_release_0 (j := 9) rfl rfl) (bq_nm bk_X4_release_0 (j := 10) rfl rfl) rfl
theorem dX4_release_11 : decode cX4_release 11 = .ok (.aload_n 0, 1) := dc_42 (bq_nm bk_X4_release_0 (j := 11) rfl rfl)
theorem dX4_release_12 : decode cX4_release 12 = .ok (.getfield 20, 3) := dc_180 (bq_nm bk_X4_release_0 (j := 12) rfl rfl) (bq_nm bk_X4_release_0 (j := 13) rfl rfl) (bq_nm bk_X4_release_0 (j := 14) rfl rfl) rfl
theorem dX4_release_15 : decode cX4_release 15 = .ok (.iconst 1, 1) := dc_4 (bq_nm bk_X4_release_0 (j := 15) rfl rfl)
theorem dX4_release_16 : decode cX4_release 16 = .ok (.isub, 1) := dc_100 (bq_nm bk_X4_release_0 (j := 16) rfl rfl)
theorem dX4_release_17 : decode cX4_release 17 = .ok (.iaload, 1) := dc_46 (bq_nm bk_X4_release_0 (j := 17) rfl rfl)
theorem dX4_release_18 : decode cX4_release 18 = .ok (.invokestatic 84, 3) := dc_184 (bq_nm bk_X4_release_0 (j := 18) rfl rfl) (bq_nm bk_X4_release_0 (j := 19) rfl rfl) (bq_nm bk_X4_release_0 (j := 20) rfl rfl) rfl
theorem dX4_release_21 : decode cX4_release 21 = .ok (.iload_n 2, 1) := dc_28 (bq_nm bk_X4_release_0 (j := 21) rfl rfl)
theorem dX4_release_22 : decode cX4_release 22 = .ok (.if_icmp .lt 30, 3) := dc_161 (bq_nm bk_X4_release_0 (j := 22) rfl rfl) (bq_nm bk_X4_release_0 (j := 23) rfl rfl) (bq_nm bk_X4_release_0 (j := 24) rfl rfl) rfl
theorem dX4_release_25 : decode cX4_release 25 = .ok (.aload_n 0, 1) := dc_42 (bq_nm bk_X4_release_0 (j := 25) rfl rfl)
theorem dX4_release_26 : decode cX4_release 26 = .ok (.dup, 1) := dc_89 (bq_nm bk_X4_release_0 (j := 26) rfl rfl)
theorem dX4_release_27 : decode cX4_release 27 = .ok (.getfield 20, 3) := dc_180 (bq_nm bk_X4_release_0 (j := 27) rfl rfl) (bq_nm bk_X4_release_0 (j := 28) rfl rfl) (bq_nm bk_X4_release_0 (j := 29) rfl rfl) rfl
theorem dX4_release_30 : decode cX4_release 30 = .ok (.iconst 1, 1) := dc_4 (bq_nm bk_X4_release_0 (j := 30) rfl rfl)
theorem dX4_release_31 : decode cX4_release 31 = .ok (.isub, 1) := dc_100 (bq_nm bk_X4_release_0 (j := 31) rfl rfl)
set_option maxRecDepth 20000 in
theorem bk_X4_release_32 : ((cX4_release.data.toList.drop 32).take 21).length = 21 ∧ eN (((cX4_release.data.toList.drop 32).take 21).map UInt8.toNat) = 259873252153283922384599888183735374551441128816821 := by decide +kernel
theorem dX4_release_32 : decode cX4_release 32 = .ok (.putfield 20, 3) := dc_181 (bq_nm bk_X4_release_32 (j := 0) rfl rfl) (bq_nm bk_X4_release_32 (j := 1) rfl rfl) (bq_nm bk_X4_release_32 (j := 2) rfl rfl) rfl
theorem dX4_release_35 : decode cX4_release 35 = .ok (.aload_n 1, 1) := dc_43 (bq_nm bk_X4_release_32 (j := 3) rfl rfl)
theorem dX4_release_36 : decode cX4_release 36 = .ok (.aload_n 0, 1) := dc_42 (bq_nm bk_X4_release_32 (j := 4) rfl rfl)
theorem dX4_release_37 : decode cX4_release 37 = .ok (.getfield 9, 3) := dc_180 (bq_nm bk_X4_release_32 (j := 5) rfl rfl) (bq_nm bk_X4_release_32 (j := 6) rfl rfl) (bq_nm bk_X4_release_32 (j := 7) rfl rfl) rfl
theorem dX4_release_40 : decode cX4_release 40 = .ok (.aload_n 0, 1) := dc_42 (bq_nm bk_X4_release_32 (j := 8) rfl rfl)
theorem dX4_release_41 : decode cX4_release 41 = .ok (.getfield 20, 3) := dc_180 (bq_nm bk_X4_release_32 (j := 9) rfl rfl) (bq_nm bk_X4_release_32 (j := 10) rfl rfl) (bq_nm bk_X4_release_32 (j := 11) rfl rfl) rfl
theorem dX4_release_44 : decode cX4_release 44 = .ok (.iaload, 1) := dc_46 (bq_nm bk_X4_release_32 (j := 12) rfl rfl)
theorem dX4_release_45 : decode cX4_release 45 = .ok (.ineg, 1) := dc_116 (bq_nm bk_X4_release_32 (j := 13) rfl rfl)
theorem dX4_release_46 : decode cX4_release 46 = .ok (.invokevirtual 54, 3) := dc_182 (bq_nm bk_X4_release_32 (j := 14) rfl rfl) (bq_nm bk_X4_release_32 (j := 15) rfl rfl) (bq_nm bk_X4_release_32 (j := 16) rfl rfl) rfl
theorem dX4_release_49 : decode cX4_release 49 = .ok (.goto (-49), 3) := dc_167 (bq_nm bk_X4_release_32 (j := 17) rfl rfl) (bq_nm bk_X4_release_32 (j := 18) rfl rfl) (bq_nm bk_X4_release_32 (j := 19) rfl rfl) rfl
theorem dX4_release_52 : decode cX4_release 52 = .ok (.return_, 1) := dc_177 (bq_nm bk_X4_release_32 (j := 20) rfl rfl)
set_option maxRecDepth 20000 in
theorem bk_X5_init_0 : ((cX5_init.data.toList.drop 0).take 24).length = 24 ∧ eN (((cX5_init.data.toList.drop 0).take 24).map UInt8.toNat) = 4341751693808759245777232982053488888470275853929779607338 := by decide +kernel
theorem dX5_init_0 : decode cX5_init 0 = .ok (.aload_n 0, 1) := dc_42 (bq_nm bk_X5_init_0 (j := 0) rfl rfl)
theorem dX5_init_1 : decode cX5_init 1 = .ok (.invokespecial 3, 3) := dc_183 (bq_nm bk_X5_init_0 (j := 1) rfl rfl) (bq_nm bk_X5_init_0 (j := 2) rfl rfl) (bq_nm bk_X5_init_0 (j := 3) rfl rfl) rfl
theorem dX5_init_4 : decode cX5_init 4 = .ok (.aload_n 0, 1) := dc_42 (bq_nm bk_X5_init_0 (j := 4) rfl rfl)
theorem dX5_init_5 : decode cX5_init 5 = .ok (.iload_n 1, 1) := dc_27 (bq_nm bk_X5_init_0 (j := 5) rfl rfl)
theorem dX5_init_6 : decode cX5_init 6 = .ok (.putfield 9, 3) := dc_181 (bq_nm bk_X5_init_0 (j := 6) rfl rfl) (bq_nm bk_X5_init_0 (j := 7) rfl rfl) (bq_nm bk_X5_init_0 (j := 8) rfl rfl) rfl
theorem dX5_init_9 : decode cX5_init 9 = .ok (.aload_n 0, 1) := dc_42 (bq_nm bk_X5_init_0 (j := 9) rfl rfl)
theorem dX5_init_10 : decode cX5_init 10 = .ok (.iload_n 2, 1) := dc_28 (bq_nm bk_X5_init_0 (j := 10) rfl rfl)
theorem dX5_init_11 : decode cX5_init 11 = .ok (.putfield 15, 3) := dc_181 (bq_nm bk_X5_init_0 (j := 11) rfl rfl) (bq_nm bk_X5_init_0 (j := 12) rfl rfl) (bq_nm bk_X5_init_0 (j := 13) rfl rfl) rfl
theorem dX5_init_14 : decode cX5_init 14 = .ok (.aload_n 0, 1) := dc_42 (bq_nm bk_X5_init_0 (j := 14) rfl rfl)
theorem dX5_init_15 : decode cX5_init 15 = .ok (.iload_n 1, 1) := dc_27 (bq_nm bk_X5_init_0 (j := 15) rfl rfl)
theorem dX5_init_16 : decode cX5_init 16 = .ok (.iload_n 2, 1) := dc_28 (bq_nm bk_X5_init_0 (j := 16) rfl rfl)
theorem dX5_init_17 : decode cX5_init 17 = .ok (.imul, 1) := dc_104 (bq_nm bk_X5_init_0 (j := 17) rfl rfl)
theorem dX5_init_18 : decode cX5_init 18 = .ok (.newarray .int, 2) := dc_188_10 (bq_nm bk_X5_init_0 (j := 18) rfl rfl) (bq_nm bk_X5_init_0 (j := 19) rfl rfl)
theorem dX5_init_20 : decode cX5_init 20 = .ok (.putfield 18, 3) := dc_181 (bq_nm bk_X5_init_0 (j := 20) rfl rfl) (bq_nm bk_X5_init_0 (j := 21) rfl rfl) (bq_nm bk_X5_init_0 (j := 22) rfl rfl) rfl
theorem dX5_init_23 : decode cX5_init 23 = .ok (.return_, 1) := dc_177 (bq_nm bk_X5_init_0 (j := 23) rfl rfl)
set_option maxRecDepth 20000 in
theorem bk_X5_size_0 : ((cX5_size.data.toList.drop 0).take 5).length = 5 ∧ eN (((cX5_size.data.toList.drop 0).take 5).map UInt8.toNat) = 739103519786 := by decide +kernel
theorem dX5_size_0 : decode cX5_size 0 = .ok (.aload_n 0, 1) := dc_42 (bq_nm bk_X5_size_0 (j := 0) rfl rfl)
theorem dX5_size_1 : decode cX5_size 1 = .ok (.getfield 22, 3) := dc_180 (bq_nm bk_X5_size_0 (j := 1) rfl rfl) (bq_nm bk_X5_size_0 (j := 2) rfl rfl) (bq_nm bk_X5_size_0 (j := 3) rfl rfl) rfl
theorem dX5_size_4 : decode cX5_size 4 = .ok (.ireturn, 1) := dc_172 (bq_nm bk_X5_size_0 (j := 4) rfl rfl)
set_option maxRecDepth 20000 in
theorem bk_X5_has_0 : ((cX5_has.data.toList.drop 0).take 18).length = 18 ∧ eN (((cX5_has.data.toList.drop 0).take 18).map UInt8.toNat) = 14984339347662989861893576470357496173730587 := by decide +kernel
theorem dX5_has_0 : decode cX5_has 0 = .ok (.iload_n 1, 1) := dc_27 (bq_nm bk_X5_has_0 (j := 0) rfl rfl)
theorem dX5_has_1 : decode cX5_has 1 = .ok (.ifCond .lt 15, 3) := dc_155 (bq_nm bk_X5_has_0 (j := 1) rfl rfl) (bq_nm bk_X5_has_0 (j := 2) rfl rfl) (bq_nm bk_X5_has_0 (j := 3) rfl rfl) rfl
theorem dX5_has_4 : decode cX5_has 4 = .ok (.iload_n 1, 1) := dc_27 (bq_nm bk_X5_has_0 (j := 4) rfl rfl)
theorem dX5_has_5 : decode cX5_has 5 = .ok (.aload_n 0, 1) := dc_42 (bq_nm bk_X5_has_0 (j := 5) rfl rfl)
theorem dX5_has_6 : decode cX5_has 6 = .ok (.getfield 22, 3) := dc_180 (bq_nm bk_X5_has_0 (j := 6) rfl rfl) (bq_nm bk_X5_has_0 (j := 7) rfl rfl) (bq_nm bk_X5_has_0 (j := 8) rfl rfl) rfl
theorem dX5_has_9 : decode cX5_has 9 = .ok (.if_icmp .ge 7, 3) := dc_162 (bq_nm bk_X5_has_0 (j := 9) rfl rfl) (bq_nm bk_X5_has_0 (j := 10) rfl rfl) (bq_nm bk_X5_has_0 (j := 11) rfl rfl) rfl
theorem dX5_has_12 : decode cX5_has 12 = .ok (.iconst 1, 1) := dc_4 (bq_nm bk_X5_has_0 (j := 12) rfl rfl)
theorem dX5_has_13 : decode cX5_has 13 = .ok (.goto 4, 3) := dc_167 (bq_nm bk_X5_has_0 (j := 13) rfl rfl) (bq_nm bk_X5_has_0 (j := 14) rfl rfl) (bq_nm bk_X5_has_0 (j := 15) rfl rfl) rfl
theorem dX5_has_16 : decode cX5_has 16 = .ok (.iconst 0, 1) := dc_3 (bq_nm bk_X5_has_0 (j := 16) rfl rfl)
theorem dX5_has_17 : decode cX5_has 17 = .ok (.ireturn, 1) := dc_172 (bq_nm bk_X5_has_0 (j := 17) rfl rfl)
set_option maxRecDepth 20000 in
theorem bk_X5_grow_0 : ((cX5_grow.data.toList.drop 0).take 31).length = 31 ∧ eN (((cX5_grow.data.toList.drop 0).take 31).map UInt8.toNat) = 304587979933507759403633727078600346140069871978391834885593643267943085098 := by decide +kernel
theorem dX5_grow_0 : decode cX5_grow 0 = .ok (.aload_n 0, 1) := dc_42 (bq_nm bk_X5_grow_0 (j := 0) rfl rfl)
theorem dX5_grow_1 : decode cX5_grow 1 = .ok (.getfield 22, 3) := dc_180 (bq_nm bk_X5_grow_0 (j := 1) rfl rfl) (bq_nm bk_X5_grow_0 (j := 2) rfl rfl) (bq_nm bk_X5_grow_0 (j := 3) rfl rfl) rfl
theorem dX5_grow_4 : decode cX5_grow 4 = .ok (.aload_n 0, 1) := dc_42 (bq_nm bk_X5_grow_0 (j := 4) rfl rfl)
theorem dX5_grow_5 : decode cX5_grow 5 = .ok (.getfield 9, 3) := dc_180 (bq_nm bk_X5_grow_0 (j := 5) rfl rfl) (bq_nm bk_X5_grow_0 (j := 6) rfl rfl) (bq_nm bk_X5_grow_0 (j := 7) rfl rfl) rfl
theorem dX5_grow_8 : decode cX5_grow 8 = .ok (.if_icmp .lt 6, 3) := dc_161 (bq_nm bk_X5_grow_0 (j := 8) rfl rfl) (bq_nm bk_X5_grow_0 (j := 9) rfl rfl) (bq_nm bk_X5_grow_0 (j := 10) rfl rfl) rfl
theorem dX5_grow_11 : decode cX5_grow 11 = .ok (.bipush (-4), 2) := dc_16 (bq_nm bk_X5_grow_0 (j := 11) rfl rfl) (bq_nm bk_X5_grow_0 (j := 12) rfl rfl) rfl
theorem dX5_grow_13 : decode cX5_grow 13 = .ok (.ireturn, 1) := dc_172 (bq_nm bk_X5_grow_0 (j := 13) rfl rfl)
theorem dX5_grow_14 : decode cX5_grow 14 = .ok (.aload_n 0, 1) := dc_42 (bq_nm bk_X5_grow_0 (j := 14) rfl rfl)
theorem dX5_grow_15 : decode cX5_grow 15 = .ok (.dup, 1) := dc_89 (bq_nm bk_X5_grow_0 (j := 15) rfl rfl)
theorem dX5_grow_16 : decode cX5_grow 16 = .ok (.getfield 22, 3) := dc_180 (bq_nm bk_X5_grow_0 (j := 16) rfl rfl) (bq_nm bk_X5_grow_0 (j := 17) rfl rfl) (bq_nm bk_X5_grow_0 (j := 18) rfl rfl) rfl
theorem dX5_grow_19 : decode cX5_grow 19 = .ok (.iconst 1, 1) := dc_4 (bq_nm bk_X5_grow_0 (j := 19) rfl rfl)
theorem dX5_grow_20 : decode cX5_grow 20 = .ok (.iadd, 1) := dc_96 (bq_nm bk_X5_grow_0 (j := 20) rfl rfl)
theorem dX5_grow_21 : decode cX5_grow 21 = .ok (.putfield 22, 3) := dc_181 (bq_nm bk_X5_grow_0 (j := 21) rfl rfl) (bq_nm bk_X5_grow_0 (j := 22) rfl rfl) (bq_nm bk_X5_grow_0 (j := 23) rfl rfl) rfl
theorem dX5_grow_24 : decode cX5_grow 24 = .ok (.aload_n 0, 1) := dc_42 (bq_nm bk_X5_grow_0 (j := 24) rfl rfl)
theorem dX5_grow_25 : decode cX5_grow 25 = .ok (.getfield 22, 3) := dc_180 (bq_nm bk_X5_grow_0 (j := 25) rfl rfl) (bq_nm bk_X5_grow_0 (j := 26) rfl rfl) (bq_nm bk_X5_grow_0 (j := 27) rfl rfl) rfl
theorem dX5_grow_28 : decode cX5_grow 28 = .ok (.iconst 1, 1) := dc_4 (bq_nm bk_X5_grow_0 (j := 28) rfl rfl)
theorem dX5_grow_29 : decode cX5_grow 29 = .ok (.isub, 1) := dc_100 (bq_nm bk_X5_grow_0 (j := 29) rfl rfl)
theorem dX5_grow_30 : decode cX5_grow 30 = .ok (.ireturn, 1) := dc_172 (bq_nm bk_X5_grow_0 (j := 30) rfl rfl)
set_option maxRecDepth 20000 in
theorem bk_X5_at_0 : ((cX5_at.data.toList.drop 0).take 31).length = 31 ∧ eN (((cX5_at.data.toList.drop 0).take 31).map UInt8.toNat) = 51666554453431712572383039999887049048296288068101963869253248766443559707 := by decide +kernel
theorem dX5_at_0 : decode cX5_at 0 = .ok (.iload_n 1, 1) := dc_27 (bq_nm bk_X5_at_0 (j := 0) rfl rfl)
theorem dX5_at_1 : decode cX5_at 1 = .ok (.ifCond .lt 27, 3) := dc_155 (bq_nm bk_X5_at_0 (j := 1) rfl rfl) (bq_nm bk_X5_at_0 (j := 2) rfl rfl) (bq_nm bk_X5_at_0 (j := 3) rfl rfl) rfl
theorem dX5_at_4 : decode cX5_at 4 = .ok (.iload_n 1, 1) := dc_27 (bq_nm bk_X5_at_0 (j := 4) rfl rfl)
theorem dX5_at_5 : decode cX5_at 5 = .ok (.aload_n 0, 1) := dc_42 (bq_nm bk_X5_at_0 (j := 5) rfl rfl)
theorem dX5_at_6 : decode cX5_at 6 = .ok (.getfield 22, 3) := dc_180 (bq_nm bk_X5_at_0 (j := 6) rfl rfl) (bq_nm bk_X5_at_0 (j := 7) rfl rfl) (bq_nm bk_X5_at_0 (j := 8) rfl rfl) rfl
theorem dX5_at_9 : decode cX5_at 9 = .ok (.if_icmp .ge 19, 3) := dc_162 (bq_nm bk_X5_at_0 (j := 9) rfl rfl) (bq_nm bk_X5_at_0 (j := 10) rfl rfl) (bq_nm bk_X5_at_0 (j := 11) rfl rfl) rfl
theorem dX5_at_12 : decode cX5_at 12 = .ok (.iload_n 2, 1) := dc_28 (bq_nm bk_X5_at_0 (j := 12) rfl rfl)
theorem dX5_at_13 : decode cX5_at 13 = .ok (.ifCond .lt 15, 3) := dc_155 (bq_nm bk_X5_at_0 (j := 13) rfl rfl) (bq_nm bk_X5_at_0 (j := 14) rfl rfl) (bq_nm bk_X5_at_0 (j := 15) rfl rfl) rfl
theorem dX5_at_16 : decode cX5_at 16 = .ok (.iload_n 2, 1) := dc_28 (bq_nm bk_X5_at_0 (j := 16) rfl rfl)
theorem dX5_at_17 : decode cX5_at 17 = .ok (.aload_n 0, 1) := dc_42 (bq_nm bk_X5_at_0 (j := 17) rfl rfl)
theorem dX5_at_18 : decode cX5_at 18 = .ok (.getfield 15, 3) := dc_180 (bq_nm bk_X5_at_0 (j := 18) rfl rfl) (bq_nm bk_X5_at_0 (j := 19) rfl rfl) (bq_nm bk_X5_at_0 (j := 20) rfl rfl) rfl
theorem dX5_at_21 : decode cX5_at 21 = .ok (.if_icmp .ge 7, 3) := dc_162 (bq_nm bk_X5_at_0 (j := 21) rfl rfl) (bq_nm bk_X5_at_0 (j := 22) rfl rfl) (bq_nm bk_X5_at_0 (j := 23) rfl rfl) rfl
theorem dX5_at_24 : decode cX5_at 24 = .ok (.iconst 1, 1) := dc_4 (bq_nm bk_X5_at_0 (j := 24) rfl rfl)
theorem dX5_at_25 : decode cX5_at 25 = .ok (.goto 4, 3) := dc_167 (bq_nm bk_X5_at_0 (j := 25) rfl rfl) (bq_nm bk_X5_at_0 (j := 26) rfl rfl) (bq_nm bk_X5_at_0 (j := 27) rfl rfl) rfl
theorem dX5_at_28 : decode cX5_at 28 = .ok (.iconst 0, 1) := dc_3 (bq_nm bk_X5_at_0 (j := 28) rfl rfl)
theorem dX5_at_29 : decode cX5_at 29 = .ok (.istore_n 3, 1) := dc_62 (bq_nm bk_X5_at_0 (j := 29) rfl rfl)
theorem dX5_at_30 : decode cX5_at 30 = .ok (.iload_n 3, 1) := dc_29 (bq_nm bk_X5_at_0 (j := 30) rfl rfl)
set_option maxRecDepth 20000 in
theorem bk_X5_at_31 : ((cX5_at.data.toList.drop 31).take 21).length = 21 ∧ eN (((cX5_at.data.toList.drop 31).take 21).map UInt8.toNat) = 251395497853097366372352146603376901355705629606041 := by decide +kernel
theorem dX5_at_31 : decode cX5_at 31 = .ok (.ifCond .eq 19, 3) := dc_153 (bq_nm bk_X5_at_31 (j := 0) rfl rfl) (bq_nm bk_X5_at_31 (j := 1) rfl rfl) (bq_nm bk_X5_at_31 (j := 2) rfl rfl) rfl
theorem dX5_at_34 : decode cX5_at 34 = .ok (.aload_n 0, 1) := dc_42 (bq_nm bk_X5_at_31 (j := 3) rfl rfl)
theorem dX5_at_35 : decode cX5_at 35 = .ok (.getfield 18, 3) := dc_180 (bq_nm bk_X5_at_31 (j := 4) rfl rfl) (bq_nm bk_X5_at_31 (j := 5) rfl rfl) (bq_nm bk_X5_at_31 (j := 6) rfl rfl) rfl
theorem dX5_at_38 : decode cX5_at 38 = .ok (.iload_n 1, 1) := dc_27 (bq_nm bk_X5_at_31 (j := 7) rfl rfl)
theorem dX5_at_39 : decode cX5_at 39 = .ok (.aload_n 0, 1) := dc_42 (bq_nm bk_X5_at_31 (j := 8) rfl rfl)
theorem dX5_at_40 : decode cX5_at 40 = .ok (.getfield 15, 3) := dc_180 (bq_nm bk_X5_at_31 (j := 9) rfl rfl) (bq_nm bk_X5_at_31 (j := 10) rfl rfl) (bq_nm bk_X5_at_31 (j := 11) rfl rfl) rfl
theorem dX5_at_43 : decode cX5_at 43 = .ok (.imul, 1) := dc_104 (bq_nm bk_X5_at_31 (j := 12) rfl rfl)
theorem dX5_at_44 : decode cX5_at 44 = .ok (.iload_n 2, 1) := dc_28 (bq_nm bk_X5_at_31 (j := 13) rfl rfl)
theorem dX5_at_45 : decode cX5_at 45 = .ok (.iadd, 1) := dc_96 (bq_nm bk_X5_at_31 (j := 14) rfl rfl)
theorem dX5_at_46 : decode cX5_at 46 = .ok (.iaload, 1) := dc_46 (bq_nm bk_X5_at_31 (j := 15) rfl rfl)
theorem dX5_at_47 : decode cX5_at 47 = .ok (.goto 4, 3) := dc_167 (bq_nm bk_X5_at_31 (j := 16) rfl rfl) (bq_nm bk_X5_at_31 (j := 17) rfl rfl) (bq_nm bk_X5_at_31 (j := 18) rfl rfl) rfl
theorem dX5_at_50 : decode cX5_at 50 = .ok (.iconst 0, 1) := dc_3 (bq_nm bk_X5_at_31 (j := 19) rfl rfl)
theorem dX5_at_51 : decode cX5_at 51 = .ok (.ireturn, 1) := dc_172 (bq_nm bk_X5_at_31 (j := 20) rfl rfl)
set_option maxRecDepth 20000 in
theorem bk_X5_set_0 : ((cX5_set.data.toList.drop 0).take 30).length = 30 ∧ eN (((cX5_set.data.toList.drop 0).take 30).map UInt8.toNat) = 290603161035979683515001246304636240598773945413161668726369271247051547 := by decide +kernel
theorem dX5_set_0 : decode cX5_set 0 = .ok (.iload_n 1, 1) := dc_27 (bq_nm bk_X5_set_0 (j := 0) rfl rfl)
theorem dX5_set_1 : decode cX5_set 1 = .ok (.ifCond .lt 37, 3) := dc_155 (bq_nm bk_X5_set_0 (j := 1) rfl rfl) (bq_nm bk_X5_set_0 (j := 2) rfl rfl) (bq_nm bk_X5_set_0 (j := 3) rfl rfl) rfl
theorem dX5_set_4 : decode cX5_set 4 = .ok (.iload_n 1, 1) := dc_27 (bq_nm bk_X5_set_0 (j := 4) rfl rfl)
theorem dX5_set_5 : decode cX5_set 5 = .ok (.aload_n 0, 1) := dc_42 (bq_nm bk_X5_set_0 (j := 5) rfl rfl)
theorem dX5_set_6 : decode cX5_set 6 = .ok (.getfield 22, 3) := dc_180 (bq_nm bk_X5_set_0 (j := 6) rfl rfl) (bq_nm bk_X5_set_0 (j := 7) rfl rfl) (bq_nm bk_X5_set_0 (j := 8) rfl rfl) rfl
theorem dX5_set_9 : decode cX5_set 9 = .ok (.if_icmp .ge 29, 3) := dc_162 (bq_nm bk_X5_set_0 (j := 9) rfl rfl) (bq_nm bk_X5_set_0 (j := 10) rfl rfl) (bq_nm bk_X5_set_0 (j := 11) rfl rfl) rfl
theorem dX5_set_12 : decode cX5_set 12 = .ok (.iload_n 2, 1) := dc_28 (bq_nm bk_X5_set_0 (j := 12) rfl rfl)
theorem dX5_set_13 : decode cX5_set 13 = .ok (.ifCond .lt 25, 3) := dc_155 (bq_nm bk_X5_set_0 (j := 13) rfl rfl) (bq_nm bk_X5_set_0 (j := 14) rfl rfl) (bq_nm bk_X5_set_0 (j := 15) rfl rfl) rfl
theorem dX5_set_16 : decode cX5_set 16 = .ok (.iload_n 2, 1) := dc_28 (bq_nm bk_X5_set_0 (j := 16) rfl rfl)
theorem dX5_set_17 : decode cX5_set 17 = .ok (.aload_n 0, 1) := dc_42 (bq_nm bk_X5_set_0 (j := 17) rfl rfl)
theorem dX5_set_18 : decode cX5_set 18 = .ok (.getfield 15, 3) := dc_180 (bq_nm bk_X5_set_0 (j := 18) rfl rfl) (bq_nm bk_X5_set_0 (j := 19) rfl rfl) (bq_nm bk_X5_set_0 (j := 20) rfl rfl) rfl
theorem dX5_set_21 : decode cX5_set 21 = .ok (.if_icmp .ge 17, 3) := dc_162 (bq_nm bk_X5_set_0 (j := 21) rfl rfl) (bq_nm bk_X5_set_0 (j := 22) rfl rfl) (bq_nm bk_X5_set_0 (j := 23) rfl rfl) rfl
theorem dX5_set_24 : decode cX5_set 24 = .ok (.aload_n 0, 1) := dc_42 (bq_nm bk_X5_set_0 (j := 24) rfl rfl)
theorem dX5_set_25 : decode cX5_set 25 = .ok (.getfield 18, 3) := dc_180 (bq_nm bk_X5_set_0 (j := 25) rfl rfl) (bq_nm bk_X5_set_0 (j := 26) rfl rfl) (bq_nm bk_X5_set_0 (j := 27) rfl rfl) rfl
theorem dX5_set_28 : decode cX5_set 28 = .ok (.iload_n 1, 1) := dc_27 (bq_nm bk_X5_set_0 (j := 28) rfl rfl)
theorem dX5_set_29 : decode cX5_set 29 = .ok (.aload_n 0, 1) := dc_42 (bq_nm bk_X5_set_0 (j := 29) rfl rfl)
set_option maxRecDepth 20000 in
theorem bk_X5_set_30 : ((cX5_set.data.toList.drop 30).take 9).length = 9 ∧ eN (((cX5_set.data.toList.drop 30).take 9).map UInt8.toNat) = 3270774519425032716468 := by decide +kernel
theorem dX5_set_30 : decode cX5_set 30 = .ok (.getfield 15, 3) := dc_180 (bq_nm bk_X5_set_30 (j := 0) rfl rfl) (bq_nm bk_X5_set_30 (j := 1) rfl rfl) (bq_nm bk_X5_set_30 (j := 2) rfl rfl) rfl
theorem dX5_set_33 : decode cX5_set 33 = .ok (.imul, 1) := dc_104 (bq_nm bk_X5_set_30 (j := 3) rfl rfl)
theorem dX5_set_34 : decode cX5_set 34 = .ok (.iload_n 2, 1) := dc_28 (bq_nm bk_X5_set_30 (j := 4) rfl rfl)
theorem dX5_set_35 : decode cX5_set 35 = .ok (.iadd, 1) := dc_96 (bq_nm bk_X5_set_30 (j := 5) rfl rfl)
theorem dX5_set_36 : decode cX5_set 36 = .ok (.iload_n 3, 1) := dc_29 (bq_nm bk_X5_set_30 (j := 6) rfl rfl)
theorem dX5_set_37 : decode cX5_set 37 = .ok (.iastore, 1) := dc_79 (bq_nm bk_X5_set_30 (j := 7) rfl rfl)
theorem dX5_set_38 : decode cX5_set 38 = .ok (.return_, 1) := dc_177 (bq_nm bk_X5_set_30 (j := 8) rfl rfl)
set_option maxRecDepth 20000 in
theorem bk_X5_copy_0 : ((cX5_copy.data.toList.drop 0).take 31).length = 31 ∧ eN (((cX5_copy.data.toList.drop 0).take 31).map UInt8.toNat) = 77286240944515957753255178966059778645966513342480530810073334747241916970 := by decide +kernel
theorem dX5_copy_0 : decode cX5_copy 0 = .ok (.aload_n 0, 1) := dc_42 (bq_nm bk_X5_copy_0 (j := 0) rfl rfl)
theorem dX5_copy_1 : decode cX5_copy 1 = .ok (.aload_n 0, 1) := dc_42 (bq_nm bk_X5_copy_0 (j := 1) rfl rfl)
theorem dX5_copy_2 : decode cX5_copy 2 = .ok (.getfield 9, 3) := dc_180 (bq_nm bk_X5_copy_0 (j := 2) rfl rfl) (bq_nm bk_X5_copy_0 (j := 3) rfl rfl) (bq_nm bk_X5_copy_0 (j := 4) rfl rfl) rfl
theorem dX5_copy_5 : decode cX5_copy 5 = .ok (.aload_n 1, 1) := dc_43 (bq_nm bk_X5_copy_0 (j := 5) rfl rfl)
theorem dX5_copy_6 : decode cX5_copy 6 = .ok (.getfield 22, 3) := dc_180 (bq_nm bk_X5_copy_0 (j := 6) rfl rfl) (bq_nm bk_X5_copy_0 (j := 7) rfl rfl) (bq_nm bk_X5_copy_0 (j := 8) rfl rfl) rfl
theorem dX5_copy_9 : decode cX5_copy 9 = .ok (.invokestatic 25, 3) := dc_184 (bq_nm bk_X5_copy_0 (j := 9) rfl rfl) (bq_nm bk_X5_copy_0 (j := 10) rfl rfl) (bq_nm bk_X5_copy_0 (j := 11) rfl rfl) rfl
theorem dX5_copy_12 : decode cX5_copy 12 = .ok (.putfield 22, 3) := dc_181 (bq_nm bk_X5_copy_0 (j := 12) rfl rfl) (bq_nm bk_X5_copy_0 (j := 13) rfl rfl) (bq_nm bk_X5_copy_0 (j := 14) rfl rfl) rfl
theorem dX5_copy_15 : decode cX5_copy 15 = .ok (.aload_n 1, 1) := dc_43 (bq_nm bk_X5_copy_0 (j := 15) rfl rfl)
theorem dX5_copy_16 : decode cX5_copy 16 = .ok (.getfield 18, 3) := dc_180 (bq_nm bk_X5_copy_0 (j := 16) rfl rfl) (bq_nm bk_X5_copy_0 (j := 17) rfl rfl) (bq_nm bk_X5_copy_0 (j := 18) rfl rfl) rfl
theorem dX5_copy_19 : decode cX5_copy 19 = .ok (.iconst 0, 1) := dc_3 (bq_nm bk_X5_copy_0 (j := 19) rfl rfl)
theorem dX5_copy_20 : decode cX5_copy 20 = .ok (.aload_n 0, 1) := dc_42 (bq_nm bk_X5_copy_0 (j := 20) rfl rfl)
theorem dX5_copy_21 : decode cX5_copy 21 = .ok (.getfield 18, 3) := dc_180 (bq_nm bk_X5_copy_0 (j := 21) rfl rfl) (bq_nm bk_X5_copy_0 (j := 22) rfl rfl) (bq_nm bk_X5_copy_0 (j := 23) rfl rfl) rfl
theorem dX5_copy_24 : decode cX5_copy 24 = .ok (.iconst 0, 1) := dc_3 (bq_nm bk_X5_copy_0 (j := 24) rfl rfl)
theorem dX5_copy_25 : decode cX5_copy 25 = .ok (.aload_n 0, 1) := dc_42 (bq_nm bk_X5_copy_0 (j := 25) rfl rfl)
theorem dX5_copy_26 : decode cX5_copy 26 = .ok (.getfield 18, 3) := dc_180 (bq_nm bk_X5_copy_0 (j := 26) rfl rfl) (bq_nm bk_X5_copy_0 (j := 27) rfl rfl) (bq_nm bk_X5_copy_0 (j := 28) rfl rfl) rfl
theorem dX5_copy_29 : decode cX5_copy 29 = .ok (.arraylength, 1) := dc_190 (bq_nm bk_X5_copy_0 (j := 29) rfl rfl)
theorem dX5_copy_30 : decode cX5_copy 30 = .ok (.aload_n 1, 1) := dc_43 (bq_nm bk_X5_copy_0 (j := 30) rfl rfl)
set_option maxRecDepth 20000 in
theorem bk_X5_copy_31 : ((cX5_copy.data.toList.drop 31).take 11).length = 11 ∧ eN (((cX5_copy.data.toList.drop 31).take 11).map UInt8.toNat) = 214126276698393293783957684 := by decide +kernel
theorem dX5_copy_31 : decode cX5_copy 31 = .ok (.getfield 18, 3) := dc_180 (bq_nm bk_X5_copy_31 (j := 0) rfl rfl) (bq_nm bk_X5_copy_31 (j := 1) rfl rfl) (bq_nm bk_X5_copy_31 (j := 2) rfl rfl) rfl
theorem dX5_copy_34 : decode cX5_copy 34 = .ok (.arraylength, 1) := dc_190 (bq_nm bk_X5_copy_31 (j := 3) rfl rfl)
theorem dX5_copy_35 : decode cX5_copy 35 = .ok (.invokestatic 25, 3) := dc_184 (bq_nm bk_X5_copy_31 (j := 4) rfl rfl) (bq_nm bk_X5_copy_31 (j := 5) rfl rfl) (bq_nm bk_X5_copy_31 (j := 6) rfl rfl) rfl
theorem dX5_copy_38 : decode cX5_copy 38 = .ok (.invokestatic 31, 3) := dc_184 (bq_nm bk_X5_copy_31 (j := 7) rfl rfl) (bq_nm bk_X5_copy_31 (j := 8) rfl rfl) (bq_nm bk_X5_copy_31 (j := 9) rfl rfl) rfl
theorem dX5_copy_41 : decode cX5_copy 41 = .ok (.return_, 1) := dc_177 (bq_nm bk_X5_copy_31 (j := 10) rfl rfl)
set_option maxRecDepth 20000 in
theorem bk_X5_foldRow_0 : ((cX5_foldRow.data.toList.drop 0).take 30).length = 30 ∧ eN (((cX5_foldRow.data.toList.drop 0).take 30).map UInt8.toNat) = 7023513840741134203800459997887405439226217750616701985254099684439555 := by decide +kernel
theorem dX5_foldRow_0 : decode cX5_foldRow 0 = .ok (.iconst 0, 1) := dc_3 (bq_nm bk_X5_foldRow_0 (j := 0) rfl rfl)
theorem dX5_foldRow_1 : decode cX5_foldRow 1 = .ok (.istore 4, 2) := dc_54 (bq_nm bk_X5_foldRow_0 (j := 1) rfl rfl) (bq_nm bk_X5_foldRow_0 (j := 2) rfl rfl)
theorem dX5_foldRow_3 : decode cX5_foldRow 3 = .ok (.iload 4, 2) := dc_21 (bq_nm bk_X5_foldRow_0 (j := 3) rfl rfl) (bq_nm bk_X5_foldRow_0 (j := 4) rfl rfl)
theorem dX5_foldRow_5 : decode cX5_foldRow 5 = .ok (.aload_n 0, 1) := dc_42 (bq_nm bk_X5_foldRow_0 (j := 5) rfl rfl)
theorem dX5_foldRow_6 : decode cX5_foldRow 6 = .ok (.getfield 15, 3) := dc_180 (bq_nm bk_X5_foldRow_0 (j := 6) rfl rfl) (bq_nm bk_X5_foldRow_0 (j := 7) rfl rfl) (bq_nm bk_X5_foldRow_0 (j := 8) rfl rfl) rfl
theorem dX5_foldRow_9 : decode cX5_foldRow 9 = .ok (.if_icmp .ge 24, 3) := dc_162 (bq_nm bk_X5_foldRow_0 (j := 9) rfl rfl) (bq_nm bk_X5_foldRow_0 (j := 10) rfl rfl) (bq_nm bk_X5_foldRow_0 (j := 11) rfl rfl) rfl
theorem dX5_foldRow_12 : decode cX5_foldRow 12 = .ok (.ldc2_w 37, 3) := dc_20 (bq_nm bk_X5_foldRow_0 (j := 12) rfl rfl) (bq_nm bk_X5_foldRow_0 (j := 13) rfl rfl) (bq_nm bk_X5_foldRow_0 (j := 14) rfl rfl) rfl
theorem dX5_foldRow_15 : decode cX5_foldRow 15 = .ok (.lload_n 1, 1) := dc_31 (bq_nm bk_X5_foldRow_0 (j := 15) rfl rfl)
theorem dX5_foldRow_16 : decode cX5_foldRow 16 = .ok (.lmul, 1) := dc_105 (bq_nm bk_X5_foldRow_0 (j := 16) rfl rfl)
theorem dX5_foldRow_17 : decode cX5_foldRow 17 = .ok (.aload_n 0, 1) := dc_42 (bq_nm bk_X5_foldRow_0 (j := 17) rfl rfl)
theorem dX5_foldRow_18 : decode cX5_foldRow 18 = .ok (.iload_n 3, 1) := dc_29 (bq_nm bk_X5_foldRow_0 (j := 18) rfl rfl)
theorem dX5_foldRow_19 : decode cX5_foldRow 19 = .ok (.iload 4, 2) := dc_21 (bq_nm bk_X5_foldRow_0 (j := 19) rfl rfl) (bq_nm bk_X5_foldRow_0 (j := 20) rfl rfl)
theorem dX5_foldRow_21 : decode cX5_foldRow 21 = .ok (.invokevirtual 39, 3) := dc_182 (bq_nm bk_X5_foldRow_0 (j := 21) rfl rfl) (bq_nm bk_X5_foldRow_0 (j := 22) rfl rfl) (bq_nm bk_X5_foldRow_0 (j := 23) rfl rfl) rfl
theorem dX5_foldRow_24 : decode cX5_foldRow 24 = .ok (.i2l, 1) := dc_133 (bq_nm bk_X5_foldRow_0 (j := 24) rfl rfl)
theorem dX5_foldRow_25 : decode cX5_foldRow 25 = .ok (.ladd, 1) := dc_97 (bq_nm bk_X5_foldRow_0 (j := 25) rfl rfl)
theorem dX5_foldRow_26 : decode cX5_foldRow 26 = .ok (.lstore_n 1, 1) := dc_64 (bq_nm bk_X5_foldRow_0 (j := 26) rfl rfl)
theorem dX5_foldRow_27 : decode cX5_foldRow 27 = .ok (.iinc 4 1, 3) := dc_132 (bq_nm bk_X5_foldRow_0 (j := 27) rfl rfl) (bq_nm bk_X5_foldRow_0 (j := 28) rfl rfl) (bq_nm bk_X5_foldRow_0 (j := 29) rfl rfl) rfl
set_option maxRecDepth 20000 in
theorem bk_X5_foldRow_30 : ((cX5_foldRow.data.toList.drop 30).take 5).length = 5 ∧ eN (((cX5_foldRow.data.toList.drop 30).take 5).map UInt8.toNat) = 743564509095 := by decide +kernel
theorem dX5_foldRow_30 : decode cX5_foldRow 30 = .ok (.goto (-27), 3) := dc_167 (bq_nm bk_X5_foldRow_30 (j := 0) rfl rfl) (bq_nm bk_X5_foldRow_30 (j := 1) rfl rfl) (bq_nm bk_X5_foldRow_30 (j := 2) rfl rfl) rfl
theorem dX5_foldRow_33 : decode cX5_foldRow 33 = .ok (.lload_n 1, 1) := dc_31 (bq_nm bk_X5_foldRow_30 (j := 3) rfl rfl)
theorem dX5_foldRow_34 : decode cX5_foldRow 34 = .ok (.lreturn, 1) := dc_173 (bq_nm bk_X5_foldRow_30 (j := 4) rfl rfl)
set_option maxRecDepth 20000 in
theorem bk_X5_foldAll_0 : ((cX5_foldAll.data.toList.drop 0).take 25).length = 25 ∧ eN (((cX5_foldAll.data.toList.drop 0).take 25).map UInt8.toNat) = 1086721609532239078923370743605198003669444899404787119635971 := by decide +kernel
theorem dX5_foldAll_0 : decode cX5_foldAll 0 = .ok (.iconst 0, 1) := dc_3 (bq_nm bk_X5_foldAll_0 (j := 0) rfl rfl)
theorem dX5_foldAll_1 : decode cX5_foldAll 1 = .ok (.istore_n 3, 1) := dc_62 (bq_nm bk_X5_foldAll_0 (j := 1) rfl rfl)
theorem dX5_foldAll_2 : decode cX5_foldAll 2 = .ok (.iload_n 3, 1) := dc_29 (bq_nm bk_X5_foldAll_0 (j := 2) rfl rfl)
theorem dX5_foldAll_3 : decode cX5_foldAll 3 = .ok (.aload_n 0, 1) := dc_42 (bq_nm bk_X5_foldAll_0 (j := 3) rfl rfl)
theorem dX5_foldAll_4 : decode cX5_foldAll 4 = .ok (.getfield 22, 3) := dc_180 (bq_nm bk_X5_foldAll_0 (j := 4) rfl rfl) (bq_nm bk_X5_foldAll_0 (j := 5) rfl rfl) (bq_nm bk_X5_foldAll_0 (j := 6) rfl rfl) rfl
theorem dX5_foldAll_7 : decode cX5_foldAll 7 = .ok (.if_icmp .ge 16, 3) := dc_162 (bq_nm bk_X5_foldAll_0 (j := 7) rfl rfl) (bq_nm bk_X5_foldAll_0 (j := 8) rfl rfl) (bq_nm bk_X5_foldAll_0 (j := 9) rfl rfl) rfl
theorem dX5_foldAll_10 : decode cX5_foldAll 10 = .ok (.aload_n 0, 1) := dc_42 (bq_nm bk_X5_foldAll_0 (j := 10) rfl rfl)
theorem dX5_foldAll_11 : decode cX5_foldAll 11 = .ok (.lload_n 1, 1) := dc_31 (bq_nm bk_X5_foldAll_0 (j := 11) rfl rfl)
theorem dX5_foldAll_12 : decode cX5_foldAll 12 = .ok (.iload_n 3, 1) := dc_29 (bq_nm bk_X5_foldAll_0 (j := 12) rfl rfl)
theorem dX5_foldAll_13 : decode cX5_foldAll 13 = .ok (.invokevirtual 42, 3) := dc_182 (bq_nm bk_X5_foldAll_0 (j := 13) rfl rfl) (bq_nm bk_X5_foldAll_0 (j := 14) rfl rfl) (bq_nm bk_X5_foldAll_0 (j := 15) rfl rfl) rfl
theorem dX5_foldAll_16 : decode cX5_foldAll 16 = .ok (.lstore_n 1, 1) := dc_64 (bq_nm bk_X5_foldAll_0 (j := 16) rfl rfl)
theorem dX5_foldAll_17 : decode cX5_foldAll 17 = .ok (.iinc 3 1, 3) := dc_132 (bq_nm bk_X5_foldAll_0 (j := 17) rfl rfl) (bq_nm bk_X5_foldAll_0 (j := 18) rfl rfl) (bq_nm bk_X5_foldAll_0 (j := 19) rfl rfl) rfl
theorem dX5_foldAll_20 : decode cX5_foldAll 20 = .ok (.goto (-18), 3) := dc_167 (bq_nm bk_X5_foldAll_0 (j := 20) rfl rfl) (bq_nm bk_X5_foldAll_0 (j := 21) rfl rfl) (bq_nm bk_X5_foldAll_0 (j := 22) rfl rfl) rfl
theorem dX5_foldAll_23 : decode cX5_foldAll 23 = .ok (.lload_n 1, 1) := dc_31 (bq_nm bk_X5_foldAll_0 (j := 23) rfl rfl)
theorem dX5_foldAll_24 : decode cX5_foldAll 24 = .ok (.lreturn, 1) := dc_173 (bq_nm bk_X5_foldAll_0 (j := 24) rfl rfl)
set_option maxRecDepth 20000 in
theorem bk_X6_init_0 : ((cX6_init.data.toList.drop 0).take 31).length = 31 ∧ eN (((cX6_init.data.toList.drop 0).take 31).map UInt8.toNat) = 74359432212065317557542101896885287697619366409866735815876379826691553066 := by decide +kernel
theorem dX6_init_0 : decode cX6_init 0 = .ok (.aload_n 0, 1) := dc_42 (bq_nm bk_X6_init_0 (j := 0) rfl rfl)
theorem dX6_init_1 : decode cX6_init 1 = .ok (.invokespecial 1, 3) := dc_183 (bq_nm bk_X6_init_0 (j := 1) rfl rfl) (bq_nm bk_X6_init_0 (j := 2) rfl rfl) (bq_nm bk_X6_init_0 (j := 3) rfl rfl) rfl
theorem dX6_init_4 : decode cX6_init 4 = .ok (.aload_n 0, 1) := dc_42 (bq_nm bk_X6_init_0 (j := 4) rfl rfl)
theorem dX6_init_5 : decode cX6_init 5 = .ok (.new 7, 3) := dc_187 (bq_nm bk_X6_init_0 (j := 5) rfl rfl) (bq_nm bk_X6_init_0 (j := 6) rfl rfl) (bq_nm bk_X6_init_0 (j := 7) rfl rfl) rfl
theorem dX6_init_8 : decode cX6_init 8 = .ok (.dup, 1) := dc_89 (bq_nm bk_X6_init_0 (j := 8) rfl rfl)
theorem dX6_init_9 : decode cX6_init 9 = .ok (.invokespecial 9, 3) := dc_183 (bq_nm bk_X6_init_0 (j := 9) rfl rfl) (bq_nm bk_X6_init_0 (j := 10) rfl rfl) (bq_nm bk_X6_init_0 (j := 11) rfl rfl) rfl
theorem dX6_init_12 : decode cX6_init 12 = .ok (.putfield 10, 3) := dc_181 (bq_nm bk_X6_init_0 (j := 12) rfl rfl) (bq_nm bk_X6_init_0 (j := 13) rfl rfl) (bq_nm bk_X6_init_0 (j := 14) rfl rfl) rfl
theorem dX6_init_15 : decode cX6_init 15 = .ok (.aload_n 0, 1) := dc_42 (bq_nm bk_X6_init_0 (j := 15) rfl rfl)
theorem dX6_init_16 : decode cX6_init 16 = .ok (.iload_n 1, 1) := dc_27 (bq_nm bk_X6_init_0 (j := 16) rfl rfl)
theorem dX6_init_17 : decode cX6_init 17 = .ok (.anewarray 7, 3) := dc_189 (bq_nm bk_X6_init_0 (j := 17) rfl rfl) (bq_nm bk_X6_init_0 (j := 18) rfl rfl) (bq_nm bk_X6_init_0 (j := 19) rfl rfl) rfl
theorem dX6_init_20 : decode cX6_init 20 = .ok (.putfield 16, 3) := dc_181 (bq_nm bk_X6_init_0 (j := 20) rfl rfl) (bq_nm bk_X6_init_0 (j := 21) rfl rfl) (bq_nm bk_X6_init_0 (j := 22) rfl rfl) rfl
theorem dX6_init_23 : decode cX6_init 23 = .ok (.iconst 0, 1) := dc_3 (bq_nm bk_X6_init_0 (j := 23) rfl rfl)
theorem dX6_init_24 : decode cX6_init 24 = .ok (.istore_n 2, 1) := dc_61 (bq_nm bk_X6_init_0 (j := 24) rfl rfl)
theorem dX6_init_25 : decode cX6_init 25 = .ok (.iload_n 2, 1) := dc_28 (bq_nm bk_X6_init_0 (j := 25) rfl rfl)
theorem dX6_init_26 : decode cX6_init 26 = .ok (.iload_n 1, 1) := dc_27 (bq_nm bk_X6_init_0 (j := 26) rfl rfl)
theorem dX6_init_27 : decode cX6_init 27 = .ok (.if_icmp .ge 22, 3) := dc_162 (bq_nm bk_X6_init_0 (j := 27) rfl rfl) (bq_nm bk_X6_init_0 (j := 28) rfl rfl) (bq_nm bk_X6_init_0 (j := 29) rfl rfl) rfl
theorem dX6_init_30 : decode cX6_init 30 = .ok (.aload_n 0, 1) := dc_42 (bq_nm bk_X6_init_0 (j := 30) rfl rfl)
set_option maxRecDepth 20000 in
theorem bk_X6_init_31 : ((cX6_init.data.toList.drop 31).take 19).length = 19 ∧ eN (((cX6_init.data.toList.drop 31).take 19).map UInt8.toNat) = 3967790281323767434896246229681904921923813556 := by decide +kernel
theorem dX6_init_31 : decode cX6_init 31 = .ok (.getfield 16, 3) := dc_180 (bq_nm bk_X6_init_31 (j := 0) rfl rfl) (bq_nm bk_X6_init_31 (j := 1) rfl rfl) (bq_nm bk_X6_init_31 (j := 2) rfl rfl) rfl
theorem dX6_init_34 : decode cX6_init 34 = .ok (.iload_n 2, 1) := dc_28 (bq_nm bk_X6_init_31 (j := 3) rfl rfl)
theorem dX6_init_35 : decode cX6_init 35 = .ok (.new 7, 3) := dc_187 (bq_nm bk_X6_init_31 (j := 4) rfl rfl) (bq_nm bk_X6_init_31 (j := 5) rfl rfl) (bq_nm bk_X6_init_31 (j := 6) rfl rfl) rfl
theorem dX6_init_38 : decode cX6_init 38 = .ok (.dup, 1) := dc_89 (bq_nm bk_X6_init_31 (j := 7) rfl rfl)
theorem dX6_init_39 : decode cX6_init 39 = .ok (.invokespecial 9, 3) := dc_183 (bq_nm bk_X6_init_31 (j := 8) rfl rfl) (bq_nm bk_X6_init_31 (j := 9) rfl rfl) (bq_nm bk_X6_init_31 (j := 10) rfl rfl) rfl
theorem dX6_init_42 : decode cX6_init 42 = .ok (.aastore, 1) := dc_83 (bq_nm bk_X6_init_31 (j := 11) rfl rfl)
theorem dX6_init_43 : decode cX6_init 43 = .ok (.iinc 2 1, 3) := dc_132 (bq_nm bk_X6_init_31 (j := 12) rfl rfl) (bq_nm bk_X6_init_31 (j := 13) rfl rfl) (bq_nm bk_X6_init_31 (j := 14) rfl rfl) rfl
theorem dX6_init_46 : decode cX6_init 46 = .ok (.goto (-21), 3) := dc_167 (bq_nm bk_X6_init_31 (j := 15) rfl rfl) (bq_nm bk_X6_init_31 (j := 16) rfl rfl) (bq_nm bk_X6_init_31 (j := 17) rfl rfl) rfl
theorem dX6_init_49 : decode cX6_init 49 = .ok (.return_, 1) := dc_177 (bq_nm bk_X6_init_31 (j := 18) rfl rfl)
set_option maxRecDepth 20000 in
theorem bk_X6_get_0 : ((cX6_get.data.toList.drop 0).take 27).length = 27 ∧ eN (((cX6_get.data.toList.drop 0).take 27).map UInt8.toNat) = 72418274320188234211559884421387580200006841933203162276657404699 := by decide +kernel
theorem dX6_get_0 : decode cX6_get 0 = .ok (.iload_n 1, 1) := dc_27 (bq_nm bk_X6_get_0 (j := 0) rfl rfl)
theorem dX6_get_1 : decode cX6_get 1 = .ok (.ifCond .lt 21, 3) := dc_155 (bq_nm bk_X6_get_0 (j := 1) rfl rfl) (bq_nm bk_X6_get_0 (j := 2) rfl rfl) (bq_nm bk_X6_get_0 (j := 3) rfl rfl) rfl
theorem dX6_get_4 : decode cX6_get 4 = .ok (.iload_n 1, 1) := dc_27 (bq_nm bk_X6_get_0 (j := 4) rfl rfl)
theorem dX6_get_5 : decode cX6_get 5 = .ok (.aload_n 0, 1) := dc_42 (bq_nm bk_X6_get_0 (j := 5) rfl rfl)
theorem dX6_get_6 : decode cX6_get 6 = .ok (.getfield 16, 3) := dc_180 (bq_nm bk_X6_get_0 (j := 6) rfl rfl) (bq_nm bk_X6_get_0 (j := 7) rfl rfl) (bq_nm bk_X6_get_0 (j := 8) rfl rfl) rfl
theorem dX6_get_9 : decode cX6_get 9 = .ok (.arraylength, 1) := dc_190 (bq_nm bk_X6_get_0 (j := 9) rfl rfl)
theorem dX6_get_10 : decode cX6_get 10 = .ok (.if_icmp .ge 12, 3) := dc_162 (bq_nm bk_X6_get_0 (j := 10) rfl rfl) (bq_nm bk_X6_get_0 (j := 11) rfl rfl) (bq_nm bk_X6_get_0 (j := 12) rfl rfl) rfl
theorem dX6_get_13 : decode cX6_get 13 = .ok (.aload_n 0, 1) := dc_42 (bq_nm bk_X6_get_0 (j := 13) rfl rfl)
theorem dX6_get_14 : decode cX6_get 14 = .ok (.getfield 16, 3) := dc_180 (bq_nm bk_X6_get_0 (j := 14) rfl rfl) (bq_nm bk_X6_get_0 (j := 15) rfl rfl) (bq_nm bk_X6_get_0 (j := 16) rfl rfl) rfl
theorem dX6_get_17 : decode cX6_get 17 = .ok (.iload_n 1, 1) := dc_27 (bq_nm bk_X6_get_0 (j := 17) rfl rfl)
theorem dX6_get_18 : decode cX6_get 18 = .ok (.aaload, 1) := dc_50 (bq_nm bk_X6_get_0 (j := 18) rfl rfl)
theorem dX6_get_19 : decode cX6_get 19 = .ok (.goto 7, 3) := dc_167 (bq_nm bk_X6_get_0 (j := 19) rfl rfl) (bq_nm bk_X6_get_0 (j := 20) rfl rfl) (bq_nm bk_X6_get_0 (j := 21) rfl rfl) rfl
theorem dX6_get_26 : decode cX6_get 26 = .ok (.areturn, 1) := dc_176 (bq_nm bk_X6_get_0 (j := 26) rfl rfl)
set_option maxRecDepth 20000 in
theorem bk_X6_copy_0 : ((cX6_copy.data.toList.drop 0).take 32).length = 32 ∧ eN (((cX6_copy.data.toList.drop 0).take 32).map UInt8.toNat) = 80467513471873051456242117597391497728936033397521286055365795163022760361219 := by decide +kernel
theorem dX6_copy_0 : decode cX6_copy 0 = .ok (.iconst 0, 1) := dc_3 (bq_nm bk_X6_copy_0 (j := 0) rfl rfl)
theorem dX6_copy_1 : decode cX6_copy 1 = .ok (.istore_n 2, 1) := dc_61 (bq_nm bk_X6_copy_0 (j := 1) rfl rfl)
theorem dX6_copy_2 : decode cX6_copy 2 = .ok (.iload_n 2, 1) := dc_28 (bq_nm bk_X6_copy_0 (j := 2) rfl rfl)
theorem dX6_copy_3 : decode cX6_copy 3 = .ok (.aload_n 0, 1) := dc_42 (bq_nm bk_X6_copy_0 (j := 3) rfl rfl)
theorem dX6_copy_4 : decode cX6_copy 4 = .ok (.getfield 16, 3) := dc_180 (bq_nm bk_X6_copy_0 (j := 4) rfl rfl) (bq_nm bk_X6_copy_0 (j := 5) rfl rfl) (bq_nm bk_X6_copy_0 (j := 6) rfl rfl) rfl
theorem dX6_copy_7 : decode cX6_copy 7 = .ok (.arraylength, 1) := dc_190 (bq_nm bk_X6_copy_0 (j := 7) rfl rfl)
theorem dX6_copy_8 : decode cX6_copy 8 = .ok (.if_icmp .ge 23, 3) := dc_162 (bq_nm bk_X6_copy_0 (j := 8) rfl rfl) (bq_nm bk_X6_copy_0 (j := 9) rfl rfl) (bq_nm bk_X6_copy_0 (j := 10) rfl rfl) rfl
theorem dX6_copy_11 : decode cX6_copy 11 = .ok (.aload_n 0, 1) := dc_42 (bq_nm bk_X6_copy_0 (j := 11) rfl rfl)
theorem dX6_copy_12 : decode cX6_copy 12 = .ok (.getfield 16, 3) := dc_180 (bq_nm bk_X6_copy_0 (j := 12) rfl rfl) (bq_nm bk_X6_copy_0 (j := 13) rfl rfl) (bq_nm bk_X6_copy_0 (j := 14) rfl rfl) rfl
theorem dX6_copy_15 : decode cX6_copy 15 = .ok (.iload_n 2, 1) := dc_28 (bq_nm bk_X6_copy_0 (j := 15) rfl rfl)
theorem dX6_copy_16 : decode cX6_copy 16 = .ok (.aaload, 1) := dc_50 (bq_nm bk_X6_copy_0 (j := 16) rfl rfl)
theorem dX6_copy_17 : decode cX6_copy 17 = .ok (.aload_n 1, 1) := dc_43 (bq_nm bk_X6_copy_0 (j := 17) rfl rfl)
theorem dX6_copy_18 : decode cX6_copy 18 = .ok (.iload_n 2, 1) := dc_28 (bq_nm bk_X6_copy_0 (j := 18) rfl rfl)
theorem dX6_copy_19 : decode cX6_copy 19 = .ok (.invokevirtual 20, 3) := dc_182 (bq_nm bk_X6_copy_0 (j := 19) rfl rfl) (bq_nm bk_X6_copy_0 (j := 20) rfl rfl) (bq_nm bk_X6_copy_0 (j := 21) rfl rfl) rfl
theorem dX6_copy_22 : decode cX6_copy 22 = .ok (.invokevirtual 24, 3) := dc_182 (bq_nm bk_X6_copy_0 (j := 22) rfl rfl) (bq_nm bk_X6_copy_0 (j := 23) rfl rfl) (bq_nm bk_X6_copy_0 (j := 24) rfl rfl) rfl
theorem dX6_copy_25 : decode cX6_copy 25 = .ok (.iinc 2 1, 3) := dc_132 (bq_nm bk_X6_copy_0 (j := 25) rfl rfl) (bq_nm bk_X6_copy_0 (j := 26) rfl rfl) (bq_nm bk_X6_copy_0 (j := 27) rfl rfl) rfl
theorem dX6_copy_28 : decode cX6_copy 28 = .ok (.goto (-26), 3) := dc_167 (bq_nm bk_X6_copy_0 (j := 28) rfl rfl) (bq_nm bk_X6_copy_0 (j := 29) rfl rfl) (bq_nm bk_X6_copy_0 (j := 30) rfl rfl) rfl
theorem dX6_copy_31 : decode cX6_copy 31 = .ok (.return_, 1) := dc_177 (bq_nm bk_X6_copy_0 (j := 31) rfl rfl)
set_option maxRecDepth 20000 in
theorem bk_X7_rank_0 : ((cX7_rank.data.toList.drop 0).take 1).length = 1 ∧ eN (((cX7_rank.data.toList.drop 0).take 1).map UInt8.toNat) = 26 := by decide +kernel
theorem dX7_rank_0 : decode cX7_rank 0 = .ok (.iload_n 0, 1) := dc_26 (bq_nm bk_X7_rank_0 (j := 0) rfl rfl)
set_option maxRecDepth 20000 in
theorem bk_X7_rank_100 : ((cX7_rank.data.toList.drop 100).take 15).length = 15 ∧ eN (((cX7_rank.data.toList.drop 100).take 15).map UInt8.toNat) = 893149536017819039631559591752739844 := by decide +kernel
theorem dX7_rank_100 : decode cX7_rank 100 = .ok (.iconst 1, 1) := dc_4 (bq_nm bk_X7_rank_100 (j := 0) rfl rfl)
theorem dX7_rank_101 : decode cX7_rank 101 = .ok (.ireturn, 1) := dc_172 (bq_nm bk_X7_rank_100 (j := 1) rfl rfl)
theorem dX7_rank_102 : decode cX7_rank 102 = .ok (.iconst 2, 1) := dc_5 (bq_nm bk_X7_rank_100 (j := 2) rfl rfl)
theorem dX7_rank_103 : decode cX7_rank 103 = .ok (.ireturn, 1) := dc_172 (bq_nm bk_X7_rank_100 (j := 3) rfl rfl)
theorem dX7_rank_104 : decode cX7_rank 104 = .ok (.iconst 3, 1) := dc_6 (bq_nm bk_X7_rank_100 (j := 4) rfl rfl)
theorem dX7_rank_105 : decode cX7_rank 105 = .ok (.ireturn, 1) := dc_172 (bq_nm bk_X7_rank_100 (j := 5) rfl rfl)
theorem dX7_rank_106 : decode cX7_rank 106 = .ok (.iconst 4, 1) := dc_7 (bq_nm bk_X7_rank_100 (j := 6) rfl rfl)
theorem dX7_rank_107 : decode cX7_rank 107 = .ok (.ireturn, 1) := dc_172 (bq_nm bk_X7_rank_100 (j := 7) rfl rfl)
theorem dX7_rank_108 : decode cX7_rank 108 = .ok (.iconst 5, 1) := dc_8 (bq_nm bk_X7_rank_100 (j := 8) rfl rfl)
theorem dX7_rank_109 : decode cX7_rank 109 = .ok (.ireturn, 1) := dc_172 (bq_nm bk_X7_rank_100 (j := 9) rfl rfl)
theorem dX7_rank_110 : decode cX7_rank 110 = .ok (.bipush 6, 2) := dc_16 (bq_nm bk_X7_rank_100 (j := 10) rfl rfl) (bq_nm bk_X7_rank_100 (j := 11) rfl rfl) rfl
theorem dX7_rank_112 : decode cX7_rank 112 = .ok (.ireturn, 1) := dc_172 (bq_nm bk_X7_rank_100 (j := 12) rfl rfl)
theorem dX7_rank_113 : decode cX7_rank 113 = .ok (.iconst 0, 1) := dc_3 (bq_nm bk_X7_rank_100 (j := 13) rfl rfl)
theorem dX7_rank_114 : decode cX7_rank 114 = .ok (.ireturn, 1) := dc_172 (bq_nm bk_X7_rank_100 (j := 14) rfl rfl)
set_option maxRecDepth 20000 in
theorem bk_X7_turned_0 : ((cX7_turned.data.toList.drop 0).take 26).length = 26 ∧ eN (((cX7_turned.data.toList.drop 0).take 26).map UInt8.toNat) = 278735463156782807489973128295385186031827916961825972195233818 := by decide +kernel
theorem dX7_turned_0 : decode cX7_turned 0 = .ok (.iload_n 0, 1) := dc_26 (bq_nm bk_X7_turned_0 (j := 0) rfl rfl)
theorem dX7_turned_1 : decode cX7_turned 1 = .ok (.bipush 33, 2) := dc_16 (bq_nm bk_X7_turned_0 (j := 1) rfl rfl) (bq_nm bk_X7_turned_0 (j := 2) rfl rfl) rfl
theorem dX7_turned_3 : decode cX7_turned 3 = .ok (.if_icmp .ne 20, 3) := dc_160 (bq_nm bk_X7_turned_0 (j := 3) rfl rfl) (bq_nm bk_X7_turned_0 (j := 4) rfl rfl) (bq_nm bk_X7_turned_0 (j := 5) rfl rfl) rfl
theorem dX7_turned_6 : decode cX7_turned 6 = .ok (.lload_n 1, 1) := dc_31 (bq_nm bk_X7_turned_0 (j := 6) rfl rfl)
theorem dX7_turned_7 : decode cX7_turned 7 = .ok (.lconst 0, 1) := dc_9 (bq_nm bk_X7_turned_0 (j := 7) rfl rfl)
theorem dX7_turned_8 : decode cX7_turned 8 = .ok (.lcmp, 1) := dc_148 (bq_nm bk_X7_turned_0 (j := 8) rfl rfl)
theorem dX7_turned_9 : decode cX7_turned 9 = .ok (.ifCond .ne 7, 3) := dc_154 (bq_nm bk_X7_turned_0 (j := 9) rfl rfl) (bq_nm bk_X7_turned_0 (j := 10) rfl rfl) (bq_nm bk_X7_turned_0 (j := 11) rfl rfl) rfl
theorem dX7_turned_12 : decode cX7_turned 12 = .ok (.iconst 1, 1) := dc_4 (bq_nm bk_X7_turned_0 (j := 12) rfl rfl)
theorem dX7_turned_13 : decode cX7_turned 13 = .ok (.goto 4, 3) := dc_167 (bq_nm bk_X7_turned_0 (j := 13) rfl rfl) (bq_nm bk_X7_turned_0 (j := 14) rfl rfl) (bq_nm bk_X7_turned_0 (j := 15) rfl rfl) rfl
theorem dX7_turned_16 : decode cX7_turned 16 = .ok (.iconst 0, 1) := dc_3 (bq_nm bk_X7_turned_0 (j := 16) rfl rfl)
theorem dX7_turned_17 : decode cX7_turned 17 = .ok (.invokestatic 9, 3) := dc_184 (bq_nm bk_X7_turned_0 (j := 17) rfl rfl) (bq_nm bk_X7_turned_0 (j := 18) rfl rfl) (bq_nm bk_X7_turned_0 (j := 19) rfl rfl) rfl
theorem dX7_turned_20 : decode cX7_turned 20 = .ok (.goto 5, 3) := dc_167 (bq_nm bk_X7_turned_0 (j := 20) rfl rfl) (bq_nm bk_X7_turned_0 (j := 21) rfl rfl) (bq_nm bk_X7_turned_0 (j := 22) rfl rfl) rfl
theorem dX7_turned_23 : decode cX7_turned 23 = .ok (.lload_n 1, 1) := dc_31 (bq_nm bk_X7_turned_0 (j := 23) rfl rfl)
theorem dX7_turned_24 : decode cX7_turned 24 = .ok (.lneg, 1) := dc_117 (bq_nm bk_X7_turned_0 (j := 24) rfl rfl)
theorem dX7_turned_25 : decode cX7_turned 25 = .ok (.lreturn, 1) := dc_173 (bq_nm bk_X7_turned_0 (j := 25) rfl rfl)
set_option maxRecDepth 20000 in
theorem bk_X7_joined_0 : ((cX7_joined.data.toList.drop 0).take 1).length = 1 ∧ eN (((cX7_joined.data.toList.drop 0).take 1).map UInt8.toNat) = 26 := by decide +kernel
theorem dX7_joined_0 : decode cX7_joined 0 = .ok (.iload_n 0, 1) := dc_26 (bq_nm bk_X7_joined_0 (j := 0) rfl rfl)
set_option maxRecDepth 20000 in
theorem bk_X7_joined_76 : ((cX7_joined.data.toList.drop 76).take 30).length = 30 ∧ eN (((cX7_joined.data.toList.drop 76).take 30).map UInt8.toNat) = 1021704579499486696368411581544155215205677305807323368140089892782999839 := by decide +kernel
theorem dX7_joined_76 : decode cX7_joined 76 = .ok (.lload_n 1, 1) := dc_31 (bq_nm bk_X7_joined_76 (j := 0) rfl rfl)
theorem dX7_joined_77 : decode cX7_joined 77 = .ok (.lconst 0, 1) := dc_9 (bq_nm bk_X7_joined_76 (j := 1) rfl rfl)
theorem dX7_joined_78 : decode cX7_joined 78 = .ok (.lcmp, 1) := dc_148 (bq_nm bk_X7_joined_76 (j := 2) rfl rfl)
theorem dX7_joined_79 : decode cX7_joined 79 = .ok (.ifCond .ne 9, 3) := dc_154 (bq_nm bk_X7_joined_76 (j := 3) rfl rfl) (bq_nm bk_X7_joined_76 (j := 4) rfl rfl) (bq_nm bk_X7_joined_76 (j := 5) rfl rfl) rfl
theorem dX7_joined_82 : decode cX7_joined 82 = .ok (.lload_n 3, 1) := dc_33 (bq_nm bk_X7_joined_76 (j := 6) rfl rfl)
theorem dX7_joined_83 : decode cX7_joined 83 = .ok (.lconst 0, 1) := dc_9 (bq_nm bk_X7_joined_76 (j := 7) rfl rfl)
theorem dX7_joined_84 : decode cX7_joined 84 = .ok (.lcmp, 1) := dc_148 (bq_nm bk_X7_joined_76 (j := 8) rfl rfl)
theorem dX7_joined_85 : decode cX7_joined 85 = .ok (.ifCond .eq 7, 3) := dc_153 (bq_nm bk_X7_joined_76 (j := 9) rfl rfl) (bq_nm bk_X7_joined_76 (j := 10) rfl rfl) (bq_nm bk_X7_joined_76 (j := 11) rfl rfl) rfl
theorem dX7_joined_88 : decode cX7_joined 88 = .ok (.iconst 1, 1) := dc_4 (bq_nm bk_X7_joined_76 (j := 12) rfl rfl)
theorem dX7_joined_89 : decode cX7_joined 89 = .ok (.goto 4, 3) := dc_167 (bq_nm bk_X7_joined_76 (j := 13) rfl rfl) (bq_nm bk_X7_joined_76 (j := 14) rfl rfl) (bq_nm bk_X7_joined_76 (j := 15) rfl rfl) rfl
theorem dX7_joined_92 : decode cX7_joined 92 = .ok (.iconst 0, 1) := dc_3 (bq_nm bk_X7_joined_76 (j := 16) rfl rfl)
theorem dX7_joined_93 : decode cX7_joined 93 = .ok (.invokestatic 9, 3) := dc_184 (bq_nm bk_X7_joined_76 (j := 17) rfl rfl) (bq_nm bk_X7_joined_76 (j := 18) rfl rfl) (bq_nm bk_X7_joined_76 (j := 19) rfl rfl) rfl
theorem dX7_joined_96 : decode cX7_joined 96 = .ok (.lreturn, 1) := dc_173 (bq_nm bk_X7_joined_76 (j := 20) rfl rfl)
theorem dX7_joined_97 : decode cX7_joined 97 = .ok (.lload_n 1, 1) := dc_31 (bq_nm bk_X7_joined_76 (j := 21) rfl rfl)
theorem dX7_joined_98 : decode cX7_joined 98 = .ok (.lconst 0, 1) := dc_9 (bq_nm bk_X7_joined_76 (j := 22) rfl rfl)
theorem dX7_joined_99 : decode cX7_joined 99 = .ok (.lcmp, 1) := dc_148 (bq_nm bk_X7_joined_76 (j := 23) rfl rfl)
theorem dX7_joined_100 : decode cX7_joined 100 = .ok (.ifCond .eq 13, 3) := dc_153 (bq_nm bk_X7_joined_76 (j := 24) rfl rfl) (bq_nm bk_X7_joined_76 (j := 25) rfl rfl) (bq_nm bk_X7_joined_76 (j := 26) rfl rfl) rfl
theorem dX7_joined_103 : decode cX7_joined 103 = .ok (.lload_n 3, 1) := dc_33 (bq_nm bk_X7_joined_76 (j := 27) rfl rfl)
theorem dX7_joined_104 : decode cX7_joined 104 = .ok (.lconst 0, 1) := dc_9 (bq_nm bk_X7_joined_76 (j := 28) rfl rfl)
theorem dX7_joined_105 : decode cX7_joined 105 = .ok (.lcmp, 1) := dc_148 (bq_nm bk_X7_joined_76 (j := 29) rfl rfl)
set_option maxRecDepth 20000 in
theorem bk_X7_joined_106 : ((cX7_joined.data.toList.drop 106).take 30).length = 30 ∧ eN (((cX7_joined.data.toList.drop 106).take 30).map UInt8.toNat) = 1022351473428600195422560504513076128004498882570241868855540393915646105 := by decide +kernel
theorem dX7_joined_106 : decode cX7_joined 106 = .ok (.ifCond .eq 7, 3) := dc_153 (bq_nm bk_X7_joined_106 (j := 0) rfl rfl) (bq_nm bk_X7_joined_106 (j := 1) rfl rfl) (bq_nm bk_X7_joined_106 (j := 2) rfl rfl) rfl
theorem dX7_joined_109 : decode cX7_joined 109 = .ok (.iconst 1, 1) := dc_4 (bq_nm bk_X7_joined_106 (j := 3) rfl rfl)
theorem dX7_joined_110 : decode cX7_joined 110 = .ok (.goto 4, 3) := dc_167 (bq_nm bk_X7_joined_106 (j := 4) rfl rfl) (bq_nm bk_X7_joined_106 (j := 5) rfl rfl) (bq_nm bk_X7_joined_106 (j := 6) rfl rfl) rfl
theorem dX7_joined_113 : decode cX7_joined 113 = .ok (.iconst 0, 1) := dc_3 (bq_nm bk_X7_joined_106 (j := 7) rfl rfl)
theorem dX7_joined_114 : decode cX7_joined 114 = .ok (.invokestatic 9, 3) := dc_184 (bq_nm bk_X7_joined_106 (j := 8) rfl rfl) (bq_nm bk_X7_joined_106 (j := 9) rfl rfl) (bq_nm bk_X7_joined_106 (j := 10) rfl rfl) rfl
theorem dX7_joined_117 : decode cX7_joined 117 = .ok (.lreturn, 1) := dc_173 (bq_nm bk_X7_joined_106 (j := 11) rfl rfl)
theorem dX7_joined_118 : decode cX7_joined 118 = .ok (.lload_n 1, 1) := dc_31 (bq_nm bk_X7_joined_106 (j := 12) rfl rfl)
theorem dX7_joined_119 : decode cX7_joined 119 = .ok (.lload_n 3, 1) := dc_33 (bq_nm bk_X7_joined_106 (j := 13) rfl rfl)
theorem dX7_joined_120 : decode cX7_joined 120 = .ok (.lcmp, 1) := dc_148 (bq_nm bk_X7_joined_106 (j := 14) rfl rfl)
theorem dX7_joined_121 : decode cX7_joined 121 = .ok (.ifCond .ge 7, 3) := dc_156 (bq_nm bk_X7_joined_106 (j := 15) rfl rfl) (bq_nm bk_X7_joined_106 (j := 16) rfl rfl) (bq_nm bk_X7_joined_106 (j := 17) rfl rfl) rfl
theorem dX7_joined_124 : decode cX7_joined 124 = .ok (.iconst 1, 1) := dc_4 (bq_nm bk_X7_joined_106 (j := 18) rfl rfl)
theorem dX7_joined_125 : decode cX7_joined 125 = .ok (.goto 4, 3) := dc_167 (bq_nm bk_X7_joined_106 (j := 19) rfl rfl) (bq_nm bk_X7_joined_106 (j := 20) rfl rfl) (bq_nm bk_X7_joined_106 (j := 21) rfl rfl) rfl
theorem dX7_joined_128 : decode cX7_joined 128 = .ok (.iconst 0, 1) := dc_3 (bq_nm bk_X7_joined_106 (j := 22) rfl rfl)
theorem dX7_joined_129 : decode cX7_joined 129 = .ok (.invokestatic 9, 3) := dc_184 (bq_nm bk_X7_joined_106 (j := 23) rfl rfl) (bq_nm bk_X7_joined_106 (j := 24) rfl rfl) (bq_nm bk_X7_joined_106 (j := 25) rfl rfl) rfl
theorem dX7_joined_132 : decode cX7_joined 132 = .ok (.lreturn, 1) := dc_173 (bq_nm bk_X7_joined_106 (j := 26) rfl rfl)
theorem dX7_joined_133 : decode cX7_joined 133 = .ok (.lload_n 1, 1) := dc_31 (bq_nm bk_X7_joined_106 (j := 27) rfl rfl)
theorem dX7_joined_134 : decode cX7_joined 134 = .ok (.lload_n 3, 1) := dc_33 (bq_nm bk_X7_joined_106 (j := 28) rfl rfl)
theorem dX7_joined_135 : decode cX7_joined 135 = .ok (.lcmp, 1) := dc_148 (bq_nm bk_X7_joined_106 (j := 29) rfl rfl)
set_option maxRecDepth 20000 in
theorem bk_X7_joined_136 : ((cX7_joined.data.toList.drop 136).take 32).length = 32 ∧ eN (((cX7_joined.data.toList.drop 136).take 32).map UInt8.toNat) = 14328033210697660810033222821479863192672337956097813851816839323819794956446 := by decide +kernel
theorem dX7_joined_136 : decode cX7_joined 136 = .ok (.ifCond .le 7, 3) := dc_158 (bq_nm bk_X7_joined_136 (j := 0) rfl rfl) (bq_nm bk_X7_joined_136 (j := 1) rfl rfl) (bq_nm bk_X7_joined_136 (j := 2) rfl rfl) rfl
theorem dX7_joined_139 : decode cX7_joined 139 = .ok (.iconst 1, 1) := dc_4 (bq_nm bk_X7_joined_136 (j := 3) rfl rfl)
theorem dX7_joined_140 : decode cX7_joined 140 = .ok (.goto 4, 3) := dc_167 (bq_nm bk_X7_joined_136 (j := 4) rfl rfl) (bq_nm bk_X7_joined_136 (j := 5) rfl rfl) (bq_nm bk_X7_joined_136 (j := 6) rfl rfl) rfl
theorem dX7_joined_143 : decode cX7_joined 143 = .ok (.iconst 0, 1) := dc_3 (bq_nm bk_X7_joined_136 (j := 7) rfl rfl)
theorem dX7_joined_144 : decode cX7_joined 144 = .ok (.invokestatic 9, 3) := dc_184 (bq_nm bk_X7_joined_136 (j := 8) rfl rfl) (bq_nm bk_X7_joined_136 (j := 9) rfl rfl) (bq_nm bk_X7_joined_136 (j := 10) rfl rfl) rfl
theorem dX7_joined_147 : decode cX7_joined 147 = .ok (.lreturn, 1) := dc_173 (bq_nm bk_X7_joined_136 (j := 11) rfl rfl)
theorem dX7_joined_148 : decode cX7_joined 148 = .ok (.lload_n 1, 1) := dc_31 (bq_nm bk_X7_joined_136 (j := 12) rfl rfl)
theorem dX7_joined_149 : decode cX7_joined 149 = .ok (.lload_n 3, 1) := dc_33 (bq_nm bk_X7_joined_136 (j := 13) rfl rfl)
theorem dX7_joined_150 : decode cX7_joined 150 = .ok (.lcmp, 1) := dc_148 (bq_nm bk_X7_joined_136 (j := 14) rfl rfl)
theorem dX7_joined_151 : decode cX7_joined 151 = .ok (.ifCond .ne 7, 3) := dc_154 (bq_nm bk_X7_joined_136 (j := 15) rfl rfl) (bq_nm bk_X7_joined_136 (j := 16) rfl rfl) (bq_nm bk_X7_joined_136 (j := 17) rfl rfl) rfl
theorem dX7_joined_154 : decode cX7_joined 154 = .ok (.iconst 1, 1) := dc_4 (bq_nm bk_X7_joined_136 (j := 18) rfl rfl)
theorem dX7_joined_155 : decode cX7_joined 155 = .ok (.goto 4, 3) := dc_167 (bq_nm bk_X7_joined_136 (j := 19) rfl rfl) (bq_nm bk_X7_joined_136 (j := 20) rfl rfl) (bq_nm bk_X7_joined_136 (j := 21) rfl rfl) rfl
theorem dX7_joined_158 : decode cX7_joined 158 = .ok (.iconst 0, 1) := dc_3 (bq_nm bk_X7_joined_136 (j := 22) rfl rfl)
theorem dX7_joined_159 : decode cX7_joined 159 = .ok (.invokestatic 9, 3) := dc_184 (bq_nm bk_X7_joined_136 (j := 23) rfl rfl) (bq_nm bk_X7_joined_136 (j := 24) rfl rfl) (bq_nm bk_X7_joined_136 (j := 25) rfl rfl) rfl
theorem dX7_joined_162 : decode cX7_joined 162 = .ok (.lreturn, 1) := dc_173 (bq_nm bk_X7_joined_136 (j := 26) rfl rfl)
theorem dX7_joined_163 : decode cX7_joined 163 = .ok (.lload_n 1, 1) := dc_31 (bq_nm bk_X7_joined_136 (j := 27) rfl rfl)
theorem dX7_joined_164 : decode cX7_joined 164 = .ok (.lload_n 3, 1) := dc_33 (bq_nm bk_X7_joined_136 (j := 28) rfl rfl)
theorem dX7_joined_165 : decode cX7_joined 165 = .ok (.ladd, 1) := dc_97 (bq_nm bk_X7_joined_136 (j := 29) rfl rfl)
theorem dX7_joined_166 : decode cX7_joined 166 = .ok (.lreturn, 1) := dc_173 (bq_nm bk_X7_joined_136 (j := 30) rfl rfl)
theorem dX7_joined_167 : decode cX7_joined 167 = .ok (.lload_n 1, 1) := dc_31 (bq_nm bk_X7_joined_136 (j := 31) rfl rfl)
set_option maxRecDepth 20000 in
theorem bk_X7_joined_168 : ((cX7_joined.data.toList.drop 168).take 21).length = 21 ∧ eN (((cX7_joined.data.toList.drop 168).take 21).map UInt8.toNat) = 253462801879380980250707682007754828196168080385313 := by decide +kernel
theorem dX7_joined_168 : decode cX7_joined 168 = .ok (.lload_n 3, 1) := dc_33 (bq_nm bk_X7_joined_168 (j := 0) rfl rfl)
theorem dX7_joined_169 : decode cX7_joined 169 = .ok (.lsub, 1) := dc_101 (bq_nm bk_X7_joined_168 (j := 1) rfl rfl)
theorem dX7_joined_170 : decode cX7_joined 170 = .ok (.lreturn, 1) := dc_173 (bq_nm bk_X7_joined_168 (j := 2) rfl rfl)
theorem dX7_joined_171 : decode cX7_joined 171 = .ok (.lload_n 1, 1) := dc_31 (bq_nm bk_X7_joined_168 (j := 3) rfl rfl)
theorem dX7_joined_172 : decode cX7_joined 172 = .ok (.lload_n 3, 1) := dc_33 (bq_nm bk_X7_joined_168 (j := 4) rfl rfl)
theorem dX7_joined_173 : decode cX7_joined 173 = .ok (.lmul, 1) := dc_105 (bq_nm bk_X7_joined_168 (j := 5) rfl rfl)
theorem dX7_joined_174 : decode cX7_joined 174 = .ok (.lreturn, 1) := dc_173 (bq_nm bk_X7_joined_168 (j := 6) rfl rfl)
theorem dX7_joined_175 : decode cX7_joined 175 = .ok (.lload_n 3, 1) := dc_33 (bq_nm bk_X7_joined_168 (j := 7) rfl rfl)
theorem dX7_joined_176 : decode cX7_joined 176 = .ok (.lconst 0, 1) := dc_9 (bq_nm bk_X7_joined_168 (j := 8) rfl rfl)
theorem dX7_joined_177 : decode cX7_joined 177 = .ok (.lcmp, 1) := dc_148 (bq_nm bk_X7_joined_168 (j := 9) rfl rfl)
theorem dX7_joined_178 : decode cX7_joined 178 = .ok (.ifCond .ne 7, 3) := dc_154 (bq_nm bk_X7_joined_168 (j := 10) rfl rfl) (bq_nm bk_X7_joined_168 (j := 11) rfl rfl) (bq_nm bk_X7_joined_168 (j := 12) rfl rfl) rfl
theorem dX7_joined_181 : decode cX7_joined 181 = .ok (.lconst 0, 1) := dc_9 (bq_nm bk_X7_joined_168 (j := 13) rfl rfl)
theorem dX7_joined_182 : decode cX7_joined 182 = .ok (.goto 6, 3) := dc_167 (bq_nm bk_X7_joined_168 (j := 14) rfl rfl) (bq_nm bk_X7_joined_168 (j := 15) rfl rfl) (bq_nm bk_X7_joined_168 (j := 16) rfl rfl) rfl
theorem dX7_joined_185 : decode cX7_joined 185 = .ok (.lload_n 1, 1) := dc_31 (bq_nm bk_X7_joined_168 (j := 17) rfl rfl)
theorem dX7_joined_186 : decode cX7_joined 186 = .ok (.lload_n 3, 1) := dc_33 (bq_nm bk_X7_joined_168 (j := 18) rfl rfl)
theorem dX7_joined_187 : decode cX7_joined 187 = .ok (.ldiv, 1) := dc_109 (bq_nm bk_X7_joined_168 (j := 19) rfl rfl)
theorem dX7_joined_188 : decode cX7_joined 188 = .ok (.lreturn, 1) := dc_173 (bq_nm bk_X7_joined_168 (j := 20) rfl rfl)
set_option maxRecDepth 20000 in
theorem bk_X7_truth_0 : ((cX7_truth.data.toList.drop 0).take 10).length = 10 ∧ eN (((cX7_truth.data.toList.drop 0).take 10).map UInt8.toNat) = 817135710647149668636954 := by decide +kernel
theorem dX7_truth_0 : decode cX7_truth 0 = .ok (.iload_n 0, 1) := dc_26 (bq_nm bk_X7_truth_0 (j := 0) rfl rfl)
theorem dX7_truth_1 : decode cX7_truth 1 = .ok (.ifCond .eq 7, 3) := dc_153 (bq_nm bk_X7_truth_0 (j := 1) rfl rfl) (bq_nm bk_X7_truth_0 (j := 2) rfl rfl) (bq_nm bk_X7_truth_0 (j := 3) rfl rfl) rfl
theorem dX7_truth_4 : decode cX7_truth 4 = .ok (.lconst 1, 1) := dc_10 (bq_nm bk_X7_truth_0 (j := 4) rfl rfl)
theorem dX7_truth_5 : decode cX7_truth 5 = .ok (.goto 4, 3) := dc_167 (bq_nm bk_X7_truth_0 (j := 5) rfl rfl) (bq_nm bk_X7_truth_0 (j := 6) rfl rfl) (bq_nm bk_X7_truth_0 (j := 7) rfl rfl) rfl
theorem dX7_truth_8 : decode cX7_truth 8 = .ok (.lconst 0, 1) := dc_9 (bq_nm bk_X7_truth_0 (j := 8) rfl rfl)
theorem dX7_truth_9 : decode cX7_truth 9 = .ok (.lreturn, 1) := dc_173 (bq_nm bk_X7_truth_0 (j := 9) rfl rfl)
set_option maxRecDepth 20000 in
theorem bk_X8_init_0 : ((cX8_init.data.toList.drop 0).take 21).length = 21 ∧ eN (((cX8_init.data.toList.drop 0).take 21).map UInt8.toNat) = 258771440440108906238629153852056545299208578578218 := by decide +kernel
theorem dX8_init_0 : decode cX8_init 0 = .ok (.aload_n 0, 1) := dc_42 (bq_nm bk_X8_init_0 (j := 0) rfl rfl)
theorem dX8_init_1 : decode cX8_init 1 = .ok (.invokespecial 3, 3) := dc_183 (bq_nm bk_X8_init_0 (j := 1) rfl rfl) (bq_nm bk_X8_init_0 (j := 2) rfl rfl) (bq_nm bk_X8_init_0 (j := 3) rfl rfl) rfl
theorem dX8_init_4 : decode cX8_init 4 = .ok (.aload_n 0, 1) := dc_42 (bq_nm bk_X8_init_0 (j := 4) rfl rfl)
theorem dX8_init_5 : decode cX8_init 5 = .ok (.bipush 50, 2) := dc_16 (bq_nm bk_X8_init_0 (j := 5) rfl rfl) (bq_nm bk_X8_init_0 (j := 6) rfl rfl) rfl
theorem dX8_init_7 : decode cX8_init 7 = .ok (.newarray .int, 2) := dc_188_10 (bq_nm bk_X8_init_0 (j := 7) rfl rfl) (bq_nm bk_X8_init_0 (j := 8) rfl rfl)
theorem dX8_init_9 : decode cX8_init 9 = .ok (.putfield 9, 3) := dc_181 (bq_nm bk_X8_init_0 (j := 9) rfl rfl) (bq_nm bk_X8_init_0 (j := 10) rfl rfl) (bq_nm bk_X8_init_0 (j := 11) rfl rfl) rfl
theorem dX8_init_12 : decode cX8_init 12 = .ok (.aload_n 0, 1) := dc_42 (bq_nm bk_X8_init_0 (j := 12) rfl rfl)
theorem dX8_init_13 : decode cX8_init 13 = .ok (.bipush 50, 2) := dc_16 (bq_nm bk_X8_init_0 (j := 13) rfl rfl) (bq_nm bk_X8_init_0 (j := 14) rfl rfl) rfl
theorem dX8_init_15 : decode cX8_init 15 = .ok (.newarray .int, 2) := dc_188_10 (bq_nm bk_X8_init_0 (j := 15) rfl rfl) (bq_nm bk_X8_init_0 (j := 16) rfl rfl)
theorem dX8_init_17 : decode cX8_init 17 = .ok (.putfield 15, 3) := dc_181 (bq_nm bk_X8_init_0 (j := 17) rfl rfl) (bq_nm bk_X8_init_0 (j := 18) rfl rfl) (bq_nm bk_X8_init_0 (j := 19) rfl rfl) rfl
theorem dX8_init_20 : decode cX8_init 20 = .ok (.return_, 1) := dc_177 (bq_nm bk_X8_init_0 (j := 20) rfl rfl)
set_option maxRecDepth 20000 in
theorem bk_X8_length_0 : ((cX8_length.data.toList.drop 0).take 5).length = 5 ∧ eN (((cX8_length.data.toList.drop 0).take 5).map UInt8.toNat) = 739036410922 := by decide +kernel
theorem dX8_length_0 : decode cX8_length 0 = .ok (.aload_n 0, 1) := dc_42 (bq_nm bk_X8_length_0 (j := 0) rfl rfl)
theorem dX8_length_1 : decode cX8_length 1 = .ok (.getfield 18, 3) := dc_180 (bq_nm bk_X8_length_0 (j := 1) rfl rfl) (bq_nm bk_X8_length_0 (j := 2) rfl rfl) (bq_nm bk_X8_length_0 (j := 3) rfl rfl) rfl
theorem dX8_length_4 : decode cX8_length 4 = .ok (.ireturn, 1) := dc_172 (bq_nm bk_X8_length_0 (j := 4) rfl rfl)
set_option maxRecDepth 20000 in
theorem bk_X8_signAt_0 : ((cX8_signAt.data.toList.drop 0).take 23).length = 23 ∧ eN (((cX8_signAt.data.toList.drop 0).take 23).map UInt8.toNat) = 16475455347300565497303171814967715085647637277285849883 := by decide +kernel
theorem dX8_signAt_0 : decode cX8_signAt 0 = .ok (.iload_n 1, 1) := dc_27 (bq_nm bk_X8_signAt_0 (j := 0) rfl rfl)
theorem dX8_signAt_1 : decode cX8_signAt 1 = .ok (.ifCond .lt 20, 3) := dc_155 (bq_nm bk_X8_signAt_0 (j := 1) rfl rfl) (bq_nm bk_X8_signAt_0 (j := 2) rfl rfl) (bq_nm bk_X8_signAt_0 (j := 3) rfl rfl) rfl
theorem dX8_signAt_4 : decode cX8_signAt 4 = .ok (.iload_n 1, 1) := dc_27 (bq_nm bk_X8_signAt_0 (j := 4) rfl rfl)
theorem dX8_signAt_5 : decode cX8_signAt 5 = .ok (.aload_n 0, 1) := dc_42 (bq_nm bk_X8_signAt_0 (j := 5) rfl rfl)
theorem dX8_signAt_6 : decode cX8_signAt 6 = .ok (.getfield 18, 3) := dc_180 (bq_nm bk_X8_signAt_0 (j := 6) rfl rfl) (bq_nm bk_X8_signAt_0 (j := 7) rfl rfl) (bq_nm bk_X8_signAt_0 (j := 8) rfl rfl) rfl
theorem dX8_signAt_9 : decode cX8_signAt 9 = .ok (.if_icmp .ge 12, 3) := dc_162 (bq_nm bk_X8_signAt_0 (j := 9) rfl rfl) (bq_nm bk_X8_signAt_0 (j := 10) rfl rfl) (bq_nm bk_X8_signAt_0 (j := 11) rfl rfl) rfl
theorem dX8_signAt_12 : decode cX8_signAt 12 = .ok (.aload_n 0, 1) := dc_42 (bq_nm bk_X8_signAt_0 (j := 12) rfl rfl)
theorem dX8_signAt_13 : decode cX8_signAt 13 = .ok (.getfield 9, 3) := dc_180 (bq_nm bk_X8_signAt_0 (j := 13) rfl rfl) (bq_nm bk_X8_signAt_0 (j := 14) rfl rfl) (bq_nm bk_X8_signAt_0 (j := 15) rfl rfl) rfl
theorem dX8_signAt_16 : decode cX8_signAt 16 = .ok (.iload_n 1, 1) := dc_27 (bq_nm bk_X8_signAt_0 (j := 16) rfl rfl)
theorem dX8_signAt_17 : decode cX8_signAt 17 = .ok (.iaload, 1) := dc_46 (bq_nm bk_X8_signAt_0 (j := 17) rfl rfl)
theorem dX8_signAt_18 : decode cX8_signAt 18 = .ok (.goto 4, 3) := dc_167 (bq_nm bk_X8_signAt_0 (j := 18) rfl rfl) (bq_nm bk_X8_signAt_0 (j := 19) rfl rfl) (bq_nm bk_X8_signAt_0 (j := 20) rfl rfl) rfl
theorem dX8_signAt_21 : decode cX8_signAt 21 = .ok (.iconst 0, 1) := dc_3 (bq_nm bk_X8_signAt_0 (j := 21) rfl rfl)
theorem dX8_signAt_22 : decode cX8_signAt 22 = .ok (.ireturn, 1) := dc_172 (bq_nm bk_X8_signAt_0 (j := 22) rfl rfl)
set_option maxRecDepth 20000 in
theorem bk_X8_put_0 : ((cX8_put.data.toList.drop 0).take 32).length = 32 ∧ eN (((cX8_put.data.toList.drop 0).take 32).map UInt8.toNat) = 8142883079171099198473593453812029787983366416187414650819170460845847131178 := by decide +kernel
theorem dX8_put_0 : decode cX8_put 0 = .ok (.aload_n 0, 1) := dc_42 (bq_nm bk_X8_put_0 (j := 0) rfl rfl)
theorem dX8_put_1 : decode cX8_put 1 = .ok (.getfield 18, 3) := dc_180 (bq_nm bk_X8_put_0 (j := 1) rfl rfl) (bq_nm bk_X8_put_0 (j := 2) rfl rfl) (bq_nm bk_X8_put_0 (j := 3) rfl rfl) rfl
theorem dX8_put_4 : decode cX8_put 4 = .ok (.bipush 50, 2) := dc_16 (bq_nm bk_X8_put_0 (j := 4) rfl rfl) (bq_nm bk_X8_put_0 (j := 5) rfl rfl) rfl
theorem dX8_put_6 : decode cX8_put 6 = .ok (.if_icmp .lt 6, 3) := dc_161 (bq_nm bk_X8_put_0 (j := 6) rfl rfl) (bq_nm bk_X8_put_0 (j := 7) rfl rfl) (bq_nm bk_X8_put_0 (j := 8) rfl rfl) rfl
theorem dX8_put_9 : decode cX8_put 9 = .ok (.bipush (-4), 2) := dc_16 (bq_nm bk_X8_put_0 (j := 9) rfl rfl) (bq_nm bk_X8_put_0 (j := 10) rfl rfl) rfl
theorem dX8_put_11 : decode cX8_put 11 = .ok (.ireturn, 1) := dc_172 (bq_nm bk_X8_put_0 (j := 11) rfl rfl)
theorem dX8_put_12 : decode cX8_put 12 = .ok (.aload_n 0, 1) := dc_42 (bq_nm bk_X8_put_0 (j := 12) rfl rfl)
theorem dX8_put_13 : decode cX8_put 13 = .ok (.getfield 9, 3) := dc_180 (bq_nm bk_X8_put_0 (j := 13) rfl rfl) (bq_nm bk_X8_put_0 (j := 14) rfl rfl) (bq_nm bk_X8_put_0 (j := 15) rfl rfl) rfl
theorem dX8_put_16 : decode cX8_put 16 = .ok (.aload_n 0, 1) := dc_42 (bq_nm bk_X8_put_0 (j := 16) rfl rfl)
theorem dX8_put_17 : decode cX8_put 17 = .ok (.getfield 18, 3) := dc_180 (bq_nm bk_X8_put_0 (j := 17) rfl rfl) (bq_nm bk_X8_put_0 (j := 18) rfl rfl) (bq_nm bk_X8_put_0 (j := 19) rfl rfl) rfl
theorem dX8_put_20 : decode cX8_put 20 = .ok (.iload_n 1, 1) := dc_27 (bq_nm bk_X8_put_0 (j := 20) rfl rfl)
theorem dX8_put_21 : decode cX8_put 21 = .ok (.iastore, 1) := dc_79 (bq_nm bk_X8_put_0 (j := 21) rfl rfl)
theorem dX8_put_22 : decode cX8_put 22 = .ok (.aload_n 0, 1) := dc_42 (bq_nm bk_X8_put_0 (j := 22) rfl rfl)
theorem dX8_put_23 : decode cX8_put 23 = .ok (.dup, 1) := dc_89 (bq_nm bk_X8_put_0 (j := 23) rfl rfl)
theorem dX8_put_24 : decode cX8_put 24 = .ok (.getfield 18, 3) := dc_180 (bq_nm bk_X8_put_0 (j := 24) rfl rfl) (bq_nm bk_X8_put_0 (j := 25) rfl rfl) (bq_nm bk_X8_put_0 (j := 26) rfl rfl) rfl
theorem dX8_put_27 : decode cX8_put 27 = .ok (.iconst 1, 1) := dc_4 (bq_nm bk_X8_put_0 (j := 27) rfl rfl)
theorem dX8_put_28 : decode cX8_put 28 = .ok (.iadd, 1) := dc_96 (bq_nm bk_X8_put_0 (j := 28) rfl rfl)
theorem dX8_put_29 : decode cX8_put 29 = .ok (.putfield 18, 3) := dc_181 (bq_nm bk_X8_put_0 (j := 29) rfl rfl) (bq_nm bk_X8_put_0 (j := 30) rfl rfl) (bq_nm bk_X8_put_0 (j := 31) rfl rfl) rfl
set_option maxRecDepth 20000 in
theorem bk_X8_put_32 : ((cX8_put.data.toList.drop 32).take 5).length = 5 ∧ eN (((cX8_put.data.toList.drop 32).take 5).map UInt8.toNat) = 739036410922 := by decide +kernel
theorem dX8_put_32 : decode cX8_put 32 = .ok (.aload_n 0, 1) := dc_42 (bq_nm bk_X8_put_32 (j := 0) rfl rfl)
theorem dX8_put_33 : decode cX8_put 33 = .ok (.getfield 18, 3) := dc_180 (bq_nm bk_X8_put_32 (j := 1) rfl rfl) (bq_nm bk_X8_put_32 (j := 2) rfl rfl) (bq_nm bk_X8_put_32 (j := 3) rfl rfl) rfl
theorem dX8_put_36 : decode cX8_put 36 = .ok (.ireturn, 1) := dc_172 (bq_nm bk_X8_put_32 (j := 4) rfl rfl)
set_option maxRecDepth 20000 in
theorem bk_X8_clear_0 : ((cX8_clear.data.toList.drop 0).take 12).length = 12 ∧ eN (((cX8_clear.data.toList.drop 0).take 12).map UInt8.toNat) = 53264147702040953845276783658 := by decide +kernel
theorem dX8_clear_0 : decode cX8_clear 0 = .ok (.aload_n 0, 1) := dc_42 (bq_nm bk_X8_clear_0 (j := 0) rfl rfl)
theorem dX8_clear_1 : decode cX8_clear 1 = .ok (.getfield 18, 3) := dc_180 (bq_nm bk_X8_clear_0 (j := 1) rfl rfl) (bq_nm bk_X8_clear_0 (j := 2) rfl rfl) (bq_nm bk_X8_clear_0 (j := 3) rfl rfl) rfl
theorem dX8_clear_4 : decode cX8_clear 4 = .ok (.istore_n 1, 1) := dc_60 (bq_nm bk_X8_clear_0 (j := 4) rfl rfl)
theorem dX8_clear_5 : decode cX8_clear 5 = .ok (.aload_n 0, 1) := dc_42 (bq_nm bk_X8_clear_0 (j := 5) rfl rfl)
theorem dX8_clear_6 : decode cX8_clear 6 = .ok (.iconst 0, 1) := dc_3 (bq_nm bk_X8_clear_0 (j := 6) rfl rfl)
theorem dX8_clear_7 : decode cX8_clear 7 = .ok (.putfield 18, 3) := dc_181 (bq_nm bk_X8_clear_0 (j := 7) rfl rfl) (bq_nm bk_X8_clear_0 (j := 8) rfl rfl) (bq_nm bk_X8_clear_0 (j := 9) rfl rfl) rfl
theorem dX8_clear_10 : decode cX8_clear 10 = .ok (.iload_n 1, 1) := dc_27 (bq_nm bk_X8_clear_0 (j := 10) rfl rfl)
theorem dX8_clear_11 : decode cX8_clear 11 = .ok (.ireturn, 1) := dc_172 (bq_nm bk_X8_clear_0 (j := 11) rfl rfl)
set_option maxRecDepth 20000 in
theorem bk_X8_stepCount_0 : ((cX8_stepCount.data.toList.drop 0).take 5).length = 5 ∧ eN (((cX8_stepCount.data.toList.drop 0).take 5).map UInt8.toNat) = 739103519786 := by decide +kernel
theorem dX8_stepCount_0 : decode cX8_stepCount 0 = .ok (.aload_n 0, 1) := dc_42 (bq_nm bk_X8_stepCount_0 (j := 0) rfl rfl)
theorem dX8_stepCount_1 : decode cX8_stepCount 1 = .ok (.getfield 22, 3) := dc_180 (bq_nm bk_X8_stepCount_0 (j := 1) rfl rfl) (bq_nm bk_X8_stepCount_0 (j := 2) rfl rfl) (bq_nm bk_X8_stepCount_0 (j := 3) rfl rfl) rfl
theorem dX8_stepCount_4 : decode cX8_stepCount 4 = .ok (.ireturn, 1) := dc_172 (bq_nm bk_X8_stepCount_0 (j := 4) rfl rfl)
set_option maxRecDepth 20000 in
theorem bk_X8_stepAt_0 : ((cX8_stepAt.data.toList.drop 0).take 23).length = 23 ∧ eN (((cX8_stepAt.data.toList.drop 0).take 23).map UInt8.toNat) = 16475455347300565505278539789677210396857455933806123803 := by decide +kernel
theorem dX8_stepAt_0 : decode cX8_stepAt 0 = .ok (.iload_n 1, 1) := dc_27 (bq_nm bk_X8_stepAt_0 (j := 0) rfl rfl)
theorem dX8_stepAt_1 : decode cX8_stepAt 1 = .ok (.ifCond .lt 20, 3) := dc_155 (bq_nm bk_X8_stepAt_0 (j := 1) rfl rfl) (bq_nm bk_X8_stepAt_0 (j := 2) rfl rfl) (bq_nm bk_X8_stepAt_0 (j := 3) rfl rfl) rfl
theorem dX8_stepAt_4 : decode cX8_stepAt 4 = .ok (.iload_n 1, 1) := dc_27 (bq_nm bk_X8_stepAt_0 (j := 4) rfl rfl)
theorem dX8_stepAt_5 : decode cX8_stepAt 5 = .ok (.aload_n 0, 1) := dc_42 (bq_nm bk_X8_stepAt_0 (j := 5) rfl rfl)
theorem dX8_stepAt_6 : decode cX8_stepAt 6 = .ok (.getfield 22, 3) := dc_180 (bq_nm bk_X8_stepAt_0 (j := 6) rfl rfl) (bq_nm bk_X8_stepAt_0 (j := 7) rfl rfl) (bq_nm bk_X8_stepAt_0 (j := 8) rfl rfl) rfl
theorem dX8_stepAt_9 : decode cX8_stepAt 9 = .ok (.if_icmp .ge 12, 3) := dc_162 (bq_nm bk_X8_stepAt_0 (j := 9) rfl rfl) (bq_nm bk_X8_stepAt_0 (j := 10) rfl rfl) (bq_nm bk_X8_stepAt_0 (j := 11) rfl rfl) rfl
theorem dX8_stepAt_12 : decode cX8_stepAt 12 = .ok (.aload_n 0, 1) := dc_42 (bq_nm bk_X8_stepAt_0 (j := 12) rfl rfl)
theorem dX8_stepAt_13 : decode cX8_stepAt 13 = .ok (.getfield 15, 3) := dc_180 (bq_nm bk_X8_stepAt_0 (j := 13) rfl rfl) (bq_nm bk_X8_stepAt_0 (j := 14) rfl rfl) (bq_nm bk_X8_stepAt_0 (j := 15) rfl rfl) rfl
theorem dX8_stepAt_16 : decode cX8_stepAt 16 = .ok (.iload_n 1, 1) := dc_27 (bq_nm bk_X8_stepAt_0 (j := 16) rfl rfl)
theorem dX8_stepAt_17 : decode cX8_stepAt 17 = .ok (.iaload, 1) := dc_46 (bq_nm bk_X8_stepAt_0 (j := 17) rfl rfl)
theorem dX8_stepAt_18 : decode cX8_stepAt 18 = .ok (.goto 4, 3) := dc_167 (bq_nm bk_X8_stepAt_0 (j := 18) rfl rfl) (bq_nm bk_X8_stepAt_0 (j := 19) rfl rfl) (bq_nm bk_X8_stepAt_0 (j := 20) rfl rfl) rfl
theorem dX8_stepAt_21 : decode cX8_stepAt 21 = .ok (.iconst 0, 1) := dc_3 (bq_nm bk_X8_stepAt_0 (j := 21) rfl rfl)
theorem dX8_stepAt_22 : decode cX8_stepAt 22 = .ok (.ireturn, 1) := dc_172 (bq_nm bk_X8_stepAt_0 (j := 22) rfl rfl)
set_option maxRecDepth 20000 in
theorem bk_X8_forgetSteps_0 : ((cX8_forgetSteps.data.toList.drop 0).take 6).length = 6 ∧ eN (((cX8_forgetSteps.data.toList.drop 0).take 6).map UInt8.toNat) = 194708059259690 := by decide +kernel
theorem dX8_forgetSteps_0 : decode cX8_forgetSteps 0 = .ok (.aload_n 0, 1) := dc_42 (bq_nm bk_X8_forgetSteps_0 (j := 0) rfl rfl)
theorem dX8_forgetSteps_1 : decode cX8_forgetSteps 1 = .ok (.iconst 0, 1) := dc_3 (bq_nm bk_X8_forgetSteps_0 (j := 1) rfl rfl)
theorem dX8_forgetSteps_2 : decode cX8_forgetSteps 2 = .ok (.putfield 22, 3) := dc_181 (bq_nm bk_X8_forgetSteps_0 (j := 2) rfl rfl) (bq_nm bk_X8_forgetSteps_0 (j := 3) rfl rfl) (bq_nm bk_X8_forgetSteps_0 (j := 4) rfl rfl) rfl
theorem dX8_forgetSteps_5 : decode cX8_forgetSteps 5 = .ok (.return_, 1) := dc_177 (bq_nm bk_X8_forgetSteps_0 (j := 5) rfl rfl)
set_option maxRecDepth 20000 in
theorem bk_X8_addStep_0 : ((cX8_addStep.data.toList.drop 0).take 30).length = 30 ∧ eN (((cX8_addStep.data.toList.drop 0).take 30).map UInt8.toNat) = 1222202296821980023397719178070926514822796095837443953217807451882042410 := by decide +kernel
theorem dX8_addStep_0 : decode cX8_addStep 0 = .ok (.aload_n 0, 1) := dc_42 (bq_nm bk_X8_addStep_0 (j := 0) rfl rfl)
theorem dX8_addStep_1 : decode cX8_addStep 1 = .ok (.getfield 22, 3) := dc_180 (bq_nm bk_X8_addStep_0 (j := 1) rfl rfl) (bq_nm bk_X8_addStep_0 (j := 2) rfl rfl) (bq_nm bk_X8_addStep_0 (j := 3) rfl rfl) rfl
theorem dX8_addStep_4 : decode cX8_addStep 4 = .ok (.bipush 50, 2) := dc_16 (bq_nm bk_X8_addStep_0 (j := 4) rfl rfl) (bq_nm bk_X8_addStep_0 (j := 5) rfl rfl) rfl
theorem dX8_addStep_6 : decode cX8_addStep 6 = .ok (.if_icmp .ge 23, 3) := dc_162 (bq_nm bk_X8_addStep_0 (j := 6) rfl rfl) (bq_nm bk_X8_addStep_0 (j := 7) rfl rfl) (bq_nm bk_X8_addStep_0 (j := 8) rfl rfl) rfl
theorem dX8_addStep_9 : decode cX8_addStep 9 = .ok (.aload_n 0, 1) := dc_42 (bq_nm bk_X8_addStep_0 (j := 9) rfl rfl)
theorem dX8_addStep_10 : decode cX8_addStep 10 = .ok (.getfield 15, 3) := dc_180 (bq_nm bk_X8_addStep_0 (j := 10) rfl rfl) (bq_nm bk_X8_addStep_0 (j := 11) rfl rfl) (bq_nm bk_X8_addStep_0 (j := 12) rfl rfl) rfl
theorem dX8_addStep_13 : decode cX8_addStep 13 = .ok (.aload_n 0, 1) := dc_42 (bq_nm bk_X8_addStep_0 (j := 13) rfl rfl)
theorem dX8_addStep_14 : decode cX8_addStep 14 = .ok (.getfield 22, 3) := dc_180 (bq_nm bk_X8_addStep_0 (j := 14) rfl rfl) (bq_nm bk_X8_addStep_0 (j := 15) rfl rfl) (bq_nm bk_X8_addStep_0 (j := 16) rfl rfl) rfl
theorem dX8_addStep_17 : decode cX8_addStep 17 = .ok (.iload_n 1, 1) := dc_27 (bq_nm bk_X8_addStep_0 (j := 17) rfl rfl)
theorem dX8_addStep_18 : decode cX8_addStep 18 = .ok (.iastore, 1) := dc_79 (bq_nm bk_X8_addStep_0 (j := 18) rfl rfl)
theorem dX8_addStep_19 : decode cX8_addStep 19 = .ok (.aload_n 0, 1) := dc_42 (bq_nm bk_X8_addStep_0 (j := 19) rfl rfl)
theorem dX8_addStep_20 : decode cX8_addStep 20 = .ok (.dup, 1) := dc_89 (bq_nm bk_X8_addStep_0 (j := 20) rfl rfl)
theorem dX8_addStep_21 : decode cX8_addStep 21 = .ok (.getfield 22, 3) := dc_180 (bq_nm bk_X8_addStep_0 (j := 21) rfl rfl) (bq_nm bk_X8_addStep_0 (j := 22) rfl rfl) (bq_nm bk_X8_addStep_0 (j := 23) rfl rfl) rfl
theorem dX8_addStep_24 : decode cX8_addStep 24 = .ok (.iconst 1, 1) := dc_4 (bq_nm bk_X8_addStep_0 (j := 24) rfl rfl)
theorem dX8_addStep_25 : decode cX8_addStep 25 = .ok (.iadd, 1) := dc_96 (bq_nm bk_X8_addStep_0 (j := 25) rfl rfl)
theorem dX8_addStep_26 : decode cX8_addStep 26 = .ok (.putfield 22, 3) := dc_181 (bq_nm bk_X8_addStep_0 (j := 26) rfl rfl) (bq_nm bk_X8_addStep_0 (j := 27) rfl rfl) (bq_nm bk_X8_addStep_0 (j := 28) rfl rfl) rfl
theorem dX8_addStep_29 : decode cX8_addStep 29 = .ok (.return_, 1) := dc_177 (bq_nm bk_X8_addStep_0 (j := 29) rfl rfl)
set_option maxRecDepth 20000 in
theorem bk_X8_copy_0 : ((cX8_copy.data.toList.drop 0).take 32).length = 32 ∧ eN (((cX8_copy.data.toList.drop 0).take 32).map UInt8.toNat) = 19493628631602302542992692392279118113386494057400077991463371388043799046954 := by decide +kernel
theorem dX8_copy_0 : decode cX8_copy 0 = .ok (.aload_n 0, 1) := dc_42 (bq_nm bk_X8_copy_0 (j := 0) rfl rfl)
theorem dX8_copy_1 : decode cX8_copy 1 = .ok (.aload_n 1, 1) := dc_43 (bq_nm bk_X8_copy_0 (j := 1) rfl rfl)
theorem dX8_copy_2 : decode cX8_copy 2 = .ok (.getfield 18, 3) := dc_180 (bq_nm bk_X8_copy_0 (j := 2) rfl rfl) (bq_nm bk_X8_copy_0 (j := 3) rfl rfl) (bq_nm bk_X8_copy_0 (j := 4) rfl rfl) rfl
theorem dX8_copy_5 : decode cX8_copy 5 = .ok (.putfield 18, 3) := dc_181 (bq_nm bk_X8_copy_0 (j := 5) rfl rfl) (bq_nm bk_X8_copy_0 (j := 6) rfl rfl) (bq_nm bk_X8_copy_0 (j := 7) rfl rfl) rfl
theorem dX8_copy_8 : decode cX8_copy 8 = .ok (.aload_n 0, 1) := dc_42 (bq_nm bk_X8_copy_0 (j := 8) rfl rfl)
theorem dX8_copy_9 : decode cX8_copy 9 = .ok (.aload_n 1, 1) := dc_43 (bq_nm bk_X8_copy_0 (j := 9) rfl rfl)
theorem dX8_copy_10 : decode cX8_copy 10 = .ok (.getfield 22, 3) := dc_180 (bq_nm bk_X8_copy_0 (j := 10) rfl rfl) (bq_nm bk_X8_copy_0 (j := 11) rfl rfl) (bq_nm bk_X8_copy_0 (j := 12) rfl rfl) rfl
theorem dX8_copy_13 : decode cX8_copy 13 = .ok (.putfield 22, 3) := dc_181 (bq_nm bk_X8_copy_0 (j := 13) rfl rfl) (bq_nm bk_X8_copy_0 (j := 14) rfl rfl) (bq_nm bk_X8_copy_0 (j := 15) rfl rfl) rfl
theorem dX8_copy_16 : decode cX8_copy 16 = .ok (.aload_n 1, 1) := dc_43 (bq_nm bk_X8_copy_0 (j := 16) rfl rfl)
theorem dX8_copy_17 : decode cX8_copy 17 = .ok (.getfield 9, 3) := dc_180 (bq_nm bk_X8_copy_0 (j := 17) rfl rfl) (bq_nm bk_X8_copy_0 (j := 18) rfl rfl) (bq_nm bk_X8_copy_0 (j := 19) rfl rfl) rfl
theorem dX8_copy_20 : decode cX8_copy 20 = .ok (.iconst 0, 1) := dc_3 (bq_nm bk_X8_copy_0 (j := 20) rfl rfl)
theorem dX8_copy_21 : decode cX8_copy 21 = .ok (.aload_n 0, 1) := dc_42 (bq_nm bk_X8_copy_0 (j := 21) rfl rfl)
theorem dX8_copy_22 : decode cX8_copy 22 = .ok (.getfield 9, 3) := dc_180 (bq_nm bk_X8_copy_0 (j := 22) rfl rfl) (bq_nm bk_X8_copy_0 (j := 23) rfl rfl) (bq_nm bk_X8_copy_0 (j := 24) rfl rfl) rfl
theorem dX8_copy_25 : decode cX8_copy 25 = .ok (.iconst 0, 1) := dc_3 (bq_nm bk_X8_copy_0 (j := 25) rfl rfl)
theorem dX8_copy_26 : decode cX8_copy 26 = .ok (.bipush 50, 2) := dc_16 (bq_nm bk_X8_copy_0 (j := 26) rfl rfl) (bq_nm bk_X8_copy_0 (j := 27) rfl rfl) rfl
theorem dX8_copy_28 : decode cX8_copy 28 = .ok (.invokestatic 25, 3) := dc_184 (bq_nm bk_X8_copy_0 (j := 28) rfl rfl) (bq_nm bk_X8_copy_0 (j := 29) rfl rfl) (bq_nm bk_X8_copy_0 (j := 30) rfl rfl) rfl
theorem dX8_copy_31 : decode cX8_copy 31 = .ok (.aload_n 1, 1) := dc_43 (bq_nm bk_X8_copy_0 (j := 31) rfl rfl)
set_option maxRecDepth 20000 in
theorem bk_X8_copy_32 : ((cX8_copy.data.toList.drop 32).take 15).length = 15 ∧ eN (((cX8_copy.data.toList.drop 32).take 15).map UInt8.toNat) = 919543661206519494403740774203064500 := by decide +kernel
theorem dX8_copy_32 : decode cX8_copy 32 = .ok (.getfield 15, 3) := dc_180 (bq_nm bk_X8_copy_32 (j := 0) rfl rfl) (bq_nm bk_X8_copy_32 (j := 1) rfl rfl) (bq_nm bk_X8_copy_32 (j := 2) rfl rfl) rfl
theorem dX8_copy_35 : decode cX8_copy 35 = .ok (.iconst 0, 1) := dc_3 (bq_nm bk_X8_copy_32 (j := 3) rfl rfl)
theorem dX8_copy_36 : decode cX8_copy 36 = .ok (.aload_n 0, 1) := dc_42 (bq_nm bk_X8_copy_32 (j := 4) rfl rfl)
theorem dX8_copy_37 : decode cX8_copy 37 = .ok (.getfield 15, 3) := dc_180 (bq_nm bk_X8_copy_32 (j := 5) rfl rfl) (bq_nm bk_X8_copy_32 (j := 6) rfl rfl) (bq_nm bk_X8_copy_32 (j := 7) rfl rfl) rfl
theorem dX8_copy_40 : decode cX8_copy 40 = .ok (.iconst 0, 1) := dc_3 (bq_nm bk_X8_copy_32 (j := 8) rfl rfl)
theorem dX8_copy_41 : decode cX8_copy 41 = .ok (.bipush 50, 2) := dc_16 (bq_nm bk_X8_copy_32 (j := 9) rfl rfl) (bq_nm bk_X8_copy_32 (j := 10) rfl rfl) rfl
theorem dX8_copy_43 : decode cX8_copy 43 = .ok (.invokestatic 25, 3) := dc_184 (bq_nm bk_X8_copy_32 (j := 11) rfl rfl) (bq_nm bk_X8_copy_32 (j := 12) rfl rfl) (bq_nm bk_X8_copy_32 (j := 13) rfl rfl) rfl
theorem dX8_copy_46 : decode cX8_copy 46 = .ok (.return_, 1) := dc_177 (bq_nm bk_X8_copy_32 (j := 14) rfl rfl)
set_option maxRecDepth 20000 in
theorem bk_X8_fold_0 : ((cX8_fold.data.toList.drop 0).take 32).length = 32 ∧ eN (((cX8_fold.data.toList.drop 0).take 32).map UInt8.toNat) = 13132979089754491563288346914362580520193003690980541803725718305530003259412 := by decide +kernel
theorem dX8_fold_0 : decode cX8_fold 0 = .ok (.ldc2_w 31, 3) := dc_20 (bq_nm bk_X8_fold_0 (j := 0) rfl rfl) (bq_nm bk_X8_fold_0 (j := 1) rfl rfl) (bq_nm bk_X8_fold_0 (j := 2) rfl rfl) rfl
theorem dX8_fold_3 : decode cX8_fold 3 = .ok (.lload_n 1, 1) := dc_31 (bq_nm bk_X8_fold_0 (j := 3) rfl rfl)
theorem dX8_fold_4 : decode cX8_fold 4 = .ok (.lmul, 1) := dc_105 (bq_nm bk_X8_fold_0 (j := 4) rfl rfl)
theorem dX8_fold_5 : decode cX8_fold 5 = .ok (.aload_n 0, 1) := dc_42 (bq_nm bk_X8_fold_0 (j := 5) rfl rfl)
theorem dX8_fold_6 : decode cX8_fold 6 = .ok (.getfield 18, 3) := dc_180 (bq_nm bk_X8_fold_0 (j := 6) rfl rfl) (bq_nm bk_X8_fold_0 (j := 7) rfl rfl) (bq_nm bk_X8_fold_0 (j := 8) rfl rfl) rfl
theorem dX8_fold_9 : decode cX8_fold 9 = .ok (.i2l, 1) := dc_133 (bq_nm bk_X8_fold_0 (j := 9) rfl rfl)
theorem dX8_fold_10 : decode cX8_fold 10 = .ok (.ladd, 1) := dc_97 (bq_nm bk_X8_fold_0 (j := 10) rfl rfl)
theorem dX8_fold_11 : decode cX8_fold 11 = .ok (.lstore_n 1, 1) := dc_64 (bq_nm bk_X8_fold_0 (j := 11) rfl rfl)
theorem dX8_fold_12 : decode cX8_fold 12 = .ok (.iconst 0, 1) := dc_3 (bq_nm bk_X8_fold_0 (j := 12) rfl rfl)
theorem dX8_fold_13 : decode cX8_fold 13 = .ok (.istore_n 3, 1) := dc_62 (bq_nm bk_X8_fold_0 (j := 13) rfl rfl)
theorem dX8_fold_14 : decode cX8_fold 14 = .ok (.iload_n 3, 1) := dc_29 (bq_nm bk_X8_fold_0 (j := 14) rfl rfl)
theorem dX8_fold_15 : decode cX8_fold 15 = .ok (.aload_n 0, 1) := dc_42 (bq_nm bk_X8_fold_0 (j := 15) rfl rfl)
theorem dX8_fold_16 : decode cX8_fold 16 = .ok (.getfield 18, 3) := dc_180 (bq_nm bk_X8_fold_0 (j := 16) rfl rfl) (bq_nm bk_X8_fold_0 (j := 17) rfl rfl) (bq_nm bk_X8_fold_0 (j := 18) rfl rfl) rfl
theorem dX8_fold_19 : decode cX8_fold 19 = .ok (.if_icmp .ge 23, 3) := dc_162 (bq_nm bk_X8_fold_0 (j := 19) rfl rfl) (bq_nm bk_X8_fold_0 (j := 20) rfl rfl) (bq_nm bk_X8_fold_0 (j := 21) rfl rfl) rfl
theorem dX8_fold_22 : decode cX8_fold 22 = .ok (.ldc2_w 31, 3) := dc_20 (bq_nm bk_X8_fold_0 (j := 22) rfl rfl) (bq_nm bk_X8_fold_0 (j := 23) rfl rfl) (bq_nm bk_X8_fold_0 (j := 24) rfl rfl) rfl
theorem dX8_fold_25 : decode cX8_fold 25 = .ok (.lload_n 1, 1) := dc_31 (bq_nm bk_X8_fold_0 (j := 25) rfl rfl)
theorem dX8_fold_26 : decode cX8_fold 26 = .ok (.lmul, 1) := dc_105 (bq_nm bk_X8_fold_0 (j := 26) rfl rfl)
theorem dX8_fold_27 : decode cX8_fold 27 = .ok (.aload_n 0, 1) := dc_42 (bq_nm bk_X8_fold_0 (j := 27) rfl rfl)
theorem dX8_fold_28 : decode cX8_fold 28 = .ok (.getfield 9, 3) := dc_180 (bq_nm bk_X8_fold_0 (j := 28) rfl rfl) (bq_nm bk_X8_fold_0 (j := 29) rfl rfl) (bq_nm bk_X8_fold_0 (j := 30) rfl rfl) rfl
theorem dX8_fold_31 : decode cX8_fold 31 = .ok (.iload_n 3, 1) := dc_29 (bq_nm bk_X8_fold_0 (j := 31) rfl rfl)
set_option maxRecDepth 20000 in
theorem bk_X8_fold_32 : ((cX8_fold.data.toList.drop 32).take 12).length = 12 ∧ eN (((cX8_fold.data.toList.drop 32).take 12).map UInt8.toNat) = 53579478982111935623644415278 := by decide +kernel
theorem dX8_fold_32 : decode cX8_fold 32 = .ok (.iaload, 1) := dc_46 (bq_nm bk_X8_fold_32 (j := 0) rfl rfl)
theorem dX8_fold_33 : decode cX8_fold 33 = .ok (.i2l, 1) := dc_133 (bq_nm bk_X8_fold_32 (j := 1) rfl rfl)
theorem dX8_fold_34 : decode cX8_fold 34 = .ok (.ladd, 1) := dc_97 (bq_nm bk_X8_fold_32 (j := 2) rfl rfl)
theorem dX8_fold_35 : decode cX8_fold 35 = .ok (.lstore_n 1, 1) := dc_64 (bq_nm bk_X8_fold_32 (j := 3) rfl rfl)
theorem dX8_fold_36 : decode cX8_fold 36 = .ok (.iinc 3 1, 3) := dc_132 (bq_nm bk_X8_fold_32 (j := 4) rfl rfl) (bq_nm bk_X8_fold_32 (j := 5) rfl rfl) (bq_nm bk_X8_fold_32 (j := 6) rfl rfl) rfl
theorem dX8_fold_39 : decode cX8_fold 39 = .ok (.goto (-25), 3) := dc_167 (bq_nm bk_X8_fold_32 (j := 7) rfl rfl) (bq_nm bk_X8_fold_32 (j := 8) rfl rfl) (bq_nm bk_X8_fold_32 (j := 9) rfl rfl) rfl
theorem dX8_fold_42 : decode cX8_fold 42 = .ok (.lload_n 1, 1) := dc_31 (bq_nm bk_X8_fold_32 (j := 10) rfl rfl)
theorem dX8_fold_43 : decode cX8_fold 43 = .ok (.lreturn, 1) := dc_173 (bq_nm bk_X8_fold_32 (j := 11) rfl rfl)
set_option maxRecDepth 20000 in
theorem bk_X9_init_0 : ((cX9_init.data.toList.drop 0).take 31).length = 31 ∧ eN (((cX9_init.data.toList.drop 0).take 31).map UInt8.toNat) = 10712644543891148526355029313937132208297198299637652739555003124563359530 := by decide +kernel
theorem dX9_init_0 : decode cX9_init 0 = .ok (.aload_n 0, 1) := dc_42 (bq_nm bk_X9_init_0 (j := 0) rfl rfl)
theorem dX9_init_1 : decode cX9_init 1 = .ok (.invokespecial 3, 3) := dc_183 (bq_nm bk_X9_init_0 (j := 1) rfl rfl) (bq_nm bk_X9_init_0 (j := 2) rfl rfl) (bq_nm bk_X9_init_0 (j := 3) rfl rfl) rfl
theorem dX9_init_4 : decode cX9_init 4 = .ok (.aload_n 0, 1) := dc_42 (bq_nm bk_X9_init_0 (j := 4) rfl rfl)
theorem dX9_init_5 : decode cX9_init 5 = .ok (.bipush 6, 2) := dc_16 (bq_nm bk_X9_init_0 (j := 5) rfl rfl) (bq_nm bk_X9_init_0 (j := 6) rfl rfl) rfl
theorem dX9_init_7 : decode cX9_init 7 = .ok (.newarray .int, 2) := dc_188_10 (bq_nm bk_X9_init_0 (j := 7) rfl rfl) (bq_nm bk_X9_init_0 (j := 8) rfl rfl)
theorem dX9_init_9 : decode cX9_init 9 = .ok (.putfield 11, 3) := dc_181 (bq_nm bk_X9_init_0 (j := 9) rfl rfl) (bq_nm bk_X9_init_0 (j := 10) rfl rfl) (bq_nm bk_X9_init_0 (j := 11) rfl rfl) rfl
theorem dX9_init_12 : decode cX9_init 12 = .ok (.aload_n 0, 1) := dc_42 (bq_nm bk_X9_init_0 (j := 12) rfl rfl)
theorem dX9_init_13 : decode cX9_init 13 = .ok (.bipush 6, 2) := dc_16 (bq_nm bk_X9_init_0 (j := 13) rfl rfl) (bq_nm bk_X9_init_0 (j := 14) rfl rfl) rfl
theorem dX9_init_15 : decode cX9_init 15 = .ok (.newarray .int, 2) := dc_188_10 (bq_nm bk_X9_init_0 (j := 15) rfl rfl) (bq_nm bk_X9_init_0 (j := 16) rfl rfl)
theorem dX9_init_17 : decode cX9_init 17 = .ok (.putfield 15, 3) := dc_181 (bq_nm bk_X9_init_0 (j := 17) rfl rfl) (bq_nm bk_X9_init_0 (j := 18) rfl rfl) (bq_nm bk_X9_init_0 (j := 19) rfl rfl) rfl
theorem dX9_init_20 : decode cX9_init 20 = .ok (.aload_n 0, 1) := dc_42 (bq_nm bk_X9_init_0 (j := 20) rfl rfl)
theorem dX9_init_21 : decode cX9_init 21 = .ok (.bipush 6, 2) := dc_16 (bq_nm bk_X9_init_0 (j := 21) rfl rfl) (bq_nm bk_X9_init_0 (j := 22) rfl rfl) rfl
theorem dX9_init_23 : decode cX9_init 23 = .ok (.newarray .int, 2) := dc_188_10 (bq_nm bk_X9_init_0 (j := 23) rfl rfl) (bq_nm bk_X9_init_0 (j := 24) rfl rfl)
theorem dX9_init_25 : decode cX9_init 25 = .ok (.putfield 18, 3) := dc_181 (bq_nm bk_X9_init_0 (j := 25) rfl rfl) (bq_nm bk_X9_init_0 (j := 26) rfl rfl) (bq_nm bk_X9_init_0 (j := 27) rfl rfl) rfl
theorem dX9_init_28 : decode cX9_init 28 = .ok (.aload_n 0, 1) := dc_42 (bq_nm bk_X9_init_0 (j := 28) rfl rfl)
theorem dX9_init_29 : decode cX9_init 29 = .ok (.bipush 6, 2) := dc_16 (bq_nm bk_X9_init_0 (j := 29) rfl rfl) (bq_nm bk_X9_init_0 (j := 30) rfl rfl) rfl
set_option maxRecDepth 20000 in
theorem bk_X9_init_31 : ((cX9_init.data.toList.drop 31).take 6).length = 6 ∧ eN (((cX9_init.data.toList.drop 31).take 6).map UInt8.toNat) = 194703764294332 := by decide +kernel
theorem dX9_init_31 : decode cX9_init 31 = .ok (.newarray .int, 2) := dc_188_10 (bq_nm bk_X9_init_31 (j := 0) rfl rfl) (bq_nm bk_X9_init_31 (j := 1) rfl rfl)
theorem dX9_init_33 : decode cX9_init 33 = .ok (.putfield 21, 3) := dc_181 (bq_nm bk_X9_init_31 (j := 2) rfl rfl) (bq_nm bk_X9_init_31 (j := 3) rfl rfl) (bq_nm bk_X9_init_31 (j := 4) rfl rfl) rfl
theorem dX9_init_36 : decode cX9_init 36 = .ok (.return_, 1) := dc_177 (bq_nm bk_X9_init_31 (j := 5) rfl rfl)
set_option maxRecDepth 20000 in
theorem bk_X9_bestAt_0 : ((cX9_bestAt.data.toList.drop 0).take 23).length = 23 ∧ eN (((cX9_bestAt.data.toList.drop 0).take 23).map UInt8.toNat) = 16475455347300565509266223777031958052462365262066260763 := by decide +kernel
theorem dX9_bestAt_0 : decode cX9_bestAt 0 = .ok (.iload_n 1, 1) := dc_27 (bq_nm bk_X9_bestAt_0 (j := 0) rfl rfl)
theorem dX9_bestAt_1 : decode cX9_bestAt 1 = .ok (.ifCond .lt 20, 3) := dc_155 (bq_nm bk_X9_bestAt_0 (j := 1) rfl rfl) (bq_nm bk_X9_bestAt_0 (j := 2) rfl rfl) (bq_nm bk_X9_bestAt_0 (j := 3) rfl rfl) rfl
theorem dX9_bestAt_4 : decode cX9_bestAt 4 = .ok (.iload_n 1, 1) := dc_27 (bq_nm bk_X9_bestAt_0 (j := 4) rfl rfl)
theorem dX9_bestAt_5 : decode cX9_bestAt 5 = .ok (.aload_n 0, 1) := dc_42 (bq_nm bk_X9_bestAt_0 (j := 5) rfl rfl)
theorem dX9_bestAt_6 : decode cX9_bestAt 6 = .ok (.getfield 24, 3) := dc_180 (bq_nm bk_X9_bestAt_0 (j := 6) rfl rfl) (bq_nm bk_X9_bestAt_0 (j := 7) rfl rfl) (bq_nm bk_X9_bestAt_0 (j := 8) rfl rfl) rfl
theorem dX9_bestAt_9 : decode cX9_bestAt 9 = .ok (.if_icmp .ge 12, 3) := dc_162 (bq_nm bk_X9_bestAt_0 (j := 9) rfl rfl) (bq_nm bk_X9_bestAt_0 (j := 10) rfl rfl) (bq_nm bk_X9_bestAt_0 (j := 11) rfl rfl) rfl
theorem dX9_bestAt_12 : decode cX9_bestAt 12 = .ok (.aload_n 0, 1) := dc_42 (bq_nm bk_X9_bestAt_0 (j := 12) rfl rfl)
theorem dX9_bestAt_13 : decode cX9_bestAt 13 = .ok (.getfield 18, 3) := dc_180 (bq_nm bk_X9_bestAt_0 (j := 13) rfl rfl) (bq_nm bk_X9_bestAt_0 (j := 14) rfl rfl) (bq_nm bk_X9_bestAt_0 (j := 15) rfl rfl) rfl
theorem dX9_bestAt_16 : decode cX9_bestAt 16 = .ok (.iload_n 1, 1) := dc_27 (bq_nm bk_X9_bestAt_0 (j := 16) rfl rfl)
theorem dX9_bestAt_17 : decode cX9_bestAt 17 = .ok (.iaload, 1) := dc_46 (bq_nm bk_X9_bestAt_0 (j := 17) rfl rfl)
theorem dX9_bestAt_18 : decode cX9_bestAt 18 = .ok (.goto 4, 3) := dc_167 (bq_nm bk_X9_bestAt_0 (j := 18) rfl rfl) (bq_nm bk_X9_bestAt_0 (j := 19) rfl rfl) (bq_nm bk_X9_bestAt_0 (j := 20) rfl rfl) rfl
theorem dX9_bestAt_21 : decode cX9_bestAt 21 = .ok (.iconst 0, 1) := dc_3 (bq_nm bk_X9_bestAt_0 (j := 21) rfl rfl)
theorem dX9_bestAt_22 : decode cX9_bestAt 22 = .ok (.ireturn, 1) := dc_172 (bq_nm bk_X9_bestAt_0 (j := 22) rfl rfl)
set_option maxRecDepth 20000 in
theorem bk_X9_seek_0 : ((cX9_seek.data.toList.drop 0).take 32).length = 32 ∧ eN (((cX9_seek.data.toList.drop 0).take 32).map UInt8.toNat) = 1496533349819798998771679434708641243640290354528425964370791424480388066090 := by decide +kernel
theorem dX9_seek_0 : decode cX9_seek 0 = .ok (.aload_n 0, 1) := dc_42 (bq_nm bk_X9_seek_0 (j := 0) rfl rfl)
theorem dX9_seek_1 : decode cX9_seek 1 = .ok (.aload_n 1, 1) := dc_43 (bq_nm bk_X9_seek_0 (j := 1) rfl rfl)
theorem dX9_seek_2 : decode cX9_seek 2 = .ok (.iload_n 2, 1) := dc_28 (bq_nm bk_X9_seek_0 (j := 2) rfl rfl)
theorem dX9_seek_3 : decode cX9_seek 3 = .ok (.invokevirtual 28, 3) := dc_182 (bq_nm bk_X9_seek_0 (j := 3) rfl rfl) (bq_nm bk_X9_seek_0 (j := 4) rfl rfl) (bq_nm bk_X9_seek_0 (j := 5) rfl rfl) rfl
theorem dX9_seek_6 : decode cX9_seek 6 = .ok (.aload_n 0, 1) := dc_42 (bq_nm bk_X9_seek_0 (j := 6) rfl rfl)
theorem dX9_seek_7 : decode cX9_seek 7 = .ok (.aload_n 0, 1) := dc_42 (bq_nm bk_X9_seek_0 (j := 7) rfl rfl)
theorem dX9_seek_8 : decode cX9_seek 8 = .ok (.getfield 24, 3) := dc_180 (bq_nm bk_X9_seek_0 (j := 8) rfl rfl) (bq_nm bk_X9_seek_0 (j := 9) rfl rfl) (bq_nm bk_X9_seek_0 (j := 10) rfl rfl) rfl
theorem dX9_seek_11 : decode cX9_seek 11 = .ok (.ifCond .ne 7, 3) := dc_154 (bq_nm bk_X9_seek_0 (j := 11) rfl rfl) (bq_nm bk_X9_seek_0 (j := 12) rfl rfl) (bq_nm bk_X9_seek_0 (j := 13) rfl rfl) rfl
theorem dX9_seek_14 : decode cX9_seek 14 = .ok (.iconst 0, 1) := dc_3 (bq_nm bk_X9_seek_0 (j := 14) rfl rfl)
theorem dX9_seek_15 : decode cX9_seek 15 = .ok (.goto 4, 3) := dc_167 (bq_nm bk_X9_seek_0 (j := 15) rfl rfl) (bq_nm bk_X9_seek_0 (j := 16) rfl rfl) (bq_nm bk_X9_seek_0 (j := 17) rfl rfl) rfl
theorem dX9_seek_18 : decode cX9_seek 18 = .ok (.iconst (-1), 1) := dc_2 (bq_nm bk_X9_seek_0 (j := 18) rfl rfl)
theorem dX9_seek_19 : decode cX9_seek 19 = .ok (.putfield 32, 3) := dc_181 (bq_nm bk_X9_seek_0 (j := 19) rfl rfl) (bq_nm bk_X9_seek_0 (j := 20) rfl rfl) (bq_nm bk_X9_seek_0 (j := 21) rfl rfl) rfl
theorem dX9_seek_22 : decode cX9_seek 22 = .ok (.iconst 0, 1) := dc_3 (bq_nm bk_X9_seek_0 (j := 22) rfl rfl)
theorem dX9_seek_23 : decode cX9_seek 23 = .ok (.istore_n 3, 1) := dc_62 (bq_nm bk_X9_seek_0 (j := 23) rfl rfl)
theorem dX9_seek_24 : decode cX9_seek 24 = .ok (.aload_n 0, 1) := dc_42 (bq_nm bk_X9_seek_0 (j := 24) rfl rfl)
theorem dX9_seek_25 : decode cX9_seek 25 = .ok (.getfield 15, 3) := dc_180 (bq_nm bk_X9_seek_0 (j := 25) rfl rfl) (bq_nm bk_X9_seek_0 (j := 26) rfl rfl) (bq_nm bk_X9_seek_0 (j := 27) rfl rfl) rfl
theorem dX9_seek_28 : decode cX9_seek 28 = .ok (.iconst 0, 1) := dc_3 (bq_nm bk_X9_seek_0 (j := 28) rfl rfl)
theorem dX9_seek_29 : decode cX9_seek 29 = .ok (.iconst (-1), 1) := dc_2 (bq_nm bk_X9_seek_0 (j := 29) rfl rfl)
theorem dX9_seek_30 : decode cX9_seek 30 = .ok (.iastore, 1) := dc_79 (bq_nm bk_X9_seek_0 (j := 30) rfl rfl)
theorem dX9_seek_31 : decode cX9_seek 31 = .ok (.iconst 0, 1) := dc_3 (bq_nm bk_X9_seek_0 (j := 31) rfl rfl)
set_option maxRecDepth 20000 in
theorem bk_X9_seek_32 : ((cX9_seek.data.toList.drop 32).take 32).length = 32 ∧ eN (((cX9_seek.data.toList.drop 32).take 32).map UInt8.toNat) = 19137383238986017953391932472807535700100564756804734426019211504044809192502 := by decide +kernel
theorem dX9_seek_32 : decode cX9_seek 32 = .ok (.istore 4, 2) := dc_54 (bq_nm bk_X9_seek_32 (j := 0) rfl rfl) (bq_nm bk_X9_seek_32 (j := 1) rfl rfl)
theorem dX9_seek_34 : decode cX9_seek 34 = .ok (.iload 4, 2) := dc_21 (bq_nm bk_X9_seek_32 (j := 2) rfl rfl) (bq_nm bk_X9_seek_32 (j := 3) rfl rfl)
theorem dX9_seek_36 : decode cX9_seek 36 = .ok (.ldc 35, 2) := dc_18 (bq_nm bk_X9_seek_32 (j := 4) rfl rfl) (bq_nm bk_X9_seek_32 (j := 5) rfl rfl)
theorem dX9_seek_38 : decode cX9_seek 38 = .ok (.if_icmp .ge 128, 3) := dc_162 (bq_nm bk_X9_seek_32 (j := 6) rfl rfl) (bq_nm bk_X9_seek_32 (j := 7) rfl rfl) (bq_nm bk_X9_seek_32 (j := 8) rfl rfl) rfl
theorem dX9_seek_41 : decode cX9_seek 41 = .ok (.iload_n 3, 1) := dc_29 (bq_nm bk_X9_seek_32 (j := 9) rfl rfl)
theorem dX9_seek_42 : decode cX9_seek 42 = .ok (.ifCond .lt 124, 3) := dc_155 (bq_nm bk_X9_seek_32 (j := 10) rfl rfl) (bq_nm bk_X9_seek_32 (j := 11) rfl rfl) (bq_nm bk_X9_seek_32 (j := 12) rfl rfl) rfl
theorem dX9_seek_45 : decode cX9_seek 45 = .ok (.iload_n 3, 1) := dc_29 (bq_nm bk_X9_seek_32 (j := 13) rfl rfl)
theorem dX9_seek_46 : decode cX9_seek 46 = .ok (.aload_n 0, 1) := dc_42 (bq_nm bk_X9_seek_32 (j := 14) rfl rfl)
theorem dX9_seek_47 : decode cX9_seek 47 = .ok (.getfield 24, 3) := dc_180 (bq_nm bk_X9_seek_32 (j := 15) rfl rfl) (bq_nm bk_X9_seek_32 (j := 16) rfl rfl) (bq_nm bk_X9_seek_32 (j := 17) rfl rfl) rfl
theorem dX9_seek_50 : decode cX9_seek 50 = .ok (.if_icmp .ge 116, 3) := dc_162 (bq_nm bk_X9_seek_32 (j := 18) rfl rfl) (bq_nm bk_X9_seek_32 (j := 19) rfl rfl) (bq_nm bk_X9_seek_32 (j := 20) rfl rfl) rfl
theorem dX9_seek_53 : decode cX9_seek 53 = .ok (.aload_n 0, 1) := dc_42 (bq_nm bk_X9_seek_32 (j := 21) rfl rfl)
theorem dX9_seek_54 : decode cX9_seek 54 = .ok (.getfield 15, 3) := dc_180 (bq_nm bk_X9_seek_32 (j := 22) rfl rfl) (bq_nm bk_X9_seek_32 (j := 23) rfl rfl) (bq_nm bk_X9_seek_32 (j := 24) rfl rfl) rfl
theorem dX9_seek_57 : decode cX9_seek 57 = .ok (.iload_n 3, 1) := dc_29 (bq_nm bk_X9_seek_32 (j := 25) rfl rfl)
theorem dX9_seek_58 : decode cX9_seek 58 = .ok (.dup2, 1) := dc_92 (bq_nm bk_X9_seek_32 (j := 26) rfl rfl)
theorem dX9_seek_59 : decode cX9_seek 59 = .ok (.iaload, 1) := dc_46 (bq_nm bk_X9_seek_32 (j := 27) rfl rfl)
theorem dX9_seek_60 : decode cX9_seek 60 = .ok (.iconst 1, 1) := dc_4 (bq_nm bk_X9_seek_32 (j := 28) rfl rfl)
theorem dX9_seek_61 : decode cX9_seek 61 = .ok (.iadd, 1) := dc_96 (bq_nm bk_X9_seek_32 (j := 29) rfl rfl)
theorem dX9_seek_62 : decode cX9_seek 62 = .ok (.iastore, 1) := dc_79 (bq_nm bk_X9_seek_32 (j := 30) rfl rfl)
theorem dX9_seek_63 : decode cX9_seek 63 = .ok (.aload_n 0, 1) := dc_42 (bq_nm bk_X9_seek_32 (j := 31) rfl rfl)
set_option maxRecDepth 20000 in
theorem bk_X9_seek_64 : ((cX9_seek.data.toList.drop 64).take 31).length = 31 ∧ eN (((cX9_seek.data.toList.drop 64).take 31).map UInt8.toNat) = 74242653507182871346846492023574087869780600658119069696268713090806232605 := by decide +kernel
theorem dX9_seek_64 : decode cX9_seek 64 = .ok (.iload_n 3, 1) := dc_29 (bq_nm bk_X9_seek_64 (j := 0) rfl rfl)
theorem dX9_seek_65 : decode cX9_seek 65 = .ok (.invokevirtual 36, 3) := dc_182 (bq_nm bk_X9_seek_64 (j := 1) rfl rfl) (bq_nm bk_X9_seek_64 (j := 2) rfl rfl) (bq_nm bk_X9_seek_64 (j := 3) rfl rfl) rfl
theorem dX9_seek_68 : decode cX9_seek 68 = .ok (.istore 5, 2) := dc_54 (bq_nm bk_X9_seek_64 (j := 4) rfl rfl) (bq_nm bk_X9_seek_64 (j := 5) rfl rfl)
theorem dX9_seek_70 : decode cX9_seek 70 = .ok (.aload_n 0, 1) := dc_42 (bq_nm bk_X9_seek_64 (j := 6) rfl rfl)
theorem dX9_seek_71 : decode cX9_seek 71 = .ok (.getfield 15, 3) := dc_180 (bq_nm bk_X9_seek_64 (j := 7) rfl rfl) (bq_nm bk_X9_seek_64 (j := 8) rfl rfl) (bq_nm bk_X9_seek_64 (j := 9) rfl rfl) rfl
theorem dX9_seek_74 : decode cX9_seek 74 = .ok (.iload_n 3, 1) := dc_29 (bq_nm bk_X9_seek_64 (j := 10) rfl rfl)
theorem dX9_seek_75 : decode cX9_seek 75 = .ok (.iaload, 1) := dc_46 (bq_nm bk_X9_seek_64 (j := 11) rfl rfl)
theorem dX9_seek_76 : decode cX9_seek 76 = .ok (.aload_n 0, 1) := dc_42 (bq_nm bk_X9_seek_64 (j := 12) rfl rfl)
theorem dX9_seek_77 : decode cX9_seek 77 = .ok (.iload_n 3, 1) := dc_29 (bq_nm bk_X9_seek_64 (j := 13) rfl rfl)
theorem dX9_seek_78 : decode cX9_seek 78 = .ok (.invokevirtual 40, 3) := dc_182 (bq_nm bk_X9_seek_64 (j := 14) rfl rfl) (bq_nm bk_X9_seek_64 (j := 15) rfl rfl) (bq_nm bk_X9_seek_64 (j := 16) rfl rfl) rfl
theorem dX9_seek_81 : decode cX9_seek 81 = .ok (.if_icmp .gt 20, 3) := dc_163 (bq_nm bk_X9_seek_64 (j := 17) rfl rfl) (bq_nm bk_X9_seek_64 (j := 18) rfl rfl) (bq_nm bk_X9_seek_64 (j := 19) rfl rfl) rfl
theorem dX9_seek_84 : decode cX9_seek 84 = .ok (.aload_n 0, 1) := dc_42 (bq_nm bk_X9_seek_64 (j := 20) rfl rfl)
theorem dX9_seek_85 : decode cX9_seek 85 = .ok (.getfield 32, 3) := dc_180 (bq_nm bk_X9_seek_64 (j := 21) rfl rfl) (bq_nm bk_X9_seek_64 (j := 22) rfl rfl) (bq_nm bk_X9_seek_64 (j := 23) rfl rfl) rfl
theorem dX9_seek_88 : decode cX9_seek 88 = .ok (.iconst (-1), 1) := dc_2 (bq_nm bk_X9_seek_64 (j := 24) rfl rfl)
theorem dX9_seek_89 : decode cX9_seek 89 = .ok (.if_icmp .eq 18, 3) := dc_159 (bq_nm bk_X9_seek_64 (j := 25) rfl rfl) (bq_nm bk_X9_seek_64 (j := 26) rfl rfl) (bq_nm bk_X9_seek_64 (j := 27) rfl rfl) rfl
theorem dX9_seek_92 : decode cX9_seek 92 = .ok (.iload 5, 2) := dc_21 (bq_nm bk_X9_seek_64 (j := 28) rfl rfl) (bq_nm bk_X9_seek_64 (j := 29) rfl rfl)
theorem dX9_seek_94 : decode cX9_seek 94 = .ok (.aload_n 0, 1) := dc_42 (bq_nm bk_X9_seek_64 (j := 30) rfl rfl)
set_option maxRecDepth 20000 in
theorem bk_X9_seek_95 : ((cX9_seek.data.toList.drop 95).take 32).length = 32 ∧ eN (((cX9_seek.data.toList.drop 95).take 32).map UInt8.toNat) = 19044848835370584675024453876201584479471846673892443103759608949682546409652 := by decide +kernel
theorem dX9_seek_95 : decode cX9_seek 95 = .ok (.getfield 32, 3) := dc_180 (bq_nm bk_X9_seek_95 (j := 0) rfl rfl) (bq_nm bk_X9_seek_95 (j := 1) rfl rfl) (bq_nm bk_X9_seek_95 (j := 2) rfl rfl) rfl
theorem dX9_seek_98 : decode cX9_seek 98 = .ok (.if_icmp .lt 9, 3) := dc_161 (bq_nm bk_X9_seek_95 (j := 3) rfl rfl) (bq_nm bk_X9_seek_95 (j := 4) rfl rfl) (bq_nm bk_X9_seek_95 (j := 5) rfl rfl) rfl
theorem dX9_seek_101 : decode cX9_seek 101 = .ok (.iinc 3 (-1), 3) := dc_132 (bq_nm bk_X9_seek_95 (j := 6) rfl rfl) (bq_nm bk_X9_seek_95 (j := 7) rfl rfl) (bq_nm bk_X9_seek_95 (j := 8) rfl rfl) rfl
theorem dX9_seek_104 : decode cX9_seek 104 = .ok (.goto 56, 3) := dc_167 (bq_nm bk_X9_seek_95 (j := 9) rfl rfl) (bq_nm bk_X9_seek_95 (j := 10) rfl rfl) (bq_nm bk_X9_seek_95 (j := 11) rfl rfl) rfl
theorem dX9_seek_107 : decode cX9_seek 107 = .ok (.aload_n 0, 1) := dc_42 (bq_nm bk_X9_seek_95 (j := 12) rfl rfl)
theorem dX9_seek_108 : decode cX9_seek 108 = .ok (.aload_n 1, 1) := dc_43 (bq_nm bk_X9_seek_95 (j := 13) rfl rfl)
theorem dX9_seek_109 : decode cX9_seek 109 = .ok (.iload_n 3, 1) := dc_29 (bq_nm bk_X9_seek_95 (j := 14) rfl rfl)
theorem dX9_seek_110 : decode cX9_seek 110 = .ok (.invokevirtual 43, 3) := dc_182 (bq_nm bk_X9_seek_95 (j := 15) rfl rfl) (bq_nm bk_X9_seek_95 (j := 16) rfl rfl) (bq_nm bk_X9_seek_95 (j := 17) rfl rfl) rfl
theorem dX9_seek_113 : decode cX9_seek 113 = .ok (.ifCond .eq 47, 3) := dc_153 (bq_nm bk_X9_seek_95 (j := 18) rfl rfl) (bq_nm bk_X9_seek_95 (j := 19) rfl rfl) (bq_nm bk_X9_seek_95 (j := 20) rfl rfl) rfl
theorem dX9_seek_116 : decode cX9_seek 116 = .ok (.iload_n 3, 1) := dc_29 (bq_nm bk_X9_seek_95 (j := 21) rfl rfl)
theorem dX9_seek_117 : decode cX9_seek 117 = .ok (.aload_n 0, 1) := dc_42 (bq_nm bk_X9_seek_95 (j := 22) rfl rfl)
theorem dX9_seek_118 : decode cX9_seek 118 = .ok (.getfield 24, 3) := dc_180 (bq_nm bk_X9_seek_95 (j := 23) rfl rfl) (bq_nm bk_X9_seek_95 (j := 24) rfl rfl) (bq_nm bk_X9_seek_95 (j := 25) rfl rfl) rfl
theorem dX9_seek_121 : decode cX9_seek 121 = .ok (.iconst 1, 1) := dc_4 (bq_nm bk_X9_seek_95 (j := 26) rfl rfl)
theorem dX9_seek_122 : decode cX9_seek 122 = .ok (.isub, 1) := dc_100 (bq_nm bk_X9_seek_95 (j := 27) rfl rfl)
theorem dX9_seek_123 : decode cX9_seek 123 = .ok (.if_icmp .ne 27, 3) := dc_160 (bq_nm bk_X9_seek_95 (j := 28) rfl rfl) (bq_nm bk_X9_seek_95 (j := 29) rfl rfl) (bq_nm bk_X9_seek_95 (j := 30) rfl rfl) rfl
theorem dX9_seek_126 : decode cX9_seek 126 = .ok (.aload_n 0, 1) := dc_42 (bq_nm bk_X9_seek_95 (j := 31) rfl rfl)
set_option maxRecDepth 20000 in
theorem bk_X9_seek_127 : ((cX9_seek.data.toList.drop 127).take 32).length = 32 ∧ eN (((cX9_seek.data.toList.drop 127).take 32).map UInt8.toNat) = 955967807213799707960767182732865900154788274661946504083693237485534774549 := by decide +kernel
theorem dX9_seek_127 : decode cX9_seek 127 = .ok (.iload 5, 2) := dc_21 (bq_nm bk_X9_seek_127 (j := 0) rfl rfl) (bq_nm bk_X9_seek_127 (j := 1) rfl rfl)
theorem dX9_seek_129 : decode cX9_seek 129 = .ok (.putfield 32, 3) := dc_181 (bq_nm bk_X9_seek_127 (j := 2) rfl rfl) (bq_nm bk_X9_seek_127 (j := 3) rfl rfl) (bq_nm bk_X9_seek_127 (j := 4) rfl rfl) rfl
theorem dX9_seek_132 : decode cX9_seek 132 = .ok (.aload_n 0, 1) := dc_42 (bq_nm bk_X9_seek_127 (j := 5) rfl rfl)
theorem dX9_seek_133 : decode cX9_seek 133 = .ok (.getfield 15, 3) := dc_180 (bq_nm bk_X9_seek_127 (j := 6) rfl rfl) (bq_nm bk_X9_seek_127 (j := 7) rfl rfl) (bq_nm bk_X9_seek_127 (j := 8) rfl rfl) rfl
theorem dX9_seek_136 : decode cX9_seek 136 = .ok (.iconst 0, 1) := dc_3 (bq_nm bk_X9_seek_127 (j := 9) rfl rfl)
theorem dX9_seek_137 : decode cX9_seek 137 = .ok (.aload_n 0, 1) := dc_42 (bq_nm bk_X9_seek_127 (j := 10) rfl rfl)
theorem dX9_seek_138 : decode cX9_seek 138 = .ok (.getfield 18, 3) := dc_180 (bq_nm bk_X9_seek_127 (j := 11) rfl rfl) (bq_nm bk_X9_seek_127 (j := 12) rfl rfl) (bq_nm bk_X9_seek_127 (j := 13) rfl rfl) rfl
theorem dX9_seek_141 : decode cX9_seek 141 = .ok (.iconst 0, 1) := dc_3 (bq_nm bk_X9_seek_127 (j := 14) rfl rfl)
theorem dX9_seek_142 : decode cX9_seek 142 = .ok (.bipush 6, 2) := dc_16 (bq_nm bk_X9_seek_127 (j := 15) rfl rfl) (bq_nm bk_X9_seek_127 (j := 16) rfl rfl) rfl
theorem dX9_seek_144 : decode cX9_seek 144 = .ok (.invokestatic 47, 3) := dc_184 (bq_nm bk_X9_seek_127 (j := 17) rfl rfl) (bq_nm bk_X9_seek_127 (j := 18) rfl rfl) (bq_nm bk_X9_seek_127 (j := 19) rfl rfl) rfl
theorem dX9_seek_147 : decode cX9_seek 147 = .ok (.goto 13, 3) := dc_167 (bq_nm bk_X9_seek_127 (j := 20) rfl rfl) (bq_nm bk_X9_seek_127 (j := 21) rfl rfl) (bq_nm bk_X9_seek_127 (j := 22) rfl rfl) rfl
theorem dX9_seek_150 : decode cX9_seek 150 = .ok (.iinc 3 1, 3) := dc_132 (bq_nm bk_X9_seek_127 (j := 23) rfl rfl) (bq_nm bk_X9_seek_127 (j := 24) rfl rfl) (bq_nm bk_X9_seek_127 (j := 25) rfl rfl) rfl
theorem dX9_seek_153 : decode cX9_seek 153 = .ok (.aload_n 0, 1) := dc_42 (bq_nm bk_X9_seek_127 (j := 26) rfl rfl)
theorem dX9_seek_154 : decode cX9_seek 154 = .ok (.getfield 15, 3) := dc_180 (bq_nm bk_X9_seek_127 (j := 27) rfl rfl) (bq_nm bk_X9_seek_127 (j := 28) rfl rfl) (bq_nm bk_X9_seek_127 (j := 29) rfl rfl) rfl
theorem dX9_seek_157 : decode cX9_seek 157 = .ok (.iload_n 3, 1) := dc_29 (bq_nm bk_X9_seek_127 (j := 30) rfl rfl)
theorem dX9_seek_158 : decode cX9_seek 158 = .ok (.iconst (-1), 1) := dc_2 (bq_nm bk_X9_seek_127 (j := 31) rfl rfl)
set_option maxRecDepth 20000 in
theorem bk_X9_seek_159 : ((cX9_seek.data.toList.drop 159).take 8).length = 8 ∧ eN (((cX9_seek.data.toList.drop 159).take 8).map UInt8.toNat) = 12790222559497192527 := by decide +kernel
theorem dX9_seek_159 : decode cX9_seek 159 = .ok (.iastore, 1) := dc_79 (bq_nm bk_X9_seek_159 (j := 0) rfl rfl)
theorem dX9_seek_160 : decode cX9_seek 160 = .ok (.iinc 4 1, 3) := dc_132 (bq_nm bk_X9_seek_159 (j := 1) rfl rfl) (bq_nm bk_X9_seek_159 (j := 2) rfl rfl) (bq_nm bk_X9_seek_159 (j := 3) rfl rfl) rfl
theorem dX9_seek_163 : decode cX9_seek 163 = .ok (.goto (-129), 3) := dc_167 (bq_nm bk_X9_seek_159 (j := 4) rfl rfl) (bq_nm bk_X9_seek_159 (j := 5) rfl rfl) (bq_nm bk_X9_seek_159 (j := 6) rfl rfl) rfl
theorem dX9_seek_166 : decode cX9_seek 166 = .ok (.return_, 1) := dc_177 (bq_nm bk_X9_seek_159 (j := 7) rfl rfl)
set_option maxRecDepth 20000 in
theorem bk_X9_gather_0 : ((cX9_gather.data.toList.drop 0).take 32).length = 32 ∧ eN (((cX9_gather.data.toList.drop 0).take 32).map UInt8.toNat) = 28949293015463391529305455871731993692884311026094573174999446152240919020330 := by decide +kernel
theorem dX9_gather_0 : decode cX9_gather 0 = .ok (.aload_n 0, 1) := dc_42 (bq_nm bk_X9_gather_0 (j := 0) rfl rfl)
theorem dX9_gather_1 : decode cX9_gather 1 = .ok (.iconst 0, 1) := dc_3 (bq_nm bk_X9_gather_0 (j := 1) rfl rfl)
theorem dX9_gather_2 : decode cX9_gather 2 = .ok (.putfield 24, 3) := dc_181 (bq_nm bk_X9_gather_0 (j := 2) rfl rfl) (bq_nm bk_X9_gather_0 (j := 3) rfl rfl) (bq_nm bk_X9_gather_0 (j := 4) rfl rfl) rfl
theorem dX9_gather_5 : decode cX9_gather 5 = .ok (.iconst 0, 1) := dc_3 (bq_nm bk_X9_gather_0 (j := 5) rfl rfl)
theorem dX9_gather_6 : decode cX9_gather 6 = .ok (.istore_n 3, 1) := dc_62 (bq_nm bk_X9_gather_0 (j := 6) rfl rfl)
theorem dX9_gather_7 : decode cX9_gather 7 = .ok (.iload_n 3, 1) := dc_29 (bq_nm bk_X9_gather_0 (j := 7) rfl rfl)
theorem dX9_gather_8 : decode cX9_gather 8 = .ok (.aload_n 1, 1) := dc_43 (bq_nm bk_X9_gather_0 (j := 8) rfl rfl)
theorem dX9_gather_9 : decode cX9_gather 9 = .ok (.getfield 53, 3) := dc_180 (bq_nm bk_X9_gather_0 (j := 9) rfl rfl) (bq_nm bk_X9_gather_0 (j := 10) rfl rfl) (bq_nm bk_X9_gather_0 (j := 11) rfl rfl) rfl
theorem dX9_gather_12 : decode cX9_gather 12 = .ok (.invokevirtual 58, 3) := dc_182 (bq_nm bk_X9_gather_0 (j := 12) rfl rfl) (bq_nm bk_X9_gather_0 (j := 13) rfl rfl) (bq_nm bk_X9_gather_0 (j := 14) rfl rfl) rfl
theorem dX9_gather_15 : decode cX9_gather 15 = .ok (.if_icmp .ge 56, 3) := dc_162 (bq_nm bk_X9_gather_0 (j := 15) rfl rfl) (bq_nm bk_X9_gather_0 (j := 16) rfl rfl) (bq_nm bk_X9_gather_0 (j := 17) rfl rfl) rfl
theorem dX9_gather_18 : decode cX9_gather 18 = .ok (.aload_n 0, 1) := dc_42 (bq_nm bk_X9_gather_0 (j := 18) rfl rfl)
theorem dX9_gather_19 : decode cX9_gather 19 = .ok (.getfield 24, 3) := dc_180 (bq_nm bk_X9_gather_0 (j := 19) rfl rfl) (bq_nm bk_X9_gather_0 (j := 20) rfl rfl) (bq_nm bk_X9_gather_0 (j := 21) rfl rfl) rfl
theorem dX9_gather_22 : decode cX9_gather 22 = .ok (.bipush 6, 2) := dc_16 (bq_nm bk_X9_gather_0 (j := 22) rfl rfl) (bq_nm bk_X9_gather_0 (j := 23) rfl rfl) rfl
theorem dX9_gather_24 : decode cX9_gather 24 = .ok (.if_icmp .ge 47, 3) := dc_162 (bq_nm bk_X9_gather_0 (j := 24) rfl rfl) (bq_nm bk_X9_gather_0 (j := 25) rfl rfl) (bq_nm bk_X9_gather_0 (j := 26) rfl rfl) rfl
theorem dX9_gather_27 : decode cX9_gather 27 = .ok (.iload_n 2, 1) := dc_28 (bq_nm bk_X9_gather_0 (j := 27) rfl rfl)
theorem dX9_gather_28 : decode cX9_gather 28 = .ok (.iload_n 3, 1) := dc_29 (bq_nm bk_X9_gather_0 (j := 28) rfl rfl)
theorem dX9_gather_29 : decode cX9_gather 29 = .ok (.invokestatic 64, 3) := dc_184 (bq_nm bk_X9_gather_0 (j := 29) rfl rfl) (bq_nm bk_X9_gather_0 (j := 30) rfl rfl) (bq_nm bk_X9_gather_0 (j := 31) rfl rfl) rfl
set_option maxRecDepth 20000 in
theorem bk_X9_gather_32 : ((cX9_gather.data.toList.drop 32).take 30).length = 30 ∧ eN (((cX9_gather.data.toList.drop 32).take 30).map UInt8.toNat) = 662678016863371318951321353274346620603032423415164837173178707424116889 := by decide +kernel
theorem dX9_gather_32 : decode cX9_gather 32 = .ok (.ifCond .eq 33, 3) := dc_153 (bq_nm bk_X9_gather_32 (j := 0) rfl rfl) (bq_nm bk_X9_gather_32 (j := 1) rfl rfl) (bq_nm bk_X9_gather_32 (j := 2) rfl rfl) rfl
theorem dX9_gather_35 : decode cX9_gather 35 = .ok (.aload_n 0, 1) := dc_42 (bq_nm bk_X9_gather_32 (j := 3) rfl rfl)
theorem dX9_gather_36 : decode cX9_gather 36 = .ok (.getfield 11, 3) := dc_180 (bq_nm bk_X9_gather_32 (j := 4) rfl rfl) (bq_nm bk_X9_gather_32 (j := 5) rfl rfl) (bq_nm bk_X9_gather_32 (j := 6) rfl rfl) rfl
theorem dX9_gather_39 : decode cX9_gather 39 = .ok (.aload_n 0, 1) := dc_42 (bq_nm bk_X9_gather_32 (j := 7) rfl rfl)
theorem dX9_gather_40 : decode cX9_gather 40 = .ok (.getfield 24, 3) := dc_180 (bq_nm bk_X9_gather_32 (j := 8) rfl rfl) (bq_nm bk_X9_gather_32 (j := 9) rfl rfl) (bq_nm bk_X9_gather_32 (j := 10) rfl rfl) rfl
theorem dX9_gather_43 : decode cX9_gather 43 = .ok (.iload_n 3, 1) := dc_29 (bq_nm bk_X9_gather_32 (j := 11) rfl rfl)
theorem dX9_gather_44 : decode cX9_gather 44 = .ok (.iastore, 1) := dc_79 (bq_nm bk_X9_gather_32 (j := 12) rfl rfl)
theorem dX9_gather_45 : decode cX9_gather 45 = .ok (.aload_n 0, 1) := dc_42 (bq_nm bk_X9_gather_32 (j := 13) rfl rfl)
theorem dX9_gather_46 : decode cX9_gather 46 = .ok (.getfield 21, 3) := dc_180 (bq_nm bk_X9_gather_32 (j := 14) rfl rfl) (bq_nm bk_X9_gather_32 (j := 15) rfl rfl) (bq_nm bk_X9_gather_32 (j := 16) rfl rfl) rfl
theorem dX9_gather_49 : decode cX9_gather 49 = .ok (.aload_n 0, 1) := dc_42 (bq_nm bk_X9_gather_32 (j := 17) rfl rfl)
theorem dX9_gather_50 : decode cX9_gather 50 = .ok (.getfield 24, 3) := dc_180 (bq_nm bk_X9_gather_32 (j := 18) rfl rfl) (bq_nm bk_X9_gather_32 (j := 19) rfl rfl) (bq_nm bk_X9_gather_32 (j := 20) rfl rfl) rfl
theorem dX9_gather_53 : decode cX9_gather 53 = .ok (.iconst 0, 1) := dc_3 (bq_nm bk_X9_gather_32 (j := 21) rfl rfl)
theorem dX9_gather_54 : decode cX9_gather 54 = .ok (.iastore, 1) := dc_79 (bq_nm bk_X9_gather_32 (j := 22) rfl rfl)
theorem dX9_gather_55 : decode cX9_gather 55 = .ok (.aload_n 0, 1) := dc_42 (bq_nm bk_X9_gather_32 (j := 23) rfl rfl)
theorem dX9_gather_56 : decode cX9_gather 56 = .ok (.dup, 1) := dc_89 (bq_nm bk_X9_gather_32 (j := 24) rfl rfl)
theorem dX9_gather_57 : decode cX9_gather 57 = .ok (.getfield 24, 3) := dc_180 (bq_nm bk_X9_gather_32 (j := 25) rfl rfl) (bq_nm bk_X9_gather_32 (j := 26) rfl rfl) (bq_nm bk_X9_gather_32 (j := 27) rfl rfl) rfl
theorem dX9_gather_60 : decode cX9_gather 60 = .ok (.iconst 1, 1) := dc_4 (bq_nm bk_X9_gather_32 (j := 28) rfl rfl)
theorem dX9_gather_61 : decode cX9_gather 61 = .ok (.iadd, 1) := dc_96 (bq_nm bk_X9_gather_32 (j := 29) rfl rfl)
set_option maxRecDepth 20000 in
theorem bk_X9_gather_62 : ((cX9_gather.data.toList.drop 62).take 30).length = 30 ∧ eN (((cX9_gather.data.toList.drop 62).take 30).map UInt8.toNat) = 291040522954272397585405940798905598120083954780608744971555354111901877 := by decide +kernel
theorem dX9_gather_62 : decode cX9_gather 62 = .ok (.putfield 24, 3) := dc_181 (bq_nm bk_X9_gather_62 (j := 0) rfl rfl) (bq_nm bk_X9_gather_62 (j := 1) rfl rfl) (bq_nm bk_X9_gather_62 (j := 2) rfl rfl) rfl
theorem dX9_gather_65 : decode cX9_gather 65 = .ok (.iinc 3 1, 3) := dc_132 (bq_nm bk_X9_gather_62 (j := 3) rfl rfl) (bq_nm bk_X9_gather_62 (j := 4) rfl rfl) (bq_nm bk_X9_gather_62 (j := 5) rfl rfl) rfl
theorem dX9_gather_68 : decode cX9_gather 68 = .ok (.goto (-61), 3) := dc_167 (bq_nm bk_X9_gather_62 (j := 6) rfl rfl) (bq_nm bk_X9_gather_62 (j := 7) rfl rfl) (bq_nm bk_X9_gather_62 (j := 8) rfl rfl) rfl
theorem dX9_gather_71 : decode cX9_gather 71 = .ok (.iconst 0, 1) := dc_3 (bq_nm bk_X9_gather_62 (j := 9) rfl rfl)
theorem dX9_gather_72 : decode cX9_gather 72 = .ok (.istore_n 3, 1) := dc_62 (bq_nm bk_X9_gather_62 (j := 10) rfl rfl)
theorem dX9_gather_73 : decode cX9_gather 73 = .ok (.iload_n 3, 1) := dc_29 (bq_nm bk_X9_gather_62 (j := 11) rfl rfl)
theorem dX9_gather_74 : decode cX9_gather 74 = .ok (.aload_n 0, 1) := dc_42 (bq_nm bk_X9_gather_62 (j := 12) rfl rfl)
theorem dX9_gather_75 : decode cX9_gather 75 = .ok (.getfield 24, 3) := dc_180 (bq_nm bk_X9_gather_62 (j := 13) rfl rfl) (bq_nm bk_X9_gather_62 (j := 14) rfl rfl) (bq_nm bk_X9_gather_62 (j := 15) rfl rfl) rfl
theorem dX9_gather_78 : decode cX9_gather 78 = .ok (.if_icmp .ge 90, 3) := dc_162 (bq_nm bk_X9_gather_62 (j := 16) rfl rfl) (bq_nm bk_X9_gather_62 (j := 17) rfl rfl) (bq_nm bk_X9_gather_62 (j := 18) rfl rfl) rfl
theorem dX9_gather_81 : decode cX9_gather 81 = .ok (.iconst 0, 1) := dc_3 (bq_nm bk_X9_gather_62 (j := 19) rfl rfl)
theorem dX9_gather_82 : decode cX9_gather 82 = .ok (.istore 4, 2) := dc_54 (bq_nm bk_X9_gather_62 (j := 20) rfl rfl) (bq_nm bk_X9_gather_62 (j := 21) rfl rfl)
theorem dX9_gather_84 : decode cX9_gather 84 = .ok (.iload 4, 2) := dc_21 (bq_nm bk_X9_gather_62 (j := 22) rfl rfl) (bq_nm bk_X9_gather_62 (j := 23) rfl rfl)
theorem dX9_gather_86 : decode cX9_gather 86 = .ok (.iload_n 3, 1) := dc_29 (bq_nm bk_X9_gather_62 (j := 24) rfl rfl)
theorem dX9_gather_87 : decode cX9_gather 87 = .ok (.if_icmp .ge 75, 3) := dc_162 (bq_nm bk_X9_gather_62 (j := 25) rfl rfl) (bq_nm bk_X9_gather_62 (j := 26) rfl rfl) (bq_nm bk_X9_gather_62 (j := 27) rfl rfl) rfl
theorem dX9_gather_90 : decode cX9_gather 90 = .ok (.aload_n 1, 1) := dc_43 (bq_nm bk_X9_gather_62 (j := 28) rfl rfl)
theorem dX9_gather_91 : decode cX9_gather 91 = .ok (.aload_n 0, 1) := dc_42 (bq_nm bk_X9_gather_62 (j := 29) rfl rfl)
set_option maxRecDepth 20000 in
theorem bk_X9_gather_92 : ((cX9_gather.data.toList.drop 92).take 32).length = 32 ∧ eN (((cX9_gather.data.toList.drop 92).take 32).map UInt8.toNat) = 20813603656396178828923943192194866399904160127709734114550538339169973502132 := by decide +kernel
theorem dX9_gather_92 : decode cX9_gather 92 = .ok (.getfield 11, 3) := dc_180 (bq_nm bk_X9_gather_92 (j := 0) rfl rfl) (bq_nm bk_X9_gather_92 (j := 1) rfl rfl) (bq_nm bk_X9_gather_92 (j := 2) rfl rfl) rfl
theorem dX9_gather_95 : decode cX9_gather 95 = .ok (.iload_n 3, 1) := dc_29 (bq_nm bk_X9_gather_92 (j := 3) rfl rfl)
theorem dX9_gather_96 : decode cX9_gather 96 = .ok (.iaload, 1) := dc_46 (bq_nm bk_X9_gather_92 (j := 4) rfl rfl)
theorem dX9_gather_97 : decode cX9_gather 97 = .ok (.aload_n 0, 1) := dc_42 (bq_nm bk_X9_gather_92 (j := 5) rfl rfl)
theorem dX9_gather_98 : decode cX9_gather 98 = .ok (.getfield 11, 3) := dc_180 (bq_nm bk_X9_gather_92 (j := 6) rfl rfl) (bq_nm bk_X9_gather_92 (j := 7) rfl rfl) (bq_nm bk_X9_gather_92 (j := 8) rfl rfl) rfl
theorem dX9_gather_101 : decode cX9_gather 101 = .ok (.iload 4, 2) := dc_21 (bq_nm bk_X9_gather_92 (j := 9) rfl rfl) (bq_nm bk_X9_gather_92 (j := 10) rfl rfl)
theorem dX9_gather_103 : decode cX9_gather 103 = .ok (.iaload, 1) := dc_46 (bq_nm bk_X9_gather_92 (j := 11) rfl rfl)
theorem dX9_gather_104 : decode cX9_gather 104 = .ok (.invokevirtual 68, 3) := dc_182 (bq_nm bk_X9_gather_92 (j := 12) rfl rfl) (bq_nm bk_X9_gather_92 (j := 13) rfl rfl) (bq_nm bk_X9_gather_92 (j := 14) rfl rfl) rfl
theorem dX9_gather_107 : decode cX9_gather 107 = .ok (.ifCond .ne 23, 3) := dc_154 (bq_nm bk_X9_gather_92 (j := 15) rfl rfl) (bq_nm bk_X9_gather_92 (j := 16) rfl rfl) (bq_nm bk_X9_gather_92 (j := 17) rfl rfl) rfl
theorem dX9_gather_110 : decode cX9_gather 110 = .ok (.aload_n 1, 1) := dc_43 (bq_nm bk_X9_gather_92 (j := 18) rfl rfl)
theorem dX9_gather_111 : decode cX9_gather 111 = .ok (.aload_n 0, 1) := dc_42 (bq_nm bk_X9_gather_92 (j := 19) rfl rfl)
theorem dX9_gather_112 : decode cX9_gather 112 = .ok (.getfield 11, 3) := dc_180 (bq_nm bk_X9_gather_92 (j := 20) rfl rfl) (bq_nm bk_X9_gather_92 (j := 21) rfl rfl) (bq_nm bk_X9_gather_92 (j := 22) rfl rfl) rfl
theorem dX9_gather_115 : decode cX9_gather 115 = .ok (.iload_n 3, 1) := dc_29 (bq_nm bk_X9_gather_92 (j := 23) rfl rfl)
theorem dX9_gather_116 : decode cX9_gather 116 = .ok (.iaload, 1) := dc_46 (bq_nm bk_X9_gather_92 (j := 24) rfl rfl)
theorem dX9_gather_117 : decode cX9_gather 117 = .ok (.aload_n 0, 1) := dc_42 (bq_nm bk_X9_gather_92 (j := 25) rfl rfl)
theorem dX9_gather_118 : decode cX9_gather 118 = .ok (.getfield 11, 3) := dc_180 (bq_nm bk_X9_gather_92 (j := 26) rfl rfl) (bq_nm bk_X9_gather_92 (j := 27) rfl rfl) (bq_nm bk_X9_gather_92 (j := 28) rfl rfl) rfl
theorem dX9_gather_121 : decode cX9_gather 121 = .ok (.iload 4, 2) := dc_21 (bq_nm bk_X9_gather_92 (j := 29) rfl rfl) (bq_nm bk_X9_gather_92 (j := 30) rfl rfl)
theorem dX9_gather_123 : decode cX9_gather 123 = .ok (.iaload, 1) := dc_46 (bq_nm bk_X9_gather_92 (j := 31) rfl rfl)
set_option maxRecDepth 20000 in
theorem bk_X9_gather_124 : ((cX9_gather.data.toList.drop 124).take 32).length = 32 ∧ eN (((cX9_gather.data.toList.drop 124).take 32).map UInt8.toNat) = 35959700454210066423711148501535485990488999995988304154471132894896931143862 := by decide +kernel
theorem dX9_gather_124 : decode cX9_gather 124 = .ok (.invokevirtual 71, 3) := dc_182 (bq_nm bk_X9_gather_124 (j := 0) rfl rfl) (bq_nm bk_X9_gather_124 (j := 1) rfl rfl) (bq_nm bk_X9_gather_124 (j := 2) rfl rfl) rfl
theorem dX9_gather_127 : decode cX9_gather 127 = .ok (.ifCond .eq 29, 3) := dc_153 (bq_nm bk_X9_gather_124 (j := 3) rfl rfl) (bq_nm bk_X9_gather_124 (j := 4) rfl rfl) (bq_nm bk_X9_gather_124 (j := 5) rfl rfl) rfl
theorem dX9_gather_130 : decode cX9_gather 130 = .ok (.aload_n 0, 1) := dc_42 (bq_nm bk_X9_gather_124 (j := 6) rfl rfl)
theorem dX9_gather_131 : decode cX9_gather 131 = .ok (.getfield 21, 3) := dc_180 (bq_nm bk_X9_gather_124 (j := 7) rfl rfl) (bq_nm bk_X9_gather_124 (j := 8) rfl rfl) (bq_nm bk_X9_gather_124 (j := 9) rfl rfl) rfl
theorem dX9_gather_134 : decode cX9_gather 134 = .ok (.iload_n 3, 1) := dc_29 (bq_nm bk_X9_gather_124 (j := 10) rfl rfl)
theorem dX9_gather_135 : decode cX9_gather 135 = .ok (.dup2, 1) := dc_92 (bq_nm bk_X9_gather_124 (j := 11) rfl rfl)
theorem dX9_gather_136 : decode cX9_gather 136 = .ok (.iaload, 1) := dc_46 (bq_nm bk_X9_gather_124 (j := 12) rfl rfl)
theorem dX9_gather_137 : decode cX9_gather 137 = .ok (.iconst 1, 1) := dc_4 (bq_nm bk_X9_gather_124 (j := 13) rfl rfl)
theorem dX9_gather_138 : decode cX9_gather 138 = .ok (.iload 4, 2) := dc_21 (bq_nm bk_X9_gather_124 (j := 14) rfl rfl) (bq_nm bk_X9_gather_124 (j := 15) rfl rfl)
theorem dX9_gather_140 : decode cX9_gather 140 = .ok (.ishl, 1) := dc_120 (bq_nm bk_X9_gather_124 (j := 16) rfl rfl)
theorem dX9_gather_141 : decode cX9_gather 141 = .ok (.ior, 1) := dc_128 (bq_nm bk_X9_gather_124 (j := 17) rfl rfl)
theorem dX9_gather_142 : decode cX9_gather 142 = .ok (.iastore, 1) := dc_79 (bq_nm bk_X9_gather_124 (j := 18) rfl rfl)
theorem dX9_gather_143 : decode cX9_gather 143 = .ok (.aload_n 0, 1) := dc_42 (bq_nm bk_X9_gather_124 (j := 19) rfl rfl)
theorem dX9_gather_144 : decode cX9_gather 144 = .ok (.getfield 21, 3) := dc_180 (bq_nm bk_X9_gather_124 (j := 20) rfl rfl) (bq_nm bk_X9_gather_124 (j := 21) rfl rfl) (bq_nm bk_X9_gather_124 (j := 22) rfl rfl) rfl
theorem dX9_gather_147 : decode cX9_gather 147 = .ok (.iload 4, 2) := dc_21 (bq_nm bk_X9_gather_124 (j := 23) rfl rfl) (bq_nm bk_X9_gather_124 (j := 24) rfl rfl)
theorem dX9_gather_149 : decode cX9_gather 149 = .ok (.dup2, 1) := dc_92 (bq_nm bk_X9_gather_124 (j := 25) rfl rfl)
theorem dX9_gather_150 : decode cX9_gather 150 = .ok (.iaload, 1) := dc_46 (bq_nm bk_X9_gather_124 (j := 26) rfl rfl)
theorem dX9_gather_151 : decode cX9_gather 151 = .ok (.iconst 1, 1) := dc_4 (bq_nm bk_X9_gather_124 (j := 27) rfl rfl)
theorem dX9_gather_152 : decode cX9_gather 152 = .ok (.iload_n 3, 1) := dc_29 (bq_nm bk_X9_gather_124 (j := 28) rfl rfl)
theorem dX9_gather_153 : decode cX9_gather 153 = .ok (.ishl, 1) := dc_120 (bq_nm bk_X9_gather_124 (j := 29) rfl rfl)
theorem dX9_gather_154 : decode cX9_gather 154 = .ok (.ior, 1) := dc_128 (bq_nm bk_X9_gather_124 (j := 30) rfl rfl)
theorem dX9_gather_155 : decode cX9_gather 155 = .ok (.iastore, 1) := dc_79 (bq_nm bk_X9_gather_124 (j := 31) rfl rfl)
set_option maxRecDepth 20000 in
theorem bk_X9_gather_156 : ((cX9_gather.data.toList.drop 156).take 13).length = 13 ∧ eN (((cX9_gather.data.toList.drop 156).take 13).map UInt8.toNat) = 14074449371373392986660816356484 := by decide +kernel
theorem dX9_gather_156 : decode cX9_gather 156 = .ok (.iinc 4 1, 3) := dc_132 (bq_nm bk_X9_gather_156 (j := 0) rfl rfl) (bq_nm bk_X9_gather_156 (j := 1) rfl rfl) (bq_nm bk_X9_gather_156 (j := 2) rfl rfl) rfl
theorem dX9_gather_159 : decode cX9_gather 159 = .ok (.goto (-75), 3) := dc_167 (bq_nm bk_X9_gather_156 (j := 3) rfl rfl) (bq_nm bk_X9_gather_156 (j := 4) rfl rfl) (bq_nm bk_X9_gather_156 (j := 5) rfl rfl) rfl
theorem dX9_gather_162 : decode cX9_gather 162 = .ok (.iinc 3 1, 3) := dc_132 (bq_nm bk_X9_gather_156 (j := 6) rfl rfl) (bq_nm bk_X9_gather_156 (j := 7) rfl rfl) (bq_nm bk_X9_gather_156 (j := 8) rfl rfl) rfl
theorem dX9_gather_165 : decode cX9_gather 165 = .ok (.goto (-92), 3) := dc_167 (bq_nm bk_X9_gather_156 (j := 9) rfl rfl) (bq_nm bk_X9_gather_156 (j := 10) rfl rfl) (bq_nm bk_X9_gather_156 (j := 11) rfl rfl) rfl
theorem dX9_gather_168 : decode cX9_gather 168 = .ok (.return_, 1) := dc_177 (bq_nm bk_X9_gather_156 (j := 12) rfl rfl)
set_option maxRecDepth 20000 in
theorem bk_X9_longestOf_0 : ((cX9_longestOf.data.toList.drop 0).take 15).length = 15 ∧ eN (((cX9_longestOf.data.toList.drop 0).take 15).map UInt8.toNat) = 893237636059374530673685358155183146 := by decide +kernel
theorem dX9_longestOf_0 : decode cX9_longestOf 0 = .ok (.aload_n 0, 1) := dc_42 (bq_nm bk_X9_longestOf_0 (j := 0) rfl rfl)
theorem dX9_longestOf_1 : decode cX9_longestOf 1 = .ok (.getfield 21, 3) := dc_180 (bq_nm bk_X9_longestOf_0 (j := 1) rfl rfl) (bq_nm bk_X9_longestOf_0 (j := 2) rfl rfl) (bq_nm bk_X9_longestOf_0 (j := 3) rfl rfl) rfl
theorem dX9_longestOf_4 : decode cX9_longestOf 4 = .ok (.iload_n 1, 1) := dc_27 (bq_nm bk_X9_longestOf_0 (j := 4) rfl rfl)
theorem dX9_longestOf_5 : decode cX9_longestOf 5 = .ok (.iaload, 1) := dc_46 (bq_nm bk_X9_longestOf_0 (j := 5) rfl rfl)
theorem dX9_longestOf_6 : decode cX9_longestOf 6 = .ok (.ifCond .ne 7, 3) := dc_154 (bq_nm bk_X9_longestOf_0 (j := 6) rfl rfl) (bq_nm bk_X9_longestOf_0 (j := 7) rfl rfl) (bq_nm bk_X9_longestOf_0 (j := 8) rfl rfl) rfl
theorem dX9_longestOf_9 : decode cX9_longestOf 9 = .ok (.iconst 0, 1) := dc_3 (bq_nm bk_X9_longestOf_0 (j := 9) rfl rfl)
theorem dX9_longestOf_10 : decode cX9_longestOf 10 = .ok (.goto 4, 3) := dc_167 (bq_nm bk_X9_longestOf_0 (j := 10) rfl rfl) (bq_nm bk_X9_longestOf_0 (j := 11) rfl rfl) (bq_nm bk_X9_longestOf_0 (j := 12) rfl rfl) rfl
theorem dX9_longestOf_13 : decode cX9_longestOf 13 = .ok (.iconst 5, 1) := dc_8 (bq_nm bk_X9_longestOf_0 (j := 13) rfl rfl)
theorem dX9_longestOf_14 : decode cX9_longestOf 14 = .ok (.ireturn, 1) := dc_172 (bq_nm bk_X9_longestOf_0 (j := 14) rfl rfl)
set_option maxRecDepth 20000 in
theorem bk_X9_sumTo_0 : ((cX9_sumTo.data.toList.drop 0).take 26).length = 26 ∧ eN (((cX9_sumTo.data.toList.drop 0).take 26).map UInt8.toNat) = 276574987210716707740528273375670807362946928493605813525626115 := by decide +kernel
theorem dX9_sumTo_0 : decode cX9_sumTo 0 = .ok (.iconst 0, 1) := dc_3 (bq_nm bk_X9_sumTo_0 (j := 0) rfl rfl)
theorem dX9_sumTo_1 : decode cX9_sumTo 1 = .ok (.istore_n 2, 1) := dc_61 (bq_nm bk_X9_sumTo_0 (j := 1) rfl rfl)
theorem dX9_sumTo_2 : decode cX9_sumTo 2 = .ok (.iconst 0, 1) := dc_3 (bq_nm bk_X9_sumTo_0 (j := 2) rfl rfl)
theorem dX9_sumTo_3 : decode cX9_sumTo 3 = .ok (.istore_n 3, 1) := dc_62 (bq_nm bk_X9_sumTo_0 (j := 3) rfl rfl)
theorem dX9_sumTo_4 : decode cX9_sumTo 4 = .ok (.iload_n 3, 1) := dc_29 (bq_nm bk_X9_sumTo_0 (j := 4) rfl rfl)
theorem dX9_sumTo_5 : decode cX9_sumTo 5 = .ok (.iload_n 1, 1) := dc_27 (bq_nm bk_X9_sumTo_0 (j := 5) rfl rfl)
theorem dX9_sumTo_6 : decode cX9_sumTo 6 = .ok (.if_icmp .gt 18, 3) := dc_163 (bq_nm bk_X9_sumTo_0 (j := 6) rfl rfl) (bq_nm bk_X9_sumTo_0 (j := 7) rfl rfl) (bq_nm bk_X9_sumTo_0 (j := 8) rfl rfl) rfl
theorem dX9_sumTo_9 : decode cX9_sumTo 9 = .ok (.iload_n 2, 1) := dc_28 (bq_nm bk_X9_sumTo_0 (j := 9) rfl rfl)
theorem dX9_sumTo_10 : decode cX9_sumTo 10 = .ok (.aload_n 0, 1) := dc_42 (bq_nm bk_X9_sumTo_0 (j := 10) rfl rfl)
theorem dX9_sumTo_11 : decode cX9_sumTo 11 = .ok (.getfield 15, 3) := dc_180 (bq_nm bk_X9_sumTo_0 (j := 11) rfl rfl) (bq_nm bk_X9_sumTo_0 (j := 12) rfl rfl) (bq_nm bk_X9_sumTo_0 (j := 13) rfl rfl) rfl
theorem dX9_sumTo_14 : decode cX9_sumTo 14 = .ok (.iload_n 3, 1) := dc_29 (bq_nm bk_X9_sumTo_0 (j := 14) rfl rfl)
theorem dX9_sumTo_15 : decode cX9_sumTo 15 = .ok (.iaload, 1) := dc_46 (bq_nm bk_X9_sumTo_0 (j := 15) rfl rfl)
theorem dX9_sumTo_16 : decode cX9_sumTo 16 = .ok (.iadd, 1) := dc_96 (bq_nm bk_X9_sumTo_0 (j := 16) rfl rfl)
theorem dX9_sumTo_17 : decode cX9_sumTo 17 = .ok (.istore_n 2, 1) := dc_61 (bq_nm bk_X9_sumTo_0 (j := 17) rfl rfl)
theorem dX9_sumTo_18 : decode cX9_sumTo 18 = .ok (.iinc 3 1, 3) := dc_132 (bq_nm bk_X9_sumTo_0 (j := 18) rfl rfl) (bq_nm bk_X9_sumTo_0 (j := 19) rfl rfl) (bq_nm bk_X9_sumTo_0 (j := 20) rfl rfl) rfl
theorem dX9_sumTo_21 : decode cX9_sumTo 21 = .ok (.goto (-17), 3) := dc_167 (bq_nm bk_X9_sumTo_0 (j := 21) rfl rfl) (bq_nm bk_X9_sumTo_0 (j := 22) rfl rfl) (bq_nm bk_X9_sumTo_0 (j := 23) rfl rfl) rfl
theorem dX9_sumTo_24 : decode cX9_sumTo 24 = .ok (.iload_n 2, 1) := dc_28 (bq_nm bk_X9_sumTo_0 (j := 24) rfl rfl)
theorem dX9_sumTo_25 : decode cX9_sumTo 25 = .ok (.ireturn, 1) := dc_172 (bq_nm bk_X9_sumTo_0 (j := 25) rfl rfl)
set_option maxRecDepth 20000 in
theorem bk_X9_fits_0 : ((cX9_fits.data.toList.drop 0).take 32).length = 32 ∧ eN (((cX9_fits.data.toList.drop 0).take 32).map UInt8.toNat) = 35281659550440711299822554011593732368644126743101912361458111963376237196331 := by decide +kernel
theorem dX9_fits_0 : decode cX9_fits 0 = .ok (.aload_n 1, 1) := dc_43 (bq_nm bk_X9_fits_0 (j := 0) rfl rfl)
theorem dX9_fits_1 : decode cX9_fits 1 = .ok (.getfield 53, 3) := dc_180 (bq_nm bk_X9_fits_0 (j := 1) rfl rfl) (bq_nm bk_X9_fits_0 (j := 2) rfl rfl) (bq_nm bk_X9_fits_0 (j := 3) rfl rfl) rfl
theorem dX9_fits_4 : decode cX9_fits 4 = .ok (.aload_n 0, 1) := dc_42 (bq_nm bk_X9_fits_0 (j := 4) rfl rfl)
theorem dX9_fits_5 : decode cX9_fits 5 = .ok (.getfield 11, 3) := dc_180 (bq_nm bk_X9_fits_0 (j := 5) rfl rfl) (bq_nm bk_X9_fits_0 (j := 6) rfl rfl) (bq_nm bk_X9_fits_0 (j := 7) rfl rfl) rfl
theorem dX9_fits_8 : decode cX9_fits 8 = .ok (.iload_n 2, 1) := dc_28 (bq_nm bk_X9_fits_0 (j := 8) rfl rfl)
theorem dX9_fits_9 : decode cX9_fits 9 = .ok (.iaload, 1) := dc_46 (bq_nm bk_X9_fits_0 (j := 9) rfl rfl)
theorem dX9_fits_10 : decode cX9_fits 10 = .ok (.iconst 0, 1) := dc_3 (bq_nm bk_X9_fits_0 (j := 10) rfl rfl)
theorem dX9_fits_11 : decode cX9_fits 11 = .ok (.invokevirtual 74, 3) := dc_182 (bq_nm bk_X9_fits_0 (j := 11) rfl rfl) (bq_nm bk_X9_fits_0 (j := 12) rfl rfl) (bq_nm bk_X9_fits_0 (j := 13) rfl rfl) rfl
theorem dX9_fits_14 : decode cX9_fits 14 = .ok (.aload_n 0, 1) := dc_42 (bq_nm bk_X9_fits_0 (j := 14) rfl rfl)
theorem dX9_fits_15 : decode cX9_fits 15 = .ok (.getfield 15, 3) := dc_180 (bq_nm bk_X9_fits_0 (j := 15) rfl rfl) (bq_nm bk_X9_fits_0 (j := 16) rfl rfl) (bq_nm bk_X9_fits_0 (j := 17) rfl rfl) rfl
theorem dX9_fits_18 : decode cX9_fits 18 = .ok (.iload_n 2, 1) := dc_28 (bq_nm bk_X9_fits_0 (j := 18) rfl rfl)
theorem dX9_fits_19 : decode cX9_fits 19 = .ok (.iaload, 1) := dc_46 (bq_nm bk_X9_fits_0 (j := 19) rfl rfl)
theorem dX9_fits_20 : decode cX9_fits 20 = .ok (.iadd, 1) := dc_96 (bq_nm bk_X9_fits_0 (j := 20) rfl rfl)
theorem dX9_fits_21 : decode cX9_fits 21 = .ok (.istore_n 3, 1) := dc_62 (bq_nm bk_X9_fits_0 (j := 21) rfl rfl)
theorem dX9_fits_22 : decode cX9_fits 22 = .ok (.aload_n 1, 1) := dc_43 (bq_nm bk_X9_fits_0 (j := 22) rfl rfl)
theorem dX9_fits_23 : decode cX9_fits 23 = .ok (.aload_n 0, 1) := dc_42 (bq_nm bk_X9_fits_0 (j := 23) rfl rfl)
theorem dX9_fits_24 : decode cX9_fits 24 = .ok (.getfield 11, 3) := dc_180 (bq_nm bk_X9_fits_0 (j := 24) rfl rfl) (bq_nm bk_X9_fits_0 (j := 25) rfl rfl) (bq_nm bk_X9_fits_0 (j := 26) rfl rfl) rfl
theorem dX9_fits_27 : decode cX9_fits 27 = .ok (.iload_n 2, 1) := dc_28 (bq_nm bk_X9_fits_0 (j := 27) rfl rfl)
theorem dX9_fits_28 : decode cX9_fits 28 = .ok (.iaload, 1) := dc_46 (bq_nm bk_X9_fits_0 (j := 28) rfl rfl)
theorem dX9_fits_29 : decode cX9_fits 29 = .ok (.invokevirtual 78, 3) := dc_182 (bq_nm bk_X9_fits_0 (j := 29) rfl rfl) (bq_nm bk_X9_fits_0 (j := 30) rfl rfl) (bq_nm bk_X9_fits_0 (j := 31) rfl rfl) rfl
set_option maxRecDepth 20000 in
theorem bk_X9_fits_32 : ((cX9_fits.data.toList.drop 32).take 30).length = 30 ∧ eN (((cX9_fits.data.toList.drop 32).take 30).map UInt8.toNat) = 291976297349649838608064903846200265012664679988550399645878123281560618 := by decide +kernel
theorem dX9_fits_32 : decode cX9_fits 32 = .ok (.aload_n 0, 1) := dc_42 (bq_nm bk_X9_fits_32 (j := 0) rfl rfl)
theorem dX9_fits_33 : decode cX9_fits 33 = .ok (.getfield 15, 3) := dc_180 (bq_nm bk_X9_fits_32 (j := 1) rfl rfl) (bq_nm bk_X9_fits_32 (j := 2) rfl rfl) (bq_nm bk_X9_fits_32 (j := 3) rfl rfl) rfl
theorem dX9_fits_36 : decode cX9_fits 36 = .ok (.iload_n 2, 1) := dc_28 (bq_nm bk_X9_fits_32 (j := 4) rfl rfl)
theorem dX9_fits_37 : decode cX9_fits 37 = .ok (.iaload, 1) := dc_46 (bq_nm bk_X9_fits_32 (j := 5) rfl rfl)
theorem dX9_fits_38 : decode cX9_fits 38 = .ok (.iadd, 1) := dc_96 (bq_nm bk_X9_fits_32 (j := 6) rfl rfl)
theorem dX9_fits_39 : decode cX9_fits 39 = .ok (.istore 4, 2) := dc_54 (bq_nm bk_X9_fits_32 (j := 7) rfl rfl) (bq_nm bk_X9_fits_32 (j := 8) rfl rfl)
theorem dX9_fits_41 : decode cX9_fits 41 = .ok (.iconst 0, 1) := dc_3 (bq_nm bk_X9_fits_32 (j := 9) rfl rfl)
theorem dX9_fits_42 : decode cX9_fits 42 = .ok (.istore 5, 2) := dc_54 (bq_nm bk_X9_fits_32 (j := 10) rfl rfl) (bq_nm bk_X9_fits_32 (j := 11) rfl rfl)
theorem dX9_fits_44 : decode cX9_fits 44 = .ok (.iload 5, 2) := dc_21 (bq_nm bk_X9_fits_32 (j := 12) rfl rfl) (bq_nm bk_X9_fits_32 (j := 13) rfl rfl)
theorem dX9_fits_46 : decode cX9_fits 46 = .ok (.iload_n 2, 1) := dc_28 (bq_nm bk_X9_fits_32 (j := 14) rfl rfl)
theorem dX9_fits_47 : decode cX9_fits 47 = .ok (.if_icmp .ge 100, 3) := dc_162 (bq_nm bk_X9_fits_32 (j := 15) rfl rfl) (bq_nm bk_X9_fits_32 (j := 16) rfl rfl) (bq_nm bk_X9_fits_32 (j := 17) rfl rfl) rfl
theorem dX9_fits_50 : decode cX9_fits 50 = .ok (.aload_n 1, 1) := dc_43 (bq_nm bk_X9_fits_32 (j := 18) rfl rfl)
theorem dX9_fits_51 : decode cX9_fits 51 = .ok (.aload_n 0, 1) := dc_42 (bq_nm bk_X9_fits_32 (j := 19) rfl rfl)
theorem dX9_fits_52 : decode cX9_fits 52 = .ok (.getfield 11, 3) := dc_180 (bq_nm bk_X9_fits_32 (j := 20) rfl rfl) (bq_nm bk_X9_fits_32 (j := 21) rfl rfl) (bq_nm bk_X9_fits_32 (j := 22) rfl rfl) rfl
theorem dX9_fits_55 : decode cX9_fits 55 = .ok (.iload 5, 2) := dc_21 (bq_nm bk_X9_fits_32 (j := 23) rfl rfl) (bq_nm bk_X9_fits_32 (j := 24) rfl rfl)
theorem dX9_fits_57 : decode cX9_fits 57 = .ok (.iaload, 1) := dc_46 (bq_nm bk_X9_fits_32 (j := 25) rfl rfl)
theorem dX9_fits_58 : decode cX9_fits 58 = .ok (.invokevirtual 78, 3) := dc_182 (bq_nm bk_X9_fits_32 (j := 26) rfl rfl) (bq_nm bk_X9_fits_32 (j := 27) rfl rfl) (bq_nm bk_X9_fits_32 (j := 28) rfl rfl) rfl
theorem dX9_fits_61 : decode cX9_fits 61 = .ok (.aload_n 0, 1) := dc_42 (bq_nm bk_X9_fits_32 (j := 29) rfl rfl)
set_option maxRecDepth 20000 in
theorem bk_X9_fits_62 : ((cX9_fits.data.toList.drop 62).take 30).length = 30 ∧ eN (((cX9_fits.data.toList.drop 62).take 30).map UInt8.toNat) = 21945931805098625631762225541510049986433761140110490099713975400726708 := by decide +kernel
theorem dX9_fits_62 : decode cX9_fits 62 = .ok (.getfield 15, 3) := dc_180 (bq_nm bk_X9_fits_62 (j := 0) rfl rfl) (bq_nm bk_X9_fits_62 (j := 1) rfl rfl) (bq_nm bk_X9_fits_62 (j := 2) rfl rfl) rfl
theorem dX9_fits_65 : decode cX9_fits 65 = .ok (.iload 5, 2) := dc_21 (bq_nm bk_X9_fits_62 (j := 3) rfl rfl) (bq_nm bk_X9_fits_62 (j := 4) rfl rfl)
theorem dX9_fits_67 : decode cX9_fits 67 = .ok (.iaload, 1) := dc_46 (bq_nm bk_X9_fits_62 (j := 5) rfl rfl)
theorem dX9_fits_68 : decode cX9_fits 68 = .ok (.iadd, 1) := dc_96 (bq_nm bk_X9_fits_62 (j := 6) rfl rfl)
theorem dX9_fits_69 : decode cX9_fits 69 = .ok (.iload_n 3, 1) := dc_29 (bq_nm bk_X9_fits_62 (j := 7) rfl rfl)
theorem dX9_fits_70 : decode cX9_fits 70 = .ok (.if_icmp .ge 7, 3) := dc_162 (bq_nm bk_X9_fits_62 (j := 8) rfl rfl) (bq_nm bk_X9_fits_62 (j := 9) rfl rfl) (bq_nm bk_X9_fits_62 (j := 10) rfl rfl) rfl
theorem dX9_fits_73 : decode cX9_fits 73 = .ok (.iconst 1, 1) := dc_4 (bq_nm bk_X9_fits_62 (j := 11) rfl rfl)
theorem dX9_fits_74 : decode cX9_fits 74 = .ok (.goto 4, 3) := dc_167 (bq_nm bk_X9_fits_62 (j := 12) rfl rfl) (bq_nm bk_X9_fits_62 (j := 13) rfl rfl) (bq_nm bk_X9_fits_62 (j := 14) rfl rfl) rfl
theorem dX9_fits_77 : decode cX9_fits 77 = .ok (.iconst 0, 1) := dc_3 (bq_nm bk_X9_fits_62 (j := 15) rfl rfl)
theorem dX9_fits_78 : decode cX9_fits 78 = .ok (.istore 6, 2) := dc_54 (bq_nm bk_X9_fits_62 (j := 16) rfl rfl) (bq_nm bk_X9_fits_62 (j := 17) rfl rfl)
theorem dX9_fits_80 : decode cX9_fits 80 = .ok (.aload_n 1, 1) := dc_43 (bq_nm bk_X9_fits_62 (j := 18) rfl rfl)
theorem dX9_fits_81 : decode cX9_fits 81 = .ok (.getfield 53, 3) := dc_180 (bq_nm bk_X9_fits_62 (j := 19) rfl rfl) (bq_nm bk_X9_fits_62 (j := 20) rfl rfl) (bq_nm bk_X9_fits_62 (j := 21) rfl rfl) rfl
theorem dX9_fits_84 : decode cX9_fits 84 = .ok (.aload_n 0, 1) := dc_42 (bq_nm bk_X9_fits_62 (j := 22) rfl rfl)
theorem dX9_fits_85 : decode cX9_fits 85 = .ok (.getfield 11, 3) := dc_180 (bq_nm bk_X9_fits_62 (j := 23) rfl rfl) (bq_nm bk_X9_fits_62 (j := 24) rfl rfl) (bq_nm bk_X9_fits_62 (j := 25) rfl rfl) rfl
theorem dX9_fits_88 : decode cX9_fits 88 = .ok (.iload 5, 2) := dc_21 (bq_nm bk_X9_fits_62 (j := 26) rfl rfl) (bq_nm bk_X9_fits_62 (j := 27) rfl rfl)
theorem dX9_fits_90 : decode cX9_fits 90 = .ok (.iaload, 1) := dc_46 (bq_nm bk_X9_fits_62 (j := 28) rfl rfl)
theorem dX9_fits_91 : decode cX9_fits 91 = .ok (.iconst 0, 1) := dc_3 (bq_nm bk_X9_fits_62 (j := 29) rfl rfl)
set_option maxRecDepth 20000 in
theorem bk_X9_fits_92 : ((cX9_fits.data.toList.drop 92).take 31).length = 31 ∧ eN (((cX9_fits.data.toList.drop 92).take 31).map UInt8.toNat) = 8980415112105408971260779392068292602418586312255977418252076361934569654 := by decide +kernel
theorem dX9_fits_92 : decode cX9_fits 92 = .ok (.invokevirtual 74, 3) := dc_182 (bq_nm bk_X9_fits_92 (j := 0) rfl rfl) (bq_nm bk_X9_fits_92 (j := 1) rfl rfl) (bq_nm bk_X9_fits_92 (j := 2) rfl rfl) rfl
theorem dX9_fits_95 : decode cX9_fits 95 = .ok (.aload_n 0, 1) := dc_42 (bq_nm bk_X9_fits_92 (j := 3) rfl rfl)
theorem dX9_fits_96 : decode cX9_fits 96 = .ok (.getfield 15, 3) := dc_180 (bq_nm bk_X9_fits_92 (j := 4) rfl rfl) (bq_nm bk_X9_fits_92 (j := 5) rfl rfl) (bq_nm bk_X9_fits_92 (j := 6) rfl rfl) rfl
theorem dX9_fits_99 : decode cX9_fits 99 = .ok (.iload 5, 2) := dc_21 (bq_nm bk_X9_fits_92 (j := 7) rfl rfl) (bq_nm bk_X9_fits_92 (j := 8) rfl rfl)
theorem dX9_fits_101 : decode cX9_fits 101 = .ok (.iaload, 1) := dc_46 (bq_nm bk_X9_fits_92 (j := 9) rfl rfl)
theorem dX9_fits_102 : decode cX9_fits 102 = .ok (.iadd, 1) := dc_96 (bq_nm bk_X9_fits_92 (j := 10) rfl rfl)
theorem dX9_fits_103 : decode cX9_fits 103 = .ok (.iload 4, 2) := dc_21 (bq_nm bk_X9_fits_92 (j := 11) rfl rfl) (bq_nm bk_X9_fits_92 (j := 12) rfl rfl)
theorem dX9_fits_105 : decode cX9_fits 105 = .ok (.if_icmp .le 7, 3) := dc_164 (bq_nm bk_X9_fits_92 (j := 13) rfl rfl) (bq_nm bk_X9_fits_92 (j := 14) rfl rfl) (bq_nm bk_X9_fits_92 (j := 15) rfl rfl) rfl
theorem dX9_fits_108 : decode cX9_fits 108 = .ok (.iconst 1, 1) := dc_4 (bq_nm bk_X9_fits_92 (j := 16) rfl rfl)
theorem dX9_fits_109 : decode cX9_fits 109 = .ok (.goto 4, 3) := dc_167 (bq_nm bk_X9_fits_92 (j := 17) rfl rfl) (bq_nm bk_X9_fits_92 (j := 18) rfl rfl) (bq_nm bk_X9_fits_92 (j := 19) rfl rfl) rfl
theorem dX9_fits_112 : decode cX9_fits 112 = .ok (.iconst 0, 1) := dc_3 (bq_nm bk_X9_fits_92 (j := 20) rfl rfl)
theorem dX9_fits_113 : decode cX9_fits 113 = .ok (.istore 7, 2) := dc_54 (bq_nm bk_X9_fits_92 (j := 21) rfl rfl) (bq_nm bk_X9_fits_92 (j := 22) rfl rfl)
theorem dX9_fits_115 : decode cX9_fits 115 = .ok (.aload_n 0, 1) := dc_42 (bq_nm bk_X9_fits_92 (j := 23) rfl rfl)
theorem dX9_fits_116 : decode cX9_fits 116 = .ok (.getfield 21, 3) := dc_180 (bq_nm bk_X9_fits_92 (j := 24) rfl rfl) (bq_nm bk_X9_fits_92 (j := 25) rfl rfl) (bq_nm bk_X9_fits_92 (j := 26) rfl rfl) rfl
theorem dX9_fits_119 : decode cX9_fits 119 = .ok (.iload_n 2, 1) := dc_28 (bq_nm bk_X9_fits_92 (j := 27) rfl rfl)
theorem dX9_fits_120 : decode cX9_fits 120 = .ok (.iaload, 1) := dc_46 (bq_nm bk_X9_fits_92 (j := 28) rfl rfl)
theorem dX9_fits_121 : decode cX9_fits 121 = .ok (.iload 5, 2) := dc_21 (bq_nm bk_X9_fits_92 (j := 29) rfl rfl) (bq_nm bk_X9_fits_92 (j := 30) rfl rfl)
set_option maxRecDepth 20000 in
theorem bk_X9_fits_123 : ((cX9_fits.data.toList.drop 123).take 26).length = 26 ∧ eN (((cX9_fits.data.toList.drop 123).take 26).map UInt8.toNat) = 276422301614989168929411619024537880531378027701955850657595576 := by decide +kernel
theorem dX9_fits_123 : decode cX9_fits 123 = .ok (.invokestatic 64, 3) := dc_184 (bq_nm bk_X9_fits_123 (j := 0) rfl rfl) (bq_nm bk_X9_fits_123 (j := 1) rfl rfl) (bq_nm bk_X9_fits_123 (j := 2) rfl rfl) rfl
theorem dX9_fits_126 : decode cX9_fits 126 = .ok (.ifCond .eq 15, 3) := dc_153 (bq_nm bk_X9_fits_123 (j := 3) rfl rfl) (bq_nm bk_X9_fits_123 (j := 4) rfl rfl) (bq_nm bk_X9_fits_123 (j := 5) rfl rfl) rfl
theorem dX9_fits_129 : decode cX9_fits 129 = .ok (.iload 6, 2) := dc_21 (bq_nm bk_X9_fits_123 (j := 6) rfl rfl) (bq_nm bk_X9_fits_123 (j := 7) rfl rfl)
theorem dX9_fits_131 : decode cX9_fits 131 = .ok (.ifCond .ne 10, 3) := dc_154 (bq_nm bk_X9_fits_123 (j := 8) rfl rfl) (bq_nm bk_X9_fits_123 (j := 9) rfl rfl) (bq_nm bk_X9_fits_123 (j := 10) rfl rfl) rfl
theorem dX9_fits_134 : decode cX9_fits 134 = .ok (.iload 7, 2) := dc_21 (bq_nm bk_X9_fits_123 (j := 11) rfl rfl) (bq_nm bk_X9_fits_123 (j := 12) rfl rfl)
theorem dX9_fits_136 : decode cX9_fits 136 = .ok (.ifCond .ne 5, 3) := dc_154 (bq_nm bk_X9_fits_123 (j := 13) rfl rfl) (bq_nm bk_X9_fits_123 (j := 14) rfl rfl) (bq_nm bk_X9_fits_123 (j := 15) rfl rfl) rfl
theorem dX9_fits_139 : decode cX9_fits 139 = .ok (.iconst 0, 1) := dc_3 (bq_nm bk_X9_fits_123 (j := 16) rfl rfl)
theorem dX9_fits_140 : decode cX9_fits 140 = .ok (.ireturn, 1) := dc_172 (bq_nm bk_X9_fits_123 (j := 17) rfl rfl)
theorem dX9_fits_141 : decode cX9_fits 141 = .ok (.iinc 5 1, 3) := dc_132 (bq_nm bk_X9_fits_123 (j := 18) rfl rfl) (bq_nm bk_X9_fits_123 (j := 19) rfl rfl) (bq_nm bk_X9_fits_123 (j := 20) rfl rfl) rfl
theorem dX9_fits_144 : decode cX9_fits 144 = .ok (.goto (-100), 3) := dc_167 (bq_nm bk_X9_fits_123 (j := 21) rfl rfl) (bq_nm bk_X9_fits_123 (j := 22) rfl rfl) (bq_nm bk_X9_fits_123 (j := 23) rfl rfl) rfl
theorem dX9_fits_147 : decode cX9_fits 147 = .ok (.iconst 1, 1) := dc_4 (bq_nm bk_X9_fits_123 (j := 24) rfl rfl)
theorem dX9_fits_148 : decode cX9_fits 148 = .ok (.ireturn, 1) := dc_172 (bq_nm bk_X9_fits_123 (j := 25) rfl rfl)
set_option maxRecDepth 20000 in
theorem bk_X10_init_0 : ((cX10_init.data.toList.drop 0).take 31).length = 31 ∧ eN (((cX10_init.data.toList.drop 0).take 31).map UInt8.toNat) = 37108884334137561787354061346479215655385358264825184731034443612308944682 := by decide +kernel
theorem dX10_init_0 : decode cX10_init 0 = .ok (.aload_n 0, 1) := dc_42 (bq_nm bk_X10_init_0 (j := 0) rfl rfl)
theorem dX10_init_1 : decode cX10_init 1 = .ok (.invokespecial 3, 3) := dc_183 (bq_nm bk_X10_init_0 (j := 1) rfl rfl) (bq_nm bk_X10_init_0 (j := 2) rfl rfl) (bq_nm bk_X10_init_0 (j := 3) rfl rfl) rfl
theorem dX10_init_4 : decode cX10_init 4 = .ok (.aload_n 0, 1) := dc_42 (bq_nm bk_X10_init_0 (j := 4) rfl rfl)
theorem dX10_init_5 : decode cX10_init 5 = .ok (.new 9, 3) := dc_187 (bq_nm bk_X10_init_0 (j := 5) rfl rfl) (bq_nm bk_X10_init_0 (j := 6) rfl rfl) (bq_nm bk_X10_init_0 (j := 7) rfl rfl) rfl
theorem dX10_init_8 : decode cX10_init 8 = .ok (.dup, 1) := dc_89 (bq_nm bk_X10_init_0 (j := 8) rfl rfl)
theorem dX10_init_9 : decode cX10_init 9 = .ok (.invokespecial 11, 3) := dc_183 (bq_nm bk_X10_init_0 (j := 9) rfl rfl) (bq_nm bk_X10_init_0 (j := 10) rfl rfl) (bq_nm bk_X10_init_0 (j := 11) rfl rfl) rfl
theorem dX10_init_12 : decode cX10_init 12 = .ok (.putfield 12, 3) := dc_181 (bq_nm bk_X10_init_0 (j := 12) rfl rfl) (bq_nm bk_X10_init_0 (j := 13) rfl rfl) (bq_nm bk_X10_init_0 (j := 14) rfl rfl) rfl
theorem dX10_init_15 : decode cX10_init 15 = .ok (.aload_n 0, 1) := dc_42 (bq_nm bk_X10_init_0 (j := 15) rfl rfl)
theorem dX10_init_16 : decode cX10_init 16 = .ok (.aload_n 0, 1) := dc_42 (bq_nm bk_X10_init_0 (j := 16) rfl rfl)
theorem dX10_init_17 : decode cX10_init 17 = .ok (.getfield 12, 3) := dc_180 (bq_nm bk_X10_init_0 (j := 17) rfl rfl) (bq_nm bk_X10_init_0 (j := 18) rfl rfl) (bq_nm bk_X10_init_0 (j := 19) rfl rfl) rfl
theorem dX10_init_20 : decode cX10_init 20 = .ok (.getfield 16, 3) := dc_180 (bq_nm bk_X10_init_0 (j := 20) rfl rfl) (bq_nm bk_X10_init_0 (j := 21) rfl rfl) (bq_nm bk_X10_init_0 (j := 22) rfl rfl) rfl
theorem dX10_init_23 : decode cX10_init 23 = .ok (.putfield 20, 3) := dc_181 (bq_nm bk_X10_init_0 (j := 23) rfl rfl) (bq_nm bk_X10_init_0 (j := 24) rfl rfl) (bq_nm bk_X10_init_0 (j := 25) rfl rfl) rfl
theorem dX10_init_26 : decode cX10_init 26 = .ok (.aload_n 0, 1) := dc_42 (bq_nm bk_X10_init_0 (j := 26) rfl rfl)
theorem dX10_init_27 : decode cX10_init 27 = .ok (.iconst 2, 1) := dc_5 (bq_nm bk_X10_init_0 (j := 27) rfl rfl)
theorem dX10_init_28 : decode cX10_init 28 = .ok (.anewarray 21, 3) := dc_189 (bq_nm bk_X10_init_0 (j := 28) rfl rfl) (bq_nm bk_X10_init_0 (j := 29) rfl rfl) (bq_nm bk_X10_init_0 (j := 30) rfl rfl) rfl
set_option maxRecDepth 20000 in
theorem bk_X10_init_31 : ((cX10_init.data.toList.drop 31).take 32).length = 32 ∧ eN (((cX10_init.data.toList.drop 31).take 32).map UInt8.toNat) = 18546077086475982790908585021940900101986626991944998516690752331607294017717 := by decide +kernel
theorem dX10_init_31 : decode cX10_init 31 = .ok (.putfield 23, 3) := dc_181 (bq_nm bk_X10_init_31 (j := 0) rfl rfl) (bq_nm bk_X10_init_31 (j := 1) rfl rfl) (bq_nm bk_X10_init_31 (j := 2) rfl rfl) rfl
theorem dX10_init_34 : decode cX10_init 34 = .ok (.aload_n 0, 1) := dc_42 (bq_nm bk_X10_init_31 (j := 3) rfl rfl)
theorem dX10_init_35 : decode cX10_init 35 = .ok (.iconst 2, 1) := dc_5 (bq_nm bk_X10_init_31 (j := 4) rfl rfl)
theorem dX10_init_36 : decode cX10_init 36 = .ok (.newarray .boolean, 2) := dc_188_4 (bq_nm bk_X10_init_31 (j := 5) rfl rfl) (bq_nm bk_X10_init_31 (j := 6) rfl rfl)
theorem dX10_init_38 : decode cX10_init 38 = .ok (.putfield 27, 3) := dc_181 (bq_nm bk_X10_init_31 (j := 7) rfl rfl) (bq_nm bk_X10_init_31 (j := 8) rfl rfl) (bq_nm bk_X10_init_31 (j := 9) rfl rfl) rfl
theorem dX10_init_41 : decode cX10_init 41 = .ok (.aload_n 0, 1) := dc_42 (bq_nm bk_X10_init_31 (j := 10) rfl rfl)
theorem dX10_init_42 : decode cX10_init 42 = .ok (.new 31, 3) := dc_187 (bq_nm bk_X10_init_31 (j := 11) rfl rfl) (bq_nm bk_X10_init_31 (j := 12) rfl rfl) (bq_nm bk_X10_init_31 (j := 13) rfl rfl) rfl
theorem dX10_init_45 : decode cX10_init 45 = .ok (.dup, 1) := dc_89 (bq_nm bk_X10_init_31 (j := 14) rfl rfl)
theorem dX10_init_46 : decode cX10_init 46 = .ok (.invokespecial 33, 3) := dc_183 (bq_nm bk_X10_init_31 (j := 15) rfl rfl) (bq_nm bk_X10_init_31 (j := 16) rfl rfl) (bq_nm bk_X10_init_31 (j := 17) rfl rfl) rfl
theorem dX10_init_49 : decode cX10_init 49 = .ok (.putfield 34, 3) := dc_181 (bq_nm bk_X10_init_31 (j := 18) rfl rfl) (bq_nm bk_X10_init_31 (j := 19) rfl rfl) (bq_nm bk_X10_init_31 (j := 20) rfl rfl) rfl
theorem dX10_init_52 : decode cX10_init 52 = .ok (.aload_n 0, 1) := dc_42 (bq_nm bk_X10_init_31 (j := 21) rfl rfl)
theorem dX10_init_53 : decode cX10_init 53 = .ok (.new 38, 3) := dc_187 (bq_nm bk_X10_init_31 (j := 22) rfl rfl) (bq_nm bk_X10_init_31 (j := 23) rfl rfl) (bq_nm bk_X10_init_31 (j := 24) rfl rfl) rfl
theorem dX10_init_56 : decode cX10_init 56 = .ok (.dup, 1) := dc_89 (bq_nm bk_X10_init_31 (j := 25) rfl rfl)
theorem dX10_init_57 : decode cX10_init 57 = .ok (.invokespecial 40, 3) := dc_183 (bq_nm bk_X10_init_31 (j := 26) rfl rfl) (bq_nm bk_X10_init_31 (j := 27) rfl rfl) (bq_nm bk_X10_init_31 (j := 28) rfl rfl) rfl
theorem dX10_init_60 : decode cX10_init 60 = .ok (.putfield 41, 3) := dc_181 (bq_nm bk_X10_init_31 (j := 29) rfl rfl) (bq_nm bk_X10_init_31 (j := 30) rfl rfl) (bq_nm bk_X10_init_31 (j := 31) rfl rfl) rfl
set_option maxRecDepth 20000 in
theorem bk_X10_init_63 : ((cX10_init.data.toList.drop 63).take 31).length = 31 ∧ eN (((cX10_init.data.toList.drop 63).take 31).map UInt8.toNat) = 147007216495434610705473089665382296510055696194407994515160532882003376938 := by decide +kernel
theorem dX10_init_63 : decode cX10_init 63 = .ok (.aload_n 0, 1) := dc_42 (bq_nm bk_X10_init_63 (j := 0) rfl rfl)
theorem dX10_init_64 : decode cX10_init 64 = .ok (.new 45, 3) := dc_187 (bq_nm bk_X10_init_63 (j := 1) rfl rfl) (bq_nm bk_X10_init_63 (j := 2) rfl rfl) (bq_nm bk_X10_init_63 (j := 3) rfl rfl) rfl
theorem dX10_init_67 : decode cX10_init 67 = .ok (.dup, 1) := dc_89 (bq_nm bk_X10_init_63 (j := 4) rfl rfl)
theorem dX10_init_68 : decode cX10_init 68 = .ok (.invokespecial 47, 3) := dc_183 (bq_nm bk_X10_init_63 (j := 5) rfl rfl) (bq_nm bk_X10_init_63 (j := 6) rfl rfl) (bq_nm bk_X10_init_63 (j := 7) rfl rfl) rfl
theorem dX10_init_71 : decode cX10_init 71 = .ok (.putfield 48, 3) := dc_181 (bq_nm bk_X10_init_63 (j := 8) rfl rfl) (bq_nm bk_X10_init_63 (j := 9) rfl rfl) (bq_nm bk_X10_init_63 (j := 10) rfl rfl) rfl
theorem dX10_init_74 : decode cX10_init 74 = .ok (.iconst 0, 1) := dc_3 (bq_nm bk_X10_init_63 (j := 11) rfl rfl)
theorem dX10_init_75 : decode cX10_init 75 = .ok (.istore_n 1, 1) := dc_60 (bq_nm bk_X10_init_63 (j := 12) rfl rfl)
theorem dX10_init_76 : decode cX10_init 76 = .ok (.iload_n 1, 1) := dc_27 (bq_nm bk_X10_init_63 (j := 13) rfl rfl)
theorem dX10_init_77 : decode cX10_init 77 = .ok (.iconst 2, 1) := dc_5 (bq_nm bk_X10_init_63 (j := 14) rfl rfl)
theorem dX10_init_78 : decode cX10_init 78 = .ok (.if_icmp .ge 22, 3) := dc_162 (bq_nm bk_X10_init_63 (j := 15) rfl rfl) (bq_nm bk_X10_init_63 (j := 16) rfl rfl) (bq_nm bk_X10_init_63 (j := 17) rfl rfl) rfl
theorem dX10_init_81 : decode cX10_init 81 = .ok (.aload_n 0, 1) := dc_42 (bq_nm bk_X10_init_63 (j := 18) rfl rfl)
theorem dX10_init_82 : decode cX10_init 82 = .ok (.getfield 23, 3) := dc_180 (bq_nm bk_X10_init_63 (j := 19) rfl rfl) (bq_nm bk_X10_init_63 (j := 20) rfl rfl) (bq_nm bk_X10_init_63 (j := 21) rfl rfl) rfl
theorem dX10_init_85 : decode cX10_init 85 = .ok (.iload_n 1, 1) := dc_27 (bq_nm bk_X10_init_63 (j := 22) rfl rfl)
theorem dX10_init_86 : decode cX10_init 86 = .ok (.new 21, 3) := dc_187 (bq_nm bk_X10_init_63 (j := 23) rfl rfl) (bq_nm bk_X10_init_63 (j := 24) rfl rfl) (bq_nm bk_X10_init_63 (j := 25) rfl rfl) rfl
theorem dX10_init_89 : decode cX10_init 89 = .ok (.dup, 1) := dc_89 (bq_nm bk_X10_init_63 (j := 26) rfl rfl)
theorem dX10_init_90 : decode cX10_init 90 = .ok (.invokespecial 52, 3) := dc_183 (bq_nm bk_X10_init_63 (j := 27) rfl rfl) (bq_nm bk_X10_init_63 (j := 28) rfl rfl) (bq_nm bk_X10_init_63 (j := 29) rfl rfl) rfl
theorem dX10_init_93 : decode cX10_init 93 = .ok (.aastore, 1) := dc_83 (bq_nm bk_X10_init_63 (j := 30) rfl rfl)
set_option maxRecDepth 20000 in
theorem bk_X10_init_94 : ((cX10_init.data.toList.drop 94).take 7).length = 7 ∧ eN (((cX10_init.data.toList.drop 94).take 7).map UInt8.toNat) = 50080554128834948 := by decide +kernel
theorem dX10_init_94 : decode cX10_init 94 = .ok (.iinc 1 1, 3) := dc_132 (bq_nm bk_X10_init_94 (j := 0) rfl rfl) (bq_nm bk_X10_init_94 (j := 1) rfl rfl) (bq_nm bk_X10_init_94 (j := 2) rfl rfl) rfl
theorem dX10_init_97 : decode cX10_init 97 = .ok (.goto (-21), 3) := dc_167 (bq_nm bk_X10_init_94 (j := 3) rfl rfl) (bq_nm bk_X10_init_94 (j := 4) rfl rfl) (bq_nm bk_X10_init_94 (j := 5) rfl rfl) rfl
theorem dX10_init_100 : decode cX10_init 100 = .ok (.return_, 1) := dc_177 (bq_nm bk_X10_init_94 (j := 6) rfl rfl)


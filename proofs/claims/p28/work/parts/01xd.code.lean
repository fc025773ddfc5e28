set_option maxRecDepth 20000 in
theorem bk_X11_isText_0 : ((cX11_isText.data.toList.drop 0).take 10).length = 10 ∧ eN (((cX11_isText.data.toList.drop 0).take 10).map UInt8.toNat) = 813483018782575962981658 := by decide +kernel
theorem dX11_isText_0 : decode cX11_isText 0 = .ok (.iload_n 0, 1) := dc_26 (bq_nm bk_X11_isText_0 (j := 0) rfl rfl)
theorem dX11_isText_1 : decode cX11_isText 1 = .ok (.i2l, 1) := dc_133 (bq_nm bk_X11_isText_0 (j := 1) rfl rfl)
theorem dX11_isText_2 : decode cX11_isText 2 = .ok (.lconst 0, 1) := dc_9 (bq_nm bk_X11_isText_0 (j := 2) rfl rfl)
theorem dX11_isText_3 : decode cX11_isText 3 = .ok (.ldc2_w 77, 3) := dc_20 (bq_nm bk_X11_isText_0 (j := 3) rfl rfl) (bq_nm bk_X11_isText_0 (j := 4) rfl rfl) (bq_nm bk_X11_isText_0 (j := 5) rfl rfl) rfl
theorem dX11_isText_6 : decode cX11_isText 6 = .ok (.invokestatic 67, 3) := dc_184 (bq_nm bk_X11_isText_0 (j := 6) rfl rfl) (bq_nm bk_X11_isText_0 (j := 7) rfl rfl) (bq_nm bk_X11_isText_0 (j := 8) rfl rfl) rfl
theorem dX11_isText_9 : decode cX11_isText 9 = .ok (.ireturn, 1) := dc_172 (bq_nm bk_X11_isText_0 (j := 9) rfl rfl)
set_option maxRecDepth 20000 in
theorem bk_X11_write_0 : ((cX11_write.data.toList.drop 0).take 32).length = 32 ∧ eN (((cX11_write.data.toList.drop 0).take 32).map UInt8.toNat) = 19107349532861631224758332458331037107897652122492524861664682347036942579739 := by decide +kernel
theorem dX11_write_0 : decode cX11_write 0 = .ok (.iload_n 1, 1) := dc_27 (bq_nm bk_X11_write_0 (j := 0) rfl rfl)
theorem dX11_write_1 : decode cX11_write 1 = .ok (.invokestatic 166, 3) := dc_184 (bq_nm bk_X11_write_0 (j := 1) rfl rfl) (bq_nm bk_X11_write_0 (j := 2) rfl rfl) (bq_nm bk_X11_write_0 (j := 3) rfl rfl) rfl
theorem dX11_write_4 : decode cX11_write 4 = .ok (.ifCond .eq 15, 3) := dc_153 (bq_nm bk_X11_write_0 (j := 4) rfl rfl) (bq_nm bk_X11_write_0 (j := 5) rfl rfl) (bq_nm bk_X11_write_0 (j := 6) rfl rfl) rfl
theorem dX11_write_7 : decode cX11_write 7 = .ok (.iload_n 2, 1) := dc_28 (bq_nm bk_X11_write_0 (j := 7) rfl rfl)
theorem dX11_write_8 : decode cX11_write 8 = .ok (.i2l, 1) := dc_133 (bq_nm bk_X11_write_0 (j := 8) rfl rfl)
theorem dX11_write_9 : decode cX11_write 9 = .ok (.lconst 0, 1) := dc_9 (bq_nm bk_X11_write_0 (j := 9) rfl rfl)
theorem dX11_write_10 : decode cX11_write 10 = .ok (.ldc2_w 169, 3) := dc_20 (bq_nm bk_X11_write_0 (j := 10) rfl rfl) (bq_nm bk_X11_write_0 (j := 11) rfl rfl) (bq_nm bk_X11_write_0 (j := 12) rfl rfl) rfl
theorem dX11_write_13 : decode cX11_write 13 = .ok (.invokestatic 67, 3) := dc_184 (bq_nm bk_X11_write_0 (j := 13) rfl rfl) (bq_nm bk_X11_write_0 (j := 14) rfl rfl) (bq_nm bk_X11_write_0 (j := 15) rfl rfl) rfl
theorem dX11_write_16 : decode cX11_write 16 = .ok (.ifCond .ne 6, 3) := dc_154 (bq_nm bk_X11_write_0 (j := 16) rfl rfl) (bq_nm bk_X11_write_0 (j := 17) rfl rfl) (bq_nm bk_X11_write_0 (j := 18) rfl rfl) rfl
theorem dX11_write_19 : decode cX11_write 19 = .ok (.bipush (-2), 2) := dc_16 (bq_nm bk_X11_write_0 (j := 19) rfl rfl) (bq_nm bk_X11_write_0 (j := 20) rfl rfl) rfl
theorem dX11_write_21 : decode cX11_write 21 = .ok (.ireturn, 1) := dc_172 (bq_nm bk_X11_write_0 (j := 21) rfl rfl)
theorem dX11_write_22 : decode cX11_write 22 = .ok (.sipush 262, 3) := dc_17 (bq_nm bk_X11_write_0 (j := 22) rfl rfl) (bq_nm bk_X11_write_0 (j := 23) rfl rfl) (bq_nm bk_X11_write_0 (j := 24) rfl rfl) rfl
theorem dX11_write_25 : decode cX11_write 25 = .ok (.bipush 51, 2) := dc_16 (bq_nm bk_X11_write_0 (j := 25) rfl rfl) (bq_nm bk_X11_write_0 (j := 26) rfl rfl) rfl
theorem dX11_write_27 : decode cX11_write 27 = .ok (.iload_n 1, 1) := dc_27 (bq_nm bk_X11_write_0 (j := 27) rfl rfl)
theorem dX11_write_28 : decode cX11_write 28 = .ok (.imul, 1) := dc_104 (bq_nm bk_X11_write_0 (j := 28) rfl rfl)
theorem dX11_write_29 : decode cX11_write 29 = .ok (.iadd, 1) := dc_96 (bq_nm bk_X11_write_0 (j := 29) rfl rfl)
theorem dX11_write_30 : decode cX11_write 30 = .ok (.istore_n 3, 1) := dc_62 (bq_nm bk_X11_write_0 (j := 30) rfl rfl)
theorem dX11_write_31 : decode cX11_write 31 = .ok (.aload_n 0, 1) := dc_42 (bq_nm bk_X11_write_0 (j := 31) rfl rfl)
set_option maxRecDepth 20000 in
theorem bk_X11_write_32 : ((cX11_write.data.toList.drop 32).take 32).length = 32 ∧ eN (((cX11_write.data.toList.drop 32).take 32).map UInt8.toNat) = 3167433389799984262701101271986900994410843204791009700492281061659833204916 := by decide +kernel
theorem dX11_write_32 : decode cX11_write 32 = .ok (.getfield 7, 3) := dc_180 (bq_nm bk_X11_write_32 (j := 0) rfl rfl) (bq_nm bk_X11_write_32 (j := 1) rfl rfl) (bq_nm bk_X11_write_32 (j := 2) rfl rfl) rfl
theorem dX11_write_35 : decode cX11_write 35 = .ok (.iload_n 3, 1) := dc_29 (bq_nm bk_X11_write_32 (j := 3) rfl rfl)
theorem dX11_write_36 : decode cX11_write 36 = .ok (.iaload, 1) := dc_46 (bq_nm bk_X11_write_32 (j := 4) rfl rfl)
theorem dX11_write_37 : decode cX11_write 37 = .ok (.bipush 50, 2) := dc_16 (bq_nm bk_X11_write_32 (j := 5) rfl rfl) (bq_nm bk_X11_write_32 (j := 6) rfl rfl) rfl
theorem dX11_write_39 : decode cX11_write 39 = .ok (.if_icmp .ne 6, 3) := dc_160 (bq_nm bk_X11_write_32 (j := 7) rfl rfl) (bq_nm bk_X11_write_32 (j := 8) rfl rfl) (bq_nm bk_X11_write_32 (j := 9) rfl rfl) rfl
theorem dX11_write_42 : decode cX11_write 42 = .ok (.bipush (-4), 2) := dc_16 (bq_nm bk_X11_write_32 (j := 10) rfl rfl) (bq_nm bk_X11_write_32 (j := 11) rfl rfl) rfl
theorem dX11_write_44 : decode cX11_write 44 = .ok (.ireturn, 1) := dc_172 (bq_nm bk_X11_write_32 (j := 12) rfl rfl)
theorem dX11_write_45 : decode cX11_write 45 = .ok (.aload_n 0, 1) := dc_42 (bq_nm bk_X11_write_32 (j := 13) rfl rfl)
theorem dX11_write_46 : decode cX11_write 46 = .ok (.getfield 7, 3) := dc_180 (bq_nm bk_X11_write_32 (j := 14) rfl rfl) (bq_nm bk_X11_write_32 (j := 15) rfl rfl) (bq_nm bk_X11_write_32 (j := 16) rfl rfl) rfl
theorem dX11_write_49 : decode cX11_write 49 = .ok (.iload_n 3, 1) := dc_29 (bq_nm bk_X11_write_32 (j := 17) rfl rfl)
theorem dX11_write_50 : decode cX11_write 50 = .ok (.dup2, 1) := dc_92 (bq_nm bk_X11_write_32 (j := 18) rfl rfl)
theorem dX11_write_51 : decode cX11_write 51 = .ok (.iaload, 1) := dc_46 (bq_nm bk_X11_write_32 (j := 19) rfl rfl)
theorem dX11_write_52 : decode cX11_write 52 = .ok (.iconst 1, 1) := dc_4 (bq_nm bk_X11_write_32 (j := 20) rfl rfl)
theorem dX11_write_53 : decode cX11_write 53 = .ok (.iadd, 1) := dc_96 (bq_nm bk_X11_write_32 (j := 21) rfl rfl)
theorem dX11_write_54 : decode cX11_write 54 = .ok (.iastore, 1) := dc_79 (bq_nm bk_X11_write_32 (j := 22) rfl rfl)
theorem dX11_write_55 : decode cX11_write 55 = .ok (.aload_n 0, 1) := dc_42 (bq_nm bk_X11_write_32 (j := 23) rfl rfl)
theorem dX11_write_56 : decode cX11_write 56 = .ok (.getfield 7, 3) := dc_180 (bq_nm bk_X11_write_32 (j := 24) rfl rfl) (bq_nm bk_X11_write_32 (j := 25) rfl rfl) (bq_nm bk_X11_write_32 (j := 26) rfl rfl) rfl
theorem dX11_write_59 : decode cX11_write 59 = .ok (.iload_n 3, 1) := dc_29 (bq_nm bk_X11_write_32 (j := 27) rfl rfl)
theorem dX11_write_60 : decode cX11_write 60 = .ok (.aload_n 0, 1) := dc_42 (bq_nm bk_X11_write_32 (j := 28) rfl rfl)
theorem dX11_write_61 : decode cX11_write 61 = .ok (.getfield 7, 3) := dc_180 (bq_nm bk_X11_write_32 (j := 29) rfl rfl) (bq_nm bk_X11_write_32 (j := 30) rfl rfl) (bq_nm bk_X11_write_32 (j := 31) rfl rfl) rfl
set_option maxRecDepth 20000 in
theorem bk_X11_write_64 : ((cX11_write.data.toList.drop 64).take 12).length = 12 ∧ eN (((cX11_write.data.toList.drop 64).take 12).map UInt8.toNat) = 53287169354779548513451650589 := by decide +kernel
theorem dX11_write_64 : decode cX11_write 64 = .ok (.iload_n 3, 1) := dc_29 (bq_nm bk_X11_write_64 (j := 0) rfl rfl)
theorem dX11_write_65 : decode cX11_write 65 = .ok (.iaload, 1) := dc_46 (bq_nm bk_X11_write_64 (j := 1) rfl rfl)
theorem dX11_write_66 : decode cX11_write 66 = .ok (.iadd, 1) := dc_96 (bq_nm bk_X11_write_64 (j := 2) rfl rfl)
theorem dX11_write_67 : decode cX11_write 67 = .ok (.iload_n 2, 1) := dc_28 (bq_nm bk_X11_write_64 (j := 3) rfl rfl)
theorem dX11_write_68 : decode cX11_write 68 = .ok (.iastore, 1) := dc_79 (bq_nm bk_X11_write_64 (j := 4) rfl rfl)
theorem dX11_write_69 : decode cX11_write 69 = .ok (.aload_n 0, 1) := dc_42 (bq_nm bk_X11_write_64 (j := 5) rfl rfl)
theorem dX11_write_70 : decode cX11_write 70 = .ok (.getfield 7, 3) := dc_180 (bq_nm bk_X11_write_64 (j := 6) rfl rfl) (bq_nm bk_X11_write_64 (j := 7) rfl rfl) (bq_nm bk_X11_write_64 (j := 8) rfl rfl) rfl
theorem dX11_write_73 : decode cX11_write 73 = .ok (.iload_n 3, 1) := dc_29 (bq_nm bk_X11_write_64 (j := 9) rfl rfl)
theorem dX11_write_74 : decode cX11_write 74 = .ok (.iaload, 1) := dc_46 (bq_nm bk_X11_write_64 (j := 10) rfl rfl)
theorem dX11_write_75 : decode cX11_write 75 = .ok (.ireturn, 1) := dc_172 (bq_nm bk_X11_write_64 (j := 11) rfl rfl)
set_option maxRecDepth 20000 in
theorem bk_X11_erase_0 : ((cX11_erase.data.toList.drop 0).take 31).length = 31 ∧ eN (((cX11_erase.data.toList.drop 0).take 31).map UInt8.toNat) = 10608443191585993768461183055979863086212707386917008131689299639627986971 := by decide +kernel
theorem dX11_erase_0 : decode cX11_erase 0 = .ok (.iload_n 1, 1) := dc_27 (bq_nm bk_X11_erase_0 (j := 0) rfl rfl)
theorem dX11_erase_1 : decode cX11_erase 1 = .ok (.invokestatic 166, 3) := dc_184 (bq_nm bk_X11_erase_0 (j := 1) rfl rfl) (bq_nm bk_X11_erase_0 (j := 2) rfl rfl) (bq_nm bk_X11_erase_0 (j := 3) rfl rfl) rfl
theorem dX11_erase_4 : decode cX11_erase 4 = .ok (.ifCond .ne 6, 3) := dc_154 (bq_nm bk_X11_erase_0 (j := 4) rfl rfl) (bq_nm bk_X11_erase_0 (j := 5) rfl rfl) (bq_nm bk_X11_erase_0 (j := 6) rfl rfl) rfl
theorem dX11_erase_7 : decode cX11_erase 7 = .ok (.bipush (-2), 2) := dc_16 (bq_nm bk_X11_erase_0 (j := 7) rfl rfl) (bq_nm bk_X11_erase_0 (j := 8) rfl rfl) rfl
theorem dX11_erase_9 : decode cX11_erase 9 = .ok (.ireturn, 1) := dc_172 (bq_nm bk_X11_erase_0 (j := 9) rfl rfl)
theorem dX11_erase_10 : decode cX11_erase 10 = .ok (.aload_n 0, 1) := dc_42 (bq_nm bk_X11_erase_0 (j := 10) rfl rfl)
theorem dX11_erase_11 : decode cX11_erase 11 = .ok (.getfield 7, 3) := dc_180 (bq_nm bk_X11_erase_0 (j := 11) rfl rfl) (bq_nm bk_X11_erase_0 (j := 12) rfl rfl) (bq_nm bk_X11_erase_0 (j := 13) rfl rfl) rfl
theorem dX11_erase_14 : decode cX11_erase 14 = .ok (.sipush 262, 3) := dc_17 (bq_nm bk_X11_erase_0 (j := 14) rfl rfl) (bq_nm bk_X11_erase_0 (j := 15) rfl rfl) (bq_nm bk_X11_erase_0 (j := 16) rfl rfl) rfl
theorem dX11_erase_17 : decode cX11_erase 17 = .ok (.bipush 51, 2) := dc_16 (bq_nm bk_X11_erase_0 (j := 17) rfl rfl) (bq_nm bk_X11_erase_0 (j := 18) rfl rfl) rfl
theorem dX11_erase_19 : decode cX11_erase 19 = .ok (.iload_n 1, 1) := dc_27 (bq_nm bk_X11_erase_0 (j := 19) rfl rfl)
theorem dX11_erase_20 : decode cX11_erase 20 = .ok (.imul, 1) := dc_104 (bq_nm bk_X11_erase_0 (j := 20) rfl rfl)
theorem dX11_erase_21 : decode cX11_erase 21 = .ok (.iadd, 1) := dc_96 (bq_nm bk_X11_erase_0 (j := 21) rfl rfl)
theorem dX11_erase_22 : decode cX11_erase 22 = .ok (.iaload, 1) := dc_46 (bq_nm bk_X11_erase_0 (j := 22) rfl rfl)
theorem dX11_erase_23 : decode cX11_erase 23 = .ok (.istore_n 2, 1) := dc_61 (bq_nm bk_X11_erase_0 (j := 23) rfl rfl)
theorem dX11_erase_24 : decode cX11_erase 24 = .ok (.aload_n 0, 1) := dc_42 (bq_nm bk_X11_erase_0 (j := 24) rfl rfl)
theorem dX11_erase_25 : decode cX11_erase 25 = .ok (.getfield 7, 3) := dc_180 (bq_nm bk_X11_erase_0 (j := 25) rfl rfl) (bq_nm bk_X11_erase_0 (j := 26) rfl rfl) (bq_nm bk_X11_erase_0 (j := 27) rfl rfl) rfl
theorem dX11_erase_28 : decode cX11_erase 28 = .ok (.sipush 262, 3) := dc_17 (bq_nm bk_X11_erase_0 (j := 28) rfl rfl) (bq_nm bk_X11_erase_0 (j := 29) rfl rfl) (bq_nm bk_X11_erase_0 (j := 30) rfl rfl) rfl
set_option maxRecDepth 20000 in
theorem bk_X11_erase_31 : ((cX11_erase.data.toList.drop 31).take 9).length = 9 ∧ eN (((cX11_erase.data.toList.drop 31).take 9).map UInt8.toNat) = 3174879833546863358736 := by decide +kernel
theorem dX11_erase_31 : decode cX11_erase 31 = .ok (.bipush 51, 2) := dc_16 (bq_nm bk_X11_erase_31 (j := 0) rfl rfl) (bq_nm bk_X11_erase_31 (j := 1) rfl rfl) rfl
theorem dX11_erase_33 : decode cX11_erase 33 = .ok (.iload_n 1, 1) := dc_27 (bq_nm bk_X11_erase_31 (j := 2) rfl rfl)
theorem dX11_erase_34 : decode cX11_erase 34 = .ok (.imul, 1) := dc_104 (bq_nm bk_X11_erase_31 (j := 3) rfl rfl)
theorem dX11_erase_35 : decode cX11_erase 35 = .ok (.iadd, 1) := dc_96 (bq_nm bk_X11_erase_31 (j := 4) rfl rfl)
theorem dX11_erase_36 : decode cX11_erase 36 = .ok (.iconst 0, 1) := dc_3 (bq_nm bk_X11_erase_31 (j := 5) rfl rfl)
theorem dX11_erase_37 : decode cX11_erase 37 = .ok (.iastore, 1) := dc_79 (bq_nm bk_X11_erase_31 (j := 6) rfl rfl)
theorem dX11_erase_38 : decode cX11_erase 38 = .ok (.iload_n 2, 1) := dc_28 (bq_nm bk_X11_erase_31 (j := 7) rfl rfl)
theorem dX11_erase_39 : decode cX11_erase 39 = .ok (.ireturn, 1) := dc_172 (bq_nm bk_X11_erase_31 (j := 8) rfl rfl)
set_option maxRecDepth 20000 in
theorem bk_X11_fault_0 : ((cX11_fault.data.toList.drop 0).take 25).length = 25 ∧ eN (((cX11_fault.data.toList.drop 0).take 25).map UInt8.toNat) = 1085891094731808240320754263912655448415054407452995065264155 := by decide +kernel
theorem dX11_fault_0 : decode cX11_fault 0 = .ok (.iload_n 1, 1) := dc_27 (bq_nm bk_X11_fault_0 (j := 0) rfl rfl)
theorem dX11_fault_1 : decode cX11_fault 1 = .ok (.invokestatic 166, 3) := dc_184 (bq_nm bk_X11_fault_0 (j := 1) rfl rfl) (bq_nm bk_X11_fault_0 (j := 2) rfl rfl) (bq_nm bk_X11_fault_0 (j := 3) rfl rfl) rfl
theorem dX11_fault_4 : decode cX11_fault 4 = .ok (.ifCond .eq 18, 3) := dc_153 (bq_nm bk_X11_fault_0 (j := 4) rfl rfl) (bq_nm bk_X11_fault_0 (j := 5) rfl rfl) (bq_nm bk_X11_fault_0 (j := 6) rfl rfl) rfl
theorem dX11_fault_7 : decode cX11_fault 7 = .ok (.aload_n 0, 1) := dc_42 (bq_nm bk_X11_fault_0 (j := 7) rfl rfl)
theorem dX11_fault_8 : decode cX11_fault 8 = .ok (.sipush 262, 3) := dc_17 (bq_nm bk_X11_fault_0 (j := 8) rfl rfl) (bq_nm bk_X11_fault_0 (j := 9) rfl rfl) (bq_nm bk_X11_fault_0 (j := 10) rfl rfl) rfl
theorem dX11_fault_11 : decode cX11_fault 11 = .ok (.bipush 51, 2) := dc_16 (bq_nm bk_X11_fault_0 (j := 11) rfl rfl) (bq_nm bk_X11_fault_0 (j := 12) rfl rfl) rfl
theorem dX11_fault_13 : decode cX11_fault 13 = .ok (.iload_n 1, 1) := dc_27 (bq_nm bk_X11_fault_0 (j := 13) rfl rfl)
theorem dX11_fault_14 : decode cX11_fault 14 = .ok (.imul, 1) := dc_104 (bq_nm bk_X11_fault_0 (j := 14) rfl rfl)
theorem dX11_fault_15 : decode cX11_fault 15 = .ok (.iadd, 1) := dc_96 (bq_nm bk_X11_fault_0 (j := 15) rfl rfl)
theorem dX11_fault_16 : decode cX11_fault 16 = .ok (.invokevirtual 171, 3) := dc_182 (bq_nm bk_X11_fault_0 (j := 16) rfl rfl) (bq_nm bk_X11_fault_0 (j := 17) rfl rfl) (bq_nm bk_X11_fault_0 (j := 18) rfl rfl) rfl
theorem dX11_fault_19 : decode cX11_fault 19 = .ok (.goto 5, 3) := dc_167 (bq_nm bk_X11_fault_0 (j := 19) rfl rfl) (bq_nm bk_X11_fault_0 (j := 20) rfl rfl) (bq_nm bk_X11_fault_0 (j := 21) rfl rfl) rfl
theorem dX11_fault_22 : decode cX11_fault 22 = .ok (.bipush (-2), 2) := dc_16 (bq_nm bk_X11_fault_0 (j := 22) rfl rfl) (bq_nm bk_X11_fault_0 (j := 23) rfl rfl) rfl
theorem dX11_fault_24 : decode cX11_fault 24 = .ok (.ireturn, 1) := dc_172 (bq_nm bk_X11_fault_0 (j := 24) rfl rfl)
set_option maxRecDepth 20000 in
theorem bk_X11_tells_0 : ((cX11_tells.data.toList.drop 0).take 32).length = 32 ∧ eN (((cX11_tells.data.toList.drop 0).take 32).map UInt8.toNat) = 19308109635103041304997032049937480850037322335329796123233150040936487630875 := by decide +kernel
theorem dX11_tells_0 : decode cX11_tells 0 = .ok (.iload_n 1, 1) := dc_27 (bq_nm bk_X11_tells_0 (j := 0) rfl rfl)
theorem dX11_tells_1 : decode cX11_tells 1 = .ok (.invokestatic 166, 3) := dc_184 (bq_nm bk_X11_tells_0 (j := 1) rfl rfl) (bq_nm bk_X11_tells_0 (j := 2) rfl rfl) (bq_nm bk_X11_tells_0 (j := 3) rfl rfl) rfl
theorem dX11_tells_4 : decode cX11_tells 4 = .ok (.ifCond .eq 19, 3) := dc_153 (bq_nm bk_X11_tells_0 (j := 4) rfl rfl) (bq_nm bk_X11_tells_0 (j := 5) rfl rfl) (bq_nm bk_X11_tells_0 (j := 6) rfl rfl) rfl
theorem dX11_tells_7 : decode cX11_tells 7 = .ok (.aload_n 0, 1) := dc_42 (bq_nm bk_X11_tells_0 (j := 7) rfl rfl)
theorem dX11_tells_8 : decode cX11_tells 8 = .ok (.iconst 0, 1) := dc_3 (bq_nm bk_X11_tells_0 (j := 8) rfl rfl)
theorem dX11_tells_9 : decode cX11_tells 9 = .ok (.iload_n 2, 1) := dc_28 (bq_nm bk_X11_tells_0 (j := 9) rfl rfl)
theorem dX11_tells_10 : decode cX11_tells 10 = .ok (.invokevirtual 87, 3) := dc_182 (bq_nm bk_X11_tells_0 (j := 10) rfl rfl) (bq_nm bk_X11_tells_0 (j := 11) rfl rfl) (bq_nm bk_X11_tells_0 (j := 12) rfl rfl) rfl
theorem dX11_tells_13 : decode cX11_tells 13 = .ok (.ifCond .eq 10, 3) := dc_153 (bq_nm bk_X11_tells_0 (j := 13) rfl rfl) (bq_nm bk_X11_tells_0 (j := 14) rfl rfl) (bq_nm bk_X11_tells_0 (j := 15) rfl rfl) rfl
theorem dX11_tells_16 : decode cX11_tells 16 = .ok (.iload_n 3, 1) := dc_29 (bq_nm bk_X11_tells_0 (j := 16) rfl rfl)
theorem dX11_tells_17 : decode cX11_tells 17 = .ok (.invokestatic 93, 3) := dc_184 (bq_nm bk_X11_tells_0 (j := 17) rfl rfl) (bq_nm bk_X11_tells_0 (j := 18) rfl rfl) (bq_nm bk_X11_tells_0 (j := 19) rfl rfl) rfl
theorem dX11_tells_20 : decode cX11_tells 20 = .ok (.ifCond .ne 7, 3) := dc_154 (bq_nm bk_X11_tells_0 (j := 20) rfl rfl) (bq_nm bk_X11_tells_0 (j := 21) rfl rfl) (bq_nm bk_X11_tells_0 (j := 22) rfl rfl) rfl
theorem dX11_tells_23 : decode cX11_tells 23 = .ok (.ldc2_w 174, 3) := dc_20 (bq_nm bk_X11_tells_0 (j := 23) rfl rfl) (bq_nm bk_X11_tells_0 (j := 24) rfl rfl) (bq_nm bk_X11_tells_0 (j := 25) rfl rfl) rfl
theorem dX11_tells_26 : decode cX11_tells 26 = .ok (.lreturn, 1) := dc_173 (bq_nm bk_X11_tells_0 (j := 26) rfl rfl)
theorem dX11_tells_27 : decode cX11_tells 27 = .ok (.aload_n 0, 1) := dc_42 (bq_nm bk_X11_tells_0 (j := 27) rfl rfl)
theorem dX11_tells_28 : decode cX11_tells 28 = .ok (.invokevirtual 176, 3) := dc_182 (bq_nm bk_X11_tells_0 (j := 28) rfl rfl) (bq_nm bk_X11_tells_0 (j := 29) rfl rfl) (bq_nm bk_X11_tells_0 (j := 30) rfl rfl) rfl
theorem dX11_tells_31 : decode cX11_tells 31 = .ok (.aload_n 0, 1) := dc_42 (bq_nm bk_X11_tells_0 (j := 31) rfl rfl)
set_option maxRecDepth 20000 in
theorem bk_X11_tells_32 : ((cX11_tells.data.toList.drop 32).take 28).length = 28 ∧ eN (((cX11_tells.data.toList.drop 32).take 28).map UInt8.toNat) = 18293486683025469237904377034100050545396664276038965760150598975761 := by decide +kernel
theorem dX11_tells_32 : decode cX11_tells 32 = .ok (.sipush 262, 3) := dc_17 (bq_nm bk_X11_tells_32 (j := 0) rfl rfl) (bq_nm bk_X11_tells_32 (j := 1) rfl rfl) (bq_nm bk_X11_tells_32 (j := 2) rfl rfl) rfl
theorem dX11_tells_35 : decode cX11_tells 35 = .ok (.bipush 51, 2) := dc_16 (bq_nm bk_X11_tells_32 (j := 3) rfl rfl) (bq_nm bk_X11_tells_32 (j := 4) rfl rfl) rfl
theorem dX11_tells_37 : decode cX11_tells 37 = .ok (.iload_n 1, 1) := dc_27 (bq_nm bk_X11_tells_32 (j := 5) rfl rfl)
theorem dX11_tells_38 : decode cX11_tells 38 = .ok (.imul, 1) := dc_104 (bq_nm bk_X11_tells_32 (j := 6) rfl rfl)
theorem dX11_tells_39 : decode cX11_tells 39 = .ok (.iadd, 1) := dc_96 (bq_nm bk_X11_tells_32 (j := 7) rfl rfl)
theorem dX11_tells_40 : decode cX11_tells 40 = .ok (.invokevirtual 171, 3) := dc_182 (bq_nm bk_X11_tells_32 (j := 8) rfl rfl) (bq_nm bk_X11_tells_32 (j := 9) rfl rfl) (bq_nm bk_X11_tells_32 (j := 10) rfl rfl) rfl
theorem dX11_tells_43 : decode cX11_tells 43 = .ok (.iconst (-1), 1) := dc_2 (bq_nm bk_X11_tells_32 (j := 11) rfl rfl)
theorem dX11_tells_44 : decode cX11_tells 44 = .ok (.if_icmp .eq 9, 3) := dc_159 (bq_nm bk_X11_tells_32 (j := 12) rfl rfl) (bq_nm bk_X11_tells_32 (j := 13) rfl rfl) (bq_nm bk_X11_tells_32 (j := 14) rfl rfl) rfl
theorem dX11_tells_47 : decode cX11_tells 47 = .ok (.ldc2_w 179, 3) := dc_20 (bq_nm bk_X11_tells_32 (j := 15) rfl rfl) (bq_nm bk_X11_tells_32 (j := 16) rfl rfl) (bq_nm bk_X11_tells_32 (j := 17) rfl rfl) rfl
theorem dX11_tells_50 : decode cX11_tells 50 = .ok (.goto 9, 3) := dc_167 (bq_nm bk_X11_tells_32 (j := 18) rfl rfl) (bq_nm bk_X11_tells_32 (j := 19) rfl rfl) (bq_nm bk_X11_tells_32 (j := 20) rfl rfl) rfl
theorem dX11_tells_53 : decode cX11_tells 53 = .ok (.aload_n 0, 1) := dc_42 (bq_nm bk_X11_tells_32 (j := 21) rfl rfl)
theorem dX11_tells_54 : decode cX11_tells 54 = .ok (.iload_n 2, 1) := dc_28 (bq_nm bk_X11_tells_32 (j := 22) rfl rfl)
theorem dX11_tells_55 : decode cX11_tells 55 = .ok (.iload_n 3, 1) := dc_29 (bq_nm bk_X11_tells_32 (j := 23) rfl rfl)
theorem dX11_tells_56 : decode cX11_tells 56 = .ok (.invokevirtual 181, 3) := dc_182 (bq_nm bk_X11_tells_32 (j := 24) rfl rfl) (bq_nm bk_X11_tells_32 (j := 25) rfl rfl) (bq_nm bk_X11_tells_32 (j := 26) rfl rfl) rfl
theorem dX11_tells_59 : decode cX11_tells 59 = .ok (.lreturn, 1) := dc_173 (bq_nm bk_X11_tells_32 (j := 27) rfl rfl)
set_option maxRecDepth 20000 in
theorem bk_X11_act_0 : ((cX11_act.data.toList.drop 0).take 31).length = 31 ∧ eN (((cX11_act.data.toList.drop 0).take 31).map UInt8.toNat) = 10608446948391646990424306029110587231809536985536752752062931365036865563 := by decide +kernel
theorem dX11_act_0 : decode cX11_act 0 = .ok (.iload_n 1, 1) := dc_27 (bq_nm bk_X11_act_0 (j := 0) rfl rfl)
theorem dX11_act_1 : decode cX11_act 1 = .ok (.invokestatic 166, 3) := dc_184 (bq_nm bk_X11_act_0 (j := 1) rfl rfl) (bq_nm bk_X11_act_0 (j := 2) rfl rfl) (bq_nm bk_X11_act_0 (j := 3) rfl rfl) rfl
theorem dX11_act_4 : decode cX11_act 4 = .ok (.ifCond .eq 20, 3) := dc_153 (bq_nm bk_X11_act_0 (j := 4) rfl rfl) (bq_nm bk_X11_act_0 (j := 5) rfl rfl) (bq_nm bk_X11_act_0 (j := 6) rfl rfl) rfl
theorem dX11_act_7 : decode cX11_act 7 = .ok (.iload_n 2, 1) := dc_28 (bq_nm bk_X11_act_0 (j := 7) rfl rfl)
theorem dX11_act_8 : decode cX11_act 8 = .ok (.i2l, 1) := dc_133 (bq_nm bk_X11_act_0 (j := 8) rfl rfl)
theorem dX11_act_9 : decode cX11_act 9 = .ok (.lconst 0, 1) := dc_9 (bq_nm bk_X11_act_0 (j := 9) rfl rfl)
theorem dX11_act_10 : decode cX11_act 10 = .ok (.lconst 1, 1) := dc_10 (bq_nm bk_X11_act_0 (j := 10) rfl rfl)
theorem dX11_act_11 : decode cX11_act 11 = .ok (.invokestatic 67, 3) := dc_184 (bq_nm bk_X11_act_0 (j := 11) rfl rfl) (bq_nm bk_X11_act_0 (j := 12) rfl rfl) (bq_nm bk_X11_act_0 (j := 13) rfl rfl) rfl
theorem dX11_act_14 : decode cX11_act 14 = .ok (.ifCond .eq 10, 3) := dc_153 (bq_nm bk_X11_act_0 (j := 14) rfl rfl) (bq_nm bk_X11_act_0 (j := 15) rfl rfl) (bq_nm bk_X11_act_0 (j := 16) rfl rfl) rfl
theorem dX11_act_17 : decode cX11_act 17 = .ok (.iload_n 3, 1) := dc_29 (bq_nm bk_X11_act_0 (j := 17) rfl rfl)
theorem dX11_act_18 : decode cX11_act 18 = .ok (.invokestatic 93, 3) := dc_184 (bq_nm bk_X11_act_0 (j := 18) rfl rfl) (bq_nm bk_X11_act_0 (j := 19) rfl rfl) (bq_nm bk_X11_act_0 (j := 20) rfl rfl) rfl
theorem dX11_act_21 : decode cX11_act 21 = .ok (.ifCond .ne 6, 3) := dc_154 (bq_nm bk_X11_act_0 (j := 21) rfl rfl) (bq_nm bk_X11_act_0 (j := 22) rfl rfl) (bq_nm bk_X11_act_0 (j := 23) rfl rfl) rfl
theorem dX11_act_24 : decode cX11_act 24 = .ok (.bipush (-2), 2) := dc_16 (bq_nm bk_X11_act_0 (j := 24) rfl rfl) (bq_nm bk_X11_act_0 (j := 25) rfl rfl) rfl
theorem dX11_act_26 : decode cX11_act 26 = .ok (.ireturn, 1) := dc_172 (bq_nm bk_X11_act_0 (j := 26) rfl rfl)
theorem dX11_act_27 : decode cX11_act 27 = .ok (.aload_n 0, 1) := dc_42 (bq_nm bk_X11_act_0 (j := 27) rfl rfl)
theorem dX11_act_28 : decode cX11_act 28 = .ok (.sipush 262, 3) := dc_17 (bq_nm bk_X11_act_0 (j := 28) rfl rfl) (bq_nm bk_X11_act_0 (j := 29) rfl rfl) (bq_nm bk_X11_act_0 (j := 30) rfl rfl) rfl
set_option maxRecDepth 20000 in
theorem bk_X11_act_31 : ((cX11_act.data.toList.drop 31).take 32).length = 32 ∧ eN (((cX11_act.data.toList.drop 31).take 32).map UInt8.toNat) = 94987587042894731296481159694618861885217349811558020484913665489800122807056 := by decide +kernel
theorem dX11_act_31 : decode cX11_act 31 = .ok (.bipush 51, 2) := dc_16 (bq_nm bk_X11_act_31 (j := 0) rfl rfl) (bq_nm bk_X11_act_31 (j := 1) rfl rfl) rfl
theorem dX11_act_33 : decode cX11_act 33 = .ok (.iload_n 1, 1) := dc_27 (bq_nm bk_X11_act_31 (j := 2) rfl rfl)
theorem dX11_act_34 : decode cX11_act 34 = .ok (.imul, 1) := dc_104 (bq_nm bk_X11_act_31 (j := 3) rfl rfl)
theorem dX11_act_35 : decode cX11_act 35 = .ok (.iadd, 1) := dc_96 (bq_nm bk_X11_act_31 (j := 4) rfl rfl)
theorem dX11_act_36 : decode cX11_act 36 = .ok (.invokevirtual 171, 3) := dc_182 (bq_nm bk_X11_act_31 (j := 5) rfl rfl) (bq_nm bk_X11_act_31 (j := 6) rfl rfl) (bq_nm bk_X11_act_31 (j := 7) rfl rfl) rfl
theorem dX11_act_39 : decode cX11_act 39 = .ok (.iconst (-1), 1) := dc_2 (bq_nm bk_X11_act_31 (j := 8) rfl rfl)
theorem dX11_act_40 : decode cX11_act 40 = .ok (.if_icmp .eq 6, 3) := dc_159 (bq_nm bk_X11_act_31 (j := 9) rfl rfl) (bq_nm bk_X11_act_31 (j := 10) rfl rfl) (bq_nm bk_X11_act_31 (j := 11) rfl rfl) rfl
theorem dX11_act_43 : decode cX11_act 43 = .ok (.bipush (-3), 2) := dc_16 (bq_nm bk_X11_act_31 (j := 12) rfl rfl) (bq_nm bk_X11_act_31 (j := 13) rfl rfl) rfl
theorem dX11_act_45 : decode cX11_act 45 = .ok (.ireturn, 1) := dc_172 (bq_nm bk_X11_act_31 (j := 14) rfl rfl)
theorem dX11_act_46 : decode cX11_act 46 = .ok (.aload_n 0, 1) := dc_42 (bq_nm bk_X11_act_31 (j := 15) rfl rfl)
theorem dX11_act_47 : decode cX11_act 47 = .ok (.getfield 7, 3) := dc_180 (bq_nm bk_X11_act_31 (j := 16) rfl rfl) (bq_nm bk_X11_act_31 (j := 17) rfl rfl) (bq_nm bk_X11_act_31 (j := 18) rfl rfl) rfl
theorem dX11_act_50 : decode cX11_act 50 = .ok (.iconst 3, 1) := dc_6 (bq_nm bk_X11_act_31 (j := 19) rfl rfl)
theorem dX11_act_51 : decode cX11_act 51 = .ok (.iaload, 1) := dc_46 (bq_nm bk_X11_act_31 (j := 20) rfl rfl)
theorem dX11_act_52 : decode cX11_act 52 = .ok (.bipush 20, 2) := dc_16 (bq_nm bk_X11_act_31 (j := 21) rfl rfl) (bq_nm bk_X11_act_31 (j := 22) rfl rfl) rfl
theorem dX11_act_54 : decode cX11_act 54 = .ok (.if_icmp .ne 6, 3) := dc_160 (bq_nm bk_X11_act_31 (j := 23) rfl rfl) (bq_nm bk_X11_act_31 (j := 24) rfl rfl) (bq_nm bk_X11_act_31 (j := 25) rfl rfl) rfl
theorem dX11_act_57 : decode cX11_act 57 = .ok (.bipush (-4), 2) := dc_16 (bq_nm bk_X11_act_31 (j := 26) rfl rfl) (bq_nm bk_X11_act_31 (j := 27) rfl rfl) rfl
theorem dX11_act_59 : decode cX11_act 59 = .ok (.ireturn, 1) := dc_172 (bq_nm bk_X11_act_31 (j := 28) rfl rfl)
theorem dX11_act_60 : decode cX11_act 60 = .ok (.sipush 466, 3) := dc_17 (bq_nm bk_X11_act_31 (j := 29) rfl rfl) (bq_nm bk_X11_act_31 (j := 30) rfl rfl) (bq_nm bk_X11_act_31 (j := 31) rfl rfl) rfl
set_option maxRecDepth 20000 in
theorem bk_X11_act_63 : ((cX11_act.data.toList.drop 63).take 31).length = 31 ∧ eN (((cX11_act.data.toList.drop 63).take 31).map UInt8.toNat) = 74753606632174008232091402618575396865205721653956857702835507221458728464 := by decide +kernel
theorem dX11_act_63 : decode cX11_act 63 = .ok (.bipush 54, 2) := dc_16 (bq_nm bk_X11_act_63 (j := 0) rfl rfl) (bq_nm bk_X11_act_63 (j := 1) rfl rfl) rfl
theorem dX11_act_65 : decode cX11_act 65 = .ok (.aload_n 0, 1) := dc_42 (bq_nm bk_X11_act_63 (j := 2) rfl rfl)
theorem dX11_act_66 : decode cX11_act 66 = .ok (.getfield 7, 3) := dc_180 (bq_nm bk_X11_act_63 (j := 3) rfl rfl) (bq_nm bk_X11_act_63 (j := 4) rfl rfl) (bq_nm bk_X11_act_63 (j := 5) rfl rfl) rfl
theorem dX11_act_69 : decode cX11_act 69 = .ok (.iconst 3, 1) := dc_6 (bq_nm bk_X11_act_63 (j := 6) rfl rfl)
theorem dX11_act_70 : decode cX11_act 70 = .ok (.iaload, 1) := dc_46 (bq_nm bk_X11_act_63 (j := 7) rfl rfl)
theorem dX11_act_71 : decode cX11_act 71 = .ok (.imul, 1) := dc_104 (bq_nm bk_X11_act_63 (j := 8) rfl rfl)
theorem dX11_act_72 : decode cX11_act 72 = .ok (.iadd, 1) := dc_96 (bq_nm bk_X11_act_63 (j := 9) rfl rfl)
theorem dX11_act_73 : decode cX11_act 73 = .ok (.istore 4, 2) := dc_54 (bq_nm bk_X11_act_63 (j := 10) rfl rfl) (bq_nm bk_X11_act_63 (j := 11) rfl rfl)
theorem dX11_act_75 : decode cX11_act 75 = .ok (.aload_n 0, 1) := dc_42 (bq_nm bk_X11_act_63 (j := 12) rfl rfl)
theorem dX11_act_76 : decode cX11_act 76 = .ok (.getfield 7, 3) := dc_180 (bq_nm bk_X11_act_63 (j := 13) rfl rfl) (bq_nm bk_X11_act_63 (j := 14) rfl rfl) (bq_nm bk_X11_act_63 (j := 15) rfl rfl) rfl
theorem dX11_act_79 : decode cX11_act 79 = .ok (.iload 4, 2) := dc_21 (bq_nm bk_X11_act_63 (j := 16) rfl rfl) (bq_nm bk_X11_act_63 (j := 17) rfl rfl)
theorem dX11_act_81 : decode cX11_act 81 = .ok (.iload_n 2, 1) := dc_28 (bq_nm bk_X11_act_63 (j := 18) rfl rfl)
theorem dX11_act_82 : decode cX11_act 82 = .ok (.iastore, 1) := dc_79 (bq_nm bk_X11_act_63 (j := 19) rfl rfl)
theorem dX11_act_83 : decode cX11_act 83 = .ok (.aload_n 0, 1) := dc_42 (bq_nm bk_X11_act_63 (j := 20) rfl rfl)
theorem dX11_act_84 : decode cX11_act 84 = .ok (.getfield 7, 3) := dc_180 (bq_nm bk_X11_act_63 (j := 21) rfl rfl) (bq_nm bk_X11_act_63 (j := 22) rfl rfl) (bq_nm bk_X11_act_63 (j := 23) rfl rfl) rfl
theorem dX11_act_87 : decode cX11_act 87 = .ok (.iload 4, 2) := dc_21 (bq_nm bk_X11_act_63 (j := 24) rfl rfl) (bq_nm bk_X11_act_63 (j := 25) rfl rfl)
theorem dX11_act_89 : decode cX11_act 89 = .ok (.iconst 1, 1) := dc_4 (bq_nm bk_X11_act_63 (j := 26) rfl rfl)
theorem dX11_act_90 : decode cX11_act 90 = .ok (.iadd, 1) := dc_96 (bq_nm bk_X11_act_63 (j := 27) rfl rfl)
theorem dX11_act_91 : decode cX11_act 91 = .ok (.iload_n 3, 1) := dc_29 (bq_nm bk_X11_act_63 (j := 28) rfl rfl)
theorem dX11_act_92 : decode cX11_act 92 = .ok (.iastore, 1) := dc_79 (bq_nm bk_X11_act_63 (j := 29) rfl rfl)
theorem dX11_act_93 : decode cX11_act 93 = .ok (.aload_n 0, 1) := dc_42 (bq_nm bk_X11_act_63 (j := 30) rfl rfl)
set_option maxRecDepth 20000 in
theorem bk_X11_act_94 : ((cX11_act.data.toList.drop 94).take 31).length = 31 ∧ eN (((cX11_act.data.toList.drop 94).take 31).map UInt8.toNat) = 74870281420777273386962797926395753547536025426921328758332998962072977588 := by decide +kernel
theorem dX11_act_94 : decode cX11_act 94 = .ok (.getfield 7, 3) := dc_180 (bq_nm bk_X11_act_94 (j := 0) rfl rfl) (bq_nm bk_X11_act_94 (j := 1) rfl rfl) (bq_nm bk_X11_act_94 (j := 2) rfl rfl) rfl
theorem dX11_act_97 : decode cX11_act 97 = .ok (.iload 4, 2) := dc_21 (bq_nm bk_X11_act_94 (j := 3) rfl rfl) (bq_nm bk_X11_act_94 (j := 4) rfl rfl)
theorem dX11_act_99 : decode cX11_act 99 = .ok (.iconst 2, 1) := dc_5 (bq_nm bk_X11_act_94 (j := 5) rfl rfl)
theorem dX11_act_100 : decode cX11_act 100 = .ok (.iadd, 1) := dc_96 (bq_nm bk_X11_act_94 (j := 6) rfl rfl)
theorem dX11_act_101 : decode cX11_act 101 = .ok (.iconst (-1), 1) := dc_2 (bq_nm bk_X11_act_94 (j := 7) rfl rfl)
theorem dX11_act_102 : decode cX11_act 102 = .ok (.iastore, 1) := dc_79 (bq_nm bk_X11_act_94 (j := 8) rfl rfl)
theorem dX11_act_103 : decode cX11_act 103 = .ok (.iconst 0, 1) := dc_3 (bq_nm bk_X11_act_94 (j := 9) rfl rfl)
theorem dX11_act_104 : decode cX11_act 104 = .ok (.istore 5, 2) := dc_54 (bq_nm bk_X11_act_94 (j := 10) rfl rfl) (bq_nm bk_X11_act_94 (j := 11) rfl rfl)
theorem dX11_act_106 : decode cX11_act 106 = .ok (.iload 5, 2) := dc_21 (bq_nm bk_X11_act_94 (j := 12) rfl rfl) (bq_nm bk_X11_act_94 (j := 13) rfl rfl)
theorem dX11_act_108 : decode cX11_act 108 = .ok (.bipush 51, 2) := dc_16 (bq_nm bk_X11_act_94 (j := 14) rfl rfl) (bq_nm bk_X11_act_94 (j := 15) rfl rfl) rfl
theorem dX11_act_110 : decode cX11_act 110 = .ok (.if_icmp .ge 37, 3) := dc_162 (bq_nm bk_X11_act_94 (j := 16) rfl rfl) (bq_nm bk_X11_act_94 (j := 17) rfl rfl) (bq_nm bk_X11_act_94 (j := 18) rfl rfl) rfl
theorem dX11_act_113 : decode cX11_act 113 = .ok (.aload_n 0, 1) := dc_42 (bq_nm bk_X11_act_94 (j := 19) rfl rfl)
theorem dX11_act_114 : decode cX11_act 114 = .ok (.getfield 7, 3) := dc_180 (bq_nm bk_X11_act_94 (j := 20) rfl rfl) (bq_nm bk_X11_act_94 (j := 21) rfl rfl) (bq_nm bk_X11_act_94 (j := 22) rfl rfl) rfl
theorem dX11_act_117 : decode cX11_act 117 = .ok (.iload 4, 2) := dc_21 (bq_nm bk_X11_act_94 (j := 23) rfl rfl) (bq_nm bk_X11_act_94 (j := 24) rfl rfl)
theorem dX11_act_119 : decode cX11_act 119 = .ok (.iconst 3, 1) := dc_6 (bq_nm bk_X11_act_94 (j := 25) rfl rfl)
theorem dX11_act_120 : decode cX11_act 120 = .ok (.iadd, 1) := dc_96 (bq_nm bk_X11_act_94 (j := 26) rfl rfl)
theorem dX11_act_121 : decode cX11_act 121 = .ok (.iload 5, 2) := dc_21 (bq_nm bk_X11_act_94 (j := 27) rfl rfl) (bq_nm bk_X11_act_94 (j := 28) rfl rfl)
theorem dX11_act_123 : decode cX11_act 123 = .ok (.iadd, 1) := dc_96 (bq_nm bk_X11_act_94 (j := 29) rfl rfl)
theorem dX11_act_124 : decode cX11_act 124 = .ok (.aload_n 0, 1) := dc_42 (bq_nm bk_X11_act_94 (j := 30) rfl rfl)
set_option maxRecDepth 20000 in
theorem bk_X11_act_125 : ((cX11_act.data.toList.drop 125).take 28).length = 28 ∧ eN (((cX11_act.data.toList.drop 125).take 28).map UInt8.toNat) = 18147859529139991287630131601365681262730878151414627574225262018740 := by decide +kernel
theorem dX11_act_125 : decode cX11_act 125 = .ok (.getfield 7, 3) := dc_180 (bq_nm bk_X11_act_125 (j := 0) rfl rfl) (bq_nm bk_X11_act_125 (j := 1) rfl rfl) (bq_nm bk_X11_act_125 (j := 2) rfl rfl) rfl
theorem dX11_act_128 : decode cX11_act 128 = .ok (.sipush 262, 3) := dc_17 (bq_nm bk_X11_act_125 (j := 3) rfl rfl) (bq_nm bk_X11_act_125 (j := 4) rfl rfl) (bq_nm bk_X11_act_125 (j := 5) rfl rfl) rfl
theorem dX11_act_131 : decode cX11_act 131 = .ok (.bipush 51, 2) := dc_16 (bq_nm bk_X11_act_125 (j := 6) rfl rfl) (bq_nm bk_X11_act_125 (j := 7) rfl rfl) rfl
theorem dX11_act_133 : decode cX11_act 133 = .ok (.iload_n 1, 1) := dc_27 (bq_nm bk_X11_act_125 (j := 8) rfl rfl)
theorem dX11_act_134 : decode cX11_act 134 = .ok (.imul, 1) := dc_104 (bq_nm bk_X11_act_125 (j := 9) rfl rfl)
theorem dX11_act_135 : decode cX11_act 135 = .ok (.iadd, 1) := dc_96 (bq_nm bk_X11_act_125 (j := 10) rfl rfl)
theorem dX11_act_136 : decode cX11_act 136 = .ok (.iload 5, 2) := dc_21 (bq_nm bk_X11_act_125 (j := 11) rfl rfl) (bq_nm bk_X11_act_125 (j := 12) rfl rfl)
theorem dX11_act_138 : decode cX11_act 138 = .ok (.iadd, 1) := dc_96 (bq_nm bk_X11_act_125 (j := 13) rfl rfl)
theorem dX11_act_139 : decode cX11_act 139 = .ok (.iaload, 1) := dc_46 (bq_nm bk_X11_act_125 (j := 14) rfl rfl)
theorem dX11_act_140 : decode cX11_act 140 = .ok (.iastore, 1) := dc_79 (bq_nm bk_X11_act_125 (j := 15) rfl rfl)
theorem dX11_act_141 : decode cX11_act 141 = .ok (.iinc 5 1, 3) := dc_132 (bq_nm bk_X11_act_125 (j := 16) rfl rfl) (bq_nm bk_X11_act_125 (j := 17) rfl rfl) (bq_nm bk_X11_act_125 (j := 18) rfl rfl) rfl
theorem dX11_act_144 : decode cX11_act 144 = .ok (.goto (-38), 3) := dc_167 (bq_nm bk_X11_act_125 (j := 19) rfl rfl) (bq_nm bk_X11_act_125 (j := 20) rfl rfl) (bq_nm bk_X11_act_125 (j := 21) rfl rfl) rfl
theorem dX11_act_147 : decode cX11_act 147 = .ok (.aload_n 0, 1) := dc_42 (bq_nm bk_X11_act_125 (j := 22) rfl rfl)
theorem dX11_act_148 : decode cX11_act 148 = .ok (.iconst 3, 1) := dc_6 (bq_nm bk_X11_act_125 (j := 23) rfl rfl)
theorem dX11_act_149 : decode cX11_act 149 = .ok (.invokevirtual 83, 3) := dc_182 (bq_nm bk_X11_act_125 (j := 24) rfl rfl) (bq_nm bk_X11_act_125 (j := 25) rfl rfl) (bq_nm bk_X11_act_125 (j := 26) rfl rfl) rfl
theorem dX11_act_152 : decode cX11_act 152 = .ok (.ireturn, 1) := dc_172 (bq_nm bk_X11_act_125 (j := 27) rfl rfl)
set_option maxRecDepth 20000 in
theorem bk_X11_strikeOut_0 : ((cX11_strikeOut.data.toList.drop 0).take 32).length = 32 ∧ eN (((cX11_strikeOut.data.toList.drop 0).take 32).map UInt8.toNat) = 3167433393312068525612170278852256576564673061534413206176483352460805211690 := by decide +kernel
theorem dX11_strikeOut_0 : decode cX11_strikeOut 0 = .ok (.aload_n 0, 1) := dc_42 (bq_nm bk_X11_strikeOut_0 (j := 0) rfl rfl)
theorem dX11_strikeOut_1 : decode cX11_strikeOut 1 = .ok (.iconst 3, 1) := dc_6 (bq_nm bk_X11_strikeOut_0 (j := 1) rfl rfl)
theorem dX11_strikeOut_2 : decode cX11_strikeOut 2 = .ok (.iload_n 1, 1) := dc_27 (bq_nm bk_X11_strikeOut_0 (j := 2) rfl rfl)
theorem dX11_strikeOut_3 : decode cX11_strikeOut 3 = .ok (.invokevirtual 87, 3) := dc_182 (bq_nm bk_X11_strikeOut_0 (j := 3) rfl rfl) (bq_nm bk_X11_strikeOut_0 (j := 4) rfl rfl) (bq_nm bk_X11_strikeOut_0 (j := 5) rfl rfl) rfl
theorem dX11_strikeOut_6 : decode cX11_strikeOut 6 = .ok (.ifCond .eq 10, 3) := dc_153 (bq_nm bk_X11_strikeOut_0 (j := 6) rfl rfl) (bq_nm bk_X11_strikeOut_0 (j := 7) rfl rfl) (bq_nm bk_X11_strikeOut_0 (j := 8) rfl rfl) rfl
theorem dX11_strikeOut_9 : decode cX11_strikeOut 9 = .ok (.iload_n 2, 1) := dc_28 (bq_nm bk_X11_strikeOut_0 (j := 9) rfl rfl)
theorem dX11_strikeOut_10 : decode cX11_strikeOut 10 = .ok (.invokestatic 93, 3) := dc_184 (bq_nm bk_X11_strikeOut_0 (j := 10) rfl rfl) (bq_nm bk_X11_strikeOut_0 (j := 11) rfl rfl) (bq_nm bk_X11_strikeOut_0 (j := 12) rfl rfl) rfl
theorem dX11_strikeOut_13 : decode cX11_strikeOut 13 = .ok (.ifCond .ne 6, 3) := dc_154 (bq_nm bk_X11_strikeOut_0 (j := 13) rfl rfl) (bq_nm bk_X11_strikeOut_0 (j := 14) rfl rfl) (bq_nm bk_X11_strikeOut_0 (j := 15) rfl rfl) rfl
theorem dX11_strikeOut_16 : decode cX11_strikeOut 16 = .ok (.bipush (-2), 2) := dc_16 (bq_nm bk_X11_strikeOut_0 (j := 16) rfl rfl) (bq_nm bk_X11_strikeOut_0 (j := 17) rfl rfl) rfl
theorem dX11_strikeOut_18 : decode cX11_strikeOut 18 = .ok (.ireturn, 1) := dc_172 (bq_nm bk_X11_strikeOut_0 (j := 18) rfl rfl)
theorem dX11_strikeOut_19 : decode cX11_strikeOut 19 = .ok (.sipush 466, 3) := dc_17 (bq_nm bk_X11_strikeOut_0 (j := 19) rfl rfl) (bq_nm bk_X11_strikeOut_0 (j := 20) rfl rfl) (bq_nm bk_X11_strikeOut_0 (j := 21) rfl rfl) rfl
theorem dX11_strikeOut_22 : decode cX11_strikeOut 22 = .ok (.bipush 54, 2) := dc_16 (bq_nm bk_X11_strikeOut_0 (j := 22) rfl rfl) (bq_nm bk_X11_strikeOut_0 (j := 23) rfl rfl) rfl
theorem dX11_strikeOut_24 : decode cX11_strikeOut 24 = .ok (.iload_n 1, 1) := dc_27 (bq_nm bk_X11_strikeOut_0 (j := 24) rfl rfl)
theorem dX11_strikeOut_25 : decode cX11_strikeOut 25 = .ok (.imul, 1) := dc_104 (bq_nm bk_X11_strikeOut_0 (j := 25) rfl rfl)
theorem dX11_strikeOut_26 : decode cX11_strikeOut 26 = .ok (.iadd, 1) := dc_96 (bq_nm bk_X11_strikeOut_0 (j := 26) rfl rfl)
theorem dX11_strikeOut_27 : decode cX11_strikeOut 27 = .ok (.istore_n 3, 1) := dc_62 (bq_nm bk_X11_strikeOut_0 (j := 27) rfl rfl)
theorem dX11_strikeOut_28 : decode cX11_strikeOut 28 = .ok (.aload_n 0, 1) := dc_42 (bq_nm bk_X11_strikeOut_0 (j := 28) rfl rfl)
theorem dX11_strikeOut_29 : decode cX11_strikeOut 29 = .ok (.getfield 7, 3) := dc_180 (bq_nm bk_X11_strikeOut_0 (j := 29) rfl rfl) (bq_nm bk_X11_strikeOut_0 (j := 30) rfl rfl) (bq_nm bk_X11_strikeOut_0 (j := 31) rfl rfl) rfl
set_option maxRecDepth 20000 in
theorem bk_X11_strikeOut_32 : ((cX11_strikeOut.data.toList.drop 32).take 27).length = 27 ∧ eN (((cX11_strikeOut.data.toList.drop 32).take 27).map UInt8.toNat) = 70763569408549648302114737061014465519136464182250113140736918813 := by decide +kernel
theorem dX11_strikeOut_32 : decode cX11_strikeOut 32 = .ok (.iload_n 3, 1) := dc_29 (bq_nm bk_X11_strikeOut_32 (j := 0) rfl rfl)
theorem dX11_strikeOut_33 : decode cX11_strikeOut 33 = .ok (.iconst 2, 1) := dc_5 (bq_nm bk_X11_strikeOut_32 (j := 1) rfl rfl)
theorem dX11_strikeOut_34 : decode cX11_strikeOut 34 = .ok (.iadd, 1) := dc_96 (bq_nm bk_X11_strikeOut_32 (j := 2) rfl rfl)
theorem dX11_strikeOut_35 : decode cX11_strikeOut 35 = .ok (.iaload, 1) := dc_46 (bq_nm bk_X11_strikeOut_32 (j := 3) rfl rfl)
theorem dX11_strikeOut_36 : decode cX11_strikeOut 36 = .ok (.iconst (-1), 1) := dc_2 (bq_nm bk_X11_strikeOut_32 (j := 4) rfl rfl)
theorem dX11_strikeOut_37 : decode cX11_strikeOut 37 = .ok (.if_icmp .eq 6, 3) := dc_159 (bq_nm bk_X11_strikeOut_32 (j := 5) rfl rfl) (bq_nm bk_X11_strikeOut_32 (j := 6) rfl rfl) (bq_nm bk_X11_strikeOut_32 (j := 7) rfl rfl) rfl
theorem dX11_strikeOut_40 : decode cX11_strikeOut 40 = .ok (.bipush (-3), 2) := dc_16 (bq_nm bk_X11_strikeOut_32 (j := 8) rfl rfl) (bq_nm bk_X11_strikeOut_32 (j := 9) rfl rfl) rfl
theorem dX11_strikeOut_42 : decode cX11_strikeOut 42 = .ok (.ireturn, 1) := dc_172 (bq_nm bk_X11_strikeOut_32 (j := 10) rfl rfl)
theorem dX11_strikeOut_43 : decode cX11_strikeOut 43 = .ok (.aload_n 0, 1) := dc_42 (bq_nm bk_X11_strikeOut_32 (j := 11) rfl rfl)
theorem dX11_strikeOut_44 : decode cX11_strikeOut 44 = .ok (.getfield 7, 3) := dc_180 (bq_nm bk_X11_strikeOut_32 (j := 12) rfl rfl) (bq_nm bk_X11_strikeOut_32 (j := 13) rfl rfl) (bq_nm bk_X11_strikeOut_32 (j := 14) rfl rfl) rfl
theorem dX11_strikeOut_47 : decode cX11_strikeOut 47 = .ok (.iload_n 3, 1) := dc_29 (bq_nm bk_X11_strikeOut_32 (j := 15) rfl rfl)
theorem dX11_strikeOut_48 : decode cX11_strikeOut 48 = .ok (.iconst 2, 1) := dc_5 (bq_nm bk_X11_strikeOut_32 (j := 16) rfl rfl)
theorem dX11_strikeOut_49 : decode cX11_strikeOut 49 = .ok (.iadd, 1) := dc_96 (bq_nm bk_X11_strikeOut_32 (j := 17) rfl rfl)
theorem dX11_strikeOut_50 : decode cX11_strikeOut 50 = .ok (.iload_n 2, 1) := dc_28 (bq_nm bk_X11_strikeOut_32 (j := 18) rfl rfl)
theorem dX11_strikeOut_51 : decode cX11_strikeOut 51 = .ok (.iastore, 1) := dc_79 (bq_nm bk_X11_strikeOut_32 (j := 19) rfl rfl)
theorem dX11_strikeOut_52 : decode cX11_strikeOut 52 = .ok (.aload_n 0, 1) := dc_42 (bq_nm bk_X11_strikeOut_32 (j := 20) rfl rfl)
theorem dX11_strikeOut_53 : decode cX11_strikeOut 53 = .ok (.iconst 0, 1) := dc_3 (bq_nm bk_X11_strikeOut_32 (j := 21) rfl rfl)
theorem dX11_strikeOut_54 : decode cX11_strikeOut 54 = .ok (.putfield 71, 3) := dc_181 (bq_nm bk_X11_strikeOut_32 (j := 22) rfl rfl) (bq_nm bk_X11_strikeOut_32 (j := 23) rfl rfl) (bq_nm bk_X11_strikeOut_32 (j := 24) rfl rfl) rfl
theorem dX11_strikeOut_57 : decode cX11_strikeOut 57 = .ok (.iconst 1, 1) := dc_4 (bq_nm bk_X11_strikeOut_32 (j := 25) rfl rfl)
theorem dX11_strikeOut_58 : decode cX11_strikeOut 58 = .ok (.ireturn, 1) := dc_172 (bq_nm bk_X11_strikeOut_32 (j := 26) rfl rfl)
set_option maxRecDepth 20000 in
theorem bk_X11_inForce_0 : ((cX11_inForce.data.toList.drop 0).take 31).length = 31 ∧ eN (((cX11_inForce.data.toList.drop 0).take 31).map UInt8.toNat) = 12372786669109288004919693965372902733963333699348461801600155348073922050 := by decide +kernel
theorem dX11_inForce_0 : decode cX11_inForce 0 = .ok (.iconst (-1), 1) := dc_2 (bq_nm bk_X11_inForce_0 (j := 0) rfl rfl)
theorem dX11_inForce_1 : decode cX11_inForce 1 = .ok (.istore_n 3, 1) := dc_62 (bq_nm bk_X11_inForce_0 (j := 1) rfl rfl)
theorem dX11_inForce_2 : decode cX11_inForce 2 = .ok (.iconst 0, 1) := dc_3 (bq_nm bk_X11_inForce_0 (j := 2) rfl rfl)
theorem dX11_inForce_3 : decode cX11_inForce 3 = .ok (.istore 4, 2) := dc_54 (bq_nm bk_X11_inForce_0 (j := 3) rfl rfl) (bq_nm bk_X11_inForce_0 (j := 4) rfl rfl)
theorem dX11_inForce_5 : decode cX11_inForce 5 = .ok (.iload 4, 2) := dc_21 (bq_nm bk_X11_inForce_0 (j := 5) rfl rfl) (bq_nm bk_X11_inForce_0 (j := 6) rfl rfl)
theorem dX11_inForce_7 : decode cX11_inForce 7 = .ok (.aload_n 0, 1) := dc_42 (bq_nm bk_X11_inForce_0 (j := 7) rfl rfl)
theorem dX11_inForce_8 : decode cX11_inForce 8 = .ok (.getfield 7, 3) := dc_180 (bq_nm bk_X11_inForce_0 (j := 8) rfl rfl) (bq_nm bk_X11_inForce_0 (j := 9) rfl rfl) (bq_nm bk_X11_inForce_0 (j := 10) rfl rfl) rfl
theorem dX11_inForce_11 : decode cX11_inForce 11 = .ok (.iconst 3, 1) := dc_6 (bq_nm bk_X11_inForce_0 (j := 11) rfl rfl)
theorem dX11_inForce_12 : decode cX11_inForce 12 = .ok (.iaload, 1) := dc_46 (bq_nm bk_X11_inForce_0 (j := 12) rfl rfl)
theorem dX11_inForce_13 : decode cX11_inForce 13 = .ok (.if_icmp .ge 121, 3) := dc_162 (bq_nm bk_X11_inForce_0 (j := 13) rfl rfl) (bq_nm bk_X11_inForce_0 (j := 14) rfl rfl) (bq_nm bk_X11_inForce_0 (j := 15) rfl rfl) rfl
theorem dX11_inForce_16 : decode cX11_inForce 16 = .ok (.sipush 466, 3) := dc_17 (bq_nm bk_X11_inForce_0 (j := 16) rfl rfl) (bq_nm bk_X11_inForce_0 (j := 17) rfl rfl) (bq_nm bk_X11_inForce_0 (j := 18) rfl rfl) rfl
theorem dX11_inForce_19 : decode cX11_inForce 19 = .ok (.bipush 54, 2) := dc_16 (bq_nm bk_X11_inForce_0 (j := 19) rfl rfl) (bq_nm bk_X11_inForce_0 (j := 20) rfl rfl) rfl
theorem dX11_inForce_21 : decode cX11_inForce 21 = .ok (.iload 4, 2) := dc_21 (bq_nm bk_X11_inForce_0 (j := 21) rfl rfl) (bq_nm bk_X11_inForce_0 (j := 22) rfl rfl)
theorem dX11_inForce_23 : decode cX11_inForce 23 = .ok (.imul, 1) := dc_104 (bq_nm bk_X11_inForce_0 (j := 23) rfl rfl)
theorem dX11_inForce_24 : decode cX11_inForce 24 = .ok (.iadd, 1) := dc_96 (bq_nm bk_X11_inForce_0 (j := 24) rfl rfl)
theorem dX11_inForce_25 : decode cX11_inForce 25 = .ok (.istore 5, 2) := dc_54 (bq_nm bk_X11_inForce_0 (j := 25) rfl rfl) (bq_nm bk_X11_inForce_0 (j := 26) rfl rfl)
theorem dX11_inForce_27 : decode cX11_inForce 27 = .ok (.aload_n 0, 1) := dc_42 (bq_nm bk_X11_inForce_0 (j := 27) rfl rfl)
theorem dX11_inForce_28 : decode cX11_inForce 28 = .ok (.getfield 7, 3) := dc_180 (bq_nm bk_X11_inForce_0 (j := 28) rfl rfl) (bq_nm bk_X11_inForce_0 (j := 29) rfl rfl) (bq_nm bk_X11_inForce_0 (j := 30) rfl rfl) rfl
set_option maxRecDepth 20000 in
theorem bk_X11_inForce_31 : ((cX11_inForce.data.toList.drop 31).take 30).length = 30 ∧ eN (((cX11_inForce.data.toList.drop 31).take 30).map UInt8.toNat) = 15053762285317616211500962824108796384815681428350491163276066291582229 := by decide +kernel
theorem dX11_inForce_31 : decode cX11_inForce 31 = .ok (.iload 5, 2) := dc_21 (bq_nm bk_X11_inForce_31 (j := 0) rfl rfl) (bq_nm bk_X11_inForce_31 (j := 1) rfl rfl)
theorem dX11_inForce_33 : decode cX11_inForce 33 = .ok (.iaload, 1) := dc_46 (bq_nm bk_X11_inForce_31 (j := 2) rfl rfl)
theorem dX11_inForce_34 : decode cX11_inForce 34 = .ok (.iload_n 1, 1) := dc_27 (bq_nm bk_X11_inForce_31 (j := 3) rfl rfl)
theorem dX11_inForce_35 : decode cX11_inForce 35 = .ok (.if_icmp .ne 46, 3) := dc_160 (bq_nm bk_X11_inForce_31 (j := 4) rfl rfl) (bq_nm bk_X11_inForce_31 (j := 5) rfl rfl) (bq_nm bk_X11_inForce_31 (j := 6) rfl rfl) rfl
theorem dX11_inForce_38 : decode cX11_inForce 38 = .ok (.aload_n 0, 1) := dc_42 (bq_nm bk_X11_inForce_31 (j := 7) rfl rfl)
theorem dX11_inForce_39 : decode cX11_inForce 39 = .ok (.getfield 7, 3) := dc_180 (bq_nm bk_X11_inForce_31 (j := 8) rfl rfl) (bq_nm bk_X11_inForce_31 (j := 9) rfl rfl) (bq_nm bk_X11_inForce_31 (j := 10) rfl rfl) rfl
theorem dX11_inForce_42 : decode cX11_inForce 42 = .ok (.iload 5, 2) := dc_21 (bq_nm bk_X11_inForce_31 (j := 11) rfl rfl) (bq_nm bk_X11_inForce_31 (j := 12) rfl rfl)
theorem dX11_inForce_44 : decode cX11_inForce 44 = .ok (.iconst 1, 1) := dc_4 (bq_nm bk_X11_inForce_31 (j := 13) rfl rfl)
theorem dX11_inForce_45 : decode cX11_inForce 45 = .ok (.iadd, 1) := dc_96 (bq_nm bk_X11_inForce_31 (j := 14) rfl rfl)
theorem dX11_inForce_46 : decode cX11_inForce 46 = .ok (.iaload, 1) := dc_46 (bq_nm bk_X11_inForce_31 (j := 15) rfl rfl)
theorem dX11_inForce_47 : decode cX11_inForce 47 = .ok (.iload_n 2, 1) := dc_28 (bq_nm bk_X11_inForce_31 (j := 16) rfl rfl)
theorem dX11_inForce_48 : decode cX11_inForce 48 = .ok (.if_icmp .gt 33, 3) := dc_163 (bq_nm bk_X11_inForce_31 (j := 17) rfl rfl) (bq_nm bk_X11_inForce_31 (j := 18) rfl rfl) (bq_nm bk_X11_inForce_31 (j := 19) rfl rfl) rfl
theorem dX11_inForce_51 : decode cX11_inForce 51 = .ok (.aload_n 0, 1) := dc_42 (bq_nm bk_X11_inForce_31 (j := 20) rfl rfl)
theorem dX11_inForce_52 : decode cX11_inForce 52 = .ok (.getfield 7, 3) := dc_180 (bq_nm bk_X11_inForce_31 (j := 21) rfl rfl) (bq_nm bk_X11_inForce_31 (j := 22) rfl rfl) (bq_nm bk_X11_inForce_31 (j := 23) rfl rfl) rfl
theorem dX11_inForce_55 : decode cX11_inForce 55 = .ok (.iload 5, 2) := dc_21 (bq_nm bk_X11_inForce_31 (j := 24) rfl rfl) (bq_nm bk_X11_inForce_31 (j := 25) rfl rfl)
theorem dX11_inForce_57 : decode cX11_inForce 57 = .ok (.iconst 2, 1) := dc_5 (bq_nm bk_X11_inForce_31 (j := 26) rfl rfl)
theorem dX11_inForce_58 : decode cX11_inForce 58 = .ok (.iadd, 1) := dc_96 (bq_nm bk_X11_inForce_31 (j := 27) rfl rfl)
theorem dX11_inForce_59 : decode cX11_inForce 59 = .ok (.iaload, 1) := dc_46 (bq_nm bk_X11_inForce_31 (j := 28) rfl rfl)
theorem dX11_inForce_60 : decode cX11_inForce 60 = .ok (.iconst (-1), 1) := dc_2 (bq_nm bk_X11_inForce_31 (j := 29) rfl rfl)
set_option maxRecDepth 20000 in
theorem bk_X11_inForce_61 : ((cX11_inForce.data.toList.drop 61).take 30).length = 30 ∧ eN (((cX11_inForce.data.toList.drop 61).take 30).map UInt8.toNat) = 14589543884494937311816368878939512298805443274790804555413223868727455 := by decide +kernel
theorem dX11_inForce_61 : decode cX11_inForce 61 = .ok (.if_icmp .eq 16, 3) := dc_159 (bq_nm bk_X11_inForce_61 (j := 0) rfl rfl) (bq_nm bk_X11_inForce_61 (j := 1) rfl rfl) (bq_nm bk_X11_inForce_61 (j := 2) rfl rfl) rfl
theorem dX11_inForce_64 : decode cX11_inForce 64 = .ok (.aload_n 0, 1) := dc_42 (bq_nm bk_X11_inForce_61 (j := 3) rfl rfl)
theorem dX11_inForce_65 : decode cX11_inForce 65 = .ok (.getfield 7, 3) := dc_180 (bq_nm bk_X11_inForce_61 (j := 4) rfl rfl) (bq_nm bk_X11_inForce_61 (j := 5) rfl rfl) (bq_nm bk_X11_inForce_61 (j := 6) rfl rfl) rfl
theorem dX11_inForce_68 : decode cX11_inForce 68 = .ok (.iload 5, 2) := dc_21 (bq_nm bk_X11_inForce_61 (j := 7) rfl rfl) (bq_nm bk_X11_inForce_61 (j := 8) rfl rfl)
theorem dX11_inForce_70 : decode cX11_inForce 70 = .ok (.iconst 2, 1) := dc_5 (bq_nm bk_X11_inForce_61 (j := 9) rfl rfl)
theorem dX11_inForce_71 : decode cX11_inForce 71 = .ok (.iadd, 1) := dc_96 (bq_nm bk_X11_inForce_61 (j := 10) rfl rfl)
theorem dX11_inForce_72 : decode cX11_inForce 72 = .ok (.iaload, 1) := dc_46 (bq_nm bk_X11_inForce_61 (j := 11) rfl rfl)
theorem dX11_inForce_73 : decode cX11_inForce 73 = .ok (.iload_n 2, 1) := dc_28 (bq_nm bk_X11_inForce_61 (j := 12) rfl rfl)
theorem dX11_inForce_74 : decode cX11_inForce 74 = .ok (.if_icmp .le 7, 3) := dc_164 (bq_nm bk_X11_inForce_61 (j := 13) rfl rfl) (bq_nm bk_X11_inForce_61 (j := 14) rfl rfl) (bq_nm bk_X11_inForce_61 (j := 15) rfl rfl) rfl
theorem dX11_inForce_77 : decode cX11_inForce 77 = .ok (.iconst 1, 1) := dc_4 (bq_nm bk_X11_inForce_61 (j := 16) rfl rfl)
theorem dX11_inForce_78 : decode cX11_inForce 78 = .ok (.goto 4, 3) := dc_167 (bq_nm bk_X11_inForce_61 (j := 17) rfl rfl) (bq_nm bk_X11_inForce_61 (j := 18) rfl rfl) (bq_nm bk_X11_inForce_61 (j := 19) rfl rfl) rfl
theorem dX11_inForce_81 : decode cX11_inForce 81 = .ok (.iconst 0, 1) := dc_3 (bq_nm bk_X11_inForce_61 (j := 20) rfl rfl)
theorem dX11_inForce_82 : decode cX11_inForce 82 = .ok (.istore 6, 2) := dc_54 (bq_nm bk_X11_inForce_61 (j := 21) rfl rfl) (bq_nm bk_X11_inForce_61 (j := 22) rfl rfl)
theorem dX11_inForce_84 : decode cX11_inForce 84 = .ok (.iload 6, 2) := dc_21 (bq_nm bk_X11_inForce_61 (j := 23) rfl rfl) (bq_nm bk_X11_inForce_61 (j := 24) rfl rfl)
theorem dX11_inForce_86 : decode cX11_inForce 86 = .ok (.ifCond .eq 40, 3) := dc_153 (bq_nm bk_X11_inForce_61 (j := 25) rfl rfl) (bq_nm bk_X11_inForce_61 (j := 26) rfl rfl) (bq_nm bk_X11_inForce_61 (j := 27) rfl rfl) rfl
theorem dX11_inForce_89 : decode cX11_inForce 89 = .ok (.iload_n 3, 1) := dc_29 (bq_nm bk_X11_inForce_61 (j := 28) rfl rfl)
theorem dX11_inForce_90 : decode cX11_inForce 90 = .ok (.iconst (-1), 1) := dc_2 (bq_nm bk_X11_inForce_61 (j := 29) rfl rfl)
set_option maxRecDepth 20000 in
theorem bk_X11_inForce_91 : ((cX11_inForce.data.toList.drop 91).take 32).length = 32 ∧ eN (((cX11_inForce.data.toList.drop 91).take 32).map UInt8.toNat) = 1846410413638542503496287399776912377858751759041061368972940392273431888031 := by decide +kernel
theorem dX11_inForce_91 : decode cX11_inForce 91 = .ok (.if_icmp .eq 30, 3) := dc_159 (bq_nm bk_X11_inForce_91 (j := 0) rfl rfl) (bq_nm bk_X11_inForce_91 (j := 1) rfl rfl) (bq_nm bk_X11_inForce_91 (j := 2) rfl rfl) rfl
theorem dX11_inForce_94 : decode cX11_inForce 94 = .ok (.aload_n 0, 1) := dc_42 (bq_nm bk_X11_inForce_91 (j := 3) rfl rfl)
theorem dX11_inForce_95 : decode cX11_inForce 95 = .ok (.getfield 7, 3) := dc_180 (bq_nm bk_X11_inForce_91 (j := 4) rfl rfl) (bq_nm bk_X11_inForce_91 (j := 5) rfl rfl) (bq_nm bk_X11_inForce_91 (j := 6) rfl rfl) rfl
theorem dX11_inForce_98 : decode cX11_inForce 98 = .ok (.iload 5, 2) := dc_21 (bq_nm bk_X11_inForce_91 (j := 7) rfl rfl) (bq_nm bk_X11_inForce_91 (j := 8) rfl rfl)
theorem dX11_inForce_100 : decode cX11_inForce 100 = .ok (.iconst 1, 1) := dc_4 (bq_nm bk_X11_inForce_91 (j := 9) rfl rfl)
theorem dX11_inForce_101 : decode cX11_inForce 101 = .ok (.iadd, 1) := dc_96 (bq_nm bk_X11_inForce_91 (j := 10) rfl rfl)
theorem dX11_inForce_102 : decode cX11_inForce 102 = .ok (.iaload, 1) := dc_46 (bq_nm bk_X11_inForce_91 (j := 11) rfl rfl)
theorem dX11_inForce_103 : decode cX11_inForce 103 = .ok (.aload_n 0, 1) := dc_42 (bq_nm bk_X11_inForce_91 (j := 12) rfl rfl)
theorem dX11_inForce_104 : decode cX11_inForce 104 = .ok (.getfield 7, 3) := dc_180 (bq_nm bk_X11_inForce_91 (j := 13) rfl rfl) (bq_nm bk_X11_inForce_91 (j := 14) rfl rfl) (bq_nm bk_X11_inForce_91 (j := 15) rfl rfl) rfl
theorem dX11_inForce_107 : decode cX11_inForce 107 = .ok (.sipush 466, 3) := dc_17 (bq_nm bk_X11_inForce_91 (j := 16) rfl rfl) (bq_nm bk_X11_inForce_91 (j := 17) rfl rfl) (bq_nm bk_X11_inForce_91 (j := 18) rfl rfl) rfl
theorem dX11_inForce_110 : decode cX11_inForce 110 = .ok (.bipush 54, 2) := dc_16 (bq_nm bk_X11_inForce_91 (j := 19) rfl rfl) (bq_nm bk_X11_inForce_91 (j := 20) rfl rfl) rfl
theorem dX11_inForce_112 : decode cX11_inForce 112 = .ok (.iload_n 3, 1) := dc_29 (bq_nm bk_X11_inForce_91 (j := 21) rfl rfl)
theorem dX11_inForce_113 : decode cX11_inForce 113 = .ok (.imul, 1) := dc_104 (bq_nm bk_X11_inForce_91 (j := 22) rfl rfl)
theorem dX11_inForce_114 : decode cX11_inForce 114 = .ok (.iadd, 1) := dc_96 (bq_nm bk_X11_inForce_91 (j := 23) rfl rfl)
theorem dX11_inForce_115 : decode cX11_inForce 115 = .ok (.iconst 1, 1) := dc_4 (bq_nm bk_X11_inForce_91 (j := 24) rfl rfl)
theorem dX11_inForce_116 : decode cX11_inForce 116 = .ok (.iadd, 1) := dc_96 (bq_nm bk_X11_inForce_91 (j := 25) rfl rfl)
theorem dX11_inForce_117 : decode cX11_inForce 117 = .ok (.iaload, 1) := dc_46 (bq_nm bk_X11_inForce_91 (j := 26) rfl rfl)
theorem dX11_inForce_118 : decode cX11_inForce 118 = .ok (.if_icmp .lt 8, 3) := dc_161 (bq_nm bk_X11_inForce_91 (j := 27) rfl rfl) (bq_nm bk_X11_inForce_91 (j := 28) rfl rfl) (bq_nm bk_X11_inForce_91 (j := 29) rfl rfl) rfl
theorem dX11_inForce_121 : decode cX11_inForce 121 = .ok (.iload 4, 2) := dc_21 (bq_nm bk_X11_inForce_91 (j := 30) rfl rfl) (bq_nm bk_X11_inForce_91 (j := 31) rfl rfl)
set_option maxRecDepth 20000 in
theorem bk_X11_inForce_123 : ((cX11_inForce.data.toList.drop 123).take 13).length = 13 ∧ eN (((cX11_inForce.data.toList.drop 123).take 13).map UInt8.toNat) = 13636377385378967695840568934567 := by decide +kernel
theorem dX11_inForce_123 : decode cX11_inForce 123 = .ok (.goto 4, 3) := dc_167 (bq_nm bk_X11_inForce_123 (j := 0) rfl rfl) (bq_nm bk_X11_inForce_123 (j := 1) rfl rfl) (bq_nm bk_X11_inForce_123 (j := 2) rfl rfl) rfl
theorem dX11_inForce_126 : decode cX11_inForce 126 = .ok (.iload_n 3, 1) := dc_29 (bq_nm bk_X11_inForce_123 (j := 3) rfl rfl)
theorem dX11_inForce_127 : decode cX11_inForce 127 = .ok (.istore_n 3, 1) := dc_62 (bq_nm bk_X11_inForce_123 (j := 4) rfl rfl)
theorem dX11_inForce_128 : decode cX11_inForce 128 = .ok (.iinc 4 1, 3) := dc_132 (bq_nm bk_X11_inForce_123 (j := 5) rfl rfl) (bq_nm bk_X11_inForce_123 (j := 6) rfl rfl) (bq_nm bk_X11_inForce_123 (j := 7) rfl rfl) rfl
theorem dX11_inForce_131 : decode cX11_inForce 131 = .ok (.goto (-126), 3) := dc_167 (bq_nm bk_X11_inForce_123 (j := 8) rfl rfl) (bq_nm bk_X11_inForce_123 (j := 9) rfl rfl) (bq_nm bk_X11_inForce_123 (j := 10) rfl rfl) rfl
theorem dX11_inForce_134 : decode cX11_inForce 134 = .ok (.iload_n 3, 1) := dc_29 (bq_nm bk_X11_inForce_123 (j := 11) rfl rfl)
theorem dX11_inForce_135 : decode cX11_inForce 135 = .ok (.ireturn, 1) := dc_172 (bq_nm bk_X11_inForce_123 (j := 12) rfl rfl)
set_option maxRecDepth 20000 in
theorem bk_X11_force_0 : ((cX11_force.data.toList.drop 0).take 29).length = 29 ∧ eN (((cX11_force.data.toList.drop 0).take 29).map UInt8.toNat) = 4663866738890755624054156443973755681217764227968558393922696570832155 := by decide +kernel
theorem dX11_force_0 : decode cX11_force 0 = .ok (.iload_n 1, 1) := dc_27 (bq_nm bk_X11_force_0 (j := 0) rfl rfl)
theorem dX11_force_1 : decode cX11_force 1 = .ok (.i2l, 1) := dc_133 (bq_nm bk_X11_force_0 (j := 1) rfl rfl)
theorem dX11_force_2 : decode cX11_force 2 = .ok (.lconst 0, 1) := dc_9 (bq_nm bk_X11_force_0 (j := 2) rfl rfl)
theorem dX11_force_3 : decode cX11_force 3 = .ok (.lconst 1, 1) := dc_10 (bq_nm bk_X11_force_0 (j := 3) rfl rfl)
theorem dX11_force_4 : decode cX11_force 4 = .ok (.invokestatic 67, 3) := dc_184 (bq_nm bk_X11_force_0 (j := 4) rfl rfl) (bq_nm bk_X11_force_0 (j := 5) rfl rfl) (bq_nm bk_X11_force_0 (j := 6) rfl rfl) rfl
theorem dX11_force_7 : decode cX11_force 7 = .ok (.ifCond .eq 19, 3) := dc_153 (bq_nm bk_X11_force_0 (j := 7) rfl rfl) (bq_nm bk_X11_force_0 (j := 8) rfl rfl) (bq_nm bk_X11_force_0 (j := 9) rfl rfl) rfl
theorem dX11_force_10 : decode cX11_force 10 = .ok (.iload_n 2, 1) := dc_28 (bq_nm bk_X11_force_0 (j := 10) rfl rfl)
theorem dX11_force_11 : decode cX11_force 11 = .ok (.invokestatic 93, 3) := dc_184 (bq_nm bk_X11_force_0 (j := 11) rfl rfl) (bq_nm bk_X11_force_0 (j := 12) rfl rfl) (bq_nm bk_X11_force_0 (j := 13) rfl rfl) rfl
theorem dX11_force_14 : decode cX11_force 14 = .ok (.ifCond .eq 12, 3) := dc_153 (bq_nm bk_X11_force_0 (j := 14) rfl rfl) (bq_nm bk_X11_force_0 (j := 15) rfl rfl) (bq_nm bk_X11_force_0 (j := 16) rfl rfl) rfl
theorem dX11_force_17 : decode cX11_force 17 = .ok (.aload_n 0, 1) := dc_42 (bq_nm bk_X11_force_0 (j := 17) rfl rfl)
theorem dX11_force_18 : decode cX11_force 18 = .ok (.iload_n 1, 1) := dc_27 (bq_nm bk_X11_force_0 (j := 18) rfl rfl)
theorem dX11_force_19 : decode cX11_force 19 = .ok (.iload_n 2, 1) := dc_28 (bq_nm bk_X11_force_0 (j := 19) rfl rfl)
theorem dX11_force_20 : decode cX11_force 20 = .ok (.invokevirtual 185, 3) := dc_182 (bq_nm bk_X11_force_0 (j := 20) rfl rfl) (bq_nm bk_X11_force_0 (j := 21) rfl rfl) (bq_nm bk_X11_force_0 (j := 22) rfl rfl) rfl
theorem dX11_force_23 : decode cX11_force 23 = .ok (.goto 5, 3) := dc_167 (bq_nm bk_X11_force_0 (j := 23) rfl rfl) (bq_nm bk_X11_force_0 (j := 24) rfl rfl) (bq_nm bk_X11_force_0 (j := 25) rfl rfl) rfl
theorem dX11_force_26 : decode cX11_force 26 = .ok (.bipush (-2), 2) := dc_16 (bq_nm bk_X11_force_0 (j := 26) rfl rfl) (bq_nm bk_X11_force_0 (j := 27) rfl rfl) rfl
theorem dX11_force_28 : decode cX11_force 28 = .ok (.ireturn, 1) := dc_172 (bq_nm bk_X11_force_0 (j := 28) rfl rfl)
set_option maxRecDepth 20000 in
theorem bk_X11_whom_0 : ((cX11_whom.data.toList.drop 0).take 31).length = 31 ∧ eN (((cX11_whom.data.toList.drop 0).take 31).map UInt8.toNat) = 3582023204780282013343502770925784681679669037962532290890782842854054698 := by decide +kernel
theorem dX11_whom_0 : decode cX11_whom 0 = .ok (.aload_n 0, 1) := dc_42 (bq_nm bk_X11_whom_0 (j := 0) rfl rfl)
theorem dX11_whom_1 : decode cX11_whom 1 = .ok (.iload_n 1, 1) := dc_27 (bq_nm bk_X11_whom_0 (j := 1) rfl rfl)
theorem dX11_whom_2 : decode cX11_whom 2 = .ok (.iload_n 2, 1) := dc_28 (bq_nm bk_X11_whom_0 (j := 2) rfl rfl)
theorem dX11_whom_3 : decode cX11_whom 3 = .ok (.invokevirtual 185, 3) := dc_182 (bq_nm bk_X11_whom_0 (j := 3) rfl rfl) (bq_nm bk_X11_whom_0 (j := 4) rfl rfl) (bq_nm bk_X11_whom_0 (j := 5) rfl rfl) rfl
theorem dX11_whom_6 : decode cX11_whom 6 = .ok (.istore 4, 2) := dc_54 (bq_nm bk_X11_whom_0 (j := 6) rfl rfl) (bq_nm bk_X11_whom_0 (j := 7) rfl rfl)
theorem dX11_whom_8 : decode cX11_whom 8 = .ok (.iload_n 3, 1) := dc_29 (bq_nm bk_X11_whom_0 (j := 8) rfl rfl)
theorem dX11_whom_9 : decode cX11_whom 9 = .ok (.iconst (-1), 1) := dc_2 (bq_nm bk_X11_whom_0 (j := 9) rfl rfl)
theorem dX11_whom_10 : decode cX11_whom 10 = .ok (.if_icmp .eq 14, 3) := dc_159 (bq_nm bk_X11_whom_0 (j := 10) rfl rfl) (bq_nm bk_X11_whom_0 (j := 11) rfl rfl) (bq_nm bk_X11_whom_0 (j := 12) rfl rfl) rfl
theorem dX11_whom_13 : decode cX11_whom 13 = .ok (.sipush 262, 3) := dc_17 (bq_nm bk_X11_whom_0 (j := 13) rfl rfl) (bq_nm bk_X11_whom_0 (j := 14) rfl rfl) (bq_nm bk_X11_whom_0 (j := 15) rfl rfl) rfl
theorem dX11_whom_16 : decode cX11_whom 16 = .ok (.bipush 51, 2) := dc_16 (bq_nm bk_X11_whom_0 (j := 16) rfl rfl) (bq_nm bk_X11_whom_0 (j := 17) rfl rfl) rfl
theorem dX11_whom_18 : decode cX11_whom 18 = .ok (.iload_n 3, 1) := dc_29 (bq_nm bk_X11_whom_0 (j := 18) rfl rfl)
theorem dX11_whom_19 : decode cX11_whom 19 = .ok (.imul, 1) := dc_104 (bq_nm bk_X11_whom_0 (j := 19) rfl rfl)
theorem dX11_whom_20 : decode cX11_whom 20 = .ok (.iadd, 1) := dc_96 (bq_nm bk_X11_whom_0 (j := 20) rfl rfl)
theorem dX11_whom_21 : decode cX11_whom 21 = .ok (.goto 24, 3) := dc_167 (bq_nm bk_X11_whom_0 (j := 21) rfl rfl) (bq_nm bk_X11_whom_0 (j := 22) rfl rfl) (bq_nm bk_X11_whom_0 (j := 23) rfl rfl) rfl
theorem dX11_whom_24 : decode cX11_whom 24 = .ok (.iload 4, 2) := dc_21 (bq_nm bk_X11_whom_0 (j := 24) rfl rfl) (bq_nm bk_X11_whom_0 (j := 25) rfl rfl)
theorem dX11_whom_26 : decode cX11_whom 26 = .ok (.iconst (-1), 1) := dc_2 (bq_nm bk_X11_whom_0 (j := 26) rfl rfl)
theorem dX11_whom_27 : decode cX11_whom 27 = .ok (.if_icmp .ne 7, 3) := dc_160 (bq_nm bk_X11_whom_0 (j := 27) rfl rfl) (bq_nm bk_X11_whom_0 (j := 28) rfl rfl) (bq_nm bk_X11_whom_0 (j := 29) rfl rfl) rfl
theorem dX11_whom_30 : decode cX11_whom 30 = .ok (.iconst (-1), 1) := dc_2 (bq_nm bk_X11_whom_0 (j := 30) rfl rfl)
set_option maxRecDepth 20000 in
theorem bk_X11_whom_31 : ((cX11_whom.data.toList.drop 31).take 30).length = 30 ∧ eN (((cX11_whom.data.toList.drop 31).take 30).map UInt8.toNat) = 669488579769639375765489828055915292981000227644372039883068633504415911 := by decide +kernel
theorem dX11_whom_31 : decode cX11_whom 31 = .ok (.goto 14, 3) := dc_167 (bq_nm bk_X11_whom_31 (j := 0) rfl rfl) (bq_nm bk_X11_whom_31 (j := 1) rfl rfl) (bq_nm bk_X11_whom_31 (j := 2) rfl rfl) rfl
theorem dX11_whom_34 : decode cX11_whom 34 = .ok (.sipush 466, 3) := dc_17 (bq_nm bk_X11_whom_31 (j := 3) rfl rfl) (bq_nm bk_X11_whom_31 (j := 4) rfl rfl) (bq_nm bk_X11_whom_31 (j := 5) rfl rfl) rfl
theorem dX11_whom_37 : decode cX11_whom 37 = .ok (.bipush 54, 2) := dc_16 (bq_nm bk_X11_whom_31 (j := 6) rfl rfl) (bq_nm bk_X11_whom_31 (j := 7) rfl rfl) rfl
theorem dX11_whom_39 : decode cX11_whom 39 = .ok (.iload 4, 2) := dc_21 (bq_nm bk_X11_whom_31 (j := 8) rfl rfl) (bq_nm bk_X11_whom_31 (j := 9) rfl rfl)
theorem dX11_whom_41 : decode cX11_whom 41 = .ok (.imul, 1) := dc_104 (bq_nm bk_X11_whom_31 (j := 10) rfl rfl)
theorem dX11_whom_42 : decode cX11_whom 42 = .ok (.iadd, 1) := dc_96 (bq_nm bk_X11_whom_31 (j := 11) rfl rfl)
theorem dX11_whom_43 : decode cX11_whom 43 = .ok (.iconst 3, 1) := dc_6 (bq_nm bk_X11_whom_31 (j := 12) rfl rfl)
theorem dX11_whom_44 : decode cX11_whom 44 = .ok (.iadd, 1) := dc_96 (bq_nm bk_X11_whom_31 (j := 13) rfl rfl)
theorem dX11_whom_45 : decode cX11_whom 45 = .ok (.istore 5, 2) := dc_54 (bq_nm bk_X11_whom_31 (j := 14) rfl rfl) (bq_nm bk_X11_whom_31 (j := 15) rfl rfl)
theorem dX11_whom_47 : decode cX11_whom 47 = .ok (.iload 5, 2) := dc_21 (bq_nm bk_X11_whom_31 (j := 16) rfl rfl) (bq_nm bk_X11_whom_31 (j := 17) rfl rfl)
theorem dX11_whom_49 : decode cX11_whom 49 = .ok (.iconst (-1), 1) := dc_2 (bq_nm bk_X11_whom_31 (j := 18) rfl rfl)
theorem dX11_whom_50 : decode cX11_whom 50 = .ok (.if_icmp .ne 16, 3) := dc_160 (bq_nm bk_X11_whom_31 (j := 19) rfl rfl) (bq_nm bk_X11_whom_31 (j := 20) rfl rfl) (bq_nm bk_X11_whom_31 (j := 21) rfl rfl) rfl
theorem dX11_whom_53 : decode cX11_whom 53 = .ok (.iload_n 1, 1) := dc_27 (bq_nm bk_X11_whom_31 (j := 22) rfl rfl)
theorem dX11_whom_54 : decode cX11_whom 54 = .ok (.ifCond .ne 10, 3) := dc_154 (bq_nm bk_X11_whom_31 (j := 23) rfl rfl) (bq_nm bk_X11_whom_31 (j := 24) rfl rfl) (bq_nm bk_X11_whom_31 (j := 25) rfl rfl) rfl
theorem dX11_whom_57 : decode cX11_whom 57 = .ok (.aload_n 0, 1) := dc_42 (bq_nm bk_X11_whom_31 (j := 26) rfl rfl)
theorem dX11_whom_58 : decode cX11_whom 58 = .ok (.invokevirtual 97, 3) := dc_182 (bq_nm bk_X11_whom_31 (j := 27) rfl rfl) (bq_nm bk_X11_whom_31 (j := 28) rfl rfl) (bq_nm bk_X11_whom_31 (j := 29) rfl rfl) rfl
set_option maxRecDepth 20000 in
theorem bk_X11_whom_61 : ((cX11_whom.data.toList.drop 61).take 32).length = 32 ∧ eN (((cX11_whom.data.toList.drop 61).take 32).map UInt8.toNat) = 19007886576264044775342960533959860050381938344577888714605634061362429952167 := by decide +kernel
theorem dX11_whom_61 : decode cX11_whom 61 = .ok (.goto 4, 3) := dc_167 (bq_nm bk_X11_whom_61 (j := 0) rfl rfl) (bq_nm bk_X11_whom_61 (j := 1) rfl rfl) (bq_nm bk_X11_whom_61 (j := 2) rfl rfl) rfl
theorem dX11_whom_64 : decode cX11_whom 64 = .ok (.iconst 0, 1) := dc_3 (bq_nm bk_X11_whom_61 (j := 3) rfl rfl)
theorem dX11_whom_65 : decode cX11_whom 65 = .ok (.ireturn, 1) := dc_172 (bq_nm bk_X11_whom_61 (j := 4) rfl rfl)
theorem dX11_whom_66 : decode cX11_whom 66 = .ok (.aload_n 0, 1) := dc_42 (bq_nm bk_X11_whom_61 (j := 5) rfl rfl)
theorem dX11_whom_67 : decode cX11_whom 67 = .ok (.iload 5, 2) := dc_21 (bq_nm bk_X11_whom_61 (j := 6) rfl rfl) (bq_nm bk_X11_whom_61 (j := 7) rfl rfl)
theorem dX11_whom_69 : decode cX11_whom 69 = .ok (.invokevirtual 171, 3) := dc_182 (bq_nm bk_X11_whom_61 (j := 8) rfl rfl) (bq_nm bk_X11_whom_61 (j := 9) rfl rfl) (bq_nm bk_X11_whom_61 (j := 10) rfl rfl) rfl
theorem dX11_whom_72 : decode cX11_whom 72 = .ok (.pop, 1) := dc_87 (bq_nm bk_X11_whom_61 (j := 11) rfl rfl)
theorem dX11_whom_73 : decode cX11_whom 73 = .ok (.iconst 0, 1) := dc_3 (bq_nm bk_X11_whom_61 (j := 12) rfl rfl)
theorem dX11_whom_74 : decode cX11_whom 74 = .ok (.istore 6, 2) := dc_54 (bq_nm bk_X11_whom_61 (j := 13) rfl rfl) (bq_nm bk_X11_whom_61 (j := 14) rfl rfl)
theorem dX11_whom_76 : decode cX11_whom 76 = .ok (.iconst 0, 1) := dc_3 (bq_nm bk_X11_whom_61 (j := 15) rfl rfl)
theorem dX11_whom_77 : decode cX11_whom 77 = .ok (.istore 7, 2) := dc_54 (bq_nm bk_X11_whom_61 (j := 16) rfl rfl) (bq_nm bk_X11_whom_61 (j := 17) rfl rfl)
theorem dX11_whom_79 : decode cX11_whom 79 = .ok (.iload 7, 2) := dc_21 (bq_nm bk_X11_whom_61 (j := 18) rfl rfl) (bq_nm bk_X11_whom_61 (j := 19) rfl rfl)
theorem dX11_whom_81 : decode cX11_whom 81 = .ok (.aload_n 0, 1) := dc_42 (bq_nm bk_X11_whom_61 (j := 20) rfl rfl)
theorem dX11_whom_82 : decode cX11_whom 82 = .ok (.getfield 7, 3) := dc_180 (bq_nm bk_X11_whom_61 (j := 21) rfl rfl) (bq_nm bk_X11_whom_61 (j := 22) rfl rfl) (bq_nm bk_X11_whom_61 (j := 23) rfl rfl) rfl
theorem dX11_whom_85 : decode cX11_whom 85 = .ok (.iconst 0, 1) := dc_3 (bq_nm bk_X11_whom_61 (j := 24) rfl rfl)
theorem dX11_whom_86 : decode cX11_whom 86 = .ok (.iaload, 1) := dc_46 (bq_nm bk_X11_whom_61 (j := 25) rfl rfl)
theorem dX11_whom_87 : decode cX11_whom 87 = .ok (.if_icmp .ge 34, 3) := dc_162 (bq_nm bk_X11_whom_61 (j := 26) rfl rfl) (bq_nm bk_X11_whom_61 (j := 27) rfl rfl) (bq_nm bk_X11_whom_61 (j := 28) rfl rfl) rfl
theorem dX11_whom_90 : decode cX11_whom 90 = .ok (.iload 6, 2) := dc_21 (bq_nm bk_X11_whom_61 (j := 29) rfl rfl) (bq_nm bk_X11_whom_61 (j := 30) rfl rfl)
theorem dX11_whom_92 : decode cX11_whom 92 = .ok (.aload_n 0, 1) := dc_42 (bq_nm bk_X11_whom_61 (j := 31) rfl rfl)
set_option maxRecDepth 20000 in
theorem bk_X11_whom_93 : ((cX11_whom.data.toList.drop 93).take 31).length = 31 ∧ eN (((cX11_whom.data.toList.drop 93).take 31).map UInt8.toNat) = 303939694736779430955401765376104599463037634998621202634700593476205807381 := by decide +kernel
theorem dX11_whom_93 : decode cX11_whom 93 = .ok (.iload 7, 2) := dc_21 (bq_nm bk_X11_whom_93 (j := 0) rfl rfl) (bq_nm bk_X11_whom_93 (j := 1) rfl rfl)
theorem dX11_whom_95 : decode cX11_whom 95 = .ok (.iload_n 2, 1) := dc_28 (bq_nm bk_X11_whom_93 (j := 2) rfl rfl)
theorem dX11_whom_96 : decode cX11_whom 96 = .ok (.invokevirtual 181, 3) := dc_182 (bq_nm bk_X11_whom_93 (j := 3) rfl rfl) (bq_nm bk_X11_whom_93 (j := 4) rfl rfl) (bq_nm bk_X11_whom_93 (j := 5) rfl rfl) rfl
theorem dX11_whom_99 : decode cX11_whom 99 = .ok (.lconst 0, 1) := dc_9 (bq_nm bk_X11_whom_93 (j := 6) rfl rfl)
theorem dX11_whom_100 : decode cX11_whom 100 = .ok (.lcmp, 1) := dc_148 (bq_nm bk_X11_whom_93 (j := 7) rfl rfl)
theorem dX11_whom_101 : decode cX11_whom 101 = .ok (.ifCond .eq 10, 3) := dc_153 (bq_nm bk_X11_whom_93 (j := 8) rfl rfl) (bq_nm bk_X11_whom_93 (j := 9) rfl rfl) (bq_nm bk_X11_whom_93 (j := 10) rfl rfl) rfl
theorem dX11_whom_104 : decode cX11_whom 104 = .ok (.iconst 1, 1) := dc_4 (bq_nm bk_X11_whom_93 (j := 11) rfl rfl)
theorem dX11_whom_105 : decode cX11_whom 105 = .ok (.iload 7, 2) := dc_21 (bq_nm bk_X11_whom_93 (j := 12) rfl rfl) (bq_nm bk_X11_whom_93 (j := 13) rfl rfl)
theorem dX11_whom_107 : decode cX11_whom 107 = .ok (.ishl, 1) := dc_120 (bq_nm bk_X11_whom_93 (j := 14) rfl rfl)
theorem dX11_whom_108 : decode cX11_whom 108 = .ok (.goto 4, 3) := dc_167 (bq_nm bk_X11_whom_93 (j := 15) rfl rfl) (bq_nm bk_X11_whom_93 (j := 16) rfl rfl) (bq_nm bk_X11_whom_93 (j := 17) rfl rfl) rfl
theorem dX11_whom_111 : decode cX11_whom 111 = .ok (.iconst 0, 1) := dc_3 (bq_nm bk_X11_whom_93 (j := 18) rfl rfl)
theorem dX11_whom_112 : decode cX11_whom 112 = .ok (.ior, 1) := dc_128 (bq_nm bk_X11_whom_93 (j := 19) rfl rfl)
theorem dX11_whom_113 : decode cX11_whom 113 = .ok (.istore 6, 2) := dc_54 (bq_nm bk_X11_whom_93 (j := 20) rfl rfl) (bq_nm bk_X11_whom_93 (j := 21) rfl rfl)
theorem dX11_whom_115 : decode cX11_whom 115 = .ok (.iinc 7 1, 3) := dc_132 (bq_nm bk_X11_whom_93 (j := 22) rfl rfl) (bq_nm bk_X11_whom_93 (j := 23) rfl rfl) (bq_nm bk_X11_whom_93 (j := 24) rfl rfl) rfl
theorem dX11_whom_118 : decode cX11_whom 118 = .ok (.goto (-39), 3) := dc_167 (bq_nm bk_X11_whom_93 (j := 25) rfl rfl) (bq_nm bk_X11_whom_93 (j := 26) rfl rfl) (bq_nm bk_X11_whom_93 (j := 27) rfl rfl) rfl
theorem dX11_whom_121 : decode cX11_whom 121 = .ok (.iload 6, 2) := dc_21 (bq_nm bk_X11_whom_93 (j := 28) rfl rfl) (bq_nm bk_X11_whom_93 (j := 29) rfl rfl)
theorem dX11_whom_123 : decode cX11_whom 123 = .ok (.ireturn, 1) := dc_172 (bq_nm bk_X11_whom_93 (j := 30) rfl rfl)
set_option maxRecDepth 20000 in
theorem bk_X11_may_0 : ((cX11_may.data.toList.drop 0).take 30).length = 30 ∧ eN (((cX11_may.data.toList.drop 0).take 30).map UInt8.toNat) = 294537213305701042679348598792298310557482906074765057694634381175096106 := by decide +kernel
theorem dX11_may_0 : decode cX11_may 0 = .ok (.aload_n 0, 1) := dc_42 (bq_nm bk_X11_may_0 (j := 0) rfl rfl)
theorem dX11_may_1 : decode cX11_may 1 = .ok (.iconst 0, 1) := dc_3 (bq_nm bk_X11_may_0 (j := 1) rfl rfl)
theorem dX11_may_2 : decode cX11_may 2 = .ok (.iload_n 1, 1) := dc_27 (bq_nm bk_X11_may_0 (j := 2) rfl rfl)
theorem dX11_may_3 : decode cX11_may 3 = .ok (.invokevirtual 87, 3) := dc_182 (bq_nm bk_X11_may_0 (j := 3) rfl rfl) (bq_nm bk_X11_may_0 (j := 4) rfl rfl) (bq_nm bk_X11_may_0 (j := 5) rfl rfl) rfl
theorem dX11_may_6 : decode cX11_may 6 = .ok (.ifCond .eq 20, 3) := dc_153 (bq_nm bk_X11_may_0 (j := 6) rfl rfl) (bq_nm bk_X11_may_0 (j := 7) rfl rfl) (bq_nm bk_X11_may_0 (j := 8) rfl rfl) rfl
theorem dX11_may_9 : decode cX11_may 9 = .ok (.iload_n 2, 1) := dc_28 (bq_nm bk_X11_may_0 (j := 9) rfl rfl)
theorem dX11_may_10 : decode cX11_may 10 = .ok (.invokestatic 93, 3) := dc_184 (bq_nm bk_X11_may_0 (j := 10) rfl rfl) (bq_nm bk_X11_may_0 (j := 11) rfl rfl) (bq_nm bk_X11_may_0 (j := 12) rfl rfl) rfl
theorem dX11_may_13 : decode cX11_may 13 = .ok (.ifCond .eq 13, 3) := dc_153 (bq_nm bk_X11_may_0 (j := 13) rfl rfl) (bq_nm bk_X11_may_0 (j := 14) rfl rfl) (bq_nm bk_X11_may_0 (j := 15) rfl rfl) rfl
theorem dX11_may_16 : decode cX11_may 16 = .ok (.iload_n 3, 1) := dc_29 (bq_nm bk_X11_may_0 (j := 16) rfl rfl)
theorem dX11_may_17 : decode cX11_may 17 = .ok (.i2l, 1) := dc_133 (bq_nm bk_X11_may_0 (j := 17) rfl rfl)
theorem dX11_may_18 : decode cX11_may 18 = .ok (.lconst 0, 1) := dc_9 (bq_nm bk_X11_may_0 (j := 18) rfl rfl)
theorem dX11_may_19 : decode cX11_may 19 = .ok (.lconst 1, 1) := dc_10 (bq_nm bk_X11_may_0 (j := 19) rfl rfl)
theorem dX11_may_20 : decode cX11_may 20 = .ok (.invokestatic 67, 3) := dc_184 (bq_nm bk_X11_may_0 (j := 20) rfl rfl) (bq_nm bk_X11_may_0 (j := 21) rfl rfl) (bq_nm bk_X11_may_0 (j := 22) rfl rfl) rfl
theorem dX11_may_23 : decode cX11_may 23 = .ok (.ifCond .ne 6, 3) := dc_154 (bq_nm bk_X11_may_0 (j := 23) rfl rfl) (bq_nm bk_X11_may_0 (j := 24) rfl rfl) (bq_nm bk_X11_may_0 (j := 25) rfl rfl) rfl
theorem dX11_may_26 : decode cX11_may 26 = .ok (.bipush (-2), 2) := dc_16 (bq_nm bk_X11_may_0 (j := 26) rfl rfl) (bq_nm bk_X11_may_0 (j := 27) rfl rfl) rfl
theorem dX11_may_28 : decode cX11_may 28 = .ok (.ireturn, 1) := dc_172 (bq_nm bk_X11_may_0 (j := 28) rfl rfl)
theorem dX11_may_29 : decode cX11_may 29 = .ok (.aload_n 0, 1) := dc_42 (bq_nm bk_X11_may_0 (j := 29) rfl rfl)
set_option maxRecDepth 20000 in
theorem bk_X11_may_30 : ((cX11_may.data.toList.drop 30).take 15).length = 15 ∧ eN (((cX11_may.data.toList.drop 30).take 15).map UInt8.toNat) = 895630997981400532985561938356338870 := by decide +kernel
theorem dX11_may_30 : decode cX11_may 30 = .ok (.invokevirtual 176, 3) := dc_182 (bq_nm bk_X11_may_30 (j := 0) rfl rfl) (bq_nm bk_X11_may_30 (j := 1) rfl rfl) (bq_nm bk_X11_may_30 (j := 2) rfl rfl) rfl
theorem dX11_may_33 : decode cX11_may 33 = .ok (.aload_n 0, 1) := dc_42 (bq_nm bk_X11_may_30 (j := 3) rfl rfl)
theorem dX11_may_34 : decode cX11_may 34 = .ok (.iload_n 3, 1) := dc_29 (bq_nm bk_X11_may_30 (j := 4) rfl rfl)
theorem dX11_may_35 : decode cX11_may 35 = .ok (.iload_n 2, 1) := dc_28 (bq_nm bk_X11_may_30 (j := 5) rfl rfl)
theorem dX11_may_36 : decode cX11_may 36 = .ok (.iconst (-1), 1) := dc_2 (bq_nm bk_X11_may_30 (j := 6) rfl rfl)
theorem dX11_may_37 : decode cX11_may 37 = .ok (.invokevirtual 188, 3) := dc_182 (bq_nm bk_X11_may_30 (j := 7) rfl rfl) (bq_nm bk_X11_may_30 (j := 8) rfl rfl) (bq_nm bk_X11_may_30 (j := 9) rfl rfl) rfl
theorem dX11_may_40 : decode cX11_may 40 = .ok (.iload_n 1, 1) := dc_27 (bq_nm bk_X11_may_30 (j := 10) rfl rfl)
theorem dX11_may_41 : decode cX11_may 41 = .ok (.ishr, 1) := dc_122 (bq_nm bk_X11_may_30 (j := 11) rfl rfl)
theorem dX11_may_42 : decode cX11_may 42 = .ok (.iconst 1, 1) := dc_4 (bq_nm bk_X11_may_30 (j := 12) rfl rfl)
theorem dX11_may_43 : decode cX11_may 43 = .ok (.iand, 1) := dc_126 (bq_nm bk_X11_may_30 (j := 13) rfl rfl)
theorem dX11_may_44 : decode cX11_may 44 = .ok (.ireturn, 1) := dc_172 (bq_nm bk_X11_may_30 (j := 14) rfl rfl)
set_option maxRecDepth 20000 in
theorem bk_X11_ofTrial_0 : ((cX11_ofTrial.data.toList.drop 0).take 16).length = 16 ∧ eN (((cX11_ofTrial.data.toList.drop 0).take 16).map UInt8.toNat) = 228868010290045050087736637928557818922 := by decide +kernel
theorem dX11_ofTrial_0 : decode cX11_ofTrial 0 = .ok (.aload_n 0, 1) := dc_42 (bq_nm bk_X11_ofTrial_0 (j := 0) rfl rfl)
theorem dX11_ofTrial_1 : decode cX11_ofTrial 1 = .ok (.getfield 7, 3) := dc_180 (bq_nm bk_X11_ofTrial_0 (j := 1) rfl rfl) (bq_nm bk_X11_ofTrial_0 (j := 2) rfl rfl) (bq_nm bk_X11_ofTrial_0 (j := 3) rfl rfl) rfl
theorem dX11_ofTrial_4 : decode cX11_ofTrial 4 = .ok (.sipush 1546, 3) := dc_17 (bq_nm bk_X11_ofTrial_0 (j := 4) rfl rfl) (bq_nm bk_X11_ofTrial_0 (j := 5) rfl rfl) (bq_nm bk_X11_ofTrial_0 (j := 6) rfl rfl) rfl
theorem dX11_ofTrial_7 : decode cX11_ofTrial 7 = .ok (.bipush 10, 2) := dc_16 (bq_nm bk_X11_ofTrial_0 (j := 7) rfl rfl) (bq_nm bk_X11_ofTrial_0 (j := 8) rfl rfl) rfl
theorem dX11_ofTrial_9 : decode cX11_ofTrial 9 = .ok (.iload_n 1, 1) := dc_27 (bq_nm bk_X11_ofTrial_0 (j := 9) rfl rfl)
theorem dX11_ofTrial_10 : decode cX11_ofTrial 10 = .ok (.imul, 1) := dc_104 (bq_nm bk_X11_ofTrial_0 (j := 10) rfl rfl)
theorem dX11_ofTrial_11 : decode cX11_ofTrial 11 = .ok (.iadd, 1) := dc_96 (bq_nm bk_X11_ofTrial_0 (j := 11) rfl rfl)
theorem dX11_ofTrial_12 : decode cX11_ofTrial 12 = .ok (.iload_n 2, 1) := dc_28 (bq_nm bk_X11_ofTrial_0 (j := 12) rfl rfl)
theorem dX11_ofTrial_13 : decode cX11_ofTrial 13 = .ok (.iadd, 1) := dc_96 (bq_nm bk_X11_ofTrial_0 (j := 13) rfl rfl)
theorem dX11_ofTrial_14 : decode cX11_ofTrial 14 = .ok (.iaload, 1) := dc_46 (bq_nm bk_X11_ofTrial_0 (j := 14) rfl rfl)
theorem dX11_ofTrial_15 : decode cX11_ofTrial 15 = .ok (.ireturn, 1) := dc_172 (bq_nm bk_X11_ofTrial_0 (j := 15) rfl rfl)
set_option maxRecDepth 20000 in
theorem bk_X11_trial_0 : ((cX11_trial.data.toList.drop 0).take 32).length = 32 ∧ eN (((cX11_trial.data.toList.drop 0).take 32).map UInt8.toNat) = 4561150935451269779146448644521964217257461755678753263900438014049516565546 := by decide +kernel
theorem dX11_trial_0 : decode cX11_trial 0 = .ok (.aload_n 0, 1) := dc_42 (bq_nm bk_X11_trial_0 (j := 0) rfl rfl)
theorem dX11_trial_1 : decode cX11_trial 1 = .ok (.getfield 7, 3) := dc_180 (bq_nm bk_X11_trial_0 (j := 1) rfl rfl) (bq_nm bk_X11_trial_0 (j := 2) rfl rfl) (bq_nm bk_X11_trial_0 (j := 3) rfl rfl) rfl
theorem dX11_trial_4 : decode cX11_trial 4 = .ok (.iconst 4, 1) := dc_7 (bq_nm bk_X11_trial_0 (j := 4) rfl rfl)
theorem dX11_trial_5 : decode cX11_trial 5 = .ok (.iaload, 1) := dc_46 (bq_nm bk_X11_trial_0 (j := 5) rfl rfl)
theorem dX11_trial_6 : decode cX11_trial 6 = .ok (.ifCond .ne 7, 3) := dc_154 (bq_nm bk_X11_trial_0 (j := 6) rfl rfl) (bq_nm bk_X11_trial_0 (j := 7) rfl rfl) (bq_nm bk_X11_trial_0 (j := 8) rfl rfl) rfl
theorem dX11_trial_9 : decode cX11_trial 9 = .ok (.iconst 0, 1) := dc_3 (bq_nm bk_X11_trial_0 (j := 9) rfl rfl)
theorem dX11_trial_10 : decode cX11_trial 10 = .ok (.goto 16, 3) := dc_167 (bq_nm bk_X11_trial_0 (j := 10) rfl rfl) (bq_nm bk_X11_trial_0 (j := 11) rfl rfl) (bq_nm bk_X11_trial_0 (j := 12) rfl rfl) rfl
theorem dX11_trial_13 : decode cX11_trial 13 = .ok (.aload_n 0, 1) := dc_42 (bq_nm bk_X11_trial_0 (j := 13) rfl rfl)
theorem dX11_trial_14 : decode cX11_trial 14 = .ok (.aload_n 0, 1) := dc_42 (bq_nm bk_X11_trial_0 (j := 14) rfl rfl)
theorem dX11_trial_15 : decode cX11_trial 15 = .ok (.getfield 7, 3) := dc_180 (bq_nm bk_X11_trial_0 (j := 15) rfl rfl) (bq_nm bk_X11_trial_0 (j := 16) rfl rfl) (bq_nm bk_X11_trial_0 (j := 17) rfl rfl) rfl
theorem dX11_trial_18 : decode cX11_trial 18 = .ok (.iconst 4, 1) := dc_7 (bq_nm bk_X11_trial_0 (j := 18) rfl rfl)
theorem dX11_trial_19 : decode cX11_trial 19 = .ok (.iaload, 1) := dc_46 (bq_nm bk_X11_trial_0 (j := 19) rfl rfl)
theorem dX11_trial_20 : decode cX11_trial 20 = .ok (.iconst 1, 1) := dc_4 (bq_nm bk_X11_trial_0 (j := 20) rfl rfl)
theorem dX11_trial_21 : decode cX11_trial 21 = .ok (.isub, 1) := dc_100 (bq_nm bk_X11_trial_0 (j := 21) rfl rfl)
theorem dX11_trial_22 : decode cX11_trial 22 = .ok (.iconst 0, 1) := dc_3 (bq_nm bk_X11_trial_0 (j := 22) rfl rfl)
theorem dX11_trial_23 : decode cX11_trial 23 = .ok (.invokevirtual 149, 3) := dc_182 (bq_nm bk_X11_trial_0 (j := 23) rfl rfl) (bq_nm bk_X11_trial_0 (j := 24) rfl rfl) (bq_nm bk_X11_trial_0 (j := 25) rfl rfl) rfl
theorem dX11_trial_26 : decode cX11_trial 26 = .ok (.istore 10, 2) := dc_54 (bq_nm bk_X11_trial_0 (j := 26) rfl rfl) (bq_nm bk_X11_trial_0 (j := 27) rfl rfl)
theorem dX11_trial_28 : decode cX11_trial 28 = .ok (.iload_n 1, 1) := dc_27 (bq_nm bk_X11_trial_0 (j := 28) rfl rfl)
theorem dX11_trial_29 : decode cX11_trial 29 = .ok (.i2l, 1) := dc_133 (bq_nm bk_X11_trial_0 (j := 29) rfl rfl)
theorem dX11_trial_30 : decode cX11_trial 30 = .ok (.iload 10, 2) := dc_21 (bq_nm bk_X11_trial_0 (j := 30) rfl rfl) (bq_nm bk_X11_trial_0 (j := 31) rfl rfl)
set_option maxRecDepth 20000 in
theorem bk_X11_trial_32 : ((cX11_trial.data.toList.drop 32).take 31).length = 31 ∧ eN (((cX11_trial.data.toList.drop 32).take 31).map UInt8.toNat) = 118383734190330710958645867378579536935198247478586144802021786535942165637 := by decide +kernel
theorem dX11_trial_32 : decode cX11_trial 32 = .ok (.i2l, 1) := dc_133 (bq_nm bk_X11_trial_32 (j := 0) rfl rfl)
theorem dX11_trial_33 : decode cX11_trial 33 = .ok (.ldc2_w 75, 3) := dc_20 (bq_nm bk_X11_trial_32 (j := 1) rfl rfl) (bq_nm bk_X11_trial_32 (j := 2) rfl rfl) (bq_nm bk_X11_trial_32 (j := 3) rfl rfl) rfl
theorem dX11_trial_36 : decode cX11_trial 36 = .ok (.invokestatic 67, 3) := dc_184 (bq_nm bk_X11_trial_32 (j := 4) rfl rfl) (bq_nm bk_X11_trial_32 (j := 5) rfl rfl) (bq_nm bk_X11_trial_32 (j := 6) rfl rfl) rfl
theorem dX11_trial_39 : decode cX11_trial 39 = .ok (.ifCond .eq 98, 3) := dc_153 (bq_nm bk_X11_trial_32 (j := 7) rfl rfl) (bq_nm bk_X11_trial_32 (j := 8) rfl rfl) (bq_nm bk_X11_trial_32 (j := 9) rfl rfl) rfl
theorem dX11_trial_42 : decode cX11_trial 42 = .ok (.iload_n 2, 1) := dc_28 (bq_nm bk_X11_trial_32 (j := 10) rfl rfl)
theorem dX11_trial_43 : decode cX11_trial 43 = .ok (.i2l, 1) := dc_133 (bq_nm bk_X11_trial_32 (j := 11) rfl rfl)
theorem dX11_trial_44 : decode cX11_trial 44 = .ok (.lconst 1, 1) := dc_10 (bq_nm bk_X11_trial_32 (j := 12) rfl rfl)
theorem dX11_trial_45 : decode cX11_trial 45 = .ok (.ldc2_w 91, 3) := dc_20 (bq_nm bk_X11_trial_32 (j := 13) rfl rfl) (bq_nm bk_X11_trial_32 (j := 14) rfl rfl) (bq_nm bk_X11_trial_32 (j := 15) rfl rfl) rfl
theorem dX11_trial_48 : decode cX11_trial 48 = .ok (.invokestatic 67, 3) := dc_184 (bq_nm bk_X11_trial_32 (j := 16) rfl rfl) (bq_nm bk_X11_trial_32 (j := 17) rfl rfl) (bq_nm bk_X11_trial_32 (j := 18) rfl rfl) rfl
theorem dX11_trial_51 : decode cX11_trial 51 = .ok (.ifCond .eq 86, 3) := dc_153 (bq_nm bk_X11_trial_32 (j := 19) rfl rfl) (bq_nm bk_X11_trial_32 (j := 20) rfl rfl) (bq_nm bk_X11_trial_32 (j := 21) rfl rfl) rfl
theorem dX11_trial_54 : decode cX11_trial 54 = .ok (.iload_n 3, 1) := dc_29 (bq_nm bk_X11_trial_32 (j := 22) rfl rfl)
theorem dX11_trial_55 : decode cX11_trial 55 = .ok (.i2l, 1) := dc_133 (bq_nm bk_X11_trial_32 (j := 23) rfl rfl)
theorem dX11_trial_56 : decode cX11_trial 56 = .ok (.lconst 1, 1) := dc_10 (bq_nm bk_X11_trial_32 (j := 24) rfl rfl)
theorem dX11_trial_57 : decode cX11_trial 57 = .ok (.ldc2_w 192, 3) := dc_20 (bq_nm bk_X11_trial_32 (j := 25) rfl rfl) (bq_nm bk_X11_trial_32 (j := 26) rfl rfl) (bq_nm bk_X11_trial_32 (j := 27) rfl rfl) rfl
theorem dX11_trial_60 : decode cX11_trial 60 = .ok (.invokestatic 67, 3) := dc_184 (bq_nm bk_X11_trial_32 (j := 28) rfl rfl) (bq_nm bk_X11_trial_32 (j := 29) rfl rfl) (bq_nm bk_X11_trial_32 (j := 30) rfl rfl) rfl
set_option maxRecDepth 20000 in
theorem bk_X11_trial_63 : ((cX11_trial.data.toList.drop 63).take 30).length = 30 ∧ eN (((cX11_trial.data.toList.drop 63).take 30).map UInt8.toNat) = 462436420131993766246462397168805028858551762953716010338172093648732313 := by decide +kernel
theorem dX11_trial_63 : decode cX11_trial 63 = .ok (.ifCond .eq 74, 3) := dc_153 (bq_nm bk_X11_trial_63 (j := 0) rfl rfl) (bq_nm bk_X11_trial_63 (j := 1) rfl rfl) (bq_nm bk_X11_trial_63 (j := 2) rfl rfl) rfl
theorem dX11_trial_66 : decode cX11_trial 66 = .ok (.iload 4, 2) := dc_21 (bq_nm bk_X11_trial_63 (j := 3) rfl rfl) (bq_nm bk_X11_trial_63 (j := 4) rfl rfl)
theorem dX11_trial_68 : decode cX11_trial 68 = .ok (.i2l, 1) := dc_133 (bq_nm bk_X11_trial_63 (j := 5) rfl rfl)
theorem dX11_trial_69 : decode cX11_trial 69 = .ok (.ldc2_w 194, 3) := dc_20 (bq_nm bk_X11_trial_63 (j := 6) rfl rfl) (bq_nm bk_X11_trial_63 (j := 7) rfl rfl) (bq_nm bk_X11_trial_63 (j := 8) rfl rfl) rfl
theorem dX11_trial_72 : decode cX11_trial 72 = .ok (.ldc2_w 91, 3) := dc_20 (bq_nm bk_X11_trial_63 (j := 9) rfl rfl) (bq_nm bk_X11_trial_63 (j := 10) rfl rfl) (bq_nm bk_X11_trial_63 (j := 11) rfl rfl) rfl
theorem dX11_trial_75 : decode cX11_trial 75 = .ok (.invokestatic 67, 3) := dc_184 (bq_nm bk_X11_trial_63 (j := 12) rfl rfl) (bq_nm bk_X11_trial_63 (j := 13) rfl rfl) (bq_nm bk_X11_trial_63 (j := 14) rfl rfl) rfl
theorem dX11_trial_78 : decode cX11_trial 78 = .ok (.ifCond .eq 59, 3) := dc_153 (bq_nm bk_X11_trial_63 (j := 15) rfl rfl) (bq_nm bk_X11_trial_63 (j := 16) rfl rfl) (bq_nm bk_X11_trial_63 (j := 17) rfl rfl) rfl
theorem dX11_trial_81 : decode cX11_trial 81 = .ok (.iload 5, 2) := dc_21 (bq_nm bk_X11_trial_63 (j := 18) rfl rfl) (bq_nm bk_X11_trial_63 (j := 19) rfl rfl)
theorem dX11_trial_83 : decode cX11_trial 83 = .ok (.i2l, 1) := dc_133 (bq_nm bk_X11_trial_63 (j := 20) rfl rfl)
theorem dX11_trial_84 : decode cX11_trial 84 = .ok (.ldc2_w 194, 3) := dc_20 (bq_nm bk_X11_trial_63 (j := 21) rfl rfl) (bq_nm bk_X11_trial_63 (j := 22) rfl rfl) (bq_nm bk_X11_trial_63 (j := 23) rfl rfl) rfl
theorem dX11_trial_87 : decode cX11_trial 87 = .ok (.ldc2_w 91, 3) := dc_20 (bq_nm bk_X11_trial_63 (j := 24) rfl rfl) (bq_nm bk_X11_trial_63 (j := 25) rfl rfl) (bq_nm bk_X11_trial_63 (j := 26) rfl rfl) rfl
theorem dX11_trial_90 : decode cX11_trial 90 = .ok (.invokestatic 67, 3) := dc_184 (bq_nm bk_X11_trial_63 (j := 27) rfl rfl) (bq_nm bk_X11_trial_63 (j := 28) rfl rfl) (bq_nm bk_X11_trial_63 (j := 29) rfl rfl) rfl
set_option maxRecDepth 20000 in
theorem bk_X11_trial_93 : ((cX11_trial.data.toList.drop 93).take 31).length = 31 ∧ eN (((cX11_trial.data.toList.drop 93).take 31).map UInt8.toNat) = 28273684964514672028555823971838611890676915633618119081767783646335074457 := by decide +kernel
theorem dX11_trial_93 : decode cX11_trial 93 = .ok (.ifCond .eq 44, 3) := dc_153 (bq_nm bk_X11_trial_93 (j := 0) rfl rfl) (bq_nm bk_X11_trial_93 (j := 1) rfl rfl) (bq_nm bk_X11_trial_93 (j := 2) rfl rfl) rfl
theorem dX11_trial_96 : decode cX11_trial 96 = .ok (.iload 6, 2) := dc_21 (bq_nm bk_X11_trial_93 (j := 3) rfl rfl) (bq_nm bk_X11_trial_93 (j := 4) rfl rfl)
theorem dX11_trial_98 : decode cX11_trial 98 = .ok (.i2l, 1) := dc_133 (bq_nm bk_X11_trial_93 (j := 5) rfl rfl)
theorem dX11_trial_99 : decode cX11_trial 99 = .ok (.ldc2_w 194, 3) := dc_20 (bq_nm bk_X11_trial_93 (j := 6) rfl rfl) (bq_nm bk_X11_trial_93 (j := 7) rfl rfl) (bq_nm bk_X11_trial_93 (j := 8) rfl rfl) rfl
theorem dX11_trial_102 : decode cX11_trial 102 = .ok (.ldc2_w 77, 3) := dc_20 (bq_nm bk_X11_trial_93 (j := 9) rfl rfl) (bq_nm bk_X11_trial_93 (j := 10) rfl rfl) (bq_nm bk_X11_trial_93 (j := 11) rfl rfl) rfl
theorem dX11_trial_105 : decode cX11_trial 105 = .ok (.invokestatic 67, 3) := dc_184 (bq_nm bk_X11_trial_93 (j := 12) rfl rfl) (bq_nm bk_X11_trial_93 (j := 13) rfl rfl) (bq_nm bk_X11_trial_93 (j := 14) rfl rfl) rfl
theorem dX11_trial_108 : decode cX11_trial 108 = .ok (.ifCond .eq 29, 3) := dc_153 (bq_nm bk_X11_trial_93 (j := 15) rfl rfl) (bq_nm bk_X11_trial_93 (j := 16) rfl rfl) (bq_nm bk_X11_trial_93 (j := 17) rfl rfl) rfl
theorem dX11_trial_111 : decode cX11_trial 111 = .ok (.iload 7, 2) := dc_21 (bq_nm bk_X11_trial_93 (j := 18) rfl rfl) (bq_nm bk_X11_trial_93 (j := 19) rfl rfl)
theorem dX11_trial_113 : decode cX11_trial 113 = .ok (.i2l, 1) := dc_133 (bq_nm bk_X11_trial_93 (j := 20) rfl rfl)
theorem dX11_trial_114 : decode cX11_trial 114 = .ok (.lconst 0, 1) := dc_9 (bq_nm bk_X11_trial_93 (j := 21) rfl rfl)
theorem dX11_trial_115 : decode cX11_trial 115 = .ok (.ldc2_w 196, 3) := dc_20 (bq_nm bk_X11_trial_93 (j := 22) rfl rfl) (bq_nm bk_X11_trial_93 (j := 23) rfl rfl) (bq_nm bk_X11_trial_93 (j := 24) rfl rfl) rfl
theorem dX11_trial_118 : decode cX11_trial 118 = .ok (.invokestatic 67, 3) := dc_184 (bq_nm bk_X11_trial_93 (j := 25) rfl rfl) (bq_nm bk_X11_trial_93 (j := 26) rfl rfl) (bq_nm bk_X11_trial_93 (j := 27) rfl rfl) rfl
theorem dX11_trial_121 : decode cX11_trial 121 = .ok (.ifCond .eq 16, 3) := dc_153 (bq_nm bk_X11_trial_93 (j := 28) rfl rfl) (bq_nm bk_X11_trial_93 (j := 29) rfl rfl) (bq_nm bk_X11_trial_93 (j := 30) rfl rfl) rfl
set_option maxRecDepth 20000 in
theorem bk_X11_trial_124 : ((cX11_trial.data.toList.drop 124).take 30).length = 30 ∧ eN (((cX11_trial.data.toList.drop 124).take 30).map UInt8.toNat) = 1193895965674027048590495188136094117441456644240033587031596489379219733 := by decide +kernel
theorem dX11_trial_124 : decode cX11_trial 124 = .ok (.iload 9, 2) := dc_21 (bq_nm bk_X11_trial_124 (j := 0) rfl rfl) (bq_nm bk_X11_trial_124 (j := 1) rfl rfl)
theorem dX11_trial_126 : decode cX11_trial 126 = .ok (.i2l, 1) := dc_133 (bq_nm bk_X11_trial_124 (j := 2) rfl rfl)
theorem dX11_trial_127 : decode cX11_trial 127 = .ok (.lconst 1, 1) := dc_10 (bq_nm bk_X11_trial_124 (j := 3) rfl rfl)
theorem dX11_trial_128 : decode cX11_trial 128 = .ok (.ldc2_w 198, 3) := dc_20 (bq_nm bk_X11_trial_124 (j := 4) rfl rfl) (bq_nm bk_X11_trial_124 (j := 5) rfl rfl) (bq_nm bk_X11_trial_124 (j := 6) rfl rfl) rfl
theorem dX11_trial_131 : decode cX11_trial 131 = .ok (.invokestatic 67, 3) := dc_184 (bq_nm bk_X11_trial_124 (j := 7) rfl rfl) (bq_nm bk_X11_trial_124 (j := 8) rfl rfl) (bq_nm bk_X11_trial_124 (j := 9) rfl rfl) rfl
theorem dX11_trial_134 : decode cX11_trial 134 = .ok (.ifCond .ne 6, 3) := dc_154 (bq_nm bk_X11_trial_124 (j := 10) rfl rfl) (bq_nm bk_X11_trial_124 (j := 11) rfl rfl) (bq_nm bk_X11_trial_124 (j := 12) rfl rfl) rfl
theorem dX11_trial_137 : decode cX11_trial 137 = .ok (.bipush (-2), 2) := dc_16 (bq_nm bk_X11_trial_124 (j := 13) rfl rfl) (bq_nm bk_X11_trial_124 (j := 14) rfl rfl) rfl
theorem dX11_trial_139 : decode cX11_trial 139 = .ok (.ireturn, 1) := dc_172 (bq_nm bk_X11_trial_124 (j := 15) rfl rfl)
theorem dX11_trial_140 : decode cX11_trial 140 = .ok (.aload_n 0, 1) := dc_42 (bq_nm bk_X11_trial_124 (j := 16) rfl rfl)
theorem dX11_trial_141 : decode cX11_trial 141 = .ok (.getfield 7, 3) := dc_180 (bq_nm bk_X11_trial_124 (j := 17) rfl rfl) (bq_nm bk_X11_trial_124 (j := 18) rfl rfl) (bq_nm bk_X11_trial_124 (j := 19) rfl rfl) rfl
theorem dX11_trial_144 : decode cX11_trial 144 = .ok (.iconst 4, 1) := dc_7 (bq_nm bk_X11_trial_124 (j := 20) rfl rfl)
theorem dX11_trial_145 : decode cX11_trial 145 = .ok (.iaload, 1) := dc_46 (bq_nm bk_X11_trial_124 (j := 21) rfl rfl)
theorem dX11_trial_146 : decode cX11_trial 146 = .ok (.bipush 10, 2) := dc_16 (bq_nm bk_X11_trial_124 (j := 22) rfl rfl) (bq_nm bk_X11_trial_124 (j := 23) rfl rfl) rfl
theorem dX11_trial_148 : decode cX11_trial 148 = .ok (.if_icmp .ne 6, 3) := dc_160 (bq_nm bk_X11_trial_124 (j := 24) rfl rfl) (bq_nm bk_X11_trial_124 (j := 25) rfl rfl) (bq_nm bk_X11_trial_124 (j := 26) rfl rfl) rfl
theorem dX11_trial_151 : decode cX11_trial 151 = .ok (.bipush (-4), 2) := dc_16 (bq_nm bk_X11_trial_124 (j := 27) rfl rfl) (bq_nm bk_X11_trial_124 (j := 28) rfl rfl) rfl
theorem dX11_trial_153 : decode cX11_trial 153 = .ok (.ireturn, 1) := dc_172 (bq_nm bk_X11_trial_124 (j := 29) rfl rfl)
set_option maxRecDepth 20000 in
theorem bk_X11_trial_154 : ((cX11_trial.data.toList.drop 154).take 32).length = 32 ∧ eN (((cX11_trial.data.toList.drop 154).take 32).map UInt8.toNat) = 12834404984309423159935999744880545285763499309727589276690904747837525460497 := by decide +kernel
theorem dX11_trial_154 : decode cX11_trial 154 = .ok (.sipush 1546, 3) := dc_17 (bq_nm bk_X11_trial_154 (j := 0) rfl rfl) (bq_nm bk_X11_trial_154 (j := 1) rfl rfl) (bq_nm bk_X11_trial_154 (j := 2) rfl rfl) rfl
theorem dX11_trial_157 : decode cX11_trial 157 = .ok (.bipush 10, 2) := dc_16 (bq_nm bk_X11_trial_154 (j := 3) rfl rfl) (bq_nm bk_X11_trial_154 (j := 4) rfl rfl) rfl
theorem dX11_trial_159 : decode cX11_trial 159 = .ok (.aload_n 0, 1) := dc_42 (bq_nm bk_X11_trial_154 (j := 5) rfl rfl)
theorem dX11_trial_160 : decode cX11_trial 160 = .ok (.getfield 7, 3) := dc_180 (bq_nm bk_X11_trial_154 (j := 6) rfl rfl) (bq_nm bk_X11_trial_154 (j := 7) rfl rfl) (bq_nm bk_X11_trial_154 (j := 8) rfl rfl) rfl
theorem dX11_trial_163 : decode cX11_trial 163 = .ok (.iconst 4, 1) := dc_7 (bq_nm bk_X11_trial_154 (j := 9) rfl rfl)
theorem dX11_trial_164 : decode cX11_trial 164 = .ok (.iaload, 1) := dc_46 (bq_nm bk_X11_trial_154 (j := 10) rfl rfl)
theorem dX11_trial_165 : decode cX11_trial 165 = .ok (.imul, 1) := dc_104 (bq_nm bk_X11_trial_154 (j := 11) rfl rfl)
theorem dX11_trial_166 : decode cX11_trial 166 = .ok (.iadd, 1) := dc_96 (bq_nm bk_X11_trial_154 (j := 12) rfl rfl)
theorem dX11_trial_167 : decode cX11_trial 167 = .ok (.istore 11, 2) := dc_54 (bq_nm bk_X11_trial_154 (j := 13) rfl rfl) (bq_nm bk_X11_trial_154 (j := 14) rfl rfl)
theorem dX11_trial_169 : decode cX11_trial 169 = .ok (.aload_n 0, 1) := dc_42 (bq_nm bk_X11_trial_154 (j := 15) rfl rfl)
theorem dX11_trial_170 : decode cX11_trial 170 = .ok (.getfield 7, 3) := dc_180 (bq_nm bk_X11_trial_154 (j := 16) rfl rfl) (bq_nm bk_X11_trial_154 (j := 17) rfl rfl) (bq_nm bk_X11_trial_154 (j := 18) rfl rfl) rfl
theorem dX11_trial_173 : decode cX11_trial 173 = .ok (.iload 11, 2) := dc_21 (bq_nm bk_X11_trial_154 (j := 19) rfl rfl) (bq_nm bk_X11_trial_154 (j := 20) rfl rfl)
theorem dX11_trial_175 : decode cX11_trial 175 = .ok (.iload_n 1, 1) := dc_27 (bq_nm bk_X11_trial_154 (j := 21) rfl rfl)
theorem dX11_trial_176 : decode cX11_trial 176 = .ok (.iastore, 1) := dc_79 (bq_nm bk_X11_trial_154 (j := 22) rfl rfl)
theorem dX11_trial_177 : decode cX11_trial 177 = .ok (.aload_n 0, 1) := dc_42 (bq_nm bk_X11_trial_154 (j := 23) rfl rfl)
theorem dX11_trial_178 : decode cX11_trial 178 = .ok (.getfield 7, 3) := dc_180 (bq_nm bk_X11_trial_154 (j := 24) rfl rfl) (bq_nm bk_X11_trial_154 (j := 25) rfl rfl) (bq_nm bk_X11_trial_154 (j := 26) rfl rfl) rfl
theorem dX11_trial_181 : decode cX11_trial 181 = .ok (.iload 11, 2) := dc_21 (bq_nm bk_X11_trial_154 (j := 27) rfl rfl) (bq_nm bk_X11_trial_154 (j := 28) rfl rfl)
theorem dX11_trial_183 : decode cX11_trial 183 = .ok (.iconst 1, 1) := dc_4 (bq_nm bk_X11_trial_154 (j := 29) rfl rfl)
theorem dX11_trial_184 : decode cX11_trial 184 = .ok (.iadd, 1) := dc_96 (bq_nm bk_X11_trial_154 (j := 30) rfl rfl)
theorem dX11_trial_185 : decode cX11_trial 185 = .ok (.iload_n 2, 1) := dc_28 (bq_nm bk_X11_trial_154 (j := 31) rfl rfl)
set_option maxRecDepth 20000 in
theorem bk_X11_trial_186 : ((cX11_trial.data.toList.drop 186).take 32).length = 32 ∧ eN (((cX11_trial.data.toList.drop 186).take 32).map UInt8.toNat) = 43429763582828744078448899793021829926064811635346030818697808226523649681999 := by decide +kernel
theorem dX11_trial_186 : decode cX11_trial 186 = .ok (.iastore, 1) := dc_79 (bq_nm bk_X11_trial_186 (j := 0) rfl rfl)
theorem dX11_trial_187 : decode cX11_trial 187 = .ok (.aload_n 0, 1) := dc_42 (bq_nm bk_X11_trial_186 (j := 1) rfl rfl)
theorem dX11_trial_188 : decode cX11_trial 188 = .ok (.getfield 7, 3) := dc_180 (bq_nm bk_X11_trial_186 (j := 2) rfl rfl) (bq_nm bk_X11_trial_186 (j := 3) rfl rfl) (bq_nm bk_X11_trial_186 (j := 4) rfl rfl) rfl
theorem dX11_trial_191 : decode cX11_trial 191 = .ok (.iload 11, 2) := dc_21 (bq_nm bk_X11_trial_186 (j := 5) rfl rfl) (bq_nm bk_X11_trial_186 (j := 6) rfl rfl)
theorem dX11_trial_193 : decode cX11_trial 193 = .ok (.iconst 2, 1) := dc_5 (bq_nm bk_X11_trial_186 (j := 7) rfl rfl)
theorem dX11_trial_194 : decode cX11_trial 194 = .ok (.iadd, 1) := dc_96 (bq_nm bk_X11_trial_186 (j := 8) rfl rfl)
theorem dX11_trial_195 : decode cX11_trial 195 = .ok (.iload_n 3, 1) := dc_29 (bq_nm bk_X11_trial_186 (j := 9) rfl rfl)
theorem dX11_trial_196 : decode cX11_trial 196 = .ok (.iastore, 1) := dc_79 (bq_nm bk_X11_trial_186 (j := 10) rfl rfl)
theorem dX11_trial_197 : decode cX11_trial 197 = .ok (.aload_n 0, 1) := dc_42 (bq_nm bk_X11_trial_186 (j := 11) rfl rfl)
theorem dX11_trial_198 : decode cX11_trial 198 = .ok (.getfield 7, 3) := dc_180 (bq_nm bk_X11_trial_186 (j := 12) rfl rfl) (bq_nm bk_X11_trial_186 (j := 13) rfl rfl) (bq_nm bk_X11_trial_186 (j := 14) rfl rfl) rfl
theorem dX11_trial_201 : decode cX11_trial 201 = .ok (.iload 11, 2) := dc_21 (bq_nm bk_X11_trial_186 (j := 15) rfl rfl) (bq_nm bk_X11_trial_186 (j := 16) rfl rfl)
theorem dX11_trial_203 : decode cX11_trial 203 = .ok (.iconst 3, 1) := dc_6 (bq_nm bk_X11_trial_186 (j := 17) rfl rfl)
theorem dX11_trial_204 : decode cX11_trial 204 = .ok (.iadd, 1) := dc_96 (bq_nm bk_X11_trial_186 (j := 18) rfl rfl)
theorem dX11_trial_205 : decode cX11_trial 205 = .ok (.iload 4, 2) := dc_21 (bq_nm bk_X11_trial_186 (j := 19) rfl rfl) (bq_nm bk_X11_trial_186 (j := 20) rfl rfl)
theorem dX11_trial_207 : decode cX11_trial 207 = .ok (.iastore, 1) := dc_79 (bq_nm bk_X11_trial_186 (j := 21) rfl rfl)
theorem dX11_trial_208 : decode cX11_trial 208 = .ok (.aload_n 0, 1) := dc_42 (bq_nm bk_X11_trial_186 (j := 22) rfl rfl)
theorem dX11_trial_209 : decode cX11_trial 209 = .ok (.getfield 7, 3) := dc_180 (bq_nm bk_X11_trial_186 (j := 23) rfl rfl) (bq_nm bk_X11_trial_186 (j := 24) rfl rfl) (bq_nm bk_X11_trial_186 (j := 25) rfl rfl) rfl
theorem dX11_trial_212 : decode cX11_trial 212 = .ok (.iload 11, 2) := dc_21 (bq_nm bk_X11_trial_186 (j := 26) rfl rfl) (bq_nm bk_X11_trial_186 (j := 27) rfl rfl)
theorem dX11_trial_214 : decode cX11_trial 214 = .ok (.iconst 3, 1) := dc_6 (bq_nm bk_X11_trial_186 (j := 28) rfl rfl)
theorem dX11_trial_215 : decode cX11_trial 215 = .ok (.iadd, 1) := dc_96 (bq_nm bk_X11_trial_186 (j := 29) rfl rfl)
theorem dX11_trial_216 : decode cX11_trial 216 = .ok (.iconst 1, 1) := dc_4 (bq_nm bk_X11_trial_186 (j := 30) rfl rfl)
theorem dX11_trial_217 : decode cX11_trial 217 = .ok (.iadd, 1) := dc_96 (bq_nm bk_X11_trial_186 (j := 31) rfl rfl)
set_option maxRecDepth 20000 in
theorem bk_X11_trial_218 : ((cX11_trial.data.toList.drop 218).take 32).length = 32 ∧ eN (((cX11_trial.data.toList.drop 218).take 32).map UInt8.toNat) = 5012593453974321167735817673195044041187687239281851981432453250351096595733 := by decide +kernel
theorem dX11_trial_218 : decode cX11_trial 218 = .ok (.iload 5, 2) := dc_21 (bq_nm bk_X11_trial_218 (j := 0) rfl rfl) (bq_nm bk_X11_trial_218 (j := 1) rfl rfl)
theorem dX11_trial_220 : decode cX11_trial 220 = .ok (.iastore, 1) := dc_79 (bq_nm bk_X11_trial_218 (j := 2) rfl rfl)
theorem dX11_trial_221 : decode cX11_trial 221 = .ok (.aload_n 0, 1) := dc_42 (bq_nm bk_X11_trial_218 (j := 3) rfl rfl)
theorem dX11_trial_222 : decode cX11_trial 222 = .ok (.getfield 7, 3) := dc_180 (bq_nm bk_X11_trial_218 (j := 4) rfl rfl) (bq_nm bk_X11_trial_218 (j := 5) rfl rfl) (bq_nm bk_X11_trial_218 (j := 6) rfl rfl) rfl
theorem dX11_trial_225 : decode cX11_trial 225 = .ok (.iload 11, 2) := dc_21 (bq_nm bk_X11_trial_218 (j := 7) rfl rfl) (bq_nm bk_X11_trial_218 (j := 8) rfl rfl)
theorem dX11_trial_227 : decode cX11_trial 227 = .ok (.iconst 5, 1) := dc_8 (bq_nm bk_X11_trial_218 (j := 9) rfl rfl)
theorem dX11_trial_228 : decode cX11_trial 228 = .ok (.iadd, 1) := dc_96 (bq_nm bk_X11_trial_218 (j := 10) rfl rfl)
theorem dX11_trial_229 : decode cX11_trial 229 = .ok (.iload 6, 2) := dc_21 (bq_nm bk_X11_trial_218 (j := 11) rfl rfl) (bq_nm bk_X11_trial_218 (j := 12) rfl rfl)
theorem dX11_trial_231 : decode cX11_trial 231 = .ok (.iastore, 1) := dc_79 (bq_nm bk_X11_trial_218 (j := 13) rfl rfl)
theorem dX11_trial_232 : decode cX11_trial 232 = .ok (.aload_n 0, 1) := dc_42 (bq_nm bk_X11_trial_218 (j := 14) rfl rfl)
theorem dX11_trial_233 : decode cX11_trial 233 = .ok (.getfield 7, 3) := dc_180 (bq_nm bk_X11_trial_218 (j := 15) rfl rfl) (bq_nm bk_X11_trial_218 (j := 16) rfl rfl) (bq_nm bk_X11_trial_218 (j := 17) rfl rfl) rfl
theorem dX11_trial_236 : decode cX11_trial 236 = .ok (.iload 11, 2) := dc_21 (bq_nm bk_X11_trial_218 (j := 18) rfl rfl) (bq_nm bk_X11_trial_218 (j := 19) rfl rfl)
theorem dX11_trial_238 : decode cX11_trial 238 = .ok (.bipush 6, 2) := dc_16 (bq_nm bk_X11_trial_218 (j := 20) rfl rfl) (bq_nm bk_X11_trial_218 (j := 21) rfl rfl) rfl
theorem dX11_trial_240 : decode cX11_trial 240 = .ok (.iadd, 1) := dc_96 (bq_nm bk_X11_trial_218 (j := 22) rfl rfl)
theorem dX11_trial_241 : decode cX11_trial 241 = .ok (.iload 7, 2) := dc_21 (bq_nm bk_X11_trial_218 (j := 23) rfl rfl) (bq_nm bk_X11_trial_218 (j := 24) rfl rfl)
theorem dX11_trial_243 : decode cX11_trial 243 = .ok (.iastore, 1) := dc_79 (bq_nm bk_X11_trial_218 (j := 25) rfl rfl)
theorem dX11_trial_244 : decode cX11_trial 244 = .ok (.aload_n 0, 1) := dc_42 (bq_nm bk_X11_trial_218 (j := 26) rfl rfl)
theorem dX11_trial_245 : decode cX11_trial 245 = .ok (.getfield 7, 3) := dc_180 (bq_nm bk_X11_trial_218 (j := 27) rfl rfl) (bq_nm bk_X11_trial_218 (j := 28) rfl rfl) (bq_nm bk_X11_trial_218 (j := 29) rfl rfl) rfl
theorem dX11_trial_248 : decode cX11_trial 248 = .ok (.iload 11, 2) := dc_21 (bq_nm bk_X11_trial_218 (j := 30) rfl rfl) (bq_nm bk_X11_trial_218 (j := 31) rfl rfl)
set_option maxRecDepth 20000 in
theorem bk_X11_trial_250 : ((cX11_trial.data.toList.drop 250).take 32).length = 32 ∧ eN (((cX11_trial.data.toList.drop 250).take 32).map UInt8.toNat) = 5523186759927500038398433908118266298751610335233777898568311715236677682960 := by decide +kernel
theorem dX11_trial_250 : decode cX11_trial 250 = .ok (.bipush 7, 2) := dc_16 (bq_nm bk_X11_trial_250 (j := 0) rfl rfl) (bq_nm bk_X11_trial_250 (j := 1) rfl rfl) rfl
theorem dX11_trial_252 : decode cX11_trial 252 = .ok (.iadd, 1) := dc_96 (bq_nm bk_X11_trial_250 (j := 2) rfl rfl)
theorem dX11_trial_253 : decode cX11_trial 253 = .ok (.iload 8, 2) := dc_21 (bq_nm bk_X11_trial_250 (j := 3) rfl rfl) (bq_nm bk_X11_trial_250 (j := 4) rfl rfl)
theorem dX11_trial_255 : decode cX11_trial 255 = .ok (.iastore, 1) := dc_79 (bq_nm bk_X11_trial_250 (j := 5) rfl rfl)
theorem dX11_trial_256 : decode cX11_trial 256 = .ok (.aload_n 0, 1) := dc_42 (bq_nm bk_X11_trial_250 (j := 6) rfl rfl)
theorem dX11_trial_257 : decode cX11_trial 257 = .ok (.getfield 7, 3) := dc_180 (bq_nm bk_X11_trial_250 (j := 7) rfl rfl) (bq_nm bk_X11_trial_250 (j := 8) rfl rfl) (bq_nm bk_X11_trial_250 (j := 9) rfl rfl) rfl
theorem dX11_trial_260 : decode cX11_trial 260 = .ok (.iload 11, 2) := dc_21 (bq_nm bk_X11_trial_250 (j := 10) rfl rfl) (bq_nm bk_X11_trial_250 (j := 11) rfl rfl)
theorem dX11_trial_262 : decode cX11_trial 262 = .ok (.bipush 8, 2) := dc_16 (bq_nm bk_X11_trial_250 (j := 12) rfl rfl) (bq_nm bk_X11_trial_250 (j := 13) rfl rfl) rfl
theorem dX11_trial_264 : decode cX11_trial 264 = .ok (.iadd, 1) := dc_96 (bq_nm bk_X11_trial_250 (j := 14) rfl rfl)
theorem dX11_trial_265 : decode cX11_trial 265 = .ok (.iload 9, 2) := dc_21 (bq_nm bk_X11_trial_250 (j := 15) rfl rfl) (bq_nm bk_X11_trial_250 (j := 16) rfl rfl)
theorem dX11_trial_267 : decode cX11_trial 267 = .ok (.iastore, 1) := dc_79 (bq_nm bk_X11_trial_250 (j := 17) rfl rfl)
theorem dX11_trial_268 : decode cX11_trial 268 = .ok (.aload_n 0, 1) := dc_42 (bq_nm bk_X11_trial_250 (j := 18) rfl rfl)
theorem dX11_trial_269 : decode cX11_trial 269 = .ok (.getfield 7, 3) := dc_180 (bq_nm bk_X11_trial_250 (j := 19) rfl rfl) (bq_nm bk_X11_trial_250 (j := 20) rfl rfl) (bq_nm bk_X11_trial_250 (j := 21) rfl rfl) rfl
theorem dX11_trial_272 : decode cX11_trial 272 = .ok (.iload 11, 2) := dc_21 (bq_nm bk_X11_trial_250 (j := 22) rfl rfl) (bq_nm bk_X11_trial_250 (j := 23) rfl rfl)
theorem dX11_trial_274 : decode cX11_trial 274 = .ok (.bipush 9, 2) := dc_16 (bq_nm bk_X11_trial_250 (j := 24) rfl rfl) (bq_nm bk_X11_trial_250 (j := 25) rfl rfl) rfl
theorem dX11_trial_276 : decode cX11_trial 276 = .ok (.iadd, 1) := dc_96 (bq_nm bk_X11_trial_250 (j := 26) rfl rfl)
theorem dX11_trial_277 : decode cX11_trial 277 = .ok (.iconst 0, 1) := dc_3 (bq_nm bk_X11_trial_250 (j := 27) rfl rfl)
theorem dX11_trial_278 : decode cX11_trial 278 = .ok (.iastore, 1) := dc_79 (bq_nm bk_X11_trial_250 (j := 28) rfl rfl)
theorem dX11_trial_279 : decode cX11_trial 279 = .ok (.iconst 0, 1) := dc_3 (bq_nm bk_X11_trial_250 (j := 29) rfl rfl)
theorem dX11_trial_280 : decode cX11_trial 280 = .ok (.istore 12, 2) := dc_54 (bq_nm bk_X11_trial_250 (j := 30) rfl rfl) (bq_nm bk_X11_trial_250 (j := 31) rfl rfl)
set_option maxRecDepth 20000 in
theorem bk_X11_trial_282 : ((cX11_trial.data.toList.drop 282).take 32).length = 32 ∧ eN (((cX11_trial.data.toList.drop 282).take 32).map UInt8.toNat) = 474428174069618461469748545475595355707154614103603978029063252252667415573 := by decide +kernel
theorem dX11_trial_282 : decode cX11_trial 282 = .ok (.iload 12, 2) := dc_21 (bq_nm bk_X11_trial_282 (j := 0) rfl rfl) (bq_nm bk_X11_trial_282 (j := 1) rfl rfl)
theorem dX11_trial_284 : decode cX11_trial 284 = .ok (.bipush 60, 2) := dc_16 (bq_nm bk_X11_trial_282 (j := 2) rfl rfl) (bq_nm bk_X11_trial_282 (j := 3) rfl rfl) rfl
theorem dX11_trial_286 : decode cX11_trial 286 = .ok (.if_icmp .ge 31, 3) := dc_162 (bq_nm bk_X11_trial_282 (j := 4) rfl rfl) (bq_nm bk_X11_trial_282 (j := 5) rfl rfl) (bq_nm bk_X11_trial_282 (j := 6) rfl rfl) rfl
theorem dX11_trial_289 : decode cX11_trial 289 = .ok (.aload_n 0, 1) := dc_42 (bq_nm bk_X11_trial_282 (j := 7) rfl rfl)
theorem dX11_trial_290 : decode cX11_trial 290 = .ok (.getfield 7, 3) := dc_180 (bq_nm bk_X11_trial_282 (j := 8) rfl rfl) (bq_nm bk_X11_trial_282 (j := 9) rfl rfl) (bq_nm bk_X11_trial_282 (j := 10) rfl rfl) rfl
theorem dX11_trial_293 : decode cX11_trial 293 = .ok (.sipush 1646, 3) := dc_17 (bq_nm bk_X11_trial_282 (j := 11) rfl rfl) (bq_nm bk_X11_trial_282 (j := 12) rfl rfl) (bq_nm bk_X11_trial_282 (j := 13) rfl rfl) rfl
theorem dX11_trial_296 : decode cX11_trial 296 = .ok (.bipush 60, 2) := dc_16 (bq_nm bk_X11_trial_282 (j := 14) rfl rfl) (bq_nm bk_X11_trial_282 (j := 15) rfl rfl) rfl
theorem dX11_trial_298 : decode cX11_trial 298 = .ok (.aload_n 0, 1) := dc_42 (bq_nm bk_X11_trial_282 (j := 16) rfl rfl)
theorem dX11_trial_299 : decode cX11_trial 299 = .ok (.getfield 7, 3) := dc_180 (bq_nm bk_X11_trial_282 (j := 17) rfl rfl) (bq_nm bk_X11_trial_282 (j := 18) rfl rfl) (bq_nm bk_X11_trial_282 (j := 19) rfl rfl) rfl
theorem dX11_trial_302 : decode cX11_trial 302 = .ok (.iconst 4, 1) := dc_7 (bq_nm bk_X11_trial_282 (j := 20) rfl rfl)
theorem dX11_trial_303 : decode cX11_trial 303 = .ok (.iaload, 1) := dc_46 (bq_nm bk_X11_trial_282 (j := 21) rfl rfl)
theorem dX11_trial_304 : decode cX11_trial 304 = .ok (.imul, 1) := dc_104 (bq_nm bk_X11_trial_282 (j := 22) rfl rfl)
theorem dX11_trial_305 : decode cX11_trial 305 = .ok (.iadd, 1) := dc_96 (bq_nm bk_X11_trial_282 (j := 23) rfl rfl)
theorem dX11_trial_306 : decode cX11_trial 306 = .ok (.iload 12, 2) := dc_21 (bq_nm bk_X11_trial_282 (j := 24) rfl rfl) (bq_nm bk_X11_trial_282 (j := 25) rfl rfl)
theorem dX11_trial_308 : decode cX11_trial 308 = .ok (.iadd, 1) := dc_96 (bq_nm bk_X11_trial_282 (j := 26) rfl rfl)
theorem dX11_trial_309 : decode cX11_trial 309 = .ok (.iconst 0, 1) := dc_3 (bq_nm bk_X11_trial_282 (j := 27) rfl rfl)
theorem dX11_trial_310 : decode cX11_trial 310 = .ok (.iastore, 1) := dc_79 (bq_nm bk_X11_trial_282 (j := 28) rfl rfl)
theorem dX11_trial_311 : decode cX11_trial 311 = .ok (.iinc 12 1, 3) := dc_132 (bq_nm bk_X11_trial_282 (j := 29) rfl rfl) (bq_nm bk_X11_trial_282 (j := 30) rfl rfl) (bq_nm bk_X11_trial_282 (j := 31) rfl rfl) rfl
set_option maxRecDepth 20000 in
theorem bk_X11_trial_314 : ((cX11_trial.data.toList.drop 314).take 9).length = 9 ∧ eN (((cX11_trial.data.toList.drop 314).take 9).map UInt8.toNat) = 3178820961125091311527 := by decide +kernel
theorem dX11_trial_314 : decode cX11_trial 314 = .ok (.goto (-32), 3) := dc_167 (bq_nm bk_X11_trial_314 (j := 0) rfl rfl) (bq_nm bk_X11_trial_314 (j := 1) rfl rfl) (bq_nm bk_X11_trial_314 (j := 2) rfl rfl) rfl
theorem dX11_trial_317 : decode cX11_trial 317 = .ok (.aload_n 0, 1) := dc_42 (bq_nm bk_X11_trial_314 (j := 3) rfl rfl)
theorem dX11_trial_318 : decode cX11_trial 318 = .ok (.iconst 4, 1) := dc_7 (bq_nm bk_X11_trial_314 (j := 4) rfl rfl)
theorem dX11_trial_319 : decode cX11_trial 319 = .ok (.invokevirtual 83, 3) := dc_182 (bq_nm bk_X11_trial_314 (j := 5) rfl rfl) (bq_nm bk_X11_trial_314 (j := 6) rfl rfl) (bq_nm bk_X11_trial_314 (j := 7) rfl rfl) rfl
theorem dX11_trial_322 : decode cX11_trial 322 = .ok (.ireturn, 1) := dc_172 (bq_nm bk_X11_trial_314 (j := 8) rfl rfl)
set_option maxRecDepth 20000 in
theorem bk_X11_away_0 : ((cX11_away.data.toList.drop 0).take 32).length = 32 ∧ eN (((cX11_away.data.toList.drop 0).take 32).map UInt8.toNat) = 43438048114636609097639104798999780261243338784861064241541201835738279905066 := by decide +kernel
theorem dX11_away_0 : decode cX11_away 0 = .ok (.aload_n 0, 1) := dc_42 (bq_nm bk_X11_away_0 (j := 0) rfl rfl)
theorem dX11_away_1 : decode cX11_away 1 = .ok (.iconst 4, 1) := dc_7 (bq_nm bk_X11_away_0 (j := 1) rfl rfl)
theorem dX11_away_2 : decode cX11_away 2 = .ok (.iload_n 1, 1) := dc_27 (bq_nm bk_X11_away_0 (j := 2) rfl rfl)
theorem dX11_away_3 : decode cX11_away 3 = .ok (.invokevirtual 87, 3) := dc_182 (bq_nm bk_X11_away_0 (j := 3) rfl rfl) (bq_nm bk_X11_away_0 (j := 4) rfl rfl) (bq_nm bk_X11_away_0 (j := 5) rfl rfl) rfl
theorem dX11_away_6 : decode cX11_away 6 = .ok (.ifCond .eq 12, 3) := dc_153 (bq_nm bk_X11_away_0 (j := 6) rfl rfl) (bq_nm bk_X11_away_0 (j := 7) rfl rfl) (bq_nm bk_X11_away_0 (j := 8) rfl rfl) rfl
theorem dX11_away_9 : decode cX11_away 9 = .ok (.aload_n 0, 1) := dc_42 (bq_nm bk_X11_away_0 (j := 9) rfl rfl)
theorem dX11_away_10 : decode cX11_away 10 = .ok (.iconst 0, 1) := dc_3 (bq_nm bk_X11_away_0 (j := 10) rfl rfl)
theorem dX11_away_11 : decode cX11_away 11 = .ok (.iload_n 2, 1) := dc_28 (bq_nm bk_X11_away_0 (j := 11) rfl rfl)
theorem dX11_away_12 : decode cX11_away 12 = .ok (.invokevirtual 87, 3) := dc_182 (bq_nm bk_X11_away_0 (j := 12) rfl rfl) (bq_nm bk_X11_away_0 (j := 13) rfl rfl) (bq_nm bk_X11_away_0 (j := 14) rfl rfl) rfl
theorem dX11_away_15 : decode cX11_away 15 = .ok (.ifCond .ne 6, 3) := dc_154 (bq_nm bk_X11_away_0 (j := 15) rfl rfl) (bq_nm bk_X11_away_0 (j := 16) rfl rfl) (bq_nm bk_X11_away_0 (j := 17) rfl rfl) rfl
theorem dX11_away_18 : decode cX11_away 18 = .ok (.bipush (-2), 2) := dc_16 (bq_nm bk_X11_away_0 (j := 18) rfl rfl) (bq_nm bk_X11_away_0 (j := 19) rfl rfl) rfl
theorem dX11_away_20 : decode cX11_away 20 = .ok (.ireturn, 1) := dc_172 (bq_nm bk_X11_away_0 (j := 20) rfl rfl)
theorem dX11_away_21 : decode cX11_away 21 = .ok (.sipush 1546, 3) := dc_17 (bq_nm bk_X11_away_0 (j := 21) rfl rfl) (bq_nm bk_X11_away_0 (j := 22) rfl rfl) (bq_nm bk_X11_away_0 (j := 23) rfl rfl) rfl
theorem dX11_away_24 : decode cX11_away 24 = .ok (.bipush 10, 2) := dc_16 (bq_nm bk_X11_away_0 (j := 24) rfl rfl) (bq_nm bk_X11_away_0 (j := 25) rfl rfl) rfl
theorem dX11_away_26 : decode cX11_away 26 = .ok (.iload_n 1, 1) := dc_27 (bq_nm bk_X11_away_0 (j := 26) rfl rfl)
theorem dX11_away_27 : decode cX11_away 27 = .ok (.imul, 1) := dc_104 (bq_nm bk_X11_away_0 (j := 27) rfl rfl)
theorem dX11_away_28 : decode cX11_away 28 = .ok (.iadd, 1) := dc_96 (bq_nm bk_X11_away_0 (j := 28) rfl rfl)
theorem dX11_away_29 : decode cX11_away 29 = .ok (.bipush 9, 2) := dc_16 (bq_nm bk_X11_away_0 (j := 29) rfl rfl) (bq_nm bk_X11_away_0 (j := 30) rfl rfl) rfl
theorem dX11_away_31 : decode cX11_away 31 = .ok (.iadd, 1) := dc_96 (bq_nm bk_X11_away_0 (j := 31) rfl rfl)
set_option maxRecDepth 20000 in
theorem bk_X11_away_32 : ((cX11_away.data.toList.drop 32).take 30).length = 30 ∧ eN (((cX11_away.data.toList.drop 32).take 30).map UInt8.toNat) = 294537107993409517602916223828230607183152741199670242667943556276683830 := by decide +kernel
theorem dX11_away_32 : decode cX11_away 32 = .ok (.istore 4, 2) := dc_54 (bq_nm bk_X11_away_32 (j := 0) rfl rfl) (bq_nm bk_X11_away_32 (j := 1) rfl rfl)
theorem dX11_away_34 : decode cX11_away 34 = .ok (.aload_n 0, 1) := dc_42 (bq_nm bk_X11_away_32 (j := 2) rfl rfl)
theorem dX11_away_35 : decode cX11_away 35 = .ok (.getfield 7, 3) := dc_180 (bq_nm bk_X11_away_32 (j := 3) rfl rfl) (bq_nm bk_X11_away_32 (j := 4) rfl rfl) (bq_nm bk_X11_away_32 (j := 5) rfl rfl) rfl
theorem dX11_away_38 : decode cX11_away 38 = .ok (.iload 4, 2) := dc_21 (bq_nm bk_X11_away_32 (j := 6) rfl rfl) (bq_nm bk_X11_away_32 (j := 7) rfl rfl)
theorem dX11_away_40 : decode cX11_away 40 = .ok (.iaload, 1) := dc_46 (bq_nm bk_X11_away_32 (j := 8) rfl rfl)
theorem dX11_away_41 : decode cX11_away 41 = .ok (.iload_n 2, 1) := dc_28 (bq_nm bk_X11_away_32 (j := 9) rfl rfl)
theorem dX11_away_42 : decode cX11_away 42 = .ok (.ishr, 1) := dc_122 (bq_nm bk_X11_away_32 (j := 10) rfl rfl)
theorem dX11_away_43 : decode cX11_away 43 = .ok (.iconst 1, 1) := dc_4 (bq_nm bk_X11_away_32 (j := 11) rfl rfl)
theorem dX11_away_44 : decode cX11_away 44 = .ok (.iand, 1) := dc_126 (bq_nm bk_X11_away_32 (j := 12) rfl rfl)
theorem dX11_away_45 : decode cX11_away 45 = .ok (.iconst 1, 1) := dc_4 (bq_nm bk_X11_away_32 (j := 13) rfl rfl)
theorem dX11_away_46 : decode cX11_away 46 = .ok (.if_icmp .ne 7, 3) := dc_160 (bq_nm bk_X11_away_32 (j := 14) rfl rfl) (bq_nm bk_X11_away_32 (j := 15) rfl rfl) (bq_nm bk_X11_away_32 (j := 16) rfl rfl) rfl
theorem dX11_away_49 : decode cX11_away 49 = .ok (.iconst 1, 1) := dc_4 (bq_nm bk_X11_away_32 (j := 17) rfl rfl)
theorem dX11_away_50 : decode cX11_away 50 = .ok (.goto 4, 3) := dc_167 (bq_nm bk_X11_away_32 (j := 18) rfl rfl) (bq_nm bk_X11_away_32 (j := 19) rfl rfl) (bq_nm bk_X11_away_32 (j := 20) rfl rfl) rfl
theorem dX11_away_53 : decode cX11_away 53 = .ok (.iconst 0, 1) := dc_3 (bq_nm bk_X11_away_32 (j := 21) rfl rfl)
theorem dX11_away_54 : decode cX11_away 54 = .ok (.iload_n 3, 1) := dc_29 (bq_nm bk_X11_away_32 (j := 22) rfl rfl)
theorem dX11_away_55 : decode cX11_away 55 = .ok (.if_icmp .ne 6, 3) := dc_160 (bq_nm bk_X11_away_32 (j := 23) rfl rfl) (bq_nm bk_X11_away_32 (j := 24) rfl rfl) (bq_nm bk_X11_away_32 (j := 25) rfl rfl) rfl
theorem dX11_away_58 : decode cX11_away 58 = .ok (.bipush (-3), 2) := dc_16 (bq_nm bk_X11_away_32 (j := 26) rfl rfl) (bq_nm bk_X11_away_32 (j := 27) rfl rfl) rfl
theorem dX11_away_60 : decode cX11_away 60 = .ok (.ireturn, 1) := dc_172 (bq_nm bk_X11_away_32 (j := 28) rfl rfl)
theorem dX11_away_61 : decode cX11_away 61 = .ok (.aload_n 0, 1) := dc_42 (bq_nm bk_X11_away_32 (j := 29) rfl rfl)
set_option maxRecDepth 20000 in
theorem bk_X11_away_62 : ((cX11_away.data.toList.drop 62).take 19).length = 19 ∧ eN (((cX11_away.data.toList.drop 62).take 19).map UInt8.toNat) = 3836100784278915538775119626192346612354187444 := by decide +kernel
theorem dX11_away_62 : decode cX11_away 62 = .ok (.getfield 7, 3) := dc_180 (bq_nm bk_X11_away_62 (j := 0) rfl rfl) (bq_nm bk_X11_away_62 (j := 1) rfl rfl) (bq_nm bk_X11_away_62 (j := 2) rfl rfl) rfl
theorem dX11_away_65 : decode cX11_away 65 = .ok (.iload 4, 2) := dc_21 (bq_nm bk_X11_away_62 (j := 3) rfl rfl) (bq_nm bk_X11_away_62 (j := 4) rfl rfl)
theorem dX11_away_67 : decode cX11_away 67 = .ok (.dup2, 1) := dc_92 (bq_nm bk_X11_away_62 (j := 5) rfl rfl)
theorem dX11_away_68 : decode cX11_away 68 = .ok (.iaload, 1) := dc_46 (bq_nm bk_X11_away_62 (j := 6) rfl rfl)
theorem dX11_away_69 : decode cX11_away 69 = .ok (.iconst 1, 1) := dc_4 (bq_nm bk_X11_away_62 (j := 7) rfl rfl)
theorem dX11_away_70 : decode cX11_away 70 = .ok (.iload_n 2, 1) := dc_28 (bq_nm bk_X11_away_62 (j := 8) rfl rfl)
theorem dX11_away_71 : decode cX11_away 71 = .ok (.ishl, 1) := dc_120 (bq_nm bk_X11_away_62 (j := 9) rfl rfl)
theorem dX11_away_72 : decode cX11_away 72 = .ok (.ixor, 1) := dc_130 (bq_nm bk_X11_away_62 (j := 10) rfl rfl)
theorem dX11_away_73 : decode cX11_away 73 = .ok (.iastore, 1) := dc_79 (bq_nm bk_X11_away_62 (j := 11) rfl rfl)
theorem dX11_away_74 : decode cX11_away 74 = .ok (.aload_n 0, 1) := dc_42 (bq_nm bk_X11_away_62 (j := 12) rfl rfl)
theorem dX11_away_75 : decode cX11_away 75 = .ok (.iconst 0, 1) := dc_3 (bq_nm bk_X11_away_62 (j := 13) rfl rfl)
theorem dX11_away_76 : decode cX11_away 76 = .ok (.putfield 71, 3) := dc_181 (bq_nm bk_X11_away_62 (j := 14) rfl rfl) (bq_nm bk_X11_away_62 (j := 15) rfl rfl) (bq_nm bk_X11_away_62 (j := 16) rfl rfl) rfl
theorem dX11_away_79 : decode cX11_away 79 = .ok (.iconst 1, 1) := dc_4 (bq_nm bk_X11_away_62 (j := 17) rfl rfl)
theorem dX11_away_80 : decode cX11_away 80 = .ok (.ireturn, 1) := dc_172 (bq_nm bk_X11_away_62 (j := 18) rfl rfl)
set_option maxRecDepth 20000 in
theorem bk_X11_like_0 : ((cX11_like.data.toList.drop 0).take 31).length = 31 ∧ eN (((cX11_like.data.toList.drop 0).take 31).map UInt8.toNat) = 235018834655659945933258950935872697366010538209124805121906103132905735978 := by decide +kernel
theorem dX11_like_0 : decode cX11_like 0 = .ok (.aload_n 0, 1) := dc_42 (bq_nm bk_X11_like_0 (j := 0) rfl rfl)
theorem dX11_like_1 : decode cX11_like 1 = .ok (.iconst 4, 1) := dc_7 (bq_nm bk_X11_like_0 (j := 1) rfl rfl)
theorem dX11_like_2 : decode cX11_like 2 = .ok (.iload_n 1, 1) := dc_27 (bq_nm bk_X11_like_0 (j := 2) rfl rfl)
theorem dX11_like_3 : decode cX11_like 3 = .ok (.invokevirtual 87, 3) := dc_182 (bq_nm bk_X11_like_0 (j := 3) rfl rfl) (bq_nm bk_X11_like_0 (j := 4) rfl rfl) (bq_nm bk_X11_like_0 (j := 5) rfl rfl) rfl
theorem dX11_like_6 : decode cX11_like 6 = .ok (.ifCond .eq 37, 3) := dc_153 (bq_nm bk_X11_like_0 (j := 6) rfl rfl) (bq_nm bk_X11_like_0 (j := 7) rfl rfl) (bq_nm bk_X11_like_0 (j := 8) rfl rfl) rfl
theorem dX11_like_9 : decode cX11_like 9 = .ok (.iload_n 2, 1) := dc_28 (bq_nm bk_X11_like_0 (j := 9) rfl rfl)
theorem dX11_like_10 : decode cX11_like 10 = .ok (.i2l, 1) := dc_133 (bq_nm bk_X11_like_0 (j := 10) rfl rfl)
theorem dX11_like_11 : decode cX11_like 11 = .ok (.lconst 0, 1) := dc_9 (bq_nm bk_X11_like_0 (j := 11) rfl rfl)
theorem dX11_like_12 : decode cX11_like 12 = .ok (.lconst 1, 1) := dc_10 (bq_nm bk_X11_like_0 (j := 12) rfl rfl)
theorem dX11_like_13 : decode cX11_like 13 = .ok (.invokestatic 67, 3) := dc_184 (bq_nm bk_X11_like_0 (j := 13) rfl rfl) (bq_nm bk_X11_like_0 (j := 14) rfl rfl) (bq_nm bk_X11_like_0 (j := 15) rfl rfl) rfl
theorem dX11_like_16 : decode cX11_like 16 = .ok (.ifCond .eq 27, 3) := dc_153 (bq_nm bk_X11_like_0 (j := 16) rfl rfl) (bq_nm bk_X11_like_0 (j := 17) rfl rfl) (bq_nm bk_X11_like_0 (j := 18) rfl rfl) rfl
theorem dX11_like_19 : decode cX11_like 19 = .ok (.aload_n 0, 1) := dc_42 (bq_nm bk_X11_like_0 (j := 19) rfl rfl)
theorem dX11_like_20 : decode cX11_like 20 = .ok (.iconst 0, 1) := dc_3 (bq_nm bk_X11_like_0 (j := 20) rfl rfl)
theorem dX11_like_21 : decode cX11_like 21 = .ok (.iload_n 3, 1) := dc_29 (bq_nm bk_X11_like_0 (j := 21) rfl rfl)
theorem dX11_like_22 : decode cX11_like 22 = .ok (.invokevirtual 87, 3) := dc_182 (bq_nm bk_X11_like_0 (j := 22) rfl rfl) (bq_nm bk_X11_like_0 (j := 23) rfl rfl) (bq_nm bk_X11_like_0 (j := 24) rfl rfl) rfl
theorem dX11_like_25 : decode cX11_like 25 = .ok (.ifCond .eq 18, 3) := dc_153 (bq_nm bk_X11_like_0 (j := 25) rfl rfl) (bq_nm bk_X11_like_0 (j := 26) rfl rfl) (bq_nm bk_X11_like_0 (j := 27) rfl rfl) rfl
theorem dX11_like_28 : decode cX11_like 28 = .ok (.iload 4, 2) := dc_21 (bq_nm bk_X11_like_0 (j := 28) rfl rfl) (bq_nm bk_X11_like_0 (j := 29) rfl rfl)
theorem dX11_like_30 : decode cX11_like 30 = .ok (.i2l, 1) := dc_133 (bq_nm bk_X11_like_0 (j := 30) rfl rfl)
set_option maxRecDepth 20000 in
theorem bk_X11_like_31 : ((cX11_like.data.toList.drop 31).take 31).length = 31 ∧ eN (((cX11_like.data.toList.drop 31).take 31).map UInt8.toNat) = 169820067981707044821288412267339206822320203863439297376569570254721122324 := by decide +kernel
theorem dX11_like_31 : decode cX11_like 31 = .ok (.ldc2_w 200, 3) := dc_20 (bq_nm bk_X11_like_31 (j := 0) rfl rfl) (bq_nm bk_X11_like_31 (j := 1) rfl rfl) (bq_nm bk_X11_like_31 (j := 2) rfl rfl) rfl
theorem dX11_like_34 : decode cX11_like 34 = .ok (.ldc2_w 202, 3) := dc_20 (bq_nm bk_X11_like_31 (j := 3) rfl rfl) (bq_nm bk_X11_like_31 (j := 4) rfl rfl) (bq_nm bk_X11_like_31 (j := 5) rfl rfl) rfl
theorem dX11_like_37 : decode cX11_like 37 = .ok (.invokestatic 67, 3) := dc_184 (bq_nm bk_X11_like_31 (j := 6) rfl rfl) (bq_nm bk_X11_like_31 (j := 7) rfl rfl) (bq_nm bk_X11_like_31 (j := 8) rfl rfl) rfl
theorem dX11_like_40 : decode cX11_like 40 = .ok (.ifCond .ne 7, 3) := dc_154 (bq_nm bk_X11_like_31 (j := 9) rfl rfl) (bq_nm bk_X11_like_31 (j := 10) rfl rfl) (bq_nm bk_X11_like_31 (j := 11) rfl rfl) rfl
theorem dX11_like_43 : decode cX11_like 43 = .ok (.sipush (-1000), 3) := dc_17 (bq_nm bk_X11_like_31 (j := 12) rfl rfl) (bq_nm bk_X11_like_31 (j := 13) rfl rfl) (bq_nm bk_X11_like_31 (j := 14) rfl rfl) rfl
theorem dX11_like_46 : decode cX11_like 46 = .ok (.ireturn, 1) := dc_172 (bq_nm bk_X11_like_31 (j := 15) rfl rfl)
theorem dX11_like_47 : decode cX11_like 47 = .ok (.sipush 1646, 3) := dc_17 (bq_nm bk_X11_like_31 (j := 16) rfl rfl) (bq_nm bk_X11_like_31 (j := 17) rfl rfl) (bq_nm bk_X11_like_31 (j := 18) rfl rfl) rfl
theorem dX11_like_50 : decode cX11_like 50 = .ok (.bipush 60, 2) := dc_16 (bq_nm bk_X11_like_31 (j := 19) rfl rfl) (bq_nm bk_X11_like_31 (j := 20) rfl rfl) rfl
theorem dX11_like_52 : decode cX11_like 52 = .ok (.iload_n 1, 1) := dc_27 (bq_nm bk_X11_like_31 (j := 21) rfl rfl)
theorem dX11_like_53 : decode cX11_like 53 = .ok (.imul, 1) := dc_104 (bq_nm bk_X11_like_31 (j := 22) rfl rfl)
theorem dX11_like_54 : decode cX11_like 54 = .ok (.iadd, 1) := dc_96 (bq_nm bk_X11_like_31 (j := 23) rfl rfl)
theorem dX11_like_55 : decode cX11_like 55 = .ok (.bipush 30, 2) := dc_16 (bq_nm bk_X11_like_31 (j := 24) rfl rfl) (bq_nm bk_X11_like_31 (j := 25) rfl rfl) rfl
theorem dX11_like_57 : decode cX11_like 57 = .ok (.iload_n 2, 1) := dc_28 (bq_nm bk_X11_like_31 (j := 26) rfl rfl)
theorem dX11_like_58 : decode cX11_like 58 = .ok (.imul, 1) := dc_104 (bq_nm bk_X11_like_31 (j := 27) rfl rfl)
theorem dX11_like_59 : decode cX11_like 59 = .ok (.iadd, 1) := dc_96 (bq_nm bk_X11_like_31 (j := 28) rfl rfl)
theorem dX11_like_60 : decode cX11_like 60 = .ok (.iload_n 3, 1) := dc_29 (bq_nm bk_X11_like_31 (j := 29) rfl rfl)
theorem dX11_like_61 : decode cX11_like 61 = .ok (.iadd, 1) := dc_96 (bq_nm bk_X11_like_31 (j := 30) rfl rfl)
set_option maxRecDepth 20000 in
theorem bk_X11_like_62 : ((cX11_like.data.toList.drop 62).take 28).length = 28 ∧ eN (((cX11_like.data.toList.drop 62).take 28).map UInt8.toNat) = 18116216615218308112428726739614925137236175910205911173880659707190 := by decide +kernel
theorem dX11_like_62 : decode cX11_like 62 = .ok (.istore 5, 2) := dc_54 (bq_nm bk_X11_like_62 (j := 0) rfl rfl) (bq_nm bk_X11_like_62 (j := 1) rfl rfl)
theorem dX11_like_64 : decode cX11_like 64 = .ok (.aload_n 0, 1) := dc_42 (bq_nm bk_X11_like_62 (j := 2) rfl rfl)
theorem dX11_like_65 : decode cX11_like 65 = .ok (.getfield 7, 3) := dc_180 (bq_nm bk_X11_like_62 (j := 3) rfl rfl) (bq_nm bk_X11_like_62 (j := 4) rfl rfl) (bq_nm bk_X11_like_62 (j := 5) rfl rfl) rfl
theorem dX11_like_68 : decode cX11_like 68 = .ok (.iload 5, 2) := dc_21 (bq_nm bk_X11_like_62 (j := 6) rfl rfl) (bq_nm bk_X11_like_62 (j := 7) rfl rfl)
theorem dX11_like_70 : decode cX11_like 70 = .ok (.iaload, 1) := dc_46 (bq_nm bk_X11_like_62 (j := 8) rfl rfl)
theorem dX11_like_71 : decode cX11_like 71 = .ok (.istore 6, 2) := dc_54 (bq_nm bk_X11_like_62 (j := 9) rfl rfl) (bq_nm bk_X11_like_62 (j := 10) rfl rfl)
theorem dX11_like_73 : decode cX11_like 73 = .ok (.aload_n 0, 1) := dc_42 (bq_nm bk_X11_like_62 (j := 11) rfl rfl)
theorem dX11_like_74 : decode cX11_like 74 = .ok (.getfield 7, 3) := dc_180 (bq_nm bk_X11_like_62 (j := 12) rfl rfl) (bq_nm bk_X11_like_62 (j := 13) rfl rfl) (bq_nm bk_X11_like_62 (j := 14) rfl rfl) rfl
theorem dX11_like_77 : decode cX11_like 77 = .ok (.iload 5, 2) := dc_21 (bq_nm bk_X11_like_62 (j := 15) rfl rfl) (bq_nm bk_X11_like_62 (j := 16) rfl rfl)
theorem dX11_like_79 : decode cX11_like 79 = .ok (.iload 4, 2) := dc_21 (bq_nm bk_X11_like_62 (j := 17) rfl rfl) (bq_nm bk_X11_like_62 (j := 18) rfl rfl)
theorem dX11_like_81 : decode cX11_like 81 = .ok (.iastore, 1) := dc_79 (bq_nm bk_X11_like_62 (j := 19) rfl rfl)
theorem dX11_like_82 : decode cX11_like 82 = .ok (.aload_n 0, 1) := dc_42 (bq_nm bk_X11_like_62 (j := 20) rfl rfl)
theorem dX11_like_83 : decode cX11_like 83 = .ok (.iconst 0, 1) := dc_3 (bq_nm bk_X11_like_62 (j := 21) rfl rfl)
theorem dX11_like_84 : decode cX11_like 84 = .ok (.putfield 71, 3) := dc_181 (bq_nm bk_X11_like_62 (j := 22) rfl rfl) (bq_nm bk_X11_like_62 (j := 23) rfl rfl) (bq_nm bk_X11_like_62 (j := 24) rfl rfl) rfl
theorem dX11_like_87 : decode cX11_like 87 = .ok (.iload 6, 2) := dc_21 (bq_nm bk_X11_like_62 (j := 25) rfl rfl) (bq_nm bk_X11_like_62 (j := 26) rfl rfl)
theorem dX11_like_89 : decode cX11_like 89 = .ok (.ireturn, 1) := dc_172 (bq_nm bk_X11_like_62 (j := 27) rfl rfl)
set_option maxRecDepth 20000 in
theorem bk_X11_kinOf_0 : ((cX11_kinOf.data.toList.drop 0).take 32).length = 32 ∧ eN (((cX11_kinOf.data.toList.drop 0).take 32).map UInt8.toNat) = 2298716362474604220944139265749581666914805509359624523088510338389992750595 := by decide +kernel
theorem dX11_kinOf_0 : decode cX11_kinOf 0 = .ok (.iconst 0, 1) := dc_3 (bq_nm bk_X11_kinOf_0 (j := 0) rfl rfl)
theorem dX11_kinOf_1 : decode cX11_kinOf 1 = .ok (.istore_n 3, 1) := dc_62 (bq_nm bk_X11_kinOf_0 (j := 1) rfl rfl)
theorem dX11_kinOf_2 : decode cX11_kinOf 2 = .ok (.iconst 0, 1) := dc_3 (bq_nm bk_X11_kinOf_0 (j := 2) rfl rfl)
theorem dX11_kinOf_3 : decode cX11_kinOf 3 = .ok (.istore 4, 2) := dc_54 (bq_nm bk_X11_kinOf_0 (j := 3) rfl rfl) (bq_nm bk_X11_kinOf_0 (j := 4) rfl rfl)
theorem dX11_kinOf_5 : decode cX11_kinOf 5 = .ok (.iload 4, 2) := dc_21 (bq_nm bk_X11_kinOf_0 (j := 5) rfl rfl) (bq_nm bk_X11_kinOf_0 (j := 6) rfl rfl)
theorem dX11_kinOf_7 : decode cX11_kinOf 7 = .ok (.aload_n 0, 1) := dc_42 (bq_nm bk_X11_kinOf_0 (j := 7) rfl rfl)
theorem dX11_kinOf_8 : decode cX11_kinOf 8 = .ok (.getfield 7, 3) := dc_180 (bq_nm bk_X11_kinOf_0 (j := 8) rfl rfl) (bq_nm bk_X11_kinOf_0 (j := 9) rfl rfl) (bq_nm bk_X11_kinOf_0 (j := 10) rfl rfl) rfl
theorem dX11_kinOf_11 : decode cX11_kinOf 11 = .ok (.iconst 1, 1) := dc_4 (bq_nm bk_X11_kinOf_0 (j := 11) rfl rfl)
theorem dX11_kinOf_12 : decode cX11_kinOf 12 = .ok (.iaload, 1) := dc_46 (bq_nm bk_X11_kinOf_0 (j := 12) rfl rfl)
theorem dX11_kinOf_13 : decode cX11_kinOf 13 = .ok (.if_icmp .ge 96, 3) := dc_162 (bq_nm bk_X11_kinOf_0 (j := 13) rfl rfl) (bq_nm bk_X11_kinOf_0 (j := 14) rfl rfl) (bq_nm bk_X11_kinOf_0 (j := 15) rfl rfl) rfl
theorem dX11_kinOf_16 : decode cX11_kinOf 16 = .ok (.sipush 130, 3) := dc_17 (bq_nm bk_X11_kinOf_0 (j := 16) rfl rfl) (bq_nm bk_X11_kinOf_0 (j := 17) rfl rfl) (bq_nm bk_X11_kinOf_0 (j := 18) rfl rfl) rfl
theorem dX11_kinOf_19 : decode cX11_kinOf 19 = .ok (.iconst 3, 1) := dc_6 (bq_nm bk_X11_kinOf_0 (j := 19) rfl rfl)
theorem dX11_kinOf_20 : decode cX11_kinOf 20 = .ok (.iload 4, 2) := dc_21 (bq_nm bk_X11_kinOf_0 (j := 20) rfl rfl) (bq_nm bk_X11_kinOf_0 (j := 21) rfl rfl)
theorem dX11_kinOf_22 : decode cX11_kinOf 22 = .ok (.imul, 1) := dc_104 (bq_nm bk_X11_kinOf_0 (j := 22) rfl rfl)
theorem dX11_kinOf_23 : decode cX11_kinOf 23 = .ok (.iadd, 1) := dc_96 (bq_nm bk_X11_kinOf_0 (j := 23) rfl rfl)
theorem dX11_kinOf_24 : decode cX11_kinOf 24 = .ok (.istore 5, 2) := dc_54 (bq_nm bk_X11_kinOf_0 (j := 24) rfl rfl) (bq_nm bk_X11_kinOf_0 (j := 25) rfl rfl)
theorem dX11_kinOf_26 : decode cX11_kinOf 26 = .ok (.aload_n 0, 1) := dc_42 (bq_nm bk_X11_kinOf_0 (j := 26) rfl rfl)
theorem dX11_kinOf_27 : decode cX11_kinOf 27 = .ok (.getfield 7, 3) := dc_180 (bq_nm bk_X11_kinOf_0 (j := 27) rfl rfl) (bq_nm bk_X11_kinOf_0 (j := 28) rfl rfl) (bq_nm bk_X11_kinOf_0 (j := 29) rfl rfl) rfl
theorem dX11_kinOf_30 : decode cX11_kinOf 30 = .ok (.iload 5, 2) := dc_21 (bq_nm bk_X11_kinOf_0 (j := 30) rfl rfl) (bq_nm bk_X11_kinOf_0 (j := 31) rfl rfl)
set_option maxRecDepth 20000 in
theorem bk_X11_kinOf_32 : ((cX11_kinOf.data.toList.drop 32).take 31).length = 31 ∧ eN (((cX11_kinOf.data.toList.drop 32).take 31).map UInt8.toNat) = 7115717394803925600967239052087061163558266615586773799775012503874854916 := by decide +kernel
theorem dX11_kinOf_32 : decode cX11_kinOf 32 = .ok (.iconst 1, 1) := dc_4 (bq_nm bk_X11_kinOf_32 (j := 0) rfl rfl)
theorem dX11_kinOf_33 : decode cX11_kinOf 33 = .ok (.iadd, 1) := dc_96 (bq_nm bk_X11_kinOf_32 (j := 1) rfl rfl)
theorem dX11_kinOf_34 : decode cX11_kinOf 34 = .ok (.iaload, 1) := dc_46 (bq_nm bk_X11_kinOf_32 (j := 2) rfl rfl)
theorem dX11_kinOf_35 : decode cX11_kinOf 35 = .ok (.aload_n 0, 1) := dc_42 (bq_nm bk_X11_kinOf_32 (j := 3) rfl rfl)
theorem dX11_kinOf_36 : decode cX11_kinOf 36 = .ok (.iload_n 1, 1) := dc_27 (bq_nm bk_X11_kinOf_32 (j := 4) rfl rfl)
theorem dX11_kinOf_37 : decode cX11_kinOf 37 = .ok (.iconst 3, 1) := dc_6 (bq_nm bk_X11_kinOf_32 (j := 5) rfl rfl)
theorem dX11_kinOf_38 : decode cX11_kinOf 38 = .ok (.invokevirtual 149, 3) := dc_182 (bq_nm bk_X11_kinOf_32 (j := 6) rfl rfl) (bq_nm bk_X11_kinOf_32 (j := 7) rfl rfl) (bq_nm bk_X11_kinOf_32 (j := 8) rfl rfl) rfl
theorem dX11_kinOf_41 : decode cX11_kinOf 41 = .ok (.if_icmp .eq 21, 3) := dc_159 (bq_nm bk_X11_kinOf_32 (j := 9) rfl rfl) (bq_nm bk_X11_kinOf_32 (j := 10) rfl rfl) (bq_nm bk_X11_kinOf_32 (j := 11) rfl rfl) rfl
theorem dX11_kinOf_44 : decode cX11_kinOf 44 = .ok (.aload_n 0, 1) := dc_42 (bq_nm bk_X11_kinOf_32 (j := 12) rfl rfl)
theorem dX11_kinOf_45 : decode cX11_kinOf 45 = .ok (.getfield 7, 3) := dc_180 (bq_nm bk_X11_kinOf_32 (j := 13) rfl rfl) (bq_nm bk_X11_kinOf_32 (j := 14) rfl rfl) (bq_nm bk_X11_kinOf_32 (j := 15) rfl rfl) rfl
theorem dX11_kinOf_48 : decode cX11_kinOf 48 = .ok (.iload 5, 2) := dc_21 (bq_nm bk_X11_kinOf_32 (j := 16) rfl rfl) (bq_nm bk_X11_kinOf_32 (j := 17) rfl rfl)
theorem dX11_kinOf_50 : decode cX11_kinOf 50 = .ok (.iconst 1, 1) := dc_4 (bq_nm bk_X11_kinOf_32 (j := 18) rfl rfl)
theorem dX11_kinOf_51 : decode cX11_kinOf 51 = .ok (.iadd, 1) := dc_96 (bq_nm bk_X11_kinOf_32 (j := 19) rfl rfl)
theorem dX11_kinOf_52 : decode cX11_kinOf 52 = .ok (.iaload, 1) := dc_46 (bq_nm bk_X11_kinOf_32 (j := 20) rfl rfl)
theorem dX11_kinOf_53 : decode cX11_kinOf 53 = .ok (.aload_n 0, 1) := dc_42 (bq_nm bk_X11_kinOf_32 (j := 21) rfl rfl)
theorem dX11_kinOf_54 : decode cX11_kinOf 54 = .ok (.iload_n 1, 1) := dc_27 (bq_nm bk_X11_kinOf_32 (j := 22) rfl rfl)
theorem dX11_kinOf_55 : decode cX11_kinOf 55 = .ok (.iconst 4, 1) := dc_7 (bq_nm bk_X11_kinOf_32 (j := 23) rfl rfl)
theorem dX11_kinOf_56 : decode cX11_kinOf 56 = .ok (.invokevirtual 149, 3) := dc_182 (bq_nm bk_X11_kinOf_32 (j := 24) rfl rfl) (bq_nm bk_X11_kinOf_32 (j := 25) rfl rfl) (bq_nm bk_X11_kinOf_32 (j := 26) rfl rfl) rfl
theorem dX11_kinOf_59 : decode cX11_kinOf 59 = .ok (.if_icmp .ne 7, 3) := dc_160 (bq_nm bk_X11_kinOf_32 (j := 27) rfl rfl) (bq_nm bk_X11_kinOf_32 (j := 28) rfl rfl) (bq_nm bk_X11_kinOf_32 (j := 29) rfl rfl) rfl
theorem dX11_kinOf_62 : decode cX11_kinOf 62 = .ok (.iconst 1, 1) := dc_4 (bq_nm bk_X11_kinOf_32 (j := 30) rfl rfl)
set_option maxRecDepth 20000 in
theorem bk_X11_kinOf_63 : ((cX11_kinOf.data.toList.drop 63).take 32).length = 32 ∧ eN (((cX11_kinOf.data.toList.drop 63).take 32).map UInt8.toNat) = 2298716362474602366850874269730316721452390861511807329960925086994296733863 := by decide +kernel
theorem dX11_kinOf_63 : decode cX11_kinOf 63 = .ok (.goto 4, 3) := dc_167 (bq_nm bk_X11_kinOf_63 (j := 0) rfl rfl) (bq_nm bk_X11_kinOf_63 (j := 1) rfl rfl) (bq_nm bk_X11_kinOf_63 (j := 2) rfl rfl) rfl
theorem dX11_kinOf_66 : decode cX11_kinOf 66 = .ok (.iconst 0, 1) := dc_3 (bq_nm bk_X11_kinOf_63 (j := 3) rfl rfl)
theorem dX11_kinOf_67 : decode cX11_kinOf 67 = .ok (.istore 6, 2) := dc_54 (bq_nm bk_X11_kinOf_63 (j := 4) rfl rfl) (bq_nm bk_X11_kinOf_63 (j := 5) rfl rfl)
theorem dX11_kinOf_69 : decode cX11_kinOf 69 = .ok (.iload_n 3, 1) := dc_29 (bq_nm bk_X11_kinOf_63 (j := 6) rfl rfl)
theorem dX11_kinOf_70 : decode cX11_kinOf 70 = .ok (.iload 6, 2) := dc_21 (bq_nm bk_X11_kinOf_63 (j := 7) rfl rfl) (bq_nm bk_X11_kinOf_63 (j := 8) rfl rfl)
theorem dX11_kinOf_72 : decode cX11_kinOf 72 = .ok (.ifCond .eq 28, 3) := dc_153 (bq_nm bk_X11_kinOf_63 (j := 9) rfl rfl) (bq_nm bk_X11_kinOf_63 (j := 10) rfl rfl) (bq_nm bk_X11_kinOf_63 (j := 11) rfl rfl) rfl
theorem dX11_kinOf_75 : decode cX11_kinOf 75 = .ok (.aload_n 0, 1) := dc_42 (bq_nm bk_X11_kinOf_63 (j := 12) rfl rfl)
theorem dX11_kinOf_76 : decode cX11_kinOf 76 = .ok (.getfield 7, 3) := dc_180 (bq_nm bk_X11_kinOf_63 (j := 13) rfl rfl) (bq_nm bk_X11_kinOf_63 (j := 14) rfl rfl) (bq_nm bk_X11_kinOf_63 (j := 15) rfl rfl) rfl
theorem dX11_kinOf_79 : decode cX11_kinOf 79 = .ok (.iload 5, 2) := dc_21 (bq_nm bk_X11_kinOf_63 (j := 16) rfl rfl) (bq_nm bk_X11_kinOf_63 (j := 17) rfl rfl)
theorem dX11_kinOf_81 : decode cX11_kinOf 81 = .ok (.iconst 2, 1) := dc_5 (bq_nm bk_X11_kinOf_63 (j := 18) rfl rfl)
theorem dX11_kinOf_82 : decode cX11_kinOf 82 = .ok (.iadd, 1) := dc_96 (bq_nm bk_X11_kinOf_63 (j := 19) rfl rfl)
theorem dX11_kinOf_83 : decode cX11_kinOf 83 = .ok (.iaload, 1) := dc_46 (bq_nm bk_X11_kinOf_63 (j := 20) rfl rfl)
theorem dX11_kinOf_84 : decode cX11_kinOf 84 = .ok (.iload_n 2, 1) := dc_28 (bq_nm bk_X11_kinOf_63 (j := 21) rfl rfl)
theorem dX11_kinOf_85 : decode cX11_kinOf 85 = .ok (.if_icmp .gt 15, 3) := dc_163 (bq_nm bk_X11_kinOf_63 (j := 22) rfl rfl) (bq_nm bk_X11_kinOf_63 (j := 23) rfl rfl) (bq_nm bk_X11_kinOf_63 (j := 24) rfl rfl) rfl
theorem dX11_kinOf_88 : decode cX11_kinOf 88 = .ok (.iconst 1, 1) := dc_4 (bq_nm bk_X11_kinOf_63 (j := 25) rfl rfl)
theorem dX11_kinOf_89 : decode cX11_kinOf 89 = .ok (.aload_n 0, 1) := dc_42 (bq_nm bk_X11_kinOf_63 (j := 26) rfl rfl)
theorem dX11_kinOf_90 : decode cX11_kinOf 90 = .ok (.getfield 7, 3) := dc_180 (bq_nm bk_X11_kinOf_63 (j := 27) rfl rfl) (bq_nm bk_X11_kinOf_63 (j := 28) rfl rfl) (bq_nm bk_X11_kinOf_63 (j := 29) rfl rfl) rfl
theorem dX11_kinOf_93 : decode cX11_kinOf 93 = .ok (.iload 5, 2) := dc_21 (bq_nm bk_X11_kinOf_63 (j := 30) rfl rfl) (bq_nm bk_X11_kinOf_63 (j := 31) rfl rfl)
set_option maxRecDepth 20000 in
theorem bk_X11_kinOf_95 : ((cX11_kinOf.data.toList.drop 95).take 16).length = 16 ∧ eN (((cX11_kinOf.data.toList.drop 95).take 16).map UInt8.toNat) = 228780955912258274181927990196974352430 := by decide +kernel
theorem dX11_kinOf_95 : decode cX11_kinOf 95 = .ok (.iaload, 1) := dc_46 (bq_nm bk_X11_kinOf_95 (j := 0) rfl rfl)
theorem dX11_kinOf_96 : decode cX11_kinOf 96 = .ok (.ishl, 1) := dc_120 (bq_nm bk_X11_kinOf_95 (j := 1) rfl rfl)
theorem dX11_kinOf_97 : decode cX11_kinOf 97 = .ok (.goto 4, 3) := dc_167 (bq_nm bk_X11_kinOf_95 (j := 2) rfl rfl) (bq_nm bk_X11_kinOf_95 (j := 3) rfl rfl) (bq_nm bk_X11_kinOf_95 (j := 4) rfl rfl) rfl
theorem dX11_kinOf_100 : decode cX11_kinOf 100 = .ok (.iconst 0, 1) := dc_3 (bq_nm bk_X11_kinOf_95 (j := 5) rfl rfl)
theorem dX11_kinOf_101 : decode cX11_kinOf 101 = .ok (.ior, 1) := dc_128 (bq_nm bk_X11_kinOf_95 (j := 6) rfl rfl)
theorem dX11_kinOf_102 : decode cX11_kinOf 102 = .ok (.istore_n 3, 1) := dc_62 (bq_nm bk_X11_kinOf_95 (j := 7) rfl rfl)
theorem dX11_kinOf_103 : decode cX11_kinOf 103 = .ok (.iinc 4 1, 3) := dc_132 (bq_nm bk_X11_kinOf_95 (j := 8) rfl rfl) (bq_nm bk_X11_kinOf_95 (j := 9) rfl rfl) (bq_nm bk_X11_kinOf_95 (j := 10) rfl rfl) rfl
theorem dX11_kinOf_106 : decode cX11_kinOf 106 = .ok (.goto (-101), 3) := dc_167 (bq_nm bk_X11_kinOf_95 (j := 11) rfl rfl) (bq_nm bk_X11_kinOf_95 (j := 12) rfl rfl) (bq_nm bk_X11_kinOf_95 (j := 13) rfl rfl) rfl
theorem dX11_kinOf_109 : decode cX11_kinOf 109 = .ok (.iload_n 3, 1) := dc_29 (bq_nm bk_X11_kinOf_95 (j := 14) rfl rfl)
theorem dX11_kinOf_110 : decode cX11_kinOf 110 = .ok (.ireturn, 1) := dc_172 (bq_nm bk_X11_kinOf_95 (j := 15) rfl rfl)
set_option maxRecDepth 20000 in
theorem bk_X11_sitting_0 : ((cX11_sitting.data.toList.drop 0).take 32).length = 32 ∧ eN (((cX11_sitting.data.toList.drop 0).take 32).map UInt8.toNat) = 19048382583058397723116079512686186518875911630900781015197860112152515525891 := by decide +kernel
theorem dX11_sitting_0 : decode cX11_sitting 0 = .ok (.iconst 0, 1) := dc_3 (bq_nm bk_X11_sitting_0 (j := 0) rfl rfl)
theorem dX11_sitting_1 : decode cX11_sitting 1 = .ok (.istore_n 2, 1) := dc_61 (bq_nm bk_X11_sitting_0 (j := 1) rfl rfl)
theorem dX11_sitting_2 : decode cX11_sitting 2 = .ok (.iconst 0, 1) := dc_3 (bq_nm bk_X11_sitting_0 (j := 2) rfl rfl)
theorem dX11_sitting_3 : decode cX11_sitting 3 = .ok (.istore_n 3, 1) := dc_62 (bq_nm bk_X11_sitting_0 (j := 3) rfl rfl)
theorem dX11_sitting_4 : decode cX11_sitting 4 = .ok (.iload_n 3, 1) := dc_29 (bq_nm bk_X11_sitting_0 (j := 4) rfl rfl)
theorem dX11_sitting_5 : decode cX11_sitting 5 = .ok (.iload_n 1, 1) := dc_27 (bq_nm bk_X11_sitting_0 (j := 5) rfl rfl)
theorem dX11_sitting_6 : decode cX11_sitting 6 = .ok (.if_icmp .ge 78, 3) := dc_162 (bq_nm bk_X11_sitting_0 (j := 6) rfl rfl) (bq_nm bk_X11_sitting_0 (j := 7) rfl rfl) (bq_nm bk_X11_sitting_0 (j := 8) rfl rfl) rfl
theorem dX11_sitting_9 : decode cX11_sitting 9 = .ok (.aload_n 0, 1) := dc_42 (bq_nm bk_X11_sitting_0 (j := 9) rfl rfl)
theorem dX11_sitting_10 : decode cX11_sitting 10 = .ok (.iload_n 3, 1) := dc_29 (bq_nm bk_X11_sitting_0 (j := 10) rfl rfl)
theorem dX11_sitting_11 : decode cX11_sitting 11 = .ok (.iconst 0, 1) := dc_3 (bq_nm bk_X11_sitting_0 (j := 11) rfl rfl)
theorem dX11_sitting_12 : decode cX11_sitting 12 = .ok (.invokevirtual 149, 3) := dc_182 (bq_nm bk_X11_sitting_0 (j := 12) rfl rfl) (bq_nm bk_X11_sitting_0 (j := 13) rfl rfl) (bq_nm bk_X11_sitting_0 (j := 14) rfl rfl) rfl
theorem dX11_sitting_15 : decode cX11_sitting 15 = .ok (.aload_n 0, 1) := dc_42 (bq_nm bk_X11_sitting_0 (j := 15) rfl rfl)
theorem dX11_sitting_16 : decode cX11_sitting 16 = .ok (.iload_n 1, 1) := dc_27 (bq_nm bk_X11_sitting_0 (j := 16) rfl rfl)
theorem dX11_sitting_17 : decode cX11_sitting 17 = .ok (.iconst 0, 1) := dc_3 (bq_nm bk_X11_sitting_0 (j := 17) rfl rfl)
theorem dX11_sitting_18 : decode cX11_sitting 18 = .ok (.invokevirtual 149, 3) := dc_182 (bq_nm bk_X11_sitting_0 (j := 18) rfl rfl) (bq_nm bk_X11_sitting_0 (j := 19) rfl rfl) (bq_nm bk_X11_sitting_0 (j := 20) rfl rfl) rfl
theorem dX11_sitting_21 : decode cX11_sitting 21 = .ok (.aload_n 0, 1) := dc_42 (bq_nm bk_X11_sitting_0 (j := 21) rfl rfl)
theorem dX11_sitting_22 : decode cX11_sitting 22 = .ok (.iload_n 1, 1) := dc_27 (bq_nm bk_X11_sitting_0 (j := 22) rfl rfl)
theorem dX11_sitting_23 : decode cX11_sitting 23 = .ok (.iconst 1, 1) := dc_4 (bq_nm bk_X11_sitting_0 (j := 23) rfl rfl)
theorem dX11_sitting_24 : decode cX11_sitting 24 = .ok (.invokevirtual 149, 3) := dc_182 (bq_nm bk_X11_sitting_0 (j := 24) rfl rfl) (bq_nm bk_X11_sitting_0 (j := 25) rfl rfl) (bq_nm bk_X11_sitting_0 (j := 26) rfl rfl) rfl
theorem dX11_sitting_27 : decode cX11_sitting 27 = .ok (.iadd, 1) := dc_96 (bq_nm bk_X11_sitting_0 (j := 27) rfl rfl)
theorem dX11_sitting_28 : decode cX11_sitting 28 = .ok (.if_icmp .ge 29, 3) := dc_162 (bq_nm bk_X11_sitting_0 (j := 28) rfl rfl) (bq_nm bk_X11_sitting_0 (j := 29) rfl rfl) (bq_nm bk_X11_sitting_0 (j := 30) rfl rfl) rfl
theorem dX11_sitting_31 : decode cX11_sitting 31 = .ok (.aload_n 0, 1) := dc_42 (bq_nm bk_X11_sitting_0 (j := 31) rfl rfl)
set_option maxRecDepth 20000 in
theorem bk_X11_sitting_32 : ((cX11_sitting.data.toList.drop 32).take 31).length = 31 ∧ eN (((cX11_sitting.data.toList.drop 32).take 31).map UInt8.toNat) = 7213080254371143512385246450412741400764025843351202647869760767488557851 := by decide +kernel
theorem dX11_sitting_32 : decode cX11_sitting 32 = .ok (.iload_n 1, 1) := dc_27 (bq_nm bk_X11_sitting_32 (j := 0) rfl rfl)
theorem dX11_sitting_33 : decode cX11_sitting 33 = .ok (.iconst 0, 1) := dc_3 (bq_nm bk_X11_sitting_32 (j := 1) rfl rfl)
theorem dX11_sitting_34 : decode cX11_sitting 34 = .ok (.invokevirtual 149, 3) := dc_182 (bq_nm bk_X11_sitting_32 (j := 2) rfl rfl) (bq_nm bk_X11_sitting_32 (j := 3) rfl rfl) (bq_nm bk_X11_sitting_32 (j := 4) rfl rfl) rfl
theorem dX11_sitting_37 : decode cX11_sitting 37 = .ok (.aload_n 0, 1) := dc_42 (bq_nm bk_X11_sitting_32 (j := 5) rfl rfl)
theorem dX11_sitting_38 : decode cX11_sitting 38 = .ok (.iload_n 3, 1) := dc_29 (bq_nm bk_X11_sitting_32 (j := 6) rfl rfl)
theorem dX11_sitting_39 : decode cX11_sitting 39 = .ok (.iconst 0, 1) := dc_3 (bq_nm bk_X11_sitting_32 (j := 7) rfl rfl)
theorem dX11_sitting_40 : decode cX11_sitting 40 = .ok (.invokevirtual 149, 3) := dc_182 (bq_nm bk_X11_sitting_32 (j := 8) rfl rfl) (bq_nm bk_X11_sitting_32 (j := 9) rfl rfl) (bq_nm bk_X11_sitting_32 (j := 10) rfl rfl) rfl
theorem dX11_sitting_43 : decode cX11_sitting 43 = .ok (.aload_n 0, 1) := dc_42 (bq_nm bk_X11_sitting_32 (j := 11) rfl rfl)
theorem dX11_sitting_44 : decode cX11_sitting 44 = .ok (.iload_n 3, 1) := dc_29 (bq_nm bk_X11_sitting_32 (j := 12) rfl rfl)
theorem dX11_sitting_45 : decode cX11_sitting 45 = .ok (.iconst 1, 1) := dc_4 (bq_nm bk_X11_sitting_32 (j := 13) rfl rfl)
theorem dX11_sitting_46 : decode cX11_sitting 46 = .ok (.invokevirtual 149, 3) := dc_182 (bq_nm bk_X11_sitting_32 (j := 14) rfl rfl) (bq_nm bk_X11_sitting_32 (j := 15) rfl rfl) (bq_nm bk_X11_sitting_32 (j := 16) rfl rfl) rfl
theorem dX11_sitting_49 : decode cX11_sitting 49 = .ok (.iadd, 1) := dc_96 (bq_nm bk_X11_sitting_32 (j := 17) rfl rfl)
theorem dX11_sitting_50 : decode cX11_sitting 50 = .ok (.if_icmp .ge 7, 3) := dc_162 (bq_nm bk_X11_sitting_32 (j := 18) rfl rfl) (bq_nm bk_X11_sitting_32 (j := 19) rfl rfl) (bq_nm bk_X11_sitting_32 (j := 20) rfl rfl) rfl
theorem dX11_sitting_53 : decode cX11_sitting 53 = .ok (.iconst 1, 1) := dc_4 (bq_nm bk_X11_sitting_32 (j := 21) rfl rfl)
theorem dX11_sitting_54 : decode cX11_sitting 54 = .ok (.goto 4, 3) := dc_167 (bq_nm bk_X11_sitting_32 (j := 22) rfl rfl) (bq_nm bk_X11_sitting_32 (j := 23) rfl rfl) (bq_nm bk_X11_sitting_32 (j := 24) rfl rfl) rfl
theorem dX11_sitting_57 : decode cX11_sitting 57 = .ok (.iconst 0, 1) := dc_3 (bq_nm bk_X11_sitting_32 (j := 25) rfl rfl)
theorem dX11_sitting_58 : decode cX11_sitting 58 = .ok (.istore 4, 2) := dc_54 (bq_nm bk_X11_sitting_32 (j := 26) rfl rfl) (bq_nm bk_X11_sitting_32 (j := 27) rfl rfl)
theorem dX11_sitting_60 : decode cX11_sitting 60 = .ok (.iload_n 2, 1) := dc_28 (bq_nm bk_X11_sitting_32 (j := 28) rfl rfl)
theorem dX11_sitting_61 : decode cX11_sitting 61 = .ok (.iload 4, 2) := dc_21 (bq_nm bk_X11_sitting_32 (j := 29) rfl rfl) (bq_nm bk_X11_sitting_32 (j := 30) rfl rfl)
set_option maxRecDepth 20000 in
theorem bk_X11_sitting_63 : ((cX11_sitting.data.toList.drop 63).take 23).length = 23 ∧ eN (((cX11_sitting.data.toList.drop 63).take 23).map UInt8.toNat) = 16485066176354734688236420220813985249675719267968614553 := by decide +kernel
theorem dX11_sitting_63 : decode cX11_sitting 63 = .ok (.ifCond .eq 12, 3) := dc_153 (bq_nm bk_X11_sitting_63 (j := 0) rfl rfl) (bq_nm bk_X11_sitting_63 (j := 1) rfl rfl) (bq_nm bk_X11_sitting_63 (j := 2) rfl rfl) rfl
theorem dX11_sitting_66 : decode cX11_sitting 66 = .ok (.aload_n 0, 1) := dc_42 (bq_nm bk_X11_sitting_63 (j := 3) rfl rfl)
theorem dX11_sitting_67 : decode cX11_sitting 67 = .ok (.getfield 36, 3) := dc_180 (bq_nm bk_X11_sitting_63 (j := 4) rfl rfl) (bq_nm bk_X11_sitting_63 (j := 5) rfl rfl) (bq_nm bk_X11_sitting_63 (j := 6) rfl rfl) rfl
theorem dX11_sitting_70 : decode cX11_sitting 70 = .ok (.iload_n 3, 1) := dc_29 (bq_nm bk_X11_sitting_63 (j := 7) rfl rfl)
theorem dX11_sitting_71 : decode cX11_sitting 71 = .ok (.iaload, 1) := dc_46 (bq_nm bk_X11_sitting_63 (j := 8) rfl rfl)
theorem dX11_sitting_72 : decode cX11_sitting 72 = .ok (.goto 4, 3) := dc_167 (bq_nm bk_X11_sitting_63 (j := 9) rfl rfl) (bq_nm bk_X11_sitting_63 (j := 10) rfl rfl) (bq_nm bk_X11_sitting_63 (j := 11) rfl rfl) rfl
theorem dX11_sitting_75 : decode cX11_sitting 75 = .ok (.iconst 0, 1) := dc_3 (bq_nm bk_X11_sitting_63 (j := 12) rfl rfl)
theorem dX11_sitting_76 : decode cX11_sitting 76 = .ok (.ior, 1) := dc_128 (bq_nm bk_X11_sitting_63 (j := 13) rfl rfl)
theorem dX11_sitting_77 : decode cX11_sitting 77 = .ok (.istore_n 2, 1) := dc_61 (bq_nm bk_X11_sitting_63 (j := 14) rfl rfl)
theorem dX11_sitting_78 : decode cX11_sitting 78 = .ok (.iinc 3 1, 3) := dc_132 (bq_nm bk_X11_sitting_63 (j := 15) rfl rfl) (bq_nm bk_X11_sitting_63 (j := 16) rfl rfl) (bq_nm bk_X11_sitting_63 (j := 17) rfl rfl) rfl
theorem dX11_sitting_81 : decode cX11_sitting 81 = .ok (.goto (-77), 3) := dc_167 (bq_nm bk_X11_sitting_63 (j := 18) rfl rfl) (bq_nm bk_X11_sitting_63 (j := 19) rfl rfl) (bq_nm bk_X11_sitting_63 (j := 20) rfl rfl) rfl
theorem dX11_sitting_84 : decode cX11_sitting 84 = .ok (.iload_n 2, 1) := dc_28 (bq_nm bk_X11_sitting_63 (j := 21) rfl rfl)
theorem dX11_sitting_85 : decode cX11_sitting 85 = .ok (.ireturn, 1) := dc_172 (bq_nm bk_X11_sitting_63 (j := 22) rfl rfl)
set_option maxRecDepth 20000 in
theorem bk_X11_draws_0 : ((cX11_draws.data.toList.drop 0).take 32).length = 32 ∧ eN (((cX11_draws.data.toList.drop 0).take 32).map UInt8.toNat) = 13207186666437699471226765374348973776302022249191728688320703149666690350595 := by decide +kernel
theorem dX11_draws_0 : decode cX11_draws 0 = .ok (.iconst 0, 1) := dc_3 (bq_nm bk_X11_draws_0 (j := 0) rfl rfl)
theorem dX11_draws_1 : decode cX11_draws 1 = .ok (.istore_n 3, 1) := dc_62 (bq_nm bk_X11_draws_0 (j := 1) rfl rfl)
theorem dX11_draws_2 : decode cX11_draws 2 = .ok (.iconst 0, 1) := dc_3 (bq_nm bk_X11_draws_0 (j := 2) rfl rfl)
theorem dX11_draws_3 : decode cX11_draws 3 = .ok (.istore 4, 2) := dc_54 (bq_nm bk_X11_draws_0 (j := 3) rfl rfl) (bq_nm bk_X11_draws_0 (j := 4) rfl rfl)
theorem dX11_draws_5 : decode cX11_draws 5 = .ok (.iload 4, 2) := dc_21 (bq_nm bk_X11_draws_0 (j := 5) rfl rfl) (bq_nm bk_X11_draws_0 (j := 6) rfl rfl)
theorem dX11_draws_7 : decode cX11_draws 7 = .ok (.bipush 30, 2) := dc_16 (bq_nm bk_X11_draws_0 (j := 7) rfl rfl) (bq_nm bk_X11_draws_0 (j := 8) rfl rfl) rfl
theorem dX11_draws_9 : decode cX11_draws 9 = .ok (.if_icmp .ge 35, 3) := dc_162 (bq_nm bk_X11_draws_0 (j := 9) rfl rfl) (bq_nm bk_X11_draws_0 (j := 10) rfl rfl) (bq_nm bk_X11_draws_0 (j := 11) rfl rfl) rfl
theorem dX11_draws_12 : decode cX11_draws 12 = .ok (.aload_n 0, 1) := dc_42 (bq_nm bk_X11_draws_0 (j := 12) rfl rfl)
theorem dX11_draws_13 : decode cX11_draws 13 = .ok (.getfield 33, 3) := dc_180 (bq_nm bk_X11_draws_0 (j := 13) rfl rfl) (bq_nm bk_X11_draws_0 (j := 14) rfl rfl) (bq_nm bk_X11_draws_0 (j := 15) rfl rfl) rfl
theorem dX11_draws_16 : decode cX11_draws 16 = .ok (.iload_n 2, 1) := dc_28 (bq_nm bk_X11_draws_0 (j := 16) rfl rfl)
theorem dX11_draws_17 : decode cX11_draws 17 = .ok (.iaload, 1) := dc_46 (bq_nm bk_X11_draws_0 (j := 17) rfl rfl)
theorem dX11_draws_18 : decode cX11_draws 18 = .ok (.iload 4, 2) := dc_21 (bq_nm bk_X11_draws_0 (j := 18) rfl rfl) (bq_nm bk_X11_draws_0 (j := 19) rfl rfl)
theorem dX11_draws_20 : decode cX11_draws 20 = .ok (.ishr, 1) := dc_122 (bq_nm bk_X11_draws_0 (j := 20) rfl rfl)
theorem dX11_draws_21 : decode cX11_draws 21 = .ok (.iconst 1, 1) := dc_4 (bq_nm bk_X11_draws_0 (j := 21) rfl rfl)
theorem dX11_draws_22 : decode cX11_draws 22 = .ok (.iand, 1) := dc_126 (bq_nm bk_X11_draws_0 (j := 22) rfl rfl)
theorem dX11_draws_23 : decode cX11_draws 23 = .ok (.iconst 1, 1) := dc_4 (bq_nm bk_X11_draws_0 (j := 23) rfl rfl)
theorem dX11_draws_24 : decode cX11_draws 24 = .ok (.if_icmp .ne 14, 3) := dc_160 (bq_nm bk_X11_draws_0 (j := 24) rfl rfl) (bq_nm bk_X11_draws_0 (j := 25) rfl rfl) (bq_nm bk_X11_draws_0 (j := 26) rfl rfl) rfl
theorem dX11_draws_27 : decode cX11_draws 27 = .ok (.aload_n 0, 1) := dc_42 (bq_nm bk_X11_draws_0 (j := 27) rfl rfl)
theorem dX11_draws_28 : decode cX11_draws 28 = .ok (.getfield 51, 3) := dc_180 (bq_nm bk_X11_draws_0 (j := 28) rfl rfl) (bq_nm bk_X11_draws_0 (j := 29) rfl rfl) (bq_nm bk_X11_draws_0 (j := 30) rfl rfl) rfl
theorem dX11_draws_31 : decode cX11_draws 31 = .ok (.iload_n 3, 1) := dc_29 (bq_nm bk_X11_draws_0 (j := 31) rfl rfl)
set_option maxRecDepth 20000 in
theorem bk_X11_draws_32 : ((cX11_draws.data.toList.drop 32).take 32).length = 32 ∧ eN (((cX11_draws.data.toList.drop 32).take 32).map UInt8.toNat) = 51112443155991298570787375924954232544835021476257255557678524901660772205589 := by decide +kernel
theorem dX11_draws_32 : decode cX11_draws 32 = .ok (.iload 4, 2) := dc_21 (bq_nm bk_X11_draws_32 (j := 0) rfl rfl) (bq_nm bk_X11_draws_32 (j := 1) rfl rfl)
theorem dX11_draws_34 : decode cX11_draws 34 = .ok (.iastore, 1) := dc_79 (bq_nm bk_X11_draws_32 (j := 2) rfl rfl)
theorem dX11_draws_35 : decode cX11_draws 35 = .ok (.iinc 3 1, 3) := dc_132 (bq_nm bk_X11_draws_32 (j := 3) rfl rfl) (bq_nm bk_X11_draws_32 (j := 4) rfl rfl) (bq_nm bk_X11_draws_32 (j := 5) rfl rfl) rfl
theorem dX11_draws_38 : decode cX11_draws 38 = .ok (.iinc 4 1, 3) := dc_132 (bq_nm bk_X11_draws_32 (j := 6) rfl rfl) (bq_nm bk_X11_draws_32 (j := 7) rfl rfl) (bq_nm bk_X11_draws_32 (j := 8) rfl rfl) rfl
theorem dX11_draws_41 : decode cX11_draws 41 = .ok (.goto (-36), 3) := dc_167 (bq_nm bk_X11_draws_32 (j := 9) rfl rfl) (bq_nm bk_X11_draws_32 (j := 10) rfl rfl) (bq_nm bk_X11_draws_32 (j := 11) rfl rfl) rfl
theorem dX11_draws_44 : decode cX11_draws 44 = .ok (.aload_n 0, 1) := dc_42 (bq_nm bk_X11_draws_32 (j := 12) rfl rfl)
theorem dX11_draws_45 : decode cX11_draws 45 = .ok (.iload_n 1, 1) := dc_27 (bq_nm bk_X11_draws_32 (j := 13) rfl rfl)
theorem dX11_draws_46 : decode cX11_draws 46 = .ok (.bipush 7, 2) := dc_16 (bq_nm bk_X11_draws_32 (j := 14) rfl rfl) (bq_nm bk_X11_draws_32 (j := 15) rfl rfl) rfl
theorem dX11_draws_48 : decode cX11_draws 48 = .ok (.invokevirtual 149, 3) := dc_182 (bq_nm bk_X11_draws_32 (j := 16) rfl rfl) (bq_nm bk_X11_draws_32 (j := 17) rfl rfl) (bq_nm bk_X11_draws_32 (j := 18) rfl rfl) rfl
theorem dX11_draws_51 : decode cX11_draws 51 = .ok (.istore 4, 2) := dc_54 (bq_nm bk_X11_draws_32 (j := 19) rfl rfl) (bq_nm bk_X11_draws_32 (j := 20) rfl rfl)
theorem dX11_draws_53 : decode cX11_draws 53 = .ok (.aload_n 0, 1) := dc_42 (bq_nm bk_X11_draws_32 (j := 21) rfl rfl)
theorem dX11_draws_54 : decode cX11_draws 54 = .ok (.getfield 42, 3) := dc_180 (bq_nm bk_X11_draws_32 (j := 22) rfl rfl) (bq_nm bk_X11_draws_32 (j := 23) rfl rfl) (bq_nm bk_X11_draws_32 (j := 24) rfl rfl) rfl
theorem dX11_draws_57 : decode cX11_draws 57 = .ok (.iload_n 2, 1) := dc_28 (bq_nm bk_X11_draws_32 (j := 25) rfl rfl)
theorem dX11_draws_58 : decode cX11_draws 58 = .ok (.iconst 0, 1) := dc_3 (bq_nm bk_X11_draws_32 (j := 26) rfl rfl)
theorem dX11_draws_59 : decode cX11_draws 59 = .ok (.iastore, 1) := dc_79 (bq_nm bk_X11_draws_32 (j := 27) rfl rfl)
theorem dX11_draws_60 : decode cX11_draws 60 = .ok (.iload_n 3, 1) := dc_29 (bq_nm bk_X11_draws_32 (j := 28) rfl rfl)
theorem dX11_draws_61 : decode cX11_draws 61 = .ok (.ifCond .le 113, 3) := dc_158 (bq_nm bk_X11_draws_32 (j := 29) rfl rfl) (bq_nm bk_X11_draws_32 (j := 30) rfl rfl) (bq_nm bk_X11_draws_32 (j := 31) rfl rfl) rfl
set_option maxRecDepth 20000 in
theorem bk_X11_draws_64 : ((cX11_draws.data.toList.drop 64).take 32).length = 32 ∧ eN (((cX11_draws.data.toList.drop 64).take 32).map UInt8.toNat) = 55210547618189579856697457080779860846078325906929425212233388634057526522922 := by decide +kernel
theorem dX11_draws_64 : decode cX11_draws 64 = .ok (.aload_n 0, 1) := dc_42 (bq_nm bk_X11_draws_64 (j := 0) rfl rfl)
theorem dX11_draws_65 : decode cX11_draws 65 = .ok (.getfield 42, 3) := dc_180 (bq_nm bk_X11_draws_64 (j := 1) rfl rfl) (bq_nm bk_X11_draws_64 (j := 2) rfl rfl) (bq_nm bk_X11_draws_64 (j := 3) rfl rfl) rfl
theorem dX11_draws_68 : decode cX11_draws 68 = .ok (.iload_n 2, 1) := dc_28 (bq_nm bk_X11_draws_64 (j := 4) rfl rfl)
theorem dX11_draws_69 : decode cX11_draws 69 = .ok (.iaload, 1) := dc_46 (bq_nm bk_X11_draws_64 (j := 5) rfl rfl)
theorem dX11_draws_70 : decode cX11_draws 70 = .ok (.aload_n 0, 1) := dc_42 (bq_nm bk_X11_draws_64 (j := 6) rfl rfl)
theorem dX11_draws_71 : decode cX11_draws 71 = .ok (.iload_n 1, 1) := dc_27 (bq_nm bk_X11_draws_64 (j := 7) rfl rfl)
theorem dX11_draws_72 : decode cX11_draws 72 = .ok (.bipush 8, 2) := dc_16 (bq_nm bk_X11_draws_64 (j := 8) rfl rfl) (bq_nm bk_X11_draws_64 (j := 9) rfl rfl) rfl
theorem dX11_draws_74 : decode cX11_draws 74 = .ok (.invokevirtual 149, 3) := dc_182 (bq_nm bk_X11_draws_64 (j := 10) rfl rfl) (bq_nm bk_X11_draws_64 (j := 11) rfl rfl) (bq_nm bk_X11_draws_64 (j := 12) rfl rfl) rfl
theorem dX11_draws_77 : decode cX11_draws 77 = .ok (.if_icmp .ge 97, 3) := dc_162 (bq_nm bk_X11_draws_64 (j := 13) rfl rfl) (bq_nm bk_X11_draws_64 (j := 14) rfl rfl) (bq_nm bk_X11_draws_64 (j := 15) rfl rfl) rfl
theorem dX11_draws_80 : decode cX11_draws 80 = .ok (.iload 4, 2) := dc_21 (bq_nm bk_X11_draws_64 (j := 16) rfl rfl) (bq_nm bk_X11_draws_64 (j := 17) rfl rfl)
theorem dX11_draws_82 : decode cX11_draws 82 = .ok (.ldc 204, 2) := dc_18 (bq_nm bk_X11_draws_64 (j := 18) rfl rfl) (bq_nm bk_X11_draws_64 (j := 19) rfl rfl)
theorem dX11_draws_84 : decode cX11_draws 84 = .ok (.imul, 1) := dc_104 (bq_nm bk_X11_draws_64 (j := 20) rfl rfl)
theorem dX11_draws_85 : decode cX11_draws 85 = .ok (.sipush 12345, 3) := dc_17 (bq_nm bk_X11_draws_64 (j := 21) rfl rfl) (bq_nm bk_X11_draws_64 (j := 22) rfl rfl) (bq_nm bk_X11_draws_64 (j := 23) rfl rfl) rfl
theorem dX11_draws_88 : decode cX11_draws 88 = .ok (.iadd, 1) := dc_96 (bq_nm bk_X11_draws_64 (j := 24) rfl rfl)
theorem dX11_draws_89 : decode cX11_draws 89 = .ok (.istore 4, 2) := dc_54 (bq_nm bk_X11_draws_64 (j := 25) rfl rfl) (bq_nm bk_X11_draws_64 (j := 26) rfl rfl)
theorem dX11_draws_91 : decode cX11_draws 91 = .ok (.iload 4, 2) := dc_21 (bq_nm bk_X11_draws_64 (j := 27) rfl rfl) (bq_nm bk_X11_draws_64 (j := 28) rfl rfl)
theorem dX11_draws_93 : decode cX11_draws 93 = .ok (.bipush 16, 2) := dc_16 (bq_nm bk_X11_draws_64 (j := 29) rfl rfl) (bq_nm bk_X11_draws_64 (j := 30) rfl rfl) rfl
theorem dX11_draws_95 : decode cX11_draws 95 = .ok (.ishr, 1) := dc_122 (bq_nm bk_X11_draws_64 (j := 31) rfl rfl)
set_option maxRecDepth 20000 in
theorem bk_X11_draws_96 : ((cX11_draws.data.toList.drop 96).take 31).length = 31 ∧ eN (((cX11_draws.data.toList.drop 96).take 31).map UInt8.toNat) = 74754055374917600837761812884608498277478693021289272109997410257622453522 := by decide +kernel
theorem dX11_draws_96 : decode cX11_draws 96 = .ok (.ldc 205, 2) := dc_18 (bq_nm bk_X11_draws_96 (j := 0) rfl rfl) (bq_nm bk_X11_draws_96 (j := 1) rfl rfl)
theorem dX11_draws_98 : decode cX11_draws 98 = .ok (.iand, 1) := dc_126 (bq_nm bk_X11_draws_96 (j := 2) rfl rfl)
theorem dX11_draws_99 : decode cX11_draws 99 = .ok (.iload_n 3, 1) := dc_29 (bq_nm bk_X11_draws_96 (j := 3) rfl rfl)
theorem dX11_draws_100 : decode cX11_draws 100 = .ok (.irem, 1) := dc_112 (bq_nm bk_X11_draws_96 (j := 4) rfl rfl)
theorem dX11_draws_101 : decode cX11_draws 101 = .ok (.istore 5, 2) := dc_54 (bq_nm bk_X11_draws_96 (j := 5) rfl rfl) (bq_nm bk_X11_draws_96 (j := 6) rfl rfl)
theorem dX11_draws_103 : decode cX11_draws 103 = .ok (.aload_n 0, 1) := dc_42 (bq_nm bk_X11_draws_96 (j := 7) rfl rfl)
theorem dX11_draws_104 : decode cX11_draws 104 = .ok (.getfield 39, 3) := dc_180 (bq_nm bk_X11_draws_96 (j := 8) rfl rfl) (bq_nm bk_X11_draws_96 (j := 9) rfl rfl) (bq_nm bk_X11_draws_96 (j := 10) rfl rfl) rfl
theorem dX11_draws_107 : decode cX11_draws 107 = .ok (.bipush 24, 2) := dc_16 (bq_nm bk_X11_draws_96 (j := 11) rfl rfl) (bq_nm bk_X11_draws_96 (j := 12) rfl rfl) rfl
theorem dX11_draws_109 : decode cX11_draws 109 = .ok (.iload_n 2, 1) := dc_28 (bq_nm bk_X11_draws_96 (j := 13) rfl rfl)
theorem dX11_draws_110 : decode cX11_draws 110 = .ok (.imul, 1) := dc_104 (bq_nm bk_X11_draws_96 (j := 14) rfl rfl)
theorem dX11_draws_111 : decode cX11_draws 111 = .ok (.aload_n 0, 1) := dc_42 (bq_nm bk_X11_draws_96 (j := 15) rfl rfl)
theorem dX11_draws_112 : decode cX11_draws 112 = .ok (.getfield 42, 3) := dc_180 (bq_nm bk_X11_draws_96 (j := 16) rfl rfl) (bq_nm bk_X11_draws_96 (j := 17) rfl rfl) (bq_nm bk_X11_draws_96 (j := 18) rfl rfl) rfl
theorem dX11_draws_115 : decode cX11_draws 115 = .ok (.iload_n 2, 1) := dc_28 (bq_nm bk_X11_draws_96 (j := 19) rfl rfl)
theorem dX11_draws_116 : decode cX11_draws 116 = .ok (.iaload, 1) := dc_46 (bq_nm bk_X11_draws_96 (j := 20) rfl rfl)
theorem dX11_draws_117 : decode cX11_draws 117 = .ok (.iadd, 1) := dc_96 (bq_nm bk_X11_draws_96 (j := 21) rfl rfl)
theorem dX11_draws_118 : decode cX11_draws 118 = .ok (.aload_n 0, 1) := dc_42 (bq_nm bk_X11_draws_96 (j := 22) rfl rfl)
theorem dX11_draws_119 : decode cX11_draws 119 = .ok (.getfield 51, 3) := dc_180 (bq_nm bk_X11_draws_96 (j := 23) rfl rfl) (bq_nm bk_X11_draws_96 (j := 24) rfl rfl) (bq_nm bk_X11_draws_96 (j := 25) rfl rfl) rfl
theorem dX11_draws_122 : decode cX11_draws 122 = .ok (.iload 5, 2) := dc_21 (bq_nm bk_X11_draws_96 (j := 26) rfl rfl) (bq_nm bk_X11_draws_96 (j := 27) rfl rfl)
theorem dX11_draws_124 : decode cX11_draws 124 = .ok (.iaload, 1) := dc_46 (bq_nm bk_X11_draws_96 (j := 28) rfl rfl)
theorem dX11_draws_125 : decode cX11_draws 125 = .ok (.iastore, 1) := dc_79 (bq_nm bk_X11_draws_96 (j := 29) rfl rfl)
theorem dX11_draws_126 : decode cX11_draws 126 = .ok (.aload_n 0, 1) := dc_42 (bq_nm bk_X11_draws_96 (j := 30) rfl rfl)
set_option maxRecDepth 20000 in
theorem bk_X11_draws_127 : ((cX11_draws.data.toList.drop 127).take 32).length = 32 ∧ eN (((cX11_draws.data.toList.drop 127).take 32).map UInt8.toNat) = 23069198725047362736043297775206777600842744478120379688803710752500382040244 := by decide +kernel
theorem dX11_draws_127 : decode cX11_draws 127 = .ok (.getfield 42, 3) := dc_180 (bq_nm bk_X11_draws_127 (j := 0) rfl rfl) (bq_nm bk_X11_draws_127 (j := 1) rfl rfl) (bq_nm bk_X11_draws_127 (j := 2) rfl rfl) rfl
theorem dX11_draws_130 : decode cX11_draws 130 = .ok (.iload_n 2, 1) := dc_28 (bq_nm bk_X11_draws_127 (j := 3) rfl rfl)
theorem dX11_draws_131 : decode cX11_draws 131 = .ok (.dup2, 1) := dc_92 (bq_nm bk_X11_draws_127 (j := 4) rfl rfl)
theorem dX11_draws_132 : decode cX11_draws 132 = .ok (.iaload, 1) := dc_46 (bq_nm bk_X11_draws_127 (j := 5) rfl rfl)
theorem dX11_draws_133 : decode cX11_draws 133 = .ok (.iconst 1, 1) := dc_4 (bq_nm bk_X11_draws_127 (j := 6) rfl rfl)
theorem dX11_draws_134 : decode cX11_draws 134 = .ok (.iadd, 1) := dc_96 (bq_nm bk_X11_draws_127 (j := 7) rfl rfl)
theorem dX11_draws_135 : decode cX11_draws 135 = .ok (.iastore, 1) := dc_79 (bq_nm bk_X11_draws_127 (j := 8) rfl rfl)
theorem dX11_draws_136 : decode cX11_draws 136 = .ok (.iinc 3 (-1), 3) := dc_132 (bq_nm bk_X11_draws_127 (j := 9) rfl rfl) (bq_nm bk_X11_draws_127 (j := 10) rfl rfl) (bq_nm bk_X11_draws_127 (j := 11) rfl rfl) rfl
theorem dX11_draws_139 : decode cX11_draws 139 = .ok (.iload 5, 2) := dc_21 (bq_nm bk_X11_draws_127 (j := 12) rfl rfl) (bq_nm bk_X11_draws_127 (j := 13) rfl rfl)
theorem dX11_draws_141 : decode cX11_draws 141 = .ok (.istore 6, 2) := dc_54 (bq_nm bk_X11_draws_127 (j := 14) rfl rfl) (bq_nm bk_X11_draws_127 (j := 15) rfl rfl)
theorem dX11_draws_143 : decode cX11_draws 143 = .ok (.iload 6, 2) := dc_21 (bq_nm bk_X11_draws_127 (j := 16) rfl rfl) (bq_nm bk_X11_draws_127 (j := 17) rfl rfl)
theorem dX11_draws_145 : decode cX11_draws 145 = .ok (.iload_n 3, 1) := dc_29 (bq_nm bk_X11_draws_127 (j := 18) rfl rfl)
theorem dX11_draws_146 : decode cX11_draws 146 = .ok (.if_icmp .ge 25, 3) := dc_162 (bq_nm bk_X11_draws_127 (j := 19) rfl rfl) (bq_nm bk_X11_draws_127 (j := 20) rfl rfl) (bq_nm bk_X11_draws_127 (j := 21) rfl rfl) rfl
theorem dX11_draws_149 : decode cX11_draws 149 = .ok (.aload_n 0, 1) := dc_42 (bq_nm bk_X11_draws_127 (j := 22) rfl rfl)
theorem dX11_draws_150 : decode cX11_draws 150 = .ok (.getfield 51, 3) := dc_180 (bq_nm bk_X11_draws_127 (j := 23) rfl rfl) (bq_nm bk_X11_draws_127 (j := 24) rfl rfl) (bq_nm bk_X11_draws_127 (j := 25) rfl rfl) rfl
theorem dX11_draws_153 : decode cX11_draws 153 = .ok (.iload 6, 2) := dc_21 (bq_nm bk_X11_draws_127 (j := 26) rfl rfl) (bq_nm bk_X11_draws_127 (j := 27) rfl rfl)
theorem dX11_draws_155 : decode cX11_draws 155 = .ok (.aload_n 0, 1) := dc_42 (bq_nm bk_X11_draws_127 (j := 28) rfl rfl)
theorem dX11_draws_156 : decode cX11_draws 156 = .ok (.getfield 51, 3) := dc_180 (bq_nm bk_X11_draws_127 (j := 29) rfl rfl) (bq_nm bk_X11_draws_127 (j := 30) rfl rfl) (bq_nm bk_X11_draws_127 (j := 31) rfl rfl) rfl
set_option maxRecDepth 20000 in
theorem bk_X11_draws_159 : ((cX11_draws.data.toList.drop 159).take 28).length = 28 ∧ eN (((cX11_draws.data.toList.drop 159).take 28).map UInt8.toNat) = 18672780902267556132525951320222710859909618907324328585990108349973 := by decide +kernel
theorem dX11_draws_159 : decode cX11_draws 159 = .ok (.iload 6, 2) := dc_21 (bq_nm bk_X11_draws_159 (j := 0) rfl rfl) (bq_nm bk_X11_draws_159 (j := 1) rfl rfl)
theorem dX11_draws_161 : decode cX11_draws 161 = .ok (.iconst 1, 1) := dc_4 (bq_nm bk_X11_draws_159 (j := 2) rfl rfl)
theorem dX11_draws_162 : decode cX11_draws 162 = .ok (.iadd, 1) := dc_96 (bq_nm bk_X11_draws_159 (j := 3) rfl rfl)
theorem dX11_draws_163 : decode cX11_draws 163 = .ok (.iaload, 1) := dc_46 (bq_nm bk_X11_draws_159 (j := 4) rfl rfl)
theorem dX11_draws_164 : decode cX11_draws 164 = .ok (.iastore, 1) := dc_79 (bq_nm bk_X11_draws_159 (j := 5) rfl rfl)
theorem dX11_draws_165 : decode cX11_draws 165 = .ok (.iinc 6 1, 3) := dc_132 (bq_nm bk_X11_draws_159 (j := 6) rfl rfl) (bq_nm bk_X11_draws_159 (j := 7) rfl rfl) (bq_nm bk_X11_draws_159 (j := 8) rfl rfl) rfl
theorem dX11_draws_168 : decode cX11_draws 168 = .ok (.goto (-25), 3) := dc_167 (bq_nm bk_X11_draws_159 (j := 9) rfl rfl) (bq_nm bk_X11_draws_159 (j := 10) rfl rfl) (bq_nm bk_X11_draws_159 (j := 11) rfl rfl) rfl
theorem dX11_draws_171 : decode cX11_draws 171 = .ok (.goto (-111), 3) := dc_167 (bq_nm bk_X11_draws_159 (j := 12) rfl rfl) (bq_nm bk_X11_draws_159 (j := 13) rfl rfl) (bq_nm bk_X11_draws_159 (j := 14) rfl rfl) rfl
theorem dX11_draws_174 : decode cX11_draws 174 = .ok (.aload_n 0, 1) := dc_42 (bq_nm bk_X11_draws_159 (j := 15) rfl rfl)
theorem dX11_draws_175 : decode cX11_draws 175 = .ok (.getfield 48, 3) := dc_180 (bq_nm bk_X11_draws_159 (j := 16) rfl rfl) (bq_nm bk_X11_draws_159 (j := 17) rfl rfl) (bq_nm bk_X11_draws_159 (j := 18) rfl rfl) rfl
theorem dX11_draws_178 : decode cX11_draws 178 = .ok (.iconst 4, 1) := dc_7 (bq_nm bk_X11_draws_159 (j := 19) rfl rfl)
theorem dX11_draws_179 : decode cX11_draws 179 = .ok (.iload_n 2, 1) := dc_28 (bq_nm bk_X11_draws_159 (j := 20) rfl rfl)
theorem dX11_draws_180 : decode cX11_draws 180 = .ok (.imul, 1) := dc_104 (bq_nm bk_X11_draws_159 (j := 21) rfl rfl)
theorem dX11_draws_181 : decode cX11_draws 181 = .ok (.iconst 3, 1) := dc_6 (bq_nm bk_X11_draws_159 (j := 22) rfl rfl)
theorem dX11_draws_182 : decode cX11_draws 182 = .ok (.iadd, 1) := dc_96 (bq_nm bk_X11_draws_159 (j := 23) rfl rfl)
theorem dX11_draws_183 : decode cX11_draws 183 = .ok (.iload 4, 2) := dc_21 (bq_nm bk_X11_draws_159 (j := 24) rfl rfl) (bq_nm bk_X11_draws_159 (j := 25) rfl rfl)
theorem dX11_draws_185 : decode cX11_draws 185 = .ok (.iastore, 1) := dc_79 (bq_nm bk_X11_draws_159 (j := 26) rfl rfl)
theorem dX11_draws_186 : decode cX11_draws 186 = .ok (.return_, 1) := dc_177 (bq_nm bk_X11_draws_159 (j := 27) rfl rfl)
set_option maxRecDepth 20000 in
theorem bk_X11_strikes_0 : ((cX11_strikes.data.toList.drop 0).take 31).length = 31 ∧ eN (((cX11_strikes.data.toList.drop 0).take 31).map UInt8.toNat) = 5336506080858302931443362728896239763981275139086993569159098408217130026 := by decide +kernel
theorem dX11_strikes_0 : decode cX11_strikes 0 = .ok (.aload_n 0, 1) := dc_42 (bq_nm bk_X11_strikes_0 (j := 0) rfl rfl)
theorem dX11_strikes_1 : decode cX11_strikes 1 = .ok (.getfield 48, 3) := dc_180 (bq_nm bk_X11_strikes_0 (j := 1) rfl rfl) (bq_nm bk_X11_strikes_0 (j := 2) rfl rfl) (bq_nm bk_X11_strikes_0 (j := 3) rfl rfl) rfl
theorem dX11_strikes_4 : decode cX11_strikes 4 = .ok (.iconst 4, 1) := dc_7 (bq_nm bk_X11_strikes_0 (j := 4) rfl rfl)
theorem dX11_strikes_5 : decode cX11_strikes 5 = .ok (.iload_n 2, 1) := dc_28 (bq_nm bk_X11_strikes_0 (j := 5) rfl rfl)
theorem dX11_strikes_6 : decode cX11_strikes 6 = .ok (.imul, 1) := dc_104 (bq_nm bk_X11_strikes_0 (j := 6) rfl rfl)
theorem dX11_strikes_7 : decode cX11_strikes 7 = .ok (.iconst 1, 1) := dc_4 (bq_nm bk_X11_strikes_0 (j := 7) rfl rfl)
theorem dX11_strikes_8 : decode cX11_strikes 8 = .ok (.iadd, 1) := dc_96 (bq_nm bk_X11_strikes_0 (j := 8) rfl rfl)
theorem dX11_strikes_9 : decode cX11_strikes 9 = .ok (.iload_n 3, 1) := dc_29 (bq_nm bk_X11_strikes_0 (j := 9) rfl rfl)
theorem dX11_strikes_10 : decode cX11_strikes 10 = .ok (.iadd, 1) := dc_96 (bq_nm bk_X11_strikes_0 (j := 10) rfl rfl)
theorem dX11_strikes_11 : decode cX11_strikes 11 = .ok (.iaload, 1) := dc_46 (bq_nm bk_X11_strikes_0 (j := 11) rfl rfl)
theorem dX11_strikes_12 : decode cX11_strikes 12 = .ok (.aload_n 0, 1) := dc_42 (bq_nm bk_X11_strikes_0 (j := 12) rfl rfl)
theorem dX11_strikes_13 : decode cX11_strikes 13 = .ok (.iload_n 1, 1) := dc_27 (bq_nm bk_X11_strikes_0 (j := 13) rfl rfl)
theorem dX11_strikes_14 : decode cX11_strikes 14 = .ok (.bipush 6, 2) := dc_16 (bq_nm bk_X11_strikes_0 (j := 14) rfl rfl) (bq_nm bk_X11_strikes_0 (j := 15) rfl rfl) rfl
theorem dX11_strikes_16 : decode cX11_strikes 16 = .ok (.invokevirtual 149, 3) := dc_182 (bq_nm bk_X11_strikes_0 (j := 16) rfl rfl) (bq_nm bk_X11_strikes_0 (j := 17) rfl rfl) (bq_nm bk_X11_strikes_0 (j := 18) rfl rfl) rfl
theorem dX11_strikes_19 : decode cX11_strikes 19 = .ok (.if_icmp .ne 5, 3) := dc_160 (bq_nm bk_X11_strikes_0 (j := 19) rfl rfl) (bq_nm bk_X11_strikes_0 (j := 20) rfl rfl) (bq_nm bk_X11_strikes_0 (j := 21) rfl rfl) rfl
theorem dX11_strikes_22 : decode cX11_strikes 22 = .ok (.iconst (-1), 1) := dc_2 (bq_nm bk_X11_strikes_0 (j := 22) rfl rfl)
theorem dX11_strikes_23 : decode cX11_strikes 23 = .ok (.ireturn, 1) := dc_172 (bq_nm bk_X11_strikes_0 (j := 23) rfl rfl)
theorem dX11_strikes_24 : decode cX11_strikes 24 = .ok (.iconst (-1), 1) := dc_2 (bq_nm bk_X11_strikes_0 (j := 24) rfl rfl)
theorem dX11_strikes_25 : decode cX11_strikes 25 = .ok (.istore 4, 2) := dc_54 (bq_nm bk_X11_strikes_0 (j := 25) rfl rfl) (bq_nm bk_X11_strikes_0 (j := 26) rfl rfl)
theorem dX11_strikes_27 : decode cX11_strikes 27 = .ok (.iconst 0, 1) := dc_3 (bq_nm bk_X11_strikes_0 (j := 27) rfl rfl)
theorem dX11_strikes_28 : decode cX11_strikes 28 = .ok (.istore 5, 2) := dc_54 (bq_nm bk_X11_strikes_0 (j := 28) rfl rfl) (bq_nm bk_X11_strikes_0 (j := 29) rfl rfl)
theorem dX11_strikes_30 : decode cX11_strikes 30 = .ok (.iconst 0, 1) := dc_3 (bq_nm bk_X11_strikes_0 (j := 30) rfl rfl)
set_option maxRecDepth 20000 in
theorem bk_X11_strikes_31 : ((cX11_strikes.data.toList.drop 31).take 31).length = 31 ∧ eN (((cX11_strikes.data.toList.drop 31).take 31).map UInt8.toNat) = 12372786669931726232525733503629788971899155167283538195901349312492537398 := by decide +kernel
theorem dX11_strikes_31 : decode cX11_strikes 31 = .ok (.istore 6, 2) := dc_54 (bq_nm bk_X11_strikes_31 (j := 0) rfl rfl) (bq_nm bk_X11_strikes_31 (j := 1) rfl rfl)
theorem dX11_strikes_33 : decode cX11_strikes 33 = .ok (.iload 6, 2) := dc_21 (bq_nm bk_X11_strikes_31 (j := 2) rfl rfl) (bq_nm bk_X11_strikes_31 (j := 3) rfl rfl)
theorem dX11_strikes_35 : decode cX11_strikes 35 = .ok (.aload_n 0, 1) := dc_42 (bq_nm bk_X11_strikes_31 (j := 4) rfl rfl)
theorem dX11_strikes_36 : decode cX11_strikes 36 = .ok (.getfield 42, 3) := dc_180 (bq_nm bk_X11_strikes_31 (j := 5) rfl rfl) (bq_nm bk_X11_strikes_31 (j := 6) rfl rfl) (bq_nm bk_X11_strikes_31 (j := 7) rfl rfl) rfl
theorem dX11_strikes_39 : decode cX11_strikes 39 = .ok (.iload_n 2, 1) := dc_28 (bq_nm bk_X11_strikes_31 (j := 8) rfl rfl)
theorem dX11_strikes_40 : decode cX11_strikes 40 = .ok (.iaload, 1) := dc_46 (bq_nm bk_X11_strikes_31 (j := 9) rfl rfl)
theorem dX11_strikes_41 : decode cX11_strikes 41 = .ok (.if_icmp .ge 89, 3) := dc_162 (bq_nm bk_X11_strikes_31 (j := 10) rfl rfl) (bq_nm bk_X11_strikes_31 (j := 11) rfl rfl) (bq_nm bk_X11_strikes_31 (j := 12) rfl rfl) rfl
theorem dX11_strikes_44 : decode cX11_strikes 44 = .ok (.aload_n 0, 1) := dc_42 (bq_nm bk_X11_strikes_31 (j := 13) rfl rfl)
theorem dX11_strikes_45 : decode cX11_strikes 45 = .ok (.getfield 39, 3) := dc_180 (bq_nm bk_X11_strikes_31 (j := 14) rfl rfl) (bq_nm bk_X11_strikes_31 (j := 15) rfl rfl) (bq_nm bk_X11_strikes_31 (j := 16) rfl rfl) rfl
theorem dX11_strikes_48 : decode cX11_strikes 48 = .ok (.bipush 24, 2) := dc_16 (bq_nm bk_X11_strikes_31 (j := 17) rfl rfl) (bq_nm bk_X11_strikes_31 (j := 18) rfl rfl) rfl
theorem dX11_strikes_50 : decode cX11_strikes 50 = .ok (.iload_n 2, 1) := dc_28 (bq_nm bk_X11_strikes_31 (j := 19) rfl rfl)
theorem dX11_strikes_51 : decode cX11_strikes 51 = .ok (.imul, 1) := dc_104 (bq_nm bk_X11_strikes_31 (j := 20) rfl rfl)
theorem dX11_strikes_52 : decode cX11_strikes 52 = .ok (.iload 6, 2) := dc_21 (bq_nm bk_X11_strikes_31 (j := 21) rfl rfl) (bq_nm bk_X11_strikes_31 (j := 22) rfl rfl)
theorem dX11_strikes_54 : decode cX11_strikes 54 = .ok (.iadd, 1) := dc_96 (bq_nm bk_X11_strikes_31 (j := 23) rfl rfl)
theorem dX11_strikes_55 : decode cX11_strikes 55 = .ok (.iaload, 1) := dc_46 (bq_nm bk_X11_strikes_31 (j := 24) rfl rfl)
theorem dX11_strikes_56 : decode cX11_strikes 56 = .ok (.istore 7, 2) := dc_54 (bq_nm bk_X11_strikes_31 (j := 25) rfl rfl) (bq_nm bk_X11_strikes_31 (j := 26) rfl rfl)
theorem dX11_strikes_58 : decode cX11_strikes 58 = .ok (.aload_n 0, 1) := dc_42 (bq_nm bk_X11_strikes_31 (j := 27) rfl rfl)
theorem dX11_strikes_59 : decode cX11_strikes 59 = .ok (.getfield 7, 3) := dc_180 (bq_nm bk_X11_strikes_31 (j := 28) rfl rfl) (bq_nm bk_X11_strikes_31 (j := 29) rfl rfl) (bq_nm bk_X11_strikes_31 (j := 30) rfl rfl) rfl
set_option maxRecDepth 20000 in
theorem bk_X11_strikes_62 : ((cX11_strikes.data.toList.drop 62).take 31).length = 31 ∧ eN (((cX11_strikes.data.toList.drop 62).take 31).map UInt8.toNat) = 81937723603110669843876840827112643321409054075939465265058863941552047633 := by decide +kernel
theorem dX11_strikes_62 : decode cX11_strikes 62 = .ok (.sipush 1646, 3) := dc_17 (bq_nm bk_X11_strikes_62 (j := 0) rfl rfl) (bq_nm bk_X11_strikes_62 (j := 1) rfl rfl) (bq_nm bk_X11_strikes_62 (j := 2) rfl rfl) rfl
theorem dX11_strikes_65 : decode cX11_strikes 65 = .ok (.bipush 60, 2) := dc_16 (bq_nm bk_X11_strikes_62 (j := 3) rfl rfl) (bq_nm bk_X11_strikes_62 (j := 4) rfl rfl) rfl
theorem dX11_strikes_67 : decode cX11_strikes 67 = .ok (.iload_n 1, 1) := dc_27 (bq_nm bk_X11_strikes_62 (j := 5) rfl rfl)
theorem dX11_strikes_68 : decode cX11_strikes 68 = .ok (.imul, 1) := dc_104 (bq_nm bk_X11_strikes_62 (j := 6) rfl rfl)
theorem dX11_strikes_69 : decode cX11_strikes 69 = .ok (.iadd, 1) := dc_96 (bq_nm bk_X11_strikes_62 (j := 7) rfl rfl)
theorem dX11_strikes_70 : decode cX11_strikes 70 = .ok (.bipush 30, 2) := dc_16 (bq_nm bk_X11_strikes_62 (j := 8) rfl rfl) (bq_nm bk_X11_strikes_62 (j := 9) rfl rfl) rfl
theorem dX11_strikes_72 : decode cX11_strikes 72 = .ok (.iload_n 3, 1) := dc_29 (bq_nm bk_X11_strikes_62 (j := 10) rfl rfl)
theorem dX11_strikes_73 : decode cX11_strikes 73 = .ok (.imul, 1) := dc_104 (bq_nm bk_X11_strikes_62 (j := 11) rfl rfl)
theorem dX11_strikes_74 : decode cX11_strikes 74 = .ok (.iadd, 1) := dc_96 (bq_nm bk_X11_strikes_62 (j := 12) rfl rfl)
theorem dX11_strikes_75 : decode cX11_strikes 75 = .ok (.iload 7, 2) := dc_21 (bq_nm bk_X11_strikes_62 (j := 13) rfl rfl) (bq_nm bk_X11_strikes_62 (j := 14) rfl rfl)
theorem dX11_strikes_77 : decode cX11_strikes 77 = .ok (.iadd, 1) := dc_96 (bq_nm bk_X11_strikes_62 (j := 15) rfl rfl)
theorem dX11_strikes_78 : decode cX11_strikes 78 = .ok (.iaload, 1) := dc_46 (bq_nm bk_X11_strikes_62 (j := 16) rfl rfl)
theorem dX11_strikes_79 : decode cX11_strikes 79 = .ok (.istore 8, 2) := dc_54 (bq_nm bk_X11_strikes_62 (j := 17) rfl rfl) (bq_nm bk_X11_strikes_62 (j := 18) rfl rfl)
theorem dX11_strikes_81 : decode cX11_strikes 81 = .ok (.aload_n 0, 1) := dc_42 (bq_nm bk_X11_strikes_62 (j := 19) rfl rfl)
theorem dX11_strikes_82 : decode cX11_strikes 82 = .ok (.getfield 45, 3) := dc_180 (bq_nm bk_X11_strikes_62 (j := 20) rfl rfl) (bq_nm bk_X11_strikes_62 (j := 21) rfl rfl) (bq_nm bk_X11_strikes_62 (j := 22) rfl rfl) rfl
theorem dX11_strikes_85 : decode cX11_strikes 85 = .ok (.bipush 30, 2) := dc_16 (bq_nm bk_X11_strikes_62 (j := 23) rfl rfl) (bq_nm bk_X11_strikes_62 (j := 24) rfl rfl) rfl
theorem dX11_strikes_87 : decode cX11_strikes 87 = .ok (.iload_n 2, 1) := dc_28 (bq_nm bk_X11_strikes_62 (j := 25) rfl rfl)
theorem dX11_strikes_88 : decode cX11_strikes 88 = .ok (.imul, 1) := dc_104 (bq_nm bk_X11_strikes_62 (j := 26) rfl rfl)
theorem dX11_strikes_89 : decode cX11_strikes 89 = .ok (.iload 7, 2) := dc_21 (bq_nm bk_X11_strikes_62 (j := 27) rfl rfl) (bq_nm bk_X11_strikes_62 (j := 28) rfl rfl)
theorem dX11_strikes_91 : decode cX11_strikes 91 = .ok (.iadd, 1) := dc_96 (bq_nm bk_X11_strikes_62 (j := 29) rfl rfl)
theorem dX11_strikes_92 : decode cX11_strikes 92 = .ok (.iaload, 1) := dc_46 (bq_nm bk_X11_strikes_62 (j := 30) rfl rfl)
set_option maxRecDepth 20000 in
theorem bk_X11_strikes_93 : ((cX11_strikes.data.toList.drop 93).take 31).length = 31 ∧ eN (((cX11_strikes.data.toList.drop 93).take 31).map UInt8.toNat) = 9207147519482398004652912205541224950266619955823763355728970619501413904 := by decide +kernel
theorem dX11_strikes_93 : decode cX11_strikes 93 = .ok (.bipush 6, 2) := dc_16 (bq_nm bk_X11_strikes_93 (j := 0) rfl rfl) (bq_nm bk_X11_strikes_93 (j := 1) rfl rfl) rfl
theorem dX11_strikes_95 : decode cX11_strikes 95 = .ok (.if_icmp .ne 29, 3) := dc_160 (bq_nm bk_X11_strikes_93 (j := 2) rfl rfl) (bq_nm bk_X11_strikes_93 (j := 3) rfl rfl) (bq_nm bk_X11_strikes_93 (j := 4) rfl rfl) rfl
theorem dX11_strikes_98 : decode cX11_strikes 98 = .ok (.iload 8, 2) := dc_21 (bq_nm bk_X11_strikes_93 (j := 5) rfl rfl) (bq_nm bk_X11_strikes_93 (j := 6) rfl rfl)
theorem dX11_strikes_100 : decode cX11_strikes 100 = .ok (.ifCond .ge 24, 3) := dc_156 (bq_nm bk_X11_strikes_93 (j := 7) rfl rfl) (bq_nm bk_X11_strikes_93 (j := 8) rfl rfl) (bq_nm bk_X11_strikes_93 (j := 9) rfl rfl) rfl
theorem dX11_strikes_103 : decode cX11_strikes 103 = .ok (.iload 4, 2) := dc_21 (bq_nm bk_X11_strikes_93 (j := 10) rfl rfl) (bq_nm bk_X11_strikes_93 (j := 11) rfl rfl)
theorem dX11_strikes_105 : decode cX11_strikes 105 = .ok (.iconst (-1), 1) := dc_2 (bq_nm bk_X11_strikes_93 (j := 12) rfl rfl)
theorem dX11_strikes_106 : decode cX11_strikes 106 = .ok (.if_icmp .eq 10, 3) := dc_159 (bq_nm bk_X11_strikes_93 (j := 13) rfl rfl) (bq_nm bk_X11_strikes_93 (j := 14) rfl rfl) (bq_nm bk_X11_strikes_93 (j := 15) rfl rfl) rfl
theorem dX11_strikes_109 : decode cX11_strikes 109 = .ok (.iload 8, 2) := dc_21 (bq_nm bk_X11_strikes_93 (j := 16) rfl rfl) (bq_nm bk_X11_strikes_93 (j := 17) rfl rfl)
theorem dX11_strikes_111 : decode cX11_strikes 111 = .ok (.iload 5, 2) := dc_21 (bq_nm bk_X11_strikes_93 (j := 18) rfl rfl) (bq_nm bk_X11_strikes_93 (j := 19) rfl rfl)
theorem dX11_strikes_113 : decode cX11_strikes 113 = .ok (.if_icmp .gt 11, 3) := dc_163 (bq_nm bk_X11_strikes_93 (j := 20) rfl rfl) (bq_nm bk_X11_strikes_93 (j := 21) rfl rfl) (bq_nm bk_X11_strikes_93 (j := 22) rfl rfl) rfl
theorem dX11_strikes_116 : decode cX11_strikes 116 = .ok (.iload 7, 2) := dc_21 (bq_nm bk_X11_strikes_93 (j := 23) rfl rfl) (bq_nm bk_X11_strikes_93 (j := 24) rfl rfl)
theorem dX11_strikes_118 : decode cX11_strikes 118 = .ok (.istore 4, 2) := dc_54 (bq_nm bk_X11_strikes_93 (j := 25) rfl rfl) (bq_nm bk_X11_strikes_93 (j := 26) rfl rfl)
theorem dX11_strikes_120 : decode cX11_strikes 120 = .ok (.iload 8, 2) := dc_21 (bq_nm bk_X11_strikes_93 (j := 27) rfl rfl) (bq_nm bk_X11_strikes_93 (j := 28) rfl rfl)
theorem dX11_strikes_122 : decode cX11_strikes 122 = .ok (.istore 5, 2) := dc_54 (bq_nm bk_X11_strikes_93 (j := 29) rfl rfl) (bq_nm bk_X11_strikes_93 (j := 30) rfl rfl)
set_option maxRecDepth 20000 in
theorem bk_X11_strikes_124 : ((cX11_strikes.data.toList.drop 124).take 9).length = 9 ∧ eN (((cX11_strikes.data.toList.drop 124).take 9).map UInt8.toNat) = 3173134301247607735940 := by decide +kernel
theorem dX11_strikes_124 : decode cX11_strikes 124 = .ok (.iinc 6 1, 3) := dc_132 (bq_nm bk_X11_strikes_124 (j := 0) rfl rfl) (bq_nm bk_X11_strikes_124 (j := 1) rfl rfl) (bq_nm bk_X11_strikes_124 (j := 2) rfl rfl) rfl
theorem dX11_strikes_127 : decode cX11_strikes 127 = .ok (.goto (-94), 3) := dc_167 (bq_nm bk_X11_strikes_124 (j := 3) rfl rfl) (bq_nm bk_X11_strikes_124 (j := 4) rfl rfl) (bq_nm bk_X11_strikes_124 (j := 5) rfl rfl) rfl
theorem dX11_strikes_130 : decode cX11_strikes 130 = .ok (.iload 4, 2) := dc_21 (bq_nm bk_X11_strikes_124 (j := 6) rfl rfl) (bq_nm bk_X11_strikes_124 (j := 7) rfl rfl)
theorem dX11_strikes_132 : decode cX11_strikes 132 = .ok (.ireturn, 1) := dc_172 (bq_nm bk_X11_strikes_124 (j := 8) rfl rfl)
set_option maxRecDepth 20000 in
theorem bk_X11_tries_0 : ((cX11_tries.data.toList.drop 0).take 31).length = 31 ∧ eN (((cX11_tries.data.toList.drop 0).take 31).map UInt8.toNat) = 8979284262633653772344575507456343358508646899045828045082108172767009578 := by decide +kernel
theorem dX11_tries_0 : decode cX11_tries 0 = .ok (.aload_n 0, 1) := dc_42 (bq_nm bk_X11_tries_0 (j := 0) rfl rfl)
theorem dX11_tries_1 : decode cX11_tries 1 = .ok (.iload_n 1, 1) := dc_27 (bq_nm bk_X11_tries_0 (j := 1) rfl rfl)
theorem dX11_tries_2 : decode cX11_tries 2 = .ok (.iconst 0, 1) := dc_3 (bq_nm bk_X11_tries_0 (j := 2) rfl rfl)
theorem dX11_tries_3 : decode cX11_tries 3 = .ok (.invokevirtual 149, 3) := dc_182 (bq_nm bk_X11_tries_0 (j := 3) rfl rfl) (bq_nm bk_X11_tries_0 (j := 4) rfl rfl) (bq_nm bk_X11_tries_0 (j := 5) rfl rfl) rfl
theorem dX11_tries_6 : decode cX11_tries 6 = .ok (.istore 5, 2) := dc_54 (bq_nm bk_X11_tries_0 (j := 6) rfl rfl) (bq_nm bk_X11_tries_0 (j := 7) rfl rfl)
theorem dX11_tries_8 : decode cX11_tries 8 = .ok (.aload_n 0, 1) := dc_42 (bq_nm bk_X11_tries_0 (j := 8) rfl rfl)
theorem dX11_tries_9 : decode cX11_tries 9 = .ok (.iconst 0, 1) := dc_3 (bq_nm bk_X11_tries_0 (j := 9) rfl rfl)
theorem dX11_tries_10 : decode cX11_tries 10 = .ok (.iload 5, 2) := dc_21 (bq_nm bk_X11_tries_0 (j := 10) rfl rfl) (bq_nm bk_X11_tries_0 (j := 11) rfl rfl)
theorem dX11_tries_12 : decode cX11_tries 12 = .ok (.iload 4, 2) := dc_21 (bq_nm bk_X11_tries_0 (j := 12) rfl rfl) (bq_nm bk_X11_tries_0 (j := 13) rfl rfl)
theorem dX11_tries_14 : decode cX11_tries 14 = .ok (.ifCond .ne 7, 3) := dc_154 (bq_nm bk_X11_tries_0 (j := 14) rfl rfl) (bq_nm bk_X11_tries_0 (j := 15) rfl rfl) (bq_nm bk_X11_tries_0 (j := 16) rfl rfl) rfl
theorem dX11_tries_17 : decode cX11_tries 17 = .ok (.iload_n 3, 1) := dc_29 (bq_nm bk_X11_tries_0 (j := 17) rfl rfl)
theorem dX11_tries_18 : decode cX11_tries 18 = .ok (.goto 4, 3) := dc_167 (bq_nm bk_X11_tries_0 (j := 18) rfl rfl) (bq_nm bk_X11_tries_0 (j := 19) rfl rfl) (bq_nm bk_X11_tries_0 (j := 20) rfl rfl) rfl
theorem dX11_tries_21 : decode cX11_tries 21 = .ok (.iconst (-1), 1) := dc_2 (bq_nm bk_X11_tries_0 (j := 21) rfl rfl)
theorem dX11_tries_22 : decode cX11_tries 22 = .ok (.invokevirtual 188, 3) := dc_182 (bq_nm bk_X11_tries_0 (j := 22) rfl rfl) (bq_nm bk_X11_tries_0 (j := 23) rfl rfl) (bq_nm bk_X11_tries_0 (j := 24) rfl rfl) rfl
theorem dX11_tries_25 : decode cX11_tries 25 = .ok (.istore 6, 2) := dc_54 (bq_nm bk_X11_tries_0 (j := 25) rfl rfl) (bq_nm bk_X11_tries_0 (j := 26) rfl rfl)
theorem dX11_tries_27 : decode cX11_tries 27 = .ok (.aload_n 0, 1) := dc_42 (bq_nm bk_X11_tries_0 (j := 27) rfl rfl)
theorem dX11_tries_28 : decode cX11_tries 28 = .ok (.iconst 1, 1) := dc_4 (bq_nm bk_X11_tries_0 (j := 28) rfl rfl)
theorem dX11_tries_29 : decode cX11_tries 29 = .ok (.iload 5, 2) := dc_21 (bq_nm bk_X11_tries_0 (j := 29) rfl rfl) (bq_nm bk_X11_tries_0 (j := 30) rfl rfl)
set_option maxRecDepth 20000 in
theorem bk_X11_tries_31 : ((cX11_tries.data.toList.drop 31).take 32).length = 32 ∧ eN (((cX11_tries.data.toList.drop 31).take 32).map UInt8.toNat) = 19011650584201877064026518463296533636674086924023980427010036687205124277269 := by decide +kernel
theorem dX11_tries_31 : decode cX11_tries 31 = .ok (.iload 4, 2) := dc_21 (bq_nm bk_X11_tries_31 (j := 0) rfl rfl) (bq_nm bk_X11_tries_31 (j := 1) rfl rfl)
theorem dX11_tries_33 : decode cX11_tries 33 = .ok (.iconst 1, 1) := dc_4 (bq_nm bk_X11_tries_31 (j := 2) rfl rfl)
theorem dX11_tries_34 : decode cX11_tries 34 = .ok (.if_icmp .ne 7, 3) := dc_160 (bq_nm bk_X11_tries_31 (j := 3) rfl rfl) (bq_nm bk_X11_tries_31 (j := 4) rfl rfl) (bq_nm bk_X11_tries_31 (j := 5) rfl rfl) rfl
theorem dX11_tries_37 : decode cX11_tries 37 = .ok (.iload_n 3, 1) := dc_29 (bq_nm bk_X11_tries_31 (j := 6) rfl rfl)
theorem dX11_tries_38 : decode cX11_tries 38 = .ok (.goto 4, 3) := dc_167 (bq_nm bk_X11_tries_31 (j := 7) rfl rfl) (bq_nm bk_X11_tries_31 (j := 8) rfl rfl) (bq_nm bk_X11_tries_31 (j := 9) rfl rfl) rfl
theorem dX11_tries_41 : decode cX11_tries 41 = .ok (.iconst (-1), 1) := dc_2 (bq_nm bk_X11_tries_31 (j := 10) rfl rfl)
theorem dX11_tries_42 : decode cX11_tries 42 = .ok (.invokevirtual 188, 3) := dc_182 (bq_nm bk_X11_tries_31 (j := 11) rfl rfl) (bq_nm bk_X11_tries_31 (j := 12) rfl rfl) (bq_nm bk_X11_tries_31 (j := 13) rfl rfl) rfl
theorem dX11_tries_45 : decode cX11_tries 45 = .ok (.istore 7, 2) := dc_54 (bq_nm bk_X11_tries_31 (j := 14) rfl rfl) (bq_nm bk_X11_tries_31 (j := 15) rfl rfl)
theorem dX11_tries_47 : decode cX11_tries 47 = .ok (.aload_n 0, 1) := dc_42 (bq_nm bk_X11_tries_31 (j := 16) rfl rfl)
theorem dX11_tries_48 : decode cX11_tries 48 = .ok (.iload_n 1, 1) := dc_27 (bq_nm bk_X11_tries_31 (j := 17) rfl rfl)
theorem dX11_tries_49 : decode cX11_tries 49 = .ok (.iload 5, 2) := dc_21 (bq_nm bk_X11_tries_31 (j := 18) rfl rfl) (bq_nm bk_X11_tries_31 (j := 19) rfl rfl)
theorem dX11_tries_51 : decode cX11_tries 51 = .ok (.invokevirtual 206, 3) := dc_182 (bq_nm bk_X11_tries_31 (j := 20) rfl rfl) (bq_nm bk_X11_tries_31 (j := 21) rfl rfl) (bq_nm bk_X11_tries_31 (j := 22) rfl rfl) rfl
theorem dX11_tries_54 : decode cX11_tries 54 = .ok (.aload_n 0, 1) := dc_42 (bq_nm bk_X11_tries_31 (j := 23) rfl rfl)
theorem dX11_tries_55 : decode cX11_tries 55 = .ok (.iload_n 1, 1) := dc_27 (bq_nm bk_X11_tries_31 (j := 24) rfl rfl)
theorem dX11_tries_56 : decode cX11_tries 56 = .ok (.invokevirtual 209, 3) := dc_182 (bq_nm bk_X11_tries_31 (j := 25) rfl rfl) (bq_nm bk_X11_tries_31 (j := 26) rfl rfl) (bq_nm bk_X11_tries_31 (j := 27) rfl rfl) rfl
theorem dX11_tries_59 : decode cX11_tries 59 = .ok (.ior, 1) := dc_128 (bq_nm bk_X11_tries_31 (j := 28) rfl rfl)
theorem dX11_tries_60 : decode cX11_tries 60 = .ok (.istore 8, 2) := dc_54 (bq_nm bk_X11_tries_31 (j := 29) rfl rfl) (bq_nm bk_X11_tries_31 (j := 30) rfl rfl)
theorem dX11_tries_62 : decode cX11_tries 62 = .ok (.aload_n 0, 1) := dc_42 (bq_nm bk_X11_tries_31 (j := 31) rfl rfl)
set_option maxRecDepth 20000 in
theorem bk_X11_tries_63 : ((cX11_tries.data.toList.drop 63).take 31).length = 31 ∧ eN (((cX11_tries.data.toList.drop 63).take 31).map UInt8.toNat) = 81295859012587980670899575005936094827788973238896660468646478437017847061 := by decide +kernel
theorem dX11_tries_63 : decode cX11_tries 63 = .ok (.iload 5, 2) := dc_21 (bq_nm bk_X11_tries_63 (j := 0) rfl rfl) (bq_nm bk_X11_tries_63 (j := 1) rfl rfl)
theorem dX11_tries_65 : decode cX11_tries 65 = .ok (.invokevirtual 103, 3) := dc_182 (bq_nm bk_X11_tries_63 (j := 2) rfl rfl) (bq_nm bk_X11_tries_63 (j := 3) rfl rfl) (bq_nm bk_X11_tries_63 (j := 4) rfl rfl) rfl
theorem dX11_tries_68 : decode cX11_tries 68 = .ok (.iload 6, 2) := dc_21 (bq_nm bk_X11_tries_63 (j := 5) rfl rfl) (bq_nm bk_X11_tries_63 (j := 6) rfl rfl)
theorem dX11_tries_70 : decode cX11_tries 70 = .ok (.iand, 1) := dc_126 (bq_nm bk_X11_tries_63 (j := 7) rfl rfl)
theorem dX11_tries_71 : decode cX11_tries 71 = .ok (.iload 7, 2) := dc_21 (bq_nm bk_X11_tries_63 (j := 8) rfl rfl) (bq_nm bk_X11_tries_63 (j := 9) rfl rfl)
theorem dX11_tries_73 : decode cX11_tries 73 = .ok (.iconst (-1), 1) := dc_2 (bq_nm bk_X11_tries_63 (j := 10) rfl rfl)
theorem dX11_tries_74 : decode cX11_tries 74 = .ok (.ixor, 1) := dc_130 (bq_nm bk_X11_tries_63 (j := 11) rfl rfl)
theorem dX11_tries_75 : decode cX11_tries 75 = .ok (.iand, 1) := dc_126 (bq_nm bk_X11_tries_63 (j := 12) rfl rfl)
theorem dX11_tries_76 : decode cX11_tries 76 = .ok (.iload 8, 2) := dc_21 (bq_nm bk_X11_tries_63 (j := 13) rfl rfl) (bq_nm bk_X11_tries_63 (j := 14) rfl rfl)
theorem dX11_tries_78 : decode cX11_tries 78 = .ok (.iconst (-1), 1) := dc_2 (bq_nm bk_X11_tries_63 (j := 15) rfl rfl)
theorem dX11_tries_79 : decode cX11_tries 79 = .ok (.ixor, 1) := dc_130 (bq_nm bk_X11_tries_63 (j := 16) rfl rfl)
theorem dX11_tries_80 : decode cX11_tries 80 = .ok (.iand, 1) := dc_126 (bq_nm bk_X11_tries_63 (j := 17) rfl rfl)
theorem dX11_tries_81 : decode cX11_tries 81 = .ok (.istore 9, 2) := dc_54 (bq_nm bk_X11_tries_63 (j := 18) rfl rfl) (bq_nm bk_X11_tries_63 (j := 19) rfl rfl)
theorem dX11_tries_83 : decode cX11_tries 83 = .ok (.iconst 0, 1) := dc_3 (bq_nm bk_X11_tries_63 (j := 20) rfl rfl)
theorem dX11_tries_84 : decode cX11_tries 84 = .ok (.istore 10, 2) := dc_54 (bq_nm bk_X11_tries_63 (j := 21) rfl rfl) (bq_nm bk_X11_tries_63 (j := 22) rfl rfl)
theorem dX11_tries_86 : decode cX11_tries 86 = .ok (.iload 10, 2) := dc_21 (bq_nm bk_X11_tries_63 (j := 23) rfl rfl) (bq_nm bk_X11_tries_63 (j := 24) rfl rfl)
theorem dX11_tries_88 : decode cX11_tries 88 = .ok (.aload_n 0, 1) := dc_42 (bq_nm bk_X11_tries_63 (j := 25) rfl rfl)
theorem dX11_tries_89 : decode cX11_tries 89 = .ok (.getfield 7, 3) := dc_180 (bq_nm bk_X11_tries_63 (j := 26) rfl rfl) (bq_nm bk_X11_tries_63 (j := 27) rfl rfl) (bq_nm bk_X11_tries_63 (j := 28) rfl rfl) rfl
theorem dX11_tries_92 : decode cX11_tries 92 = .ok (.iconst 0, 1) := dc_3 (bq_nm bk_X11_tries_63 (j := 29) rfl rfl)
theorem dX11_tries_93 : decode cX11_tries 93 = .ok (.iaload, 1) := dc_46 (bq_nm bk_X11_tries_63 (j := 30) rfl rfl)
set_option maxRecDepth 20000 in
theorem bk_X11_tries_94 : ((cX11_tries.data.toList.drop 94).take 30).length = 30 ∧ eN (((cX11_tries.data.toList.drop 94).take 30).map UInt8.toNat) = 55946331528183590703593428366811856659229990324877044168744027463942306 := by decide +kernel
theorem dX11_tries_94 : decode cX11_tries 94 = .ok (.if_icmp .ge 69, 3) := dc_162 (bq_nm bk_X11_tries_94 (j := 0) rfl rfl) (bq_nm bk_X11_tries_94 (j := 1) rfl rfl) (bq_nm bk_X11_tries_94 (j := 2) rfl rfl) rfl
theorem dX11_tries_97 : decode cX11_tries 97 = .ok (.aload_n 0, 1) := dc_42 (bq_nm bk_X11_tries_94 (j := 3) rfl rfl)
theorem dX11_tries_98 : decode cX11_tries 98 = .ok (.iload_n 1, 1) := dc_27 (bq_nm bk_X11_tries_94 (j := 4) rfl rfl)
theorem dX11_tries_99 : decode cX11_tries 99 = .ok (.iconst 5, 1) := dc_8 (bq_nm bk_X11_tries_94 (j := 5) rfl rfl)
theorem dX11_tries_100 : decode cX11_tries 100 = .ok (.invokevirtual 149, 3) := dc_182 (bq_nm bk_X11_tries_94 (j := 6) rfl rfl) (bq_nm bk_X11_tries_94 (j := 7) rfl rfl) (bq_nm bk_X11_tries_94 (j := 8) rfl rfl) rfl
theorem dX11_tries_103 : decode cX11_tries 103 = .ok (.iconst (-1), 1) := dc_2 (bq_nm bk_X11_tries_94 (j := 9) rfl rfl)
theorem dX11_tries_104 : decode cX11_tries 104 = .ok (.if_icmp .eq 30, 3) := dc_159 (bq_nm bk_X11_tries_94 (j := 10) rfl rfl) (bq_nm bk_X11_tries_94 (j := 11) rfl rfl) (bq_nm bk_X11_tries_94 (j := 12) rfl rfl) rfl
theorem dX11_tries_107 : decode cX11_tries 107 = .ok (.aload_n 0, 1) := dc_42 (bq_nm bk_X11_tries_94 (j := 13) rfl rfl)
theorem dX11_tries_108 : decode cX11_tries 108 = .ok (.getfield 7, 3) := dc_180 (bq_nm bk_X11_tries_94 (j := 14) rfl rfl) (bq_nm bk_X11_tries_94 (j := 15) rfl rfl) (bq_nm bk_X11_tries_94 (j := 16) rfl rfl) rfl
theorem dX11_tries_111 : decode cX11_tries 111 = .ok (.bipush 10, 2) := dc_16 (bq_nm bk_X11_tries_94 (j := 17) rfl rfl) (bq_nm bk_X11_tries_94 (j := 18) rfl rfl) rfl
theorem dX11_tries_113 : decode cX11_tries 113 = .ok (.iconst 4, 1) := dc_7 (bq_nm bk_X11_tries_94 (j := 19) rfl rfl)
theorem dX11_tries_114 : decode cX11_tries 114 = .ok (.iload 10, 2) := dc_21 (bq_nm bk_X11_tries_94 (j := 20) rfl rfl) (bq_nm bk_X11_tries_94 (j := 21) rfl rfl)
theorem dX11_tries_116 : decode cX11_tries 116 = .ok (.imul, 1) := dc_104 (bq_nm bk_X11_tries_94 (j := 22) rfl rfl)
theorem dX11_tries_117 : decode cX11_tries 117 = .ok (.iadd, 1) := dc_96 (bq_nm bk_X11_tries_94 (j := 23) rfl rfl)
theorem dX11_tries_118 : decode cX11_tries 118 = .ok (.iconst 1, 1) := dc_4 (bq_nm bk_X11_tries_94 (j := 24) rfl rfl)
theorem dX11_tries_119 : decode cX11_tries 119 = .ok (.iadd, 1) := dc_96 (bq_nm bk_X11_tries_94 (j := 25) rfl rfl)
theorem dX11_tries_120 : decode cX11_tries 120 = .ok (.iaload, 1) := dc_46 (bq_nm bk_X11_tries_94 (j := 26) rfl rfl)
theorem dX11_tries_121 : decode cX11_tries 121 = .ok (.aload_n 0, 1) := dc_42 (bq_nm bk_X11_tries_94 (j := 27) rfl rfl)
theorem dX11_tries_122 : decode cX11_tries 122 = .ok (.iload_n 1, 1) := dc_27 (bq_nm bk_X11_tries_94 (j := 28) rfl rfl)
theorem dX11_tries_123 : decode cX11_tries 123 = .ok (.iconst 5, 1) := dc_8 (bq_nm bk_X11_tries_94 (j := 29) rfl rfl)
set_option maxRecDepth 20000 in
theorem bk_X11_tries_124 : ((cX11_tries.data.toList.drop 124).take 31).length = 31 ∧ eN (((cX11_tries.data.toList.drop 124).take 31).map UInt8.toNat) = 222636641563465407969104136165422431281943958895397655451469653406165303478 := by decide +kernel
theorem dX11_tries_124 : decode cX11_tries 124 = .ok (.invokevirtual 149, 3) := dc_182 (bq_nm bk_X11_tries_124 (j := 0) rfl rfl) (bq_nm bk_X11_tries_124 (j := 1) rfl rfl) (bq_nm bk_X11_tries_124 (j := 2) rfl rfl) rfl
theorem dX11_tries_127 : decode cX11_tries 127 = .ok (.if_icmp .eq 7, 3) := dc_159 (bq_nm bk_X11_tries_124 (j := 3) rfl rfl) (bq_nm bk_X11_tries_124 (j := 4) rfl rfl) (bq_nm bk_X11_tries_124 (j := 5) rfl rfl) rfl
theorem dX11_tries_130 : decode cX11_tries 130 = .ok (.iconst 1, 1) := dc_4 (bq_nm bk_X11_tries_124 (j := 6) rfl rfl)
theorem dX11_tries_131 : decode cX11_tries 131 = .ok (.goto 4, 3) := dc_167 (bq_nm bk_X11_tries_124 (j := 7) rfl rfl) (bq_nm bk_X11_tries_124 (j := 8) rfl rfl) (bq_nm bk_X11_tries_124 (j := 9) rfl rfl) rfl
theorem dX11_tries_134 : decode cX11_tries 134 = .ok (.iconst 0, 1) := dc_3 (bq_nm bk_X11_tries_124 (j := 10) rfl rfl)
theorem dX11_tries_135 : decode cX11_tries 135 = .ok (.istore 11, 2) := dc_54 (bq_nm bk_X11_tries_124 (j := 11) rfl rfl) (bq_nm bk_X11_tries_124 (j := 12) rfl rfl)
theorem dX11_tries_137 : decode cX11_tries 137 = .ok (.iload 9, 2) := dc_21 (bq_nm bk_X11_tries_124 (j := 13) rfl rfl) (bq_nm bk_X11_tries_124 (j := 14) rfl rfl)
theorem dX11_tries_139 : decode cX11_tries 139 = .ok (.iload 11, 2) := dc_21 (bq_nm bk_X11_tries_124 (j := 15) rfl rfl) (bq_nm bk_X11_tries_124 (j := 16) rfl rfl)
theorem dX11_tries_141 : decode cX11_tries 141 = .ok (.ifCond .eq 12, 3) := dc_153 (bq_nm bk_X11_tries_124 (j := 17) rfl rfl) (bq_nm bk_X11_tries_124 (j := 18) rfl rfl) (bq_nm bk_X11_tries_124 (j := 19) rfl rfl) rfl
theorem dX11_tries_144 : decode cX11_tries 144 = .ok (.iconst 1, 1) := dc_4 (bq_nm bk_X11_tries_124 (j := 20) rfl rfl)
theorem dX11_tries_145 : decode cX11_tries 145 = .ok (.iload 10, 2) := dc_21 (bq_nm bk_X11_tries_124 (j := 21) rfl rfl) (bq_nm bk_X11_tries_124 (j := 22) rfl rfl)
theorem dX11_tries_147 : decode cX11_tries 147 = .ok (.ishl, 1) := dc_120 (bq_nm bk_X11_tries_124 (j := 23) rfl rfl)
theorem dX11_tries_148 : decode cX11_tries 148 = .ok (.iconst (-1), 1) := dc_2 (bq_nm bk_X11_tries_124 (j := 24) rfl rfl)
theorem dX11_tries_149 : decode cX11_tries 149 = .ok (.ixor, 1) := dc_130 (bq_nm bk_X11_tries_124 (j := 25) rfl rfl)
theorem dX11_tries_150 : decode cX11_tries 150 = .ok (.goto 4, 3) := dc_167 (bq_nm bk_X11_tries_124 (j := 26) rfl rfl) (bq_nm bk_X11_tries_124 (j := 27) rfl rfl) (bq_nm bk_X11_tries_124 (j := 28) rfl rfl) rfl
theorem dX11_tries_153 : decode cX11_tries 153 = .ok (.iconst (-1), 1) := dc_2 (bq_nm bk_X11_tries_124 (j := 29) rfl rfl)
theorem dX11_tries_154 : decode cX11_tries 154 = .ok (.iand, 1) := dc_126 (bq_nm bk_X11_tries_124 (j := 30) rfl rfl)
set_option maxRecDepth 20000 in
theorem bk_X11_tries_155 : ((cX11_tries.data.toList.drop 155).take 32).length = 32 ∧ eN (((cX11_tries.data.toList.drop 155).take 32).map UInt8.toNat) = 12665878653727183198190442360598615953750439712899464820553085086260611254582 := by decide +kernel
theorem dX11_tries_155 : decode cX11_tries 155 = .ok (.istore 9, 2) := dc_54 (bq_nm bk_X11_tries_155 (j := 0) rfl rfl) (bq_nm bk_X11_tries_155 (j := 1) rfl rfl)
theorem dX11_tries_157 : decode cX11_tries 157 = .ok (.iinc 10 1, 3) := dc_132 (bq_nm bk_X11_tries_155 (j := 2) rfl rfl) (bq_nm bk_X11_tries_155 (j := 3) rfl rfl) (bq_nm bk_X11_tries_155 (j := 4) rfl rfl) rfl
theorem dX11_tries_160 : decode cX11_tries 160 = .ok (.goto (-74), 3) := dc_167 (bq_nm bk_X11_tries_155 (j := 5) rfl rfl) (bq_nm bk_X11_tries_155 (j := 6) rfl rfl) (bq_nm bk_X11_tries_155 (j := 7) rfl rfl) rfl
theorem dX11_tries_163 : decode cX11_tries 163 = .ok (.aload_n 0, 1) := dc_42 (bq_nm bk_X11_tries_155 (j := 8) rfl rfl)
theorem dX11_tries_164 : decode cX11_tries 164 = .ok (.getfield 33, 3) := dc_180 (bq_nm bk_X11_tries_155 (j := 9) rfl rfl) (bq_nm bk_X11_tries_155 (j := 10) rfl rfl) (bq_nm bk_X11_tries_155 (j := 11) rfl rfl) rfl
theorem dX11_tries_167 : decode cX11_tries 167 = .ok (.iload_n 2, 1) := dc_28 (bq_nm bk_X11_tries_155 (j := 12) rfl rfl)
theorem dX11_tries_168 : decode cX11_tries 168 = .ok (.iload 9, 2) := dc_21 (bq_nm bk_X11_tries_155 (j := 13) rfl rfl) (bq_nm bk_X11_tries_155 (j := 14) rfl rfl)
theorem dX11_tries_170 : decode cX11_tries 170 = .ok (.iastore, 1) := dc_79 (bq_nm bk_X11_tries_155 (j := 15) rfl rfl)
theorem dX11_tries_171 : decode cX11_tries 171 = .ok (.aload_n 0, 1) := dc_42 (bq_nm bk_X11_tries_155 (j := 16) rfl rfl)
theorem dX11_tries_172 : decode cX11_tries 172 = .ok (.iload_n 1, 1) := dc_27 (bq_nm bk_X11_tries_155 (j := 17) rfl rfl)
theorem dX11_tries_173 : decode cX11_tries 173 = .ok (.iload_n 2, 1) := dc_28 (bq_nm bk_X11_tries_155 (j := 18) rfl rfl)
theorem dX11_tries_174 : decode cX11_tries 174 = .ok (.invokevirtual 212, 3) := dc_182 (bq_nm bk_X11_tries_155 (j := 19) rfl rfl) (bq_nm bk_X11_tries_155 (j := 20) rfl rfl) (bq_nm bk_X11_tries_155 (j := 21) rfl rfl) rfl
theorem dX11_tries_177 : decode cX11_tries 177 = .ok (.iconst 0, 1) := dc_3 (bq_nm bk_X11_tries_155 (j := 22) rfl rfl)
theorem dX11_tries_178 : decode cX11_tries 178 = .ok (.istore 10, 2) := dc_54 (bq_nm bk_X11_tries_155 (j := 23) rfl rfl) (bq_nm bk_X11_tries_155 (j := 24) rfl rfl)
theorem dX11_tries_180 : decode cX11_tries 180 = .ok (.iload 10, 2) := dc_21 (bq_nm bk_X11_tries_155 (j := 25) rfl rfl) (bq_nm bk_X11_tries_155 (j := 26) rfl rfl)
theorem dX11_tries_182 : decode cX11_tries 182 = .ok (.bipush 30, 2) := dc_16 (bq_nm bk_X11_tries_155 (j := 27) rfl rfl) (bq_nm bk_X11_tries_155 (j := 28) rfl rfl) rfl
theorem dX11_tries_184 : decode cX11_tries 184 = .ok (.if_icmp .ge 28, 3) := dc_162 (bq_nm bk_X11_tries_155 (j := 29) rfl rfl) (bq_nm bk_X11_tries_155 (j := 30) rfl rfl) (bq_nm bk_X11_tries_155 (j := 31) rfl rfl) rfl
set_option maxRecDepth 20000 in
theorem bk_X11_tries_187 : ((cX11_tries.data.toList.drop 187).take 31).length = 31 ∧ eN (((cX11_tries.data.toList.drop 187).take 31).map UInt8.toNat) = 74277161418383537838021007348183858115380758828543963158848026045635933226 := by decide +kernel
theorem dX11_tries_187 : decode cX11_tries 187 = .ok (.aload_n 0, 1) := dc_42 (bq_nm bk_X11_tries_187 (j := 0) rfl rfl)
theorem dX11_tries_188 : decode cX11_tries 188 = .ok (.getfield 45, 3) := dc_180 (bq_nm bk_X11_tries_187 (j := 1) rfl rfl) (bq_nm bk_X11_tries_187 (j := 2) rfl rfl) (bq_nm bk_X11_tries_187 (j := 3) rfl rfl) rfl
theorem dX11_tries_191 : decode cX11_tries 191 = .ok (.bipush 30, 2) := dc_16 (bq_nm bk_X11_tries_187 (j := 4) rfl rfl) (bq_nm bk_X11_tries_187 (j := 5) rfl rfl) rfl
theorem dX11_tries_193 : decode cX11_tries 193 = .ok (.iload_n 2, 1) := dc_28 (bq_nm bk_X11_tries_187 (j := 6) rfl rfl)
theorem dX11_tries_194 : decode cX11_tries 194 = .ok (.imul, 1) := dc_104 (bq_nm bk_X11_tries_187 (j := 7) rfl rfl)
theorem dX11_tries_195 : decode cX11_tries 195 = .ok (.iload 10, 2) := dc_21 (bq_nm bk_X11_tries_187 (j := 8) rfl rfl) (bq_nm bk_X11_tries_187 (j := 9) rfl rfl)
theorem dX11_tries_197 : decode cX11_tries 197 = .ok (.iadd, 1) := dc_96 (bq_nm bk_X11_tries_187 (j := 10) rfl rfl)
theorem dX11_tries_198 : decode cX11_tries 198 = .ok (.iload 9, 2) := dc_21 (bq_nm bk_X11_tries_187 (j := 11) rfl rfl) (bq_nm bk_X11_tries_187 (j := 12) rfl rfl)
theorem dX11_tries_200 : decode cX11_tries 200 = .ok (.iload 10, 2) := dc_21 (bq_nm bk_X11_tries_187 (j := 13) rfl rfl) (bq_nm bk_X11_tries_187 (j := 14) rfl rfl)
theorem dX11_tries_202 : decode cX11_tries 202 = .ok (.ishr, 1) := dc_122 (bq_nm bk_X11_tries_187 (j := 15) rfl rfl)
theorem dX11_tries_203 : decode cX11_tries 203 = .ok (.iconst 1, 1) := dc_4 (bq_nm bk_X11_tries_187 (j := 16) rfl rfl)
theorem dX11_tries_204 : decode cX11_tries 204 = .ok (.iand, 1) := dc_126 (bq_nm bk_X11_tries_187 (j := 17) rfl rfl)
theorem dX11_tries_205 : decode cX11_tries 205 = .ok (.iastore, 1) := dc_79 (bq_nm bk_X11_tries_187 (j := 18) rfl rfl)
theorem dX11_tries_206 : decode cX11_tries 206 = .ok (.iinc 10 1, 3) := dc_132 (bq_nm bk_X11_tries_187 (j := 19) rfl rfl) (bq_nm bk_X11_tries_187 (j := 20) rfl rfl) (bq_nm bk_X11_tries_187 (j := 21) rfl rfl) rfl
theorem dX11_tries_209 : decode cX11_tries 209 = .ok (.goto (-29), 3) := dc_167 (bq_nm bk_X11_tries_187 (j := 22) rfl rfl) (bq_nm bk_X11_tries_187 (j := 23) rfl rfl) (bq_nm bk_X11_tries_187 (j := 24) rfl rfl) rfl
theorem dX11_tries_212 : decode cX11_tries 212 = .ok (.iconst 0, 1) := dc_3 (bq_nm bk_X11_tries_187 (j := 25) rfl rfl)
theorem dX11_tries_213 : decode cX11_tries 213 = .ok (.istore 10, 2) := dc_54 (bq_nm bk_X11_tries_187 (j := 26) rfl rfl) (bq_nm bk_X11_tries_187 (j := 27) rfl rfl)
theorem dX11_tries_215 : decode cX11_tries 215 = .ok (.iload 10, 2) := dc_21 (bq_nm bk_X11_tries_187 (j := 28) rfl rfl) (bq_nm bk_X11_tries_187 (j := 29) rfl rfl)
theorem dX11_tries_217 : decode cX11_tries 217 = .ok (.aload_n 0, 1) := dc_42 (bq_nm bk_X11_tries_187 (j := 30) rfl rfl)
set_option maxRecDepth 20000 in
theorem bk_X11_tries_218 : ((cX11_tries.data.toList.drop 218).take 32).length = 32 ∧ eN (((cX11_tries.data.toList.drop 218).take 32).map UInt8.toNat) = 5013263662440872326795228707825306507554518825037516072618252903939895328948 := by decide +kernel
theorem dX11_tries_218 : decode cX11_tries 218 = .ok (.getfield 42, 3) := dc_180 (bq_nm bk_X11_tries_218 (j := 0) rfl rfl) (bq_nm bk_X11_tries_218 (j := 1) rfl rfl) (bq_nm bk_X11_tries_218 (j := 2) rfl rfl) rfl
theorem dX11_tries_221 : decode cX11_tries 221 = .ok (.iload_n 2, 1) := dc_28 (bq_nm bk_X11_tries_218 (j := 3) rfl rfl)
theorem dX11_tries_222 : decode cX11_tries 222 = .ok (.iaload, 1) := dc_46 (bq_nm bk_X11_tries_218 (j := 4) rfl rfl)
theorem dX11_tries_223 : decode cX11_tries 223 = .ok (.if_icmp .ge 57, 3) := dc_162 (bq_nm bk_X11_tries_218 (j := 5) rfl rfl) (bq_nm bk_X11_tries_218 (j := 6) rfl rfl) (bq_nm bk_X11_tries_218 (j := 7) rfl rfl) rfl
theorem dX11_tries_226 : decode cX11_tries 226 = .ok (.aload_n 0, 1) := dc_42 (bq_nm bk_X11_tries_218 (j := 8) rfl rfl)
theorem dX11_tries_227 : decode cX11_tries 227 = .ok (.getfield 39, 3) := dc_180 (bq_nm bk_X11_tries_218 (j := 9) rfl rfl) (bq_nm bk_X11_tries_218 (j := 10) rfl rfl) (bq_nm bk_X11_tries_218 (j := 11) rfl rfl) rfl
theorem dX11_tries_230 : decode cX11_tries 230 = .ok (.bipush 24, 2) := dc_16 (bq_nm bk_X11_tries_218 (j := 12) rfl rfl) (bq_nm bk_X11_tries_218 (j := 13) rfl rfl) rfl
theorem dX11_tries_232 : decode cX11_tries 232 = .ok (.iload_n 2, 1) := dc_28 (bq_nm bk_X11_tries_218 (j := 14) rfl rfl)
theorem dX11_tries_233 : decode cX11_tries 233 = .ok (.imul, 1) := dc_104 (bq_nm bk_X11_tries_218 (j := 15) rfl rfl)
theorem dX11_tries_234 : decode cX11_tries 234 = .ok (.iload 10, 2) := dc_21 (bq_nm bk_X11_tries_218 (j := 16) rfl rfl) (bq_nm bk_X11_tries_218 (j := 17) rfl rfl)
theorem dX11_tries_236 : decode cX11_tries 236 = .ok (.iadd, 1) := dc_96 (bq_nm bk_X11_tries_218 (j := 18) rfl rfl)
theorem dX11_tries_237 : decode cX11_tries 237 = .ok (.iaload, 1) := dc_46 (bq_nm bk_X11_tries_218 (j := 19) rfl rfl)
theorem dX11_tries_238 : decode cX11_tries 238 = .ok (.istore 11, 2) := dc_54 (bq_nm bk_X11_tries_218 (j := 20) rfl rfl) (bq_nm bk_X11_tries_218 (j := 21) rfl rfl)
theorem dX11_tries_240 : decode cX11_tries 240 = .ok (.aload_n 0, 1) := dc_42 (bq_nm bk_X11_tries_218 (j := 22) rfl rfl)
theorem dX11_tries_241 : decode cX11_tries 241 = .ok (.getfield 45, 3) := dc_180 (bq_nm bk_X11_tries_218 (j := 23) rfl rfl) (bq_nm bk_X11_tries_218 (j := 24) rfl rfl) (bq_nm bk_X11_tries_218 (j := 25) rfl rfl) rfl
theorem dX11_tries_244 : decode cX11_tries 244 = .ok (.bipush 30, 2) := dc_16 (bq_nm bk_X11_tries_218 (j := 26) rfl rfl) (bq_nm bk_X11_tries_218 (j := 27) rfl rfl) rfl
theorem dX11_tries_246 : decode cX11_tries 246 = .ok (.iload_n 2, 1) := dc_28 (bq_nm bk_X11_tries_218 (j := 28) rfl rfl)
theorem dX11_tries_247 : decode cX11_tries 247 = .ok (.imul, 1) := dc_104 (bq_nm bk_X11_tries_218 (j := 29) rfl rfl)
theorem dX11_tries_248 : decode cX11_tries 248 = .ok (.iload 11, 2) := dc_21 (bq_nm bk_X11_tries_218 (j := 30) rfl rfl) (bq_nm bk_X11_tries_218 (j := 31) rfl rfl)
set_option maxRecDepth 20000 in
theorem bk_X11_tries_250 : ((cX11_tries.data.toList.drop 250).take 31).length = 31 ∧ eN (((cX11_tries.data.toList.drop 250).take 31).map UInt8.toNat) = 75553407885950619314315661869044703734174701889171593464998266636559133280 := by decide +kernel
theorem dX11_tries_250 : decode cX11_tries 250 = .ok (.iadd, 1) := dc_96 (bq_nm bk_X11_tries_250 (j := 0) rfl rfl)
theorem dX11_tries_251 : decode cX11_tries 251 = .ok (.aload_n 0, 1) := dc_42 (bq_nm bk_X11_tries_250 (j := 1) rfl rfl)
theorem dX11_tries_252 : decode cX11_tries 252 = .ok (.iload_n 1, 1) := dc_27 (bq_nm bk_X11_tries_250 (j := 2) rfl rfl)
theorem dX11_tries_253 : decode cX11_tries 253 = .ok (.bipush 9, 2) := dc_16 (bq_nm bk_X11_tries_250 (j := 3) rfl rfl) (bq_nm bk_X11_tries_250 (j := 4) rfl rfl) rfl
theorem dX11_tries_255 : decode cX11_tries 255 = .ok (.invokevirtual 149, 3) := dc_182 (bq_nm bk_X11_tries_250 (j := 5) rfl rfl) (bq_nm bk_X11_tries_250 (j := 6) rfl rfl) (bq_nm bk_X11_tries_250 (j := 7) rfl rfl) rfl
theorem dX11_tries_258 : decode cX11_tries 258 = .ok (.iload 11, 2) := dc_21 (bq_nm bk_X11_tries_250 (j := 8) rfl rfl) (bq_nm bk_X11_tries_250 (j := 9) rfl rfl)
theorem dX11_tries_260 : decode cX11_tries 260 = .ok (.ishr, 1) := dc_122 (bq_nm bk_X11_tries_250 (j := 10) rfl rfl)
theorem dX11_tries_261 : decode cX11_tries 261 = .ok (.iconst 1, 1) := dc_4 (bq_nm bk_X11_tries_250 (j := 11) rfl rfl)
theorem dX11_tries_262 : decode cX11_tries 262 = .ok (.iand, 1) := dc_126 (bq_nm bk_X11_tries_250 (j := 12) rfl rfl)
theorem dX11_tries_263 : decode cX11_tries 263 = .ok (.iconst 1, 1) := dc_4 (bq_nm bk_X11_tries_250 (j := 13) rfl rfl)
theorem dX11_tries_264 : decode cX11_tries 264 = .ok (.if_icmp .ne 7, 3) := dc_160 (bq_nm bk_X11_tries_250 (j := 14) rfl rfl) (bq_nm bk_X11_tries_250 (j := 15) rfl rfl) (bq_nm bk_X11_tries_250 (j := 16) rfl rfl) rfl
theorem dX11_tries_267 : decode cX11_tries 267 = .ok (.iconst 2, 1) := dc_5 (bq_nm bk_X11_tries_250 (j := 17) rfl rfl)
theorem dX11_tries_268 : decode cX11_tries 268 = .ok (.goto 5, 3) := dc_167 (bq_nm bk_X11_tries_250 (j := 18) rfl rfl) (bq_nm bk_X11_tries_250 (j := 19) rfl rfl) (bq_nm bk_X11_tries_250 (j := 20) rfl rfl) rfl
theorem dX11_tries_271 : decode cX11_tries 271 = .ok (.bipush 6, 2) := dc_16 (bq_nm bk_X11_tries_250 (j := 21) rfl rfl) (bq_nm bk_X11_tries_250 (j := 22) rfl rfl) rfl
theorem dX11_tries_273 : decode cX11_tries 273 = .ok (.iastore, 1) := dc_79 (bq_nm bk_X11_tries_250 (j := 23) rfl rfl)
theorem dX11_tries_274 : decode cX11_tries 274 = .ok (.iinc 10 1, 3) := dc_132 (bq_nm bk_X11_tries_250 (j := 24) rfl rfl) (bq_nm bk_X11_tries_250 (j := 25) rfl rfl) (bq_nm bk_X11_tries_250 (j := 26) rfl rfl) rfl
theorem dX11_tries_277 : decode cX11_tries 277 = .ok (.goto (-62), 3) := dc_167 (bq_nm bk_X11_tries_250 (j := 27) rfl rfl) (bq_nm bk_X11_tries_250 (j := 28) rfl rfl) (bq_nm bk_X11_tries_250 (j := 29) rfl rfl) rfl
theorem dX11_tries_280 : decode cX11_tries 280 = .ok (.aload_n 0, 1) := dc_42 (bq_nm bk_X11_tries_250 (j := 30) rfl rfl)
set_option maxRecDepth 20000 in
theorem bk_X11_tries_281 : ((cX11_tries.data.toList.drop 281).take 31).length = 31 ∧ eN (((cX11_tries.data.toList.drop 281).take 31).map UInt8.toNat) = 5845870147775787349706829096347625716226494737051821999269246948695081140 := by decide +kernel
theorem dX11_tries_281 : decode cX11_tries 281 = .ok (.getfield 48, 3) := dc_180 (bq_nm bk_X11_tries_281 (j := 0) rfl rfl) (bq_nm bk_X11_tries_281 (j := 1) rfl rfl) (bq_nm bk_X11_tries_281 (j := 2) rfl rfl) rfl
theorem dX11_tries_284 : decode cX11_tries 284 = .ok (.iconst 4, 1) := dc_7 (bq_nm bk_X11_tries_281 (j := 3) rfl rfl)
theorem dX11_tries_285 : decode cX11_tries 285 = .ok (.iload_n 2, 1) := dc_28 (bq_nm bk_X11_tries_281 (j := 4) rfl rfl)
theorem dX11_tries_286 : decode cX11_tries 286 = .ok (.imul, 1) := dc_104 (bq_nm bk_X11_tries_281 (j := 5) rfl rfl)
theorem dX11_tries_287 : decode cX11_tries 287 = .ok (.iconst 0, 1) := dc_3 (bq_nm bk_X11_tries_281 (j := 6) rfl rfl)
theorem dX11_tries_288 : decode cX11_tries 288 = .ok (.iastore, 1) := dc_79 (bq_nm bk_X11_tries_281 (j := 7) rfl rfl)
theorem dX11_tries_289 : decode cX11_tries 289 = .ok (.aload_n 0, 1) := dc_42 (bq_nm bk_X11_tries_281 (j := 8) rfl rfl)
theorem dX11_tries_290 : decode cX11_tries 290 = .ok (.getfield 48, 3) := dc_180 (bq_nm bk_X11_tries_281 (j := 9) rfl rfl) (bq_nm bk_X11_tries_281 (j := 10) rfl rfl) (bq_nm bk_X11_tries_281 (j := 11) rfl rfl) rfl
theorem dX11_tries_293 : decode cX11_tries 293 = .ok (.iconst 4, 1) := dc_7 (bq_nm bk_X11_tries_281 (j := 12) rfl rfl)
theorem dX11_tries_294 : decode cX11_tries 294 = .ok (.iload_n 2, 1) := dc_28 (bq_nm bk_X11_tries_281 (j := 13) rfl rfl)
theorem dX11_tries_295 : decode cX11_tries 295 = .ok (.imul, 1) := dc_104 (bq_nm bk_X11_tries_281 (j := 14) rfl rfl)
theorem dX11_tries_296 : decode cX11_tries 296 = .ok (.iconst 1, 1) := dc_4 (bq_nm bk_X11_tries_281 (j := 15) rfl rfl)
theorem dX11_tries_297 : decode cX11_tries 297 = .ok (.iadd, 1) := dc_96 (bq_nm bk_X11_tries_281 (j := 16) rfl rfl)
theorem dX11_tries_298 : decode cX11_tries 298 = .ok (.iconst 0, 1) := dc_3 (bq_nm bk_X11_tries_281 (j := 17) rfl rfl)
theorem dX11_tries_299 : decode cX11_tries 299 = .ok (.iastore, 1) := dc_79 (bq_nm bk_X11_tries_281 (j := 18) rfl rfl)
theorem dX11_tries_300 : decode cX11_tries 300 = .ok (.aload_n 0, 1) := dc_42 (bq_nm bk_X11_tries_281 (j := 19) rfl rfl)
theorem dX11_tries_301 : decode cX11_tries 301 = .ok (.getfield 48, 3) := dc_180 (bq_nm bk_X11_tries_281 (j := 20) rfl rfl) (bq_nm bk_X11_tries_281 (j := 21) rfl rfl) (bq_nm bk_X11_tries_281 (j := 22) rfl rfl) rfl
theorem dX11_tries_304 : decode cX11_tries 304 = .ok (.iconst 4, 1) := dc_7 (bq_nm bk_X11_tries_281 (j := 23) rfl rfl)
theorem dX11_tries_305 : decode cX11_tries 305 = .ok (.iload_n 2, 1) := dc_28 (bq_nm bk_X11_tries_281 (j := 24) rfl rfl)
theorem dX11_tries_306 : decode cX11_tries 306 = .ok (.imul, 1) := dc_104 (bq_nm bk_X11_tries_281 (j := 25) rfl rfl)
theorem dX11_tries_307 : decode cX11_tries 307 = .ok (.iconst 2, 1) := dc_5 (bq_nm bk_X11_tries_281 (j := 26) rfl rfl)
theorem dX11_tries_308 : decode cX11_tries 308 = .ok (.iadd, 1) := dc_96 (bq_nm bk_X11_tries_281 (j := 27) rfl rfl)
theorem dX11_tries_309 : decode cX11_tries 309 = .ok (.iconst 0, 1) := dc_3 (bq_nm bk_X11_tries_281 (j := 28) rfl rfl)
theorem dX11_tries_310 : decode cX11_tries 310 = .ok (.iastore, 1) := dc_79 (bq_nm bk_X11_tries_281 (j := 29) rfl rfl)
theorem dX11_tries_311 : decode cX11_tries 311 = .ok (.iconst 0, 1) := dc_3 (bq_nm bk_X11_tries_281 (j := 30) rfl rfl)
set_option maxRecDepth 20000 in
theorem bk_X11_tries_312 : ((cX11_tries.data.toList.drop 312).take 31).length = 31 ∧ eN (((cX11_tries.data.toList.drop 312).take 31).map UInt8.toNat) = 169645197019251620221022947242768396661787623828528403447811057648253733430 := by decide +kernel
theorem dX11_tries_312 : decode cX11_tries 312 = .ok (.istore 10, 2) := dc_54 (bq_nm bk_X11_tries_312 (j := 0) rfl rfl) (bq_nm bk_X11_tries_312 (j := 1) rfl rfl)
theorem dX11_tries_314 : decode cX11_tries 314 = .ok (.iconst 0, 1) := dc_3 (bq_nm bk_X11_tries_312 (j := 2) rfl rfl)
theorem dX11_tries_315 : decode cX11_tries 315 = .ok (.istore 11, 2) := dc_54 (bq_nm bk_X11_tries_312 (j := 3) rfl rfl) (bq_nm bk_X11_tries_312 (j := 4) rfl rfl)
theorem dX11_tries_317 : decode cX11_tries 317 = .ok (.iload 10, 2) := dc_21 (bq_nm bk_X11_tries_312 (j := 5) rfl rfl) (bq_nm bk_X11_tries_312 (j := 6) rfl rfl)
theorem dX11_tries_319 : decode cX11_tries 319 = .ok (.iconst 2, 1) := dc_5 (bq_nm bk_X11_tries_312 (j := 7) rfl rfl)
theorem dX11_tries_320 : decode cX11_tries 320 = .ok (.if_icmp .ge 77, 3) := dc_162 (bq_nm bk_X11_tries_312 (j := 8) rfl rfl) (bq_nm bk_X11_tries_312 (j := 9) rfl rfl) (bq_nm bk_X11_tries_312 (j := 10) rfl rfl) rfl
theorem dX11_tries_323 : decode cX11_tries 323 = .ok (.aload_n 0, 1) := dc_42 (bq_nm bk_X11_tries_312 (j := 11) rfl rfl)
theorem dX11_tries_324 : decode cX11_tries 324 = .ok (.iload_n 1, 1) := dc_27 (bq_nm bk_X11_tries_312 (j := 12) rfl rfl)
theorem dX11_tries_325 : decode cX11_tries 325 = .ok (.iload_n 2, 1) := dc_28 (bq_nm bk_X11_tries_312 (j := 13) rfl rfl)
theorem dX11_tries_326 : decode cX11_tries 326 = .ok (.iload 11, 2) := dc_21 (bq_nm bk_X11_tries_312 (j := 14) rfl rfl) (bq_nm bk_X11_tries_312 (j := 15) rfl rfl)
theorem dX11_tries_328 : decode cX11_tries 328 = .ok (.invokevirtual 215, 3) := dc_182 (bq_nm bk_X11_tries_312 (j := 16) rfl rfl) (bq_nm bk_X11_tries_312 (j := 17) rfl rfl) (bq_nm bk_X11_tries_312 (j := 18) rfl rfl) rfl
theorem dX11_tries_331 : decode cX11_tries 331 = .ok (.istore 12, 2) := dc_54 (bq_nm bk_X11_tries_312 (j := 19) rfl rfl) (bq_nm bk_X11_tries_312 (j := 20) rfl rfl)
theorem dX11_tries_333 : decode cX11_tries 333 = .ok (.iload 12, 2) := dc_21 (bq_nm bk_X11_tries_312 (j := 21) rfl rfl) (bq_nm bk_X11_tries_312 (j := 22) rfl rfl)
theorem dX11_tries_335 : decode cX11_tries 335 = .ok (.iconst (-1), 1) := dc_2 (bq_nm bk_X11_tries_312 (j := 23) rfl rfl)
theorem dX11_tries_336 : decode cX11_tries 336 = .ok (.if_icmp .ne 10, 3) := dc_160 (bq_nm bk_X11_tries_312 (j := 24) rfl rfl) (bq_nm bk_X11_tries_312 (j := 25) rfl rfl) (bq_nm bk_X11_tries_312 (j := 26) rfl rfl) rfl
theorem dX11_tries_339 : decode cX11_tries 339 = .ok (.iload 10, 2) := dc_21 (bq_nm bk_X11_tries_312 (j := 27) rfl rfl) (bq_nm bk_X11_tries_312 (j := 28) rfl rfl)
theorem dX11_tries_341 : decode cX11_tries 341 = .ok (.iconst 1, 1) := dc_4 (bq_nm bk_X11_tries_312 (j := 29) rfl rfl)
theorem dX11_tries_342 : decode cX11_tries 342 = .ok (.iadd, 1) := dc_96 (bq_nm bk_X11_tries_312 (j := 30) rfl rfl)
set_option maxRecDepth 20000 in
theorem bk_X11_tries_343 : ((cX11_tries.data.toList.drop 343).take 32).length = 32 ∧ eN (((cX11_tries.data.toList.drop 343).take 32).map UInt8.toNat) = 21712260187016149923213838373546643699359416128904501667637399331851955601575 := by decide +kernel
theorem dX11_tries_343 : decode cX11_tries 343 = .ok (.goto 4, 3) := dc_167 (bq_nm bk_X11_tries_343 (j := 0) rfl rfl) (bq_nm bk_X11_tries_343 (j := 1) rfl rfl) (bq_nm bk_X11_tries_343 (j := 2) rfl rfl) rfl
theorem dX11_tries_346 : decode cX11_tries 346 = .ok (.iconst 0, 1) := dc_3 (bq_nm bk_X11_tries_343 (j := 3) rfl rfl)
theorem dX11_tries_347 : decode cX11_tries 347 = .ok (.istore 10, 2) := dc_54 (bq_nm bk_X11_tries_343 (j := 4) rfl rfl) (bq_nm bk_X11_tries_343 (j := 5) rfl rfl)
theorem dX11_tries_349 : decode cX11_tries 349 = .ok (.iload 12, 2) := dc_21 (bq_nm bk_X11_tries_343 (j := 6) rfl rfl) (bq_nm bk_X11_tries_343 (j := 7) rfl rfl)
theorem dX11_tries_351 : decode cX11_tries 351 = .ok (.iconst (-1), 1) := dc_2 (bq_nm bk_X11_tries_343 (j := 8) rfl rfl)
theorem dX11_tries_352 : decode cX11_tries 352 = .ok (.if_icmp .eq 36, 3) := dc_159 (bq_nm bk_X11_tries_343 (j := 9) rfl rfl) (bq_nm bk_X11_tries_343 (j := 10) rfl rfl) (bq_nm bk_X11_tries_343 (j := 11) rfl rfl) rfl
theorem dX11_tries_355 : decode cX11_tries 355 = .ok (.aload_n 0, 1) := dc_42 (bq_nm bk_X11_tries_343 (j := 12) rfl rfl)
theorem dX11_tries_356 : decode cX11_tries 356 = .ok (.getfield 45, 3) := dc_180 (bq_nm bk_X11_tries_343 (j := 13) rfl rfl) (bq_nm bk_X11_tries_343 (j := 14) rfl rfl) (bq_nm bk_X11_tries_343 (j := 15) rfl rfl) rfl
theorem dX11_tries_359 : decode cX11_tries 359 = .ok (.bipush 30, 2) := dc_16 (bq_nm bk_X11_tries_343 (j := 16) rfl rfl) (bq_nm bk_X11_tries_343 (j := 17) rfl rfl) rfl
theorem dX11_tries_361 : decode cX11_tries 361 = .ok (.iload_n 2, 1) := dc_28 (bq_nm bk_X11_tries_343 (j := 18) rfl rfl)
theorem dX11_tries_362 : decode cX11_tries 362 = .ok (.imul, 1) := dc_104 (bq_nm bk_X11_tries_343 (j := 19) rfl rfl)
theorem dX11_tries_363 : decode cX11_tries 363 = .ok (.iload 12, 2) := dc_21 (bq_nm bk_X11_tries_343 (j := 20) rfl rfl) (bq_nm bk_X11_tries_343 (j := 21) rfl rfl)
theorem dX11_tries_365 : decode cX11_tries 365 = .ok (.iadd, 1) := dc_96 (bq_nm bk_X11_tries_343 (j := 22) rfl rfl)
theorem dX11_tries_366 : decode cX11_tries 366 = .ok (.iconst 3, 1) := dc_6 (bq_nm bk_X11_tries_343 (j := 23) rfl rfl)
theorem dX11_tries_367 : decode cX11_tries 367 = .ok (.iload 11, 2) := dc_21 (bq_nm bk_X11_tries_343 (j := 24) rfl rfl) (bq_nm bk_X11_tries_343 (j := 25) rfl rfl)
theorem dX11_tries_369 : decode cX11_tries 369 = .ok (.iadd, 1) := dc_96 (bq_nm bk_X11_tries_343 (j := 26) rfl rfl)
theorem dX11_tries_370 : decode cX11_tries 370 = .ok (.iastore, 1) := dc_79 (bq_nm bk_X11_tries_343 (j := 27) rfl rfl)
theorem dX11_tries_371 : decode cX11_tries 371 = .ok (.aload_n 0, 1) := dc_42 (bq_nm bk_X11_tries_343 (j := 28) rfl rfl)
theorem dX11_tries_372 : decode cX11_tries 372 = .ok (.getfield 48, 3) := dc_180 (bq_nm bk_X11_tries_343 (j := 29) rfl rfl) (bq_nm bk_X11_tries_343 (j := 30) rfl rfl) (bq_nm bk_X11_tries_343 (j := 31) rfl rfl) rfl
set_option maxRecDepth 20000 in
theorem bk_X11_tries_375 : ((cX11_tries.data.toList.drop 375).take 32).length = 32 ∧ eN (((cX11_tries.data.toList.drop 375).take 32).map UInt8.toNat) = 57221123088259028787367594859853813215324169730272932667554969943956028660743 := by decide +kernel
theorem dX11_tries_375 : decode cX11_tries 375 = .ok (.iconst 4, 1) := dc_7 (bq_nm bk_X11_tries_375 (j := 0) rfl rfl)
theorem dX11_tries_376 : decode cX11_tries 376 = .ok (.iload_n 2, 1) := dc_28 (bq_nm bk_X11_tries_375 (j := 1) rfl rfl)
theorem dX11_tries_377 : decode cX11_tries 377 = .ok (.imul, 1) := dc_104 (bq_nm bk_X11_tries_375 (j := 2) rfl rfl)
theorem dX11_tries_378 : decode cX11_tries 378 = .ok (.iconst 1, 1) := dc_4 (bq_nm bk_X11_tries_375 (j := 3) rfl rfl)
theorem dX11_tries_379 : decode cX11_tries 379 = .ok (.iadd, 1) := dc_96 (bq_nm bk_X11_tries_375 (j := 4) rfl rfl)
theorem dX11_tries_380 : decode cX11_tries 380 = .ok (.iload 11, 2) := dc_21 (bq_nm bk_X11_tries_375 (j := 5) rfl rfl) (bq_nm bk_X11_tries_375 (j := 6) rfl rfl)
theorem dX11_tries_382 : decode cX11_tries 382 = .ok (.iadd, 1) := dc_96 (bq_nm bk_X11_tries_375 (j := 7) rfl rfl)
theorem dX11_tries_383 : decode cX11_tries 383 = .ok (.dup2, 1) := dc_92 (bq_nm bk_X11_tries_375 (j := 8) rfl rfl)
theorem dX11_tries_384 : decode cX11_tries 384 = .ok (.iaload, 1) := dc_46 (bq_nm bk_X11_tries_375 (j := 9) rfl rfl)
theorem dX11_tries_385 : decode cX11_tries 385 = .ok (.iconst 1, 1) := dc_4 (bq_nm bk_X11_tries_375 (j := 10) rfl rfl)
theorem dX11_tries_386 : decode cX11_tries 386 = .ok (.iadd, 1) := dc_96 (bq_nm bk_X11_tries_375 (j := 11) rfl rfl)
theorem dX11_tries_387 : decode cX11_tries 387 = .ok (.iastore, 1) := dc_79 (bq_nm bk_X11_tries_375 (j := 12) rfl rfl)
theorem dX11_tries_388 : decode cX11_tries 388 = .ok (.iconst 1, 1) := dc_4 (bq_nm bk_X11_tries_375 (j := 13) rfl rfl)
theorem dX11_tries_389 : decode cX11_tries 389 = .ok (.iload 11, 2) := dc_21 (bq_nm bk_X11_tries_375 (j := 14) rfl rfl) (bq_nm bk_X11_tries_375 (j := 15) rfl rfl)
theorem dX11_tries_391 : decode cX11_tries 391 = .ok (.isub, 1) := dc_100 (bq_nm bk_X11_tries_375 (j := 16) rfl rfl)
theorem dX11_tries_392 : decode cX11_tries 392 = .ok (.istore 11, 2) := dc_54 (bq_nm bk_X11_tries_375 (j := 17) rfl rfl) (bq_nm bk_X11_tries_375 (j := 18) rfl rfl)
theorem dX11_tries_394 : decode cX11_tries 394 = .ok (.goto (-77), 3) := dc_167 (bq_nm bk_X11_tries_375 (j := 19) rfl rfl) (bq_nm bk_X11_tries_375 (j := 20) rfl rfl) (bq_nm bk_X11_tries_375 (j := 21) rfl rfl) rfl
theorem dX11_tries_397 : decode cX11_tries 397 = .ok (.aload_n 0, 1) := dc_42 (bq_nm bk_X11_tries_375 (j := 22) rfl rfl)
theorem dX11_tries_398 : decode cX11_tries 398 = .ok (.iload_n 1, 1) := dc_27 (bq_nm bk_X11_tries_375 (j := 23) rfl rfl)
theorem dX11_tries_399 : decode cX11_tries 399 = .ok (.iload_n 2, 1) := dc_28 (bq_nm bk_X11_tries_375 (j := 24) rfl rfl)
theorem dX11_tries_400 : decode cX11_tries 400 = .ok (.iload 6, 2) := dc_21 (bq_nm bk_X11_tries_375 (j := 25) rfl rfl) (bq_nm bk_X11_tries_375 (j := 26) rfl rfl)
theorem dX11_tries_402 : decode cX11_tries 402 = .ok (.iload 9, 2) := dc_21 (bq_nm bk_X11_tries_375 (j := 27) rfl rfl) (bq_nm bk_X11_tries_375 (j := 28) rfl rfl)
theorem dX11_tries_404 : decode cX11_tries 404 = .ok (.iconst (-1), 1) := dc_2 (bq_nm bk_X11_tries_375 (j := 29) rfl rfl)
theorem dX11_tries_405 : decode cX11_tries 405 = .ok (.ixor, 1) := dc_130 (bq_nm bk_X11_tries_375 (j := 30) rfl rfl)
theorem dX11_tries_406 : decode cX11_tries 406 = .ok (.iand, 1) := dc_126 (bq_nm bk_X11_tries_375 (j := 31) rfl rfl)
set_option maxRecDepth 20000 in
theorem bk_X11_tries_407 : ((cX11_tries.data.toList.drop 407).take 9).length = 9 ∧ eN (((cX11_tries.data.toList.drop 407).take 9).map UInt8.toNat) = 3280782457201322231829 := by decide +kernel
theorem dX11_tries_407 : decode cX11_tries 407 = .ok (.iload 8, 2) := dc_21 (bq_nm bk_X11_tries_407 (j := 0) rfl rfl) (bq_nm bk_X11_tries_407 (j := 1) rfl rfl)
theorem dX11_tries_409 : decode cX11_tries 409 = .ok (.iconst (-1), 1) := dc_2 (bq_nm bk_X11_tries_407 (j := 2) rfl rfl)
theorem dX11_tries_410 : decode cX11_tries 410 = .ok (.ixor, 1) := dc_130 (bq_nm bk_X11_tries_407 (j := 3) rfl rfl)
theorem dX11_tries_411 : decode cX11_tries 411 = .ok (.iand, 1) := dc_126 (bq_nm bk_X11_tries_407 (j := 4) rfl rfl)
theorem dX11_tries_412 : decode cX11_tries 412 = .ok (.invokevirtual 218, 3) := dc_182 (bq_nm bk_X11_tries_407 (j := 5) rfl rfl) (bq_nm bk_X11_tries_407 (j := 6) rfl rfl) (bq_nm bk_X11_tries_407 (j := 7) rfl rfl) rfl
theorem dX11_tries_415 : decode cX11_tries 415 = .ok (.return_, 1) := dc_177 (bq_nm bk_X11_tries_407 (j := 8) rfl rfl)
set_option maxRecDepth 20000 in
theorem bk_X11_seats_0 : ((cX11_seats.data.toList.drop 0).take 32).length = 32 ∧ eN (((cX11_seats.data.toList.drop 0).take 32).map UInt8.toNat) = 1846397165544058199806011050620878342009529298179045868196229717982374599466 := by decide +kernel
theorem dX11_seats_0 : decode cX11_seats 0 = .ok (.aload_n 0, 1) := dc_42 (bq_nm bk_X11_seats_0 (j := 0) rfl rfl)
theorem dX11_seats_1 : decode cX11_seats 1 = .ok (.iload_n 1, 1) := dc_27 (bq_nm bk_X11_seats_0 (j := 1) rfl rfl)
theorem dX11_seats_2 : decode cX11_seats 2 = .ok (.iconst 2, 1) := dc_5 (bq_nm bk_X11_seats_0 (j := 2) rfl rfl)
theorem dX11_seats_3 : decode cX11_seats 3 = .ok (.invokevirtual 149, 3) := dc_182 (bq_nm bk_X11_seats_0 (j := 3) rfl rfl) (bq_nm bk_X11_seats_0 (j := 4) rfl rfl) (bq_nm bk_X11_seats_0 (j := 5) rfl rfl) rfl
theorem dX11_seats_6 : decode cX11_seats 6 = .ok (.istore 4, 2) := dc_54 (bq_nm bk_X11_seats_0 (j := 6) rfl rfl) (bq_nm bk_X11_seats_0 (j := 7) rfl rfl)
theorem dX11_seats_8 : decode cX11_seats 8 = .ok (.iconst 0, 1) := dc_3 (bq_nm bk_X11_seats_0 (j := 8) rfl rfl)
theorem dX11_seats_9 : decode cX11_seats 9 = .ok (.istore 5, 2) := dc_54 (bq_nm bk_X11_seats_0 (j := 9) rfl rfl) (bq_nm bk_X11_seats_0 (j := 10) rfl rfl)
theorem dX11_seats_11 : decode cX11_seats 11 = .ok (.iconst 0, 1) := dc_3 (bq_nm bk_X11_seats_0 (j := 11) rfl rfl)
theorem dX11_seats_12 : decode cX11_seats 12 = .ok (.istore 6, 2) := dc_54 (bq_nm bk_X11_seats_0 (j := 12) rfl rfl) (bq_nm bk_X11_seats_0 (j := 13) rfl rfl)
theorem dX11_seats_14 : decode cX11_seats 14 = .ok (.iconst 0, 1) := dc_3 (bq_nm bk_X11_seats_0 (j := 14) rfl rfl)
theorem dX11_seats_15 : decode cX11_seats 15 = .ok (.istore 7, 2) := dc_54 (bq_nm bk_X11_seats_0 (j := 15) rfl rfl) (bq_nm bk_X11_seats_0 (j := 16) rfl rfl)
theorem dX11_seats_17 : decode cX11_seats 17 = .ok (.iload 7, 2) := dc_21 (bq_nm bk_X11_seats_0 (j := 17) rfl rfl) (bq_nm bk_X11_seats_0 (j := 18) rfl rfl)
theorem dX11_seats_19 : decode cX11_seats 19 = .ok (.aload_n 0, 1) := dc_42 (bq_nm bk_X11_seats_0 (j := 19) rfl rfl)
theorem dX11_seats_20 : decode cX11_seats 20 = .ok (.getfield 42, 3) := dc_180 (bq_nm bk_X11_seats_0 (j := 20) rfl rfl) (bq_nm bk_X11_seats_0 (j := 21) rfl rfl) (bq_nm bk_X11_seats_0 (j := 22) rfl rfl) rfl
theorem dX11_seats_23 : decode cX11_seats 23 = .ok (.iload_n 2, 1) := dc_28 (bq_nm bk_X11_seats_0 (j := 23) rfl rfl)
theorem dX11_seats_24 : decode cX11_seats 24 = .ok (.iaload, 1) := dc_46 (bq_nm bk_X11_seats_0 (j := 24) rfl rfl)
theorem dX11_seats_25 : decode cX11_seats 25 = .ok (.if_icmp .ge 59, 3) := dc_162 (bq_nm bk_X11_seats_0 (j := 25) rfl rfl) (bq_nm bk_X11_seats_0 (j := 26) rfl rfl) (bq_nm bk_X11_seats_0 (j := 27) rfl rfl) rfl
theorem dX11_seats_28 : decode cX11_seats 28 = .ok (.iload 6, 2) := dc_21 (bq_nm bk_X11_seats_0 (j := 28) rfl rfl) (bq_nm bk_X11_seats_0 (j := 29) rfl rfl)
theorem dX11_seats_30 : decode cX11_seats 30 = .ok (.iload 4, 2) := dc_21 (bq_nm bk_X11_seats_0 (j := 30) rfl rfl) (bq_nm bk_X11_seats_0 (j := 31) rfl rfl)
set_option maxRecDepth 20000 in
theorem bk_X11_seats_32 : ((cX11_seats.data.toList.drop 32).take 31).length = 31 ∧ eN (((cX11_seats.data.toList.drop 32).take 31).map UInt8.toNat) = 10712760601071052430609033405314095597698826931209858729645692093329572002 := by decide +kernel
theorem dX11_seats_32 : decode cX11_seats 32 = .ok (.if_icmp .ge 52, 3) := dc_162 (bq_nm bk_X11_seats_32 (j := 0) rfl rfl) (bq_nm bk_X11_seats_32 (j := 1) rfl rfl) (bq_nm bk_X11_seats_32 (j := 2) rfl rfl) rfl
theorem dX11_seats_35 : decode cX11_seats 35 = .ok (.aload_n 0, 1) := dc_42 (bq_nm bk_X11_seats_32 (j := 3) rfl rfl)
theorem dX11_seats_36 : decode cX11_seats 36 = .ok (.getfield 39, 3) := dc_180 (bq_nm bk_X11_seats_32 (j := 4) rfl rfl) (bq_nm bk_X11_seats_32 (j := 5) rfl rfl) (bq_nm bk_X11_seats_32 (j := 6) rfl rfl) rfl
theorem dX11_seats_39 : decode cX11_seats 39 = .ok (.bipush 24, 2) := dc_16 (bq_nm bk_X11_seats_32 (j := 7) rfl rfl) (bq_nm bk_X11_seats_32 (j := 8) rfl rfl) rfl
theorem dX11_seats_41 : decode cX11_seats 41 = .ok (.iload_n 2, 1) := dc_28 (bq_nm bk_X11_seats_32 (j := 9) rfl rfl)
theorem dX11_seats_42 : decode cX11_seats 42 = .ok (.imul, 1) := dc_104 (bq_nm bk_X11_seats_32 (j := 10) rfl rfl)
theorem dX11_seats_43 : decode cX11_seats 43 = .ok (.iload 7, 2) := dc_21 (bq_nm bk_X11_seats_32 (j := 11) rfl rfl) (bq_nm bk_X11_seats_32 (j := 12) rfl rfl)
theorem dX11_seats_45 : decode cX11_seats 45 = .ok (.iadd, 1) := dc_96 (bq_nm bk_X11_seats_32 (j := 13) rfl rfl)
theorem dX11_seats_46 : decode cX11_seats 46 = .ok (.iaload, 1) := dc_46 (bq_nm bk_X11_seats_32 (j := 14) rfl rfl)
theorem dX11_seats_47 : decode cX11_seats 47 = .ok (.istore 8, 2) := dc_54 (bq_nm bk_X11_seats_32 (j := 15) rfl rfl) (bq_nm bk_X11_seats_32 (j := 16) rfl rfl)
theorem dX11_seats_49 : decode cX11_seats 49 = .ok (.aload_n 0, 1) := dc_42 (bq_nm bk_X11_seats_32 (j := 17) rfl rfl)
theorem dX11_seats_50 : decode cX11_seats 50 = .ok (.getfield 45, 3) := dc_180 (bq_nm bk_X11_seats_32 (j := 18) rfl rfl) (bq_nm bk_X11_seats_32 (j := 19) rfl rfl) (bq_nm bk_X11_seats_32 (j := 20) rfl rfl) rfl
theorem dX11_seats_53 : decode cX11_seats 53 = .ok (.bipush 30, 2) := dc_16 (bq_nm bk_X11_seats_32 (j := 21) rfl rfl) (bq_nm bk_X11_seats_32 (j := 22) rfl rfl) rfl
theorem dX11_seats_55 : decode cX11_seats 55 = .ok (.iload_n 2, 1) := dc_28 (bq_nm bk_X11_seats_32 (j := 23) rfl rfl)
theorem dX11_seats_56 : decode cX11_seats 56 = .ok (.imul, 1) := dc_104 (bq_nm bk_X11_seats_32 (j := 24) rfl rfl)
theorem dX11_seats_57 : decode cX11_seats 57 = .ok (.iload 8, 2) := dc_21 (bq_nm bk_X11_seats_32 (j := 25) rfl rfl) (bq_nm bk_X11_seats_32 (j := 26) rfl rfl)
theorem dX11_seats_59 : decode cX11_seats 59 = .ok (.iadd, 1) := dc_96 (bq_nm bk_X11_seats_32 (j := 27) rfl rfl)
theorem dX11_seats_60 : decode cX11_seats 60 = .ok (.iaload, 1) := dc_46 (bq_nm bk_X11_seats_32 (j := 28) rfl rfl)
theorem dX11_seats_61 : decode cX11_seats 61 = .ok (.bipush 6, 2) := dc_16 (bq_nm bk_X11_seats_32 (j := 29) rfl rfl) (bq_nm bk_X11_seats_32 (j := 30) rfl rfl) rfl
set_option maxRecDepth 20000 in
theorem bk_X11_seats_63 : ((cX11_seats.data.toList.drop 63).take 31).length = 31 ∧ eN (((cX11_seats.data.toList.drop 63).take 31).map UInt8.toNat) = 53116057779409443930067840356205486599512972497742789578203257591917641888 := by decide +kernel
theorem dX11_seats_63 : decode cX11_seats 63 = .ok (.if_icmp .ne 15, 3) := dc_160 (bq_nm bk_X11_seats_63 (j := 0) rfl rfl) (bq_nm bk_X11_seats_63 (j := 1) rfl rfl) (bq_nm bk_X11_seats_63 (j := 2) rfl rfl) rfl
theorem dX11_seats_66 : decode cX11_seats 66 = .ok (.iload 5, 2) := dc_21 (bq_nm bk_X11_seats_63 (j := 3) rfl rfl) (bq_nm bk_X11_seats_63 (j := 4) rfl rfl)
theorem dX11_seats_68 : decode cX11_seats 68 = .ok (.iconst 1, 1) := dc_4 (bq_nm bk_X11_seats_63 (j := 5) rfl rfl)
theorem dX11_seats_69 : decode cX11_seats 69 = .ok (.iload 8, 2) := dc_21 (bq_nm bk_X11_seats_63 (j := 6) rfl rfl) (bq_nm bk_X11_seats_63 (j := 7) rfl rfl)
theorem dX11_seats_71 : decode cX11_seats 71 = .ok (.ishl, 1) := dc_120 (bq_nm bk_X11_seats_63 (j := 8) rfl rfl)
theorem dX11_seats_72 : decode cX11_seats 72 = .ok (.ior, 1) := dc_128 (bq_nm bk_X11_seats_63 (j := 9) rfl rfl)
theorem dX11_seats_73 : decode cX11_seats 73 = .ok (.istore 5, 2) := dc_54 (bq_nm bk_X11_seats_63 (j := 10) rfl rfl) (bq_nm bk_X11_seats_63 (j := 11) rfl rfl)
theorem dX11_seats_75 : decode cX11_seats 75 = .ok (.iinc 6 1, 3) := dc_132 (bq_nm bk_X11_seats_63 (j := 12) rfl rfl) (bq_nm bk_X11_seats_63 (j := 13) rfl rfl) (bq_nm bk_X11_seats_63 (j := 14) rfl rfl) rfl
theorem dX11_seats_78 : decode cX11_seats 78 = .ok (.iinc 7 1, 3) := dc_132 (bq_nm bk_X11_seats_63 (j := 15) rfl rfl) (bq_nm bk_X11_seats_63 (j := 16) rfl rfl) (bq_nm bk_X11_seats_63 (j := 17) rfl rfl) rfl
theorem dX11_seats_81 : decode cX11_seats 81 = .ok (.goto (-64), 3) := dc_167 (bq_nm bk_X11_seats_63 (j := 18) rfl rfl) (bq_nm bk_X11_seats_63 (j := 19) rfl rfl) (bq_nm bk_X11_seats_63 (j := 20) rfl rfl) rfl
theorem dX11_seats_84 : decode cX11_seats 84 = .ok (.iconst 0, 1) := dc_3 (bq_nm bk_X11_seats_63 (j := 21) rfl rfl)
theorem dX11_seats_85 : decode cX11_seats 85 = .ok (.istore 7, 2) := dc_54 (bq_nm bk_X11_seats_63 (j := 22) rfl rfl) (bq_nm bk_X11_seats_63 (j := 23) rfl rfl)
theorem dX11_seats_87 : decode cX11_seats 87 = .ok (.iconst 0, 1) := dc_3 (bq_nm bk_X11_seats_63 (j := 24) rfl rfl)
theorem dX11_seats_88 : decode cX11_seats 88 = .ok (.istore 8, 2) := dc_54 (bq_nm bk_X11_seats_63 (j := 25) rfl rfl) (bq_nm bk_X11_seats_63 (j := 26) rfl rfl)
theorem dX11_seats_90 : decode cX11_seats 90 = .ok (.iload 8, 2) := dc_21 (bq_nm bk_X11_seats_63 (j := 27) rfl rfl) (bq_nm bk_X11_seats_63 (j := 28) rfl rfl)
theorem dX11_seats_92 : decode cX11_seats 92 = .ok (.bipush 30, 2) := dc_16 (bq_nm bk_X11_seats_63 (j := 29) rfl rfl) (bq_nm bk_X11_seats_63 (j := 30) rfl rfl) rfl
set_option maxRecDepth 20000 in
theorem bk_X11_seats_94 : ((cX11_seats.data.toList.drop 94).take 32).length = 32 ∧ eN (((cX11_seats.data.toList.drop 94).take 32).map UInt8.toNat) = 463825155949052498059039808004886893148100934476438833176830661841712971938 := by decide +kernel
theorem dX11_seats_94 : decode cX11_seats 94 = .ok (.if_icmp .ge 38, 3) := dc_162 (bq_nm bk_X11_seats_94 (j := 0) rfl rfl) (bq_nm bk_X11_seats_94 (j := 1) rfl rfl) (bq_nm bk_X11_seats_94 (j := 2) rfl rfl) rfl
theorem dX11_seats_97 : decode cX11_seats 97 = .ok (.iload 6, 2) := dc_21 (bq_nm bk_X11_seats_94 (j := 3) rfl rfl) (bq_nm bk_X11_seats_94 (j := 4) rfl rfl)
theorem dX11_seats_99 : decode cX11_seats 99 = .ok (.iload 4, 2) := dc_21 (bq_nm bk_X11_seats_94 (j := 5) rfl rfl) (bq_nm bk_X11_seats_94 (j := 6) rfl rfl)
theorem dX11_seats_101 : decode cX11_seats 101 = .ok (.if_icmp .ge 31, 3) := dc_162 (bq_nm bk_X11_seats_94 (j := 7) rfl rfl) (bq_nm bk_X11_seats_94 (j := 8) rfl rfl) (bq_nm bk_X11_seats_94 (j := 9) rfl rfl) rfl
theorem dX11_seats_104 : decode cX11_seats 104 = .ok (.iload_n 3, 1) := dc_29 (bq_nm bk_X11_seats_94 (j := 10) rfl rfl)
theorem dX11_seats_105 : decode cX11_seats 105 = .ok (.iload 8, 2) := dc_21 (bq_nm bk_X11_seats_94 (j := 11) rfl rfl) (bq_nm bk_X11_seats_94 (j := 12) rfl rfl)
theorem dX11_seats_107 : decode cX11_seats 107 = .ok (.ishr, 1) := dc_122 (bq_nm bk_X11_seats_94 (j := 13) rfl rfl)
theorem dX11_seats_108 : decode cX11_seats 108 = .ok (.iconst 1, 1) := dc_4 (bq_nm bk_X11_seats_94 (j := 14) rfl rfl)
theorem dX11_seats_109 : decode cX11_seats 109 = .ok (.iand, 1) := dc_126 (bq_nm bk_X11_seats_94 (j := 15) rfl rfl)
theorem dX11_seats_110 : decode cX11_seats 110 = .ok (.iconst 1, 1) := dc_4 (bq_nm bk_X11_seats_94 (j := 16) rfl rfl)
theorem dX11_seats_111 : decode cX11_seats 111 = .ok (.if_icmp .ne 15, 3) := dc_160 (bq_nm bk_X11_seats_94 (j := 17) rfl rfl) (bq_nm bk_X11_seats_94 (j := 18) rfl rfl) (bq_nm bk_X11_seats_94 (j := 19) rfl rfl) rfl
theorem dX11_seats_114 : decode cX11_seats 114 = .ok (.iload 7, 2) := dc_21 (bq_nm bk_X11_seats_94 (j := 20) rfl rfl) (bq_nm bk_X11_seats_94 (j := 21) rfl rfl)
theorem dX11_seats_116 : decode cX11_seats 116 = .ok (.iconst 1, 1) := dc_4 (bq_nm bk_X11_seats_94 (j := 22) rfl rfl)
theorem dX11_seats_117 : decode cX11_seats 117 = .ok (.iload 8, 2) := dc_21 (bq_nm bk_X11_seats_94 (j := 23) rfl rfl) (bq_nm bk_X11_seats_94 (j := 24) rfl rfl)
theorem dX11_seats_119 : decode cX11_seats 119 = .ok (.ishl, 1) := dc_120 (bq_nm bk_X11_seats_94 (j := 25) rfl rfl)
theorem dX11_seats_120 : decode cX11_seats 120 = .ok (.ior, 1) := dc_128 (bq_nm bk_X11_seats_94 (j := 26) rfl rfl)
theorem dX11_seats_121 : decode cX11_seats 121 = .ok (.istore 7, 2) := dc_54 (bq_nm bk_X11_seats_94 (j := 27) rfl rfl) (bq_nm bk_X11_seats_94 (j := 28) rfl rfl)
theorem dX11_seats_123 : decode cX11_seats 123 = .ok (.iinc 6 1, 3) := dc_132 (bq_nm bk_X11_seats_94 (j := 29) rfl rfl) (bq_nm bk_X11_seats_94 (j := 30) rfl rfl) (bq_nm bk_X11_seats_94 (j := 31) rfl rfl) rfl
set_option maxRecDepth 20000 in
theorem bk_X11_seats_126 : ((cX11_seats.data.toList.drop 126).take 32).length = 32 ∧ eN (((cX11_seats.data.toList.drop 126).take 32).map UInt8.toNat) = 35958920341288230997316099005314572063985456744148888316899409032298895575172 := by decide +kernel
theorem dX11_seats_126 : decode cX11_seats 126 = .ok (.iinc 8 1, 3) := dc_132 (bq_nm bk_X11_seats_126 (j := 0) rfl rfl) (bq_nm bk_X11_seats_126 (j := 1) rfl rfl) (bq_nm bk_X11_seats_126 (j := 2) rfl rfl) rfl
theorem dX11_seats_129 : decode cX11_seats 129 = .ok (.goto (-39), 3) := dc_167 (bq_nm bk_X11_seats_126 (j := 3) rfl rfl) (bq_nm bk_X11_seats_126 (j := 4) rfl rfl) (bq_nm bk_X11_seats_126 (j := 5) rfl rfl) rfl
theorem dX11_seats_132 : decode cX11_seats 132 = .ok (.iload 6, 2) := dc_21 (bq_nm bk_X11_seats_126 (j := 6) rfl rfl) (bq_nm bk_X11_seats_126 (j := 7) rfl rfl)
theorem dX11_seats_134 : decode cX11_seats 134 = .ok (.iload 4, 2) := dc_21 (bq_nm bk_X11_seats_126 (j := 8) rfl rfl) (bq_nm bk_X11_seats_126 (j := 9) rfl rfl)
theorem dX11_seats_136 : decode cX11_seats 136 = .ok (.if_icmp .ge 11, 3) := dc_162 (bq_nm bk_X11_seats_126 (j := 10) rfl rfl) (bq_nm bk_X11_seats_126 (j := 11) rfl rfl) (bq_nm bk_X11_seats_126 (j := 12) rfl rfl) rfl
theorem dX11_seats_139 : decode cX11_seats 139 = .ok (.aload_n 0, 1) := dc_42 (bq_nm bk_X11_seats_126 (j := 13) rfl rfl)
theorem dX11_seats_140 : decode cX11_seats 140 = .ok (.getfield 36, 3) := dc_180 (bq_nm bk_X11_seats_126 (j := 14) rfl rfl) (bq_nm bk_X11_seats_126 (j := 15) rfl rfl) (bq_nm bk_X11_seats_126 (j := 16) rfl rfl) rfl
theorem dX11_seats_143 : decode cX11_seats 143 = .ok (.iload_n 2, 1) := dc_28 (bq_nm bk_X11_seats_126 (j := 17) rfl rfl)
theorem dX11_seats_144 : decode cX11_seats 144 = .ok (.iconst 0, 1) := dc_3 (bq_nm bk_X11_seats_126 (j := 18) rfl rfl)
theorem dX11_seats_145 : decode cX11_seats 145 = .ok (.iastore, 1) := dc_79 (bq_nm bk_X11_seats_126 (j := 19) rfl rfl)
theorem dX11_seats_146 : decode cX11_seats 146 = .ok (.return_, 1) := dc_177 (bq_nm bk_X11_seats_126 (j := 20) rfl rfl)
theorem dX11_seats_147 : decode cX11_seats 147 = .ok (.aload_n 0, 1) := dc_42 (bq_nm bk_X11_seats_126 (j := 21) rfl rfl)
theorem dX11_seats_148 : decode cX11_seats 148 = .ok (.getfield 36, 3) := dc_180 (bq_nm bk_X11_seats_126 (j := 22) rfl rfl) (bq_nm bk_X11_seats_126 (j := 23) rfl rfl) (bq_nm bk_X11_seats_126 (j := 24) rfl rfl) rfl
theorem dX11_seats_151 : decode cX11_seats 151 = .ok (.iload_n 2, 1) := dc_28 (bq_nm bk_X11_seats_126 (j := 25) rfl rfl)
theorem dX11_seats_152 : decode cX11_seats 152 = .ok (.iload 5, 2) := dc_21 (bq_nm bk_X11_seats_126 (j := 26) rfl rfl) (bq_nm bk_X11_seats_126 (j := 27) rfl rfl)
theorem dX11_seats_154 : decode cX11_seats 154 = .ok (.iload 7, 2) := dc_21 (bq_nm bk_X11_seats_126 (j := 28) rfl rfl) (bq_nm bk_X11_seats_126 (j := 29) rfl rfl)
theorem dX11_seats_156 : decode cX11_seats 156 = .ok (.ior, 1) := dc_128 (bq_nm bk_X11_seats_126 (j := 30) rfl rfl)
theorem dX11_seats_157 : decode cX11_seats 157 = .ok (.iastore, 1) := dc_79 (bq_nm bk_X11_seats_126 (j := 31) rfl rfl)
set_option maxRecDepth 20000 in
theorem bk_X11_seats_158 : ((cX11_seats.data.toList.drop 158).take 31).length = 31 ∧ eN (((cX11_seats.data.toList.drop 158).take 31).map UInt8.toNat) = 183946154136571844463346224440779056806368489501829699498401888387958092842 := by decide +kernel
theorem dX11_seats_158 : decode cX11_seats 158 = .ok (.aload_n 0, 1) := dc_42 (bq_nm bk_X11_seats_158 (j := 0) rfl rfl)
theorem dX11_seats_159 : decode cX11_seats 159 = .ok (.getfield 48, 3) := dc_180 (bq_nm bk_X11_seats_158 (j := 1) rfl rfl) (bq_nm bk_X11_seats_158 (j := 2) rfl rfl) (bq_nm bk_X11_seats_158 (j := 3) rfl rfl) rfl
theorem dX11_seats_162 : decode cX11_seats 162 = .ok (.iconst 4, 1) := dc_7 (bq_nm bk_X11_seats_158 (j := 4) rfl rfl)
theorem dX11_seats_163 : decode cX11_seats 163 = .ok (.iload_n 2, 1) := dc_28 (bq_nm bk_X11_seats_158 (j := 5) rfl rfl)
theorem dX11_seats_164 : decode cX11_seats 164 = .ok (.imul, 1) := dc_104 (bq_nm bk_X11_seats_158 (j := 6) rfl rfl)
theorem dX11_seats_165 : decode cX11_seats 165 = .ok (.iload 7, 2) := dc_21 (bq_nm bk_X11_seats_158 (j := 7) rfl rfl) (bq_nm bk_X11_seats_158 (j := 8) rfl rfl)
theorem dX11_seats_167 : decode cX11_seats 167 = .ok (.invokestatic 222, 3) := dc_184 (bq_nm bk_X11_seats_158 (j := 9) rfl rfl) (bq_nm bk_X11_seats_158 (j := 10) rfl rfl) (bq_nm bk_X11_seats_158 (j := 11) rfl rfl) rfl
theorem dX11_seats_170 : decode cX11_seats 170 = .ok (.iastore, 1) := dc_79 (bq_nm bk_X11_seats_158 (j := 12) rfl rfl)
theorem dX11_seats_171 : decode cX11_seats 171 = .ok (.iconst 0, 1) := dc_3 (bq_nm bk_X11_seats_158 (j := 13) rfl rfl)
theorem dX11_seats_172 : decode cX11_seats 172 = .ok (.istore 8, 2) := dc_54 (bq_nm bk_X11_seats_158 (j := 14) rfl rfl) (bq_nm bk_X11_seats_158 (j := 15) rfl rfl)
theorem dX11_seats_174 : decode cX11_seats 174 = .ok (.iload 8, 2) := dc_21 (bq_nm bk_X11_seats_158 (j := 16) rfl rfl) (bq_nm bk_X11_seats_158 (j := 17) rfl rfl)
theorem dX11_seats_176 : decode cX11_seats 176 = .ok (.bipush 30, 2) := dc_16 (bq_nm bk_X11_seats_158 (j := 18) rfl rfl) (bq_nm bk_X11_seats_158 (j := 19) rfl rfl) rfl
theorem dX11_seats_178 : decode cX11_seats 178 = .ok (.if_icmp .ge 68, 3) := dc_162 (bq_nm bk_X11_seats_158 (j := 20) rfl rfl) (bq_nm bk_X11_seats_158 (j := 21) rfl rfl) (bq_nm bk_X11_seats_158 (j := 22) rfl rfl) rfl
theorem dX11_seats_181 : decode cX11_seats 181 = .ok (.aload_n 0, 1) := dc_42 (bq_nm bk_X11_seats_158 (j := 23) rfl rfl)
theorem dX11_seats_182 : decode cX11_seats 182 = .ok (.getfield 45, 3) := dc_180 (bq_nm bk_X11_seats_158 (j := 24) rfl rfl) (bq_nm bk_X11_seats_158 (j := 25) rfl rfl) (bq_nm bk_X11_seats_158 (j := 26) rfl rfl) rfl
theorem dX11_seats_185 : decode cX11_seats 185 = .ok (.bipush 30, 2) := dc_16 (bq_nm bk_X11_seats_158 (j := 27) rfl rfl) (bq_nm bk_X11_seats_158 (j := 28) rfl rfl) rfl
theorem dX11_seats_187 : decode cX11_seats 187 = .ok (.iload_n 2, 1) := dc_28 (bq_nm bk_X11_seats_158 (j := 29) rfl rfl)
theorem dX11_seats_188 : decode cX11_seats 188 = .ok (.imul, 1) := dc_104 (bq_nm bk_X11_seats_158 (j := 30) rfl rfl)
set_option maxRecDepth 20000 in
theorem bk_X11_seats_189 : ((cX11_seats.data.toList.drop 189).take 32).length = 32 ∧ eN (((cX11_seats.data.toList.drop 189).take 32).map UInt8.toNat) = 9499722628305524697162755804137287663581115383882630952360890492653261555733 := by decide +kernel
theorem dX11_seats_189 : decode cX11_seats 189 = .ok (.iload 8, 2) := dc_21 (bq_nm bk_X11_seats_189 (j := 0) rfl rfl) (bq_nm bk_X11_seats_189 (j := 1) rfl rfl)
theorem dX11_seats_191 : decode cX11_seats 191 = .ok (.iadd, 1) := dc_96 (bq_nm bk_X11_seats_189 (j := 2) rfl rfl)
theorem dX11_seats_192 : decode cX11_seats 192 = .ok (.iaload, 1) := dc_46 (bq_nm bk_X11_seats_189 (j := 3) rfl rfl)
theorem dX11_seats_193 : decode cX11_seats 193 = .ok (.istore 9, 2) := dc_54 (bq_nm bk_X11_seats_189 (j := 4) rfl rfl) (bq_nm bk_X11_seats_189 (j := 5) rfl rfl)
theorem dX11_seats_195 : decode cX11_seats 195 = .ok (.aload_n 0, 1) := dc_42 (bq_nm bk_X11_seats_189 (j := 6) rfl rfl)
theorem dX11_seats_196 : decode cX11_seats 196 = .ok (.getfield 45, 3) := dc_180 (bq_nm bk_X11_seats_189 (j := 7) rfl rfl) (bq_nm bk_X11_seats_189 (j := 8) rfl rfl) (bq_nm bk_X11_seats_189 (j := 9) rfl rfl) rfl
theorem dX11_seats_199 : decode cX11_seats 199 = .ok (.bipush 30, 2) := dc_16 (bq_nm bk_X11_seats_189 (j := 10) rfl rfl) (bq_nm bk_X11_seats_189 (j := 11) rfl rfl) rfl
theorem dX11_seats_201 : decode cX11_seats 201 = .ok (.iload_n 2, 1) := dc_28 (bq_nm bk_X11_seats_189 (j := 12) rfl rfl)
theorem dX11_seats_202 : decode cX11_seats 202 = .ok (.imul, 1) := dc_104 (bq_nm bk_X11_seats_189 (j := 13) rfl rfl)
theorem dX11_seats_203 : decode cX11_seats 203 = .ok (.iload 8, 2) := dc_21 (bq_nm bk_X11_seats_189 (j := 14) rfl rfl) (bq_nm bk_X11_seats_189 (j := 15) rfl rfl)
theorem dX11_seats_205 : decode cX11_seats 205 = .ok (.iadd, 1) := dc_96 (bq_nm bk_X11_seats_189 (j := 16) rfl rfl)
theorem dX11_seats_206 : decode cX11_seats 206 = .ok (.iload 5, 2) := dc_21 (bq_nm bk_X11_seats_189 (j := 17) rfl rfl) (bq_nm bk_X11_seats_189 (j := 18) rfl rfl)
theorem dX11_seats_208 : decode cX11_seats 208 = .ok (.iload 8, 2) := dc_21 (bq_nm bk_X11_seats_189 (j := 19) rfl rfl) (bq_nm bk_X11_seats_189 (j := 20) rfl rfl)
theorem dX11_seats_210 : decode cX11_seats 210 = .ok (.ishr, 1) := dc_122 (bq_nm bk_X11_seats_189 (j := 21) rfl rfl)
theorem dX11_seats_211 : decode cX11_seats 211 = .ok (.iconst 1, 1) := dc_4 (bq_nm bk_X11_seats_189 (j := 22) rfl rfl)
theorem dX11_seats_212 : decode cX11_seats 212 = .ok (.iand, 1) := dc_126 (bq_nm bk_X11_seats_189 (j := 23) rfl rfl)
theorem dX11_seats_213 : decode cX11_seats 213 = .ok (.iconst 1, 1) := dc_4 (bq_nm bk_X11_seats_189 (j := 24) rfl rfl)
theorem dX11_seats_214 : decode cX11_seats 214 = .ok (.if_icmp .ne 7, 3) := dc_160 (bq_nm bk_X11_seats_189 (j := 25) rfl rfl) (bq_nm bk_X11_seats_189 (j := 26) rfl rfl) (bq_nm bk_X11_seats_189 (j := 27) rfl rfl) rfl
theorem dX11_seats_217 : decode cX11_seats 217 = .ok (.iconst 5, 1) := dc_8 (bq_nm bk_X11_seats_189 (j := 28) rfl rfl)
theorem dX11_seats_218 : decode cX11_seats 218 = .ok (.goto 21, 3) := dc_167 (bq_nm bk_X11_seats_189 (j := 29) rfl rfl) (bq_nm bk_X11_seats_189 (j := 30) rfl rfl) (bq_nm bk_X11_seats_189 (j := 31) rfl rfl) rfl
set_option maxRecDepth 20000 in
theorem bk_X11_seats_221 : ((cX11_seats.data.toList.drop 221).take 26).length = 26 ∧ eN (((cX11_seats.data.toList.drop 221).take 26).map UInt8.toNat) = 285608120435974120469608785091404565975726705227386518618048277 := by decide +kernel
theorem dX11_seats_221 : decode cX11_seats 221 = .ok (.iload 7, 2) := dc_21 (bq_nm bk_X11_seats_221 (j := 0) rfl rfl) (bq_nm bk_X11_seats_221 (j := 1) rfl rfl)
theorem dX11_seats_223 : decode cX11_seats 223 = .ok (.iload 8, 2) := dc_21 (bq_nm bk_X11_seats_221 (j := 2) rfl rfl) (bq_nm bk_X11_seats_221 (j := 3) rfl rfl)
theorem dX11_seats_225 : decode cX11_seats 225 = .ok (.ishr, 1) := dc_122 (bq_nm bk_X11_seats_221 (j := 4) rfl rfl)
theorem dX11_seats_226 : decode cX11_seats 226 = .ok (.iconst 1, 1) := dc_4 (bq_nm bk_X11_seats_221 (j := 5) rfl rfl)
theorem dX11_seats_227 : decode cX11_seats 227 = .ok (.iand, 1) := dc_126 (bq_nm bk_X11_seats_221 (j := 6) rfl rfl)
theorem dX11_seats_228 : decode cX11_seats 228 = .ok (.iconst 1, 1) := dc_4 (bq_nm bk_X11_seats_221 (j := 7) rfl rfl)
theorem dX11_seats_229 : decode cX11_seats 229 = .ok (.if_icmp .ne 8, 3) := dc_160 (bq_nm bk_X11_seats_221 (j := 8) rfl rfl) (bq_nm bk_X11_seats_221 (j := 9) rfl rfl) (bq_nm bk_X11_seats_221 (j := 10) rfl rfl) rfl
theorem dX11_seats_232 : decode cX11_seats 232 = .ok (.bipush 7, 2) := dc_16 (bq_nm bk_X11_seats_221 (j := 11) rfl rfl) (bq_nm bk_X11_seats_221 (j := 12) rfl rfl) rfl
theorem dX11_seats_234 : decode cX11_seats 234 = .ok (.goto 5, 3) := dc_167 (bq_nm bk_X11_seats_221 (j := 13) rfl rfl) (bq_nm bk_X11_seats_221 (j := 14) rfl rfl) (bq_nm bk_X11_seats_221 (j := 15) rfl rfl) rfl
theorem dX11_seats_237 : decode cX11_seats 237 = .ok (.iload 9, 2) := dc_21 (bq_nm bk_X11_seats_221 (j := 16) rfl rfl) (bq_nm bk_X11_seats_221 (j := 17) rfl rfl)
theorem dX11_seats_239 : decode cX11_seats 239 = .ok (.iastore, 1) := dc_79 (bq_nm bk_X11_seats_221 (j := 18) rfl rfl)
theorem dX11_seats_240 : decode cX11_seats 240 = .ok (.iinc 8 1, 3) := dc_132 (bq_nm bk_X11_seats_221 (j := 19) rfl rfl) (bq_nm bk_X11_seats_221 (j := 20) rfl rfl) (bq_nm bk_X11_seats_221 (j := 21) rfl rfl) rfl
theorem dX11_seats_243 : decode cX11_seats 243 = .ok (.goto (-69), 3) := dc_167 (bq_nm bk_X11_seats_221 (j := 22) rfl rfl) (bq_nm bk_X11_seats_221 (j := 23) rfl rfl) (bq_nm bk_X11_seats_221 (j := 24) rfl rfl) rfl
theorem dX11_seats_246 : decode cX11_seats 246 = .ok (.return_, 1) := dc_177 (bq_nm bk_X11_seats_221 (j := 25) rfl rfl)
set_option maxRecDepth 20000 in
theorem bk_X11_finds_0 : ((cX11_finds.data.toList.drop 0).take 32).length = 32 ∧ eN (((cX11_finds.data.toList.drop 0).take 32).map UInt8.toNat) = 12286820147460733446691885658196655885192839186056519388190299236285569610794 := by decide +kernel
theorem dX11_finds_0 : decode cX11_finds 0 = .ok (.aload_n 0, 1) := dc_42 (bq_nm bk_X11_finds_0 (j := 0) rfl rfl)
theorem dX11_finds_1 : decode cX11_finds 1 = .ok (.getfield 71, 3) := dc_180 (bq_nm bk_X11_finds_0 (j := 1) rfl rfl) (bq_nm bk_X11_finds_0 (j := 2) rfl rfl) (bq_nm bk_X11_finds_0 (j := 3) rfl rfl) rfl
theorem dX11_finds_4 : decode cX11_finds 4 = .ok (.ifCond .eq 4, 3) := dc_153 (bq_nm bk_X11_finds_0 (j := 4) rfl rfl) (bq_nm bk_X11_finds_0 (j := 5) rfl rfl) (bq_nm bk_X11_finds_0 (j := 6) rfl rfl) rfl
theorem dX11_finds_7 : decode cX11_finds 7 = .ok (.return_, 1) := dc_177 (bq_nm bk_X11_finds_0 (j := 7) rfl rfl)
theorem dX11_finds_8 : decode cX11_finds 8 = .ok (.aload_n 0, 1) := dc_42 (bq_nm bk_X11_finds_0 (j := 8) rfl rfl)
theorem dX11_finds_9 : decode cX11_finds 9 = .ok (.iconst 1, 1) := dc_4 (bq_nm bk_X11_finds_0 (j := 9) rfl rfl)
theorem dX11_finds_10 : decode cX11_finds 10 = .ok (.putfield 71, 3) := dc_181 (bq_nm bk_X11_finds_0 (j := 10) rfl rfl) (bq_nm bk_X11_finds_0 (j := 11) rfl rfl) (bq_nm bk_X11_finds_0 (j := 12) rfl rfl) rfl
theorem dX11_finds_13 : decode cX11_finds 13 = .ok (.aload_n 0, 1) := dc_42 (bq_nm bk_X11_finds_0 (j := 13) rfl rfl)
theorem dX11_finds_14 : decode cX11_finds 14 = .ok (.iconst 0, 1) := dc_3 (bq_nm bk_X11_finds_0 (j := 14) rfl rfl)
theorem dX11_finds_15 : decode cX11_finds 15 = .ok (.putfield 146, 3) := dc_181 (bq_nm bk_X11_finds_0 (j := 15) rfl rfl) (bq_nm bk_X11_finds_0 (j := 16) rfl rfl) (bq_nm bk_X11_finds_0 (j := 17) rfl rfl) rfl
theorem dX11_finds_18 : decode cX11_finds 18 = .ok (.iconst 0, 1) := dc_3 (bq_nm bk_X11_finds_0 (j := 18) rfl rfl)
theorem dX11_finds_19 : decode cX11_finds 19 = .ok (.istore_n 1, 1) := dc_60 (bq_nm bk_X11_finds_0 (j := 19) rfl rfl)
theorem dX11_finds_20 : decode cX11_finds 20 = .ok (.iload_n 1, 1) := dc_27 (bq_nm bk_X11_finds_0 (j := 20) rfl rfl)
theorem dX11_finds_21 : decode cX11_finds 21 = .ok (.aload_n 0, 1) := dc_42 (bq_nm bk_X11_finds_0 (j := 21) rfl rfl)
theorem dX11_finds_22 : decode cX11_finds 22 = .ok (.getfield 7, 3) := dc_180 (bq_nm bk_X11_finds_0 (j := 22) rfl rfl) (bq_nm bk_X11_finds_0 (j := 23) rfl rfl) (bq_nm bk_X11_finds_0 (j := 24) rfl rfl) rfl
theorem dX11_finds_25 : decode cX11_finds 25 = .ok (.iconst 4, 1) := dc_7 (bq_nm bk_X11_finds_0 (j := 25) rfl rfl)
theorem dX11_finds_26 : decode cX11_finds 26 = .ok (.iaload, 1) := dc_46 (bq_nm bk_X11_finds_0 (j := 26) rfl rfl)
theorem dX11_finds_27 : decode cX11_finds 27 = .ok (.if_icmp .ge 24, 3) := dc_162 (bq_nm bk_X11_finds_0 (j := 27) rfl rfl) (bq_nm bk_X11_finds_0 (j := 28) rfl rfl) (bq_nm bk_X11_finds_0 (j := 29) rfl rfl) rfl
theorem dX11_finds_30 : decode cX11_finds 30 = .ok (.aload_n 0, 1) := dc_42 (bq_nm bk_X11_finds_0 (j := 30) rfl rfl)
theorem dX11_finds_31 : decode cX11_finds 31 = .ok (.iload_n 1, 1) := dc_27 (bq_nm bk_X11_finds_0 (j := 31) rfl rfl)
set_option maxRecDepth 20000 in
theorem bk_X11_finds_32 : ((cX11_finds.data.toList.drop 32).take 20).length = 20 ∧ eN (((cX11_finds.data.toList.drop 32).take 20).map UInt8.toNat) = 1015598206802489561663397026414237761210295648795 := by decide +kernel
theorem dX11_finds_32 : decode cX11_finds 32 = .ok (.iload_n 1, 1) := dc_27 (bq_nm bk_X11_finds_32 (j := 0) rfl rfl)
theorem dX11_finds_33 : decode cX11_finds 33 = .ok (.iconst (-1), 1) := dc_2 (bq_nm bk_X11_finds_32 (j := 1) rfl rfl)
theorem dX11_finds_34 : decode cX11_finds 34 = .ok (.iconst (-1), 1) := dc_2 (bq_nm bk_X11_finds_32 (j := 2) rfl rfl)
theorem dX11_finds_35 : decode cX11_finds 35 = .ok (.invokevirtual 225, 3) := dc_182 (bq_nm bk_X11_finds_32 (j := 3) rfl rfl) (bq_nm bk_X11_finds_32 (j := 4) rfl rfl) (bq_nm bk_X11_finds_32 (j := 5) rfl rfl) rfl
theorem dX11_finds_38 : decode cX11_finds 38 = .ok (.aload_n 0, 1) := dc_42 (bq_nm bk_X11_finds_32 (j := 6) rfl rfl)
theorem dX11_finds_39 : decode cX11_finds 39 = .ok (.iload_n 1, 1) := dc_27 (bq_nm bk_X11_finds_32 (j := 7) rfl rfl)
theorem dX11_finds_40 : decode cX11_finds 40 = .ok (.iconst 1, 1) := dc_4 (bq_nm bk_X11_finds_32 (j := 8) rfl rfl)
theorem dX11_finds_41 : decode cX11_finds 41 = .ok (.iadd, 1) := dc_96 (bq_nm bk_X11_finds_32 (j := 9) rfl rfl)
theorem dX11_finds_42 : decode cX11_finds 42 = .ok (.putfield 146, 3) := dc_181 (bq_nm bk_X11_finds_32 (j := 10) rfl rfl) (bq_nm bk_X11_finds_32 (j := 11) rfl rfl) (bq_nm bk_X11_finds_32 (j := 12) rfl rfl) rfl
theorem dX11_finds_45 : decode cX11_finds 45 = .ok (.iinc 1 1, 3) := dc_132 (bq_nm bk_X11_finds_32 (j := 13) rfl rfl) (bq_nm bk_X11_finds_32 (j := 14) rfl rfl) (bq_nm bk_X11_finds_32 (j := 15) rfl rfl) rfl
theorem dX11_finds_48 : decode cX11_finds 48 = .ok (.goto (-28), 3) := dc_167 (bq_nm bk_X11_finds_32 (j := 16) rfl rfl) (bq_nm bk_X11_finds_32 (j := 17) rfl rfl) (bq_nm bk_X11_finds_32 (j := 18) rfl rfl) rfl
theorem dX11_finds_51 : decode cX11_finds 51 = .ok (.return_, 1) := dc_177 (bq_nm bk_X11_finds_32 (j := 19) rfl rfl)
set_option maxRecDepth 20000 in
theorem bk_X11_isTrial_0 : ((cX11_isTrial.data.toList.drop 0).take 11).length = 11 ∧ eN (((cX11_isTrial.data.toList.drop 0).take 11).map UInt8.toNat) = 208346099979815696379983402 := by decide +kernel
theorem dX11_isTrial_0 : decode cX11_isTrial 0 = .ok (.aload_n 0, 1) := dc_42 (bq_nm bk_X11_isTrial_0 (j := 0) rfl rfl)
theorem dX11_isTrial_1 : decode cX11_isTrial 1 = .ok (.invokevirtual 176, 3) := dc_182 (bq_nm bk_X11_isTrial_0 (j := 1) rfl rfl) (bq_nm bk_X11_isTrial_0 (j := 2) rfl rfl) (bq_nm bk_X11_isTrial_0 (j := 3) rfl rfl) rfl
theorem dX11_isTrial_4 : decode cX11_isTrial 4 = .ok (.aload_n 0, 1) := dc_42 (bq_nm bk_X11_isTrial_0 (j := 4) rfl rfl)
theorem dX11_isTrial_5 : decode cX11_isTrial 5 = .ok (.iconst 4, 1) := dc_7 (bq_nm bk_X11_isTrial_0 (j := 5) rfl rfl)
theorem dX11_isTrial_6 : decode cX11_isTrial 6 = .ok (.iload_n 1, 1) := dc_27 (bq_nm bk_X11_isTrial_0 (j := 6) rfl rfl)
theorem dX11_isTrial_7 : decode cX11_isTrial 7 = .ok (.invokevirtual 87, 3) := dc_182 (bq_nm bk_X11_isTrial_0 (j := 7) rfl rfl) (bq_nm bk_X11_isTrial_0 (j := 8) rfl rfl) (bq_nm bk_X11_isTrial_0 (j := 9) rfl rfl) rfl
theorem dX11_isTrial_10 : decode cX11_isTrial 10 = .ok (.ireturn, 1) := dc_172 (bq_nm bk_X11_isTrial_0 (j := 10) rfl rfl)
set_option maxRecDepth 20000 in
theorem bk_X11_box_0 : ((cX11_box.data.toList.drop 0).take 20).length = 20 ∧ eN (((cX11_box.data.toList.drop 0).take 20).map UInt8.toNat) = 987612197360981967930280810923411040058660494122 := by decide +kernel
theorem dX11_box_0 : decode cX11_box 0 = .ok (.aload_n 0, 1) := dc_42 (bq_nm bk_X11_box_0 (j := 0) rfl rfl)
theorem dX11_box_1 : decode cX11_box 1 = .ok (.iload_n 1, 1) := dc_27 (bq_nm bk_X11_box_0 (j := 1) rfl rfl)
theorem dX11_box_2 : decode cX11_box 2 = .ok (.invokevirtual 229, 3) := dc_182 (bq_nm bk_X11_box_0 (j := 2) rfl rfl) (bq_nm bk_X11_box_0 (j := 3) rfl rfl) (bq_nm bk_X11_box_0 (j := 4) rfl rfl) rfl
theorem dX11_box_5 : decode cX11_box 5 = .ok (.ifCond .eq 12, 3) := dc_153 (bq_nm bk_X11_box_0 (j := 5) rfl rfl) (bq_nm bk_X11_box_0 (j := 6) rfl rfl) (bq_nm bk_X11_box_0 (j := 7) rfl rfl) rfl
theorem dX11_box_8 : decode cX11_box 8 = .ok (.aload_n 0, 1) := dc_42 (bq_nm bk_X11_box_0 (j := 8) rfl rfl)
theorem dX11_box_9 : decode cX11_box 9 = .ok (.getfield 33, 3) := dc_180 (bq_nm bk_X11_box_0 (j := 9) rfl rfl) (bq_nm bk_X11_box_0 (j := 10) rfl rfl) (bq_nm bk_X11_box_0 (j := 11) rfl rfl) rfl
theorem dX11_box_12 : decode cX11_box 12 = .ok (.iload_n 1, 1) := dc_27 (bq_nm bk_X11_box_0 (j := 12) rfl rfl)
theorem dX11_box_13 : decode cX11_box 13 = .ok (.iaload, 1) := dc_46 (bq_nm bk_X11_box_0 (j := 13) rfl rfl)
theorem dX11_box_14 : decode cX11_box 14 = .ok (.goto 5, 3) := dc_167 (bq_nm bk_X11_box_0 (j := 14) rfl rfl) (bq_nm bk_X11_box_0 (j := 15) rfl rfl) (bq_nm bk_X11_box_0 (j := 16) rfl rfl) rfl
theorem dX11_box_17 : decode cX11_box 17 = .ok (.bipush (-2), 2) := dc_16 (bq_nm bk_X11_box_0 (j := 17) rfl rfl) (bq_nm bk_X11_box_0 (j := 18) rfl rfl) rfl
theorem dX11_box_19 : decode cX11_box 19 = .ok (.ireturn, 1) := dc_172 (bq_nm bk_X11_box_0 (j := 19) rfl rfl)
set_option maxRecDepth 20000 in
theorem bk_X11_drawn_0 : ((cX11_drawn.data.toList.drop 0).take 32).length = 32 ∧ eN (((cX11_drawn.data.toList.drop 0).take 32).map UInt8.toNat) = 12254962720756457681088878832017272861037709915632112960232786117804990798634 := by decide +kernel
theorem dX11_drawn_0 : decode cX11_drawn 0 = .ok (.aload_n 0, 1) := dc_42 (bq_nm bk_X11_drawn_0 (j := 0) rfl rfl)
theorem dX11_drawn_1 : decode cX11_drawn 1 = .ok (.iload_n 1, 1) := dc_27 (bq_nm bk_X11_drawn_0 (j := 1) rfl rfl)
theorem dX11_drawn_2 : decode cX11_drawn 2 = .ok (.invokevirtual 229, 3) := dc_182 (bq_nm bk_X11_drawn_0 (j := 2) rfl rfl) (bq_nm bk_X11_drawn_0 (j := 3) rfl rfl) (bq_nm bk_X11_drawn_0 (j := 4) rfl rfl) rfl
theorem dX11_drawn_5 : decode cX11_drawn 5 = .ok (.ifCond .eq 7, 3) := dc_153 (bq_nm bk_X11_drawn_0 (j := 5) rfl rfl) (bq_nm bk_X11_drawn_0 (j := 6) rfl rfl) (bq_nm bk_X11_drawn_0 (j := 7) rfl rfl) rfl
theorem dX11_drawn_8 : decode cX11_drawn 8 = .ok (.iload_n 2, 1) := dc_28 (bq_nm bk_X11_drawn_0 (j := 8) rfl rfl)
theorem dX11_drawn_9 : decode cX11_drawn 9 = .ok (.ifCond .ge 6, 3) := dc_156 (bq_nm bk_X11_drawn_0 (j := 9) rfl rfl) (bq_nm bk_X11_drawn_0 (j := 10) rfl rfl) (bq_nm bk_X11_drawn_0 (j := 11) rfl rfl) rfl
theorem dX11_drawn_12 : decode cX11_drawn 12 = .ok (.bipush (-2), 2) := dc_16 (bq_nm bk_X11_drawn_0 (j := 12) rfl rfl) (bq_nm bk_X11_drawn_0 (j := 13) rfl rfl) rfl
theorem dX11_drawn_14 : decode cX11_drawn 14 = .ok (.ireturn, 1) := dc_172 (bq_nm bk_X11_drawn_0 (j := 14) rfl rfl)
theorem dX11_drawn_15 : decode cX11_drawn 15 = .ok (.iload_n 2, 1) := dc_28 (bq_nm bk_X11_drawn_0 (j := 15) rfl rfl)
theorem dX11_drawn_16 : decode cX11_drawn 16 = .ok (.aload_n 0, 1) := dc_42 (bq_nm bk_X11_drawn_0 (j := 16) rfl rfl)
theorem dX11_drawn_17 : decode cX11_drawn 17 = .ok (.getfield 42, 3) := dc_180 (bq_nm bk_X11_drawn_0 (j := 17) rfl rfl) (bq_nm bk_X11_drawn_0 (j := 18) rfl rfl) (bq_nm bk_X11_drawn_0 (j := 19) rfl rfl) rfl
theorem dX11_drawn_20 : decode cX11_drawn 20 = .ok (.iload_n 1, 1) := dc_27 (bq_nm bk_X11_drawn_0 (j := 20) rfl rfl)
theorem dX11_drawn_21 : decode cX11_drawn 21 = .ok (.iaload, 1) := dc_46 (bq_nm bk_X11_drawn_0 (j := 21) rfl rfl)
theorem dX11_drawn_22 : decode cX11_drawn 22 = .ok (.if_icmp .ge 17, 3) := dc_162 (bq_nm bk_X11_drawn_0 (j := 22) rfl rfl) (bq_nm bk_X11_drawn_0 (j := 23) rfl rfl) (bq_nm bk_X11_drawn_0 (j := 24) rfl rfl) rfl
theorem dX11_drawn_25 : decode cX11_drawn 25 = .ok (.aload_n 0, 1) := dc_42 (bq_nm bk_X11_drawn_0 (j := 25) rfl rfl)
theorem dX11_drawn_26 : decode cX11_drawn 26 = .ok (.getfield 39, 3) := dc_180 (bq_nm bk_X11_drawn_0 (j := 26) rfl rfl) (bq_nm bk_X11_drawn_0 (j := 27) rfl rfl) (bq_nm bk_X11_drawn_0 (j := 28) rfl rfl) rfl
theorem dX11_drawn_29 : decode cX11_drawn 29 = .ok (.bipush 24, 2) := dc_16 (bq_nm bk_X11_drawn_0 (j := 29) rfl rfl) (bq_nm bk_X11_drawn_0 (j := 30) rfl rfl) rfl
theorem dX11_drawn_31 : decode cX11_drawn 31 = .ok (.iload_n 1, 1) := dc_27 (bq_nm bk_X11_drawn_0 (j := 31) rfl rfl)
set_option maxRecDepth 20000 in
theorem bk_X11_drawn_32 : ((cX11_drawn.data.toList.drop 32).take 9).length = 9 ∧ eN (((cX11_drawn.data.toList.drop 32).take 9).map UInt8.toNat) = 3172985222484063165544 := by decide +kernel
theorem dX11_drawn_32 : decode cX11_drawn 32 = .ok (.imul, 1) := dc_104 (bq_nm bk_X11_drawn_32 (j := 0) rfl rfl)
theorem dX11_drawn_33 : decode cX11_drawn 33 = .ok (.iload_n 2, 1) := dc_28 (bq_nm bk_X11_drawn_32 (j := 1) rfl rfl)
theorem dX11_drawn_34 : decode cX11_drawn 34 = .ok (.iadd, 1) := dc_96 (bq_nm bk_X11_drawn_32 (j := 2) rfl rfl)
theorem dX11_drawn_35 : decode cX11_drawn 35 = .ok (.iaload, 1) := dc_46 (bq_nm bk_X11_drawn_32 (j := 3) rfl rfl)
theorem dX11_drawn_36 : decode cX11_drawn 36 = .ok (.goto 4, 3) := dc_167 (bq_nm bk_X11_drawn_32 (j := 4) rfl rfl) (bq_nm bk_X11_drawn_32 (j := 5) rfl rfl) (bq_nm bk_X11_drawn_32 (j := 6) rfl rfl) rfl
theorem dX11_drawn_39 : decode cX11_drawn 39 = .ok (.iconst (-1), 1) := dc_2 (bq_nm bk_X11_drawn_32 (j := 7) rfl rfl)
theorem dX11_drawn_40 : decode cX11_drawn 40 = .ok (.ireturn, 1) := dc_172 (bq_nm bk_X11_drawn_32 (j := 8) rfl rfl)
set_option maxRecDepth 20000 in
theorem bk_X11_slip_0 : ((cX11_slip.data.toList.drop 0).take 31).length = 31 ∧ eN (((cX11_slip.data.toList.drop 0).take 31).map UInt8.toNat) = 8838742518888509682839016829182786874914949487308229112920949656636496682 := by decide +kernel
theorem dX11_slip_0 : decode cX11_slip 0 = .ok (.aload_n 0, 1) := dc_42 (bq_nm bk_X11_slip_0 (j := 0) rfl rfl)
theorem dX11_slip_1 : decode cX11_slip 1 = .ok (.iload_n 1, 1) := dc_27 (bq_nm bk_X11_slip_0 (j := 1) rfl rfl)
theorem dX11_slip_2 : decode cX11_slip 2 = .ok (.invokevirtual 229, 3) := dc_182 (bq_nm bk_X11_slip_0 (j := 2) rfl rfl) (bq_nm bk_X11_slip_0 (j := 3) rfl rfl) (bq_nm bk_X11_slip_0 (j := 4) rfl rfl) rfl
theorem dX11_slip_5 : decode cX11_slip 5 = .ok (.ifCond .eq 26, 3) := dc_153 (bq_nm bk_X11_slip_0 (j := 5) rfl rfl) (bq_nm bk_X11_slip_0 (j := 6) rfl rfl) (bq_nm bk_X11_slip_0 (j := 7) rfl rfl) rfl
theorem dX11_slip_8 : decode cX11_slip 8 = .ok (.aload_n 0, 1) := dc_42 (bq_nm bk_X11_slip_0 (j := 8) rfl rfl)
theorem dX11_slip_9 : decode cX11_slip 9 = .ok (.iconst 0, 1) := dc_3 (bq_nm bk_X11_slip_0 (j := 9) rfl rfl)
theorem dX11_slip_10 : decode cX11_slip 10 = .ok (.iload_n 2, 1) := dc_28 (bq_nm bk_X11_slip_0 (j := 10) rfl rfl)
theorem dX11_slip_11 : decode cX11_slip 11 = .ok (.invokevirtual 87, 3) := dc_182 (bq_nm bk_X11_slip_0 (j := 11) rfl rfl) (bq_nm bk_X11_slip_0 (j := 12) rfl rfl) (bq_nm bk_X11_slip_0 (j := 13) rfl rfl) rfl
theorem dX11_slip_14 : decode cX11_slip 14 = .ok (.ifCond .eq 17, 3) := dc_153 (bq_nm bk_X11_slip_0 (j := 14) rfl rfl) (bq_nm bk_X11_slip_0 (j := 15) rfl rfl) (bq_nm bk_X11_slip_0 (j := 16) rfl rfl) rfl
theorem dX11_slip_17 : decode cX11_slip 17 = .ok (.aload_n 0, 1) := dc_42 (bq_nm bk_X11_slip_0 (j := 17) rfl rfl)
theorem dX11_slip_18 : decode cX11_slip 18 = .ok (.getfield 45, 3) := dc_180 (bq_nm bk_X11_slip_0 (j := 18) rfl rfl) (bq_nm bk_X11_slip_0 (j := 19) rfl rfl) (bq_nm bk_X11_slip_0 (j := 20) rfl rfl) rfl
theorem dX11_slip_21 : decode cX11_slip 21 = .ok (.bipush 30, 2) := dc_16 (bq_nm bk_X11_slip_0 (j := 21) rfl rfl) (bq_nm bk_X11_slip_0 (j := 22) rfl rfl) rfl
theorem dX11_slip_23 : decode cX11_slip 23 = .ok (.iload_n 1, 1) := dc_27 (bq_nm bk_X11_slip_0 (j := 23) rfl rfl)
theorem dX11_slip_24 : decode cX11_slip 24 = .ok (.imul, 1) := dc_104 (bq_nm bk_X11_slip_0 (j := 24) rfl rfl)
theorem dX11_slip_25 : decode cX11_slip 25 = .ok (.iload_n 2, 1) := dc_28 (bq_nm bk_X11_slip_0 (j := 25) rfl rfl)
theorem dX11_slip_26 : decode cX11_slip 26 = .ok (.iadd, 1) := dc_96 (bq_nm bk_X11_slip_0 (j := 26) rfl rfl)
theorem dX11_slip_27 : decode cX11_slip 27 = .ok (.iaload, 1) := dc_46 (bq_nm bk_X11_slip_0 (j := 27) rfl rfl)
theorem dX11_slip_28 : decode cX11_slip 28 = .ok (.goto 5, 3) := dc_167 (bq_nm bk_X11_slip_0 (j := 28) rfl rfl) (bq_nm bk_X11_slip_0 (j := 29) rfl rfl) (bq_nm bk_X11_slip_0 (j := 30) rfl rfl) rfl
set_option maxRecDepth 20000 in
theorem bk_X11_slip_31 : ((cX11_slip.data.toList.drop 31).take 3).length = 3 ∧ eN (((cX11_slip.data.toList.drop 31).take 3).map UInt8.toNat) = 11337232 := by decide +kernel
theorem dX11_slip_31 : decode cX11_slip 31 = .ok (.bipush (-2), 2) := dc_16 (bq_nm bk_X11_slip_31 (j := 0) rfl rfl) (bq_nm bk_X11_slip_31 (j := 1) rfl rfl) rfl
theorem dX11_slip_33 : decode cX11_slip 33 = .ok (.ireturn, 1) := dc_172 (bq_nm bk_X11_slip_31 (j := 2) rfl rfl)
set_option maxRecDepth 20000 in
theorem bk_X11_jury_0 : ((cX11_jury.data.toList.drop 0).take 20).length = 20 ∧ eN (((cX11_jury.data.toList.drop 0).take 20).map UInt8.toNat) = 987612197360981967931209265952875075264834837290 := by decide +kernel
theorem dX11_jury_0 : decode cX11_jury 0 = .ok (.aload_n 0, 1) := dc_42 (bq_nm bk_X11_jury_0 (j := 0) rfl rfl)
theorem dX11_jury_1 : decode cX11_jury 1 = .ok (.iload_n 1, 1) := dc_27 (bq_nm bk_X11_jury_0 (j := 1) rfl rfl)
theorem dX11_jury_2 : decode cX11_jury 2 = .ok (.invokevirtual 229, 3) := dc_182 (bq_nm bk_X11_jury_0 (j := 2) rfl rfl) (bq_nm bk_X11_jury_0 (j := 3) rfl rfl) (bq_nm bk_X11_jury_0 (j := 4) rfl rfl) rfl
theorem dX11_jury_5 : decode cX11_jury 5 = .ok (.ifCond .eq 12, 3) := dc_153 (bq_nm bk_X11_jury_0 (j := 5) rfl rfl) (bq_nm bk_X11_jury_0 (j := 6) rfl rfl) (bq_nm bk_X11_jury_0 (j := 7) rfl rfl) rfl
theorem dX11_jury_8 : decode cX11_jury 8 = .ok (.aload_n 0, 1) := dc_42 (bq_nm bk_X11_jury_0 (j := 8) rfl rfl)
theorem dX11_jury_9 : decode cX11_jury 9 = .ok (.getfield 36, 3) := dc_180 (bq_nm bk_X11_jury_0 (j := 9) rfl rfl) (bq_nm bk_X11_jury_0 (j := 10) rfl rfl) (bq_nm bk_X11_jury_0 (j := 11) rfl rfl) rfl
theorem dX11_jury_12 : decode cX11_jury 12 = .ok (.iload_n 1, 1) := dc_27 (bq_nm bk_X11_jury_0 (j := 12) rfl rfl)
theorem dX11_jury_13 : decode cX11_jury 13 = .ok (.iaload, 1) := dc_46 (bq_nm bk_X11_jury_0 (j := 13) rfl rfl)
theorem dX11_jury_14 : decode cX11_jury 14 = .ok (.goto 5, 3) := dc_167 (bq_nm bk_X11_jury_0 (j := 14) rfl rfl) (bq_nm bk_X11_jury_0 (j := 15) rfl rfl) (bq_nm bk_X11_jury_0 (j := 16) rfl rfl) rfl
theorem dX11_jury_17 : decode cX11_jury 17 = .ok (.bipush (-2), 2) := dc_16 (bq_nm bk_X11_jury_0 (j := 17) rfl rfl) (bq_nm bk_X11_jury_0 (j := 18) rfl rfl) rfl
theorem dX11_jury_19 : decode cX11_jury 19 = .ok (.ireturn, 1) := dc_172 (bq_nm bk_X11_jury_0 (j := 19) rfl rfl)
set_option maxRecDepth 20000 in
theorem bk_X11_about_0 : ((cX11_about.data.toList.drop 0).take 30).length = 30 ∧ eN (((cX11_about.data.toList.drop 0).take 30).map UInt8.toNat) = 320071478403130049525994739928873208048239066478597152123117064045337386 := by decide +kernel
theorem dX11_about_0 : decode cX11_about 0 = .ok (.aload_n 0, 1) := dc_42 (bq_nm bk_X11_about_0 (j := 0) rfl rfl)
theorem dX11_about_1 : decode cX11_about 1 = .ok (.iload_n 1, 1) := dc_27 (bq_nm bk_X11_about_0 (j := 1) rfl rfl)
theorem dX11_about_2 : decode cX11_about 2 = .ok (.invokevirtual 229, 3) := dc_182 (bq_nm bk_X11_about_0 (j := 2) rfl rfl) (bq_nm bk_X11_about_0 (j := 3) rfl rfl) (bq_nm bk_X11_about_0 (j := 4) rfl rfl) rfl
theorem dX11_about_5 : decode cX11_about 5 = .ok (.ifCond .eq 28, 3) := dc_153 (bq_nm bk_X11_about_0 (j := 5) rfl rfl) (bq_nm bk_X11_about_0 (j := 6) rfl rfl) (bq_nm bk_X11_about_0 (j := 7) rfl rfl) rfl
theorem dX11_about_8 : decode cX11_about 8 = .ok (.iload_n 2, 1) := dc_28 (bq_nm bk_X11_about_0 (j := 8) rfl rfl)
theorem dX11_about_9 : decode cX11_about 9 = .ok (.i2l, 1) := dc_133 (bq_nm bk_X11_about_0 (j := 9) rfl rfl)
theorem dX11_about_10 : decode cX11_about 10 = .ok (.lconst 0, 1) := dc_9 (bq_nm bk_X11_about_0 (j := 10) rfl rfl)
theorem dX11_about_11 : decode cX11_about 11 = .ok (.ldc2_w 77, 3) := dc_20 (bq_nm bk_X11_about_0 (j := 11) rfl rfl) (bq_nm bk_X11_about_0 (j := 12) rfl rfl) (bq_nm bk_X11_about_0 (j := 13) rfl rfl) rfl
theorem dX11_about_14 : decode cX11_about 14 = .ok (.invokestatic 67, 3) := dc_184 (bq_nm bk_X11_about_0 (j := 14) rfl rfl) (bq_nm bk_X11_about_0 (j := 15) rfl rfl) (bq_nm bk_X11_about_0 (j := 16) rfl rfl) rfl
theorem dX11_about_17 : decode cX11_about 17 = .ok (.ifCond .eq 16, 3) := dc_153 (bq_nm bk_X11_about_0 (j := 17) rfl rfl) (bq_nm bk_X11_about_0 (j := 18) rfl rfl) (bq_nm bk_X11_about_0 (j := 19) rfl rfl) rfl
theorem dX11_about_20 : decode cX11_about 20 = .ok (.aload_n 0, 1) := dc_42 (bq_nm bk_X11_about_0 (j := 20) rfl rfl)
theorem dX11_about_21 : decode cX11_about 21 = .ok (.getfield 48, 3) := dc_180 (bq_nm bk_X11_about_0 (j := 21) rfl rfl) (bq_nm bk_X11_about_0 (j := 22) rfl rfl) (bq_nm bk_X11_about_0 (j := 23) rfl rfl) rfl
theorem dX11_about_24 : decode cX11_about 24 = .ok (.iconst 4, 1) := dc_7 (bq_nm bk_X11_about_0 (j := 24) rfl rfl)
theorem dX11_about_25 : decode cX11_about 25 = .ok (.iload_n 1, 1) := dc_27 (bq_nm bk_X11_about_0 (j := 25) rfl rfl)
theorem dX11_about_26 : decode cX11_about 26 = .ok (.imul, 1) := dc_104 (bq_nm bk_X11_about_0 (j := 26) rfl rfl)
theorem dX11_about_27 : decode cX11_about 27 = .ok (.iload_n 2, 1) := dc_28 (bq_nm bk_X11_about_0 (j := 27) rfl rfl)
theorem dX11_about_28 : decode cX11_about 28 = .ok (.iadd, 1) := dc_96 (bq_nm bk_X11_about_0 (j := 28) rfl rfl)
theorem dX11_about_29 : decode cX11_about 29 = .ok (.iaload, 1) := dc_46 (bq_nm bk_X11_about_0 (j := 29) rfl rfl)
set_option maxRecDepth 20000 in
theorem bk_X11_about_30 : ((cX11_about.data.toList.drop 30).take 6).length = 6 ∧ eN (((cX11_about.data.toList.drop 30).take 6).map UInt8.toNat) = 190112734707879 := by decide +kernel
theorem dX11_about_30 : decode cX11_about 30 = .ok (.goto 5, 3) := dc_167 (bq_nm bk_X11_about_30 (j := 0) rfl rfl) (bq_nm bk_X11_about_30 (j := 1) rfl rfl) (bq_nm bk_X11_about_30 (j := 2) rfl rfl) rfl
theorem dX11_about_33 : decode cX11_about 33 = .ok (.ldc 232, 2) := dc_18 (bq_nm bk_X11_about_30 (j := 3) rfl rfl) (bq_nm bk_X11_about_30 (j := 4) rfl rfl)
theorem dX11_about_35 : decode cX11_about 35 = .ok (.ireturn, 1) := dc_172 (bq_nm bk_X11_about_30 (j := 5) rfl rfl)
set_option maxRecDepth 20000 in
theorem bk_X11_bad_0 : ((cX11_bad.data.toList.drop 0).take 30).length = 30 ∧ eN (((cX11_bad.data.toList.drop 0).take 30).map UInt8.toNat) = 290631911262705178648059748554808975627168381877480546882644573203511323 := by decide +kernel
theorem dX11_bad_0 : decode cX11_bad 0 = .ok (.iload_n 1, 1) := dc_27 (bq_nm bk_X11_bad_0 (j := 0) rfl rfl)
theorem dX11_bad_1 : decode cX11_bad 1 = .ok (.invokestatic 93, 3) := dc_184 (bq_nm bk_X11_bad_0 (j := 1) rfl rfl) (bq_nm bk_X11_bad_0 (j := 2) rfl rfl) (bq_nm bk_X11_bad_0 (j := 3) rfl rfl) rfl
theorem dX11_bad_4 : decode cX11_bad 4 = .ok (.ifCond .ne 6, 3) := dc_154 (bq_nm bk_X11_bad_0 (j := 4) rfl rfl) (bq_nm bk_X11_bad_0 (j := 5) rfl rfl) (bq_nm bk_X11_bad_0 (j := 6) rfl rfl) rfl
theorem dX11_bad_7 : decode cX11_bad 7 = .ok (.bipush (-2), 2) := dc_16 (bq_nm bk_X11_bad_0 (j := 7) rfl rfl) (bq_nm bk_X11_bad_0 (j := 8) rfl rfl) rfl
theorem dX11_bad_9 : decode cX11_bad 9 = .ok (.ireturn, 1) := dc_172 (bq_nm bk_X11_bad_0 (j := 9) rfl rfl)
theorem dX11_bad_10 : decode cX11_bad 10 = .ok (.aload_n 0, 1) := dc_42 (bq_nm bk_X11_bad_0 (j := 10) rfl rfl)
theorem dX11_bad_11 : decode cX11_bad 11 = .ok (.invokevirtual 176, 3) := dc_182 (bq_nm bk_X11_bad_0 (j := 11) rfl rfl) (bq_nm bk_X11_bad_0 (j := 12) rfl rfl) (bq_nm bk_X11_bad_0 (j := 13) rfl rfl) rfl
theorem dX11_bad_14 : decode cX11_bad 14 = .ok (.iconst 0, 1) := dc_3 (bq_nm bk_X11_bad_0 (j := 14) rfl rfl)
theorem dX11_bad_15 : decode cX11_bad 15 = .ok (.istore_n 2, 1) := dc_61 (bq_nm bk_X11_bad_0 (j := 15) rfl rfl)
theorem dX11_bad_16 : decode cX11_bad 16 = .ok (.iconst 0, 1) := dc_3 (bq_nm bk_X11_bad_0 (j := 16) rfl rfl)
theorem dX11_bad_17 : decode cX11_bad 17 = .ok (.istore_n 3, 1) := dc_62 (bq_nm bk_X11_bad_0 (j := 17) rfl rfl)
theorem dX11_bad_18 : decode cX11_bad 18 = .ok (.iload_n 3, 1) := dc_29 (bq_nm bk_X11_bad_0 (j := 18) rfl rfl)
theorem dX11_bad_19 : decode cX11_bad 19 = .ok (.aload_n 0, 1) := dc_42 (bq_nm bk_X11_bad_0 (j := 19) rfl rfl)
theorem dX11_bad_20 : decode cX11_bad 20 = .ok (.getfield 7, 3) := dc_180 (bq_nm bk_X11_bad_0 (j := 20) rfl rfl) (bq_nm bk_X11_bad_0 (j := 21) rfl rfl) (bq_nm bk_X11_bad_0 (j := 22) rfl rfl) rfl
theorem dX11_bad_23 : decode cX11_bad 23 = .ok (.iconst 4, 1) := dc_7 (bq_nm bk_X11_bad_0 (j := 23) rfl rfl)
theorem dX11_bad_24 : decode cX11_bad 24 = .ok (.iaload, 1) := dc_46 (bq_nm bk_X11_bad_0 (j := 24) rfl rfl)
theorem dX11_bad_25 : decode cX11_bad 25 = .ok (.if_icmp .ge 35, 3) := dc_162 (bq_nm bk_X11_bad_0 (j := 25) rfl rfl) (bq_nm bk_X11_bad_0 (j := 26) rfl rfl) (bq_nm bk_X11_bad_0 (j := 27) rfl rfl) rfl
theorem dX11_bad_28 : decode cX11_bad 28 = .ok (.iload_n 2, 1) := dc_28 (bq_nm bk_X11_bad_0 (j := 28) rfl rfl)
theorem dX11_bad_29 : decode cX11_bad 29 = .ok (.aload_n 0, 1) := dc_42 (bq_nm bk_X11_bad_0 (j := 29) rfl rfl)
set_option maxRecDepth 20000 in
theorem bk_X11_bad_30 : ((cX11_bad.data.toList.drop 30).take 32).length = 32 ∧ eN (((cX11_bad.data.toList.drop 30).take 32).map UInt8.toNat) = 77848786245466836972883027933414521273444711635018125213391405769013311307956 := by decide +kernel
theorem dX11_bad_30 : decode cX11_bad 30 = .ok (.getfield 36, 3) := dc_180 (bq_nm bk_X11_bad_30 (j := 0) rfl rfl) (bq_nm bk_X11_bad_30 (j := 1) rfl rfl) (bq_nm bk_X11_bad_30 (j := 2) rfl rfl) rfl
theorem dX11_bad_33 : decode cX11_bad 33 = .ok (.iload_n 3, 1) := dc_29 (bq_nm bk_X11_bad_30 (j := 3) rfl rfl)
theorem dX11_bad_34 : decode cX11_bad 34 = .ok (.iaload, 1) := dc_46 (bq_nm bk_X11_bad_30 (j := 4) rfl rfl)
theorem dX11_bad_35 : decode cX11_bad 35 = .ok (.aload_n 0, 1) := dc_42 (bq_nm bk_X11_bad_30 (j := 5) rfl rfl)
theorem dX11_bad_36 : decode cX11_bad 36 = .ok (.iload_n 3, 1) := dc_29 (bq_nm bk_X11_bad_30 (j := 6) rfl rfl)
theorem dX11_bad_37 : decode cX11_bad 37 = .ok (.iload_n 1, 1) := dc_27 (bq_nm bk_X11_bad_30 (j := 7) rfl rfl)
theorem dX11_bad_38 : decode cX11_bad 38 = .ok (.invokevirtual 206, 3) := dc_182 (bq_nm bk_X11_bad_30 (j := 8) rfl rfl) (bq_nm bk_X11_bad_30 (j := 9) rfl rfl) (bq_nm bk_X11_bad_30 (j := 10) rfl rfl) rfl
theorem dX11_bad_41 : decode cX11_bad 41 = .ok (.iand, 1) := dc_126 (bq_nm bk_X11_bad_30 (j := 11) rfl rfl)
theorem dX11_bad_42 : decode cX11_bad 42 = .ok (.ifCond .eq 9, 3) := dc_153 (bq_nm bk_X11_bad_30 (j := 12) rfl rfl) (bq_nm bk_X11_bad_30 (j := 13) rfl rfl) (bq_nm bk_X11_bad_30 (j := 14) rfl rfl) rfl
theorem dX11_bad_45 : decode cX11_bad 45 = .ok (.iconst 1, 1) := dc_4 (bq_nm bk_X11_bad_30 (j := 15) rfl rfl)
theorem dX11_bad_46 : decode cX11_bad 46 = .ok (.iload_n 3, 1) := dc_29 (bq_nm bk_X11_bad_30 (j := 16) rfl rfl)
theorem dX11_bad_47 : decode cX11_bad 47 = .ok (.ishl, 1) := dc_120 (bq_nm bk_X11_bad_30 (j := 17) rfl rfl)
theorem dX11_bad_48 : decode cX11_bad 48 = .ok (.goto 4, 3) := dc_167 (bq_nm bk_X11_bad_30 (j := 18) rfl rfl) (bq_nm bk_X11_bad_30 (j := 19) rfl rfl) (bq_nm bk_X11_bad_30 (j := 20) rfl rfl) rfl
theorem dX11_bad_51 : decode cX11_bad 51 = .ok (.iconst 0, 1) := dc_3 (bq_nm bk_X11_bad_30 (j := 21) rfl rfl)
theorem dX11_bad_52 : decode cX11_bad 52 = .ok (.ior, 1) := dc_128 (bq_nm bk_X11_bad_30 (j := 22) rfl rfl)
theorem dX11_bad_53 : decode cX11_bad 53 = .ok (.istore_n 2, 1) := dc_61 (bq_nm bk_X11_bad_30 (j := 23) rfl rfl)
theorem dX11_bad_54 : decode cX11_bad 54 = .ok (.iinc 3 1, 3) := dc_132 (bq_nm bk_X11_bad_30 (j := 24) rfl rfl) (bq_nm bk_X11_bad_30 (j := 25) rfl rfl) (bq_nm bk_X11_bad_30 (j := 26) rfl rfl) rfl
theorem dX11_bad_57 : decode cX11_bad 57 = .ok (.goto (-39), 3) := dc_167 (bq_nm bk_X11_bad_30 (j := 27) rfl rfl) (bq_nm bk_X11_bad_30 (j := 28) rfl rfl) (bq_nm bk_X11_bad_30 (j := 29) rfl rfl) rfl
theorem dX11_bad_60 : decode cX11_bad 60 = .ok (.iload_n 2, 1) := dc_28 (bq_nm bk_X11_bad_30 (j := 30) rfl rfl)
theorem dX11_bad_61 : decode cX11_bad 61 = .ok (.ireturn, 1) := dc_172 (bq_nm bk_X11_bad_30 (j := 31) rfl rfl)
set_option maxRecDepth 20000 in
theorem bk_X11_sums_0 : ((cX11_sums.data.toList.drop 0).take 32).length = 32 ∧ eN (((cX11_sums.data.toList.drop 0).take 32).map UInt8.toNat) = 3630875575404261093297099943019909314970506648909568064180394751473788486939 := by decide +kernel
theorem dX11_sums_0 : decode cX11_sums 0 = .ok (.iload_n 1, 1) := dc_27 (bq_nm bk_X11_sums_0 (j := 0) rfl rfl)
theorem dX11_sums_1 : decode cX11_sums 1 = .ok (.i2l, 1) := dc_133 (bq_nm bk_X11_sums_0 (j := 1) rfl rfl)
theorem dX11_sums_2 : decode cX11_sums 2 = .ok (.lconst 0, 1) := dc_9 (bq_nm bk_X11_sums_0 (j := 2) rfl rfl)
theorem dX11_sums_3 : decode cX11_sums 3 = .ok (.ldc2_w 202, 3) := dc_20 (bq_nm bk_X11_sums_0 (j := 3) rfl rfl) (bq_nm bk_X11_sums_0 (j := 4) rfl rfl) (bq_nm bk_X11_sums_0 (j := 5) rfl rfl) rfl
theorem dX11_sums_6 : decode cX11_sums 6 = .ok (.invokestatic 67, 3) := dc_184 (bq_nm bk_X11_sums_0 (j := 6) rfl rfl) (bq_nm bk_X11_sums_0 (j := 7) rfl rfl) (bq_nm bk_X11_sums_0 (j := 8) rfl rfl) rfl
theorem dX11_sums_9 : decode cX11_sums 9 = .ok (.ifCond .eq 15, 3) := dc_153 (bq_nm bk_X11_sums_0 (j := 9) rfl rfl) (bq_nm bk_X11_sums_0 (j := 10) rfl rfl) (bq_nm bk_X11_sums_0 (j := 11) rfl rfl) rfl
theorem dX11_sums_12 : decode cX11_sums 12 = .ok (.iload_n 2, 1) := dc_28 (bq_nm bk_X11_sums_0 (j := 12) rfl rfl)
theorem dX11_sums_13 : decode cX11_sums 13 = .ok (.i2l, 1) := dc_133 (bq_nm bk_X11_sums_0 (j := 13) rfl rfl)
theorem dX11_sums_14 : decode cX11_sums 14 = .ok (.lconst 0, 1) := dc_9 (bq_nm bk_X11_sums_0 (j := 14) rfl rfl)
theorem dX11_sums_15 : decode cX11_sums 15 = .ok (.ldc2_w 79, 3) := dc_20 (bq_nm bk_X11_sums_0 (j := 15) rfl rfl) (bq_nm bk_X11_sums_0 (j := 16) rfl rfl) (bq_nm bk_X11_sums_0 (j := 17) rfl rfl) rfl
theorem dX11_sums_18 : decode cX11_sums 18 = .ok (.invokestatic 67, 3) := dc_184 (bq_nm bk_X11_sums_0 (j := 18) rfl rfl) (bq_nm bk_X11_sums_0 (j := 19) rfl rfl) (bq_nm bk_X11_sums_0 (j := 20) rfl rfl) rfl
theorem dX11_sums_21 : decode cX11_sums 21 = .ok (.ifCond .ne 6, 3) := dc_154 (bq_nm bk_X11_sums_0 (j := 21) rfl rfl) (bq_nm bk_X11_sums_0 (j := 22) rfl rfl) (bq_nm bk_X11_sums_0 (j := 23) rfl rfl) rfl
theorem dX11_sums_24 : decode cX11_sums 24 = .ok (.bipush (-2), 2) := dc_16 (bq_nm bk_X11_sums_0 (j := 24) rfl rfl) (bq_nm bk_X11_sums_0 (j := 25) rfl rfl) rfl
theorem dX11_sums_26 : decode cX11_sums 26 = .ok (.ireturn, 1) := dc_172 (bq_nm bk_X11_sums_0 (j := 26) rfl rfl)
theorem dX11_sums_27 : decode cX11_sums 27 = .ok (.aload_n 0, 1) := dc_42 (bq_nm bk_X11_sums_0 (j := 27) rfl rfl)
theorem dX11_sums_28 : decode cX11_sums 28 = .ok (.getfield 7, 3) := dc_180 (bq_nm bk_X11_sums_0 (j := 28) rfl rfl) (bq_nm bk_X11_sums_0 (j := 29) rfl rfl) (bq_nm bk_X11_sums_0 (j := 30) rfl rfl) rfl
theorem dX11_sums_31 : decode cX11_sums 31 = .ok (.iconst 5, 1) := dc_8 (bq_nm bk_X11_sums_0 (j := 31) rfl rfl)
set_option maxRecDepth 20000 in
theorem bk_X11_sums_32 : ((cX11_sums.data.toList.drop 32).take 12).length = 12 ∧ eN (((cX11_sums.data.toList.drop 32).take 12).map UInt8.toNat) = 53236630976447647966659497755 := by decide +kernel
theorem dX11_sums_32 : decode cX11_sums 32 = .ok (.iload_n 1, 1) := dc_27 (bq_nm bk_X11_sums_32 (j := 0) rfl rfl)
theorem dX11_sums_33 : decode cX11_sums 33 = .ok (.iastore, 1) := dc_79 (bq_nm bk_X11_sums_32 (j := 1) rfl rfl)
theorem dX11_sums_34 : decode cX11_sums 34 = .ok (.aload_n 0, 1) := dc_42 (bq_nm bk_X11_sums_32 (j := 2) rfl rfl)
theorem dX11_sums_35 : decode cX11_sums 35 = .ok (.getfield 7, 3) := dc_180 (bq_nm bk_X11_sums_32 (j := 3) rfl rfl) (bq_nm bk_X11_sums_32 (j := 4) rfl rfl) (bq_nm bk_X11_sums_32 (j := 5) rfl rfl) rfl
theorem dX11_sums_38 : decode cX11_sums 38 = .ok (.bipush 6, 2) := dc_16 (bq_nm bk_X11_sums_32 (j := 6) rfl rfl) (bq_nm bk_X11_sums_32 (j := 7) rfl rfl) rfl
theorem dX11_sums_40 : decode cX11_sums 40 = .ok (.iload_n 2, 1) := dc_28 (bq_nm bk_X11_sums_32 (j := 8) rfl rfl)
theorem dX11_sums_41 : decode cX11_sums 41 = .ok (.iastore, 1) := dc_79 (bq_nm bk_X11_sums_32 (j := 9) rfl rfl)
theorem dX11_sums_42 : decode cX11_sums 42 = .ok (.iconst 1, 1) := dc_4 (bq_nm bk_X11_sums_32 (j := 10) rfl rfl)
theorem dX11_sums_43 : decode cX11_sums 43 = .ok (.ireturn, 1) := dc_172 (bq_nm bk_X11_sums_32 (j := 11) rfl rfl)
set_option maxRecDepth 20000 in
theorem bk_X11_owed_0 : ((cX11_owed.data.toList.drop 0).take 31).length = 31 ∧ eN (((cX11_owed.data.toList.drop 0).take 31).map UInt8.toNat) = 74235750308428002544006824515785772295140816359905366382204543235364946730 := by decide +kernel
theorem dX11_owed_0 : decode cX11_owed 0 = .ok (.aload_n 0, 1) := dc_42 (bq_nm bk_X11_owed_0 (j := 0) rfl rfl)
theorem dX11_owed_1 : decode cX11_owed 1 = .ok (.iconst 0, 1) := dc_3 (bq_nm bk_X11_owed_0 (j := 1) rfl rfl)
theorem dX11_owed_2 : decode cX11_owed 2 = .ok (.iload_n 1, 1) := dc_27 (bq_nm bk_X11_owed_0 (j := 2) rfl rfl)
theorem dX11_owed_3 : decode cX11_owed 3 = .ok (.invokevirtual 87, 3) := dc_182 (bq_nm bk_X11_owed_0 (j := 3) rfl rfl) (bq_nm bk_X11_owed_0 (j := 4) rfl rfl) (bq_nm bk_X11_owed_0 (j := 5) rfl rfl) rfl
theorem dX11_owed_6 : decode cX11_owed 6 = .ok (.ifCond .eq 10, 3) := dc_153 (bq_nm bk_X11_owed_0 (j := 6) rfl rfl) (bq_nm bk_X11_owed_0 (j := 7) rfl rfl) (bq_nm bk_X11_owed_0 (j := 8) rfl rfl) rfl
theorem dX11_owed_9 : decode cX11_owed 9 = .ok (.iload_n 2, 1) := dc_28 (bq_nm bk_X11_owed_0 (j := 9) rfl rfl)
theorem dX11_owed_10 : decode cX11_owed 10 = .ok (.invokestatic 93, 3) := dc_184 (bq_nm bk_X11_owed_0 (j := 10) rfl rfl) (bq_nm bk_X11_owed_0 (j := 11) rfl rfl) (bq_nm bk_X11_owed_0 (j := 12) rfl rfl) rfl
theorem dX11_owed_13 : decode cX11_owed 13 = .ok (.ifCond .ne 6, 3) := dc_154 (bq_nm bk_X11_owed_0 (j := 13) rfl rfl) (bq_nm bk_X11_owed_0 (j := 14) rfl rfl) (bq_nm bk_X11_owed_0 (j := 15) rfl rfl) rfl
theorem dX11_owed_16 : decode cX11_owed 16 = .ok (.ldc 233, 2) := dc_18 (bq_nm bk_X11_owed_0 (j := 16) rfl rfl) (bq_nm bk_X11_owed_0 (j := 17) rfl rfl)
theorem dX11_owed_18 : decode cX11_owed 18 = .ok (.ireturn, 1) := dc_172 (bq_nm bk_X11_owed_0 (j := 18) rfl rfl)
theorem dX11_owed_19 : decode cX11_owed 19 = .ok (.aload_n 0, 1) := dc_42 (bq_nm bk_X11_owed_0 (j := 19) rfl rfl)
theorem dX11_owed_20 : decode cX11_owed 20 = .ok (.invokevirtual 176, 3) := dc_182 (bq_nm bk_X11_owed_0 (j := 20) rfl rfl) (bq_nm bk_X11_owed_0 (j := 21) rfl rfl) (bq_nm bk_X11_owed_0 (j := 22) rfl rfl) rfl
theorem dX11_owed_23 : decode cX11_owed 23 = .ok (.iconst 0, 1) := dc_3 (bq_nm bk_X11_owed_0 (j := 23) rfl rfl)
theorem dX11_owed_24 : decode cX11_owed 24 = .ok (.istore_n 3, 1) := dc_62 (bq_nm bk_X11_owed_0 (j := 24) rfl rfl)
theorem dX11_owed_25 : decode cX11_owed 25 = .ok (.iconst 0, 1) := dc_3 (bq_nm bk_X11_owed_0 (j := 25) rfl rfl)
theorem dX11_owed_26 : decode cX11_owed 26 = .ok (.istore 4, 2) := dc_54 (bq_nm bk_X11_owed_0 (j := 26) rfl rfl) (bq_nm bk_X11_owed_0 (j := 27) rfl rfl)
theorem dX11_owed_28 : decode cX11_owed 28 = .ok (.iload 4, 2) := dc_21 (bq_nm bk_X11_owed_0 (j := 28) rfl rfl) (bq_nm bk_X11_owed_0 (j := 29) rfl rfl)
theorem dX11_owed_30 : decode cX11_owed 30 = .ok (.aload_n 0, 1) := dc_42 (bq_nm bk_X11_owed_0 (j := 30) rfl rfl)
set_option maxRecDepth 20000 in
theorem bk_X11_owed_31 : ((cX11_owed.data.toList.drop 31).take 32).length = 32 ∧ eN (((cX11_owed.data.toList.drop 31).take 32).map UInt8.toNat) = 2031905023456384271568333042747981616752226020840631512321269703028819558580 := by decide +kernel
theorem dX11_owed_31 : decode cX11_owed 31 = .ok (.getfield 7, 3) := dc_180 (bq_nm bk_X11_owed_31 (j := 0) rfl rfl) (bq_nm bk_X11_owed_31 (j := 1) rfl rfl) (bq_nm bk_X11_owed_31 (j := 2) rfl rfl) rfl
theorem dX11_owed_34 : decode cX11_owed 34 = .ok (.iconst 4, 1) := dc_7 (bq_nm bk_X11_owed_31 (j := 3) rfl rfl)
theorem dX11_owed_35 : decode cX11_owed 35 = .ok (.iaload, 1) := dc_46 (bq_nm bk_X11_owed_31 (j := 4) rfl rfl)
theorem dX11_owed_36 : decode cX11_owed 36 = .ok (.if_icmp .ge 86, 3) := dc_162 (bq_nm bk_X11_owed_31 (j := 5) rfl rfl) (bq_nm bk_X11_owed_31 (j := 6) rfl rfl) (bq_nm bk_X11_owed_31 (j := 7) rfl rfl) rfl
theorem dX11_owed_39 : decode cX11_owed 39 = .ok (.aload_n 0, 1) := dc_42 (bq_nm bk_X11_owed_31 (j := 8) rfl rfl)
theorem dX11_owed_40 : decode cX11_owed 40 = .ok (.iload 4, 2) := dc_21 (bq_nm bk_X11_owed_31 (j := 9) rfl rfl) (bq_nm bk_X11_owed_31 (j := 10) rfl rfl)
theorem dX11_owed_42 : decode cX11_owed 42 = .ok (.iconst 0, 1) := dc_3 (bq_nm bk_X11_owed_31 (j := 11) rfl rfl)
theorem dX11_owed_43 : decode cX11_owed 43 = .ok (.invokevirtual 149, 3) := dc_182 (bq_nm bk_X11_owed_31 (j := 12) rfl rfl) (bq_nm bk_X11_owed_31 (j := 13) rfl rfl) (bq_nm bk_X11_owed_31 (j := 14) rfl rfl) rfl
theorem dX11_owed_46 : decode cX11_owed 46 = .ok (.iload_n 2, 1) := dc_28 (bq_nm bk_X11_owed_31 (j := 15) rfl rfl)
theorem dX11_owed_47 : decode cX11_owed 47 = .ok (.if_icmp .gt 69, 3) := dc_163 (bq_nm bk_X11_owed_31 (j := 16) rfl rfl) (bq_nm bk_X11_owed_31 (j := 17) rfl rfl) (bq_nm bk_X11_owed_31 (j := 18) rfl rfl) rfl
theorem dX11_owed_50 : decode cX11_owed 50 = .ok (.iload_n 3, 1) := dc_29 (bq_nm bk_X11_owed_31 (j := 19) rfl rfl)
theorem dX11_owed_51 : decode cX11_owed 51 = .ok (.aload_n 0, 1) := dc_42 (bq_nm bk_X11_owed_31 (j := 20) rfl rfl)
theorem dX11_owed_52 : decode cX11_owed 52 = .ok (.getfield 36, 3) := dc_180 (bq_nm bk_X11_owed_31 (j := 21) rfl rfl) (bq_nm bk_X11_owed_31 (j := 22) rfl rfl) (bq_nm bk_X11_owed_31 (j := 23) rfl rfl) rfl
theorem dX11_owed_55 : decode cX11_owed 55 = .ok (.iload 4, 2) := dc_21 (bq_nm bk_X11_owed_31 (j := 24) rfl rfl) (bq_nm bk_X11_owed_31 (j := 25) rfl rfl)
theorem dX11_owed_57 : decode cX11_owed 57 = .ok (.iaload, 1) := dc_46 (bq_nm bk_X11_owed_31 (j := 26) rfl rfl)
theorem dX11_owed_58 : decode cX11_owed 58 = .ok (.iload_n 1, 1) := dc_27 (bq_nm bk_X11_owed_31 (j := 27) rfl rfl)
theorem dX11_owed_59 : decode cX11_owed 59 = .ok (.ishr, 1) := dc_122 (bq_nm bk_X11_owed_31 (j := 28) rfl rfl)
theorem dX11_owed_60 : decode cX11_owed 60 = .ok (.iconst 1, 1) := dc_4 (bq_nm bk_X11_owed_31 (j := 29) rfl rfl)
theorem dX11_owed_61 : decode cX11_owed 61 = .ok (.iand, 1) := dc_126 (bq_nm bk_X11_owed_31 (j := 30) rfl rfl)
theorem dX11_owed_62 : decode cX11_owed 62 = .ok (.iconst 1, 1) := dc_4 (bq_nm bk_X11_owed_31 (j := 31) rfl rfl)
set_option maxRecDepth 20000 in
theorem bk_X11_owed_63 : ((cX11_owed.data.toList.drop 63).take 32).length = 32 ∧ eN (((cX11_owed.data.toList.drop 63).take 32).map UInt8.toNat) = 1846562671182304654026770824975182684452040550661073960438498326387212157088 := by decide +kernel
theorem dX11_owed_63 : decode cX11_owed 63 = .ok (.if_icmp .ne 20, 3) := dc_160 (bq_nm bk_X11_owed_63 (j := 0) rfl rfl) (bq_nm bk_X11_owed_63 (j := 1) rfl rfl) (bq_nm bk_X11_owed_63 (j := 2) rfl rfl) rfl
theorem dX11_owed_66 : decode cX11_owed 66 = .ok (.aload_n 0, 1) := dc_42 (bq_nm bk_X11_owed_63 (j := 3) rfl rfl)
theorem dX11_owed_67 : decode cX11_owed 67 = .ok (.getfield 7, 3) := dc_180 (bq_nm bk_X11_owed_63 (j := 4) rfl rfl) (bq_nm bk_X11_owed_63 (j := 5) rfl rfl) (bq_nm bk_X11_owed_63 (j := 6) rfl rfl) rfl
theorem dX11_owed_70 : decode cX11_owed 70 = .ok (.iconst 5, 1) := dc_8 (bq_nm bk_X11_owed_63 (j := 7) rfl rfl)
theorem dX11_owed_71 : decode cX11_owed 71 = .ok (.iaload, 1) := dc_46 (bq_nm bk_X11_owed_63 (j := 8) rfl rfl)
theorem dX11_owed_72 : decode cX11_owed 72 = .ok (.aload_n 0, 1) := dc_42 (bq_nm bk_X11_owed_63 (j := 9) rfl rfl)
theorem dX11_owed_73 : decode cX11_owed 73 = .ok (.iload 4, 2) := dc_21 (bq_nm bk_X11_owed_63 (j := 10) rfl rfl) (bq_nm bk_X11_owed_63 (j := 11) rfl rfl)
theorem dX11_owed_75 : decode cX11_owed 75 = .ok (.iconst 1, 1) := dc_4 (bq_nm bk_X11_owed_63 (j := 12) rfl rfl)
theorem dX11_owed_76 : decode cX11_owed 76 = .ok (.invokevirtual 149, 3) := dc_182 (bq_nm bk_X11_owed_63 (j := 13) rfl rfl) (bq_nm bk_X11_owed_63 (j := 14) rfl rfl) (bq_nm bk_X11_owed_63 (j := 15) rfl rfl) rfl
theorem dX11_owed_79 : decode cX11_owed 79 = .ok (.imul, 1) := dc_104 (bq_nm bk_X11_owed_63 (j := 16) rfl rfl)
theorem dX11_owed_80 : decode cX11_owed 80 = .ok (.goto 4, 3) := dc_167 (bq_nm bk_X11_owed_63 (j := 17) rfl rfl) (bq_nm bk_X11_owed_63 (j := 18) rfl rfl) (bq_nm bk_X11_owed_63 (j := 19) rfl rfl) rfl
theorem dX11_owed_83 : decode cX11_owed 83 = .ok (.iconst 0, 1) := dc_3 (bq_nm bk_X11_owed_63 (j := 20) rfl rfl)
theorem dX11_owed_84 : decode cX11_owed 84 = .ok (.iadd, 1) := dc_96 (bq_nm bk_X11_owed_63 (j := 21) rfl rfl)
theorem dX11_owed_85 : decode cX11_owed 85 = .ok (.istore_n 3, 1) := dc_62 (bq_nm bk_X11_owed_63 (j := 22) rfl rfl)
theorem dX11_owed_86 : decode cX11_owed 86 = .ok (.iload_n 3, 1) := dc_29 (bq_nm bk_X11_owed_63 (j := 23) rfl rfl)
theorem dX11_owed_87 : decode cX11_owed 87 = .ok (.aload_n 0, 1) := dc_42 (bq_nm bk_X11_owed_63 (j := 24) rfl rfl)
theorem dX11_owed_88 : decode cX11_owed 88 = .ok (.getfield 45, 3) := dc_180 (bq_nm bk_X11_owed_63 (j := 25) rfl rfl) (bq_nm bk_X11_owed_63 (j := 26) rfl rfl) (bq_nm bk_X11_owed_63 (j := 27) rfl rfl) rfl
theorem dX11_owed_91 : decode cX11_owed 91 = .ok (.bipush 30, 2) := dc_16 (bq_nm bk_X11_owed_63 (j := 28) rfl rfl) (bq_nm bk_X11_owed_63 (j := 29) rfl rfl) rfl
theorem dX11_owed_93 : decode cX11_owed 93 = .ok (.iload 4, 2) := dc_21 (bq_nm bk_X11_owed_63 (j := 30) rfl rfl) (bq_nm bk_X11_owed_63 (j := 31) rfl rfl)
set_option maxRecDepth 20000 in
theorem bk_X11_owed_95 : ((cX11_owed.data.toList.drop 95).take 29).length = 29 ∧ eN (((cX11_owed.data.toList.drop 95).take 29).map UInt8.toNat) = 4640233171088789931229087528232218849105298364852472432570527727491944 := by decide +kernel
theorem dX11_owed_95 : decode cX11_owed 95 = .ok (.imul, 1) := dc_104 (bq_nm bk_X11_owed_95 (j := 0) rfl rfl)
theorem dX11_owed_96 : decode cX11_owed 96 = .ok (.iload_n 1, 1) := dc_27 (bq_nm bk_X11_owed_95 (j := 1) rfl rfl)
theorem dX11_owed_97 : decode cX11_owed 97 = .ok (.iadd, 1) := dc_96 (bq_nm bk_X11_owed_95 (j := 2) rfl rfl)
theorem dX11_owed_98 : decode cX11_owed 98 = .ok (.iaload, 1) := dc_46 (bq_nm bk_X11_owed_95 (j := 3) rfl rfl)
theorem dX11_owed_99 : decode cX11_owed 99 = .ok (.iconst 2, 1) := dc_5 (bq_nm bk_X11_owed_95 (j := 4) rfl rfl)
theorem dX11_owed_100 : decode cX11_owed 100 = .ok (.if_icmp .ne 13, 3) := dc_160 (bq_nm bk_X11_owed_95 (j := 5) rfl rfl) (bq_nm bk_X11_owed_95 (j := 6) rfl rfl) (bq_nm bk_X11_owed_95 (j := 7) rfl rfl) rfl
theorem dX11_owed_103 : decode cX11_owed 103 = .ok (.aload_n 0, 1) := dc_42 (bq_nm bk_X11_owed_95 (j := 8) rfl rfl)
theorem dX11_owed_104 : decode cX11_owed 104 = .ok (.getfield 7, 3) := dc_180 (bq_nm bk_X11_owed_95 (j := 9) rfl rfl) (bq_nm bk_X11_owed_95 (j := 10) rfl rfl) (bq_nm bk_X11_owed_95 (j := 11) rfl rfl) rfl
theorem dX11_owed_107 : decode cX11_owed 107 = .ok (.bipush 6, 2) := dc_16 (bq_nm bk_X11_owed_95 (j := 12) rfl rfl) (bq_nm bk_X11_owed_95 (j := 13) rfl rfl) rfl
theorem dX11_owed_109 : decode cX11_owed 109 = .ok (.iaload, 1) := dc_46 (bq_nm bk_X11_owed_95 (j := 14) rfl rfl)
theorem dX11_owed_110 : decode cX11_owed 110 = .ok (.goto 4, 3) := dc_167 (bq_nm bk_X11_owed_95 (j := 15) rfl rfl) (bq_nm bk_X11_owed_95 (j := 16) rfl rfl) (bq_nm bk_X11_owed_95 (j := 17) rfl rfl) rfl
theorem dX11_owed_113 : decode cX11_owed 113 = .ok (.iconst 0, 1) := dc_3 (bq_nm bk_X11_owed_95 (j := 18) rfl rfl)
theorem dX11_owed_114 : decode cX11_owed 114 = .ok (.isub, 1) := dc_100 (bq_nm bk_X11_owed_95 (j := 19) rfl rfl)
theorem dX11_owed_115 : decode cX11_owed 115 = .ok (.istore_n 3, 1) := dc_62 (bq_nm bk_X11_owed_95 (j := 20) rfl rfl)
theorem dX11_owed_116 : decode cX11_owed 116 = .ok (.iinc 4 1, 3) := dc_132 (bq_nm bk_X11_owed_95 (j := 21) rfl rfl) (bq_nm bk_X11_owed_95 (j := 22) rfl rfl) (bq_nm bk_X11_owed_95 (j := 23) rfl rfl) rfl
theorem dX11_owed_119 : decode cX11_owed 119 = .ok (.goto (-91), 3) := dc_167 (bq_nm bk_X11_owed_95 (j := 24) rfl rfl) (bq_nm bk_X11_owed_95 (j := 25) rfl rfl) (bq_nm bk_X11_owed_95 (j := 26) rfl rfl) rfl
theorem dX11_owed_122 : decode cX11_owed 122 = .ok (.iload_n 3, 1) := dc_29 (bq_nm bk_X11_owed_95 (j := 27) rfl rfl)
theorem dX11_owed_123 : decode cX11_owed 123 = .ok (.ireturn, 1) := dc_172 (bq_nm bk_X11_owed_95 (j := 28) rfl rfl)
set_option maxRecDepth 20000 in
theorem bk_X11_divisor_0 : ((cX11_divisor.data.toList.drop 0).take 31).length = 31 ∧ eN (((cX11_divisor.data.toList.drop 0).take 31).map UInt8.toNat) = 415206661442179372423585086110165893262687178142541830204455386902058776350 := by decide +kernel
theorem dX11_divisor_0 : decode cX11_divisor 0 = .ok (.lload_n 0, 1) := dc_30 (bq_nm bk_X11_divisor_0 (j := 0) rfl rfl)
theorem dX11_divisor_1 : decode cX11_divisor 1 = .ok (.lstore 4, 2) := dc_55 (bq_nm bk_X11_divisor_0 (j := 1) rfl rfl) (bq_nm bk_X11_divisor_0 (j := 2) rfl rfl)
theorem dX11_divisor_3 : decode cX11_divisor 3 = .ok (.lload_n 2, 1) := dc_32 (bq_nm bk_X11_divisor_0 (j := 3) rfl rfl)
theorem dX11_divisor_4 : decode cX11_divisor 4 = .ok (.lstore 6, 2) := dc_55 (bq_nm bk_X11_divisor_0 (j := 4) rfl rfl) (bq_nm bk_X11_divisor_0 (j := 5) rfl rfl)
theorem dX11_divisor_6 : decode cX11_divisor 6 = .ok (.lload 6, 2) := dc_22 (bq_nm bk_X11_divisor_0 (j := 6) rfl rfl) (bq_nm bk_X11_divisor_0 (j := 7) rfl rfl)
theorem dX11_divisor_8 : decode cX11_divisor 8 = .ok (.lconst 0, 1) := dc_9 (bq_nm bk_X11_divisor_0 (j := 8) rfl rfl)
theorem dX11_divisor_9 : decode cX11_divisor 9 = .ok (.lcmp, 1) := dc_148 (bq_nm bk_X11_divisor_0 (j := 9) rfl rfl)
theorem dX11_divisor_10 : decode cX11_divisor 10 = .ok (.ifCond .eq 21, 3) := dc_153 (bq_nm bk_X11_divisor_0 (j := 10) rfl rfl) (bq_nm bk_X11_divisor_0 (j := 11) rfl rfl) (bq_nm bk_X11_divisor_0 (j := 12) rfl rfl) rfl
theorem dX11_divisor_13 : decode cX11_divisor 13 = .ok (.lload 4, 2) := dc_22 (bq_nm bk_X11_divisor_0 (j := 13) rfl rfl) (bq_nm bk_X11_divisor_0 (j := 14) rfl rfl)
theorem dX11_divisor_15 : decode cX11_divisor 15 = .ok (.lload 6, 2) := dc_22 (bq_nm bk_X11_divisor_0 (j := 15) rfl rfl) (bq_nm bk_X11_divisor_0 (j := 16) rfl rfl)
theorem dX11_divisor_17 : decode cX11_divisor 17 = .ok (.lrem, 1) := dc_113 (bq_nm bk_X11_divisor_0 (j := 17) rfl rfl)
theorem dX11_divisor_18 : decode cX11_divisor 18 = .ok (.lstore 8, 2) := dc_55 (bq_nm bk_X11_divisor_0 (j := 18) rfl rfl) (bq_nm bk_X11_divisor_0 (j := 19) rfl rfl)
theorem dX11_divisor_20 : decode cX11_divisor 20 = .ok (.lload 6, 2) := dc_22 (bq_nm bk_X11_divisor_0 (j := 20) rfl rfl) (bq_nm bk_X11_divisor_0 (j := 21) rfl rfl)
theorem dX11_divisor_22 : decode cX11_divisor 22 = .ok (.lstore 4, 2) := dc_55 (bq_nm bk_X11_divisor_0 (j := 22) rfl rfl) (bq_nm bk_X11_divisor_0 (j := 23) rfl rfl)
theorem dX11_divisor_24 : decode cX11_divisor 24 = .ok (.lload 8, 2) := dc_22 (bq_nm bk_X11_divisor_0 (j := 24) rfl rfl) (bq_nm bk_X11_divisor_0 (j := 25) rfl rfl)
theorem dX11_divisor_26 : decode cX11_divisor 26 = .ok (.lstore 6, 2) := dc_55 (bq_nm bk_X11_divisor_0 (j := 26) rfl rfl) (bq_nm bk_X11_divisor_0 (j := 27) rfl rfl)
theorem dX11_divisor_28 : decode cX11_divisor 28 = .ok (.goto (-22), 3) := dc_167 (bq_nm bk_X11_divisor_0 (j := 28) rfl rfl) (bq_nm bk_X11_divisor_0 (j := 29) rfl rfl) (bq_nm bk_X11_divisor_0 (j := 30) rfl rfl) rfl
set_option maxRecDepth 20000 in
theorem bk_X11_divisor_31 : ((cX11_divisor.data.toList.drop 31).take 3).length = 3 ∧ eN (((cX11_divisor.data.toList.drop 31).take 3).map UInt8.toNat) = 11338774 := by decide +kernel
theorem dX11_divisor_31 : decode cX11_divisor 31 = .ok (.lload 4, 2) := dc_22 (bq_nm bk_X11_divisor_31 (j := 0) rfl rfl) (bq_nm bk_X11_divisor_31 (j := 1) rfl rfl)
theorem dX11_divisor_33 : decode cX11_divisor 33 = .ok (.lreturn, 1) := dc_173 (bq_nm bk_X11_divisor_31 (j := 2) rfl rfl)
set_option maxRecDepth 20000 in
theorem bk_X11_told_0 : ((cX11_told.data.toList.drop 0).take 31).length = 31 ∧ eN (((cX11_told.data.toList.drop 0).take 31).map UInt8.toNat) = 58602243026192937801133050488819141076793048864153853533452737021283141919 := by decide +kernel
theorem dX11_told_0 : decode cX11_told 0 = .ok (.lload_n 1, 1) := dc_31 (bq_nm bk_X11_told_0 (j := 0) rfl rfl)
theorem dX11_told_1 : decode cX11_told 1 = .ok (.lconst 0, 1) := dc_9 (bq_nm bk_X11_told_0 (j := 1) rfl rfl)
theorem dX11_told_2 : decode cX11_told 2 = .ok (.lcmp, 1) := dc_148 (bq_nm bk_X11_told_0 (j := 2) rfl rfl)
theorem dX11_told_3 : decode cX11_told 3 = .ok (.ifCond .eq 9, 3) := dc_153 (bq_nm bk_X11_told_0 (j := 3) rfl rfl) (bq_nm bk_X11_told_0 (j := 4) rfl rfl) (bq_nm bk_X11_told_0 (j := 5) rfl rfl) rfl
theorem dX11_told_6 : decode cX11_told 6 = .ok (.lload_n 3, 1) := dc_33 (bq_nm bk_X11_told_0 (j := 6) rfl rfl)
theorem dX11_told_7 : decode cX11_told 7 = .ok (.lconst 0, 1) := dc_9 (bq_nm bk_X11_told_0 (j := 7) rfl rfl)
theorem dX11_told_8 : decode cX11_told 8 = .ok (.lcmp, 1) := dc_148 (bq_nm bk_X11_told_0 (j := 8) rfl rfl)
theorem dX11_told_9 : decode cX11_told 9 = .ok (.ifCond .ne 5, 3) := dc_154 (bq_nm bk_X11_told_0 (j := 9) rfl rfl) (bq_nm bk_X11_told_0 (j := 10) rfl rfl) (bq_nm bk_X11_told_0 (j := 11) rfl rfl) rfl
theorem dX11_told_12 : decode cX11_told 12 = .ok (.iconst 0, 1) := dc_3 (bq_nm bk_X11_told_0 (j := 12) rfl rfl)
theorem dX11_told_13 : decode cX11_told 13 = .ok (.ireturn, 1) := dc_172 (bq_nm bk_X11_told_0 (j := 13) rfl rfl)
theorem dX11_told_14 : decode cX11_told 14 = .ok (.lload_n 1, 1) := dc_31 (bq_nm bk_X11_told_0 (j := 14) rfl rfl)
theorem dX11_told_15 : decode cX11_told 15 = .ok (.lload_n 3, 1) := dc_33 (bq_nm bk_X11_told_0 (j := 15) rfl rfl)
theorem dX11_told_16 : decode cX11_told 16 = .ok (.invokestatic 234, 3) := dc_184 (bq_nm bk_X11_told_0 (j := 16) rfl rfl) (bq_nm bk_X11_told_0 (j := 17) rfl rfl) (bq_nm bk_X11_told_0 (j := 18) rfl rfl) rfl
theorem dX11_told_19 : decode cX11_told 19 = .ok (.lstore 5, 2) := dc_55 (bq_nm bk_X11_told_0 (j := 19) rfl rfl) (bq_nm bk_X11_told_0 (j := 20) rfl rfl)
theorem dX11_told_21 : decode cX11_told 21 = .ok (.aload_n 0, 1) := dc_42 (bq_nm bk_X11_told_0 (j := 21) rfl rfl)
theorem dX11_told_22 : decode cX11_told 22 = .ok (.lload_n 1, 1) := dc_31 (bq_nm bk_X11_told_0 (j := 22) rfl rfl)
theorem dX11_told_23 : decode cX11_told 23 = .ok (.lload 5, 2) := dc_22 (bq_nm bk_X11_told_0 (j := 23) rfl rfl) (bq_nm bk_X11_told_0 (j := 24) rfl rfl)
theorem dX11_told_25 : decode cX11_told 25 = .ok (.ldiv, 1) := dc_109 (bq_nm bk_X11_told_0 (j := 25) rfl rfl)
theorem dX11_told_26 : decode cX11_told 26 = .ok (.putfield 238, 3) := dc_181 (bq_nm bk_X11_told_0 (j := 26) rfl rfl) (bq_nm bk_X11_told_0 (j := 27) rfl rfl) (bq_nm bk_X11_told_0 (j := 28) rfl rfl) rfl
theorem dX11_told_29 : decode cX11_told 29 = .ok (.aload_n 0, 1) := dc_42 (bq_nm bk_X11_told_0 (j := 29) rfl rfl)
theorem dX11_told_30 : decode cX11_told 30 = .ok (.lload_n 3, 1) := dc_33 (bq_nm bk_X11_told_0 (j := 30) rfl rfl)
set_option maxRecDepth 20000 in
theorem bk_X11_told_31 : ((cX11_told.data.toList.drop 31).take 8).length = 8 ∧ eN (((cX11_told.data.toList.drop 31).take 8).map UInt8.toNat) = 12395101346706818326 := by decide +kernel
theorem dX11_told_31 : decode cX11_told 31 = .ok (.lload 5, 2) := dc_22 (bq_nm bk_X11_told_31 (j := 0) rfl rfl) (bq_nm bk_X11_told_31 (j := 1) rfl rfl)
theorem dX11_told_33 : decode cX11_told 33 = .ok (.ldiv, 1) := dc_109 (bq_nm bk_X11_told_31 (j := 2) rfl rfl)
theorem dX11_told_34 : decode cX11_told 34 = .ok (.putfield 63, 3) := dc_181 (bq_nm bk_X11_told_31 (j := 3) rfl rfl) (bq_nm bk_X11_told_31 (j := 4) rfl rfl) (bq_nm bk_X11_told_31 (j := 5) rfl rfl) rfl
theorem dX11_told_37 : decode cX11_told 37 = .ok (.iconst 1, 1) := dc_4 (bq_nm bk_X11_told_31 (j := 6) rfl rfl)
theorem dX11_told_38 : decode cX11_told 38 = .ok (.ireturn, 1) := dc_172 (bq_nm bk_X11_told_31 (j := 7) rfl rfl)
set_option maxRecDepth 20000 in
theorem bk_X11_ways_0 : ((cX11_ways.data.toList.drop 0).take 31).length = 31 ∧ eN (((cX11_ways.data.toList.drop 0).take 31).map UInt8.toNat) = 186439462650782475578324923456808279665751262722004482873265812741581478683 := by decide +kernel
theorem dX11_ways_0 : decode cX11_ways 0 = .ok (.iload_n 1, 1) := dc_27 (bq_nm bk_X11_ways_0 (j := 0) rfl rfl)
theorem dX11_ways_1 : decode cX11_ways 1 = .ok (.ifCond .lt 8, 3) := dc_155 (bq_nm bk_X11_ways_0 (j := 1) rfl rfl) (bq_nm bk_X11_ways_0 (j := 2) rfl rfl) (bq_nm bk_X11_ways_0 (j := 3) rfl rfl) rfl
theorem dX11_ways_4 : decode cX11_ways 4 = .ok (.iload_n 1, 1) := dc_27 (bq_nm bk_X11_ways_0 (j := 4) rfl rfl)
theorem dX11_ways_5 : decode cX11_ways 5 = .ok (.iload_n 0, 1) := dc_26 (bq_nm bk_X11_ways_0 (j := 5) rfl rfl)
theorem dX11_ways_6 : decode cX11_ways 6 = .ok (.if_icmp .le 5, 3) := dc_164 (bq_nm bk_X11_ways_0 (j := 6) rfl rfl) (bq_nm bk_X11_ways_0 (j := 7) rfl rfl) (bq_nm bk_X11_ways_0 (j := 8) rfl rfl) rfl
theorem dX11_ways_9 : decode cX11_ways 9 = .ok (.lconst 0, 1) := dc_9 (bq_nm bk_X11_ways_0 (j := 9) rfl rfl)
theorem dX11_ways_10 : decode cX11_ways 10 = .ok (.lreturn, 1) := dc_173 (bq_nm bk_X11_ways_0 (j := 10) rfl rfl)
theorem dX11_ways_11 : decode cX11_ways 11 = .ok (.lconst 1, 1) := dc_10 (bq_nm bk_X11_ways_0 (j := 11) rfl rfl)
theorem dX11_ways_12 : decode cX11_ways 12 = .ok (.lstore_n 2, 1) := dc_65 (bq_nm bk_X11_ways_0 (j := 12) rfl rfl)
theorem dX11_ways_13 : decode cX11_ways 13 = .ok (.iconst 1, 1) := dc_4 (bq_nm bk_X11_ways_0 (j := 13) rfl rfl)
theorem dX11_ways_14 : decode cX11_ways 14 = .ok (.istore 4, 2) := dc_54 (bq_nm bk_X11_ways_0 (j := 14) rfl rfl) (bq_nm bk_X11_ways_0 (j := 15) rfl rfl)
theorem dX11_ways_16 : decode cX11_ways 16 = .ok (.iload 4, 2) := dc_21 (bq_nm bk_X11_ways_0 (j := 16) rfl rfl) (bq_nm bk_X11_ways_0 (j := 17) rfl rfl)
theorem dX11_ways_18 : decode cX11_ways 18 = .ok (.iload_n 1, 1) := dc_27 (bq_nm bk_X11_ways_0 (j := 18) rfl rfl)
theorem dX11_ways_19 : decode cX11_ways 19 = .ok (.if_icmp .gt 23, 3) := dc_163 (bq_nm bk_X11_ways_0 (j := 19) rfl rfl) (bq_nm bk_X11_ways_0 (j := 20) rfl rfl) (bq_nm bk_X11_ways_0 (j := 21) rfl rfl) rfl
theorem dX11_ways_22 : decode cX11_ways 22 = .ok (.lload_n 2, 1) := dc_32 (bq_nm bk_X11_ways_0 (j := 22) rfl rfl)
theorem dX11_ways_23 : decode cX11_ways 23 = .ok (.iload_n 0, 1) := dc_26 (bq_nm bk_X11_ways_0 (j := 23) rfl rfl)
theorem dX11_ways_24 : decode cX11_ways 24 = .ok (.iload_n 1, 1) := dc_27 (bq_nm bk_X11_ways_0 (j := 24) rfl rfl)
theorem dX11_ways_25 : decode cX11_ways 25 = .ok (.isub, 1) := dc_100 (bq_nm bk_X11_ways_0 (j := 25) rfl rfl)
theorem dX11_ways_26 : decode cX11_ways 26 = .ok (.iload 4, 2) := dc_21 (bq_nm bk_X11_ways_0 (j := 26) rfl rfl) (bq_nm bk_X11_ways_0 (j := 27) rfl rfl)
theorem dX11_ways_28 : decode cX11_ways 28 = .ok (.iadd, 1) := dc_96 (bq_nm bk_X11_ways_0 (j := 28) rfl rfl)
theorem dX11_ways_29 : decode cX11_ways 29 = .ok (.i2l, 1) := dc_133 (bq_nm bk_X11_ways_0 (j := 29) rfl rfl)
theorem dX11_ways_30 : decode cX11_ways 30 = .ok (.lmul, 1) := dc_105 (bq_nm bk_X11_ways_0 (j := 30) rfl rfl)
set_option maxRecDepth 20000 in
theorem bk_X11_ways_31 : ((cX11_ways.data.toList.drop 31).take 13).length = 13 ∧ eN (((cX11_ways.data.toList.drop 31).take 13).map UInt8.toNat) = 13716658522282116375459517498389 := by decide +kernel
theorem dX11_ways_31 : decode cX11_ways 31 = .ok (.iload 4, 2) := dc_21 (bq_nm bk_X11_ways_31 (j := 0) rfl rfl) (bq_nm bk_X11_ways_31 (j := 1) rfl rfl)
theorem dX11_ways_33 : decode cX11_ways 33 = .ok (.i2l, 1) := dc_133 (bq_nm bk_X11_ways_31 (j := 2) rfl rfl)
theorem dX11_ways_34 : decode cX11_ways 34 = .ok (.ldiv, 1) := dc_109 (bq_nm bk_X11_ways_31 (j := 3) rfl rfl)
theorem dX11_ways_35 : decode cX11_ways 35 = .ok (.lstore_n 2, 1) := dc_65 (bq_nm bk_X11_ways_31 (j := 4) rfl rfl)
theorem dX11_ways_36 : decode cX11_ways 36 = .ok (.iinc 4 1, 3) := dc_132 (bq_nm bk_X11_ways_31 (j := 5) rfl rfl) (bq_nm bk_X11_ways_31 (j := 6) rfl rfl) (bq_nm bk_X11_ways_31 (j := 7) rfl rfl) rfl
theorem dX11_ways_39 : decode cX11_ways 39 = .ok (.goto (-23), 3) := dc_167 (bq_nm bk_X11_ways_31 (j := 8) rfl rfl) (bq_nm bk_X11_ways_31 (j := 9) rfl rfl) (bq_nm bk_X11_ways_31 (j := 10) rfl rfl) rfl
theorem dX11_ways_42 : decode cX11_ways 42 = .ok (.lload_n 2, 1) := dc_32 (bq_nm bk_X11_ways_31 (j := 11) rfl rfl)
theorem dX11_ways_43 : decode cX11_ways 43 = .ok (.lreturn, 1) := dc_173 (bq_nm bk_X11_ways_31 (j := 12) rfl rfl)
set_option maxRecDepth 20000 in
theorem bk_X11_chance_0 : ((cX11_chance.data.toList.drop 0).take 31).length = 31 ∧ eN (((cX11_chance.data.toList.drop 0).take 31).map UInt8.toNat) = 118383727987995751490420501408469328855940636942182219462204595291434878235 := by decide +kernel
theorem dX11_chance_0 : decode cX11_chance 0 = .ok (.iload_n 1, 1) := dc_27 (bq_nm bk_X11_chance_0 (j := 0) rfl rfl)
theorem dX11_chance_1 : decode cX11_chance 1 = .ok (.i2l, 1) := dc_133 (bq_nm bk_X11_chance_0 (j := 1) rfl rfl)
theorem dX11_chance_2 : decode cX11_chance 2 = .ok (.lconst 0, 1) := dc_9 (bq_nm bk_X11_chance_0 (j := 2) rfl rfl)
theorem dX11_chance_3 : decode cX11_chance 3 = .ok (.ldc2_w 241, 3) := dc_20 (bq_nm bk_X11_chance_0 (j := 3) rfl rfl) (bq_nm bk_X11_chance_0 (j := 4) rfl rfl) (bq_nm bk_X11_chance_0 (j := 5) rfl rfl) rfl
theorem dX11_chance_6 : decode cX11_chance 6 = .ok (.invokestatic 67, 3) := dc_184 (bq_nm bk_X11_chance_0 (j := 6) rfl rfl) (bq_nm bk_X11_chance_0 (j := 7) rfl rfl) (bq_nm bk_X11_chance_0 (j := 8) rfl rfl) rfl
theorem dX11_chance_9 : decode cX11_chance 9 = .ok (.ifCond .eq 38, 3) := dc_153 (bq_nm bk_X11_chance_0 (j := 9) rfl rfl) (bq_nm bk_X11_chance_0 (j := 10) rfl rfl) (bq_nm bk_X11_chance_0 (j := 11) rfl rfl) rfl
theorem dX11_chance_12 : decode cX11_chance 12 = .ok (.iload_n 2, 1) := dc_28 (bq_nm bk_X11_chance_0 (j := 12) rfl rfl)
theorem dX11_chance_13 : decode cX11_chance 13 = .ok (.i2l, 1) := dc_133 (bq_nm bk_X11_chance_0 (j := 13) rfl rfl)
theorem dX11_chance_14 : decode cX11_chance 14 = .ok (.lconst 0, 1) := dc_9 (bq_nm bk_X11_chance_0 (j := 14) rfl rfl)
theorem dX11_chance_15 : decode cX11_chance 15 = .ok (.iload_n 1, 1) := dc_27 (bq_nm bk_X11_chance_0 (j := 15) rfl rfl)
theorem dX11_chance_16 : decode cX11_chance 16 = .ok (.i2l, 1) := dc_133 (bq_nm bk_X11_chance_0 (j := 16) rfl rfl)
theorem dX11_chance_17 : decode cX11_chance 17 = .ok (.invokestatic 67, 3) := dc_184 (bq_nm bk_X11_chance_0 (j := 17) rfl rfl) (bq_nm bk_X11_chance_0 (j := 18) rfl rfl) (bq_nm bk_X11_chance_0 (j := 19) rfl rfl) rfl
theorem dX11_chance_20 : decode cX11_chance 20 = .ok (.ifCond .eq 27, 3) := dc_153 (bq_nm bk_X11_chance_0 (j := 20) rfl rfl) (bq_nm bk_X11_chance_0 (j := 21) rfl rfl) (bq_nm bk_X11_chance_0 (j := 22) rfl rfl) rfl
theorem dX11_chance_23 : decode cX11_chance 23 = .ok (.iload_n 3, 1) := dc_29 (bq_nm bk_X11_chance_0 (j := 23) rfl rfl)
theorem dX11_chance_24 : decode cX11_chance 24 = .ok (.i2l, 1) := dc_133 (bq_nm bk_X11_chance_0 (j := 24) rfl rfl)
theorem dX11_chance_25 : decode cX11_chance 25 = .ok (.lconst 0, 1) := dc_9 (bq_nm bk_X11_chance_0 (j := 25) rfl rfl)
theorem dX11_chance_26 : decode cX11_chance 26 = .ok (.iload_n 1, 1) := dc_27 (bq_nm bk_X11_chance_0 (j := 26) rfl rfl)
theorem dX11_chance_27 : decode cX11_chance 27 = .ok (.i2l, 1) := dc_133 (bq_nm bk_X11_chance_0 (j := 27) rfl rfl)
theorem dX11_chance_28 : decode cX11_chance 28 = .ok (.invokestatic 67, 3) := dc_184 (bq_nm bk_X11_chance_0 (j := 28) rfl rfl) (bq_nm bk_X11_chance_0 (j := 29) rfl rfl) (bq_nm bk_X11_chance_0 (j := 30) rfl rfl) rfl
set_option maxRecDepth 20000 in
theorem bk_X11_chance_31 : ((cX11_chance.data.toList.drop 31).take 32).length = 32 ∧ eN (((cX11_chance.data.toList.drop 31).take 32).map UInt8.toNat) = 14022824073320074777074688105036947823087955829220604501998159699229312811161 := by decide +kernel
theorem dX11_chance_31 : decode cX11_chance 31 = .ok (.ifCond .eq 16, 3) := dc_153 (bq_nm bk_X11_chance_31 (j := 0) rfl rfl) (bq_nm bk_X11_chance_31 (j := 1) rfl rfl) (bq_nm bk_X11_chance_31 (j := 2) rfl rfl) rfl
theorem dX11_chance_34 : decode cX11_chance 34 = .ok (.iload 4, 2) := dc_21 (bq_nm bk_X11_chance_31 (j := 3) rfl rfl) (bq_nm bk_X11_chance_31 (j := 4) rfl rfl)
theorem dX11_chance_36 : decode cX11_chance 36 = .ok (.i2l, 1) := dc_133 (bq_nm bk_X11_chance_31 (j := 5) rfl rfl)
theorem dX11_chance_37 : decode cX11_chance 37 = .ok (.lconst 0, 1) := dc_9 (bq_nm bk_X11_chance_31 (j := 6) rfl rfl)
theorem dX11_chance_38 : decode cX11_chance 38 = .ok (.ldc2_w 241, 3) := dc_20 (bq_nm bk_X11_chance_31 (j := 7) rfl rfl) (bq_nm bk_X11_chance_31 (j := 8) rfl rfl) (bq_nm bk_X11_chance_31 (j := 9) rfl rfl) rfl
theorem dX11_chance_41 : decode cX11_chance 41 = .ok (.invokestatic 67, 3) := dc_184 (bq_nm bk_X11_chance_31 (j := 10) rfl rfl) (bq_nm bk_X11_chance_31 (j := 11) rfl rfl) (bq_nm bk_X11_chance_31 (j := 12) rfl rfl) rfl
theorem dX11_chance_44 : decode cX11_chance 44 = .ok (.ifCond .ne 6, 3) := dc_154 (bq_nm bk_X11_chance_31 (j := 13) rfl rfl) (bq_nm bk_X11_chance_31 (j := 14) rfl rfl) (bq_nm bk_X11_chance_31 (j := 15) rfl rfl) rfl
theorem dX11_chance_47 : decode cX11_chance 47 = .ok (.bipush (-2), 2) := dc_16 (bq_nm bk_X11_chance_31 (j := 16) rfl rfl) (bq_nm bk_X11_chance_31 (j := 17) rfl rfl) rfl
theorem dX11_chance_49 : decode cX11_chance 49 = .ok (.ireturn, 1) := dc_172 (bq_nm bk_X11_chance_31 (j := 18) rfl rfl)
theorem dX11_chance_50 : decode cX11_chance 50 = .ok (.lconst 0, 1) := dc_9 (bq_nm bk_X11_chance_31 (j := 19) rfl rfl)
theorem dX11_chance_51 : decode cX11_chance 51 = .ok (.lstore 5, 2) := dc_55 (bq_nm bk_X11_chance_31 (j := 20) rfl rfl) (bq_nm bk_X11_chance_31 (j := 21) rfl rfl)
theorem dX11_chance_53 : decode cX11_chance 53 = .ok (.iload 4, 2) := dc_21 (bq_nm bk_X11_chance_31 (j := 22) rfl rfl) (bq_nm bk_X11_chance_31 (j := 23) rfl rfl)
theorem dX11_chance_55 : decode cX11_chance 55 = .ok (.istore 7, 2) := dc_54 (bq_nm bk_X11_chance_31 (j := 24) rfl rfl) (bq_nm bk_X11_chance_31 (j := 25) rfl rfl)
theorem dX11_chance_57 : decode cX11_chance 57 = .ok (.iload 7, 2) := dc_21 (bq_nm bk_X11_chance_31 (j := 26) rfl rfl) (bq_nm bk_X11_chance_31 (j := 27) rfl rfl)
theorem dX11_chance_59 : decode cX11_chance 59 = .ok (.iload_n 3, 1) := dc_29 (bq_nm bk_X11_chance_31 (j := 28) rfl rfl)
theorem dX11_chance_60 : decode cX11_chance 60 = .ok (.if_icmp .gt 31, 3) := dc_163 (bq_nm bk_X11_chance_31 (j := 29) rfl rfl) (bq_nm bk_X11_chance_31 (j := 30) rfl rfl) (bq_nm bk_X11_chance_31 (j := 31) rfl rfl) rfl
set_option maxRecDepth 20000 in
theorem bk_X11_chance_63 : ((cX11_chance.data.toList.drop 63).take 32).length = 32 ∧ eN (((cX11_chance.data.toList.drop 63).take 32).map UInt8.toNat) = 12221434141609908726527235172713946732601561019166963753183023605787809023254 := by decide +kernel
theorem dX11_chance_63 : decode cX11_chance 63 = .ok (.lload 5, 2) := dc_22 (bq_nm bk_X11_chance_63 (j := 0) rfl rfl) (bq_nm bk_X11_chance_63 (j := 1) rfl rfl)
theorem dX11_chance_65 : decode cX11_chance 65 = .ok (.iload_n 2, 1) := dc_28 (bq_nm bk_X11_chance_63 (j := 2) rfl rfl)
theorem dX11_chance_66 : decode cX11_chance 66 = .ok (.iload 7, 2) := dc_21 (bq_nm bk_X11_chance_63 (j := 3) rfl rfl) (bq_nm bk_X11_chance_63 (j := 4) rfl rfl)
theorem dX11_chance_68 : decode cX11_chance 68 = .ok (.invokestatic 243, 3) := dc_184 (bq_nm bk_X11_chance_63 (j := 5) rfl rfl) (bq_nm bk_X11_chance_63 (j := 6) rfl rfl) (bq_nm bk_X11_chance_63 (j := 7) rfl rfl) rfl
theorem dX11_chance_71 : decode cX11_chance 71 = .ok (.iload_n 1, 1) := dc_27 (bq_nm bk_X11_chance_63 (j := 8) rfl rfl)
theorem dX11_chance_72 : decode cX11_chance 72 = .ok (.iload_n 2, 1) := dc_28 (bq_nm bk_X11_chance_63 (j := 9) rfl rfl)
theorem dX11_chance_73 : decode cX11_chance 73 = .ok (.isub, 1) := dc_100 (bq_nm bk_X11_chance_63 (j := 10) rfl rfl)
theorem dX11_chance_74 : decode cX11_chance 74 = .ok (.iload_n 3, 1) := dc_29 (bq_nm bk_X11_chance_63 (j := 11) rfl rfl)
theorem dX11_chance_75 : decode cX11_chance 75 = .ok (.iload 7, 2) := dc_21 (bq_nm bk_X11_chance_63 (j := 12) rfl rfl) (bq_nm bk_X11_chance_63 (j := 13) rfl rfl)
theorem dX11_chance_77 : decode cX11_chance 77 = .ok (.isub, 1) := dc_100 (bq_nm bk_X11_chance_63 (j := 14) rfl rfl)
theorem dX11_chance_78 : decode cX11_chance 78 = .ok (.invokestatic 243, 3) := dc_184 (bq_nm bk_X11_chance_63 (j := 15) rfl rfl) (bq_nm bk_X11_chance_63 (j := 16) rfl rfl) (bq_nm bk_X11_chance_63 (j := 17) rfl rfl) rfl
theorem dX11_chance_81 : decode cX11_chance 81 = .ok (.lmul, 1) := dc_105 (bq_nm bk_X11_chance_63 (j := 18) rfl rfl)
theorem dX11_chance_82 : decode cX11_chance 82 = .ok (.ladd, 1) := dc_97 (bq_nm bk_X11_chance_63 (j := 19) rfl rfl)
theorem dX11_chance_83 : decode cX11_chance 83 = .ok (.lstore 5, 2) := dc_55 (bq_nm bk_X11_chance_63 (j := 20) rfl rfl) (bq_nm bk_X11_chance_63 (j := 21) rfl rfl)
theorem dX11_chance_85 : decode cX11_chance 85 = .ok (.iinc 7 1, 3) := dc_132 (bq_nm bk_X11_chance_63 (j := 22) rfl rfl) (bq_nm bk_X11_chance_63 (j := 23) rfl rfl) (bq_nm bk_X11_chance_63 (j := 24) rfl rfl) rfl
theorem dX11_chance_88 : decode cX11_chance 88 = .ok (.goto (-31), 3) := dc_167 (bq_nm bk_X11_chance_63 (j := 25) rfl rfl) (bq_nm bk_X11_chance_63 (j := 26) rfl rfl) (bq_nm bk_X11_chance_63 (j := 27) rfl rfl) rfl
theorem dX11_chance_91 : decode cX11_chance 91 = .ok (.aload_n 0, 1) := dc_42 (bq_nm bk_X11_chance_63 (j := 28) rfl rfl)
theorem dX11_chance_92 : decode cX11_chance 92 = .ok (.lload 5, 2) := dc_22 (bq_nm bk_X11_chance_63 (j := 29) rfl rfl) (bq_nm bk_X11_chance_63 (j := 30) rfl rfl)
theorem dX11_chance_94 : decode cX11_chance 94 = .ok (.iload_n 1, 1) := dc_27 (bq_nm bk_X11_chance_63 (j := 31) rfl rfl)
set_option maxRecDepth 20000 in
theorem bk_X11_chance_95 : ((cX11_chance.data.toList.drop 95).take 8).length = 8 ∧ eN (((cX11_chance.data.toList.drop 95).take 8).map UInt8.toNat) = 12463149804555384861 := by decide +kernel
theorem dX11_chance_95 : decode cX11_chance 95 = .ok (.iload_n 3, 1) := dc_29 (bq_nm bk_X11_chance_95 (j := 0) rfl rfl)
theorem dX11_chance_96 : decode cX11_chance 96 = .ok (.invokestatic 243, 3) := dc_184 (bq_nm bk_X11_chance_95 (j := 1) rfl rfl) (bq_nm bk_X11_chance_95 (j := 2) rfl rfl) (bq_nm bk_X11_chance_95 (j := 3) rfl rfl) rfl
theorem dX11_chance_99 : decode cX11_chance 99 = .ok (.invokevirtual 246, 3) := dc_182 (bq_nm bk_X11_chance_95 (j := 4) rfl rfl) (bq_nm bk_X11_chance_95 (j := 5) rfl rfl) (bq_nm bk_X11_chance_95 (j := 6) rfl rfl) rfl
theorem dX11_chance_102 : decode cX11_chance 102 = .ok (.ireturn, 1) := dc_172 (bq_nm bk_X11_chance_95 (j := 7) rfl rfl)
set_option maxRecDepth 20000 in
theorem bk_X11_twelve_0 : ((cX11_twelve.data.toList.drop 0).take 31).length = 31 ∧ eN (((cX11_twelve.data.toList.drop 0).take 31).map UInt8.toNat) = 81462201883524312171500620035962324395839883961263055188845444448797465386 := by decide +kernel
theorem dX11_twelve_0 : decode cX11_twelve 0 = .ok (.aload_n 0, 1) := dc_42 (bq_nm bk_X11_twelve_0 (j := 0) rfl rfl)
theorem dX11_twelve_1 : decode cX11_twelve 1 = .ok (.iload_n 1, 1) := dc_27 (bq_nm bk_X11_twelve_0 (j := 1) rfl rfl)
theorem dX11_twelve_2 : decode cX11_twelve 2 = .ok (.invokevirtual 229, 3) := dc_182 (bq_nm bk_X11_twelve_0 (j := 2) rfl rfl) (bq_nm bk_X11_twelve_0 (j := 3) rfl rfl) (bq_nm bk_X11_twelve_0 (j := 4) rfl rfl) rfl
theorem dX11_twelve_5 : decode cX11_twelve 5 = .ok (.ifCond .eq 13, 3) := dc_153 (bq_nm bk_X11_twelve_0 (j := 5) rfl rfl) (bq_nm bk_X11_twelve_0 (j := 6) rfl rfl) (bq_nm bk_X11_twelve_0 (j := 7) rfl rfl) rfl
theorem dX11_twelve_8 : decode cX11_twelve 8 = .ok (.iload_n 2, 1) := dc_28 (bq_nm bk_X11_twelve_0 (j := 8) rfl rfl)
theorem dX11_twelve_9 : decode cX11_twelve 9 = .ok (.i2l, 1) := dc_133 (bq_nm bk_X11_twelve_0 (j := 9) rfl rfl)
theorem dX11_twelve_10 : decode cX11_twelve 10 = .ok (.lconst 0, 1) := dc_9 (bq_nm bk_X11_twelve_0 (j := 10) rfl rfl)
theorem dX11_twelve_11 : decode cX11_twelve 11 = .ok (.lconst 1, 1) := dc_10 (bq_nm bk_X11_twelve_0 (j := 11) rfl rfl)
theorem dX11_twelve_12 : decode cX11_twelve 12 = .ok (.invokestatic 67, 3) := dc_184 (bq_nm bk_X11_twelve_0 (j := 12) rfl rfl) (bq_nm bk_X11_twelve_0 (j := 13) rfl rfl) (bq_nm bk_X11_twelve_0 (j := 14) rfl rfl) rfl
theorem dX11_twelve_15 : decode cX11_twelve 15 = .ok (.ifCond .ne 6, 3) := dc_154 (bq_nm bk_X11_twelve_0 (j := 15) rfl rfl) (bq_nm bk_X11_twelve_0 (j := 16) rfl rfl) (bq_nm bk_X11_twelve_0 (j := 17) rfl rfl) rfl
theorem dX11_twelve_18 : decode cX11_twelve 18 = .ok (.bipush (-2), 2) := dc_16 (bq_nm bk_X11_twelve_0 (j := 18) rfl rfl) (bq_nm bk_X11_twelve_0 (j := 19) rfl rfl) rfl
theorem dX11_twelve_20 : decode cX11_twelve 20 = .ok (.ireturn, 1) := dc_172 (bq_nm bk_X11_twelve_0 (j := 20) rfl rfl)
theorem dX11_twelve_21 : decode cX11_twelve 21 = .ok (.iload_n 2, 1) := dc_28 (bq_nm bk_X11_twelve_0 (j := 21) rfl rfl)
theorem dX11_twelve_22 : decode cX11_twelve 22 = .ok (.ifCond .ne 12, 3) := dc_154 (bq_nm bk_X11_twelve_0 (j := 22) rfl rfl) (bq_nm bk_X11_twelve_0 (j := 23) rfl rfl) (bq_nm bk_X11_twelve_0 (j := 24) rfl rfl) rfl
theorem dX11_twelve_25 : decode cX11_twelve 25 = .ok (.aload_n 0, 1) := dc_42 (bq_nm bk_X11_twelve_0 (j := 25) rfl rfl)
theorem dX11_twelve_26 : decode cX11_twelve 26 = .ok (.getfield 33, 3) := dc_180 (bq_nm bk_X11_twelve_0 (j := 26) rfl rfl) (bq_nm bk_X11_twelve_0 (j := 27) rfl rfl) (bq_nm bk_X11_twelve_0 (j := 28) rfl rfl) rfl
theorem dX11_twelve_29 : decode cX11_twelve 29 = .ok (.iload_n 1, 1) := dc_27 (bq_nm bk_X11_twelve_0 (j := 29) rfl rfl)
theorem dX11_twelve_30 : decode cX11_twelve 30 = .ok (.iaload, 1) := dc_46 (bq_nm bk_X11_twelve_0 (j := 30) rfl rfl)
set_option maxRecDepth 20000 in
theorem bk_X11_twelve_31 : ((cX11_twelve.data.toList.drop 31).take 32).length = 32 ∧ eN (((cX11_twelve.data.toList.drop 31).take 32).map UInt8.toNat) = 1369679259337619707202872693473141703300654459850011583634930574121329688743 := by decide +kernel
theorem dX11_twelve_31 : decode cX11_twelve 31 = .ok (.goto 15, 3) := dc_167 (bq_nm bk_X11_twelve_31 (j := 0) rfl rfl) (bq_nm bk_X11_twelve_31 (j := 1) rfl rfl) (bq_nm bk_X11_twelve_31 (j := 2) rfl rfl) rfl
theorem dX11_twelve_34 : decode cX11_twelve 34 = .ok (.aload_n 0, 1) := dc_42 (bq_nm bk_X11_twelve_31 (j := 3) rfl rfl)
theorem dX11_twelve_35 : decode cX11_twelve 35 = .ok (.iconst 0, 1) := dc_3 (bq_nm bk_X11_twelve_31 (j := 4) rfl rfl)
theorem dX11_twelve_36 : decode cX11_twelve 36 = .ok (.aload_n 0, 1) := dc_42 (bq_nm bk_X11_twelve_31 (j := 5) rfl rfl)
theorem dX11_twelve_37 : decode cX11_twelve 37 = .ok (.iload_n 1, 1) := dc_27 (bq_nm bk_X11_twelve_31 (j := 6) rfl rfl)
theorem dX11_twelve_38 : decode cX11_twelve 38 = .ok (.iconst 0, 1) := dc_3 (bq_nm bk_X11_twelve_31 (j := 7) rfl rfl)
theorem dX11_twelve_39 : decode cX11_twelve 39 = .ok (.invokevirtual 149, 3) := dc_182 (bq_nm bk_X11_twelve_31 (j := 8) rfl rfl) (bq_nm bk_X11_twelve_31 (j := 9) rfl rfl) (bq_nm bk_X11_twelve_31 (j := 10) rfl rfl) rfl
theorem dX11_twelve_42 : decode cX11_twelve 42 = .ok (.iconst (-1), 1) := dc_2 (bq_nm bk_X11_twelve_31 (j := 11) rfl rfl)
theorem dX11_twelve_43 : decode cX11_twelve 43 = .ok (.invokevirtual 188, 3) := dc_182 (bq_nm bk_X11_twelve_31 (j := 12) rfl rfl) (bq_nm bk_X11_twelve_31 (j := 13) rfl rfl) (bq_nm bk_X11_twelve_31 (j := 14) rfl rfl) rfl
theorem dX11_twelve_46 : decode cX11_twelve 46 = .ok (.istore_n 3, 1) := dc_62 (bq_nm bk_X11_twelve_31 (j := 15) rfl rfl)
theorem dX11_twelve_47 : decode cX11_twelve 47 = .ok (.lconst 0, 1) := dc_9 (bq_nm bk_X11_twelve_31 (j := 16) rfl rfl)
theorem dX11_twelve_48 : decode cX11_twelve 48 = .ok (.lstore 4, 2) := dc_55 (bq_nm bk_X11_twelve_31 (j := 17) rfl rfl) (bq_nm bk_X11_twelve_31 (j := 18) rfl rfl)
theorem dX11_twelve_50 : decode cX11_twelve 50 = .ok (.iconst 0, 1) := dc_3 (bq_nm bk_X11_twelve_31 (j := 19) rfl rfl)
theorem dX11_twelve_51 : decode cX11_twelve 51 = .ok (.istore 6, 2) := dc_54 (bq_nm bk_X11_twelve_31 (j := 20) rfl rfl) (bq_nm bk_X11_twelve_31 (j := 21) rfl rfl)
theorem dX11_twelve_53 : decode cX11_twelve 53 = .ok (.iload 6, 2) := dc_21 (bq_nm bk_X11_twelve_31 (j := 22) rfl rfl) (bq_nm bk_X11_twelve_31 (j := 23) rfl rfl)
theorem dX11_twelve_55 : decode cX11_twelve 55 = .ok (.iconst 4, 1) := dc_7 (bq_nm bk_X11_twelve_31 (j := 24) rfl rfl)
theorem dX11_twelve_56 : decode cX11_twelve 56 = .ok (.if_icmp .ge 85, 3) := dc_162 (bq_nm bk_X11_twelve_31 (j := 25) rfl rfl) (bq_nm bk_X11_twelve_31 (j := 26) rfl rfl) (bq_nm bk_X11_twelve_31 (j := 27) rfl rfl) rfl
theorem dX11_twelve_59 : decode cX11_twelve 59 = .ok (.iconst 0, 1) := dc_3 (bq_nm bk_X11_twelve_31 (j := 28) rfl rfl)
theorem dX11_twelve_60 : decode cX11_twelve 60 = .ok (.istore 7, 2) := dc_54 (bq_nm bk_X11_twelve_31 (j := 29) rfl rfl) (bq_nm bk_X11_twelve_31 (j := 30) rfl rfl)
theorem dX11_twelve_62 : decode cX11_twelve 62 = .ok (.iconst 0, 1) := dc_3 (bq_nm bk_X11_twelve_31 (j := 31) rfl rfl)
set_option maxRecDepth 20000 in
theorem bk_X11_twelve_63 : ((cX11_twelve.data.toList.drop 63).take 32).length = 32 ∧ eN (((cX11_twelve.data.toList.drop 63).take 32).map UInt8.toNat) = 3183969027465939228127261050031625091949942219492961153580311941107022104630 := by decide +kernel
theorem dX11_twelve_63 : decode cX11_twelve 63 = .ok (.istore 8, 2) := dc_54 (bq_nm bk_X11_twelve_63 (j := 0) rfl rfl) (bq_nm bk_X11_twelve_63 (j := 1) rfl rfl)
theorem dX11_twelve_65 : decode cX11_twelve 65 = .ok (.iload 8, 2) := dc_21 (bq_nm bk_X11_twelve_63 (j := 2) rfl rfl) (bq_nm bk_X11_twelve_63 (j := 3) rfl rfl)
theorem dX11_twelve_67 : decode cX11_twelve 67 = .ok (.aload_n 0, 1) := dc_42 (bq_nm bk_X11_twelve_63 (j := 4) rfl rfl)
theorem dX11_twelve_68 : decode cX11_twelve 68 = .ok (.getfield 7, 3) := dc_180 (bq_nm bk_X11_twelve_63 (j := 5) rfl rfl) (bq_nm bk_X11_twelve_63 (j := 6) rfl rfl) (bq_nm bk_X11_twelve_63 (j := 7) rfl rfl) rfl
theorem dX11_twelve_71 : decode cX11_twelve 71 = .ok (.iconst 0, 1) := dc_3 (bq_nm bk_X11_twelve_63 (j := 8) rfl rfl)
theorem dX11_twelve_72 : decode cX11_twelve 72 = .ok (.iaload, 1) := dc_46 (bq_nm bk_X11_twelve_63 (j := 9) rfl rfl)
theorem dX11_twelve_73 : decode cX11_twelve 73 = .ok (.if_icmp .ge 46, 3) := dc_162 (bq_nm bk_X11_twelve_63 (j := 10) rfl rfl) (bq_nm bk_X11_twelve_63 (j := 11) rfl rfl) (bq_nm bk_X11_twelve_63 (j := 12) rfl rfl) rfl
theorem dX11_twelve_76 : decode cX11_twelve 76 = .ok (.iload 7, 2) := dc_21 (bq_nm bk_X11_twelve_63 (j := 13) rfl rfl) (bq_nm bk_X11_twelve_63 (j := 14) rfl rfl)
theorem dX11_twelve_78 : decode cX11_twelve 78 = .ok (.iload_n 3, 1) := dc_29 (bq_nm bk_X11_twelve_63 (j := 15) rfl rfl)
theorem dX11_twelve_79 : decode cX11_twelve 79 = .ok (.iload 8, 2) := dc_21 (bq_nm bk_X11_twelve_63 (j := 16) rfl rfl) (bq_nm bk_X11_twelve_63 (j := 17) rfl rfl)
theorem dX11_twelve_81 : decode cX11_twelve 81 = .ok (.ishr, 1) := dc_122 (bq_nm bk_X11_twelve_63 (j := 18) rfl rfl)
theorem dX11_twelve_82 : decode cX11_twelve 82 = .ok (.iconst 1, 1) := dc_4 (bq_nm bk_X11_twelve_63 (j := 19) rfl rfl)
theorem dX11_twelve_83 : decode cX11_twelve 83 = .ok (.iand, 1) := dc_126 (bq_nm bk_X11_twelve_63 (j := 20) rfl rfl)
theorem dX11_twelve_84 : decode cX11_twelve 84 = .ok (.iconst 1, 1) := dc_4 (bq_nm bk_X11_twelve_63 (j := 21) rfl rfl)
theorem dX11_twelve_85 : decode cX11_twelve 85 = .ok (.if_icmp .ne 24, 3) := dc_160 (bq_nm bk_X11_twelve_63 (j := 22) rfl rfl) (bq_nm bk_X11_twelve_63 (j := 23) rfl rfl) (bq_nm bk_X11_twelve_63 (j := 24) rfl rfl) rfl
theorem dX11_twelve_88 : decode cX11_twelve 88 = .ok (.aload_n 0, 1) := dc_42 (bq_nm bk_X11_twelve_63 (j := 25) rfl rfl)
theorem dX11_twelve_89 : decode cX11_twelve 89 = .ok (.getfield 7, 3) := dc_180 (bq_nm bk_X11_twelve_63 (j := 26) rfl rfl) (bq_nm bk_X11_twelve_63 (j := 27) rfl rfl) (bq_nm bk_X11_twelve_63 (j := 28) rfl rfl) rfl
theorem dX11_twelve_92 : decode cX11_twelve 92 = .ok (.bipush 10, 2) := dc_16 (bq_nm bk_X11_twelve_63 (j := 29) rfl rfl) (bq_nm bk_X11_twelve_63 (j := 30) rfl rfl) rfl
theorem dX11_twelve_94 : decode cX11_twelve 94 = .ok (.iconst 4, 1) := dc_7 (bq_nm bk_X11_twelve_63 (j := 31) rfl rfl)
set_option maxRecDepth 20000 in
theorem bk_X11_twelve_95 : ((cX11_twelve.data.toList.drop 95).take 31).length = 31 ∧ eN (((cX11_twelve.data.toList.drop 95).take 31).map UInt8.toNat) = 9021715538846798702372460352231101330291690893270237748954838019193964565 := by decide +kernel
theorem dX11_twelve_95 : decode cX11_twelve 95 = .ok (.iload 8, 2) := dc_21 (bq_nm bk_X11_twelve_95 (j := 0) rfl rfl) (bq_nm bk_X11_twelve_95 (j := 1) rfl rfl)
theorem dX11_twelve_97 : decode cX11_twelve 97 = .ok (.imul, 1) := dc_104 (bq_nm bk_X11_twelve_95 (j := 2) rfl rfl)
theorem dX11_twelve_98 : decode cX11_twelve 98 = .ok (.iadd, 1) := dc_96 (bq_nm bk_X11_twelve_95 (j := 3) rfl rfl)
theorem dX11_twelve_99 : decode cX11_twelve 99 = .ok (.iaload, 1) := dc_46 (bq_nm bk_X11_twelve_95 (j := 4) rfl rfl)
theorem dX11_twelve_100 : decode cX11_twelve 100 = .ok (.iload 6, 2) := dc_21 (bq_nm bk_X11_twelve_95 (j := 5) rfl rfl) (bq_nm bk_X11_twelve_95 (j := 6) rfl rfl)
theorem dX11_twelve_102 : decode cX11_twelve 102 = .ok (.if_icmp .ne 7, 3) := dc_160 (bq_nm bk_X11_twelve_95 (j := 7) rfl rfl) (bq_nm bk_X11_twelve_95 (j := 8) rfl rfl) (bq_nm bk_X11_twelve_95 (j := 9) rfl rfl) rfl
theorem dX11_twelve_105 : decode cX11_twelve 105 = .ok (.iconst 1, 1) := dc_4 (bq_nm bk_X11_twelve_95 (j := 10) rfl rfl)
theorem dX11_twelve_106 : decode cX11_twelve 106 = .ok (.goto 4, 3) := dc_167 (bq_nm bk_X11_twelve_95 (j := 11) rfl rfl) (bq_nm bk_X11_twelve_95 (j := 12) rfl rfl) (bq_nm bk_X11_twelve_95 (j := 13) rfl rfl) rfl
theorem dX11_twelve_109 : decode cX11_twelve 109 = .ok (.iconst 0, 1) := dc_3 (bq_nm bk_X11_twelve_95 (j := 14) rfl rfl)
theorem dX11_twelve_110 : decode cX11_twelve 110 = .ok (.iadd, 1) := dc_96 (bq_nm bk_X11_twelve_95 (j := 15) rfl rfl)
theorem dX11_twelve_111 : decode cX11_twelve 111 = .ok (.istore 7, 2) := dc_54 (bq_nm bk_X11_twelve_95 (j := 16) rfl rfl) (bq_nm bk_X11_twelve_95 (j := 17) rfl rfl)
theorem dX11_twelve_113 : decode cX11_twelve 113 = .ok (.iinc 8 1, 3) := dc_132 (bq_nm bk_X11_twelve_95 (j := 18) rfl rfl) (bq_nm bk_X11_twelve_95 (j := 19) rfl rfl) (bq_nm bk_X11_twelve_95 (j := 20) rfl rfl) rfl
theorem dX11_twelve_116 : decode cX11_twelve 116 = .ok (.goto (-51), 3) := dc_167 (bq_nm bk_X11_twelve_95 (j := 21) rfl rfl) (bq_nm bk_X11_twelve_95 (j := 22) rfl rfl) (bq_nm bk_X11_twelve_95 (j := 23) rfl rfl) rfl
theorem dX11_twelve_119 : decode cX11_twelve 119 = .ok (.lload 4, 2) := dc_22 (bq_nm bk_X11_twelve_95 (j := 24) rfl rfl) (bq_nm bk_X11_twelve_95 (j := 25) rfl rfl)
theorem dX11_twelve_121 : decode cX11_twelve 121 = .ok (.iload 7, 2) := dc_21 (bq_nm bk_X11_twelve_95 (j := 26) rfl rfl) (bq_nm bk_X11_twelve_95 (j := 27) rfl rfl)
theorem dX11_twelve_123 : decode cX11_twelve 123 = .ok (.aload_n 0, 1) := dc_42 (bq_nm bk_X11_twelve_95 (j := 28) rfl rfl)
theorem dX11_twelve_124 : decode cX11_twelve 124 = .ok (.iload_n 1, 1) := dc_27 (bq_nm bk_X11_twelve_95 (j := 29) rfl rfl)
theorem dX11_twelve_125 : decode cX11_twelve 125 = .ok (.iconst 2, 1) := dc_5 (bq_nm bk_X11_twelve_95 (j := 30) rfl rfl)
set_option maxRecDepth 20000 in
theorem bk_X11_twelve_126 : ((cX11_twelve.data.toList.drop 126).take 31).length = 31 ∧ eN (((cX11_twelve.data.toList.drop 126).take 31).map UInt8.toNat) = 429348813063158101197192078125634906477834391477606698428225852851197640886 := by decide +kernel
theorem dX11_twelve_126 : decode cX11_twelve 126 = .ok (.invokevirtual 149, 3) := dc_182 (bq_nm bk_X11_twelve_126 (j := 0) rfl rfl) (bq_nm bk_X11_twelve_126 (j := 1) rfl rfl) (bq_nm bk_X11_twelve_126 (j := 2) rfl rfl) rfl
theorem dX11_twelve_129 : decode cX11_twelve 129 = .ok (.invokestatic 243, 3) := dc_184 (bq_nm bk_X11_twelve_126 (j := 3) rfl rfl) (bq_nm bk_X11_twelve_126 (j := 4) rfl rfl) (bq_nm bk_X11_twelve_126 (j := 5) rfl rfl) rfl
theorem dX11_twelve_132 : decode cX11_twelve 132 = .ok (.ladd, 1) := dc_97 (bq_nm bk_X11_twelve_126 (j := 6) rfl rfl)
theorem dX11_twelve_133 : decode cX11_twelve 133 = .ok (.lstore 4, 2) := dc_55 (bq_nm bk_X11_twelve_126 (j := 7) rfl rfl) (bq_nm bk_X11_twelve_126 (j := 8) rfl rfl)
theorem dX11_twelve_135 : decode cX11_twelve 135 = .ok (.iinc 6 1, 3) := dc_132 (bq_nm bk_X11_twelve_126 (j := 9) rfl rfl) (bq_nm bk_X11_twelve_126 (j := 10) rfl rfl) (bq_nm bk_X11_twelve_126 (j := 11) rfl rfl) rfl
theorem dX11_twelve_138 : decode cX11_twelve 138 = .ok (.goto (-85), 3) := dc_167 (bq_nm bk_X11_twelve_126 (j := 12) rfl rfl) (bq_nm bk_X11_twelve_126 (j := 13) rfl rfl) (bq_nm bk_X11_twelve_126 (j := 14) rfl rfl) rfl
theorem dX11_twelve_141 : decode cX11_twelve 141 = .ok (.aload_n 0, 1) := dc_42 (bq_nm bk_X11_twelve_126 (j := 15) rfl rfl)
theorem dX11_twelve_142 : decode cX11_twelve 142 = .ok (.lload 4, 2) := dc_22 (bq_nm bk_X11_twelve_126 (j := 16) rfl rfl) (bq_nm bk_X11_twelve_126 (j := 17) rfl rfl)
theorem dX11_twelve_144 : decode cX11_twelve 144 = .ok (.iload_n 3, 1) := dc_29 (bq_nm bk_X11_twelve_126 (j := 18) rfl rfl)
theorem dX11_twelve_145 : decode cX11_twelve 145 = .ok (.invokestatic 222, 3) := dc_184 (bq_nm bk_X11_twelve_126 (j := 19) rfl rfl) (bq_nm bk_X11_twelve_126 (j := 20) rfl rfl) (bq_nm bk_X11_twelve_126 (j := 21) rfl rfl) rfl
theorem dX11_twelve_148 : decode cX11_twelve 148 = .ok (.aload_n 0, 1) := dc_42 (bq_nm bk_X11_twelve_126 (j := 22) rfl rfl)
theorem dX11_twelve_149 : decode cX11_twelve 149 = .ok (.iload_n 1, 1) := dc_27 (bq_nm bk_X11_twelve_126 (j := 23) rfl rfl)
theorem dX11_twelve_150 : decode cX11_twelve 150 = .ok (.iconst 2, 1) := dc_5 (bq_nm bk_X11_twelve_126 (j := 24) rfl rfl)
theorem dX11_twelve_151 : decode cX11_twelve 151 = .ok (.invokevirtual 149, 3) := dc_182 (bq_nm bk_X11_twelve_126 (j := 25) rfl rfl) (bq_nm bk_X11_twelve_126 (j := 26) rfl rfl) (bq_nm bk_X11_twelve_126 (j := 27) rfl rfl) rfl
theorem dX11_twelve_154 : decode cX11_twelve 154 = .ok (.invokestatic 243, 3) := dc_184 (bq_nm bk_X11_twelve_126 (j := 28) rfl rfl) (bq_nm bk_X11_twelve_126 (j := 29) rfl rfl) (bq_nm bk_X11_twelve_126 (j := 30) rfl rfl) rfl
set_option maxRecDepth 20000 in
theorem bk_X11_twelve_157 : ((cX11_twelve.data.toList.drop 157).take 4).length = 4 ∧ eN (((cX11_twelve.data.toList.drop 157).take 4).map UInt8.toNat) = 2901803190 := by decide +kernel
theorem dX11_twelve_157 : decode cX11_twelve 157 = .ok (.invokevirtual 246, 3) := dc_182 (bq_nm bk_X11_twelve_157 (j := 0) rfl rfl) (bq_nm bk_X11_twelve_157 (j := 1) rfl rfl) (bq_nm bk_X11_twelve_157 (j := 2) rfl rfl) rfl
theorem dX11_twelve_160 : decode cX11_twelve 160 = .ok (.ireturn, 1) := dc_172 (bq_nm bk_X11_twelve_157 (j := 3) rfl rfl)
set_option maxRecDepth 20000 in
theorem bk_X11_part_0 : ((cX11_part.data.toList.drop 0).take 27).length = 27 ∧ eN (((cX11_part.data.toList.drop 0).take 27).map UInt8.toNat) = 71479818575701908772022248127386906743216176036529560593153169947 := by decide +kernel
theorem dX11_part_0 : decode cX11_part 0 = .ok (.iload_n 1, 1) := dc_27 (bq_nm bk_X11_part_0 (j := 0) rfl rfl)
theorem dX11_part_1 : decode cX11_part 1 = .ok (.ifCond .ne 10, 3) := dc_154 (bq_nm bk_X11_part_0 (j := 1) rfl rfl) (bq_nm bk_X11_part_0 (j := 2) rfl rfl) (bq_nm bk_X11_part_0 (j := 3) rfl rfl) rfl
theorem dX11_part_4 : decode cX11_part 4 = .ok (.aload_n 0, 1) := dc_42 (bq_nm bk_X11_part_0 (j := 4) rfl rfl)
theorem dX11_part_5 : decode cX11_part 5 = .ok (.getfield 238, 3) := dc_180 (bq_nm bk_X11_part_0 (j := 5) rfl rfl) (bq_nm bk_X11_part_0 (j := 6) rfl rfl) (bq_nm bk_X11_part_0 (j := 7) rfl rfl) rfl
theorem dX11_part_8 : decode cX11_part 8 = .ok (.goto 18, 3) := dc_167 (bq_nm bk_X11_part_0 (j := 8) rfl rfl) (bq_nm bk_X11_part_0 (j := 9) rfl rfl) (bq_nm bk_X11_part_0 (j := 10) rfl rfl) rfl
theorem dX11_part_11 : decode cX11_part 11 = .ok (.iload_n 1, 1) := dc_27 (bq_nm bk_X11_part_0 (j := 11) rfl rfl)
theorem dX11_part_12 : decode cX11_part 12 = .ok (.iconst 1, 1) := dc_4 (bq_nm bk_X11_part_0 (j := 12) rfl rfl)
theorem dX11_part_13 : decode cX11_part 13 = .ok (.if_icmp .ne 10, 3) := dc_160 (bq_nm bk_X11_part_0 (j := 13) rfl rfl) (bq_nm bk_X11_part_0 (j := 14) rfl rfl) (bq_nm bk_X11_part_0 (j := 15) rfl rfl) rfl
theorem dX11_part_16 : decode cX11_part 16 = .ok (.aload_n 0, 1) := dc_42 (bq_nm bk_X11_part_0 (j := 16) rfl rfl)
theorem dX11_part_17 : decode cX11_part 17 = .ok (.getfield 63, 3) := dc_180 (bq_nm bk_X11_part_0 (j := 17) rfl rfl) (bq_nm bk_X11_part_0 (j := 18) rfl rfl) (bq_nm bk_X11_part_0 (j := 19) rfl rfl) rfl
theorem dX11_part_20 : decode cX11_part 20 = .ok (.goto 6, 3) := dc_167 (bq_nm bk_X11_part_0 (j := 20) rfl rfl) (bq_nm bk_X11_part_0 (j := 21) rfl rfl) (bq_nm bk_X11_part_0 (j := 22) rfl rfl) rfl
theorem dX11_part_23 : decode cX11_part 23 = .ok (.ldc2_w 194, 3) := dc_20 (bq_nm bk_X11_part_0 (j := 23) rfl rfl) (bq_nm bk_X11_part_0 (j := 24) rfl rfl) (bq_nm bk_X11_part_0 (j := 25) rfl rfl) rfl
theorem dX11_part_26 : decode cX11_part 26 = .ok (.lreturn, 1) := dc_173 (bq_nm bk_X11_part_0 (j := 26) rfl rfl)
set_option maxRecDepth 20000 in
theorem bk_X11_beside_0 : ((cX11_beside.data.toList.drop 0).take 32).length = 32 ∧ eN (((cX11_beside.data.toList.drop 0).take 32).map UInt8.toNat) = 2715762418788261629548612615696988500674810033540547495472311304590907022122 := by decide +kernel
theorem dX11_beside_0 : decode cX11_beside 0 = .ok (.aload_n 0, 1) := dc_42 (bq_nm bk_X11_beside_0 (j := 0) rfl rfl)
theorem dX11_beside_1 : decode cX11_beside 1 = .ok (.iload_n 1, 1) := dc_27 (bq_nm bk_X11_beside_0 (j := 1) rfl rfl)
theorem dX11_beside_2 : decode cX11_beside 2 = .ok (.invokevirtual 229, 3) := dc_182 (bq_nm bk_X11_beside_0 (j := 2) rfl rfl) (bq_nm bk_X11_beside_0 (j := 3) rfl rfl) (bq_nm bk_X11_beside_0 (j := 4) rfl rfl) rfl
theorem dX11_beside_5 : decode cX11_beside 5 = .ok (.ifCond .eq 20, 3) := dc_153 (bq_nm bk_X11_beside_0 (j := 5) rfl rfl) (bq_nm bk_X11_beside_0 (j := 6) rfl rfl) (bq_nm bk_X11_beside_0 (j := 7) rfl rfl) rfl
theorem dX11_beside_8 : decode cX11_beside 8 = .ok (.iload_n 2, 1) := dc_28 (bq_nm bk_X11_beside_0 (j := 8) rfl rfl)
theorem dX11_beside_9 : decode cX11_beside 9 = .ok (.invokestatic 166, 3) := dc_184 (bq_nm bk_X11_beside_0 (j := 9) rfl rfl) (bq_nm bk_X11_beside_0 (j := 10) rfl rfl) (bq_nm bk_X11_beside_0 (j := 11) rfl rfl) rfl
theorem dX11_beside_12 : decode cX11_beside 12 = .ok (.ifCond .eq 13, 3) := dc_153 (bq_nm bk_X11_beside_0 (j := 12) rfl rfl) (bq_nm bk_X11_beside_0 (j := 13) rfl rfl) (bq_nm bk_X11_beside_0 (j := 14) rfl rfl) rfl
theorem dX11_beside_15 : decode cX11_beside 15 = .ok (.iload_n 3, 1) := dc_29 (bq_nm bk_X11_beside_0 (j := 15) rfl rfl)
theorem dX11_beside_16 : decode cX11_beside 16 = .ok (.i2l, 1) := dc_133 (bq_nm bk_X11_beside_0 (j := 16) rfl rfl)
theorem dX11_beside_17 : decode cX11_beside 17 = .ok (.lconst 0, 1) := dc_9 (bq_nm bk_X11_beside_0 (j := 17) rfl rfl)
theorem dX11_beside_18 : decode cX11_beside 18 = .ok (.lconst 1, 1) := dc_10 (bq_nm bk_X11_beside_0 (j := 18) rfl rfl)
theorem dX11_beside_19 : decode cX11_beside 19 = .ok (.invokestatic 67, 3) := dc_184 (bq_nm bk_X11_beside_0 (j := 19) rfl rfl) (bq_nm bk_X11_beside_0 (j := 20) rfl rfl) (bq_nm bk_X11_beside_0 (j := 21) rfl rfl) rfl
theorem dX11_beside_22 : decode cX11_beside 22 = .ok (.ifCond .ne 6, 3) := dc_154 (bq_nm bk_X11_beside_0 (j := 22) rfl rfl) (bq_nm bk_X11_beside_0 (j := 23) rfl rfl) (bq_nm bk_X11_beside_0 (j := 24) rfl rfl) rfl
theorem dX11_beside_25 : decode cX11_beside 25 = .ok (.bipush (-2), 2) := dc_16 (bq_nm bk_X11_beside_0 (j := 25) rfl rfl) (bq_nm bk_X11_beside_0 (j := 26) rfl rfl) rfl
theorem dX11_beside_27 : decode cX11_beside 27 = .ok (.ireturn, 1) := dc_172 (bq_nm bk_X11_beside_0 (j := 27) rfl rfl)
theorem dX11_beside_28 : decode cX11_beside 28 = .ok (.aload_n 0, 1) := dc_42 (bq_nm bk_X11_beside_0 (j := 28) rfl rfl)
theorem dX11_beside_29 : decode cX11_beside 29 = .ok (.sipush 262, 3) := dc_17 (bq_nm bk_X11_beside_0 (j := 29) rfl rfl) (bq_nm bk_X11_beside_0 (j := 30) rfl rfl) (bq_nm bk_X11_beside_0 (j := 31) rfl rfl) rfl
set_option maxRecDepth 20000 in
theorem bk_X11_beside_32 : ((cX11_beside.data.toList.drop 32).take 32).length = 32 ∧ eN (((cX11_beside.data.toList.drop 32).take 32).map UInt8.toNat) = 13166613778412078894400931447429713917033526486181221573081031288388469928720 := by decide +kernel
theorem dX11_beside_32 : decode cX11_beside 32 = .ok (.bipush 51, 2) := dc_16 (bq_nm bk_X11_beside_32 (j := 0) rfl rfl) (bq_nm bk_X11_beside_32 (j := 1) rfl rfl) rfl
theorem dX11_beside_34 : decode cX11_beside 34 = .ok (.iload_n 2, 1) := dc_28 (bq_nm bk_X11_beside_32 (j := 2) rfl rfl)
theorem dX11_beside_35 : decode cX11_beside 35 = .ok (.imul, 1) := dc_104 (bq_nm bk_X11_beside_32 (j := 3) rfl rfl)
theorem dX11_beside_36 : decode cX11_beside 36 = .ok (.iadd, 1) := dc_96 (bq_nm bk_X11_beside_32 (j := 4) rfl rfl)
theorem dX11_beside_37 : decode cX11_beside 37 = .ok (.invokevirtual 171, 3) := dc_182 (bq_nm bk_X11_beside_32 (j := 5) rfl rfl) (bq_nm bk_X11_beside_32 (j := 6) rfl rfl) (bq_nm bk_X11_beside_32 (j := 7) rfl rfl) rfl
theorem dX11_beside_40 : decode cX11_beside 40 = .ok (.iconst (-1), 1) := dc_2 (bq_nm bk_X11_beside_32 (j := 8) rfl rfl)
theorem dX11_beside_41 : decode cX11_beside 41 = .ok (.if_icmp .eq 6, 3) := dc_159 (bq_nm bk_X11_beside_32 (j := 9) rfl rfl) (bq_nm bk_X11_beside_32 (j := 10) rfl rfl) (bq_nm bk_X11_beside_32 (j := 11) rfl rfl) rfl
theorem dX11_beside_44 : decode cX11_beside 44 = .ok (.bipush (-3), 2) := dc_16 (bq_nm bk_X11_beside_32 (j := 12) rfl rfl) (bq_nm bk_X11_beside_32 (j := 13) rfl rfl) rfl
theorem dX11_beside_46 : decode cX11_beside 46 = .ok (.ireturn, 1) := dc_172 (bq_nm bk_X11_beside_32 (j := 14) rfl rfl)
theorem dX11_beside_47 : decode cX11_beside 47 = .ok (.aload_n 0, 1) := dc_42 (bq_nm bk_X11_beside_32 (j := 15) rfl rfl)
theorem dX11_beside_48 : decode cX11_beside 48 = .ok (.getfield 146, 3) := dc_180 (bq_nm bk_X11_beside_32 (j := 16) rfl rfl) (bq_nm bk_X11_beside_32 (j := 17) rfl rfl) (bq_nm bk_X11_beside_32 (j := 18) rfl rfl) rfl
theorem dX11_beside_51 : decode cX11_beside 51 = .ok (.istore 4, 2) := dc_54 (bq_nm bk_X11_beside_32 (j := 19) rfl rfl) (bq_nm bk_X11_beside_32 (j := 20) rfl rfl)
theorem dX11_beside_53 : decode cX11_beside 53 = .ok (.aload_n 0, 1) := dc_42 (bq_nm bk_X11_beside_32 (j := 21) rfl rfl)
theorem dX11_beside_54 : decode cX11_beside 54 = .ok (.iload_n 1, 1) := dc_27 (bq_nm bk_X11_beside_32 (j := 22) rfl rfl)
theorem dX11_beside_55 : decode cX11_beside 55 = .ok (.putfield 146, 3) := dc_181 (bq_nm bk_X11_beside_32 (j := 23) rfl rfl) (bq_nm bk_X11_beside_32 (j := 24) rfl rfl) (bq_nm bk_X11_beside_32 (j := 25) rfl rfl) rfl
theorem dX11_beside_58 : decode cX11_beside 58 = .ok (.aload_n 0, 1) := dc_42 (bq_nm bk_X11_beside_32 (j := 26) rfl rfl)
theorem dX11_beside_59 : decode cX11_beside 59 = .ok (.iload_n 1, 1) := dc_27 (bq_nm bk_X11_beside_32 (j := 27) rfl rfl)
theorem dX11_beside_60 : decode cX11_beside 60 = .ok (.bipush 10, 2) := dc_16 (bq_nm bk_X11_beside_32 (j := 28) rfl rfl) (bq_nm bk_X11_beside_32 (j := 29) rfl rfl) rfl
theorem dX11_beside_62 : decode cX11_beside 62 = .ok (.iload_n 2, 1) := dc_28 (bq_nm bk_X11_beside_32 (j := 30) rfl rfl)
theorem dX11_beside_63 : decode cX11_beside 63 = .ok (.iload_n 3, 1) := dc_29 (bq_nm bk_X11_beside_32 (j := 31) rfl rfl)
set_option maxRecDepth 20000 in
theorem bk_X11_beside_64 : ((cX11_beside.data.toList.drop 64).take 24).length = 24 ∧ eN (((cX11_beside.data.toList.drop 64).take 24).map UInt8.toNat) = 4229896505041826264137658234947209518138826452499060293814 := by decide +kernel
theorem dX11_beside_64 : decode cX11_beside 64 = .ok (.invokevirtual 225, 3) := dc_182 (bq_nm bk_X11_beside_64 (j := 0) rfl rfl) (bq_nm bk_X11_beside_64 (j := 1) rfl rfl) (bq_nm bk_X11_beside_64 (j := 2) rfl rfl) rfl
theorem dX11_beside_67 : decode cX11_beside 67 = .ok (.aload_n 0, 1) := dc_42 (bq_nm bk_X11_beside_64 (j := 3) rfl rfl)
theorem dX11_beside_68 : decode cX11_beside 68 = .ok (.iload 4, 2) := dc_21 (bq_nm bk_X11_beside_64 (j := 4) rfl rfl) (bq_nm bk_X11_beside_64 (j := 5) rfl rfl)
theorem dX11_beside_70 : decode cX11_beside 70 = .ok (.putfield 146, 3) := dc_181 (bq_nm bk_X11_beside_64 (j := 6) rfl rfl) (bq_nm bk_X11_beside_64 (j := 7) rfl rfl) (bq_nm bk_X11_beside_64 (j := 8) rfl rfl) rfl
theorem dX11_beside_73 : decode cX11_beside 73 = .ok (.aload_n 0, 1) := dc_42 (bq_nm bk_X11_beside_64 (j := 9) rfl rfl)
theorem dX11_beside_74 : decode cX11_beside 74 = .ok (.getfield 36, 3) := dc_180 (bq_nm bk_X11_beside_64 (j := 10) rfl rfl) (bq_nm bk_X11_beside_64 (j := 11) rfl rfl) (bq_nm bk_X11_beside_64 (j := 12) rfl rfl) rfl
theorem dX11_beside_77 : decode cX11_beside 77 = .ok (.bipush 10, 2) := dc_16 (bq_nm bk_X11_beside_64 (j := 13) rfl rfl) (bq_nm bk_X11_beside_64 (j := 14) rfl rfl) rfl
theorem dX11_beside_79 : decode cX11_beside 79 = .ok (.iaload, 1) := dc_46 (bq_nm bk_X11_beside_64 (j := 15) rfl rfl)
theorem dX11_beside_80 : decode cX11_beside 80 = .ok (.aload_n 0, 1) := dc_42 (bq_nm bk_X11_beside_64 (j := 16) rfl rfl)
theorem dX11_beside_81 : decode cX11_beside 81 = .ok (.getfield 36, 3) := dc_180 (bq_nm bk_X11_beside_64 (j := 17) rfl rfl) (bq_nm bk_X11_beside_64 (j := 18) rfl rfl) (bq_nm bk_X11_beside_64 (j := 19) rfl rfl) rfl
theorem dX11_beside_84 : decode cX11_beside 84 = .ok (.iload_n 1, 1) := dc_27 (bq_nm bk_X11_beside_64 (j := 20) rfl rfl)
theorem dX11_beside_85 : decode cX11_beside 85 = .ok (.iaload, 1) := dc_46 (bq_nm bk_X11_beside_64 (j := 21) rfl rfl)
theorem dX11_beside_86 : decode cX11_beside 86 = .ok (.ixor, 1) := dc_130 (bq_nm bk_X11_beside_64 (j := 22) rfl rfl)
theorem dX11_beside_87 : decode cX11_beside 87 = .ok (.ireturn, 1) := dc_172 (bq_nm bk_X11_beside_64 (j := 23) rfl rfl)
set_option maxRecDepth 20000 in
theorem bk_X11_meets_0 : ((cX11_meets.data.toList.drop 0).take 32).length = 32 ∧ eN (((cX11_meets.data.toList.drop 0).take 32).map UInt8.toNat) = 1466503876913592320823488648446437443792303026369743028487495886889850247978 := by decide +kernel
theorem dX11_meets_0 : decode cX11_meets 0 = .ok (.aload_n 0, 1) := dc_42 (bq_nm bk_X11_meets_0 (j := 0) rfl rfl)
theorem dX11_meets_1 : decode cX11_meets 1 = .ok (.iload_n 1, 1) := dc_27 (bq_nm bk_X11_meets_0 (j := 1) rfl rfl)
theorem dX11_meets_2 : decode cX11_meets 2 = .ok (.iconst 5, 1) := dc_8 (bq_nm bk_X11_meets_0 (j := 2) rfl rfl)
theorem dX11_meets_3 : decode cX11_meets 3 = .ok (.invokevirtual 149, 3) := dc_182 (bq_nm bk_X11_meets_0 (j := 3) rfl rfl) (bq_nm bk_X11_meets_0 (j := 4) rfl rfl) (bq_nm bk_X11_meets_0 (j := 5) rfl rfl) rfl
theorem dX11_meets_6 : decode cX11_meets 6 = .ok (.iconst (-1), 1) := dc_2 (bq_nm bk_X11_meets_0 (j := 6) rfl rfl)
theorem dX11_meets_7 : decode cX11_meets 7 = .ok (.if_icmp .eq 22, 3) := dc_159 (bq_nm bk_X11_meets_0 (j := 7) rfl rfl) (bq_nm bk_X11_meets_0 (j := 8) rfl rfl) (bq_nm bk_X11_meets_0 (j := 9) rfl rfl) rfl
theorem dX11_meets_10 : decode cX11_meets 10 = .ok (.aload_n 0, 1) := dc_42 (bq_nm bk_X11_meets_0 (j := 10) rfl rfl)
theorem dX11_meets_11 : decode cX11_meets 11 = .ok (.iload_n 1, 1) := dc_27 (bq_nm bk_X11_meets_0 (j := 11) rfl rfl)
theorem dX11_meets_12 : decode cX11_meets 12 = .ok (.iconst 5, 1) := dc_8 (bq_nm bk_X11_meets_0 (j := 12) rfl rfl)
theorem dX11_meets_13 : decode cX11_meets 13 = .ok (.invokevirtual 149, 3) := dc_182 (bq_nm bk_X11_meets_0 (j := 13) rfl rfl) (bq_nm bk_X11_meets_0 (j := 14) rfl rfl) (bq_nm bk_X11_meets_0 (j := 15) rfl rfl) rfl
theorem dX11_meets_16 : decode cX11_meets 16 = .ok (.aload_n 0, 1) := dc_42 (bq_nm bk_X11_meets_0 (j := 16) rfl rfl)
theorem dX11_meets_17 : decode cX11_meets 17 = .ok (.iload_n 2, 1) := dc_28 (bq_nm bk_X11_meets_0 (j := 17) rfl rfl)
theorem dX11_meets_18 : decode cX11_meets 18 = .ok (.iconst 5, 1) := dc_8 (bq_nm bk_X11_meets_0 (j := 18) rfl rfl)
theorem dX11_meets_19 : decode cX11_meets 19 = .ok (.invokevirtual 149, 3) := dc_182 (bq_nm bk_X11_meets_0 (j := 19) rfl rfl) (bq_nm bk_X11_meets_0 (j := 20) rfl rfl) (bq_nm bk_X11_meets_0 (j := 21) rfl rfl) rfl
theorem dX11_meets_22 : decode cX11_meets 22 = .ok (.if_icmp .ne 7, 3) := dc_160 (bq_nm bk_X11_meets_0 (j := 22) rfl rfl) (bq_nm bk_X11_meets_0 (j := 23) rfl rfl) (bq_nm bk_X11_meets_0 (j := 24) rfl rfl) rfl
theorem dX11_meets_25 : decode cX11_meets 25 = .ok (.iconst 1, 1) := dc_4 (bq_nm bk_X11_meets_0 (j := 25) rfl rfl)
theorem dX11_meets_26 : decode cX11_meets 26 = .ok (.goto 4, 3) := dc_167 (bq_nm bk_X11_meets_0 (j := 26) rfl rfl) (bq_nm bk_X11_meets_0 (j := 27) rfl rfl) (bq_nm bk_X11_meets_0 (j := 28) rfl rfl) rfl
theorem dX11_meets_29 : decode cX11_meets 29 = .ok (.iconst 0, 1) := dc_3 (bq_nm bk_X11_meets_0 (j := 29) rfl rfl)
theorem dX11_meets_30 : decode cX11_meets 30 = .ok (.istore_n 3, 1) := dc_62 (bq_nm bk_X11_meets_0 (j := 30) rfl rfl)
theorem dX11_meets_31 : decode cX11_meets 31 = .ok (.iconst 0, 1) := dc_3 (bq_nm bk_X11_meets_0 (j := 31) rfl rfl)
set_option maxRecDepth 20000 in
theorem bk_X11_meets_32 : ((cX11_meets.data.toList.drop 32).take 31).length = 31 ∧ eN (((cX11_meets.data.toList.drop 32).take 31).map UInt8.toNat) = 4562073541564315437646203032102161048550491697373254576600788707696772150 := by decide +kernel
theorem dX11_meets_32 : decode cX11_meets 32 = .ok (.istore 4, 2) := dc_54 (bq_nm bk_X11_meets_32 (j := 0) rfl rfl) (bq_nm bk_X11_meets_32 (j := 1) rfl rfl)
theorem dX11_meets_34 : decode cX11_meets 34 = .ok (.iload 4, 2) := dc_21 (bq_nm bk_X11_meets_32 (j := 2) rfl rfl) (bq_nm bk_X11_meets_32 (j := 3) rfl rfl)
theorem dX11_meets_36 : decode cX11_meets 36 = .ok (.iconst 2, 1) := dc_5 (bq_nm bk_X11_meets_32 (j := 4) rfl rfl)
theorem dX11_meets_37 : decode cX11_meets 37 = .ok (.if_icmp .ge 68, 3) := dc_162 (bq_nm bk_X11_meets_32 (j := 5) rfl rfl) (bq_nm bk_X11_meets_32 (j := 6) rfl rfl) (bq_nm bk_X11_meets_32 (j := 7) rfl rfl) rfl
theorem dX11_meets_40 : decode cX11_meets 40 = .ok (.iconst 0, 1) := dc_3 (bq_nm bk_X11_meets_32 (j := 8) rfl rfl)
theorem dX11_meets_41 : decode cX11_meets 41 = .ok (.istore 5, 2) := dc_54 (bq_nm bk_X11_meets_32 (j := 9) rfl rfl) (bq_nm bk_X11_meets_32 (j := 10) rfl rfl)
theorem dX11_meets_43 : decode cX11_meets 43 = .ok (.iload 5, 2) := dc_21 (bq_nm bk_X11_meets_32 (j := 11) rfl rfl) (bq_nm bk_X11_meets_32 (j := 12) rfl rfl)
theorem dX11_meets_45 : decode cX11_meets 45 = .ok (.iconst 2, 1) := dc_5 (bq_nm bk_X11_meets_32 (j := 13) rfl rfl)
theorem dX11_meets_46 : decode cX11_meets 46 = .ok (.if_icmp .ge 53, 3) := dc_162 (bq_nm bk_X11_meets_32 (j := 14) rfl rfl) (bq_nm bk_X11_meets_32 (j := 15) rfl rfl) (bq_nm bk_X11_meets_32 (j := 16) rfl rfl) rfl
theorem dX11_meets_49 : decode cX11_meets 49 = .ok (.iload_n 3, 1) := dc_29 (bq_nm bk_X11_meets_32 (j := 17) rfl rfl)
theorem dX11_meets_50 : decode cX11_meets 50 = .ok (.ifCond .ne 37, 3) := dc_154 (bq_nm bk_X11_meets_32 (j := 18) rfl rfl) (bq_nm bk_X11_meets_32 (j := 19) rfl rfl) (bq_nm bk_X11_meets_32 (j := 20) rfl rfl) rfl
theorem dX11_meets_53 : decode cX11_meets 53 = .ok (.aload_n 0, 1) := dc_42 (bq_nm bk_X11_meets_32 (j := 21) rfl rfl)
theorem dX11_meets_54 : decode cX11_meets 54 = .ok (.iload_n 1, 1) := dc_27 (bq_nm bk_X11_meets_32 (j := 22) rfl rfl)
theorem dX11_meets_55 : decode cX11_meets 55 = .ok (.iconst 3, 1) := dc_6 (bq_nm bk_X11_meets_32 (j := 23) rfl rfl)
theorem dX11_meets_56 : decode cX11_meets 56 = .ok (.iload 4, 2) := dc_21 (bq_nm bk_X11_meets_32 (j := 24) rfl rfl) (bq_nm bk_X11_meets_32 (j := 25) rfl rfl)
theorem dX11_meets_58 : decode cX11_meets 58 = .ok (.iadd, 1) := dc_96 (bq_nm bk_X11_meets_32 (j := 26) rfl rfl)
theorem dX11_meets_59 : decode cX11_meets 59 = .ok (.invokevirtual 149, 3) := dc_182 (bq_nm bk_X11_meets_32 (j := 27) rfl rfl) (bq_nm bk_X11_meets_32 (j := 28) rfl rfl) (bq_nm bk_X11_meets_32 (j := 29) rfl rfl) rfl
theorem dX11_meets_62 : decode cX11_meets 62 = .ok (.iconst (-1), 1) := dc_2 (bq_nm bk_X11_meets_32 (j := 30) rfl rfl)
set_option maxRecDepth 20000 in
theorem bk_X11_meets_63 : ((cX11_meets.data.toList.drop 63).take 30).length = 30 ∧ eN (((cX11_meets.data.toList.drop 63).take 30).map UInt8.toNat) = 427989574858567014466860030772798743343058223128039528405625945236177055 := by decide +kernel
theorem dX11_meets_63 : decode cX11_meets 63 = .ok (.if_icmp .eq 28, 3) := dc_159 (bq_nm bk_X11_meets_63 (j := 0) rfl rfl) (bq_nm bk_X11_meets_63 (j := 1) rfl rfl) (bq_nm bk_X11_meets_63 (j := 2) rfl rfl) rfl
theorem dX11_meets_66 : decode cX11_meets 66 = .ok (.aload_n 0, 1) := dc_42 (bq_nm bk_X11_meets_63 (j := 3) rfl rfl)
theorem dX11_meets_67 : decode cX11_meets 67 = .ok (.iload_n 1, 1) := dc_27 (bq_nm bk_X11_meets_63 (j := 4) rfl rfl)
theorem dX11_meets_68 : decode cX11_meets 68 = .ok (.iconst 3, 1) := dc_6 (bq_nm bk_X11_meets_63 (j := 5) rfl rfl)
theorem dX11_meets_69 : decode cX11_meets 69 = .ok (.iload 4, 2) := dc_21 (bq_nm bk_X11_meets_63 (j := 6) rfl rfl) (bq_nm bk_X11_meets_63 (j := 7) rfl rfl)
theorem dX11_meets_71 : decode cX11_meets 71 = .ok (.iadd, 1) := dc_96 (bq_nm bk_X11_meets_63 (j := 8) rfl rfl)
theorem dX11_meets_72 : decode cX11_meets 72 = .ok (.invokevirtual 149, 3) := dc_182 (bq_nm bk_X11_meets_63 (j := 9) rfl rfl) (bq_nm bk_X11_meets_63 (j := 10) rfl rfl) (bq_nm bk_X11_meets_63 (j := 11) rfl rfl) rfl
theorem dX11_meets_75 : decode cX11_meets 75 = .ok (.aload_n 0, 1) := dc_42 (bq_nm bk_X11_meets_63 (j := 12) rfl rfl)
theorem dX11_meets_76 : decode cX11_meets 76 = .ok (.iload_n 2, 1) := dc_28 (bq_nm bk_X11_meets_63 (j := 13) rfl rfl)
theorem dX11_meets_77 : decode cX11_meets 77 = .ok (.iconst 3, 1) := dc_6 (bq_nm bk_X11_meets_63 (j := 14) rfl rfl)
theorem dX11_meets_78 : decode cX11_meets 78 = .ok (.iload 5, 2) := dc_21 (bq_nm bk_X11_meets_63 (j := 15) rfl rfl) (bq_nm bk_X11_meets_63 (j := 16) rfl rfl)
theorem dX11_meets_80 : decode cX11_meets 80 = .ok (.iadd, 1) := dc_96 (bq_nm bk_X11_meets_63 (j := 17) rfl rfl)
theorem dX11_meets_81 : decode cX11_meets 81 = .ok (.invokevirtual 149, 3) := dc_182 (bq_nm bk_X11_meets_63 (j := 18) rfl rfl) (bq_nm bk_X11_meets_63 (j := 19) rfl rfl) (bq_nm bk_X11_meets_63 (j := 20) rfl rfl) rfl
theorem dX11_meets_84 : decode cX11_meets 84 = .ok (.if_icmp .ne 7, 3) := dc_160 (bq_nm bk_X11_meets_63 (j := 21) rfl rfl) (bq_nm bk_X11_meets_63 (j := 22) rfl rfl) (bq_nm bk_X11_meets_63 (j := 23) rfl rfl) rfl
theorem dX11_meets_87 : decode cX11_meets 87 = .ok (.iconst 1, 1) := dc_4 (bq_nm bk_X11_meets_63 (j := 24) rfl rfl)
theorem dX11_meets_88 : decode cX11_meets 88 = .ok (.goto 4, 3) := dc_167 (bq_nm bk_X11_meets_63 (j := 25) rfl rfl) (bq_nm bk_X11_meets_63 (j := 26) rfl rfl) (bq_nm bk_X11_meets_63 (j := 27) rfl rfl) rfl
theorem dX11_meets_91 : decode cX11_meets 91 = .ok (.iconst 0, 1) := dc_3 (bq_nm bk_X11_meets_63 (j := 28) rfl rfl)
theorem dX11_meets_92 : decode cX11_meets 92 = .ok (.istore_n 3, 1) := dc_62 (bq_nm bk_X11_meets_63 (j := 29) rfl rfl)
set_option maxRecDepth 20000 in
theorem bk_X11_meets_93 : ((cX11_meets.data.toList.drop 93).take 14).length = 14 ∧ eN (((cX11_meets.data.toList.drop 93).take 14).map UInt8.toNat) = 3490930560787585368305176221386116 := by decide +kernel
theorem dX11_meets_93 : decode cX11_meets 93 = .ok (.iinc 5 1, 3) := dc_132 (bq_nm bk_X11_meets_93 (j := 0) rfl rfl) (bq_nm bk_X11_meets_93 (j := 1) rfl rfl) (bq_nm bk_X11_meets_93 (j := 2) rfl rfl) rfl
theorem dX11_meets_96 : decode cX11_meets 96 = .ok (.goto (-53), 3) := dc_167 (bq_nm bk_X11_meets_93 (j := 3) rfl rfl) (bq_nm bk_X11_meets_93 (j := 4) rfl rfl) (bq_nm bk_X11_meets_93 (j := 5) rfl rfl) rfl
theorem dX11_meets_99 : decode cX11_meets 99 = .ok (.iinc 4 1, 3) := dc_132 (bq_nm bk_X11_meets_93 (j := 6) rfl rfl) (bq_nm bk_X11_meets_93 (j := 7) rfl rfl) (bq_nm bk_X11_meets_93 (j := 8) rfl rfl) rfl
theorem dX11_meets_102 : decode cX11_meets 102 = .ok (.goto (-68), 3) := dc_167 (bq_nm bk_X11_meets_93 (j := 9) rfl rfl) (bq_nm bk_X11_meets_93 (j := 10) rfl rfl) (bq_nm bk_X11_meets_93 (j := 11) rfl rfl) rfl
theorem dX11_meets_105 : decode cX11_meets 105 = .ok (.iload_n 3, 1) := dc_29 (bq_nm bk_X11_meets_93 (j := 12) rfl rfl)
theorem dX11_meets_106 : decode cX11_meets 106 = .ok (.ireturn, 1) := dc_172 (bq_nm bk_X11_meets_93 (j := 13) rfl rfl)
set_option maxRecDepth 20000 in
theorem bk_X11_areApart_0 : ((cX11_areApart.data.toList.drop 0).take 32).length = 32 ∧ eN (((cX11_areApart.data.toList.drop 0).take 32).map UInt8.toNat) = 43503503214662165258155372581180861916940972604296498794256507927298265857283 := by decide +kernel
theorem dX11_areApart_0 : decode cX11_areApart 0 = .ok (.iconst 0, 1) := dc_3 (bq_nm bk_X11_areApart_0 (j := 0) rfl rfl)
theorem dX11_areApart_1 : decode cX11_areApart 1 = .ok (.istore_n 2, 1) := dc_61 (bq_nm bk_X11_areApart_0 (j := 1) rfl rfl)
theorem dX11_areApart_2 : decode cX11_areApart 2 = .ok (.iload_n 2, 1) := dc_28 (bq_nm bk_X11_areApart_0 (j := 2) rfl rfl)
theorem dX11_areApart_3 : decode cX11_areApart 3 = .ok (.iload_n 1, 1) := dc_27 (bq_nm bk_X11_areApart_0 (j := 3) rfl rfl)
theorem dX11_areApart_4 : decode cX11_areApart 4 = .ok (.if_icmp .ge 133, 3) := dc_162 (bq_nm bk_X11_areApart_0 (j := 4) rfl rfl) (bq_nm bk_X11_areApart_0 (j := 5) rfl rfl) (bq_nm bk_X11_areApart_0 (j := 6) rfl rfl) rfl
theorem dX11_areApart_7 : decode cX11_areApart 7 = .ok (.iconst 0, 1) := dc_3 (bq_nm bk_X11_areApart_0 (j := 7) rfl rfl)
theorem dX11_areApart_8 : decode cX11_areApart 8 = .ok (.istore_n 3, 1) := dc_62 (bq_nm bk_X11_areApart_0 (j := 8) rfl rfl)
theorem dX11_areApart_9 : decode cX11_areApart 9 = .ok (.iload_n 3, 1) := dc_29 (bq_nm bk_X11_areApart_0 (j := 9) rfl rfl)
theorem dX11_areApart_10 : decode cX11_areApart 10 = .ok (.iload_n 2, 1) := dc_28 (bq_nm bk_X11_areApart_0 (j := 10) rfl rfl)
theorem dX11_areApart_11 : decode cX11_areApart 11 = .ok (.if_icmp .ge 120, 3) := dc_162 (bq_nm bk_X11_areApart_0 (j := 11) rfl rfl) (bq_nm bk_X11_areApart_0 (j := 12) rfl rfl) (bq_nm bk_X11_areApart_0 (j := 13) rfl rfl) rfl
theorem dX11_areApart_14 : decode cX11_areApart 14 = .ok (.aload_n 0, 1) := dc_42 (bq_nm bk_X11_areApart_0 (j := 14) rfl rfl)
theorem dX11_areApart_15 : decode cX11_areApart 15 = .ok (.aload_n 0, 1) := dc_42 (bq_nm bk_X11_areApart_0 (j := 15) rfl rfl)
theorem dX11_areApart_16 : decode cX11_areApart 16 = .ok (.getfield 54, 3) := dc_180 (bq_nm bk_X11_areApart_0 (j := 16) rfl rfl) (bq_nm bk_X11_areApart_0 (j := 17) rfl rfl) (bq_nm bk_X11_areApart_0 (j := 18) rfl rfl) rfl
theorem dX11_areApart_19 : decode cX11_areApart 19 = .ok (.iload_n 2, 1) := dc_28 (bq_nm bk_X11_areApart_0 (j := 19) rfl rfl)
theorem dX11_areApart_20 : decode cX11_areApart 20 = .ok (.iaload, 1) := dc_46 (bq_nm bk_X11_areApart_0 (j := 20) rfl rfl)
theorem dX11_areApart_21 : decode cX11_areApart 21 = .ok (.iconst 0, 1) := dc_3 (bq_nm bk_X11_areApart_0 (j := 21) rfl rfl)
theorem dX11_areApart_22 : decode cX11_areApart 22 = .ok (.invokevirtual 149, 3) := dc_182 (bq_nm bk_X11_areApart_0 (j := 22) rfl rfl) (bq_nm bk_X11_areApart_0 (j := 23) rfl rfl) (bq_nm bk_X11_areApart_0 (j := 24) rfl rfl) rfl
theorem dX11_areApart_25 : decode cX11_areApart 25 = .ok (.aload_n 0, 1) := dc_42 (bq_nm bk_X11_areApart_0 (j := 25) rfl rfl)
theorem dX11_areApart_26 : decode cX11_areApart 26 = .ok (.getfield 57, 3) := dc_180 (bq_nm bk_X11_areApart_0 (j := 26) rfl rfl) (bq_nm bk_X11_areApart_0 (j := 27) rfl rfl) (bq_nm bk_X11_areApart_0 (j := 28) rfl rfl) rfl
theorem dX11_areApart_29 : decode cX11_areApart 29 = .ok (.iload_n 2, 1) := dc_28 (bq_nm bk_X11_areApart_0 (j := 29) rfl rfl)
theorem dX11_areApart_30 : decode cX11_areApart 30 = .ok (.iaload, 1) := dc_46 (bq_nm bk_X11_areApart_0 (j := 30) rfl rfl)
theorem dX11_areApart_31 : decode cX11_areApart 31 = .ok (.iadd, 1) := dc_96 (bq_nm bk_X11_areApart_0 (j := 31) rfl rfl)
set_option maxRecDepth 20000 in
theorem bk_X11_areApart_32 : ((cX11_areApart.data.toList.drop 32).take 32).length = 32 ∧ eN (((cX11_areApart.data.toList.drop 32).take 32).map UInt8.toNat) = 13212487207643560318279787058650197473802061605950609622089903560581924389942 := by decide +kernel
theorem dX11_areApart_32 : decode cX11_areApart 32 = .ok (.istore 4, 2) := dc_54 (bq_nm bk_X11_areApart_32 (j := 0) rfl rfl) (bq_nm bk_X11_areApart_32 (j := 1) rfl rfl)
theorem dX11_areApart_34 : decode cX11_areApart 34 = .ok (.aload_n 0, 1) := dc_42 (bq_nm bk_X11_areApart_32 (j := 2) rfl rfl)
theorem dX11_areApart_35 : decode cX11_areApart 35 = .ok (.aload_n 0, 1) := dc_42 (bq_nm bk_X11_areApart_32 (j := 3) rfl rfl)
theorem dX11_areApart_36 : decode cX11_areApart 36 = .ok (.getfield 54, 3) := dc_180 (bq_nm bk_X11_areApart_32 (j := 4) rfl rfl) (bq_nm bk_X11_areApart_32 (j := 5) rfl rfl) (bq_nm bk_X11_areApart_32 (j := 6) rfl rfl) rfl
theorem dX11_areApart_39 : decode cX11_areApart 39 = .ok (.iload_n 3, 1) := dc_29 (bq_nm bk_X11_areApart_32 (j := 7) rfl rfl)
theorem dX11_areApart_40 : decode cX11_areApart 40 = .ok (.iaload, 1) := dc_46 (bq_nm bk_X11_areApart_32 (j := 8) rfl rfl)
theorem dX11_areApart_41 : decode cX11_areApart 41 = .ok (.iconst 0, 1) := dc_3 (bq_nm bk_X11_areApart_32 (j := 9) rfl rfl)
theorem dX11_areApart_42 : decode cX11_areApart 42 = .ok (.invokevirtual 149, 3) := dc_182 (bq_nm bk_X11_areApart_32 (j := 10) rfl rfl) (bq_nm bk_X11_areApart_32 (j := 11) rfl rfl) (bq_nm bk_X11_areApart_32 (j := 12) rfl rfl) rfl
theorem dX11_areApart_45 : decode cX11_areApart 45 = .ok (.aload_n 0, 1) := dc_42 (bq_nm bk_X11_areApart_32 (j := 13) rfl rfl)
theorem dX11_areApart_46 : decode cX11_areApart 46 = .ok (.getfield 57, 3) := dc_180 (bq_nm bk_X11_areApart_32 (j := 14) rfl rfl) (bq_nm bk_X11_areApart_32 (j := 15) rfl rfl) (bq_nm bk_X11_areApart_32 (j := 16) rfl rfl) rfl
theorem dX11_areApart_49 : decode cX11_areApart 49 = .ok (.iload_n 3, 1) := dc_29 (bq_nm bk_X11_areApart_32 (j := 17) rfl rfl)
theorem dX11_areApart_50 : decode cX11_areApart 50 = .ok (.iaload, 1) := dc_46 (bq_nm bk_X11_areApart_32 (j := 18) rfl rfl)
theorem dX11_areApart_51 : decode cX11_areApart 51 = .ok (.iadd, 1) := dc_96 (bq_nm bk_X11_areApart_32 (j := 19) rfl rfl)
theorem dX11_areApart_52 : decode cX11_areApart 52 = .ok (.istore 5, 2) := dc_54 (bq_nm bk_X11_areApart_32 (j := 20) rfl rfl) (bq_nm bk_X11_areApart_32 (j := 21) rfl rfl)
theorem dX11_areApart_54 : decode cX11_areApart 54 = .ok (.iload 4, 2) := dc_21 (bq_nm bk_X11_areApart_32 (j := 22) rfl rfl) (bq_nm bk_X11_areApart_32 (j := 23) rfl rfl)
theorem dX11_areApart_56 : decode cX11_areApart 56 = .ok (.iload 5, 2) := dc_21 (bq_nm bk_X11_areApart_32 (j := 24) rfl rfl) (bq_nm bk_X11_areApart_32 (j := 25) rfl rfl)
theorem dX11_areApart_58 : decode cX11_areApart 58 = .ok (.aload_n 0, 1) := dc_42 (bq_nm bk_X11_areApart_32 (j := 26) rfl rfl)
theorem dX11_areApart_59 : decode cX11_areApart 59 = .ok (.aload_n 0, 1) := dc_42 (bq_nm bk_X11_areApart_32 (j := 27) rfl rfl)
theorem dX11_areApart_60 : decode cX11_areApart 60 = .ok (.getfield 54, 3) := dc_180 (bq_nm bk_X11_areApart_32 (j := 28) rfl rfl) (bq_nm bk_X11_areApart_32 (j := 29) rfl rfl) (bq_nm bk_X11_areApart_32 (j := 30) rfl rfl) rfl
theorem dX11_areApart_63 : decode cX11_areApart 63 = .ok (.iload_n 3, 1) := dc_29 (bq_nm bk_X11_areApart_32 (j := 31) rfl rfl)
set_option maxRecDepth 20000 in
theorem bk_X11_areApart_64 : ((cX11_areApart.data.toList.drop 64).take 32).length = 32 ∧ eN (((cX11_areApart.data.toList.drop 64).take 32).map UInt8.toNat) = 1810404094550213218146731753907041301121914152792187698995060645711511421998 := by decide +kernel
theorem dX11_areApart_64 : decode cX11_areApart 64 = .ok (.iaload, 1) := dc_46 (bq_nm bk_X11_areApart_64 (j := 0) rfl rfl)
theorem dX11_areApart_65 : decode cX11_areApart 65 = .ok (.iconst 1, 1) := dc_4 (bq_nm bk_X11_areApart_64 (j := 1) rfl rfl)
theorem dX11_areApart_66 : decode cX11_areApart 66 = .ok (.invokevirtual 149, 3) := dc_182 (bq_nm bk_X11_areApart_64 (j := 2) rfl rfl) (bq_nm bk_X11_areApart_64 (j := 3) rfl rfl) (bq_nm bk_X11_areApart_64 (j := 4) rfl rfl) rfl
theorem dX11_areApart_69 : decode cX11_areApart 69 = .ok (.iadd, 1) := dc_96 (bq_nm bk_X11_areApart_64 (j := 5) rfl rfl)
theorem dX11_areApart_70 : decode cX11_areApart 70 = .ok (.if_icmp .ge 26, 3) := dc_162 (bq_nm bk_X11_areApart_64 (j := 6) rfl rfl) (bq_nm bk_X11_areApart_64 (j := 7) rfl rfl) (bq_nm bk_X11_areApart_64 (j := 8) rfl rfl) rfl
theorem dX11_areApart_73 : decode cX11_areApart 73 = .ok (.iload 5, 2) := dc_21 (bq_nm bk_X11_areApart_64 (j := 9) rfl rfl) (bq_nm bk_X11_areApart_64 (j := 10) rfl rfl)
theorem dX11_areApart_75 : decode cX11_areApart 75 = .ok (.iload 4, 2) := dc_21 (bq_nm bk_X11_areApart_64 (j := 11) rfl rfl) (bq_nm bk_X11_areApart_64 (j := 12) rfl rfl)
theorem dX11_areApart_77 : decode cX11_areApart 77 = .ok (.aload_n 0, 1) := dc_42 (bq_nm bk_X11_areApart_64 (j := 13) rfl rfl)
theorem dX11_areApart_78 : decode cX11_areApart 78 = .ok (.aload_n 0, 1) := dc_42 (bq_nm bk_X11_areApart_64 (j := 14) rfl rfl)
theorem dX11_areApart_79 : decode cX11_areApart 79 = .ok (.getfield 54, 3) := dc_180 (bq_nm bk_X11_areApart_64 (j := 15) rfl rfl) (bq_nm bk_X11_areApart_64 (j := 16) rfl rfl) (bq_nm bk_X11_areApart_64 (j := 17) rfl rfl) rfl
theorem dX11_areApart_82 : decode cX11_areApart 82 = .ok (.iload_n 2, 1) := dc_28 (bq_nm bk_X11_areApart_64 (j := 18) rfl rfl)
theorem dX11_areApart_83 : decode cX11_areApart 83 = .ok (.iaload, 1) := dc_46 (bq_nm bk_X11_areApart_64 (j := 19) rfl rfl)
theorem dX11_areApart_84 : decode cX11_areApart 84 = .ok (.iconst 1, 1) := dc_4 (bq_nm bk_X11_areApart_64 (j := 20) rfl rfl)
theorem dX11_areApart_85 : decode cX11_areApart 85 = .ok (.invokevirtual 149, 3) := dc_182 (bq_nm bk_X11_areApart_64 (j := 21) rfl rfl) (bq_nm bk_X11_areApart_64 (j := 22) rfl rfl) (bq_nm bk_X11_areApart_64 (j := 23) rfl rfl) rfl
theorem dX11_areApart_88 : decode cX11_areApart 88 = .ok (.iadd, 1) := dc_96 (bq_nm bk_X11_areApart_64 (j := 24) rfl rfl)
theorem dX11_areApart_89 : decode cX11_areApart 89 = .ok (.if_icmp .ge 7, 3) := dc_162 (bq_nm bk_X11_areApart_64 (j := 25) rfl rfl) (bq_nm bk_X11_areApart_64 (j := 26) rfl rfl) (bq_nm bk_X11_areApart_64 (j := 27) rfl rfl) rfl
theorem dX11_areApart_92 : decode cX11_areApart 92 = .ok (.iconst 1, 1) := dc_4 (bq_nm bk_X11_areApart_64 (j := 28) rfl rfl)
theorem dX11_areApart_93 : decode cX11_areApart 93 = .ok (.goto 4, 3) := dc_167 (bq_nm bk_X11_areApart_64 (j := 29) rfl rfl) (bq_nm bk_X11_areApart_64 (j := 30) rfl rfl) (bq_nm bk_X11_areApart_64 (j := 31) rfl rfl) rfl
set_option maxRecDepth 20000 in
theorem bk_X11_areApart_96 : ((cX11_areApart.data.toList.drop 96).take 32).length = 32 ∧ eN (((cX11_areApart.data.toList.drop 96).take 32).map UInt8.toNat) = 458529057724199367920999030145118397725699808465086881497371623237026723331 := by decide +kernel
theorem dX11_areApart_96 : decode cX11_areApart 96 = .ok (.iconst 0, 1) := dc_3 (bq_nm bk_X11_areApart_96 (j := 0) rfl rfl)
theorem dX11_areApart_97 : decode cX11_areApart 97 = .ok (.istore 6, 2) := dc_54 (bq_nm bk_X11_areApart_96 (j := 1) rfl rfl) (bq_nm bk_X11_areApart_96 (j := 2) rfl rfl)
theorem dX11_areApart_99 : decode cX11_areApart 99 = .ok (.iload 6, 2) := dc_21 (bq_nm bk_X11_areApart_96 (j := 3) rfl rfl) (bq_nm bk_X11_areApart_96 (j := 4) rfl rfl)
theorem dX11_areApart_101 : decode cX11_areApart 101 = .ok (.ifCond .eq 24, 3) := dc_153 (bq_nm bk_X11_areApart_96 (j := 5) rfl rfl) (bq_nm bk_X11_areApart_96 (j := 6) rfl rfl) (bq_nm bk_X11_areApart_96 (j := 7) rfl rfl) rfl
theorem dX11_areApart_104 : decode cX11_areApart 104 = .ok (.aload_n 0, 1) := dc_42 (bq_nm bk_X11_areApart_96 (j := 8) rfl rfl)
theorem dX11_areApart_105 : decode cX11_areApart 105 = .ok (.aload_n 0, 1) := dc_42 (bq_nm bk_X11_areApart_96 (j := 9) rfl rfl)
theorem dX11_areApart_106 : decode cX11_areApart 106 = .ok (.getfield 54, 3) := dc_180 (bq_nm bk_X11_areApart_96 (j := 10) rfl rfl) (bq_nm bk_X11_areApart_96 (j := 11) rfl rfl) (bq_nm bk_X11_areApart_96 (j := 12) rfl rfl) rfl
theorem dX11_areApart_109 : decode cX11_areApart 109 = .ok (.iload_n 2, 1) := dc_28 (bq_nm bk_X11_areApart_96 (j := 13) rfl rfl)
theorem dX11_areApart_110 : decode cX11_areApart 110 = .ok (.iaload, 1) := dc_46 (bq_nm bk_X11_areApart_96 (j := 14) rfl rfl)
theorem dX11_areApart_111 : decode cX11_areApart 111 = .ok (.aload_n 0, 1) := dc_42 (bq_nm bk_X11_areApart_96 (j := 15) rfl rfl)
theorem dX11_areApart_112 : decode cX11_areApart 112 = .ok (.getfield 54, 3) := dc_180 (bq_nm bk_X11_areApart_96 (j := 16) rfl rfl) (bq_nm bk_X11_areApart_96 (j := 17) rfl rfl) (bq_nm bk_X11_areApart_96 (j := 18) rfl rfl) rfl
theorem dX11_areApart_115 : decode cX11_areApart 115 = .ok (.iload_n 3, 1) := dc_29 (bq_nm bk_X11_areApart_96 (j := 19) rfl rfl)
theorem dX11_areApart_116 : decode cX11_areApart 116 = .ok (.iaload, 1) := dc_46 (bq_nm bk_X11_areApart_96 (j := 20) rfl rfl)
theorem dX11_areApart_117 : decode cX11_areApart 117 = .ok (.invokevirtual 250, 3) := dc_182 (bq_nm bk_X11_areApart_96 (j := 21) rfl rfl) (bq_nm bk_X11_areApart_96 (j := 22) rfl rfl) (bq_nm bk_X11_areApart_96 (j := 23) rfl rfl) rfl
theorem dX11_areApart_120 : decode cX11_areApart 120 = .ok (.ifCond .eq 5, 3) := dc_153 (bq_nm bk_X11_areApart_96 (j := 24) rfl rfl) (bq_nm bk_X11_areApart_96 (j := 25) rfl rfl) (bq_nm bk_X11_areApart_96 (j := 26) rfl rfl) rfl
theorem dX11_areApart_123 : decode cX11_areApart 123 = .ok (.iconst 0, 1) := dc_3 (bq_nm bk_X11_areApart_96 (j := 27) rfl rfl)
theorem dX11_areApart_124 : decode cX11_areApart 124 = .ok (.ireturn, 1) := dc_172 (bq_nm bk_X11_areApart_96 (j := 28) rfl rfl)
theorem dX11_areApart_125 : decode cX11_areApart 125 = .ok (.iinc 3 1, 3) := dc_132 (bq_nm bk_X11_areApart_96 (j := 29) rfl rfl) (bq_nm bk_X11_areApart_96 (j := 30) rfl rfl) (bq_nm bk_X11_areApart_96 (j := 31) rfl rfl) rfl
set_option maxRecDepth 20000 in
theorem bk_X11_areApart_128 : ((cX11_areApart.data.toList.drop 128).take 11).length = 11 ∧ eN (((cX11_areApart.data.toList.drop 128).take 11).map UInt8.toNat) = 207956436257606747722219431 := by decide +kernel
theorem dX11_areApart_128 : decode cX11_areApart 128 = .ok (.goto (-119), 3) := dc_167 (bq_nm bk_X11_areApart_128 (j := 0) rfl rfl) (bq_nm bk_X11_areApart_128 (j := 1) rfl rfl) (bq_nm bk_X11_areApart_128 (j := 2) rfl rfl) rfl
theorem dX11_areApart_131 : decode cX11_areApart 131 = .ok (.iinc 2 1, 3) := dc_132 (bq_nm bk_X11_areApart_128 (j := 3) rfl rfl) (bq_nm bk_X11_areApart_128 (j := 4) rfl rfl) (bq_nm bk_X11_areApart_128 (j := 5) rfl rfl) rfl
theorem dX11_areApart_134 : decode cX11_areApart 134 = .ok (.goto (-132), 3) := dc_167 (bq_nm bk_X11_areApart_128 (j := 6) rfl rfl) (bq_nm bk_X11_areApart_128 (j := 7) rfl rfl) (bq_nm bk_X11_areApart_128 (j := 8) rfl rfl) rfl
theorem dX11_areApart_137 : decode cX11_areApart 137 = .ok (.iconst 1, 1) := dc_4 (bq_nm bk_X11_areApart_128 (j := 9) rfl rfl)
theorem dX11_areApart_138 : decode cX11_areApart 138 = .ok (.ireturn, 1) := dc_172 (bq_nm bk_X11_areApart_128 (j := 10) rfl rfl)
set_option maxRecDepth 20000 in
theorem bk_X11_clash_0 : ((cX11_clash.data.toList.drop 0).take 31).length = 31 ∧ eN (((cX11_clash.data.toList.drop 0).take 31).map UInt8.toNat) = 3727617092997641427435144570792541431408564408843872209311581220513613083 := by decide +kernel
theorem dX11_clash_0 : decode cX11_clash 0 = .ok (.iload_n 1, 1) := dc_27 (bq_nm bk_X11_clash_0 (j := 0) rfl rfl)
theorem dX11_clash_1 : decode cX11_clash 1 = .ok (.i2l, 1) := dc_133 (bq_nm bk_X11_clash_0 (j := 1) rfl rfl)
theorem dX11_clash_2 : decode cX11_clash 2 = .ok (.lconst 0, 1) := dc_9 (bq_nm bk_X11_clash_0 (j := 2) rfl rfl)
theorem dX11_clash_3 : decode cX11_clash 3 = .ok (.iconst 1, 1) := dc_4 (bq_nm bk_X11_clash_0 (j := 3) rfl rfl)
theorem dX11_clash_4 : decode cX11_clash 4 = .ok (.aload_n 0, 1) := dc_42 (bq_nm bk_X11_clash_0 (j := 4) rfl rfl)
theorem dX11_clash_5 : decode cX11_clash 5 = .ok (.getfield 7, 3) := dc_180 (bq_nm bk_X11_clash_0 (j := 5) rfl rfl) (bq_nm bk_X11_clash_0 (j := 6) rfl rfl) (bq_nm bk_X11_clash_0 (j := 7) rfl rfl) rfl
theorem dX11_clash_8 : decode cX11_clash 8 = .ok (.iconst 4, 1) := dc_7 (bq_nm bk_X11_clash_0 (j := 8) rfl rfl)
theorem dX11_clash_9 : decode cX11_clash 9 = .ok (.iaload, 1) := dc_46 (bq_nm bk_X11_clash_0 (j := 9) rfl rfl)
theorem dX11_clash_10 : decode cX11_clash 10 = .ok (.ishl, 1) := dc_120 (bq_nm bk_X11_clash_0 (j := 10) rfl rfl)
theorem dX11_clash_11 : decode cX11_clash 11 = .ok (.iconst 1, 1) := dc_4 (bq_nm bk_X11_clash_0 (j := 11) rfl rfl)
theorem dX11_clash_12 : decode cX11_clash 12 = .ok (.isub, 1) := dc_100 (bq_nm bk_X11_clash_0 (j := 12) rfl rfl)
theorem dX11_clash_13 : decode cX11_clash 13 = .ok (.i2l, 1) := dc_133 (bq_nm bk_X11_clash_0 (j := 13) rfl rfl)
theorem dX11_clash_14 : decode cX11_clash 14 = .ok (.invokestatic 67, 3) := dc_184 (bq_nm bk_X11_clash_0 (j := 14) rfl rfl) (bq_nm bk_X11_clash_0 (j := 15) rfl rfl) (bq_nm bk_X11_clash_0 (j := 16) rfl rfl) rfl
theorem dX11_clash_17 : decode cX11_clash 17 = .ok (.ifCond .eq 34, 3) := dc_153 (bq_nm bk_X11_clash_0 (j := 17) rfl rfl) (bq_nm bk_X11_clash_0 (j := 18) rfl rfl) (bq_nm bk_X11_clash_0 (j := 19) rfl rfl) rfl
theorem dX11_clash_20 : decode cX11_clash 20 = .ok (.iload_n 1, 1) := dc_27 (bq_nm bk_X11_clash_0 (j := 20) rfl rfl)
theorem dX11_clash_21 : decode cX11_clash 21 = .ok (.invokestatic 222, 3) := dc_184 (bq_nm bk_X11_clash_0 (j := 21) rfl rfl) (bq_nm bk_X11_clash_0 (j := 22) rfl rfl) (bq_nm bk_X11_clash_0 (j := 23) rfl rfl) rfl
theorem dX11_clash_24 : decode cX11_clash 24 = .ok (.bipush 6, 2) := dc_16 (bq_nm bk_X11_clash_0 (j := 24) rfl rfl) (bq_nm bk_X11_clash_0 (j := 25) rfl rfl) rfl
theorem dX11_clash_26 : decode cX11_clash 26 = .ok (.if_icmp .gt 25, 3) := dc_163 (bq_nm bk_X11_clash_0 (j := 26) rfl rfl) (bq_nm bk_X11_clash_0 (j := 27) rfl rfl) (bq_nm bk_X11_clash_0 (j := 28) rfl rfl) rfl
theorem dX11_clash_29 : decode cX11_clash 29 = .ok (.iload_n 2, 1) := dc_28 (bq_nm bk_X11_clash_0 (j := 29) rfl rfl)
theorem dX11_clash_30 : decode cX11_clash 30 = .ok (.iconst (-1), 1) := dc_2 (bq_nm bk_X11_clash_0 (j := 30) rfl rfl)
set_option maxRecDepth 20000 in
theorem bk_X11_clash_31 : ((cX11_clash.data.toList.drop 31).take 31).length = 31 ∧ eN (((cX11_clash.data.toList.drop 31).take 31).map UInt8.toNat) = 9207010949928908765033182588673654842663441770490996431883214205580935327 := by decide +kernel
theorem dX11_clash_31 : decode cX11_clash 31 = .ok (.if_icmp .eq 23, 3) := dc_159 (bq_nm bk_X11_clash_31 (j := 0) rfl rfl) (bq_nm bk_X11_clash_31 (j := 1) rfl rfl) (bq_nm bk_X11_clash_31 (j := 2) rfl rfl) rfl
theorem dX11_clash_34 : decode cX11_clash 34 = .ok (.aload_n 0, 1) := dc_42 (bq_nm bk_X11_clash_31 (j := 3) rfl rfl)
theorem dX11_clash_35 : decode cX11_clash 35 = .ok (.iconst 4, 1) := dc_7 (bq_nm bk_X11_clash_31 (j := 4) rfl rfl)
theorem dX11_clash_36 : decode cX11_clash 36 = .ok (.iload_n 2, 1) := dc_28 (bq_nm bk_X11_clash_31 (j := 5) rfl rfl)
theorem dX11_clash_37 : decode cX11_clash 37 = .ok (.invokevirtual 87, 3) := dc_182 (bq_nm bk_X11_clash_31 (j := 6) rfl rfl) (bq_nm bk_X11_clash_31 (j := 7) rfl rfl) (bq_nm bk_X11_clash_31 (j := 8) rfl rfl) rfl
theorem dX11_clash_40 : decode cX11_clash 40 = .ok (.ifCond .eq 11, 3) := dc_153 (bq_nm bk_X11_clash_31 (j := 9) rfl rfl) (bq_nm bk_X11_clash_31 (j := 10) rfl rfl) (bq_nm bk_X11_clash_31 (j := 11) rfl rfl) rfl
theorem dX11_clash_43 : decode cX11_clash 43 = .ok (.iload_n 1, 1) := dc_27 (bq_nm bk_X11_clash_31 (j := 12) rfl rfl)
theorem dX11_clash_44 : decode cX11_clash 44 = .ok (.iload_n 2, 1) := dc_28 (bq_nm bk_X11_clash_31 (j := 13) rfl rfl)
theorem dX11_clash_45 : decode cX11_clash 45 = .ok (.ishr, 1) := dc_122 (bq_nm bk_X11_clash_31 (j := 14) rfl rfl)
theorem dX11_clash_46 : decode cX11_clash 46 = .ok (.iconst 1, 1) := dc_4 (bq_nm bk_X11_clash_31 (j := 15) rfl rfl)
theorem dX11_clash_47 : decode cX11_clash 47 = .ok (.iand, 1) := dc_126 (bq_nm bk_X11_clash_31 (j := 16) rfl rfl)
theorem dX11_clash_48 : decode cX11_clash 48 = .ok (.ifCond .ne 6, 3) := dc_154 (bq_nm bk_X11_clash_31 (j := 17) rfl rfl) (bq_nm bk_X11_clash_31 (j := 18) rfl rfl) (bq_nm bk_X11_clash_31 (j := 19) rfl rfl) rfl
theorem dX11_clash_51 : decode cX11_clash 51 = .ok (.bipush (-10), 2) := dc_16 (bq_nm bk_X11_clash_31 (j := 20) rfl rfl) (bq_nm bk_X11_clash_31 (j := 21) rfl rfl) rfl
theorem dX11_clash_53 : decode cX11_clash 53 = .ok (.ireturn, 1) := dc_172 (bq_nm bk_X11_clash_31 (j := 22) rfl rfl)
theorem dX11_clash_54 : decode cX11_clash 54 = .ok (.iconst 0, 1) := dc_3 (bq_nm bk_X11_clash_31 (j := 23) rfl rfl)
theorem dX11_clash_55 : decode cX11_clash 55 = .ok (.istore_n 3, 1) := dc_62 (bq_nm bk_X11_clash_31 (j := 24) rfl rfl)
theorem dX11_clash_56 : decode cX11_clash 56 = .ok (.iconst 1, 1) := dc_4 (bq_nm bk_X11_clash_31 (j := 25) rfl rfl)
theorem dX11_clash_57 : decode cX11_clash 57 = .ok (.istore 4, 2) := dc_54 (bq_nm bk_X11_clash_31 (j := 26) rfl rfl) (bq_nm bk_X11_clash_31 (j := 27) rfl rfl)
theorem dX11_clash_59 : decode cX11_clash 59 = .ok (.iconst 0, 1) := dc_3 (bq_nm bk_X11_clash_31 (j := 28) rfl rfl)
theorem dX11_clash_60 : decode cX11_clash 60 = .ok (.istore 5, 2) := dc_54 (bq_nm bk_X11_clash_31 (j := 29) rfl rfl) (bq_nm bk_X11_clash_31 (j := 30) rfl rfl)
set_option maxRecDepth 20000 in
theorem bk_X11_clash_62 : ((cX11_clash.data.toList.drop 62).take 32).length = 32 ∧ eN (((cX11_clash.data.toList.drop 62).take 32).map UInt8.toNat) = 458526550666411898135315025565532754206056638102759336264833255402145187093 := by decide +kernel
theorem dX11_clash_62 : decode cX11_clash 62 = .ok (.iload 5, 2) := dc_21 (bq_nm bk_X11_clash_62 (j := 0) rfl rfl) (bq_nm bk_X11_clash_62 (j := 1) rfl rfl)
theorem dX11_clash_64 : decode cX11_clash 64 = .ok (.aload_n 0, 1) := dc_42 (bq_nm bk_X11_clash_62 (j := 2) rfl rfl)
theorem dX11_clash_65 : decode cX11_clash 65 = .ok (.getfield 7, 3) := dc_180 (bq_nm bk_X11_clash_62 (j := 3) rfl rfl) (bq_nm bk_X11_clash_62 (j := 4) rfl rfl) (bq_nm bk_X11_clash_62 (j := 5) rfl rfl) rfl
theorem dX11_clash_68 : decode cX11_clash 68 = .ok (.iconst 4, 1) := dc_7 (bq_nm bk_X11_clash_62 (j := 6) rfl rfl)
theorem dX11_clash_69 : decode cX11_clash 69 = .ok (.iaload, 1) := dc_46 (bq_nm bk_X11_clash_62 (j := 7) rfl rfl)
theorem dX11_clash_70 : decode cX11_clash 70 = .ok (.if_icmp .ge 37, 3) := dc_162 (bq_nm bk_X11_clash_62 (j := 8) rfl rfl) (bq_nm bk_X11_clash_62 (j := 9) rfl rfl) (bq_nm bk_X11_clash_62 (j := 10) rfl rfl) rfl
theorem dX11_clash_73 : decode cX11_clash 73 = .ok (.iload_n 1, 1) := dc_27 (bq_nm bk_X11_clash_62 (j := 11) rfl rfl)
theorem dX11_clash_74 : decode cX11_clash 74 = .ok (.iload 5, 2) := dc_21 (bq_nm bk_X11_clash_62 (j := 12) rfl rfl) (bq_nm bk_X11_clash_62 (j := 13) rfl rfl)
theorem dX11_clash_76 : decode cX11_clash 76 = .ok (.ishr, 1) := dc_122 (bq_nm bk_X11_clash_62 (j := 14) rfl rfl)
theorem dX11_clash_77 : decode cX11_clash 77 = .ok (.iconst 1, 1) := dc_4 (bq_nm bk_X11_clash_62 (j := 15) rfl rfl)
theorem dX11_clash_78 : decode cX11_clash 78 = .ok (.iand, 1) := dc_126 (bq_nm bk_X11_clash_62 (j := 16) rfl rfl)
theorem dX11_clash_79 : decode cX11_clash 79 = .ok (.iconst 1, 1) := dc_4 (bq_nm bk_X11_clash_62 (j := 17) rfl rfl)
theorem dX11_clash_80 : decode cX11_clash 80 = .ok (.if_icmp .ne 21, 3) := dc_160 (bq_nm bk_X11_clash_62 (j := 18) rfl rfl) (bq_nm bk_X11_clash_62 (j := 19) rfl rfl) (bq_nm bk_X11_clash_62 (j := 20) rfl rfl) rfl
theorem dX11_clash_83 : decode cX11_clash 83 = .ok (.aload_n 0, 1) := dc_42 (bq_nm bk_X11_clash_62 (j := 21) rfl rfl)
theorem dX11_clash_84 : decode cX11_clash 84 = .ok (.getfield 54, 3) := dc_180 (bq_nm bk_X11_clash_62 (j := 22) rfl rfl) (bq_nm bk_X11_clash_62 (j := 23) rfl rfl) (bq_nm bk_X11_clash_62 (j := 24) rfl rfl) rfl
theorem dX11_clash_87 : decode cX11_clash 87 = .ok (.iload_n 3, 1) := dc_29 (bq_nm bk_X11_clash_62 (j := 25) rfl rfl)
theorem dX11_clash_88 : decode cX11_clash 88 = .ok (.iload 5, 2) := dc_21 (bq_nm bk_X11_clash_62 (j := 26) rfl rfl) (bq_nm bk_X11_clash_62 (j := 27) rfl rfl)
theorem dX11_clash_90 : decode cX11_clash 90 = .ok (.iastore, 1) := dc_79 (bq_nm bk_X11_clash_62 (j := 28) rfl rfl)
theorem dX11_clash_91 : decode cX11_clash 91 = .ok (.iinc 3 1, 3) := dc_132 (bq_nm bk_X11_clash_62 (j := 29) rfl rfl) (bq_nm bk_X11_clash_62 (j := 30) rfl rfl) (bq_nm bk_X11_clash_62 (j := 31) rfl rfl) rfl
set_option maxRecDepth 20000 in
theorem bk_X11_clash_94 : ((cX11_clash.data.toList.drop 94).take 31).length = 31 ∧ eN (((cX11_clash.data.toList.drop 94).take 31).map UInt8.toNat) = 5350309896583377730888033314579381409595250482346122667087604816804840469 := by decide +kernel
theorem dX11_clash_94 : decode cX11_clash 94 = .ok (.iload 4, 2) := dc_21 (bq_nm bk_X11_clash_94 (j := 0) rfl rfl) (bq_nm bk_X11_clash_94 (j := 1) rfl rfl)
theorem dX11_clash_96 : decode cX11_clash 96 = .ok (.bipush 6, 2) := dc_16 (bq_nm bk_X11_clash_94 (j := 2) rfl rfl) (bq_nm bk_X11_clash_94 (j := 3) rfl rfl) rfl
theorem dX11_clash_98 : decode cX11_clash 98 = .ok (.imul, 1) := dc_104 (bq_nm bk_X11_clash_94 (j := 4) rfl rfl)
theorem dX11_clash_99 : decode cX11_clash 99 = .ok (.istore 4, 2) := dc_54 (bq_nm bk_X11_clash_94 (j := 5) rfl rfl) (bq_nm bk_X11_clash_94 (j := 6) rfl rfl)
theorem dX11_clash_101 : decode cX11_clash 101 = .ok (.iinc 5 1, 3) := dc_132 (bq_nm bk_X11_clash_94 (j := 7) rfl rfl) (bq_nm bk_X11_clash_94 (j := 8) rfl rfl) (bq_nm bk_X11_clash_94 (j := 9) rfl rfl) rfl
theorem dX11_clash_104 : decode cX11_clash 104 = .ok (.goto (-42), 3) := dc_167 (bq_nm bk_X11_clash_94 (j := 10) rfl rfl) (bq_nm bk_X11_clash_94 (j := 11) rfl rfl) (bq_nm bk_X11_clash_94 (j := 12) rfl rfl) rfl
theorem dX11_clash_107 : decode cX11_clash 107 = .ok (.iconst (-1), 1) := dc_2 (bq_nm bk_X11_clash_94 (j := 13) rfl rfl)
theorem dX11_clash_108 : decode cX11_clash 108 = .ok (.istore 5, 2) := dc_54 (bq_nm bk_X11_clash_94 (j := 14) rfl rfl) (bq_nm bk_X11_clash_94 (j := 15) rfl rfl)
theorem dX11_clash_110 : decode cX11_clash 110 = .ok (.iconst 0, 1) := dc_3 (bq_nm bk_X11_clash_94 (j := 16) rfl rfl)
theorem dX11_clash_111 : decode cX11_clash 111 = .ok (.istore 6, 2) := dc_54 (bq_nm bk_X11_clash_94 (j := 17) rfl rfl) (bq_nm bk_X11_clash_94 (j := 18) rfl rfl)
theorem dX11_clash_113 : decode cX11_clash 113 = .ok (.iload 6, 2) := dc_21 (bq_nm bk_X11_clash_94 (j := 19) rfl rfl) (bq_nm bk_X11_clash_94 (j := 20) rfl rfl)
theorem dX11_clash_115 : decode cX11_clash 115 = .ok (.iload 4, 2) := dc_21 (bq_nm bk_X11_clash_94 (j := 21) rfl rfl) (bq_nm bk_X11_clash_94 (j := 22) rfl rfl)
theorem dX11_clash_117 : decode cX11_clash 117 = .ok (.if_icmp .ge 117, 3) := dc_162 (bq_nm bk_X11_clash_94 (j := 23) rfl rfl) (bq_nm bk_X11_clash_94 (j := 24) rfl rfl) (bq_nm bk_X11_clash_94 (j := 25) rfl rfl) rfl
theorem dX11_clash_120 : decode cX11_clash 120 = .ok (.iload 6, 2) := dc_21 (bq_nm bk_X11_clash_94 (j := 26) rfl rfl) (bq_nm bk_X11_clash_94 (j := 27) rfl rfl)
theorem dX11_clash_122 : decode cX11_clash 122 = .ok (.istore 7, 2) := dc_54 (bq_nm bk_X11_clash_94 (j := 28) rfl rfl) (bq_nm bk_X11_clash_94 (j := 29) rfl rfl)
theorem dX11_clash_124 : decode cX11_clash 124 = .ok (.iconst 0, 1) := dc_3 (bq_nm bk_X11_clash_94 (j := 30) rfl rfl)
set_option maxRecDepth 20000 in
theorem bk_X11_clash_125 : ((cX11_clash.data.toList.drop 125).take 31).length = 31 ∧ eN (((cX11_clash.data.toList.drop 125).take 31).map UInt8.toNat) = 12743536068882583594580684499263583035810655904605055206336106385194682422 := by decide +kernel
theorem dX11_clash_125 : decode cX11_clash 125 = .ok (.istore 8, 2) := dc_54 (bq_nm bk_X11_clash_125 (j := 0) rfl rfl) (bq_nm bk_X11_clash_125 (j := 1) rfl rfl)
theorem dX11_clash_127 : decode cX11_clash 127 = .ok (.iload_n 3, 1) := dc_29 (bq_nm bk_X11_clash_125 (j := 2) rfl rfl)
theorem dX11_clash_128 : decode cX11_clash 128 = .ok (.iconst 1, 1) := dc_4 (bq_nm bk_X11_clash_125 (j := 3) rfl rfl)
theorem dX11_clash_129 : decode cX11_clash 129 = .ok (.isub, 1) := dc_100 (bq_nm bk_X11_clash_125 (j := 4) rfl rfl)
theorem dX11_clash_130 : decode cX11_clash 130 = .ok (.istore 9, 2) := dc_54 (bq_nm bk_X11_clash_125 (j := 5) rfl rfl) (bq_nm bk_X11_clash_125 (j := 6) rfl rfl)
theorem dX11_clash_132 : decode cX11_clash 132 = .ok (.iload 9, 2) := dc_21 (bq_nm bk_X11_clash_125 (j := 7) rfl rfl) (bq_nm bk_X11_clash_125 (j := 8) rfl rfl)
theorem dX11_clash_134 : decode cX11_clash 134 = .ok (.ifCond .lt 40, 3) := dc_155 (bq_nm bk_X11_clash_125 (j := 9) rfl rfl) (bq_nm bk_X11_clash_125 (j := 10) rfl rfl) (bq_nm bk_X11_clash_125 (j := 11) rfl rfl) rfl
theorem dX11_clash_137 : decode cX11_clash 137 = .ok (.aload_n 0, 1) := dc_42 (bq_nm bk_X11_clash_125 (j := 12) rfl rfl)
theorem dX11_clash_138 : decode cX11_clash 138 = .ok (.getfield 57, 3) := dc_180 (bq_nm bk_X11_clash_125 (j := 13) rfl rfl) (bq_nm bk_X11_clash_125 (j := 14) rfl rfl) (bq_nm bk_X11_clash_125 (j := 15) rfl rfl) rfl
theorem dX11_clash_141 : decode cX11_clash 141 = .ok (.iload 9, 2) := dc_21 (bq_nm bk_X11_clash_125 (j := 16) rfl rfl) (bq_nm bk_X11_clash_125 (j := 17) rfl rfl)
theorem dX11_clash_143 : decode cX11_clash 143 = .ok (.iload 7, 2) := dc_21 (bq_nm bk_X11_clash_125 (j := 18) rfl rfl) (bq_nm bk_X11_clash_125 (j := 19) rfl rfl)
theorem dX11_clash_145 : decode cX11_clash 145 = .ok (.bipush 6, 2) := dc_16 (bq_nm bk_X11_clash_125 (j := 20) rfl rfl) (bq_nm bk_X11_clash_125 (j := 21) rfl rfl) rfl
theorem dX11_clash_147 : decode cX11_clash 147 = .ok (.irem, 1) := dc_112 (bq_nm bk_X11_clash_125 (j := 22) rfl rfl)
theorem dX11_clash_148 : decode cX11_clash 148 = .ok (.iastore, 1) := dc_79 (bq_nm bk_X11_clash_125 (j := 23) rfl rfl)
theorem dX11_clash_149 : decode cX11_clash 149 = .ok (.iload 7, 2) := dc_21 (bq_nm bk_X11_clash_125 (j := 24) rfl rfl) (bq_nm bk_X11_clash_125 (j := 25) rfl rfl)
theorem dX11_clash_151 : decode cX11_clash 151 = .ok (.bipush 6, 2) := dc_16 (bq_nm bk_X11_clash_125 (j := 26) rfl rfl) (bq_nm bk_X11_clash_125 (j := 27) rfl rfl) rfl
theorem dX11_clash_153 : decode cX11_clash 153 = .ok (.idiv, 1) := dc_108 (bq_nm bk_X11_clash_125 (j := 28) rfl rfl)
theorem dX11_clash_154 : decode cX11_clash 154 = .ok (.istore 7, 2) := dc_54 (bq_nm bk_X11_clash_125 (j := 29) rfl rfl) (bq_nm bk_X11_clash_125 (j := 30) rfl rfl)
set_option maxRecDepth 20000 in
theorem bk_X11_clash_156 : ((cX11_clash.data.toList.drop 156).take 32).length = 32 ∧ eN (((cX11_clash.data.toList.drop 156).take 32).map UInt8.toNat) = 19074885279394010645422398112783620165864948473350199800776722230430535387157 := by decide +kernel
theorem dX11_clash_156 : decode cX11_clash 156 = .ok (.iload 8, 2) := dc_21 (bq_nm bk_X11_clash_156 (j := 0) rfl rfl) (bq_nm bk_X11_clash_156 (j := 1) rfl rfl)
theorem dX11_clash_158 : decode cX11_clash 158 = .ok (.aload_n 0, 1) := dc_42 (bq_nm bk_X11_clash_156 (j := 2) rfl rfl)
theorem dX11_clash_159 : decode cX11_clash 159 = .ok (.getfield 57, 3) := dc_180 (bq_nm bk_X11_clash_156 (j := 3) rfl rfl) (bq_nm bk_X11_clash_156 (j := 4) rfl rfl) (bq_nm bk_X11_clash_156 (j := 5) rfl rfl) rfl
theorem dX11_clash_162 : decode cX11_clash 162 = .ok (.iload 9, 2) := dc_21 (bq_nm bk_X11_clash_156 (j := 6) rfl rfl) (bq_nm bk_X11_clash_156 (j := 7) rfl rfl)
theorem dX11_clash_164 : decode cX11_clash 164 = .ok (.iaload, 1) := dc_46 (bq_nm bk_X11_clash_156 (j := 8) rfl rfl)
theorem dX11_clash_165 : decode cX11_clash 165 = .ok (.iadd, 1) := dc_96 (bq_nm bk_X11_clash_156 (j := 9) rfl rfl)
theorem dX11_clash_166 : decode cX11_clash 166 = .ok (.istore 8, 2) := dc_54 (bq_nm bk_X11_clash_156 (j := 10) rfl rfl) (bq_nm bk_X11_clash_156 (j := 11) rfl rfl)
theorem dX11_clash_168 : decode cX11_clash 168 = .ok (.iinc 9 (-1), 3) := dc_132 (bq_nm bk_X11_clash_156 (j := 12) rfl rfl) (bq_nm bk_X11_clash_156 (j := 13) rfl rfl) (bq_nm bk_X11_clash_156 (j := 14) rfl rfl) rfl
theorem dX11_clash_171 : decode cX11_clash 171 = .ok (.goto (-39), 3) := dc_167 (bq_nm bk_X11_clash_156 (j := 15) rfl rfl) (bq_nm bk_X11_clash_156 (j := 16) rfl rfl) (bq_nm bk_X11_clash_156 (j := 17) rfl rfl) rfl
theorem dX11_clash_174 : decode cX11_clash 174 = .ok (.iload 5, 2) := dc_21 (bq_nm bk_X11_clash_156 (j := 18) rfl rfl) (bq_nm bk_X11_clash_156 (j := 19) rfl rfl)
theorem dX11_clash_176 : decode cX11_clash 176 = .ok (.iconst (-1), 1) := dc_2 (bq_nm bk_X11_clash_156 (j := 20) rfl rfl)
theorem dX11_clash_177 : decode cX11_clash 177 = .ok (.if_icmp .eq 10, 3) := dc_159 (bq_nm bk_X11_clash_156 (j := 21) rfl rfl) (bq_nm bk_X11_clash_156 (j := 22) rfl rfl) (bq_nm bk_X11_clash_156 (j := 23) rfl rfl) rfl
theorem dX11_clash_180 : decode cX11_clash 180 = .ok (.iload 8, 2) := dc_21 (bq_nm bk_X11_clash_156 (j := 24) rfl rfl) (bq_nm bk_X11_clash_156 (j := 25) rfl rfl)
theorem dX11_clash_182 : decode cX11_clash 182 = .ok (.iload 5, 2) := dc_21 (bq_nm bk_X11_clash_156 (j := 26) rfl rfl) (bq_nm bk_X11_clash_156 (j := 27) rfl rfl)
theorem dX11_clash_184 : decode cX11_clash 184 = .ok (.if_icmp .ge 44, 3) := dc_162 (bq_nm bk_X11_clash_156 (j := 28) rfl rfl) (bq_nm bk_X11_clash_156 (j := 29) rfl rfl) (bq_nm bk_X11_clash_156 (j := 30) rfl rfl) rfl
theorem dX11_clash_187 : decode cX11_clash 187 = .ok (.aload_n 0, 1) := dc_42 (bq_nm bk_X11_clash_156 (j := 31) rfl rfl)
set_option maxRecDepth 20000 in
theorem bk_X11_clash_188 : ((cX11_clash.data.toList.drop 188).take 32).length = 32 ∧ eN (((cX11_clash.data.toList.drop 188).take 32).map UInt8.toNat) = 4108312844125015522342014640153174607165565437332802423396229310364208117277 := by decide +kernel
theorem dX11_clash_188 : decode cX11_clash 188 = .ok (.iload_n 3, 1) := dc_29 (bq_nm bk_X11_clash_188 (j := 0) rfl rfl)
theorem dX11_clash_189 : decode cX11_clash 189 = .ok (.invokevirtual 253, 3) := dc_182 (bq_nm bk_X11_clash_188 (j := 1) rfl rfl) (bq_nm bk_X11_clash_188 (j := 2) rfl rfl) (bq_nm bk_X11_clash_188 (j := 3) rfl rfl) rfl
theorem dX11_clash_192 : decode cX11_clash 192 = .ok (.ifCond .eq 36, 3) := dc_153 (bq_nm bk_X11_clash_188 (j := 4) rfl rfl) (bq_nm bk_X11_clash_188 (j := 5) rfl rfl) (bq_nm bk_X11_clash_188 (j := 6) rfl rfl) rfl
theorem dX11_clash_195 : decode cX11_clash 195 = .ok (.iload 8, 2) := dc_21 (bq_nm bk_X11_clash_188 (j := 7) rfl rfl) (bq_nm bk_X11_clash_188 (j := 8) rfl rfl)
theorem dX11_clash_197 : decode cX11_clash 197 = .ok (.istore 5, 2) := dc_54 (bq_nm bk_X11_clash_188 (j := 9) rfl rfl) (bq_nm bk_X11_clash_188 (j := 10) rfl rfl)
theorem dX11_clash_199 : decode cX11_clash 199 = .ok (.iconst 0, 1) := dc_3 (bq_nm bk_X11_clash_188 (j := 11) rfl rfl)
theorem dX11_clash_200 : decode cX11_clash 200 = .ok (.istore 9, 2) := dc_54 (bq_nm bk_X11_clash_188 (j := 12) rfl rfl) (bq_nm bk_X11_clash_188 (j := 13) rfl rfl)
theorem dX11_clash_202 : decode cX11_clash 202 = .ok (.iload 9, 2) := dc_21 (bq_nm bk_X11_clash_188 (j := 14) rfl rfl) (bq_nm bk_X11_clash_188 (j := 15) rfl rfl)
theorem dX11_clash_204 : decode cX11_clash 204 = .ok (.iload_n 3, 1) := dc_29 (bq_nm bk_X11_clash_188 (j := 16) rfl rfl)
theorem dX11_clash_205 : decode cX11_clash 205 = .ok (.if_icmp .ge 23, 3) := dc_162 (bq_nm bk_X11_clash_188 (j := 17) rfl rfl) (bq_nm bk_X11_clash_188 (j := 18) rfl rfl) (bq_nm bk_X11_clash_188 (j := 19) rfl rfl) rfl
theorem dX11_clash_208 : decode cX11_clash 208 = .ok (.aload_n 0, 1) := dc_42 (bq_nm bk_X11_clash_188 (j := 20) rfl rfl)
theorem dX11_clash_209 : decode cX11_clash 209 = .ok (.getfield 60, 3) := dc_180 (bq_nm bk_X11_clash_188 (j := 21) rfl rfl) (bq_nm bk_X11_clash_188 (j := 22) rfl rfl) (bq_nm bk_X11_clash_188 (j := 23) rfl rfl) rfl
theorem dX11_clash_212 : decode cX11_clash 212 = .ok (.iload 9, 2) := dc_21 (bq_nm bk_X11_clash_188 (j := 24) rfl rfl) (bq_nm bk_X11_clash_188 (j := 25) rfl rfl)
theorem dX11_clash_214 : decode cX11_clash 214 = .ok (.aload_n 0, 1) := dc_42 (bq_nm bk_X11_clash_188 (j := 26) rfl rfl)
theorem dX11_clash_215 : decode cX11_clash 215 = .ok (.getfield 57, 3) := dc_180 (bq_nm bk_X11_clash_188 (j := 27) rfl rfl) (bq_nm bk_X11_clash_188 (j := 28) rfl rfl) (bq_nm bk_X11_clash_188 (j := 29) rfl rfl) rfl
theorem dX11_clash_218 : decode cX11_clash 218 = .ok (.iload 9, 2) := dc_21 (bq_nm bk_X11_clash_188 (j := 30) rfl rfl) (bq_nm bk_X11_clash_188 (j := 31) rfl rfl)
set_option maxRecDepth 20000 in
theorem bk_X11_clash_220 : ((cX11_clash.data.toList.drop 220).take 30).length = 30 ∧ eN (((cX11_clash.data.toList.drop 220).take 30).map UInt8.toNat) = 194489695856252724765607515231359736170571512676737442930832517655449390 := by decide +kernel
theorem dX11_clash_220 : decode cX11_clash 220 = .ok (.iaload, 1) := dc_46 (bq_nm bk_X11_clash_220 (j := 0) rfl rfl)
theorem dX11_clash_221 : decode cX11_clash 221 = .ok (.iastore, 1) := dc_79 (bq_nm bk_X11_clash_220 (j := 1) rfl rfl)
theorem dX11_clash_222 : decode cX11_clash 222 = .ok (.iinc 9 1, 3) := dc_132 (bq_nm bk_X11_clash_220 (j := 2) rfl rfl) (bq_nm bk_X11_clash_220 (j := 3) rfl rfl) (bq_nm bk_X11_clash_220 (j := 4) rfl rfl) rfl
theorem dX11_clash_225 : decode cX11_clash 225 = .ok (.goto (-23), 3) := dc_167 (bq_nm bk_X11_clash_220 (j := 5) rfl rfl) (bq_nm bk_X11_clash_220 (j := 6) rfl rfl) (bq_nm bk_X11_clash_220 (j := 7) rfl rfl) rfl
theorem dX11_clash_228 : decode cX11_clash 228 = .ok (.iinc 6 1, 3) := dc_132 (bq_nm bk_X11_clash_220 (j := 8) rfl rfl) (bq_nm bk_X11_clash_220 (j := 9) rfl rfl) (bq_nm bk_X11_clash_220 (j := 10) rfl rfl) rfl
theorem dX11_clash_231 : decode cX11_clash 231 = .ok (.goto (-118), 3) := dc_167 (bq_nm bk_X11_clash_220 (j := 11) rfl rfl) (bq_nm bk_X11_clash_220 (j := 12) rfl rfl) (bq_nm bk_X11_clash_220 (j := 13) rfl rfl) rfl
theorem dX11_clash_234 : decode cX11_clash 234 = .ok (.iconst 0, 1) := dc_3 (bq_nm bk_X11_clash_220 (j := 14) rfl rfl)
theorem dX11_clash_235 : decode cX11_clash 235 = .ok (.istore 6, 2) := dc_54 (bq_nm bk_X11_clash_220 (j := 15) rfl rfl) (bq_nm bk_X11_clash_220 (j := 16) rfl rfl)
theorem dX11_clash_237 : decode cX11_clash 237 = .ok (.iload_n 2, 1) := dc_28 (bq_nm bk_X11_clash_220 (j := 17) rfl rfl)
theorem dX11_clash_238 : decode cX11_clash 238 = .ok (.iconst (-1), 1) := dc_2 (bq_nm bk_X11_clash_220 (j := 18) rfl rfl)
theorem dX11_clash_239 : decode cX11_clash 239 = .ok (.if_icmp .eq 20, 3) := dc_159 (bq_nm bk_X11_clash_220 (j := 19) rfl rfl) (bq_nm bk_X11_clash_220 (j := 20) rfl rfl) (bq_nm bk_X11_clash_220 (j := 21) rfl rfl) rfl
theorem dX11_clash_242 : decode cX11_clash 242 = .ok (.aload_n 0, 1) := dc_42 (bq_nm bk_X11_clash_220 (j := 22) rfl rfl)
theorem dX11_clash_243 : decode cX11_clash 243 = .ok (.getfield 54, 3) := dc_180 (bq_nm bk_X11_clash_220 (j := 23) rfl rfl) (bq_nm bk_X11_clash_220 (j := 24) rfl rfl) (bq_nm bk_X11_clash_220 (j := 25) rfl rfl) rfl
theorem dX11_clash_246 : decode cX11_clash 246 = .ok (.iload 6, 2) := dc_21 (bq_nm bk_X11_clash_220 (j := 26) rfl rfl) (bq_nm bk_X11_clash_220 (j := 27) rfl rfl)
theorem dX11_clash_248 : decode cX11_clash 248 = .ok (.iaload, 1) := dc_46 (bq_nm bk_X11_clash_220 (j := 28) rfl rfl)
theorem dX11_clash_249 : decode cX11_clash 249 = .ok (.iload_n 2, 1) := dc_28 (bq_nm bk_X11_clash_220 (j := 29) rfl rfl)
set_option maxRecDepth 20000 in
theorem bk_X11_clash_250 : ((cX11_clash.data.toList.drop 250).take 31).length = 31 ∧ eN (((cX11_clash.data.toList.drop 250).take 31).map UInt8.toNat) = 74276611773403432757143595317799670332262261068469351673856753867357225119 := by decide +kernel
theorem dX11_clash_250 : decode cX11_clash 250 = .ok (.if_icmp .eq 9, 3) := dc_159 (bq_nm bk_X11_clash_250 (j := 0) rfl rfl) (bq_nm bk_X11_clash_250 (j := 1) rfl rfl) (bq_nm bk_X11_clash_250 (j := 2) rfl rfl) rfl
theorem dX11_clash_253 : decode cX11_clash 253 = .ok (.iinc 6 1, 3) := dc_132 (bq_nm bk_X11_clash_250 (j := 3) rfl rfl) (bq_nm bk_X11_clash_250 (j := 4) rfl rfl) (bq_nm bk_X11_clash_250 (j := 5) rfl rfl) rfl
theorem dX11_clash_256 : decode cX11_clash 256 = .ok (.goto (-19), 3) := dc_167 (bq_nm bk_X11_clash_250 (j := 6) rfl rfl) (bq_nm bk_X11_clash_250 (j := 7) rfl rfl) (bq_nm bk_X11_clash_250 (j := 8) rfl rfl) rfl
theorem dX11_clash_259 : decode cX11_clash 259 = .ok (.iload 5, 2) := dc_21 (bq_nm bk_X11_clash_250 (j := 9) rfl rfl) (bq_nm bk_X11_clash_250 (j := 10) rfl rfl)
theorem dX11_clash_261 : decode cX11_clash 261 = .ok (.iconst (-1), 1) := dc_2 (bq_nm bk_X11_clash_250 (j := 11) rfl rfl)
theorem dX11_clash_262 : decode cX11_clash 262 = .ok (.if_icmp .ne 8, 3) := dc_160 (bq_nm bk_X11_clash_250 (j := 12) rfl rfl) (bq_nm bk_X11_clash_250 (j := 13) rfl rfl) (bq_nm bk_X11_clash_250 (j := 14) rfl rfl) rfl
theorem dX11_clash_265 : decode cX11_clash 265 = .ok (.bipush (-5), 2) := dc_16 (bq_nm bk_X11_clash_250 (j := 15) rfl rfl) (bq_nm bk_X11_clash_250 (j := 16) rfl rfl) rfl
theorem dX11_clash_267 : decode cX11_clash 267 = .ok (.goto 20, 3) := dc_167 (bq_nm bk_X11_clash_250 (j := 17) rfl rfl) (bq_nm bk_X11_clash_250 (j := 18) rfl rfl) (bq_nm bk_X11_clash_250 (j := 19) rfl rfl) rfl
theorem dX11_clash_270 : decode cX11_clash 270 = .ok (.iload_n 2, 1) := dc_28 (bq_nm bk_X11_clash_250 (j := 20) rfl rfl)
theorem dX11_clash_271 : decode cX11_clash 271 = .ok (.iconst (-1), 1) := dc_2 (bq_nm bk_X11_clash_250 (j := 21) rfl rfl)
theorem dX11_clash_272 : decode cX11_clash 272 = .ok (.if_icmp .ne 8, 3) := dc_160 (bq_nm bk_X11_clash_250 (j := 22) rfl rfl) (bq_nm bk_X11_clash_250 (j := 23) rfl rfl) (bq_nm bk_X11_clash_250 (j := 24) rfl rfl) rfl
theorem dX11_clash_275 : decode cX11_clash 275 = .ok (.iload 5, 2) := dc_21 (bq_nm bk_X11_clash_250 (j := 25) rfl rfl) (bq_nm bk_X11_clash_250 (j := 26) rfl rfl)
theorem dX11_clash_277 : decode cX11_clash 277 = .ok (.goto 10, 3) := dc_167 (bq_nm bk_X11_clash_250 (j := 27) rfl rfl) (bq_nm bk_X11_clash_250 (j := 28) rfl rfl) (bq_nm bk_X11_clash_250 (j := 29) rfl rfl) rfl
theorem dX11_clash_280 : decode cX11_clash 280 = .ok (.aload_n 0, 1) := dc_42 (bq_nm bk_X11_clash_250 (j := 30) rfl rfl)
set_option maxRecDepth 20000 in
theorem bk_X11_clash_281 : ((cX11_clash.data.toList.drop 281).take 7).length = 7 ∧ eN (((cX11_clash.data.toList.drop 281).take 7).map UInt8.toNat) = 48464299655168180 := by decide +kernel
theorem dX11_clash_281 : decode cX11_clash 281 = .ok (.getfield 60, 3) := dc_180 (bq_nm bk_X11_clash_281 (j := 0) rfl rfl) (bq_nm bk_X11_clash_281 (j := 1) rfl rfl) (bq_nm bk_X11_clash_281 (j := 2) rfl rfl) rfl
theorem dX11_clash_284 : decode cX11_clash 284 = .ok (.iload 6, 2) := dc_21 (bq_nm bk_X11_clash_281 (j := 3) rfl rfl) (bq_nm bk_X11_clash_281 (j := 4) rfl rfl)
theorem dX11_clash_286 : decode cX11_clash 286 = .ok (.iaload, 1) := dc_46 (bq_nm bk_X11_clash_281 (j := 5) rfl rfl)
theorem dX11_clash_287 : decode cX11_clash 287 = .ok (.ireturn, 1) := dc_172 (bq_nm bk_X11_clash_281 (j := 6) rfl rfl)
set_option maxRecDepth 20000 in
theorem bk_X11_turn_0 : ((cX11_turn.data.toList.drop 0).take 32).length = 32 ∧ eN (((cX11_turn.data.toList.drop 0).take 32).map UInt8.toNat) = 19179129797845960109177115013183183523258808464532976837997412045385640805659 := by decide +kernel
theorem dX11_turn_0 : decode cX11_turn 0 = .ok (.iload_n 1, 1) := dc_27 (bq_nm bk_X11_turn_0 (j := 0) rfl rfl)
theorem dX11_turn_1 : decode cX11_turn 1 = .ok (.i2l, 1) := dc_133 (bq_nm bk_X11_turn_0 (j := 1) rfl rfl)
theorem dX11_turn_2 : decode cX11_turn 2 = .ok (.lconst 0, 1) := dc_9 (bq_nm bk_X11_turn_0 (j := 2) rfl rfl)
theorem dX11_turn_3 : decode cX11_turn 3 = .ok (.ldc2_w 77, 3) := dc_20 (bq_nm bk_X11_turn_0 (j := 3) rfl rfl) (bq_nm bk_X11_turn_0 (j := 4) rfl rfl) (bq_nm bk_X11_turn_0 (j := 5) rfl rfl) rfl
theorem dX11_turn_6 : decode cX11_turn 6 = .ok (.invokestatic 67, 3) := dc_184 (bq_nm bk_X11_turn_0 (j := 6) rfl rfl) (bq_nm bk_X11_turn_0 (j := 7) rfl rfl) (bq_nm bk_X11_turn_0 (j := 8) rfl rfl) rfl
theorem dX11_turn_9 : decode cX11_turn 9 = .ok (.ifCond .eq 10, 3) := dc_153 (bq_nm bk_X11_turn_0 (j := 9) rfl rfl) (bq_nm bk_X11_turn_0 (j := 10) rfl rfl) (bq_nm bk_X11_turn_0 (j := 11) rfl rfl) rfl
theorem dX11_turn_12 : decode cX11_turn 12 = .ok (.iload_n 2, 1) := dc_28 (bq_nm bk_X11_turn_0 (j := 12) rfl rfl)
theorem dX11_turn_13 : decode cX11_turn 13 = .ok (.invokestatic 93, 3) := dc_184 (bq_nm bk_X11_turn_0 (j := 13) rfl rfl) (bq_nm bk_X11_turn_0 (j := 14) rfl rfl) (bq_nm bk_X11_turn_0 (j := 15) rfl rfl) rfl
theorem dX11_turn_16 : decode cX11_turn 16 = .ok (.ifCond .ne 6, 3) := dc_154 (bq_nm bk_X11_turn_0 (j := 16) rfl rfl) (bq_nm bk_X11_turn_0 (j := 17) rfl rfl) (bq_nm bk_X11_turn_0 (j := 18) rfl rfl) rfl
theorem dX11_turn_19 : decode cX11_turn 19 = .ok (.bipush (-2), 2) := dc_16 (bq_nm bk_X11_turn_0 (j := 19) rfl rfl) (bq_nm bk_X11_turn_0 (j := 20) rfl rfl) rfl
theorem dX11_turn_21 : decode cX11_turn 21 = .ok (.ireturn, 1) := dc_172 (bq_nm bk_X11_turn_0 (j := 21) rfl rfl)
theorem dX11_turn_22 : decode cX11_turn 22 = .ok (.aload_n 0, 1) := dc_42 (bq_nm bk_X11_turn_0 (j := 22) rfl rfl)
theorem dX11_turn_23 : decode cX11_turn 23 = .ok (.invokevirtual 176, 3) := dc_182 (bq_nm bk_X11_turn_0 (j := 23) rfl rfl) (bq_nm bk_X11_turn_0 (j := 24) rfl rfl) (bq_nm bk_X11_turn_0 (j := 25) rfl rfl) rfl
theorem dX11_turn_26 : decode cX11_turn 26 = .ok (.aload_n 0, 1) := dc_42 (bq_nm bk_X11_turn_0 (j := 26) rfl rfl)
theorem dX11_turn_27 : decode cX11_turn 27 = .ok (.iload_n 2, 1) := dc_28 (bq_nm bk_X11_turn_0 (j := 27) rfl rfl)
theorem dX11_turn_28 : decode cX11_turn 28 = .ok (.invokevirtual 103, 3) := dc_182 (bq_nm bk_X11_turn_0 (j := 28) rfl rfl) (bq_nm bk_X11_turn_0 (j := 29) rfl rfl) (bq_nm bk_X11_turn_0 (j := 30) rfl rfl) rfl
theorem dX11_turn_31 : decode cX11_turn 31 = .ok (.aload_n 0, 1) := dc_42 (bq_nm bk_X11_turn_0 (j := 31) rfl rfl)
set_option maxRecDepth 20000 in
theorem bk_X11_turn_32 : ((cX11_turn.data.toList.drop 32).take 32).length = 32 ∧ eN (((cX11_turn.data.toList.drop 32).take 32).map UInt8.toNat) = 13313197005462096799969337317954278198349718903760985179828069796240802585603 := by decide +kernel
theorem dX11_turn_32 : decode cX11_turn 32 = .ok (.iconst 0, 1) := dc_3 (bq_nm bk_X11_turn_32 (j := 0) rfl rfl)
theorem dX11_turn_33 : decode cX11_turn 33 = .ok (.iload_n 2, 1) := dc_28 (bq_nm bk_X11_turn_32 (j := 1) rfl rfl)
theorem dX11_turn_34 : decode cX11_turn 34 = .ok (.iconst (-1), 1) := dc_2 (bq_nm bk_X11_turn_32 (j := 2) rfl rfl)
theorem dX11_turn_35 : decode cX11_turn 35 = .ok (.invokevirtual 188, 3) := dc_182 (bq_nm bk_X11_turn_32 (j := 3) rfl rfl) (bq_nm bk_X11_turn_32 (j := 4) rfl rfl) (bq_nm bk_X11_turn_32 (j := 5) rfl rfl) rfl
theorem dX11_turn_38 : decode cX11_turn 38 = .ok (.iand, 1) := dc_126 (bq_nm bk_X11_turn_32 (j := 6) rfl rfl)
theorem dX11_turn_39 : decode cX11_turn 39 = .ok (.istore_n 3, 1) := dc_62 (bq_nm bk_X11_turn_32 (j := 7) rfl rfl)
theorem dX11_turn_40 : decode cX11_turn 40 = .ok (.iconst (-1), 1) := dc_2 (bq_nm bk_X11_turn_32 (j := 8) rfl rfl)
theorem dX11_turn_41 : decode cX11_turn 41 = .ok (.istore 4, 2) := dc_54 (bq_nm bk_X11_turn_32 (j := 9) rfl rfl) (bq_nm bk_X11_turn_32 (j := 10) rfl rfl)
theorem dX11_turn_43 : decode cX11_turn 43 = .ok (.iconst 0, 1) := dc_3 (bq_nm bk_X11_turn_32 (j := 11) rfl rfl)
theorem dX11_turn_44 : decode cX11_turn 44 = .ok (.istore 5, 2) := dc_54 (bq_nm bk_X11_turn_32 (j := 12) rfl rfl) (bq_nm bk_X11_turn_32 (j := 13) rfl rfl)
theorem dX11_turn_46 : decode cX11_turn 46 = .ok (.iconst 0, 1) := dc_3 (bq_nm bk_X11_turn_32 (j := 14) rfl rfl)
theorem dX11_turn_47 : decode cX11_turn 47 = .ok (.istore 6, 2) := dc_54 (bq_nm bk_X11_turn_32 (j := 15) rfl rfl) (bq_nm bk_X11_turn_32 (j := 16) rfl rfl)
theorem dX11_turn_49 : decode cX11_turn 49 = .ok (.iconst 0, 1) := dc_3 (bq_nm bk_X11_turn_32 (j := 17) rfl rfl)
theorem dX11_turn_50 : decode cX11_turn 50 = .ok (.istore 7, 2) := dc_54 (bq_nm bk_X11_turn_32 (j := 18) rfl rfl) (bq_nm bk_X11_turn_32 (j := 19) rfl rfl)
theorem dX11_turn_52 : decode cX11_turn 52 = .ok (.iload 7, 2) := dc_21 (bq_nm bk_X11_turn_32 (j := 20) rfl rfl) (bq_nm bk_X11_turn_32 (j := 21) rfl rfl)
theorem dX11_turn_54 : decode cX11_turn 54 = .ok (.aload_n 0, 1) := dc_42 (bq_nm bk_X11_turn_32 (j := 22) rfl rfl)
theorem dX11_turn_55 : decode cX11_turn 55 = .ok (.getfield 7, 3) := dc_180 (bq_nm bk_X11_turn_32 (j := 23) rfl rfl) (bq_nm bk_X11_turn_32 (j := 24) rfl rfl) (bq_nm bk_X11_turn_32 (j := 25) rfl rfl) rfl
theorem dX11_turn_58 : decode cX11_turn 58 = .ok (.iconst 0, 1) := dc_3 (bq_nm bk_X11_turn_32 (j := 26) rfl rfl)
theorem dX11_turn_59 : decode cX11_turn 59 = .ok (.iaload, 1) := dc_46 (bq_nm bk_X11_turn_32 (j := 27) rfl rfl)
theorem dX11_turn_60 : decode cX11_turn 60 = .ok (.if_icmp .ge 111, 3) := dc_162 (bq_nm bk_X11_turn_32 (j := 28) rfl rfl) (bq_nm bk_X11_turn_32 (j := 29) rfl rfl) (bq_nm bk_X11_turn_32 (j := 30) rfl rfl) rfl
theorem dX11_turn_63 : decode cX11_turn 63 = .ok (.iload_n 3, 1) := dc_29 (bq_nm bk_X11_turn_32 (j := 31) rfl rfl)
set_option maxRecDepth 20000 in
theorem bk_X11_turn_64 : ((cX11_turn.data.toList.drop 64).take 32).length = 32 ∧ eN (((cX11_turn.data.toList.drop 64).take 32).map UInt8.toNat) = 70109748403865805688602539942555890896093040052633470215417802915995968997141 := by decide +kernel
theorem dX11_turn_64 : decode cX11_turn 64 = .ok (.iload 7, 2) := dc_21 (bq_nm bk_X11_turn_64 (j := 0) rfl rfl) (bq_nm bk_X11_turn_64 (j := 1) rfl rfl)
theorem dX11_turn_66 : decode cX11_turn 66 = .ok (.ishr, 1) := dc_122 (bq_nm bk_X11_turn_64 (j := 2) rfl rfl)
theorem dX11_turn_67 : decode cX11_turn 67 = .ok (.iconst 1, 1) := dc_4 (bq_nm bk_X11_turn_64 (j := 3) rfl rfl)
theorem dX11_turn_68 : decode cX11_turn 68 = .ok (.iand, 1) := dc_126 (bq_nm bk_X11_turn_64 (j := 4) rfl rfl)
theorem dX11_turn_69 : decode cX11_turn 69 = .ok (.iconst 1, 1) := dc_4 (bq_nm bk_X11_turn_64 (j := 5) rfl rfl)
theorem dX11_turn_70 : decode cX11_turn 70 = .ok (.if_icmp .ne 95, 3) := dc_160 (bq_nm bk_X11_turn_64 (j := 6) rfl rfl) (bq_nm bk_X11_turn_64 (j := 7) rfl rfl) (bq_nm bk_X11_turn_64 (j := 8) rfl rfl) rfl
theorem dX11_turn_73 : decode cX11_turn 73 = .ok (.aload_n 0, 1) := dc_42 (bq_nm bk_X11_turn_64 (j := 9) rfl rfl)
theorem dX11_turn_74 : decode cX11_turn 74 = .ok (.getfield 7, 3) := dc_180 (bq_nm bk_X11_turn_64 (j := 10) rfl rfl) (bq_nm bk_X11_turn_64 (j := 11) rfl rfl) (bq_nm bk_X11_turn_64 (j := 12) rfl rfl) rfl
theorem dX11_turn_77 : decode cX11_turn 77 = .ok (.bipush 10, 2) := dc_16 (bq_nm bk_X11_turn_64 (j := 13) rfl rfl) (bq_nm bk_X11_turn_64 (j := 14) rfl rfl) rfl
theorem dX11_turn_79 : decode cX11_turn 79 = .ok (.iconst 4, 1) := dc_7 (bq_nm bk_X11_turn_64 (j := 15) rfl rfl)
theorem dX11_turn_80 : decode cX11_turn 80 = .ok (.iload 7, 2) := dc_21 (bq_nm bk_X11_turn_64 (j := 16) rfl rfl) (bq_nm bk_X11_turn_64 (j := 17) rfl rfl)
theorem dX11_turn_82 : decode cX11_turn 82 = .ok (.imul, 1) := dc_104 (bq_nm bk_X11_turn_64 (j := 18) rfl rfl)
theorem dX11_turn_83 : decode cX11_turn 83 = .ok (.iadd, 1) := dc_96 (bq_nm bk_X11_turn_64 (j := 19) rfl rfl)
theorem dX11_turn_84 : decode cX11_turn 84 = .ok (.iaload, 1) := dc_46 (bq_nm bk_X11_turn_64 (j := 20) rfl rfl)
theorem dX11_turn_85 : decode cX11_turn 85 = .ok (.iload_n 1, 1) := dc_27 (bq_nm bk_X11_turn_64 (j := 21) rfl rfl)
theorem dX11_turn_86 : decode cX11_turn 86 = .ok (.if_icmp .ne 79, 3) := dc_160 (bq_nm bk_X11_turn_64 (j := 22) rfl rfl) (bq_nm bk_X11_turn_64 (j := 23) rfl rfl) (bq_nm bk_X11_turn_64 (j := 24) rfl rfl) rfl
theorem dX11_turn_89 : decode cX11_turn 89 = .ok (.aload_n 0, 1) := dc_42 (bq_nm bk_X11_turn_64 (j := 25) rfl rfl)
theorem dX11_turn_90 : decode cX11_turn 90 = .ok (.iload 7, 2) := dc_21 (bq_nm bk_X11_turn_64 (j := 26) rfl rfl) (bq_nm bk_X11_turn_64 (j := 27) rfl rfl)
theorem dX11_turn_92 : decode cX11_turn 92 = .ok (.iload_n 2, 1) := dc_28 (bq_nm bk_X11_turn_64 (j := 28) rfl rfl)
theorem dX11_turn_93 : decode cX11_turn 93 = .ok (.invokevirtual 155, 3) := dc_182 (bq_nm bk_X11_turn_64 (j := 29) rfl rfl) (bq_nm bk_X11_turn_64 (j := 30) rfl rfl) (bq_nm bk_X11_turn_64 (j := 31) rfl rfl) rfl
set_option maxRecDepth 20000 in
theorem bk_X11_turn_96 : ((cX11_turn.data.toList.drop 96).take 31).length = 31 ∧ eN (((cX11_turn.data.toList.drop 96).take 31).map UInt8.toNat) = 74400842363885964980482660388712217008145497582561234940699271171342906410 := by decide +kernel
theorem dX11_turn_96 : decode cX11_turn 96 = .ok (.aload_n 0, 1) := dc_42 (bq_nm bk_X11_turn_96 (j := 0) rfl rfl)
theorem dX11_turn_97 : decode cX11_turn 97 = .ok (.getfield 140, 3) := dc_180 (bq_nm bk_X11_turn_96 (j := 1) rfl rfl) (bq_nm bk_X11_turn_96 (j := 2) rfl rfl) (bq_nm bk_X11_turn_96 (j := 3) rfl rfl) rfl
theorem dX11_turn_100 : decode cX11_turn 100 = .ok (.ifCond .ne 9, 3) := dc_154 (bq_nm bk_X11_turn_96 (j := 4) rfl rfl) (bq_nm bk_X11_turn_96 (j := 5) rfl rfl) (bq_nm bk_X11_turn_96 (j := 6) rfl rfl) rfl
theorem dX11_turn_103 : decode cX11_turn 103 = .ok (.sipush 999, 3) := dc_17 (bq_nm bk_X11_turn_96 (j := 7) rfl rfl) (bq_nm bk_X11_turn_96 (j := 8) rfl rfl) (bq_nm bk_X11_turn_96 (j := 9) rfl rfl) rfl
theorem dX11_turn_106 : decode cX11_turn 106 = .ok (.goto 12, 3) := dc_167 (bq_nm bk_X11_turn_96 (j := 10) rfl rfl) (bq_nm bk_X11_turn_96 (j := 11) rfl rfl) (bq_nm bk_X11_turn_96 (j := 12) rfl rfl) rfl
theorem dX11_turn_109 : decode cX11_turn 109 = .ok (.iload_n 2, 1) := dc_28 (bq_nm bk_X11_turn_96 (j := 13) rfl rfl)
theorem dX11_turn_110 : decode cX11_turn 110 = .ok (.bipush 100, 2) := dc_16 (bq_nm bk_X11_turn_96 (j := 14) rfl rfl) (bq_nm bk_X11_turn_96 (j := 15) rfl rfl) rfl
theorem dX11_turn_112 : decode cX11_turn 112 = .ok (.idiv, 1) := dc_108 (bq_nm bk_X11_turn_96 (j := 16) rfl rfl)
theorem dX11_turn_113 : decode cX11_turn 113 = .ok (.aload_n 0, 1) := dc_42 (bq_nm bk_X11_turn_96 (j := 17) rfl rfl)
theorem dX11_turn_114 : decode cX11_turn 114 = .ok (.getfield 143, 3) := dc_180 (bq_nm bk_X11_turn_96 (j := 18) rfl rfl) (bq_nm bk_X11_turn_96 (j := 19) rfl rfl) (bq_nm bk_X11_turn_96 (j := 20) rfl rfl) rfl
theorem dX11_turn_117 : decode cX11_turn 117 = .ok (.isub, 1) := dc_100 (bq_nm bk_X11_turn_96 (j := 21) rfl rfl)
theorem dX11_turn_118 : decode cX11_turn 118 = .ok (.istore 8, 2) := dc_54 (bq_nm bk_X11_turn_96 (j := 22) rfl rfl) (bq_nm bk_X11_turn_96 (j := 23) rfl rfl)
theorem dX11_turn_120 : decode cX11_turn 120 = .ok (.iload 4, 2) := dc_21 (bq_nm bk_X11_turn_96 (j := 24) rfl rfl) (bq_nm bk_X11_turn_96 (j := 25) rfl rfl)
theorem dX11_turn_122 : decode cX11_turn 122 = .ok (.iconst (-1), 1) := dc_2 (bq_nm bk_X11_turn_96 (j := 26) rfl rfl)
theorem dX11_turn_123 : decode cX11_turn 123 = .ok (.if_icmp .eq 28, 3) := dc_159 (bq_nm bk_X11_turn_96 (j := 27) rfl rfl) (bq_nm bk_X11_turn_96 (j := 28) rfl rfl) (bq_nm bk_X11_turn_96 (j := 29) rfl rfl) rfl
theorem dX11_turn_126 : decode cX11_turn 126 = .ok (.aload_n 0, 1) := dc_42 (bq_nm bk_X11_turn_96 (j := 30) rfl rfl)
set_option maxRecDepth 20000 in
theorem bk_X11_turn_127 : ((cX11_turn.data.toList.drop 127).take 32).length = 32 ∧ eN (((cX11_turn.data.toList.drop 127).take 32).map UInt8.toNat) = 63325042248760951553074403498798374499409889475778574204447677442441081520308 := by decide +kernel
theorem dX11_turn_127 : decode cX11_turn 127 = .ok (.getfield 140, 3) := dc_180 (bq_nm bk_X11_turn_127 (j := 0) rfl rfl) (bq_nm bk_X11_turn_127 (j := 1) rfl rfl) (bq_nm bk_X11_turn_127 (j := 2) rfl rfl) rfl
theorem dX11_turn_130 : decode cX11_turn 130 = .ok (.iload 5, 2) := dc_21 (bq_nm bk_X11_turn_127 (j := 3) rfl rfl) (bq_nm bk_X11_turn_127 (j := 4) rfl rfl)
theorem dX11_turn_132 : decode cX11_turn 132 = .ok (.if_icmp .lt 19, 3) := dc_161 (bq_nm bk_X11_turn_127 (j := 5) rfl rfl) (bq_nm bk_X11_turn_127 (j := 6) rfl rfl) (bq_nm bk_X11_turn_127 (j := 7) rfl rfl) rfl
theorem dX11_turn_135 : decode cX11_turn 135 = .ok (.aload_n 0, 1) := dc_42 (bq_nm bk_X11_turn_127 (j := 8) rfl rfl)
theorem dX11_turn_136 : decode cX11_turn 136 = .ok (.getfield 140, 3) := dc_180 (bq_nm bk_X11_turn_127 (j := 9) rfl rfl) (bq_nm bk_X11_turn_127 (j := 10) rfl rfl) (bq_nm bk_X11_turn_127 (j := 11) rfl rfl) rfl
theorem dX11_turn_139 : decode cX11_turn 139 = .ok (.iload 5, 2) := dc_21 (bq_nm bk_X11_turn_127 (j := 12) rfl rfl) (bq_nm bk_X11_turn_127 (j := 13) rfl rfl)
theorem dX11_turn_141 : decode cX11_turn 141 = .ok (.if_icmp .ne 24, 3) := dc_160 (bq_nm bk_X11_turn_127 (j := 14) rfl rfl) (bq_nm bk_X11_turn_127 (j := 15) rfl rfl) (bq_nm bk_X11_turn_127 (j := 16) rfl rfl) rfl
theorem dX11_turn_144 : decode cX11_turn 144 = .ok (.iload 8, 2) := dc_21 (bq_nm bk_X11_turn_127 (j := 17) rfl rfl) (bq_nm bk_X11_turn_127 (j := 18) rfl rfl)
theorem dX11_turn_146 : decode cX11_turn 146 = .ok (.iload 6, 2) := dc_21 (bq_nm bk_X11_turn_127 (j := 19) rfl rfl) (bq_nm bk_X11_turn_127 (j := 20) rfl rfl)
theorem dX11_turn_148 : decode cX11_turn 148 = .ok (.if_icmp .le 17, 3) := dc_164 (bq_nm bk_X11_turn_127 (j := 21) rfl rfl) (bq_nm bk_X11_turn_127 (j := 22) rfl rfl) (bq_nm bk_X11_turn_127 (j := 23) rfl rfl) rfl
theorem dX11_turn_151 : decode cX11_turn 151 = .ok (.iload 7, 2) := dc_21 (bq_nm bk_X11_turn_127 (j := 24) rfl rfl) (bq_nm bk_X11_turn_127 (j := 25) rfl rfl)
theorem dX11_turn_153 : decode cX11_turn 153 = .ok (.istore 4, 2) := dc_54 (bq_nm bk_X11_turn_127 (j := 26) rfl rfl) (bq_nm bk_X11_turn_127 (j := 27) rfl rfl)
theorem dX11_turn_155 : decode cX11_turn 155 = .ok (.aload_n 0, 1) := dc_42 (bq_nm bk_X11_turn_127 (j := 28) rfl rfl)
theorem dX11_turn_156 : decode cX11_turn 156 = .ok (.getfield 140, 3) := dc_180 (bq_nm bk_X11_turn_127 (j := 29) rfl rfl) (bq_nm bk_X11_turn_127 (j := 30) rfl rfl) (bq_nm bk_X11_turn_127 (j := 31) rfl rfl) rfl
set_option maxRecDepth 20000 in
theorem bk_X11_turn_159 : ((cX11_turn.data.toList.drop 159).take 15).length = 15 ∧ eN (((cX11_turn.data.toList.drop 159).take 15).map UInt8.toNat) = 893157896734783871521018671858517302 := by decide +kernel
theorem dX11_turn_159 : decode cX11_turn 159 = .ok (.istore 5, 2) := dc_54 (bq_nm bk_X11_turn_159 (j := 0) rfl rfl) (bq_nm bk_X11_turn_159 (j := 1) rfl rfl)
theorem dX11_turn_161 : decode cX11_turn 161 = .ok (.iload 8, 2) := dc_21 (bq_nm bk_X11_turn_159 (j := 2) rfl rfl) (bq_nm bk_X11_turn_159 (j := 3) rfl rfl)
theorem dX11_turn_163 : decode cX11_turn 163 = .ok (.istore 6, 2) := dc_54 (bq_nm bk_X11_turn_159 (j := 4) rfl rfl) (bq_nm bk_X11_turn_159 (j := 5) rfl rfl)
theorem dX11_turn_165 : decode cX11_turn 165 = .ok (.iinc 7 1, 3) := dc_132 (bq_nm bk_X11_turn_159 (j := 6) rfl rfl) (bq_nm bk_X11_turn_159 (j := 7) rfl rfl) (bq_nm bk_X11_turn_159 (j := 8) rfl rfl) rfl
theorem dX11_turn_168 : decode cX11_turn 168 = .ok (.goto (-116), 3) := dc_167 (bq_nm bk_X11_turn_159 (j := 9) rfl rfl) (bq_nm bk_X11_turn_159 (j := 10) rfl rfl) (bq_nm bk_X11_turn_159 (j := 11) rfl rfl) rfl
theorem dX11_turn_171 : decode cX11_turn 171 = .ok (.iload 4, 2) := dc_21 (bq_nm bk_X11_turn_159 (j := 12) rfl rfl) (bq_nm bk_X11_turn_159 (j := 13) rfl rfl)
theorem dX11_turn_173 : decode cX11_turn 173 = .ok (.ireturn, 1) := dc_172 (bq_nm bk_X11_turn_159 (j := 14) rfl rfl)
set_option maxRecDepth 20000 in
theorem bk_X11_image_0 : ((cX11_image.data.toList.drop 0).take 30).length = 30 ∧ eN (((cX11_image.data.toList.drop 0).take 30).map UInt8.toNat) = 290601332086375686976205616659987228649837915398668357870905292963284251 := by decide +kernel
theorem dX11_image_0 : decode cX11_image 0 = .ok (.iload_n 1, 1) := dc_27 (bq_nm bk_X11_image_0 (j := 0) rfl rfl)
theorem dX11_image_1 : decode cX11_image 1 = .ok (.i2l, 1) := dc_133 (bq_nm bk_X11_image_0 (j := 1) rfl rfl)
theorem dX11_image_2 : decode cX11_image 2 = .ok (.lconst 0, 1) := dc_9 (bq_nm bk_X11_image_0 (j := 2) rfl rfl)
theorem dX11_image_3 : decode cX11_image 3 = .ok (.lconst 1, 1) := dc_10 (bq_nm bk_X11_image_0 (j := 3) rfl rfl)
theorem dX11_image_4 : decode cX11_image 4 = .ok (.invokestatic 67, 3) := dc_184 (bq_nm bk_X11_image_0 (j := 4) rfl rfl) (bq_nm bk_X11_image_0 (j := 5) rfl rfl) (bq_nm bk_X11_image_0 (j := 6) rfl rfl) rfl
theorem dX11_image_7 : decode cX11_image 7 = .ok (.ifCond .ne 6, 3) := dc_154 (bq_nm bk_X11_image_0 (j := 7) rfl rfl) (bq_nm bk_X11_image_0 (j := 8) rfl rfl) (bq_nm bk_X11_image_0 (j := 9) rfl rfl) rfl
theorem dX11_image_10 : decode cX11_image 10 = .ok (.bipush (-2), 2) := dc_16 (bq_nm bk_X11_image_0 (j := 10) rfl rfl) (bq_nm bk_X11_image_0 (j := 11) rfl rfl) rfl
theorem dX11_image_12 : decode cX11_image 12 = .ok (.ireturn, 1) := dc_172 (bq_nm bk_X11_image_0 (j := 12) rfl rfl)
theorem dX11_image_13 : decode cX11_image 13 = .ok (.aload_n 0, 1) := dc_42 (bq_nm bk_X11_image_0 (j := 13) rfl rfl)
theorem dX11_image_14 : decode cX11_image 14 = .ok (.getfield 16, 3) := dc_180 (bq_nm bk_X11_image_0 (j := 14) rfl rfl) (bq_nm bk_X11_image_0 (j := 15) rfl rfl) (bq_nm bk_X11_image_0 (j := 16) rfl rfl) rfl
theorem dX11_image_17 : decode cX11_image 17 = .ok (.iload_n 1, 1) := dc_27 (bq_nm bk_X11_image_0 (j := 17) rfl rfl)
theorem dX11_image_18 : decode cX11_image 18 = .ok (.iconst 1, 1) := dc_4 (bq_nm bk_X11_image_0 (j := 18) rfl rfl)
theorem dX11_image_19 : decode cX11_image 19 = .ok (.bastore, 1) := dc_84 (bq_nm bk_X11_image_0 (j := 19) rfl rfl)
theorem dX11_image_20 : decode cX11_image 20 = .ok (.iconst 0, 1) := dc_3 (bq_nm bk_X11_image_0 (j := 20) rfl rfl)
theorem dX11_image_21 : decode cX11_image 21 = .ok (.istore_n 2, 1) := dc_61 (bq_nm bk_X11_image_0 (j := 21) rfl rfl)
theorem dX11_image_22 : decode cX11_image 22 = .ok (.iload_n 2, 1) := dc_28 (bq_nm bk_X11_image_0 (j := 22) rfl rfl)
theorem dX11_image_23 : decode cX11_image 23 = .ok (.sipush 2246, 3) := dc_17 (bq_nm bk_X11_image_0 (j := 23) rfl rfl) (bq_nm bk_X11_image_0 (j := 24) rfl rfl) (bq_nm bk_X11_image_0 (j := 25) rfl rfl) rfl
theorem dX11_image_26 : decode cX11_image 26 = .ok (.if_icmp .ge 27, 3) := dc_162 (bq_nm bk_X11_image_0 (j := 26) rfl rfl) (bq_nm bk_X11_image_0 (j := 27) rfl rfl) (bq_nm bk_X11_image_0 (j := 28) rfl rfl) rfl
theorem dX11_image_29 : decode cX11_image 29 = .ok (.aload_n 0, 1) := dc_42 (bq_nm bk_X11_image_0 (j := 29) rfl rfl)
set_option maxRecDepth 20000 in
theorem bk_X11_image_30 : ((cX11_image.data.toList.drop 30).take 25).length = 25 ∧ eN (((cX11_image.data.toList.drop 30).take 25).map UInt8.toNat) = 1079781511913485270696552170017182365090486087674620319432884 := by decide +kernel
theorem dX11_image_30 : decode cX11_image 30 = .ok (.getfield 13, 3) := dc_180 (bq_nm bk_X11_image_30 (j := 0) rfl rfl) (bq_nm bk_X11_image_30 (j := 1) rfl rfl) (bq_nm bk_X11_image_30 (j := 2) rfl rfl) rfl
theorem dX11_image_33 : decode cX11_image 33 = .ok (.sipush 2246, 3) := dc_17 (bq_nm bk_X11_image_30 (j := 3) rfl rfl) (bq_nm bk_X11_image_30 (j := 4) rfl rfl) (bq_nm bk_X11_image_30 (j := 5) rfl rfl) rfl
theorem dX11_image_36 : decode cX11_image 36 = .ok (.iload_n 1, 1) := dc_27 (bq_nm bk_X11_image_30 (j := 6) rfl rfl)
theorem dX11_image_37 : decode cX11_image 37 = .ok (.imul, 1) := dc_104 (bq_nm bk_X11_image_30 (j := 7) rfl rfl)
theorem dX11_image_38 : decode cX11_image 38 = .ok (.iload_n 2, 1) := dc_28 (bq_nm bk_X11_image_30 (j := 8) rfl rfl)
theorem dX11_image_39 : decode cX11_image 39 = .ok (.iadd, 1) := dc_96 (bq_nm bk_X11_image_30 (j := 9) rfl rfl)
theorem dX11_image_40 : decode cX11_image 40 = .ok (.aload_n 0, 1) := dc_42 (bq_nm bk_X11_image_30 (j := 10) rfl rfl)
theorem dX11_image_41 : decode cX11_image 41 = .ok (.getfield 7, 3) := dc_180 (bq_nm bk_X11_image_30 (j := 11) rfl rfl) (bq_nm bk_X11_image_30 (j := 12) rfl rfl) (bq_nm bk_X11_image_30 (j := 13) rfl rfl) rfl
theorem dX11_image_44 : decode cX11_image 44 = .ok (.iload_n 2, 1) := dc_28 (bq_nm bk_X11_image_30 (j := 14) rfl rfl)
theorem dX11_image_45 : decode cX11_image 45 = .ok (.iaload, 1) := dc_46 (bq_nm bk_X11_image_30 (j := 15) rfl rfl)
theorem dX11_image_46 : decode cX11_image 46 = .ok (.iastore, 1) := dc_79 (bq_nm bk_X11_image_30 (j := 16) rfl rfl)
theorem dX11_image_47 : decode cX11_image 47 = .ok (.iinc 2 1, 3) := dc_132 (bq_nm bk_X11_image_30 (j := 17) rfl rfl) (bq_nm bk_X11_image_30 (j := 18) rfl rfl) (bq_nm bk_X11_image_30 (j := 19) rfl rfl) rfl
theorem dX11_image_50 : decode cX11_image 50 = .ok (.goto (-28), 3) := dc_167 (bq_nm bk_X11_image_30 (j := 20) rfl rfl) (bq_nm bk_X11_image_30 (j := 21) rfl rfl) (bq_nm bk_X11_image_30 (j := 22) rfl rfl) rfl
theorem dX11_image_53 : decode cX11_image 53 = .ok (.iconst 1, 1) := dc_4 (bq_nm bk_X11_image_30 (j := 23) rfl rfl)
theorem dX11_image_54 : decode cX11_image 54 = .ok (.ireturn, 1) := dc_172 (bq_nm bk_X11_image_30 (j := 24) rfl rfl)
set_option maxRecDepth 20000 in
theorem bk_X11_from_0 : ((cX11_from.data.toList.drop 0).take 31).length = 31 ∧ eN (((cX11_from.data.toList.drop 0).take 31).map UInt8.toNat) = 349891394089831781228126466410561824439011717188000057575533235062713189659 := by decide +kernel
theorem dX11_from_0 : decode cX11_from 0 = .ok (.iload_n 1, 1) := dc_27 (bq_nm bk_X11_from_0 (j := 0) rfl rfl)
theorem dX11_from_1 : decode cX11_from 1 = .ok (.i2l, 1) := dc_133 (bq_nm bk_X11_from_0 (j := 1) rfl rfl)
theorem dX11_from_2 : decode cX11_from 2 = .ok (.lconst 0, 1) := dc_9 (bq_nm bk_X11_from_0 (j := 2) rfl rfl)
theorem dX11_from_3 : decode cX11_from 3 = .ok (.lconst 1, 1) := dc_10 (bq_nm bk_X11_from_0 (j := 3) rfl rfl)
theorem dX11_from_4 : decode cX11_from 4 = .ok (.invokestatic 67, 3) := dc_184 (bq_nm bk_X11_from_0 (j := 4) rfl rfl) (bq_nm bk_X11_from_0 (j := 5) rfl rfl) (bq_nm bk_X11_from_0 (j := 6) rfl rfl) rfl
theorem dX11_from_7 : decode cX11_from 7 = .ok (.ifCond .ne 6, 3) := dc_154 (bq_nm bk_X11_from_0 (j := 7) rfl rfl) (bq_nm bk_X11_from_0 (j := 8) rfl rfl) (bq_nm bk_X11_from_0 (j := 9) rfl rfl) rfl
theorem dX11_from_10 : decode cX11_from 10 = .ok (.bipush (-2), 2) := dc_16 (bq_nm bk_X11_from_0 (j := 10) rfl rfl) (bq_nm bk_X11_from_0 (j := 11) rfl rfl) rfl
theorem dX11_from_12 : decode cX11_from 12 = .ok (.ireturn, 1) := dc_172 (bq_nm bk_X11_from_0 (j := 12) rfl rfl)
theorem dX11_from_13 : decode cX11_from 13 = .ok (.aload_n 0, 1) := dc_42 (bq_nm bk_X11_from_0 (j := 13) rfl rfl)
theorem dX11_from_14 : decode cX11_from 14 = .ok (.getfield 16, 3) := dc_180 (bq_nm bk_X11_from_0 (j := 14) rfl rfl) (bq_nm bk_X11_from_0 (j := 15) rfl rfl) (bq_nm bk_X11_from_0 (j := 16) rfl rfl) rfl
theorem dX11_from_17 : decode cX11_from 17 = .ok (.iload_n 1, 1) := dc_27 (bq_nm bk_X11_from_0 (j := 17) rfl rfl)
theorem dX11_from_18 : decode cX11_from 18 = .ok (.baload, 1) := dc_51 (bq_nm bk_X11_from_0 (j := 18) rfl rfl)
theorem dX11_from_19 : decode cX11_from 19 = .ok (.ifCond .ne 6, 3) := dc_154 (bq_nm bk_X11_from_0 (j := 19) rfl rfl) (bq_nm bk_X11_from_0 (j := 20) rfl rfl) (bq_nm bk_X11_from_0 (j := 21) rfl rfl) rfl
theorem dX11_from_22 : decode cX11_from 22 = .ok (.bipush (-3), 2) := dc_16 (bq_nm bk_X11_from_0 (j := 22) rfl rfl) (bq_nm bk_X11_from_0 (j := 23) rfl rfl) rfl
theorem dX11_from_24 : decode cX11_from 24 = .ok (.ireturn, 1) := dc_172 (bq_nm bk_X11_from_0 (j := 24) rfl rfl)
theorem dX11_from_25 : decode cX11_from 25 = .ok (.iconst 0, 1) := dc_3 (bq_nm bk_X11_from_0 (j := 25) rfl rfl)
theorem dX11_from_26 : decode cX11_from 26 = .ok (.istore_n 2, 1) := dc_61 (bq_nm bk_X11_from_0 (j := 26) rfl rfl)
theorem dX11_from_27 : decode cX11_from 27 = .ok (.iload_n 2, 1) := dc_28 (bq_nm bk_X11_from_0 (j := 27) rfl rfl)
theorem dX11_from_28 : decode cX11_from 28 = .ok (.sipush 2246, 3) := dc_17 (bq_nm bk_X11_from_0 (j := 28) rfl rfl) (bq_nm bk_X11_from_0 (j := 29) rfl rfl) (bq_nm bk_X11_from_0 (j := 30) rfl rfl) rfl
set_option maxRecDepth 20000 in
theorem bk_X11_from_31 : ((cX11_from.data.toList.drop 31).take 32).length = 32 ∧ eN (((cX11_from.data.toList.drop 31).take 32).map UInt8.toNat) = 32115461550897843495352207879509922927797456813665139286553640460328573272226 := by decide +kernel
theorem dX11_from_31 : decode cX11_from 31 = .ok (.if_icmp .ge 27, 3) := dc_162 (bq_nm bk_X11_from_31 (j := 0) rfl rfl) (bq_nm bk_X11_from_31 (j := 1) rfl rfl) (bq_nm bk_X11_from_31 (j := 2) rfl rfl) rfl
theorem dX11_from_34 : decode cX11_from 34 = .ok (.aload_n 0, 1) := dc_42 (bq_nm bk_X11_from_31 (j := 3) rfl rfl)
theorem dX11_from_35 : decode cX11_from 35 = .ok (.getfield 7, 3) := dc_180 (bq_nm bk_X11_from_31 (j := 4) rfl rfl) (bq_nm bk_X11_from_31 (j := 5) rfl rfl) (bq_nm bk_X11_from_31 (j := 6) rfl rfl) rfl
theorem dX11_from_38 : decode cX11_from 38 = .ok (.iload_n 2, 1) := dc_28 (bq_nm bk_X11_from_31 (j := 7) rfl rfl)
theorem dX11_from_39 : decode cX11_from 39 = .ok (.aload_n 0, 1) := dc_42 (bq_nm bk_X11_from_31 (j := 8) rfl rfl)
theorem dX11_from_40 : decode cX11_from 40 = .ok (.getfield 13, 3) := dc_180 (bq_nm bk_X11_from_31 (j := 9) rfl rfl) (bq_nm bk_X11_from_31 (j := 10) rfl rfl) (bq_nm bk_X11_from_31 (j := 11) rfl rfl) rfl
theorem dX11_from_43 : decode cX11_from 43 = .ok (.sipush 2246, 3) := dc_17 (bq_nm bk_X11_from_31 (j := 12) rfl rfl) (bq_nm bk_X11_from_31 (j := 13) rfl rfl) (bq_nm bk_X11_from_31 (j := 14) rfl rfl) rfl
theorem dX11_from_46 : decode cX11_from 46 = .ok (.iload_n 1, 1) := dc_27 (bq_nm bk_X11_from_31 (j := 15) rfl rfl)
theorem dX11_from_47 : decode cX11_from 47 = .ok (.imul, 1) := dc_104 (bq_nm bk_X11_from_31 (j := 16) rfl rfl)
theorem dX11_from_48 : decode cX11_from 48 = .ok (.iload_n 2, 1) := dc_28 (bq_nm bk_X11_from_31 (j := 17) rfl rfl)
theorem dX11_from_49 : decode cX11_from 49 = .ok (.iadd, 1) := dc_96 (bq_nm bk_X11_from_31 (j := 18) rfl rfl)
theorem dX11_from_50 : decode cX11_from 50 = .ok (.iaload, 1) := dc_46 (bq_nm bk_X11_from_31 (j := 19) rfl rfl)
theorem dX11_from_51 : decode cX11_from 51 = .ok (.iastore, 1) := dc_79 (bq_nm bk_X11_from_31 (j := 20) rfl rfl)
theorem dX11_from_52 : decode cX11_from 52 = .ok (.iinc 2 1, 3) := dc_132 (bq_nm bk_X11_from_31 (j := 21) rfl rfl) (bq_nm bk_X11_from_31 (j := 22) rfl rfl) (bq_nm bk_X11_from_31 (j := 23) rfl rfl) rfl
theorem dX11_from_55 : decode cX11_from 55 = .ok (.goto (-28), 3) := dc_167 (bq_nm bk_X11_from_31 (j := 24) rfl rfl) (bq_nm bk_X11_from_31 (j := 25) rfl rfl) (bq_nm bk_X11_from_31 (j := 26) rfl rfl) rfl
theorem dX11_from_58 : decode cX11_from 58 = .ok (.aload_n 0, 1) := dc_42 (bq_nm bk_X11_from_31 (j := 27) rfl rfl)
theorem dX11_from_59 : decode cX11_from 59 = .ok (.iconst 0, 1) := dc_3 (bq_nm bk_X11_from_31 (j := 28) rfl rfl)
theorem dX11_from_60 : decode cX11_from 60 = .ok (.putfield 71, 3) := dc_181 (bq_nm bk_X11_from_31 (j := 29) rfl rfl) (bq_nm bk_X11_from_31 (j := 30) rfl rfl) (bq_nm bk_X11_from_31 (j := 31) rfl rfl) rfl
set_option maxRecDepth 20000 in
theorem bk_X11_from_63 : ((cX11_from.data.toList.drop 63).take 2).length = 2 ∧ eN (((cX11_from.data.toList.drop 63).take 2).map UInt8.toNat) = 44036 := by decide +kernel
theorem dX11_from_63 : decode cX11_from 63 = .ok (.iconst 1, 1) := dc_4 (bq_nm bk_X11_from_63 (j := 0) rfl rfl)
theorem dX11_from_64 : decode cX11_from 64 = .ok (.ireturn, 1) := dc_172 (bq_nm bk_X11_from_63 (j := 1) rfl rfl)
set_option maxRecDepth 20000 in
theorem bk_X11_countOf_0 : ((cX11_countOf.data.toList.drop 0).take 32).length = 32 ∧ eN (((cX11_countOf.data.toList.drop 0).take 32).map UInt8.toNat) = 1810404094550198438910235493082128120115833076619271206566706315820248643114 := by decide +kernel
theorem dX11_countOf_0 : decode cX11_countOf 0 = .ok (.aload_n 0, 1) := dc_42 (bq_nm bk_X11_countOf_0 (j := 0) rfl rfl)
theorem dX11_countOf_1 : decode cX11_countOf 1 = .ok (.invokevirtual 176, 3) := dc_182 (bq_nm bk_X11_countOf_0 (j := 1) rfl rfl) (bq_nm bk_X11_countOf_0 (j := 2) rfl rfl) (bq_nm bk_X11_countOf_0 (j := 3) rfl rfl) rfl
theorem dX11_countOf_4 : decode cX11_countOf 4 = .ok (.iconst 0, 1) := dc_3 (bq_nm bk_X11_countOf_0 (j := 4) rfl rfl)
theorem dX11_countOf_5 : decode cX11_countOf 5 = .ok (.istore_n 2, 1) := dc_61 (bq_nm bk_X11_countOf_0 (j := 5) rfl rfl)
theorem dX11_countOf_6 : decode cX11_countOf 6 = .ok (.iconst 0, 1) := dc_3 (bq_nm bk_X11_countOf_0 (j := 6) rfl rfl)
theorem dX11_countOf_7 : decode cX11_countOf 7 = .ok (.istore_n 3, 1) := dc_62 (bq_nm bk_X11_countOf_0 (j := 7) rfl rfl)
theorem dX11_countOf_8 : decode cX11_countOf 8 = .ok (.iload_n 3, 1) := dc_29 (bq_nm bk_X11_countOf_0 (j := 8) rfl rfl)
theorem dX11_countOf_9 : decode cX11_countOf 9 = .ok (.aload_n 0, 1) := dc_42 (bq_nm bk_X11_countOf_0 (j := 9) rfl rfl)
theorem dX11_countOf_10 : decode cX11_countOf 10 = .ok (.getfield 7, 3) := dc_180 (bq_nm bk_X11_countOf_0 (j := 10) rfl rfl) (bq_nm bk_X11_countOf_0 (j := 11) rfl rfl) (bq_nm bk_X11_countOf_0 (j := 12) rfl rfl) rfl
theorem dX11_countOf_13 : decode cX11_countOf 13 = .ok (.iconst 4, 1) := dc_7 (bq_nm bk_X11_countOf_0 (j := 13) rfl rfl)
theorem dX11_countOf_14 : decode cX11_countOf 14 = .ok (.iaload, 1) := dc_46 (bq_nm bk_X11_countOf_0 (j := 14) rfl rfl)
theorem dX11_countOf_15 : decode cX11_countOf 15 = .ok (.if_icmp .ge 26, 3) := dc_162 (bq_nm bk_X11_countOf_0 (j := 15) rfl rfl) (bq_nm bk_X11_countOf_0 (j := 16) rfl rfl) (bq_nm bk_X11_countOf_0 (j := 17) rfl rfl) rfl
theorem dX11_countOf_18 : decode cX11_countOf 18 = .ok (.iload_n 2, 1) := dc_28 (bq_nm bk_X11_countOf_0 (j := 18) rfl rfl)
theorem dX11_countOf_19 : decode cX11_countOf 19 = .ok (.aload_n 0, 1) := dc_42 (bq_nm bk_X11_countOf_0 (j := 19) rfl rfl)
theorem dX11_countOf_20 : decode cX11_countOf 20 = .ok (.getfield 36, 3) := dc_180 (bq_nm bk_X11_countOf_0 (j := 20) rfl rfl) (bq_nm bk_X11_countOf_0 (j := 21) rfl rfl) (bq_nm bk_X11_countOf_0 (j := 22) rfl rfl) rfl
theorem dX11_countOf_23 : decode cX11_countOf 23 = .ok (.iload_n 3, 1) := dc_29 (bq_nm bk_X11_countOf_0 (j := 23) rfl rfl)
theorem dX11_countOf_24 : decode cX11_countOf 24 = .ok (.iaload, 1) := dc_46 (bq_nm bk_X11_countOf_0 (j := 24) rfl rfl)
theorem dX11_countOf_25 : decode cX11_countOf 25 = .ok (.ifCond .eq 7, 3) := dc_153 (bq_nm bk_X11_countOf_0 (j := 25) rfl rfl) (bq_nm bk_X11_countOf_0 (j := 26) rfl rfl) (bq_nm bk_X11_countOf_0 (j := 27) rfl rfl) rfl
theorem dX11_countOf_28 : decode cX11_countOf 28 = .ok (.iconst 1, 1) := dc_4 (bq_nm bk_X11_countOf_0 (j := 28) rfl rfl)
theorem dX11_countOf_29 : decode cX11_countOf 29 = .ok (.goto 4, 3) := dc_167 (bq_nm bk_X11_countOf_0 (j := 29) rfl rfl) (bq_nm bk_X11_countOf_0 (j := 30) rfl rfl) (bq_nm bk_X11_countOf_0 (j := 31) rfl rfl) rfl
set_option maxRecDepth 20000 in
theorem bk_X11_countOf_32 : ((cX11_countOf.data.toList.drop 32).take 25).length = 25 ∧ eN (((cX11_countOf.data.toList.drop 32).take 25).map UInt8.toNat) = 1080792003910851086618213362723323432277040720160291991412739 := by decide +kernel
theorem dX11_countOf_32 : decode cX11_countOf 32 = .ok (.iconst 0, 1) := dc_3 (bq_nm bk_X11_countOf_32 (j := 0) rfl rfl)
theorem dX11_countOf_33 : decode cX11_countOf 33 = .ok (.iadd, 1) := dc_96 (bq_nm bk_X11_countOf_32 (j := 1) rfl rfl)
theorem dX11_countOf_34 : decode cX11_countOf 34 = .ok (.istore_n 2, 1) := dc_61 (bq_nm bk_X11_countOf_32 (j := 2) rfl rfl)
theorem dX11_countOf_35 : decode cX11_countOf 35 = .ok (.iinc 3 1, 3) := dc_132 (bq_nm bk_X11_countOf_32 (j := 3) rfl rfl) (bq_nm bk_X11_countOf_32 (j := 4) rfl rfl) (bq_nm bk_X11_countOf_32 (j := 5) rfl rfl) rfl
theorem dX11_countOf_38 : decode cX11_countOf 38 = .ok (.goto (-30), 3) := dc_167 (bq_nm bk_X11_countOf_32 (j := 6) rfl rfl) (bq_nm bk_X11_countOf_32 (j := 7) rfl rfl) (bq_nm bk_X11_countOf_32 (j := 8) rfl rfl) rfl
theorem dX11_countOf_41 : decode cX11_countOf 41 = .ok (.iload_n 1, 1) := dc_27 (bq_nm bk_X11_countOf_32 (j := 9) rfl rfl)
theorem dX11_countOf_42 : decode cX11_countOf 42 = .ok (.iconst 5, 1) := dc_8 (bq_nm bk_X11_countOf_32 (j := 10) rfl rfl)
theorem dX11_countOf_43 : decode cX11_countOf 43 = .ok (.if_icmp .ne 7, 3) := dc_160 (bq_nm bk_X11_countOf_32 (j := 11) rfl rfl) (bq_nm bk_X11_countOf_32 (j := 12) rfl rfl) (bq_nm bk_X11_countOf_32 (j := 13) rfl rfl) rfl
theorem dX11_countOf_46 : decode cX11_countOf 46 = .ok (.iload_n 2, 1) := dc_28 (bq_nm bk_X11_countOf_32 (j := 14) rfl rfl)
theorem dX11_countOf_47 : decode cX11_countOf 47 = .ok (.goto 9, 3) := dc_167 (bq_nm bk_X11_countOf_32 (j := 15) rfl rfl) (bq_nm bk_X11_countOf_32 (j := 16) rfl rfl) (bq_nm bk_X11_countOf_32 (j := 17) rfl rfl) rfl
theorem dX11_countOf_50 : decode cX11_countOf 50 = .ok (.aload_n 0, 1) := dc_42 (bq_nm bk_X11_countOf_32 (j := 18) rfl rfl)
theorem dX11_countOf_51 : decode cX11_countOf 51 = .ok (.getfield 7, 3) := dc_180 (bq_nm bk_X11_countOf_32 (j := 19) rfl rfl) (bq_nm bk_X11_countOf_32 (j := 20) rfl rfl) (bq_nm bk_X11_countOf_32 (j := 21) rfl rfl) rfl
theorem dX11_countOf_54 : decode cX11_countOf 54 = .ok (.iload_n 1, 1) := dc_27 (bq_nm bk_X11_countOf_32 (j := 22) rfl rfl)
theorem dX11_countOf_55 : decode cX11_countOf 55 = .ok (.iaload, 1) := dc_46 (bq_nm bk_X11_countOf_32 (j := 23) rfl rfl)
theorem dX11_countOf_56 : decode cX11_countOf 56 = .ok (.ireturn, 1) := dc_172 (bq_nm bk_X11_countOf_32 (j := 24) rfl rfl)
set_option maxRecDepth 20000 in
theorem bk_X11_count_0 : ((cX11_count.data.toList.drop 0).take 23).length = 23 ∧ eN (((cX11_count.data.toList.drop 0).take 23).map UInt8.toNat) = 16569383159359809441861510607703760840046210009241584923 := by decide +kernel
theorem dX11_count_0 : decode cX11_count 0 = .ok (.iload_n 1, 1) := dc_27 (bq_nm bk_X11_count_0 (j := 0) rfl rfl)
theorem dX11_count_1 : decode cX11_count 1 = .ok (.i2l, 1) := dc_133 (bq_nm bk_X11_count_0 (j := 1) rfl rfl)
theorem dX11_count_2 : decode cX11_count 2 = .ok (.lconst 0, 1) := dc_9 (bq_nm bk_X11_count_0 (j := 2) rfl rfl)
theorem dX11_count_3 : decode cX11_count 3 = .ok (.ldc2_w 256, 3) := dc_20 (bq_nm bk_X11_count_0 (j := 3) rfl rfl) (bq_nm bk_X11_count_0 (j := 4) rfl rfl) (bq_nm bk_X11_count_0 (j := 5) rfl rfl) rfl
theorem dX11_count_6 : decode cX11_count 6 = .ok (.invokestatic 67, 3) := dc_184 (bq_nm bk_X11_count_0 (j := 6) rfl rfl) (bq_nm bk_X11_count_0 (j := 7) rfl rfl) (bq_nm bk_X11_count_0 (j := 8) rfl rfl) rfl
theorem dX11_count_9 : decode cX11_count 9 = .ok (.ifCond .eq 11, 3) := dc_153 (bq_nm bk_X11_count_0 (j := 9) rfl rfl) (bq_nm bk_X11_count_0 (j := 10) rfl rfl) (bq_nm bk_X11_count_0 (j := 11) rfl rfl) rfl
theorem dX11_count_12 : decode cX11_count 12 = .ok (.aload_n 0, 1) := dc_42 (bq_nm bk_X11_count_0 (j := 12) rfl rfl)
theorem dX11_count_13 : decode cX11_count 13 = .ok (.iload_n 1, 1) := dc_27 (bq_nm bk_X11_count_0 (j := 13) rfl rfl)
theorem dX11_count_14 : decode cX11_count 14 = .ok (.invokevirtual 258, 3) := dc_182 (bq_nm bk_X11_count_0 (j := 14) rfl rfl) (bq_nm bk_X11_count_0 (j := 15) rfl rfl) (bq_nm bk_X11_count_0 (j := 16) rfl rfl) rfl
theorem dX11_count_17 : decode cX11_count 17 = .ok (.goto 5, 3) := dc_167 (bq_nm bk_X11_count_0 (j := 17) rfl rfl) (bq_nm bk_X11_count_0 (j := 18) rfl rfl) (bq_nm bk_X11_count_0 (j := 19) rfl rfl) rfl
theorem dX11_count_20 : decode cX11_count 20 = .ok (.bipush (-2), 2) := dc_16 (bq_nm bk_X11_count_0 (j := 20) rfl rfl) (bq_nm bk_X11_count_0 (j := 21) rfl rfl) rfl
theorem dX11_count_22 : decode cX11_count 22 = .ok (.ireturn, 1) := dc_172 (bq_nm bk_X11_count_0 (j := 22) rfl rfl)
set_option maxRecDepth 20000 in
theorem bk_X11_mixed_0 : ((cX11_mixed.data.toList.drop 0).take 32).length = 32 ∧ eN (((cX11_mixed.data.toList.drop 0).take 32).map UInt8.toNat) = 2359413891431557402942710475764932641716969448664916413138067650604515538719 := by decide +kernel
theorem dX11_mixed_0 : decode cX11_mixed 0 = .ok (.lload_n 1, 1) := dc_31 (bq_nm bk_X11_mixed_0 (j := 0) rfl rfl)
theorem dX11_mixed_1 : decode cX11_mixed 1 = .ok (.lstore 5, 2) := dc_55 (bq_nm bk_X11_mixed_0 (j := 1) rfl rfl) (bq_nm bk_X11_mixed_0 (j := 2) rfl rfl)
theorem dX11_mixed_3 : decode cX11_mixed 3 = .ok (.iconst 0, 1) := dc_3 (bq_nm bk_X11_mixed_0 (j := 3) rfl rfl)
theorem dX11_mixed_4 : decode cX11_mixed 4 = .ok (.istore 7, 2) := dc_54 (bq_nm bk_X11_mixed_0 (j := 4) rfl rfl) (bq_nm bk_X11_mixed_0 (j := 5) rfl rfl)
theorem dX11_mixed_6 : decode cX11_mixed 6 = .ok (.iload 7, 2) := dc_21 (bq_nm bk_X11_mixed_0 (j := 6) rfl rfl) (bq_nm bk_X11_mixed_0 (j := 7) rfl rfl)
theorem dX11_mixed_8 : decode cX11_mixed 8 = .ok (.iload 4, 2) := dc_21 (bq_nm bk_X11_mixed_0 (j := 8) rfl rfl) (bq_nm bk_X11_mixed_0 (j := 9) rfl rfl)
theorem dX11_mixed_10 : decode cX11_mixed 10 = .ok (.if_icmp .ge 28, 3) := dc_162 (bq_nm bk_X11_mixed_0 (j := 10) rfl rfl) (bq_nm bk_X11_mixed_0 (j := 11) rfl rfl) (bq_nm bk_X11_mixed_0 (j := 12) rfl rfl) rfl
theorem dX11_mixed_13 : decode cX11_mixed 13 = .ok (.ldc2_w 261, 3) := dc_20 (bq_nm bk_X11_mixed_0 (j := 13) rfl rfl) (bq_nm bk_X11_mixed_0 (j := 14) rfl rfl) (bq_nm bk_X11_mixed_0 (j := 15) rfl rfl) rfl
theorem dX11_mixed_16 : decode cX11_mixed 16 = .ok (.lload 5, 2) := dc_22 (bq_nm bk_X11_mixed_0 (j := 16) rfl rfl) (bq_nm bk_X11_mixed_0 (j := 17) rfl rfl)
theorem dX11_mixed_18 : decode cX11_mixed 18 = .ok (.lmul, 1) := dc_105 (bq_nm bk_X11_mixed_0 (j := 18) rfl rfl)
theorem dX11_mixed_19 : decode cX11_mixed 19 = .ok (.aload_n 0, 1) := dc_42 (bq_nm bk_X11_mixed_0 (j := 19) rfl rfl)
theorem dX11_mixed_20 : decode cX11_mixed 20 = .ok (.getfield 7, 3) := dc_180 (bq_nm bk_X11_mixed_0 (j := 20) rfl rfl) (bq_nm bk_X11_mixed_0 (j := 21) rfl rfl) (bq_nm bk_X11_mixed_0 (j := 22) rfl rfl) rfl
theorem dX11_mixed_23 : decode cX11_mixed 23 = .ok (.iload_n 3, 1) := dc_29 (bq_nm bk_X11_mixed_0 (j := 23) rfl rfl)
theorem dX11_mixed_24 : decode cX11_mixed 24 = .ok (.iload 7, 2) := dc_21 (bq_nm bk_X11_mixed_0 (j := 24) rfl rfl) (bq_nm bk_X11_mixed_0 (j := 25) rfl rfl)
theorem dX11_mixed_26 : decode cX11_mixed 26 = .ok (.iadd, 1) := dc_96 (bq_nm bk_X11_mixed_0 (j := 26) rfl rfl)
theorem dX11_mixed_27 : decode cX11_mixed 27 = .ok (.iaload, 1) := dc_46 (bq_nm bk_X11_mixed_0 (j := 27) rfl rfl)
theorem dX11_mixed_28 : decode cX11_mixed 28 = .ok (.i2l, 1) := dc_133 (bq_nm bk_X11_mixed_0 (j := 28) rfl rfl)
theorem dX11_mixed_29 : decode cX11_mixed 29 = .ok (.ladd, 1) := dc_97 (bq_nm bk_X11_mixed_0 (j := 29) rfl rfl)
theorem dX11_mixed_30 : decode cX11_mixed 30 = .ok (.lstore 5, 2) := dc_55 (bq_nm bk_X11_mixed_0 (j := 30) rfl rfl) (bq_nm bk_X11_mixed_0 (j := 31) rfl rfl)
set_option maxRecDepth 20000 in
theorem bk_X11_mixed_32 : ((cX11_mixed.data.toList.drop 32).take 9).length = 9 ∧ eN (((cX11_mixed.data.toList.drop 32).take 9).map UInt8.toNat) = 3191653455858587731844 := by decide +kernel
theorem dX11_mixed_32 : decode cX11_mixed 32 = .ok (.iinc 7 1, 3) := dc_132 (bq_nm bk_X11_mixed_32 (j := 0) rfl rfl) (bq_nm bk_X11_mixed_32 (j := 1) rfl rfl) (bq_nm bk_X11_mixed_32 (j := 2) rfl rfl) rfl
theorem dX11_mixed_35 : decode cX11_mixed 35 = .ok (.goto (-29), 3) := dc_167 (bq_nm bk_X11_mixed_32 (j := 3) rfl rfl) (bq_nm bk_X11_mixed_32 (j := 4) rfl rfl) (bq_nm bk_X11_mixed_32 (j := 5) rfl rfl) rfl
theorem dX11_mixed_38 : decode cX11_mixed 38 = .ok (.lload 5, 2) := dc_22 (bq_nm bk_X11_mixed_32 (j := 6) rfl rfl) (bq_nm bk_X11_mixed_32 (j := 7) rfl rfl)
theorem dX11_mixed_40 : decode cX11_mixed 40 = .ok (.lreturn, 1) := dc_173 (bq_nm bk_X11_mixed_32 (j := 8) rfl rfl)
set_option maxRecDepth 20000 in
theorem bk_X11_digest_0 : ((cX11_digest.data.toList.drop 0).take 32).length = 32 ∧ eN (((cX11_digest.data.toList.drop 0).take 32).map UInt8.toNat) = 19412346301391614192758821957388911564154777462847015475868792984906079076628 := by decide +kernel
theorem dX11_digest_0 : decode cX11_digest 0 = .ok (.ldc2_w 263, 3) := dc_20 (bq_nm bk_X11_digest_0 (j := 0) rfl rfl) (bq_nm bk_X11_digest_0 (j := 1) rfl rfl) (bq_nm bk_X11_digest_0 (j := 2) rfl rfl) rfl
theorem dX11_digest_3 : decode cX11_digest 3 = .ok (.lstore_n 1, 1) := dc_64 (bq_nm bk_X11_digest_0 (j := 3) rfl rfl)
theorem dX11_digest_4 : decode cX11_digest 4 = .ok (.iconst 0, 1) := dc_3 (bq_nm bk_X11_digest_0 (j := 4) rfl rfl)
theorem dX11_digest_5 : decode cX11_digest 5 = .ok (.istore_n 3, 1) := dc_62 (bq_nm bk_X11_digest_0 (j := 5) rfl rfl)
theorem dX11_digest_6 : decode cX11_digest 6 = .ok (.iload_n 3, 1) := dc_29 (bq_nm bk_X11_digest_0 (j := 6) rfl rfl)
theorem dX11_digest_7 : decode cX11_digest 7 = .ok (.bipush 6, 2) := dc_16 (bq_nm bk_X11_digest_0 (j := 7) rfl rfl) (bq_nm bk_X11_digest_0 (j := 8) rfl rfl) rfl
theorem dX11_digest_9 : decode cX11_digest 9 = .ok (.if_icmp .ge 22, 3) := dc_162 (bq_nm bk_X11_digest_0 (j := 9) rfl rfl) (bq_nm bk_X11_digest_0 (j := 10) rfl rfl) (bq_nm bk_X11_digest_0 (j := 11) rfl rfl) rfl
theorem dX11_digest_12 : decode cX11_digest 12 = .ok (.ldc2_w 261, 3) := dc_20 (bq_nm bk_X11_digest_0 (j := 12) rfl rfl) (bq_nm bk_X11_digest_0 (j := 13) rfl rfl) (bq_nm bk_X11_digest_0 (j := 14) rfl rfl) rfl
theorem dX11_digest_15 : decode cX11_digest 15 = .ok (.lload_n 1, 1) := dc_31 (bq_nm bk_X11_digest_0 (j := 15) rfl rfl)
theorem dX11_digest_16 : decode cX11_digest 16 = .ok (.lmul, 1) := dc_105 (bq_nm bk_X11_digest_0 (j := 16) rfl rfl)
theorem dX11_digest_17 : decode cX11_digest 17 = .ok (.aload_n 0, 1) := dc_42 (bq_nm bk_X11_digest_0 (j := 17) rfl rfl)
theorem dX11_digest_18 : decode cX11_digest 18 = .ok (.iload_n 3, 1) := dc_29 (bq_nm bk_X11_digest_0 (j := 18) rfl rfl)
theorem dX11_digest_19 : decode cX11_digest 19 = .ok (.invokevirtual 258, 3) := dc_182 (bq_nm bk_X11_digest_0 (j := 19) rfl rfl) (bq_nm bk_X11_digest_0 (j := 20) rfl rfl) (bq_nm bk_X11_digest_0 (j := 21) rfl rfl) rfl
theorem dX11_digest_22 : decode cX11_digest 22 = .ok (.i2l, 1) := dc_133 (bq_nm bk_X11_digest_0 (j := 22) rfl rfl)
theorem dX11_digest_23 : decode cX11_digest 23 = .ok (.ladd, 1) := dc_97 (bq_nm bk_X11_digest_0 (j := 23) rfl rfl)
theorem dX11_digest_24 : decode cX11_digest 24 = .ok (.lstore_n 1, 1) := dc_64 (bq_nm bk_X11_digest_0 (j := 24) rfl rfl)
theorem dX11_digest_25 : decode cX11_digest 25 = .ok (.iinc 3 1, 3) := dc_132 (bq_nm bk_X11_digest_0 (j := 25) rfl rfl) (bq_nm bk_X11_digest_0 (j := 26) rfl rfl) (bq_nm bk_X11_digest_0 (j := 27) rfl rfl) rfl
theorem dX11_digest_28 : decode cX11_digest 28 = .ok (.goto (-22), 3) := dc_167 (bq_nm bk_X11_digest_0 (j := 28) rfl rfl) (bq_nm bk_X11_digest_0 (j := 29) rfl rfl) (bq_nm bk_X11_digest_0 (j := 30) rfl rfl) rfl
theorem dX11_digest_31 : decode cX11_digest 31 = .ok (.aload_n 0, 1) := dc_42 (bq_nm bk_X11_digest_0 (j := 31) rfl rfl)
set_option maxRecDepth 20000 in
theorem bk_X11_digest_32 : ((cX11_digest.data.toList.drop 32).take 32).length = 32 ∧ eN (((cX11_digest.data.toList.drop 32).take 32).map UInt8.toNat) = 28963935752340102634487512761978921831189207251047489951438584051307003908127 := by decide +kernel
theorem dX11_digest_32 : decode cX11_digest 32 = .ok (.lload_n 1, 1) := dc_31 (bq_nm bk_X11_digest_32 (j := 0) rfl rfl)
theorem dX11_digest_33 : decode cX11_digest 33 = .ok (.bipush 10, 2) := dc_16 (bq_nm bk_X11_digest_32 (j := 1) rfl rfl) (bq_nm bk_X11_digest_32 (j := 2) rfl rfl) rfl
theorem dX11_digest_35 : decode cX11_digest 35 = .ok (.iconst 4, 1) := dc_7 (bq_nm bk_X11_digest_32 (j := 3) rfl rfl)
theorem dX11_digest_36 : decode cX11_digest 36 = .ok (.aload_n 0, 1) := dc_42 (bq_nm bk_X11_digest_32 (j := 4) rfl rfl)
theorem dX11_digest_37 : decode cX11_digest 37 = .ok (.getfield 7, 3) := dc_180 (bq_nm bk_X11_digest_32 (j := 5) rfl rfl) (bq_nm bk_X11_digest_32 (j := 6) rfl rfl) (bq_nm bk_X11_digest_32 (j := 7) rfl rfl) rfl
theorem dX11_digest_40 : decode cX11_digest 40 = .ok (.iconst 0, 1) := dc_3 (bq_nm bk_X11_digest_32 (j := 8) rfl rfl)
theorem dX11_digest_41 : decode cX11_digest 41 = .ok (.iaload, 1) := dc_46 (bq_nm bk_X11_digest_32 (j := 9) rfl rfl)
theorem dX11_digest_42 : decode cX11_digest 42 = .ok (.imul, 1) := dc_104 (bq_nm bk_X11_digest_32 (j := 10) rfl rfl)
theorem dX11_digest_43 : decode cX11_digest 43 = .ok (.invokevirtual 265, 3) := dc_182 (bq_nm bk_X11_digest_32 (j := 11) rfl rfl) (bq_nm bk_X11_digest_32 (j := 12) rfl rfl) (bq_nm bk_X11_digest_32 (j := 13) rfl rfl) rfl
theorem dX11_digest_46 : decode cX11_digest 46 = .ok (.lstore_n 1, 1) := dc_64 (bq_nm bk_X11_digest_32 (j := 14) rfl rfl)
theorem dX11_digest_47 : decode cX11_digest 47 = .ok (.aload_n 0, 1) := dc_42 (bq_nm bk_X11_digest_32 (j := 15) rfl rfl)
theorem dX11_digest_48 : decode cX11_digest 48 = .ok (.lload_n 1, 1) := dc_31 (bq_nm bk_X11_digest_32 (j := 16) rfl rfl)
theorem dX11_digest_49 : decode cX11_digest 49 = .ok (.sipush 130, 3) := dc_17 (bq_nm bk_X11_digest_32 (j := 17) rfl rfl) (bq_nm bk_X11_digest_32 (j := 18) rfl rfl) (bq_nm bk_X11_digest_32 (j := 19) rfl rfl) rfl
theorem dX11_digest_52 : decode cX11_digest 52 = .ok (.iconst 3, 1) := dc_6 (bq_nm bk_X11_digest_32 (j := 20) rfl rfl)
theorem dX11_digest_53 : decode cX11_digest 53 = .ok (.aload_n 0, 1) := dc_42 (bq_nm bk_X11_digest_32 (j := 21) rfl rfl)
theorem dX11_digest_54 : decode cX11_digest 54 = .ok (.getfield 7, 3) := dc_180 (bq_nm bk_X11_digest_32 (j := 22) rfl rfl) (bq_nm bk_X11_digest_32 (j := 23) rfl rfl) (bq_nm bk_X11_digest_32 (j := 24) rfl rfl) rfl
theorem dX11_digest_57 : decode cX11_digest 57 = .ok (.iconst 1, 1) := dc_4 (bq_nm bk_X11_digest_32 (j := 25) rfl rfl)
theorem dX11_digest_58 : decode cX11_digest 58 = .ok (.iaload, 1) := dc_46 (bq_nm bk_X11_digest_32 (j := 26) rfl rfl)
theorem dX11_digest_59 : decode cX11_digest 59 = .ok (.imul, 1) := dc_104 (bq_nm bk_X11_digest_32 (j := 27) rfl rfl)
theorem dX11_digest_60 : decode cX11_digest 60 = .ok (.invokevirtual 265, 3) := dc_182 (bq_nm bk_X11_digest_32 (j := 28) rfl rfl) (bq_nm bk_X11_digest_32 (j := 29) rfl rfl) (bq_nm bk_X11_digest_32 (j := 30) rfl rfl) rfl
theorem dX11_digest_63 : decode cX11_digest 63 = .ok (.lstore_n 1, 1) := dc_64 (bq_nm bk_X11_digest_32 (j := 31) rfl rfl)
set_option maxRecDepth 20000 in
theorem bk_X11_digest_64 : ((cX11_digest.data.toList.drop 64).take 31).length = 31 ∧ eN (((cX11_digest.data.toList.drop 64).take 31).map UInt8.toNat) = 55063210819278695477608347652325544733068545405736655479141477300911021866 := by decide +kernel
theorem dX11_digest_64 : decode cX11_digest 64 = .ok (.aload_n 0, 1) := dc_42 (bq_nm bk_X11_digest_64 (j := 0) rfl rfl)
theorem dX11_digest_65 : decode cX11_digest 65 = .ok (.lload_n 1, 1) := dc_31 (bq_nm bk_X11_digest_64 (j := 1) rfl rfl)
theorem dX11_digest_66 : decode cX11_digest 66 = .ok (.sipush 250, 3) := dc_17 (bq_nm bk_X11_digest_64 (j := 2) rfl rfl) (bq_nm bk_X11_digest_64 (j := 3) rfl rfl) (bq_nm bk_X11_digest_64 (j := 4) rfl rfl) rfl
theorem dX11_digest_69 : decode cX11_digest 69 = .ok (.iconst 3, 1) := dc_6 (bq_nm bk_X11_digest_64 (j := 5) rfl rfl)
theorem dX11_digest_70 : decode cX11_digest 70 = .ok (.aload_n 0, 1) := dc_42 (bq_nm bk_X11_digest_64 (j := 6) rfl rfl)
theorem dX11_digest_71 : decode cX11_digest 71 = .ok (.getfield 7, 3) := dc_180 (bq_nm bk_X11_digest_64 (j := 7) rfl rfl) (bq_nm bk_X11_digest_64 (j := 8) rfl rfl) (bq_nm bk_X11_digest_64 (j := 9) rfl rfl) rfl
theorem dX11_digest_74 : decode cX11_digest 74 = .ok (.iconst 2, 1) := dc_5 (bq_nm bk_X11_digest_64 (j := 10) rfl rfl)
theorem dX11_digest_75 : decode cX11_digest 75 = .ok (.iaload, 1) := dc_46 (bq_nm bk_X11_digest_64 (j := 11) rfl rfl)
theorem dX11_digest_76 : decode cX11_digest 76 = .ok (.imul, 1) := dc_104 (bq_nm bk_X11_digest_64 (j := 12) rfl rfl)
theorem dX11_digest_77 : decode cX11_digest 77 = .ok (.invokevirtual 265, 3) := dc_182 (bq_nm bk_X11_digest_64 (j := 13) rfl rfl) (bq_nm bk_X11_digest_64 (j := 14) rfl rfl) (bq_nm bk_X11_digest_64 (j := 15) rfl rfl) rfl
theorem dX11_digest_80 : decode cX11_digest 80 = .ok (.lstore_n 1, 1) := dc_64 (bq_nm bk_X11_digest_64 (j := 16) rfl rfl)
theorem dX11_digest_81 : decode cX11_digest 81 = .ok (.iconst 0, 1) := dc_3 (bq_nm bk_X11_digest_64 (j := 17) rfl rfl)
theorem dX11_digest_82 : decode cX11_digest 82 = .ok (.istore_n 3, 1) := dc_62 (bq_nm bk_X11_digest_64 (j := 18) rfl rfl)
theorem dX11_digest_83 : decode cX11_digest 83 = .ok (.iload_n 3, 1) := dc_29 (bq_nm bk_X11_digest_64 (j := 19) rfl rfl)
theorem dX11_digest_84 : decode cX11_digest 84 = .ok (.aload_n 0, 1) := dc_42 (bq_nm bk_X11_digest_64 (j := 20) rfl rfl)
theorem dX11_digest_85 : decode cX11_digest 85 = .ok (.getfield 7, 3) := dc_180 (bq_nm bk_X11_digest_64 (j := 21) rfl rfl) (bq_nm bk_X11_digest_64 (j := 22) rfl rfl) (bq_nm bk_X11_digest_64 (j := 23) rfl rfl) rfl
theorem dX11_digest_88 : decode cX11_digest 88 = .ok (.iconst 3, 1) := dc_6 (bq_nm bk_X11_digest_64 (j := 24) rfl rfl)
theorem dX11_digest_89 : decode cX11_digest 89 = .ok (.iaload, 1) := dc_46 (bq_nm bk_X11_digest_64 (j := 25) rfl rfl)
theorem dX11_digest_90 : decode cX11_digest 90 = .ok (.if_icmp .ge 40, 3) := dc_162 (bq_nm bk_X11_digest_64 (j := 26) rfl rfl) (bq_nm bk_X11_digest_64 (j := 27) rfl rfl) (bq_nm bk_X11_digest_64 (j := 28) rfl rfl) rfl
theorem dX11_digest_93 : decode cX11_digest 93 = .ok (.aload_n 0, 1) := dc_42 (bq_nm bk_X11_digest_64 (j := 29) rfl rfl)
theorem dX11_digest_94 : decode cX11_digest 94 = .ok (.lload_n 1, 1) := dc_31 (bq_nm bk_X11_digest_64 (j := 30) rfl rfl)
set_option maxRecDepth 20000 in
theorem bk_X11_digest_95 : ((cX11_digest.data.toList.drop 95).take 32).length = 32 ∧ eN (((cX11_digest.data.toList.drop 95).take 32).map UInt8.toNat) = 458526146680479661042243091386053117499663240184622685500886465343506219281 := by decide +kernel
theorem dX11_digest_95 : decode cX11_digest 95 = .ok (.sipush 466, 3) := dc_17 (bq_nm bk_X11_digest_95 (j := 0) rfl rfl) (bq_nm bk_X11_digest_95 (j := 1) rfl rfl) (bq_nm bk_X11_digest_95 (j := 2) rfl rfl) rfl
theorem dX11_digest_98 : decode cX11_digest 98 = .ok (.bipush 54, 2) := dc_16 (bq_nm bk_X11_digest_95 (j := 3) rfl rfl) (bq_nm bk_X11_digest_95 (j := 4) rfl rfl) rfl
theorem dX11_digest_100 : decode cX11_digest 100 = .ok (.iload_n 3, 1) := dc_29 (bq_nm bk_X11_digest_95 (j := 5) rfl rfl)
theorem dX11_digest_101 : decode cX11_digest 101 = .ok (.imul, 1) := dc_104 (bq_nm bk_X11_digest_95 (j := 6) rfl rfl)
theorem dX11_digest_102 : decode cX11_digest 102 = .ok (.iadd, 1) := dc_96 (bq_nm bk_X11_digest_95 (j := 7) rfl rfl)
theorem dX11_digest_103 : decode cX11_digest 103 = .ok (.iconst 4, 1) := dc_7 (bq_nm bk_X11_digest_95 (j := 8) rfl rfl)
theorem dX11_digest_104 : decode cX11_digest 104 = .ok (.aload_n 0, 1) := dc_42 (bq_nm bk_X11_digest_95 (j := 9) rfl rfl)
theorem dX11_digest_105 : decode cX11_digest 105 = .ok (.getfield 7, 3) := dc_180 (bq_nm bk_X11_digest_95 (j := 10) rfl rfl) (bq_nm bk_X11_digest_95 (j := 11) rfl rfl) (bq_nm bk_X11_digest_95 (j := 12) rfl rfl) rfl
theorem dX11_digest_108 : decode cX11_digest 108 = .ok (.sipush 466, 3) := dc_17 (bq_nm bk_X11_digest_95 (j := 13) rfl rfl) (bq_nm bk_X11_digest_95 (j := 14) rfl rfl) (bq_nm bk_X11_digest_95 (j := 15) rfl rfl) rfl
theorem dX11_digest_111 : decode cX11_digest 111 = .ok (.bipush 54, 2) := dc_16 (bq_nm bk_X11_digest_95 (j := 16) rfl rfl) (bq_nm bk_X11_digest_95 (j := 17) rfl rfl) rfl
theorem dX11_digest_113 : decode cX11_digest 113 = .ok (.iload_n 3, 1) := dc_29 (bq_nm bk_X11_digest_95 (j := 18) rfl rfl)
theorem dX11_digest_114 : decode cX11_digest 114 = .ok (.imul, 1) := dc_104 (bq_nm bk_X11_digest_95 (j := 19) rfl rfl)
theorem dX11_digest_115 : decode cX11_digest 115 = .ok (.iadd, 1) := dc_96 (bq_nm bk_X11_digest_95 (j := 20) rfl rfl)
theorem dX11_digest_116 : decode cX11_digest 116 = .ok (.iconst 3, 1) := dc_6 (bq_nm bk_X11_digest_95 (j := 21) rfl rfl)
theorem dX11_digest_117 : decode cX11_digest 117 = .ok (.iadd, 1) := dc_96 (bq_nm bk_X11_digest_95 (j := 22) rfl rfl)
theorem dX11_digest_118 : decode cX11_digest 118 = .ok (.iaload, 1) := dc_46 (bq_nm bk_X11_digest_95 (j := 23) rfl rfl)
theorem dX11_digest_119 : decode cX11_digest 119 = .ok (.iadd, 1) := dc_96 (bq_nm bk_X11_digest_95 (j := 24) rfl rfl)
theorem dX11_digest_120 : decode cX11_digest 120 = .ok (.invokevirtual 265, 3) := dc_182 (bq_nm bk_X11_digest_95 (j := 25) rfl rfl) (bq_nm bk_X11_digest_95 (j := 26) rfl rfl) (bq_nm bk_X11_digest_95 (j := 27) rfl rfl) rfl
theorem dX11_digest_123 : decode cX11_digest 123 = .ok (.lstore_n 1, 1) := dc_64 (bq_nm bk_X11_digest_95 (j := 28) rfl rfl)
theorem dX11_digest_124 : decode cX11_digest 124 = .ok (.iinc 3 1, 3) := dc_132 (bq_nm bk_X11_digest_95 (j := 29) rfl rfl) (bq_nm bk_X11_digest_95 (j := 30) rfl rfl) (bq_nm bk_X11_digest_95 (j := 31) rfl rfl) rfl
set_option maxRecDepth 20000 in
theorem bk_X11_digest_127 : ((cX11_digest.data.toList.drop 127).take 32).length = 32 ∧ eN (((cX11_digest.data.toList.drop 127).take 32).map UInt8.toNat) = 47665152442015776894986052399683495632544165556138853151572329536048021700519 := by decide +kernel
theorem dX11_digest_127 : decode cX11_digest 127 = .ok (.goto (-44), 3) := dc_167 (bq_nm bk_X11_digest_127 (j := 0) rfl rfl) (bq_nm bk_X11_digest_127 (j := 1) rfl rfl) (bq_nm bk_X11_digest_127 (j := 2) rfl rfl) rfl
theorem dX11_digest_130 : decode cX11_digest 130 = .ok (.iconst 0, 1) := dc_3 (bq_nm bk_X11_digest_127 (j := 3) rfl rfl)
theorem dX11_digest_131 : decode cX11_digest 131 = .ok (.istore_n 3, 1) := dc_62 (bq_nm bk_X11_digest_127 (j := 4) rfl rfl)
theorem dX11_digest_132 : decode cX11_digest 132 = .ok (.iload_n 3, 1) := dc_29 (bq_nm bk_X11_digest_127 (j := 5) rfl rfl)
theorem dX11_digest_133 : decode cX11_digest 133 = .ok (.aload_n 0, 1) := dc_42 (bq_nm bk_X11_digest_127 (j := 6) rfl rfl)
theorem dX11_digest_134 : decode cX11_digest 134 = .ok (.getfield 7, 3) := dc_180 (bq_nm bk_X11_digest_127 (j := 7) rfl rfl) (bq_nm bk_X11_digest_127 (j := 8) rfl rfl) (bq_nm bk_X11_digest_127 (j := 9) rfl rfl) rfl
theorem dX11_digest_137 : decode cX11_digest 137 = .ok (.iconst 4, 1) := dc_7 (bq_nm bk_X11_digest_127 (j := 10) rfl rfl)
theorem dX11_digest_138 : decode cX11_digest 138 = .ok (.iaload, 1) := dc_46 (bq_nm bk_X11_digest_127 (j := 11) rfl rfl)
theorem dX11_digest_139 : decode cX11_digest 139 = .ok (.if_icmp .ge 69, 3) := dc_162 (bq_nm bk_X11_digest_127 (j := 12) rfl rfl) (bq_nm bk_X11_digest_127 (j := 13) rfl rfl) (bq_nm bk_X11_digest_127 (j := 14) rfl rfl) rfl
theorem dX11_digest_142 : decode cX11_digest 142 = .ok (.ldc2_w 261, 3) := dc_20 (bq_nm bk_X11_digest_127 (j := 15) rfl rfl) (bq_nm bk_X11_digest_127 (j := 16) rfl rfl) (bq_nm bk_X11_digest_127 (j := 17) rfl rfl) rfl
theorem dX11_digest_145 : decode cX11_digest 145 = .ok (.ldc2_w 261, 3) := dc_20 (bq_nm bk_X11_digest_127 (j := 18) rfl rfl) (bq_nm bk_X11_digest_127 (j := 19) rfl rfl) (bq_nm bk_X11_digest_127 (j := 20) rfl rfl) rfl
theorem dX11_digest_148 : decode cX11_digest 148 = .ok (.lload_n 1, 1) := dc_31 (bq_nm bk_X11_digest_127 (j := 21) rfl rfl)
theorem dX11_digest_149 : decode cX11_digest 149 = .ok (.lmul, 1) := dc_105 (bq_nm bk_X11_digest_127 (j := 22) rfl rfl)
theorem dX11_digest_150 : decode cX11_digest 150 = .ok (.aload_n 0, 1) := dc_42 (bq_nm bk_X11_digest_127 (j := 23) rfl rfl)
theorem dX11_digest_151 : decode cX11_digest 151 = .ok (.getfield 33, 3) := dc_180 (bq_nm bk_X11_digest_127 (j := 24) rfl rfl) (bq_nm bk_X11_digest_127 (j := 25) rfl rfl) (bq_nm bk_X11_digest_127 (j := 26) rfl rfl) rfl
theorem dX11_digest_154 : decode cX11_digest 154 = .ok (.iload_n 3, 1) := dc_29 (bq_nm bk_X11_digest_127 (j := 27) rfl rfl)
theorem dX11_digest_155 : decode cX11_digest 155 = .ok (.iaload, 1) := dc_46 (bq_nm bk_X11_digest_127 (j := 28) rfl rfl)
theorem dX11_digest_156 : decode cX11_digest 156 = .ok (.i2l, 1) := dc_133 (bq_nm bk_X11_digest_127 (j := 29) rfl rfl)
theorem dX11_digest_157 : decode cX11_digest 157 = .ok (.ladd, 1) := dc_97 (bq_nm bk_X11_digest_127 (j := 30) rfl rfl)
theorem dX11_digest_158 : decode cX11_digest 158 = .ok (.lmul, 1) := dc_105 (bq_nm bk_X11_digest_127 (j := 31) rfl rfl)
set_option maxRecDepth 20000 in
theorem bk_X11_digest_159 : ((cX11_digest.data.toList.drop 159).take 32).length = 32 ∧ eN (((cX11_digest.data.toList.drop 159).take 32).map UInt8.toNat) = 1847073746908864417702965908462756695858573748253136600854342803154660275242 := by decide +kernel
theorem dX11_digest_159 : decode cX11_digest 159 = .ok (.aload_n 0, 1) := dc_42 (bq_nm bk_X11_digest_159 (j := 0) rfl rfl)
theorem dX11_digest_160 : decode cX11_digest 160 = .ok (.getfield 36, 3) := dc_180 (bq_nm bk_X11_digest_159 (j := 1) rfl rfl) (bq_nm bk_X11_digest_159 (j := 2) rfl rfl) (bq_nm bk_X11_digest_159 (j := 3) rfl rfl) rfl
theorem dX11_digest_163 : decode cX11_digest 163 = .ok (.iload_n 3, 1) := dc_29 (bq_nm bk_X11_digest_159 (j := 4) rfl rfl)
theorem dX11_digest_164 : decode cX11_digest 164 = .ok (.iaload, 1) := dc_46 (bq_nm bk_X11_digest_159 (j := 5) rfl rfl)
theorem dX11_digest_165 : decode cX11_digest 165 = .ok (.i2l, 1) := dc_133 (bq_nm bk_X11_digest_159 (j := 6) rfl rfl)
theorem dX11_digest_166 : decode cX11_digest 166 = .ok (.ladd, 1) := dc_97 (bq_nm bk_X11_digest_159 (j := 7) rfl rfl)
theorem dX11_digest_167 : decode cX11_digest 167 = .ok (.lstore_n 1, 1) := dc_64 (bq_nm bk_X11_digest_159 (j := 8) rfl rfl)
theorem dX11_digest_168 : decode cX11_digest 168 = .ok (.iconst 0, 1) := dc_3 (bq_nm bk_X11_digest_159 (j := 9) rfl rfl)
theorem dX11_digest_169 : decode cX11_digest 169 = .ok (.istore 4, 2) := dc_54 (bq_nm bk_X11_digest_159 (j := 10) rfl rfl) (bq_nm bk_X11_digest_159 (j := 11) rfl rfl)
theorem dX11_digest_171 : decode cX11_digest 171 = .ok (.iload 4, 2) := dc_21 (bq_nm bk_X11_digest_159 (j := 12) rfl rfl) (bq_nm bk_X11_digest_159 (j := 13) rfl rfl)
theorem dX11_digest_173 : decode cX11_digest 173 = .ok (.iconst 4, 1) := dc_7 (bq_nm bk_X11_digest_159 (j := 14) rfl rfl)
theorem dX11_digest_174 : decode cX11_digest 174 = .ok (.if_icmp .ge 28, 3) := dc_162 (bq_nm bk_X11_digest_159 (j := 15) rfl rfl) (bq_nm bk_X11_digest_159 (j := 16) rfl rfl) (bq_nm bk_X11_digest_159 (j := 17) rfl rfl) rfl
theorem dX11_digest_177 : decode cX11_digest 177 = .ok (.ldc2_w 261, 3) := dc_20 (bq_nm bk_X11_digest_159 (j := 18) rfl rfl) (bq_nm bk_X11_digest_159 (j := 19) rfl rfl) (bq_nm bk_X11_digest_159 (j := 20) rfl rfl) rfl
theorem dX11_digest_180 : decode cX11_digest 180 = .ok (.lload_n 1, 1) := dc_31 (bq_nm bk_X11_digest_159 (j := 21) rfl rfl)
theorem dX11_digest_181 : decode cX11_digest 181 = .ok (.lmul, 1) := dc_105 (bq_nm bk_X11_digest_159 (j := 22) rfl rfl)
theorem dX11_digest_182 : decode cX11_digest 182 = .ok (.aload_n 0, 1) := dc_42 (bq_nm bk_X11_digest_159 (j := 23) rfl rfl)
theorem dX11_digest_183 : decode cX11_digest 183 = .ok (.getfield 48, 3) := dc_180 (bq_nm bk_X11_digest_159 (j := 24) rfl rfl) (bq_nm bk_X11_digest_159 (j := 25) rfl rfl) (bq_nm bk_X11_digest_159 (j := 26) rfl rfl) rfl
theorem dX11_digest_186 : decode cX11_digest 186 = .ok (.iconst 4, 1) := dc_7 (bq_nm bk_X11_digest_159 (j := 27) rfl rfl)
theorem dX11_digest_187 : decode cX11_digest 187 = .ok (.iload_n 3, 1) := dc_29 (bq_nm bk_X11_digest_159 (j := 28) rfl rfl)
theorem dX11_digest_188 : decode cX11_digest 188 = .ok (.imul, 1) := dc_104 (bq_nm bk_X11_digest_159 (j := 29) rfl rfl)
theorem dX11_digest_189 : decode cX11_digest 189 = .ok (.iload 4, 2) := dc_21 (bq_nm bk_X11_digest_159 (j := 30) rfl rfl) (bq_nm bk_X11_digest_159 (j := 31) rfl rfl)
set_option maxRecDepth 20000 in
theorem bk_X11_digest_191 : ((cX11_digest.data.toList.drop 191).take 32).length = 32 ∧ eN (((cX11_digest.data.toList.drop 191).take 32).map UInt8.toNat) = 13207292399032007281246221680105232365881593534301743542476735833456253415008 := by decide +kernel
theorem dX11_digest_191 : decode cX11_digest 191 = .ok (.iadd, 1) := dc_96 (bq_nm bk_X11_digest_191 (j := 0) rfl rfl)
theorem dX11_digest_192 : decode cX11_digest 192 = .ok (.iaload, 1) := dc_46 (bq_nm bk_X11_digest_191 (j := 1) rfl rfl)
theorem dX11_digest_193 : decode cX11_digest 193 = .ok (.i2l, 1) := dc_133 (bq_nm bk_X11_digest_191 (j := 2) rfl rfl)
theorem dX11_digest_194 : decode cX11_digest 194 = .ok (.ladd, 1) := dc_97 (bq_nm bk_X11_digest_191 (j := 3) rfl rfl)
theorem dX11_digest_195 : decode cX11_digest 195 = .ok (.lstore_n 1, 1) := dc_64 (bq_nm bk_X11_digest_191 (j := 4) rfl rfl)
theorem dX11_digest_196 : decode cX11_digest 196 = .ok (.iinc 4 1, 3) := dc_132 (bq_nm bk_X11_digest_191 (j := 5) rfl rfl) (bq_nm bk_X11_digest_191 (j := 6) rfl rfl) (bq_nm bk_X11_digest_191 (j := 7) rfl rfl) rfl
theorem dX11_digest_199 : decode cX11_digest 199 = .ok (.goto (-28), 3) := dc_167 (bq_nm bk_X11_digest_191 (j := 8) rfl rfl) (bq_nm bk_X11_digest_191 (j := 9) rfl rfl) (bq_nm bk_X11_digest_191 (j := 10) rfl rfl) rfl
theorem dX11_digest_202 : decode cX11_digest 202 = .ok (.iinc 3 1, 3) := dc_132 (bq_nm bk_X11_digest_191 (j := 11) rfl rfl) (bq_nm bk_X11_digest_191 (j := 12) rfl rfl) (bq_nm bk_X11_digest_191 (j := 13) rfl rfl) rfl
theorem dX11_digest_205 : decode cX11_digest 205 = .ok (.goto (-73), 3) := dc_167 (bq_nm bk_X11_digest_191 (j := 14) rfl rfl) (bq_nm bk_X11_digest_191 (j := 15) rfl rfl) (bq_nm bk_X11_digest_191 (j := 16) rfl rfl) rfl
theorem dX11_digest_208 : decode cX11_digest 208 = .ok (.iconst 0, 1) := dc_3 (bq_nm bk_X11_digest_191 (j := 17) rfl rfl)
theorem dX11_digest_209 : decode cX11_digest 209 = .ok (.istore_n 3, 1) := dc_62 (bq_nm bk_X11_digest_191 (j := 18) rfl rfl)
theorem dX11_digest_210 : decode cX11_digest 210 = .ok (.iload_n 3, 1) := dc_29 (bq_nm bk_X11_digest_191 (j := 19) rfl rfl)
theorem dX11_digest_211 : decode cX11_digest 211 = .ok (.iconst 4, 1) := dc_7 (bq_nm bk_X11_digest_191 (j := 20) rfl rfl)
theorem dX11_digest_212 : decode cX11_digest 212 = .ok (.if_icmp .ge 38, 3) := dc_162 (bq_nm bk_X11_digest_191 (j := 21) rfl rfl) (bq_nm bk_X11_digest_191 (j := 22) rfl rfl) (bq_nm bk_X11_digest_191 (j := 23) rfl rfl) rfl
theorem dX11_digest_215 : decode cX11_digest 215 = .ok (.aload_n 0, 1) := dc_42 (bq_nm bk_X11_digest_191 (j := 24) rfl rfl)
theorem dX11_digest_216 : decode cX11_digest 216 = .ok (.lload_n 1, 1) := dc_31 (bq_nm bk_X11_digest_191 (j := 25) rfl rfl)
theorem dX11_digest_217 : decode cX11_digest 217 = .ok (.sipush 262, 3) := dc_17 (bq_nm bk_X11_digest_191 (j := 26) rfl rfl) (bq_nm bk_X11_digest_191 (j := 27) rfl rfl) (bq_nm bk_X11_digest_191 (j := 28) rfl rfl) rfl
theorem dX11_digest_220 : decode cX11_digest 220 = .ok (.bipush 51, 2) := dc_16 (bq_nm bk_X11_digest_191 (j := 29) rfl rfl) (bq_nm bk_X11_digest_191 (j := 30) rfl rfl) rfl
theorem dX11_digest_222 : decode cX11_digest 222 = .ok (.iload_n 3, 1) := dc_29 (bq_nm bk_X11_digest_191 (j := 31) rfl rfl)
set_option maxRecDepth 20000 in
theorem bk_X11_digest_223 : ((cX11_digest.data.toList.drop 223).take 31).length = 31 ∧ eN (((cX11_digest.data.toList.drop 223).take 31).map UInt8.toNat) = 8890289566631369922920076663192148552141078353424156965118268944427540584 := by decide +kernel
theorem dX11_digest_223 : decode cX11_digest 223 = .ok (.imul, 1) := dc_104 (bq_nm bk_X11_digest_223 (j := 0) rfl rfl)
theorem dX11_digest_224 : decode cX11_digest 224 = .ok (.iadd, 1) := dc_96 (bq_nm bk_X11_digest_223 (j := 1) rfl rfl)
theorem dX11_digest_225 : decode cX11_digest 225 = .ok (.iconst 1, 1) := dc_4 (bq_nm bk_X11_digest_223 (j := 2) rfl rfl)
theorem dX11_digest_226 : decode cX11_digest 226 = .ok (.aload_n 0, 1) := dc_42 (bq_nm bk_X11_digest_223 (j := 3) rfl rfl)
theorem dX11_digest_227 : decode cX11_digest 227 = .ok (.getfield 7, 3) := dc_180 (bq_nm bk_X11_digest_223 (j := 4) rfl rfl) (bq_nm bk_X11_digest_223 (j := 5) rfl rfl) (bq_nm bk_X11_digest_223 (j := 6) rfl rfl) rfl
theorem dX11_digest_230 : decode cX11_digest 230 = .ok (.sipush 262, 3) := dc_17 (bq_nm bk_X11_digest_223 (j := 7) rfl rfl) (bq_nm bk_X11_digest_223 (j := 8) rfl rfl) (bq_nm bk_X11_digest_223 (j := 9) rfl rfl) rfl
theorem dX11_digest_233 : decode cX11_digest 233 = .ok (.bipush 51, 2) := dc_16 (bq_nm bk_X11_digest_223 (j := 10) rfl rfl) (bq_nm bk_X11_digest_223 (j := 11) rfl rfl) rfl
theorem dX11_digest_235 : decode cX11_digest 235 = .ok (.iload_n 3, 1) := dc_29 (bq_nm bk_X11_digest_223 (j := 12) rfl rfl)
theorem dX11_digest_236 : decode cX11_digest 236 = .ok (.imul, 1) := dc_104 (bq_nm bk_X11_digest_223 (j := 13) rfl rfl)
theorem dX11_digest_237 : decode cX11_digest 237 = .ok (.iadd, 1) := dc_96 (bq_nm bk_X11_digest_223 (j := 14) rfl rfl)
theorem dX11_digest_238 : decode cX11_digest 238 = .ok (.iaload, 1) := dc_46 (bq_nm bk_X11_digest_223 (j := 15) rfl rfl)
theorem dX11_digest_239 : decode cX11_digest 239 = .ok (.iadd, 1) := dc_96 (bq_nm bk_X11_digest_223 (j := 16) rfl rfl)
theorem dX11_digest_240 : decode cX11_digest 240 = .ok (.invokevirtual 265, 3) := dc_182 (bq_nm bk_X11_digest_223 (j := 17) rfl rfl) (bq_nm bk_X11_digest_223 (j := 18) rfl rfl) (bq_nm bk_X11_digest_223 (j := 19) rfl rfl) rfl
theorem dX11_digest_243 : decode cX11_digest 243 = .ok (.lstore_n 1, 1) := dc_64 (bq_nm bk_X11_digest_223 (j := 20) rfl rfl)
theorem dX11_digest_244 : decode cX11_digest 244 = .ok (.iinc 3 1, 3) := dc_132 (bq_nm bk_X11_digest_223 (j := 21) rfl rfl) (bq_nm bk_X11_digest_223 (j := 22) rfl rfl) (bq_nm bk_X11_digest_223 (j := 23) rfl rfl) rfl
theorem dX11_digest_247 : decode cX11_digest 247 = .ok (.goto (-37), 3) := dc_167 (bq_nm bk_X11_digest_223 (j := 24) rfl rfl) (bq_nm bk_X11_digest_223 (j := 25) rfl rfl) (bq_nm bk_X11_digest_223 (j := 26) rfl rfl) rfl
theorem dX11_digest_250 : decode cX11_digest 250 = .ok (.aload_n 0, 1) := dc_42 (bq_nm bk_X11_digest_223 (j := 27) rfl rfl)
theorem dX11_digest_251 : decode cX11_digest 251 = .ok (.lload_n 1, 1) := dc_31 (bq_nm bk_X11_digest_223 (j := 28) rfl rfl)
theorem dX11_digest_252 : decode cX11_digest 252 = .ok (.iconst 5, 1) := dc_8 (bq_nm bk_X11_digest_223 (j := 29) rfl rfl)
theorem dX11_digest_253 : decode cX11_digest 253 = .ok (.iconst 2, 1) := dc_5 (bq_nm bk_X11_digest_223 (j := 30) rfl rfl)
set_option maxRecDepth 20000 in
theorem bk_X11_digest_254 : ((cX11_digest.data.toList.drop 254).take 24).length = 24 ∧ eN (((cX11_digest.data.toList.drop 254).take 24).map UInt8.toNat) = 4251261983460250834102368582914630754537027497567751569846 := by decide +kernel
theorem dX11_digest_254 : decode cX11_digest 254 = .ok (.invokevirtual 265, 3) := dc_182 (bq_nm bk_X11_digest_254 (j := 0) rfl rfl) (bq_nm bk_X11_digest_254 (j := 1) rfl rfl) (bq_nm bk_X11_digest_254 (j := 2) rfl rfl) rfl
theorem dX11_digest_257 : decode cX11_digest 257 = .ok (.lstore_n 1, 1) := dc_64 (bq_nm bk_X11_digest_254 (j := 3) rfl rfl)
theorem dX11_digest_258 : decode cX11_digest 258 = .ok (.ldc2_w 261, 3) := dc_20 (bq_nm bk_X11_digest_254 (j := 4) rfl rfl) (bq_nm bk_X11_digest_254 (j := 5) rfl rfl) (bq_nm bk_X11_digest_254 (j := 6) rfl rfl) rfl
theorem dX11_digest_261 : decode cX11_digest 261 = .ok (.ldc2_w 261, 3) := dc_20 (bq_nm bk_X11_digest_254 (j := 7) rfl rfl) (bq_nm bk_X11_digest_254 (j := 8) rfl rfl) (bq_nm bk_X11_digest_254 (j := 9) rfl rfl) rfl
theorem dX11_digest_264 : decode cX11_digest 264 = .ok (.lload_n 1, 1) := dc_31 (bq_nm bk_X11_digest_254 (j := 10) rfl rfl)
theorem dX11_digest_265 : decode cX11_digest 265 = .ok (.lmul, 1) := dc_105 (bq_nm bk_X11_digest_254 (j := 11) rfl rfl)
theorem dX11_digest_266 : decode cX11_digest 266 = .ok (.aload_n 0, 1) := dc_42 (bq_nm bk_X11_digest_254 (j := 12) rfl rfl)
theorem dX11_digest_267 : decode cX11_digest 267 = .ok (.getfield 238, 3) := dc_180 (bq_nm bk_X11_digest_254 (j := 13) rfl rfl) (bq_nm bk_X11_digest_254 (j := 14) rfl rfl) (bq_nm bk_X11_digest_254 (j := 15) rfl rfl) rfl
theorem dX11_digest_270 : decode cX11_digest 270 = .ok (.ladd, 1) := dc_97 (bq_nm bk_X11_digest_254 (j := 16) rfl rfl)
theorem dX11_digest_271 : decode cX11_digest 271 = .ok (.lmul, 1) := dc_105 (bq_nm bk_X11_digest_254 (j := 17) rfl rfl)
theorem dX11_digest_272 : decode cX11_digest 272 = .ok (.aload_n 0, 1) := dc_42 (bq_nm bk_X11_digest_254 (j := 18) rfl rfl)
theorem dX11_digest_273 : decode cX11_digest 273 = .ok (.getfield 63, 3) := dc_180 (bq_nm bk_X11_digest_254 (j := 19) rfl rfl) (bq_nm bk_X11_digest_254 (j := 20) rfl rfl) (bq_nm bk_X11_digest_254 (j := 21) rfl rfl) rfl
theorem dX11_digest_276 : decode cX11_digest 276 = .ok (.ladd, 1) := dc_97 (bq_nm bk_X11_digest_254 (j := 22) rfl rfl)
theorem dX11_digest_277 : decode cX11_digest 277 = .ok (.lreturn, 1) := dc_173 (bq_nm bk_X11_digest_254 (j := 23) rfl rfl)


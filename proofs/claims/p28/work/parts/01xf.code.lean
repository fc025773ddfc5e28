set_option maxRecDepth 20000 in
theorem dX1_letter_1 : decode cX1_letter 1 = .ok (.lookupswitch 120 #[(97, 51), (108, 70), (112, 98), (115, 112), (116, 84)], 51) := by decide +kernel
set_option maxRecDepth 20000 in
theorem dX3_figure_1 : decode cX3_figure 1 = .ok (.tableswitch 58 0 2 #[27, 42, 50], 27) := by decide +kernel
set_option maxRecDepth 20000 in
theorem dX4_startsUnit_1 : decode cX4_startsUnit 1 = .ok (.lookupswitch 145 #[(33, 130), (40, 96), (45, 137), (97, 83), (108, 83), (112, 83), (115, 83), (116, 83), (121, 83)], 83) := by decide +kernel
set_option maxRecDepth 20000 in
theorem dX7_rank_1 : decode cX7_rank 1 = .ok (.lookupswitch 112 #[(33, 109), (38, 101), (42, 107), (43, 105), (45, 105), (47, 107), (60, 103), (61, 103), (62, 103), (124, 99), (126, 109)], 99) := by decide +kernel
set_option maxRecDepth 20000 in
theorem dX7_joined_1 : decode cX7_joined 1 = .ok (.lookupswitch 174 #[(38, 96), (42, 170), (43, 162), (45, 166), (60, 117), (61, 147), (62, 132), (124, 75)], 75) := by decide +kernel
set_option maxRecDepth 20000 in
theorem dX10_howMany_1 : decode cX10_howMany 1 = .ok (.tableswitch 90 0 4 #[35, 46, 57, 68, 79], 35) := by decide +kernel
set_option maxRecDepth 20000 in
theorem dX11_holds_1 : decode cX11_holds 1 = .ok (.tableswitch 83 2 12 #[59, 62, 65, 67, 69, 71, 73, 75, 77, 79, 81], 59) := by decide +kernel
set_option maxRecDepth 20000 in
theorem dX11_nameOf_1 : decode cX11_nameOf 1 = .ok (.lookupswitch 71 #[(97, 59), (108, 61), (112, 65), (115, 67), (116, 63), (121, 69)], 59) := by decide +kernel
set_option maxRecDepth 20000 in
theorem dX11_signOf_1 : decode cX11_signOf 1 = .ok (.lookupswitch 108 #[(38, 102), (42, 83), (43, 87), (45, 90), (47, 85), (60, 93), (61, 99), (62, 96), (124, 105)], 83) := by decide +kernel
set_option maxRecDepth 20000 in
theorem dX11_named_9 : decode cX11_named 9 = .ok (.tableswitch 91 0 4 #[35, 54, 65, 76, 85], 35) := by decide +kernel
set_option maxRecDepth 20000 in
theorem dX11_twoOf_1 : decode cX11_twoOf 1 = .ok (.tableswitch 127 4 11 #[47, 51, 65, 69, 73, 85, 97, 109], 47) := by decide +kernel
set_option maxRecDepth 20000 in
theorem dL_law_33 : decode cL_law 33 = .ok (.tableswitch 1340 0 32 #[147, 200, 243, 286, 309, 342, 365, 388, 431, 474, 507, 540, 583, 694, 753, 806, 829, 862, 895, 918, 951, 974, 1007, 1040, 1093, 1126, 1149, 1192, 1225, 1258, 1281, 1304, 1327], 147) := by decide +kernel


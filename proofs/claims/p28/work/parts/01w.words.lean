def TT : List Cond := lw_tbl.filter goodWord
theorem tt_0 {w : Cond} (h : w ∈ k2_sels lw_privs) (g : goodWord w = true) : w ∈ TT := List.mem_filter.mpr ⟨List.mem_append_left _ h, g⟩
theorem tt_t {w : Cond} (h : w ∈ tables_1) (g : goodWord w = true) : w ∈ TT := List.mem_filter.mpr ⟨List.mem_append_right _ h, g⟩
theorem tt_1 {w : Cond} (h : w ∈ tables_1_1) (g : goodWord w = true) : w ∈ TT := tt_t (List.mem_append_left _ h) g
theorem tt_2 {w : Cond} (h : w ∈ tables_1_2) (g : goodWord w = true) : w ∈ TT := tt_t (List.mem_append_right _ (List.mem_append_left _ h)) g
theorem tt_3 {w : Cond} (h : w ∈ tables_1_3) (g : goodWord w = true) : w ∈ TT := tt_t (List.mem_append_right _ (List.mem_append_right _ (List.mem_append_left _ h))) g
theorem tt_4 {w : Cond} (h : w ∈ tables_1_4) (g : goodWord w = true) : w ∈ TT := tt_t (List.mem_append_right _ (List.mem_append_right _ (List.mem_append_right _ (List.mem_append_left _ h)))) g
theorem tt_5 {w : Cond} (h : w ∈ tables_1_5) (g : goodWord w = true) : w ∈ TT := tt_t (List.mem_append_right _ (List.mem_append_right _ (List.mem_append_right _ (List.mem_append_right _ h)))) g
set_option maxRecDepth 20000 in
theorem w_0 : (Cond.classLink RL 7 RX10) ∈ TT := tt_1 (List.mem_of_getElem? (i := 16) rfl) rfl
set_option maxRecDepth 20000 in
theorem w_1 : (Cond.instantiable RX10 7) ∈ TT := tt_1 (List.mem_of_getElem? (i := 17) rfl) rfl
set_option maxRecDepth 20000 in
theorem w_2 : (Cond.initialized RX10) ∈ TT := tt_1 (List.mem_of_getElem? (i := 1) rfl) rfl
set_option maxRecDepth 20000 in
theorem w_3 : (Cond.classLink RL 10 RX11) ∈ TT := tt_4 (List.mem_of_getElem? (i := 86) rfl) rfl
set_option maxRecDepth 20000 in
theorem w_4 : (Cond.instantiable RX11 25) ∈ TT := tt_4 (List.mem_of_getElem? (i := 87) rfl) rfl
set_option maxRecDepth 20000 in
theorem w_5 : (Cond.initialized RX11) ∈ TT := tt_1 (List.mem_of_getElem? (i := 11) rfl) rfl
set_option maxRecDepth 20000 in
theorem w_6 : (Cond.methodLink RL 9 yX10_init) ∈ TT := tt_1 (List.mem_of_getElem? (i := 18) rfl) rfl
set_option maxRecDepth 20000 in
theorem w_7 : (Cond.instanceMethod yX10_init) ∈ TT := tt_1 (List.mem_of_getElem? (i := 19) rfl) rfl
set_option maxRecDepth 20000 in
theorem w_8 : (Cond.code yX10_init cX10_init 2 none) ∈ TT := tt_1 (List.mem_of_getElem? (i := 20) rfl) rfl
set_option maxRecDepth 20000 in
theorem w_9 : (Cond.methodLink RX10 3 objectInit) ∈ TT := tt_1 (List.mem_of_getElem? (i := 21) rfl) rfl
set_option maxRecDepth 20000 in
theorem w_10 : (Cond.instanceMethod objectInit) ∈ TT := tt_1 (List.mem_of_getElem? (i := 22) rfl) rfl
set_option maxRecDepth 20000 in
theorem w_11 : (Cond.code objectInit ⟨#[0xb1]⟩ 1 none) ∈ TT := tt_1 (List.mem_of_getElem? (i := 23) rfl) rfl
set_option maxRecDepth 20000 in
theorem w_12 : (Cond.classLink RX10 9 RX1) ∈ TT := tt_1 (List.mem_of_getElem? (i := 24) rfl) rfl
set_option maxRecDepth 20000 in
theorem w_13 : (Cond.instantiable RX1 5) ∈ TT := tt_1 (List.mem_of_getElem? (i := 25) rfl) rfl
set_option maxRecDepth 20000 in
theorem w_14 : (Cond.initialized RX1) ∈ TT := tt_1 (List.mem_of_getElem? (i := 2) rfl) rfl
set_option maxRecDepth 20000 in
theorem w_15 : (Cond.fieldLink RX10 12 "SwornLists" "court" "LSwornLists$Court;") ∈ TT := tt_2 (List.mem_of_getElem? (i := 15) rfl) rfl
set_option maxRecDepth 20000 in
theorem w_16 : (Cond.fieldLink RX10 20 "SwornLists" "book" "LSwornLists$Book;") ∈ TT := tt_2 (List.mem_of_getElem? (i := 16) rfl) rfl
set_option maxRecDepth 20000 in
theorem w_17 : (Cond.classLink RX10 21 RX0) ∈ TT := tt_1 (List.mem_of_getElem? (i := 188) rfl) rfl
set_option maxRecDepth 20000 in
theorem w_18 : (Cond.fieldLink RX10 23 "SwornLists" "images" "[LSwornLists$Book;") ∈ TT := tt_2 (List.mem_of_getElem? (i := 17) rfl) rfl
set_option maxRecDepth 20000 in
theorem w_19 : (Cond.arrayClass .boolean) ∈ TT := tt_1 (List.mem_of_getElem? (i := 212) rfl) rfl
set_option maxRecDepth 20000 in
theorem w_20 : (Cond.fieldLink RX10 27 "SwornLists" "kept" "[Z") ∈ TT := tt_2 (List.mem_of_getElem? (i := 18) rfl) rfl
set_option maxRecDepth 20000 in
theorem w_21 : (Cond.classLink RX10 31 RX4) ∈ TT := tt_1 (List.mem_of_getElem? (i := 190) rfl) rfl
set_option maxRecDepth 20000 in
theorem w_22 : (Cond.instantiable RX4 5) ∈ TT := tt_1 (List.mem_of_getElem? (i := 191) rfl) rfl
set_option maxRecDepth 20000 in
theorem w_23 : (Cond.initialized RX4) ∈ TT := tt_1 (List.mem_of_getElem? (i := 8) rfl) rfl
set_option maxRecDepth 20000 in
theorem w_24 : (Cond.fieldLink RX10 34 "SwornLists" "reader" "LSwornLists$Reader;") ∈ TT := tt_2 (List.mem_of_getElem? (i := 19) rfl) rfl
set_option maxRecDepth 20000 in
theorem w_25 : (Cond.classLink RX10 38 RX2) ∈ TT := tt_1 (List.mem_of_getElem? (i := 213) rfl) rfl
set_option maxRecDepth 20000 in
theorem w_26 : (Cond.instantiable RX2 2) ∈ TT := tt_1 (List.mem_of_getElem? (i := 214) rfl) rfl
set_option maxRecDepth 20000 in
theorem w_27 : (Cond.initialized RX2) ∈ TT := tt_1 (List.mem_of_getElem? (i := 9) rfl) rfl
set_option maxRecDepth 20000 in
theorem w_28 : (Cond.fieldLink RX10 41 "SwornLists" "fraction" "LSwornLists$Fraction;") ∈ TT := tt_2 (List.mem_of_getElem? (i := 20) rfl) rfl
set_option maxRecDepth 20000 in
theorem w_29 : (Cond.classLink RX10 45 RX9) ∈ TT := tt_1 (List.mem_of_getElem? (i := 228) rfl) rfl
set_option maxRecDepth 20000 in
theorem w_30 : (Cond.instantiable RX9 6) ∈ TT := tt_1 (List.mem_of_getElem? (i := 229) rfl) rfl
set_option maxRecDepth 20000 in
theorem w_31 : (Cond.initialized RX9) ∈ TT := tt_1 (List.mem_of_getElem? (i := 10) rfl) rfl
set_option maxRecDepth 20000 in
theorem w_32 : (Cond.fieldLink RX10 48 "SwornLists" "waits" "LSwornLists$Waits;") ∈ TT := tt_2 (List.mem_of_getElem? (i := 21) rfl) rfl
set_option maxRecDepth 20000 in
theorem w_33 : (Cond.instantiable RX0 9) ∈ TT := tt_1 (List.mem_of_getElem? (i := 31) rfl) rfl
set_option maxRecDepth 20000 in
theorem w_34 : (Cond.initialized RX0) ∈ TT := tt_1 (List.mem_of_getElem? (i := 3) rfl) rfl
set_option maxRecDepth 20000 in
theorem w_35 : (Cond.methodLink RX10 11 yX1_init) ∈ TT := tt_1 (List.mem_of_getElem? (i := 26) rfl) rfl
set_option maxRecDepth 20000 in
theorem w_36 : (Cond.instanceMethod yX1_init) ∈ TT := tt_1 (List.mem_of_getElem? (i := 27) rfl) rfl
set_option maxRecDepth 20000 in
theorem w_37 : (Cond.code yX1_init cX1_init 2 none) ∈ TT := tt_1 (List.mem_of_getElem? (i := 28) rfl) rfl
set_option maxRecDepth 20000 in
theorem w_38 : (Cond.methodLink RX1 3 objectInit) ∈ TT := tt_1 (List.mem_of_getElem? (i := 29) rfl) rfl
set_option maxRecDepth 20000 in
theorem w_39 : (Cond.classLink RX1 9 RX0) ∈ TT := tt_1 (List.mem_of_getElem? (i := 30) rfl) rfl
set_option maxRecDepth 20000 in
theorem w_40 : (Cond.fieldLink RX1 12 "SwornLists$Court" "book" "LSwornLists$Book;") ∈ TT := tt_1 (List.mem_of_getElem? (i := 169) rfl) rfl
set_option maxRecDepth 20000 in
theorem w_41 : (Cond.classLink RX1 18 RX3) ∈ TT := tt_1 (List.mem_of_getElem? (i := 129) rfl) rfl
set_option maxRecDepth 20000 in
theorem w_42 : (Cond.fieldLink RX1 20 "SwornLists$Court" "hearings" "[LSwornLists$Hearing;") ∈ TT := tt_1 (List.mem_of_getElem? (i := 171) rfl) rfl
set_option maxRecDepth 20000 in
theorem w_43 : (Cond.instantiable RX3 9) ∈ TT := tt_1 (List.mem_of_getElem? (i := 131) rfl) rfl
set_option maxRecDepth 20000 in
theorem w_44 : (Cond.initialized RX3) ∈ TT := tt_1 (List.mem_of_getElem? (i := 7) rfl) rfl
set_option maxRecDepth 20000 in
theorem w_45 : (Cond.fieldLink RX1 25 "SwornLists$Court" "spare" "LSwornLists$Hearing;") ∈ TT := tt_1 (List.mem_of_getElem? (i := 172) rfl) rfl
set_option maxRecDepth 20000 in
theorem w_46 : (Cond.arrayClass .long) ∈ TT := tt_1 (List.mem_of_getElem? (i := 187) rfl) rfl
set_option maxRecDepth 20000 in
theorem w_47 : (Cond.fieldLink RX1 29 "SwornLists$Court" "values" "[J") ∈ TT := tt_1 (List.mem_of_getElem? (i := 174) rfl) rfl
set_option maxRecDepth 20000 in
theorem w_48 : (Cond.instanceMethod yX0_init) ∈ TT := tt_1 (List.mem_of_getElem? (i := 33) rfl) rfl
set_option maxRecDepth 20000 in
theorem w_49 : (Cond.code yX0_init cX0_init 1 none) ∈ TT := tt_1 (List.mem_of_getElem? (i := 34) rfl) rfl
set_option maxRecDepth 20000 in
theorem w_50 : (Cond.methodLink RX0 3 objectInit) ∈ TT := tt_1 (List.mem_of_getElem? (i := 35) rfl) rfl
set_option maxRecDepth 20000 in
theorem w_51 : (Cond.classLink RX0 9 RX5) ∈ TT := tt_1 (List.mem_of_getElem? (i := 36) rfl) rfl
set_option maxRecDepth 20000 in
theorem w_52 : (Cond.instantiable RX5 4) ∈ TT := tt_1 (List.mem_of_getElem? (i := 37) rfl) rfl
set_option maxRecDepth 20000 in
theorem w_53 : (Cond.initialized RX5) ∈ TT := tt_1 (List.mem_of_getElem? (i := 4) rfl) rfl
set_option maxRecDepth 20000 in
theorem w_54 : (Cond.fieldLink RX0 14 "SwornLists$Book" "people" "LSwornLists$Rows;") ∈ TT := tt_1 (List.mem_of_getElem? (i := 89) rfl) rfl
set_option maxRecDepth 20000 in
theorem w_55 : (Cond.fieldLink RX0 20 "SwornLists$Book" "facts" "LSwornLists$Rows;") ∈ TT := tt_1 (List.mem_of_getElem? (i := 92) rfl) rfl
set_option maxRecDepth 20000 in
theorem w_56 : (Cond.fieldLink RX0 23 "SwornLists$Book" "rolls" "LSwornLists$Rows;") ∈ TT := tt_1 (List.mem_of_getElem? (i := 94) rfl) rfl
set_option maxRecDepth 20000 in
theorem w_57 : (Cond.fieldLink RX0 26 "SwornLists$Book" "acts" "LSwornLists$Rows;") ∈ TT := tt_1 (List.mem_of_getElem? (i := 96) rfl) rfl
set_option maxRecDepth 20000 in
theorem w_58 : (Cond.fieldLink RX0 29 "SwornLists$Book" "trials" "LSwornLists$Rows;") ∈ TT := tt_1 (List.mem_of_getElem? (i := 98) rfl) rfl
set_option maxRecDepth 20000 in
theorem w_59 : (Cond.classLink RX0 32 RX6) ∈ TT := tt_1 (List.mem_of_getElem? (i := 56) rfl) rfl
set_option maxRecDepth 20000 in
theorem w_60 : (Cond.instantiable RX6 2) ∈ TT := tt_1 (List.mem_of_getElem? (i := 57) rfl) rfl
set_option maxRecDepth 20000 in
theorem w_61 : (Cond.initialized RX6) ∈ TT := tt_1 (List.mem_of_getElem? (i := 5) rfl) rfl
set_option maxRecDepth 20000 in
theorem w_62 : (Cond.fieldLink RX0 37 "SwornLists$Book" "laws" "LSwornLists$Shelf;") ∈ TT := tt_1 (List.mem_of_getElem? (i := 102) rfl) rfl
set_option maxRecDepth 20000 in
theorem w_63 : (Cond.fieldLink RX0 41 "SwornLists$Book" "texts" "LSwornLists$Shelf;") ∈ TT := tt_1 (List.mem_of_getElem? (i := 104) rfl) rfl
set_option maxRecDepth 20000 in
theorem w_64 : (Cond.fieldLink RX0 44 "SwornLists$Book" "pay" "I") ∈ TT := tt_1 (List.mem_of_getElem? (i := 106) rfl) rfl
set_option maxRecDepth 20000 in
theorem w_65 : (Cond.fieldLink RX0 48 "SwornLists$Book" "fine" "I") ∈ TT := tt_1 (List.mem_of_getElem? (i := 108) rfl) rfl
set_option maxRecDepth 20000 in
theorem w_66 : (Cond.methodLink RX0 11 yX5_init) ∈ TT := tt_1 (List.mem_of_getElem? (i := 38) rfl) rfl
set_option maxRecDepth 20000 in
theorem w_67 : (Cond.instanceMethod yX5_init) ∈ TT := tt_1 (List.mem_of_getElem? (i := 39) rfl) rfl
set_option maxRecDepth 20000 in
theorem w_68 : (Cond.code yX5_init cX5_init 3 none) ∈ TT := tt_1 (List.mem_of_getElem? (i := 40) rfl) rfl
set_option maxRecDepth 20000 in
theorem w_69 : (Cond.methodLink RX5 3 objectInit) ∈ TT := tt_1 (List.mem_of_getElem? (i := 41) rfl) rfl
set_option maxRecDepth 20000 in
theorem w_70 : (Cond.fieldLink RX5 9 "SwornLists$Rows" "most" "I") ∈ TT := tt_1 (List.mem_of_getElem? (i := 42) rfl) rfl
set_option maxRecDepth 20000 in
theorem w_71 : (Cond.fieldLink RX5 15 "SwornLists$Rows" "width" "I") ∈ TT := tt_1 (List.mem_of_getElem? (i := 43) rfl) rfl
set_option maxRecDepth 20000 in
theorem w_72 : (Cond.arrayClass .int) ∈ TT := tt_1 (List.mem_of_getElem? (i := 55) rfl) rfl
set_option maxRecDepth 20000 in
theorem w_73 : (Cond.fieldLink RX5 18 "SwornLists$Rows" "cells" "[I") ∈ TT := tt_1 (List.mem_of_getElem? (i := 44) rfl) rfl
set_option maxRecDepth 20000 in
theorem w_74 : (Cond.methodLink RX0 34 yX6_init) ∈ TT := tt_1 (List.mem_of_getElem? (i := 58) rfl) rfl
set_option maxRecDepth 20000 in
theorem w_75 : (Cond.instanceMethod yX6_init) ∈ TT := tt_1 (List.mem_of_getElem? (i := 59) rfl) rfl
set_option maxRecDepth 20000 in
theorem w_76 : (Cond.code yX6_init cX6_init 3 none) ∈ TT := tt_1 (List.mem_of_getElem? (i := 60) rfl) rfl
set_option maxRecDepth 20000 in
theorem w_77 : (Cond.methodLink RX6 1 objectInit) ∈ TT := tt_1 (List.mem_of_getElem? (i := 61) rfl) rfl
set_option maxRecDepth 20000 in
theorem w_78 : (Cond.classLink RX6 7 RX8) ∈ TT := tt_1 (List.mem_of_getElem? (i := 62) rfl) rfl
set_option maxRecDepth 20000 in
theorem w_79 : (Cond.instantiable RX8 4) ∈ TT := tt_1 (List.mem_of_getElem? (i := 63) rfl) rfl
set_option maxRecDepth 20000 in
theorem w_80 : (Cond.initialized RX8) ∈ TT := tt_1 (List.mem_of_getElem? (i := 6) rfl) rfl
set_option maxRecDepth 20000 in
theorem w_81 : (Cond.fieldLink RX6 10 "SwornLists$Shelf" "blank" "LSwornLists$Text;") ∈ TT := tt_1 (List.mem_of_getElem? (i := 83) rfl) rfl
set_option maxRecDepth 20000 in
theorem w_82 : (Cond.fieldLink RX6 16 "SwornLists$Shelf" "texts" "[LSwornLists$Text;") ∈ TT := tt_1 (List.mem_of_getElem? (i := 82) rfl) rfl
set_option maxRecDepth 20000 in
theorem w_83 : (Cond.instanceMethod yX8_init) ∈ TT := tt_1 (List.mem_of_getElem? (i := 65) rfl) rfl
set_option maxRecDepth 20000 in
theorem w_84 : (Cond.code yX8_init cX8_init 1 none) ∈ TT := tt_1 (List.mem_of_getElem? (i := 66) rfl) rfl
set_option maxRecDepth 20000 in
theorem w_85 : (Cond.methodLink RX8 3 objectInit) ∈ TT := tt_1 (List.mem_of_getElem? (i := 67) rfl) rfl
set_option maxRecDepth 20000 in
theorem w_86 : (Cond.fieldLink RX8 9 "SwornLists$Text" "signs" "[I") ∈ TT := tt_1 (List.mem_of_getElem? (i := 68) rfl) rfl
set_option maxRecDepth 20000 in
theorem w_87 : (Cond.fieldLink RX8 15 "SwornLists$Text" "steps" "[I") ∈ TT := tt_1 (List.mem_of_getElem? (i := 69) rfl) rfl
set_option maxRecDepth 20000 in
theorem w_88 : (Cond.instanceMethod yX3_init) ∈ TT := tt_1 (List.mem_of_getElem? (i := 133) rfl) rfl
set_option maxRecDepth 20000 in
theorem w_89 : (Cond.code yX3_init cX3_init 1 none) ∈ TT := tt_1 (List.mem_of_getElem? (i := 134) rfl) rfl
set_option maxRecDepth 20000 in
theorem w_90 : (Cond.methodLink RX3 3 objectInit) ∈ TT := tt_1 (List.mem_of_getElem? (i := 135) rfl) rfl
set_option maxRecDepth 20000 in
theorem w_91 : (Cond.fieldLink RX3 9 "SwornLists$Hearing" "order" "[I") ∈ TT := tt_1 (List.mem_of_getElem? (i := 136) rfl) rfl
set_option maxRecDepth 20000 in
theorem w_92 : (Cond.instanceMethod yX4_init) ∈ TT := tt_1 (List.mem_of_getElem? (i := 193) rfl) rfl
set_option maxRecDepth 20000 in
theorem w_93 : (Cond.code yX4_init cX4_init 1 none) ∈ TT := tt_1 (List.mem_of_getElem? (i := 194) rfl) rfl
set_option maxRecDepth 20000 in
theorem w_94 : (Cond.methodLink RX4 3 objectInit) ∈ TT := tt_1 (List.mem_of_getElem? (i := 195) rfl) rfl
set_option maxRecDepth 20000 in
theorem w_95 : (Cond.fieldLink RX4 9 "SwornLists$Reader" "marks" "[I") ∈ TT := tt_1 (List.mem_of_getElem? (i := 196) rfl) rfl
set_option maxRecDepth 20000 in
theorem w_96 : (Cond.instanceMethod yX2_init) ∈ TT := tt_1 (List.mem_of_getElem? (i := 216) rfl) rfl
set_option maxRecDepth 20000 in
theorem w_97 : (Cond.code yX2_init cX2_init 1 none) ∈ TT := tt_1 (List.mem_of_getElem? (i := 217) rfl) rfl
set_option maxRecDepth 20000 in
theorem w_98 : (Cond.methodLink RX2 1 objectInit) ∈ TT := tt_1 (List.mem_of_getElem? (i := 218) rfl) rfl
set_option maxRecDepth 20000 in
theorem w_99 : (Cond.fieldLink RX2 7 "SwornLists$Fraction" "above" "J") ∈ TT := tt_1 (List.mem_of_getElem? (i := 219) rfl) rfl
set_option maxRecDepth 20000 in
theorem w_100 : (Cond.fieldLink RX2 13 "SwornLists$Fraction" "below" "J") ∈ TT := tt_1 (List.mem_of_getElem? (i := 221) rfl) rfl
set_option maxRecDepth 20000 in
theorem w_101 : (Cond.instanceMethod yX9_init) ∈ TT := tt_1 (List.mem_of_getElem? (i := 231) rfl) rfl
set_option maxRecDepth 20000 in
theorem w_102 : (Cond.code yX9_init cX9_init 1 none) ∈ TT := tt_1 (List.mem_of_getElem? (i := 232) rfl) rfl
set_option maxRecDepth 20000 in
theorem w_103 : (Cond.methodLink RX9 3 objectInit) ∈ TT := tt_1 (List.mem_of_getElem? (i := 233) rfl) rfl
set_option maxRecDepth 20000 in
theorem w_104 : (Cond.fieldLink RX9 11 "SwornLists$Waits" "trials" "[I") ∈ TT := tt_1 (List.mem_of_getElem? (i := 234) rfl) rfl
set_option maxRecDepth 20000 in
theorem w_105 : (Cond.fieldLink RX9 15 "SwornLists$Waits" "waits" "[I") ∈ TT := tt_1 (List.mem_of_getElem? (i := 235) rfl) rfl
set_option maxRecDepth 20000 in
theorem w_106 : (Cond.fieldLink RX9 18 "SwornLists$Waits" "best" "[I") ∈ TT := tt_1 (List.mem_of_getElem? (i := 236) rfl) rfl
set_option maxRecDepth 20000 in
theorem w_107 : (Cond.fieldLink RX9 21 "SwornLists$Waits" "foes" "[I") ∈ TT := tt_1 (List.mem_of_getElem? (i := 237) rfl) rfl
set_option maxRecDepth 20000 in
theorem w_108 : (Cond.methodLink RL 12 yX11_init) ∈ TT := tt_4 (List.mem_of_getElem? (i := 88) rfl) rfl
set_option maxRecDepth 20000 in
theorem w_109 : (Cond.instanceMethod yX11_init) ∈ TT := tt_4 (List.mem_of_getElem? (i := 89) rfl) rfl
set_option maxRecDepth 20000 in
theorem w_110 : (Cond.code yX11_init cX11_init 1 none) ∈ TT := tt_4 (List.mem_of_getElem? (i := 90) rfl) rfl
set_option maxRecDepth 20000 in
theorem w_111 : (Cond.methodLink RX11 1 objectInit) ∈ TT := tt_4 (List.mem_of_getElem? (i := 91) rfl) rfl
set_option maxRecDepth 20000 in
theorem w_112 : (Cond.fieldLink RX11 7 "SwornListsModel" "st" "[I") ∈ TT := tt_4 (List.mem_of_getElem? (i := 92) rfl) rfl
set_option maxRecDepth 20000 in
theorem w_113 : (Cond.fieldLink RX11 13 "SwornListsModel" "images" "[I") ∈ TT := tt_4 (List.mem_of_getElem? (i := 93) rfl) rfl
set_option maxRecDepth 20000 in
theorem w_114 : (Cond.fieldLink RX11 16 "SwornListsModel" "isKept" "[Z") ∈ TT := tt_4 (List.mem_of_getElem? (i := 94) rfl) rfl
set_option maxRecDepth 20000 in
theorem w_115 : (Cond.fieldLink RX11 20 "SwornListsModel" "step" "[I") ∈ TT := tt_4 (List.mem_of_getElem? (i := 98) rfl) rfl
set_option maxRecDepth 20000 in
theorem w_116 : (Cond.fieldLink RX11 23 "SwornListsModel" "with" "[I") ∈ TT := tt_4 (List.mem_of_getElem? (i := 99) rfl) rfl
set_option maxRecDepth 20000 in
theorem w_117 : (Cond.fieldLink RX11 26 "SwornListsModel" "waits" "[I") ∈ TT := tt_4 (List.mem_of_getElem? (i := 101) rfl) rfl
set_option maxRecDepth 20000 in
theorem w_118 : (Cond.fieldLink RX11 29 "SwornListsModel" "value" "[J") ∈ TT := tt_4 (List.mem_of_getElem? (i := 102) rfl) rfl
set_option maxRecDepth 20000 in
theorem w_119 : (Cond.fieldLink RX11 33 "SwornListsModel" "boxes" "[I") ∈ TT := tt_4 (List.mem_of_getElem? (i := 107) rfl) rfl
set_option maxRecDepth 20000 in
theorem w_120 : (Cond.fieldLink RX11 36 "SwornListsModel" "juries" "[I") ∈ TT := tt_4 (List.mem_of_getElem? (i := 108) rfl) rfl
set_option maxRecDepth 20000 in
theorem w_121 : (Cond.fieldLink RX11 39 "SwornListsModel" "drew" "[I") ∈ TT := tt_4 (List.mem_of_getElem? (i := 109) rfl) rfl
set_option maxRecDepth 20000 in
theorem w_122 : (Cond.fieldLink RX11 42 "SwornListsModel" "drews" "[I") ∈ TT := tt_4 (List.mem_of_getElem? (i := 110) rfl) rfl
set_option maxRecDepth 20000 in
theorem w_123 : (Cond.fieldLink RX11 45 "SwornListsModel" "slips" "[I") ∈ TT := tt_4 (List.mem_of_getElem? (i := 111) rfl) rfl
set_option maxRecDepth 20000 in
theorem w_124 : (Cond.fieldLink RX11 48 "SwornListsModel" "abouts" "[I") ∈ TT := tt_4 (List.mem_of_getElem? (i := 112) rfl) rfl
set_option maxRecDepth 20000 in
theorem w_125 : (Cond.fieldLink RX11 51 "SwornListsModel" "left" "[I") ∈ TT := tt_4 (List.mem_of_getElem? (i := 113) rfl) rfl
set_option maxRecDepth 20000 in
theorem w_126 : (Cond.fieldLink RX11 54 "SwornListsModel" "which" "[I") ∈ TT := tt_4 (List.mem_of_getElem? (i := 114) rfl) rfl
set_option maxRecDepth 20000 in
theorem w_127 : (Cond.fieldLink RX11 57 "SwornListsModel" "waits6" "[I") ∈ TT := tt_4 (List.mem_of_getElem? (i := 115) rfl) rfl
set_option maxRecDepth 20000 in
theorem w_128 : (Cond.fieldLink RX11 60 "SwornListsModel" "best" "[I") ∈ TT := tt_4 (List.mem_of_getElem? (i := 116) rfl) rfl
set_option maxRecDepth 20000 in
theorem w_129 : (Cond.fieldLink RX11 63 "SwornListsModel" "below" "J") ∈ TT := tt_4 (List.mem_of_getElem? (i := 96) rfl) rfl
set_option maxRecDepth 20000 in
theorem w_130 : (Cond.methodLink RL 13 yX10_person) ∈ TT := tt_2 (List.mem_of_getElem? (i := 37) rfl) rfl
set_option maxRecDepth 20000 in
theorem w_131 : (Cond.instanceMethod yX10_person) ∈ TT := tt_2 (List.mem_of_getElem? (i := 38) rfl) rfl
set_option maxRecDepth 20000 in
theorem w_132 : (Cond.selects RX10 yX10_person yX10_person) ∈ TT := tt_2 (List.mem_of_getElem? (i := 39) rfl) rfl
set_option maxRecDepth 20000 in
theorem w_133 : (Cond.code yX10_person cX10_person 6 (some .int)) ∈ TT := tt_2 (List.mem_of_getElem? (i := 40) rfl) rfl
set_option maxRecDepth 20000 in
theorem w_134 : (Cond.methodLink RX10 53 yX10_within) ∈ TT := tt_2 (List.mem_of_getElem? (i := 41) rfl) rfl
set_option maxRecDepth 20000 in
theorem w_135 : (Cond.static yX10_within) ∈ TT := tt_2 (List.mem_of_getElem? (i := 42) rfl) rfl
set_option maxRecDepth 20000 in
theorem w_136 : (Cond.code yX10_within cX10_within 3 (some .boolean)) ∈ TT := tt_2 (List.mem_of_getElem? (i := 43) rfl) rfl
set_option maxRecDepth 20000 in
theorem w_137 : (Cond.methodLink RX10 61 yX5_grow) ∈ TT := tt_2 (List.mem_of_getElem? (i := 44) rfl) rfl
set_option maxRecDepth 20000 in
theorem w_138 : (Cond.instanceMethod yX5_grow) ∈ TT := tt_2 (List.mem_of_getElem? (i := 45) rfl) rfl
set_option maxRecDepth 20000 in
theorem w_139 : (Cond.selects RX5 yX5_grow yX5_grow) ∈ TT := tt_2 (List.mem_of_getElem? (i := 46) rfl) rfl
set_option maxRecDepth 20000 in
theorem w_140 : (Cond.code yX5_grow cX5_grow 1 (some .int)) ∈ TT := tt_2 (List.mem_of_getElem? (i := 47) rfl) rfl
set_option maxRecDepth 20000 in
theorem w_141 : (Cond.fieldLink RX5 22 "SwornLists$Rows" "size" "I") ∈ TT := tt_1 (List.mem_of_getElem? (i := 45) rfl) rfl
set_option maxRecDepth 20000 in
theorem w_142 : (Cond.methodLink RX10 67 yX5_set) ∈ TT := tt_2 (List.mem_of_getElem? (i := 48) rfl) rfl
set_option maxRecDepth 20000 in
theorem w_143 : (Cond.instanceMethod yX5_set) ∈ TT := tt_2 (List.mem_of_getElem? (i := 49) rfl) rfl
set_option maxRecDepth 20000 in
theorem w_144 : (Cond.selects RX5 yX5_set yX5_set) ∈ TT := tt_2 (List.mem_of_getElem? (i := 50) rfl) rfl
set_option maxRecDepth 20000 in
theorem w_145 : (Cond.code yX5_set cX5_set 4 none) ∈ TT := tt_2 (List.mem_of_getElem? (i := 51) rfl) rfl
set_option maxRecDepth 20000 in
theorem w_146 : (Cond.methodLink RX10 71 yX1_unsettle) ∈ TT := tt_2 (List.mem_of_getElem? (i := 52) rfl) rfl
set_option maxRecDepth 20000 in
theorem w_147 : (Cond.instanceMethod yX1_unsettle) ∈ TT := tt_2 (List.mem_of_getElem? (i := 53) rfl) rfl
set_option maxRecDepth 20000 in
theorem w_148 : (Cond.selects RX1 yX1_unsettle yX1_unsettle) ∈ TT := tt_2 (List.mem_of_getElem? (i := 54) rfl) rfl
set_option maxRecDepth 20000 in
theorem w_149 : (Cond.code yX1_unsettle cX1_unsettle 2 none) ∈ TT := tt_2 (List.mem_of_getElem? (i := 55) rfl) rfl
set_option maxRecDepth 20000 in
theorem w_150 : (Cond.fieldLink RX1 33 "SwornLists$Court" "settled" "I") ∈ TT := tt_1 (List.mem_of_getElem? (i := 175) rfl) rfl
set_option maxRecDepth 20000 in
theorem w_151 : (Cond.methodLink RX1 37 Lib.Math.min.name) ∈ TT := tt_2 (List.mem_of_getElem? (i := 56) rfl) rfl
set_option maxRecDepth 20000 in
theorem w_152 : (Cond.static Lib.Math.min.name) ∈ TT := tt_2 (List.mem_of_getElem? (i := 57) rfl) rfl
set_option maxRecDepth 20000 in
theorem w_153 : (Cond.initialized "java/lang/Math") ∈ TT := tt_1 (List.mem_of_getElem? (i := 12) rfl) rfl
set_option maxRecDepth 20000 in
theorem w_154 : (Cond.code Lib.Math.min.name Lib.Math.min.code 2 (some .int)) ∈ TT := tt_2 (List.mem_of_getElem? (i := 58) rfl) rfl
set_option maxRecDepth 20000 in
theorem w_155 : (Cond.methodLink RL 17 yX11_person) ∈ TT := tt_4 (List.mem_of_getElem? (i := 168) rfl) rfl
set_option maxRecDepth 20000 in
theorem w_156 : (Cond.instanceMethod yX11_person) ∈ TT := tt_4 (List.mem_of_getElem? (i := 169) rfl) rfl
set_option maxRecDepth 20000 in
theorem w_157 : (Cond.selects RX11 yX11_person yX11_person) ∈ TT := tt_4 (List.mem_of_getElem? (i := 170) rfl) rfl
set_option maxRecDepth 20000 in
theorem w_158 : (Cond.code yX11_person cX11_person 6 (some .int)) ∈ TT := tt_4 (List.mem_of_getElem? (i := 171) rfl) rfl
set_option maxRecDepth 20000 in
theorem w_159 : (Cond.constantLong RX11 77 (3)) ∈ TT := tt_4 (List.mem_of_getElem? (i := 172) rfl) rfl
set_option maxRecDepth 20000 in
theorem w_160 : (Cond.constantLong RX11 79 (1000)) ∈ TT := tt_4 (List.mem_of_getElem? (i := 176) rfl) rfl
set_option maxRecDepth 20000 in
theorem w_161 : (Cond.constantLong RX11 81 (99)) ∈ TT := tt_4 (List.mem_of_getElem? (i := 177) rfl) rfl
set_option maxRecDepth 20000 in
theorem w_162 : (Cond.methodLink RX11 67 yX11_in) ∈ TT := tt_4 (List.mem_of_getElem? (i := 173) rfl) rfl
set_option maxRecDepth 20000 in
theorem w_163 : (Cond.static yX11_in) ∈ TT := tt_4 (List.mem_of_getElem? (i := 174) rfl) rfl
set_option maxRecDepth 20000 in
theorem w_164 : (Cond.code yX11_in cX11_in 6 (some .boolean)) ∈ TT := tt_4 (List.mem_of_getElem? (i := 175) rfl) rfl
set_option maxRecDepth 20000 in
theorem w_165 : (Cond.methodLink RX11 83 yX11_one) ∈ TT := tt_4 (List.mem_of_getElem? (i := 178) rfl) rfl
set_option maxRecDepth 20000 in
theorem w_166 : (Cond.instanceMethod yX11_one) ∈ TT := tt_4 (List.mem_of_getElem? (i := 180) rfl) rfl
set_option maxRecDepth 20000 in
theorem w_167 : (Cond.selects RX11 yX11_one yX11_one) ∈ TT := tt_0 (List.mem_map.mpr ⟨(_, 25), List.mem_of_getElem? (i := 18) rfl, rfl⟩) rfl
set_option maxRecDepth 20000 in
theorem w_168 : (Cond.code yX11_one cX11_one 2 (some .int)) ∈ TT := tt_4 (List.mem_of_getElem? (i := 181) rfl) rfl
set_option maxRecDepth 20000 in
theorem w_169 : (Cond.fieldLink RX11 71 "SwornListsModel" "isReady" "Z") ∈ TT := tt_4 (List.mem_of_getElem? (i := 105) rfl) rfl
set_option maxRecDepth 20000 in
theorem w_170 : (Cond.methodLink RL 18 yX10_kin) ∈ TT := tt_2 (List.mem_of_getElem? (i := 59) rfl) rfl
set_option maxRecDepth 20000 in
theorem w_171 : (Cond.instanceMethod yX10_kin) ∈ TT := tt_2 (List.mem_of_getElem? (i := 60) rfl) rfl
set_option maxRecDepth 20000 in
theorem w_172 : (Cond.selects RX10 yX10_kin yX10_kin) ∈ TT := tt_2 (List.mem_of_getElem? (i := 61) rfl) rfl
set_option maxRecDepth 20000 in
theorem w_173 : (Cond.code yX10_kin cX10_kin 5 (some .int)) ∈ TT := tt_2 (List.mem_of_getElem? (i := 62) rfl) rfl
set_option maxRecDepth 20000 in
theorem w_174 : (Cond.methodLink RX10 75 yX5_has) ∈ TT := tt_2 (List.mem_of_getElem? (i := 63) rfl) rfl
set_option maxRecDepth 20000 in
theorem w_175 : (Cond.instanceMethod yX5_has) ∈ TT := tt_2 (List.mem_of_getElem? (i := 64) rfl) rfl
set_option maxRecDepth 20000 in
theorem w_176 : (Cond.selects RX5 yX5_has yX5_has) ∈ TT := tt_2 (List.mem_of_getElem? (i := 65) rfl) rfl
set_option maxRecDepth 20000 in
theorem w_177 : (Cond.code yX5_has cX5_has 2 (some .boolean)) ∈ TT := tt_2 (List.mem_of_getElem? (i := 66) rfl) rfl
set_option maxRecDepth 20000 in
theorem w_178 : (Cond.methodLink RX10 79 yX10_isDay) ∈ TT := tt_2 (List.mem_of_getElem? (i := 67) rfl) rfl
set_option maxRecDepth 20000 in
theorem w_179 : (Cond.static yX10_isDay) ∈ TT := tt_2 (List.mem_of_getElem? (i := 68) rfl) rfl
set_option maxRecDepth 20000 in
theorem w_180 : (Cond.code yX10_isDay cX10_isDay 1 (some .boolean)) ∈ TT := tt_2 (List.mem_of_getElem? (i := 69) rfl) rfl
set_option maxRecDepth 20000 in
theorem w_181 : (Cond.methodLink RL 22 yX11_kin) ∈ TT := tt_4 (List.mem_of_getElem? (i := 182) rfl) rfl
set_option maxRecDepth 20000 in
theorem w_182 : (Cond.instanceMethod yX11_kin) ∈ TT := tt_4 (List.mem_of_getElem? (i := 183) rfl) rfl
set_option maxRecDepth 20000 in
theorem w_183 : (Cond.selects RX11 yX11_kin yX11_kin) ∈ TT := tt_4 (List.mem_of_getElem? (i := 184) rfl) rfl
set_option maxRecDepth 20000 in
theorem w_184 : (Cond.code yX11_kin cX11_kin 5 (some .int)) ∈ TT := tt_4 (List.mem_of_getElem? (i := 185) rfl) rfl
set_option maxRecDepth 20000 in
theorem w_185 : (Cond.constantLong RX11 91 (9)) ∈ TT := tt_4 (List.mem_of_getElem? (i := 190) rfl) rfl
set_option maxRecDepth 20000 in
theorem w_186 : (Cond.methodLink RX11 87 yX11_is) ∈ TT := tt_4 (List.mem_of_getElem? (i := 186) rfl) rfl
set_option maxRecDepth 20000 in
theorem w_187 : (Cond.instanceMethod yX11_is) ∈ TT := tt_4 (List.mem_of_getElem? (i := 188) rfl) rfl
set_option maxRecDepth 20000 in
theorem w_188 : (Cond.selects RX11 yX11_is yX11_is) ∈ TT := tt_0 (List.mem_map.mpr ⟨(_, 25), List.mem_of_getElem? (i := 19) rfl, rfl⟩) rfl
set_option maxRecDepth 20000 in
theorem w_189 : (Cond.code yX11_is cX11_is 3 (some .boolean)) ∈ TT := tt_4 (List.mem_of_getElem? (i := 189) rfl) rfl
set_option maxRecDepth 20000 in
theorem w_190 : (Cond.methodLink RX11 93 yX11_isDay) ∈ TT := tt_4 (List.mem_of_getElem? (i := 191) rfl) rfl
set_option maxRecDepth 20000 in
theorem w_191 : (Cond.static yX11_isDay) ∈ TT := tt_4 (List.mem_of_getElem? (i := 192) rfl) rfl
set_option maxRecDepth 20000 in
theorem w_192 : (Cond.code yX11_isDay cX11_isDay 1 (some .boolean)) ∈ TT := tt_4 (List.mem_of_getElem? (i := 193) rfl) rfl
set_option maxRecDepth 20000 in
theorem w_193 : (Cond.constantLong RX11 75 (9999)) ∈ TT := tt_4 (List.mem_of_getElem? (i := 194) rfl) rfl
set_option maxRecDepth 20000 in
theorem w_194 : (Cond.methodLink RL 23 yX10_roll) ∈ TT := tt_2 (List.mem_of_getElem? (i := 70) rfl) rfl
set_option maxRecDepth 20000 in
theorem w_195 : (Cond.instanceMethod yX10_roll) ∈ TT := tt_2 (List.mem_of_getElem? (i := 71) rfl) rfl
set_option maxRecDepth 20000 in
theorem w_196 : (Cond.selects RX10 yX10_roll yX10_roll) ∈ TT := tt_2 (List.mem_of_getElem? (i := 72) rfl) rfl
set_option maxRecDepth 20000 in
theorem w_197 : (Cond.code yX10_roll cX10_roll 5 (some .int)) ∈ TT := tt_2 (List.mem_of_getElem? (i := 73) rfl) rfl
set_option maxRecDepth 20000 in
theorem w_198 : (Cond.methodLink RX10 85 yX0_everyone) ∈ TT := tt_2 (List.mem_of_getElem? (i := 74) rfl) rfl
set_option maxRecDepth 20000 in
theorem w_199 : (Cond.instanceMethod yX0_everyone) ∈ TT := tt_2 (List.mem_of_getElem? (i := 75) rfl) rfl
set_option maxRecDepth 20000 in
theorem w_200 : (Cond.selects RX0 yX0_everyone yX0_everyone) ∈ TT := tt_2 (List.mem_of_getElem? (i := 76) rfl) rfl
set_option maxRecDepth 20000 in
theorem w_201 : (Cond.code yX0_everyone cX0_everyone 1 (some .int)) ∈ TT := tt_2 (List.mem_of_getElem? (i := 77) rfl) rfl
set_option maxRecDepth 20000 in
theorem w_202 : (Cond.methodLink RX0 58 yX5_size) ∈ TT := tt_2 (List.mem_of_getElem? (i := 78) rfl) rfl
set_option maxRecDepth 20000 in
theorem w_203 : (Cond.instanceMethod yX5_size) ∈ TT := tt_2 (List.mem_of_getElem? (i := 79) rfl) rfl
set_option maxRecDepth 20000 in
theorem w_204 : (Cond.selects RX5 yX5_size yX5_size) ∈ TT := tt_2 (List.mem_of_getElem? (i := 80) rfl) rfl
set_option maxRecDepth 20000 in
theorem w_205 : (Cond.code yX5_size cX5_size 1 (some .int)) ∈ TT := tt_2 (List.mem_of_getElem? (i := 81) rfl) rfl
set_option maxRecDepth 20000 in
theorem w_206 : (Cond.static yX10_lowBits) ∈ TT := tt_2 (List.mem_of_getElem? (i := 83) rfl) rfl
set_option maxRecDepth 20000 in
theorem w_207 : (Cond.code yX10_lowBits cX10_lowBits 1 (some .int)) ∈ TT := tt_2 (List.mem_of_getElem? (i := 84) rfl) rfl
set_option maxRecDepth 20000 in
theorem w_208 : (Cond.methodLink RL 26 yX11_roll) ∈ TT := tt_4 (List.mem_of_getElem? (i := 195) rfl) rfl
set_option maxRecDepth 20000 in
theorem w_209 : (Cond.instanceMethod yX11_roll) ∈ TT := tt_4 (List.mem_of_getElem? (i := 196) rfl) rfl
set_option maxRecDepth 20000 in
theorem w_210 : (Cond.selects RX11 yX11_roll yX11_roll) ∈ TT := tt_4 (List.mem_of_getElem? (i := 197) rfl) rfl
set_option maxRecDepth 20000 in
theorem w_211 : (Cond.code yX11_roll cX11_roll 5 (some .int)) ∈ TT := tt_4 (List.mem_of_getElem? (i := 198) rfl) rfl
set_option maxRecDepth 20000 in
theorem w_212 : (Cond.constantLong RX11 101 (199)) ∈ TT := tt_4 (List.mem_of_getElem? (i := 203) rfl) rfl
set_option maxRecDepth 20000 in
theorem w_213 : (Cond.methodLink RX11 97 yX11_people) ∈ TT := tt_4 (List.mem_of_getElem? (i := 199) rfl) rfl
set_option maxRecDepth 20000 in
theorem w_214 : (Cond.instanceMethod yX11_people) ∈ TT := tt_4 (List.mem_of_getElem? (i := 201) rfl) rfl
set_option maxRecDepth 20000 in
theorem w_215 : (Cond.selects RX11 yX11_people yX11_people) ∈ TT := tt_0 (List.mem_map.mpr ⟨(_, 25), List.mem_of_getElem? (i := 20) rfl, rfl⟩) rfl
set_option maxRecDepth 20000 in
theorem w_216 : (Cond.code yX11_people cX11_people 1 (some .int)) ∈ TT := tt_4 (List.mem_of_getElem? (i := 202) rfl) rfl
set_option maxRecDepth 20000 in
theorem w_217 : (Cond.methodLink RL 27 yX10_rollOf) ∈ TT := tt_2 (List.mem_of_getElem? (i := 85) rfl) rfl
set_option maxRecDepth 20000 in
theorem w_218 : (Cond.instanceMethod yX10_rollOf) ∈ TT := tt_2 (List.mem_of_getElem? (i := 86) rfl) rfl
set_option maxRecDepth 20000 in
theorem w_219 : (Cond.selects RX10 yX10_rollOf yX10_rollOf) ∈ TT := tt_2 (List.mem_of_getElem? (i := 87) rfl) rfl
set_option maxRecDepth 20000 in
theorem w_220 : (Cond.code yX10_rollOf cX10_rollOf 2 (some .int)) ∈ TT := tt_2 (List.mem_of_getElem? (i := 88) rfl) rfl
set_option maxRecDepth 20000 in
theorem w_221 : (Cond.methodLink RX10 91 yX0_listedOn) ∈ TT := tt_2 (List.mem_of_getElem? (i := 89) rfl) rfl
set_option maxRecDepth 20000 in
theorem w_222 : (Cond.instanceMethod yX0_listedOn) ∈ TT := tt_2 (List.mem_of_getElem? (i := 90) rfl) rfl
set_option maxRecDepth 20000 in
theorem w_223 : (Cond.selects RX0 yX0_listedOn yX0_listedOn) ∈ TT := tt_2 (List.mem_of_getElem? (i := 91) rfl) rfl
set_option maxRecDepth 20000 in
theorem w_224 : (Cond.code yX0_listedOn cX0_listedOn 5 (some .int)) ∈ TT := tt_2 (List.mem_of_getElem? (i := 92) rfl) rfl
set_option maxRecDepth 20000 in
theorem w_225 : (Cond.methodLink RX0 66 yX5_at) ∈ TT := tt_2 (List.mem_of_getElem? (i := 93) rfl) rfl
set_option maxRecDepth 20000 in
theorem w_226 : (Cond.instanceMethod yX5_at) ∈ TT := tt_2 (List.mem_of_getElem? (i := 94) rfl) rfl
set_option maxRecDepth 20000 in
theorem w_227 : (Cond.selects RX5 yX5_at yX5_at) ∈ TT := tt_2 (List.mem_of_getElem? (i := 95) rfl) rfl
set_option maxRecDepth 20000 in
theorem w_228 : (Cond.code yX5_at cX5_at 4 (some .int)) ∈ TT := tt_2 (List.mem_of_getElem? (i := 96) rfl) rfl
set_option maxRecDepth 20000 in
theorem w_229 : (Cond.methodLink RX0 70 yX0_everyone) ∈ TT := tt_2 (List.mem_of_getElem? (i := 97) rfl) rfl
set_option maxRecDepth 20000 in
theorem w_230 : (Cond.methodLink RL 31 yX11_rollOf) ∈ TT := tt_4 (List.mem_of_getElem? (i := 204) rfl) rfl
set_option maxRecDepth 20000 in
theorem w_231 : (Cond.instanceMethod yX11_rollOf) ∈ TT := tt_4 (List.mem_of_getElem? (i := 205) rfl) rfl
set_option maxRecDepth 20000 in
theorem w_232 : (Cond.selects RX11 yX11_rollOf yX11_rollOf) ∈ TT := tt_4 (List.mem_of_getElem? (i := 206) rfl) rfl
set_option maxRecDepth 20000 in
theorem w_233 : (Cond.code yX11_rollOf cX11_rollOf 2 (some .int)) ∈ TT := tt_4 (List.mem_of_getElem? (i := 207) rfl) rfl
set_option maxRecDepth 20000 in
theorem w_234 : (Cond.methodLink RX11 103 yX11_theRoll) ∈ TT := tt_4 (List.mem_of_getElem? (i := 208) rfl) rfl
set_option maxRecDepth 20000 in
theorem w_235 : (Cond.instanceMethod yX11_theRoll) ∈ TT := tt_4 (List.mem_of_getElem? (i := 210) rfl) rfl
set_option maxRecDepth 20000 in
theorem w_236 : (Cond.selects RX11 yX11_theRoll yX11_theRoll) ∈ TT := tt_0 (List.mem_map.mpr ⟨(_, 25), List.mem_of_getElem? (i := 21) rfl, rfl⟩) rfl
set_option maxRecDepth 20000 in
theorem w_237 : (Cond.code yX11_theRoll cX11_theRoll 5 (some .int)) ∈ TT := tt_4 (List.mem_of_getElem? (i := 211) rfl) rfl
set_option maxRecDepth 20000 in
theorem w_238 : (Cond.methodLink RL 32 yX10_write) ∈ TT := tt_2 (List.mem_of_getElem? (i := 98) rfl) rfl
set_option maxRecDepth 20000 in
theorem w_239 : (Cond.instanceMethod yX10_write) ∈ TT := tt_2 (List.mem_of_getElem? (i := 99) rfl) rfl
set_option maxRecDepth 20000 in
theorem w_240 : (Cond.selects RX10 yX10_write yX10_write) ∈ TT := tt_2 (List.mem_of_getElem? (i := 100) rfl) rfl
set_option maxRecDepth 20000 in
theorem w_241 : (Cond.code yX10_write cX10_write 3 (some .int)) ∈ TT := tt_2 (List.mem_of_getElem? (i := 101) rfl) rfl
set_option maxRecDepth 20000 in
theorem w_242 : (Cond.methodLink RX10 95 yX10_isText) ∈ TT := tt_2 (List.mem_of_getElem? (i := 102) rfl) rfl
set_option maxRecDepth 20000 in
theorem w_243 : (Cond.static yX10_isText) ∈ TT := tt_2 (List.mem_of_getElem? (i := 103) rfl) rfl
set_option maxRecDepth 20000 in
theorem w_244 : (Cond.code yX10_isText cX10_isText 1 (some .boolean)) ∈ TT := tt_2 (List.mem_of_getElem? (i := 104) rfl) rfl
set_option maxRecDepth 20000 in
theorem w_245 : (Cond.methodLink RX10 102 yX6_get) ∈ TT := tt_2 (List.mem_of_getElem? (i := 105) rfl) rfl
set_option maxRecDepth 20000 in
theorem w_246 : (Cond.instanceMethod yX6_get) ∈ TT := tt_2 (List.mem_of_getElem? (i := 106) rfl) rfl
set_option maxRecDepth 20000 in
theorem w_247 : (Cond.selects RX6 yX6_get yX6_get) ∈ TT := tt_2 (List.mem_of_getElem? (i := 107) rfl) rfl
set_option maxRecDepth 20000 in
theorem w_248 : (Cond.code yX6_get cX6_get 2 (some (.object "SwornLists$Text"))) ∈ TT := tt_2 (List.mem_of_getElem? (i := 108) rfl) rfl
set_option maxRecDepth 20000 in
theorem w_249 : (Cond.methodLink RX10 108 yX8_put) ∈ TT := tt_2 (List.mem_of_getElem? (i := 109) rfl) rfl
set_option maxRecDepth 20000 in
theorem w_250 : (Cond.instanceMethod yX8_put) ∈ TT := tt_2 (List.mem_of_getElem? (i := 110) rfl) rfl
set_option maxRecDepth 20000 in
theorem w_251 : (Cond.selects RX8 yX8_put yX8_put) ∈ TT := tt_2 (List.mem_of_getElem? (i := 111) rfl) rfl
set_option maxRecDepth 20000 in
theorem w_252 : (Cond.code yX8_put cX8_put 2 (some .int)) ∈ TT := tt_2 (List.mem_of_getElem? (i := 112) rfl) rfl
set_option maxRecDepth 20000 in
theorem w_253 : (Cond.fieldLink RX8 18 "SwornLists$Text" "length" "I") ∈ TT := tt_1 (List.mem_of_getElem? (i := 70) rfl) rfl
set_option maxRecDepth 20000 in
theorem w_254 : (Cond.methodLink RL 36 yX11_write) ∈ TT := tt_4 (List.mem_of_getElem? (i := 212) rfl) rfl
set_option maxRecDepth 20000 in
theorem w_255 : (Cond.instanceMethod yX11_write) ∈ TT := tt_4 (List.mem_of_getElem? (i := 213) rfl) rfl
set_option maxRecDepth 20000 in
theorem w_256 : (Cond.selects RX11 yX11_write yX11_write) ∈ TT := tt_4 (List.mem_of_getElem? (i := 214) rfl) rfl
set_option maxRecDepth 20000 in
theorem w_257 : (Cond.code yX11_write cX11_write 4 (some .int)) ∈ TT := tt_4 (List.mem_of_getElem? (i := 215) rfl) rfl
set_option maxRecDepth 20000 in
theorem w_258 : (Cond.constantLong RX11 169 (127)) ∈ TT := tt_4 (List.mem_of_getElem? (i := 219) rfl) rfl
set_option maxRecDepth 20000 in
theorem w_259 : (Cond.methodLink RX11 166 yX11_isText) ∈ TT := tt_4 (List.mem_of_getElem? (i := 216) rfl) rfl
set_option maxRecDepth 20000 in
theorem w_260 : (Cond.static yX11_isText) ∈ TT := tt_4 (List.mem_of_getElem? (i := 217) rfl) rfl
set_option maxRecDepth 20000 in
theorem w_261 : (Cond.code yX11_isText cX11_isText 1 (some .boolean)) ∈ TT := tt_4 (List.mem_of_getElem? (i := 218) rfl) rfl
set_option maxRecDepth 20000 in
theorem w_262 : (Cond.methodLink RL 37 yX10_erase) ∈ TT := tt_2 (List.mem_of_getElem? (i := 113) rfl) rfl
set_option maxRecDepth 20000 in
theorem w_263 : (Cond.instanceMethod yX10_erase) ∈ TT := tt_2 (List.mem_of_getElem? (i := 114) rfl) rfl
set_option maxRecDepth 20000 in
theorem w_264 : (Cond.selects RX10 yX10_erase yX10_erase) ∈ TT := tt_2 (List.mem_of_getElem? (i := 115) rfl) rfl
set_option maxRecDepth 20000 in
theorem w_265 : (Cond.code yX10_erase cX10_erase 2 (some .int)) ∈ TT := tt_2 (List.mem_of_getElem? (i := 116) rfl) rfl
set_option maxRecDepth 20000 in
theorem w_266 : (Cond.methodLink RX10 113 yX8_clear) ∈ TT := tt_2 (List.mem_of_getElem? (i := 117) rfl) rfl
set_option maxRecDepth 20000 in
theorem w_267 : (Cond.instanceMethod yX8_clear) ∈ TT := tt_2 (List.mem_of_getElem? (i := 118) rfl) rfl
set_option maxRecDepth 20000 in
theorem w_268 : (Cond.selects RX8 yX8_clear yX8_clear) ∈ TT := tt_2 (List.mem_of_getElem? (i := 119) rfl) rfl
set_option maxRecDepth 20000 in
theorem w_269 : (Cond.code yX8_clear cX8_clear 2 (some .int)) ∈ TT := tt_2 (List.mem_of_getElem? (i := 120) rfl) rfl
set_option maxRecDepth 20000 in
theorem w_270 : (Cond.methodLink RL 40 yX11_erase) ∈ TT := tt_4 (List.mem_of_getElem? (i := 220) rfl) rfl
set_option maxRecDepth 20000 in
theorem w_271 : (Cond.instanceMethod yX11_erase) ∈ TT := tt_4 (List.mem_of_getElem? (i := 221) rfl) rfl
set_option maxRecDepth 20000 in
theorem w_272 : (Cond.selects RX11 yX11_erase yX11_erase) ∈ TT := tt_4 (List.mem_of_getElem? (i := 222) rfl) rfl
set_option maxRecDepth 20000 in
theorem w_273 : (Cond.code yX11_erase cX11_erase 3 (some .int)) ∈ TT := tt_4 (List.mem_of_getElem? (i := 223) rfl) rfl
set_option maxRecDepth 20000 in
theorem w_274 : (Cond.methodLink RL 41 yX10_fault) ∈ TT := tt_2 (List.mem_of_getElem? (i := 121) rfl) rfl
set_option maxRecDepth 20000 in
theorem w_275 : (Cond.instanceMethod yX10_fault) ∈ TT := tt_2 (List.mem_of_getElem? (i := 122) rfl) rfl
set_option maxRecDepth 20000 in
theorem w_276 : (Cond.selects RX10 yX10_fault yX10_fault) ∈ TT := tt_2 (List.mem_of_getElem? (i := 123) rfl) rfl
set_option maxRecDepth 20000 in
theorem w_277 : (Cond.code yX10_fault cX10_fault 2 (some .int)) ∈ TT := tt_2 (List.mem_of_getElem? (i := 124) rfl) rfl
set_option maxRecDepth 20000 in
theorem w_278 : (Cond.methodLink RX10 116 yX4_read) ∈ TT := tt_2 (List.mem_of_getElem? (i := 125) rfl) rfl
set_option maxRecDepth 20000 in
theorem w_279 : (Cond.instanceMethod yX4_read) ∈ TT := tt_2 (List.mem_of_getElem? (i := 126) rfl) rfl
set_option maxRecDepth 20000 in
theorem w_280 : (Cond.selects RX4 yX4_read yX4_read) ∈ TT := tt_2 (List.mem_of_getElem? (i := 127) rfl) rfl
set_option maxRecDepth 20000 in
theorem w_281 : (Cond.code yX4_read cX4_read 5 (some .int)) ∈ TT := tt_2 (List.mem_of_getElem? (i := 128) rfl) rfl
set_option maxRecDepth 20000 in
theorem w_282 : (Cond.fieldLink RX4 20 "SwornLists$Reader" "markCount" "I") ∈ TT := tt_1 (List.mem_of_getElem? (i := 197) rfl) rfl
set_option maxRecDepth 20000 in
theorem w_283 : (Cond.fieldLink RX4 24 "SwornLists$Reader" "open" "I") ∈ TT := tt_1 (List.mem_of_getElem? (i := 198) rfl) rfl
set_option maxRecDepth 20000 in
theorem w_284 : (Cond.fieldLink RX4 27 "SwornLists$Reader" "compared" "I") ∈ TT := tt_1 (List.mem_of_getElem? (i := 199) rfl) rfl
set_option maxRecDepth 20000 in
theorem w_285 : (Cond.fieldLink RX4 30 "SwornLists$Reader" "wantsUnit" "Z") ∈ TT := tt_1 (List.mem_of_getElem? (i := 200) rfl) rfl
set_option maxRecDepth 20000 in
theorem w_286 : (Cond.methodLink RX4 58 Lib.Math.max.name) ∈ TT := tt_2 (List.mem_of_getElem? (i := 154) rfl) rfl
set_option maxRecDepth 20000 in
theorem w_287 : (Cond.static Lib.Math.max.name) ∈ TT := tt_2 (List.mem_of_getElem? (i := 155) rfl) rfl
set_option maxRecDepth 20000 in
theorem w_288 : (Cond.code Lib.Math.max.name Lib.Math.max.code 2 (some .int)) ∈ TT := tt_2 (List.mem_of_getElem? (i := 156) rfl) rfl
set_option maxRecDepth 20000 in
theorem w_289 : (Cond.methodLink RX4 15 yX8_forgetSteps) ∈ TT := tt_2 (List.mem_of_getElem? (i := 129) rfl) rfl
set_option maxRecDepth 20000 in
theorem w_290 : (Cond.instanceMethod yX8_forgetSteps) ∈ TT := tt_2 (List.mem_of_getElem? (i := 130) rfl) rfl
set_option maxRecDepth 20000 in
theorem w_291 : (Cond.selects RX8 yX8_forgetSteps yX8_forgetSteps) ∈ TT := tt_2 (List.mem_of_getElem? (i := 131) rfl) rfl
set_option maxRecDepth 20000 in
theorem w_292 : (Cond.code yX8_forgetSteps cX8_forgetSteps 1 none) ∈ TT := tt_2 (List.mem_of_getElem? (i := 132) rfl) rfl
set_option maxRecDepth 20000 in
theorem w_293 : (Cond.fieldLink RX8 22 "SwornLists$Text" "stepCount" "I") ∈ TT := tt_1 (List.mem_of_getElem? (i := 71) rfl) rfl
set_option maxRecDepth 20000 in
theorem w_294 : (Cond.methodLink RX4 34 yX8_length) ∈ TT := tt_2 (List.mem_of_getElem? (i := 133) rfl) rfl
set_option maxRecDepth 20000 in
theorem w_295 : (Cond.instanceMethod yX8_length) ∈ TT := tt_2 (List.mem_of_getElem? (i := 134) rfl) rfl
set_option maxRecDepth 20000 in
theorem w_296 : (Cond.selects RX8 yX8_length yX8_length) ∈ TT := tt_2 (List.mem_of_getElem? (i := 135) rfl) rfl
set_option maxRecDepth 20000 in
theorem w_297 : (Cond.code yX8_length cX8_length 1 (some .int)) ∈ TT := tt_2 (List.mem_of_getElem? (i := 136) rfl) rfl
set_option maxRecDepth 20000 in
theorem w_298 : (Cond.methodLink RX4 38 yX8_signAt) ∈ TT := tt_2 (List.mem_of_getElem? (i := 137) rfl) rfl
set_option maxRecDepth 20000 in
theorem w_299 : (Cond.instanceMethod yX8_signAt) ∈ TT := tt_2 (List.mem_of_getElem? (i := 138) rfl) rfl
set_option maxRecDepth 20000 in
theorem w_300 : (Cond.selects RX8 yX8_signAt yX8_signAt) ∈ TT := tt_2 (List.mem_of_getElem? (i := 139) rfl) rfl
set_option maxRecDepth 20000 in
theorem w_301 : (Cond.code yX8_signAt cX8_signAt 2 (some .int)) ∈ TT := tt_2 (List.mem_of_getElem? (i := 140) rfl) rfl
set_option maxRecDepth 20000 in
theorem w_302 : (Cond.methodLink RX4 42 yX4_isDigit) ∈ TT := tt_2 (List.mem_of_getElem? (i := 141) rfl) rfl
set_option maxRecDepth 20000 in
theorem w_303 : (Cond.static yX4_isDigit) ∈ TT := tt_2 (List.mem_of_getElem? (i := 142) rfl) rfl
set_option maxRecDepth 20000 in
theorem w_304 : (Cond.code yX4_isDigit cX4_isDigit 1 (some .boolean)) ∈ TT := tt_2 (List.mem_of_getElem? (i := 143) rfl) rfl
set_option maxRecDepth 20000 in
theorem w_305 : (Cond.methodLink RX4 46 yX4_digitsEnd) ∈ TT := tt_2 (List.mem_of_getElem? (i := 144) rfl) rfl
set_option maxRecDepth 20000 in
theorem w_306 : (Cond.static yX4_digitsEnd) ∈ TT := tt_2 (List.mem_of_getElem? (i := 145) rfl) rfl
set_option maxRecDepth 20000 in
theorem w_307 : (Cond.code yX4_digitsEnd cX4_digitsEnd 3 (some .int)) ∈ TT := tt_2 (List.mem_of_getElem? (i := 146) rfl) rfl
set_option maxRecDepth 20000 in
theorem w_308 : (Cond.methodLink RX4 50 yX4_numberIn) ∈ TT := tt_2 (List.mem_of_getElem? (i := 147) rfl) rfl
set_option maxRecDepth 20000 in
theorem w_309 : (Cond.static yX4_numberIn) ∈ TT := tt_2 (List.mem_of_getElem? (i := 148) rfl) rfl
set_option maxRecDepth 20000 in
theorem w_310 : (Cond.code yX4_numberIn cX4_numberIn 5 (some .int)) ∈ TT := tt_2 (List.mem_of_getElem? (i := 149) rfl) rfl
set_option maxRecDepth 20000 in
theorem w_311 : (Cond.methodLink RX4 54 yX8_addStep) ∈ TT := tt_2 (List.mem_of_getElem? (i := 150) rfl) rfl
set_option maxRecDepth 20000 in
theorem w_312 : (Cond.instanceMethod yX8_addStep) ∈ TT := tt_2 (List.mem_of_getElem? (i := 151) rfl) rfl
set_option maxRecDepth 20000 in
theorem w_313 : (Cond.selects RX8 yX8_addStep yX8_addStep) ∈ TT := tt_2 (List.mem_of_getElem? (i := 152) rfl) rfl
set_option maxRecDepth 20000 in
theorem w_314 : (Cond.code yX8_addStep cX8_addStep 2 none) ∈ TT := tt_2 (List.mem_of_getElem? (i := 153) rfl) rfl
set_option maxRecDepth 20000 in
theorem w_315 : (Cond.methodLink RX4 64 yX4_startsUnit) ∈ TT := tt_2 (List.mem_of_getElem? (i := 157) rfl) rfl
set_option maxRecDepth 20000 in
theorem w_316 : (Cond.instanceMethod yX4_startsUnit) ∈ TT := tt_2 (List.mem_of_getElem? (i := 159) rfl) rfl
set_option maxRecDepth 20000 in
theorem w_317 : (Cond.selects RX4 yX4_startsUnit yX4_startsUnit) ∈ TT := tt_0 (List.mem_map.mpr ⟨(_, 5), List.mem_of_getElem? (i := 0) rfl, rfl⟩) rfl
set_option maxRecDepth 20000 in
theorem w_318 : (Cond.code yX4_startsUnit cX4_startsUnit 3 (some .boolean)) ∈ TT := tt_2 (List.mem_of_getElem? (i := 160) rfl) rfl
set_option maxRecDepth 20000 in
theorem w_319 : (Cond.methodLink RX4 77 yX4_hold) ∈ TT := tt_2 (List.mem_of_getElem? (i := 161) rfl) rfl
set_option maxRecDepth 20000 in
theorem w_320 : (Cond.instanceMethod yX4_hold) ∈ TT := tt_2 (List.mem_of_getElem? (i := 163) rfl) rfl
set_option maxRecDepth 20000 in
theorem w_321 : (Cond.selects RX4 yX4_hold yX4_hold) ∈ TT := tt_0 (List.mem_map.mpr ⟨(_, 5), List.mem_of_getElem? (i := 1) rfl, rfl⟩) rfl
set_option maxRecDepth 20000 in
theorem w_322 : (Cond.code yX4_hold cX4_hold 2 none) ∈ TT := tt_2 (List.mem_of_getElem? (i := 164) rfl) rfl
set_option maxRecDepth 20000 in
theorem w_323 : (Cond.methodLink RX4 68 yX4_goesOn) ∈ TT := tt_2 (List.mem_of_getElem? (i := 165) rfl) rfl
set_option maxRecDepth 20000 in
theorem w_324 : (Cond.instanceMethod yX4_goesOn) ∈ TT := tt_2 (List.mem_of_getElem? (i := 167) rfl) rfl
set_option maxRecDepth 20000 in
theorem w_325 : (Cond.selects RX4 yX4_goesOn yX4_goesOn) ∈ TT := tt_0 (List.mem_map.mpr ⟨(_, 5), List.mem_of_getElem? (i := 2) rfl, rfl⟩) rfl
set_option maxRecDepth 20000 in
theorem w_326 : (Cond.code yX4_goesOn cX4_goesOn 5 (some .boolean)) ∈ TT := tt_2 (List.mem_of_getElem? (i := 168) rfl) rfl
set_option maxRecDepth 20000 in
theorem w_327 : (Cond.methodLink RX4 80 yX4_closes) ∈ TT := tt_2 (List.mem_of_getElem? (i := 169) rfl) rfl
set_option maxRecDepth 20000 in
theorem w_328 : (Cond.instanceMethod yX4_closes) ∈ TT := tt_2 (List.mem_of_getElem? (i := 171) rfl) rfl
set_option maxRecDepth 20000 in
theorem w_329 : (Cond.selects RX4 yX4_closes yX4_closes) ∈ TT := tt_0 (List.mem_map.mpr ⟨(_, 5), List.mem_of_getElem? (i := 3) rfl, rfl⟩) rfl
set_option maxRecDepth 20000 in
theorem w_330 : (Cond.code yX4_closes cX4_closes 2 (some .boolean)) ∈ TT := tt_2 (List.mem_of_getElem? (i := 172) rfl) rfl
set_option maxRecDepth 20000 in
theorem w_331 : (Cond.methodLink RX4 73 yX4_release) ∈ TT := tt_2 (List.mem_of_getElem? (i := 173) rfl) rfl
set_option maxRecDepth 20000 in
theorem w_332 : (Cond.instanceMethod yX4_release) ∈ TT := tt_2 (List.mem_of_getElem? (i := 175) rfl) rfl
set_option maxRecDepth 20000 in
theorem w_333 : (Cond.selects RX4 yX4_release yX4_release) ∈ TT := tt_0 (List.mem_map.mpr ⟨(_, 5), List.mem_of_getElem? (i := 4) rfl, rfl⟩) rfl
set_option maxRecDepth 20000 in
theorem w_334 : (Cond.code yX4_release cX4_release 3 none) ∈ TT := tt_2 (List.mem_of_getElem? (i := 176) rfl) rfl
set_option maxRecDepth 20000 in
theorem w_335 : (Cond.methodLink RX4 84 yX7_rank) ∈ TT := tt_2 (List.mem_of_getElem? (i := 177) rfl) rfl
set_option maxRecDepth 20000 in
theorem w_336 : (Cond.static yX7_rank) ∈ TT := tt_2 (List.mem_of_getElem? (i := 178) rfl) rfl
set_option maxRecDepth 20000 in
theorem w_337 : (Cond.initialized RX7) ∈ TT := tt_1 (List.mem_of_getElem? (i := 13) rfl) rfl
set_option maxRecDepth 20000 in
theorem w_338 : (Cond.code yX7_rank cX7_rank 1 (some .int)) ∈ TT := tt_2 (List.mem_of_getElem? (i := 179) rfl) rfl
set_option maxRecDepth 20000 in
theorem w_339 : (Cond.static yX10_hasBit) ∈ TT := tt_2 (List.mem_of_getElem? (i := 181) rfl) rfl
set_option maxRecDepth 20000 in
theorem w_340 : (Cond.code yX10_hasBit cX10_hasBit 2 (some .boolean)) ∈ TT := tt_2 (List.mem_of_getElem? (i := 182) rfl) rfl
set_option maxRecDepth 20000 in
theorem w_341 : (Cond.methodLink RL 44 yX11_fault) ∈ TT := tt_4 (List.mem_of_getElem? (i := 224) rfl) rfl
set_option maxRecDepth 20000 in
theorem w_342 : (Cond.instanceMethod yX11_fault) ∈ TT := tt_4 (List.mem_of_getElem? (i := 225) rfl) rfl
set_option maxRecDepth 20000 in
theorem w_343 : (Cond.selects RX11 yX11_fault yX11_fault) ∈ TT := tt_4 (List.mem_of_getElem? (i := 226) rfl) rfl
set_option maxRecDepth 20000 in
theorem w_344 : (Cond.code yX11_fault cX11_fault 2 (some .int)) ∈ TT := tt_4 (List.mem_of_getElem? (i := 227) rfl) rfl
set_option maxRecDepth 20000 in
theorem w_345 : (Cond.methodLink RX11 171 yX11_reads) ∈ TT := tt_4 (List.mem_of_getElem? (i := 228) rfl) rfl
set_option maxRecDepth 20000 in
theorem w_346 : (Cond.instanceMethod yX11_reads) ∈ TT := tt_4 (List.mem_of_getElem? (i := 230) rfl) rfl
set_option maxRecDepth 20000 in
theorem w_347 : (Cond.selects RX11 yX11_reads yX11_reads) ∈ TT := tt_0 (List.mem_map.mpr ⟨(_, 25), List.mem_of_getElem? (i := 22) rfl, rfl⟩) rfl
set_option maxRecDepth 20000 in
theorem w_348 : (Cond.code yX11_reads cX11_reads 9 (some .int)) ∈ TT := tt_4 (List.mem_of_getElem? (i := 231) rfl) rfl
set_option maxRecDepth 20000 in
theorem w_349 : (Cond.fieldLink RX11 106 "SwornListsModel" "steps" "I") ∈ TT := tt_4 (List.mem_of_getElem? (i := 97) rfl) rfl
set_option maxRecDepth 20000 in
theorem w_350 : (Cond.fieldLink RX11 110 "SwornListsModel" "waiting" "I") ∈ TT := tt_4 (List.mem_of_getElem? (i := 100) rfl) rfl
set_option maxRecDepth 20000 in
theorem w_351 : (Cond.constantLong RX11 133 (48)) ∈ TT := tt_5 (List.mem_of_getElem? (i := 14) rfl) rfl
set_option maxRecDepth 20000 in
theorem w_352 : (Cond.constantLong RX11 135 (57)) ∈ TT := tt_5 (List.mem_of_getElem? (i := 15) rfl) rfl
set_option maxRecDepth 20000 in
theorem w_353 : (Cond.methodLink RX11 120 yX11_settles) ∈ TT := tt_4 (List.mem_of_getElem? (i := 232) rfl) rfl
set_option maxRecDepth 20000 in
theorem w_354 : (Cond.instanceMethod yX11_settles) ∈ TT := tt_4 (List.mem_of_getElem? (i := 234) rfl) rfl
set_option maxRecDepth 20000 in
theorem w_355 : (Cond.selects RX11 yX11_settles yX11_settles) ∈ TT := tt_0 (List.mem_map.mpr ⟨(_, 25), List.mem_of_getElem? (i := 23) rfl, rfl⟩) rfl
set_option maxRecDepth 20000 in
theorem w_356 : (Cond.code yX11_settles cX11_settles 2 none) ∈ TT := tt_4 (List.mem_of_getElem? (i := 235) rfl) rfl
set_option maxRecDepth 20000 in
theorem w_357 : (Cond.methodLink RX11 113 yX11_holds) ∈ TT := tt_4 (List.mem_of_getElem? (i := 236) rfl) rfl
set_option maxRecDepth 20000 in
theorem w_358 : (Cond.static yX11_holds) ∈ TT := tt_4 (List.mem_of_getElem? (i := 237) rfl) rfl
set_option maxRecDepth 20000 in
theorem w_359 : (Cond.code yX11_holds cX11_holds 1 (some .int)) ∈ TT := tt_4 (List.mem_of_getElem? (i := 238) rfl) rfl
set_option maxRecDepth 20000 in
theorem w_360 : (Cond.methodLink RX11 116 yX11_emits) ∈ TT := tt_4 (List.mem_of_getElem? (i := 239) rfl) rfl
set_option maxRecDepth 20000 in
theorem w_361 : (Cond.instanceMethod yX11_emits) ∈ TT := tt_5 (List.mem_of_getElem? (i := 1) rfl) rfl
set_option maxRecDepth 20000 in
theorem w_362 : (Cond.selects RX11 yX11_emits yX11_emits) ∈ TT := tt_0 (List.mem_map.mpr ⟨(_, 25), List.mem_of_getElem? (i := 24) rfl, rfl⟩) rfl
set_option maxRecDepth 20000 in
theorem w_363 : (Cond.code yX11_emits cX11_emits 3 none) ∈ TT := tt_5 (List.mem_of_getElem? (i := 2) rfl) rfl
set_option maxRecDepth 20000 in
theorem w_364 : (Cond.methodLink RX11 127 yX11_signOf) ∈ TT := tt_5 (List.mem_of_getElem? (i := 3) rfl) rfl
set_option maxRecDepth 20000 in
theorem w_365 : (Cond.static yX11_signOf) ∈ TT := tt_5 (List.mem_of_getElem? (i := 4) rfl) rfl
set_option maxRecDepth 20000 in
theorem w_366 : (Cond.code yX11_signOf cX11_signOf 1 (some .int)) ∈ TT := tt_5 (List.mem_of_getElem? (i := 5) rfl) rfl
set_option maxRecDepth 20000 in
theorem w_367 : (Cond.methodLink RX11 130 yX11_goesOn) ∈ TT := tt_5 (List.mem_of_getElem? (i := 6) rfl) rfl
set_option maxRecDepth 20000 in
theorem w_368 : (Cond.instanceMethod yX11_goesOn) ∈ TT := tt_5 (List.mem_of_getElem? (i := 8) rfl) rfl
set_option maxRecDepth 20000 in
theorem w_369 : (Cond.selects RX11 yX11_goesOn yX11_goesOn) ∈ TT := tt_0 (List.mem_map.mpr ⟨(_, 25), List.mem_of_getElem? (i := 25) rfl, rfl⟩) rfl
set_option maxRecDepth 20000 in
theorem w_370 : (Cond.code yX11_goesOn cX11_goesOn 3 (some .boolean)) ∈ TT := tt_5 (List.mem_of_getElem? (i := 9) rfl) rfl
set_option maxRecDepth 20000 in
theorem w_371 : (Cond.methodLink RX11 124 yX11_waitsWith) ∈ TT := tt_5 (List.mem_of_getElem? (i := 10) rfl) rfl
set_option maxRecDepth 20000 in
theorem w_372 : (Cond.instanceMethod yX11_waitsWith) ∈ TT := tt_5 (List.mem_of_getElem? (i := 12) rfl) rfl
set_option maxRecDepth 20000 in
theorem w_373 : (Cond.selects RX11 yX11_waitsWith yX11_waitsWith) ∈ TT := tt_0 (List.mem_map.mpr ⟨(_, 25), List.mem_of_getElem? (i := 26) rfl, rfl⟩) rfl
set_option maxRecDepth 20000 in
theorem w_374 : (Cond.code yX11_waitsWith cX11_waitsWith 2 none) ∈ TT := tt_5 (List.mem_of_getElem? (i := 13) rfl) rfl
set_option maxRecDepth 20000 in
theorem w_375 : (Cond.methodLink RX11 137 yX11_nameOf) ∈ TT := tt_5 (List.mem_of_getElem? (i := 16) rfl) rfl
set_option maxRecDepth 20000 in
theorem w_376 : (Cond.static yX11_nameOf) ∈ TT := tt_5 (List.mem_of_getElem? (i := 17) rfl) rfl
set_option maxRecDepth 20000 in
theorem w_377 : (Cond.code yX11_nameOf cX11_nameOf 1 (some .int)) ∈ TT := tt_5 (List.mem_of_getElem? (i := 18) rfl) rfl
set_option maxRecDepth 20000 in
theorem w_378 : (Cond.methodLink RL 45 yX10_tells) ∈ TT := tt_2 (List.mem_of_getElem? (i := 183) rfl) rfl
set_option maxRecDepth 20000 in
theorem w_379 : (Cond.instanceMethod yX10_tells) ∈ TT := tt_2 (List.mem_of_getElem? (i := 184) rfl) rfl
set_option maxRecDepth 20000 in
theorem w_380 : (Cond.selects RX10 yX10_tells yX10_tells) ∈ TT := tt_2 (List.mem_of_getElem? (i := 185) rfl) rfl
set_option maxRecDepth 20000 in
theorem w_381 : (Cond.code yX10_tells cX10_tells 5 (some .long)) ∈ TT := tt_2 (List.mem_of_getElem? (i := 186) rfl) rfl
set_option maxRecDepth 20000 in
theorem w_382 : (Cond.constantLong RX10 120 (-2000000000000000000)) ∈ TT := tt_2 (List.mem_of_getElem? (i := 187) rfl) rfl
set_option maxRecDepth 20000 in
theorem w_383 : (Cond.constantLong RX10 122 (-3000000000000000000)) ∈ TT := tt_2 (List.mem_of_getElem? (i := 188) rfl) rfl
set_option maxRecDepth 20000 in
theorem w_384 : (Cond.methodLink RX10 124 yX1_settle) ∈ TT := tt_2 (List.mem_of_getElem? (i := 189) rfl) rfl
set_option maxRecDepth 20000 in
theorem w_385 : (Cond.instanceMethod yX1_settle) ∈ TT := tt_2 (List.mem_of_getElem? (i := 190) rfl) rfl
set_option maxRecDepth 20000 in
theorem w_386 : (Cond.selects RX1 yX1_settle yX1_settle) ∈ TT := tt_2 (List.mem_of_getElem? (i := 191) rfl) rfl
set_option maxRecDepth 20000 in
theorem w_387 : (Cond.code yX1_settle cX1_settle 3 none) ∈ TT := tt_2 (List.mem_of_getElem? (i := 192) rfl) rfl
set_option maxRecDepth 20000 in
theorem w_388 : (Cond.methodLink RX1 47 yX5_size) ∈ TT := tt_2 (List.mem_of_getElem? (i := 193) rfl) rfl
set_option maxRecDepth 20000 in
theorem w_389 : (Cond.methodLink RX1 53 yX5_at) ∈ TT := tt_2 (List.mem_of_getElem? (i := 194) rfl) rfl
set_option maxRecDepth 20000 in
theorem w_390 : (Cond.methodLink RX1 56 yX1_hearing) ∈ TT := tt_2 (List.mem_of_getElem? (i := 195) rfl) rfl
set_option maxRecDepth 20000 in
theorem w_391 : (Cond.instanceMethod yX1_hearing) ∈ TT := tt_2 (List.mem_of_getElem? (i := 196) rfl) rfl
set_option maxRecDepth 20000 in
theorem w_392 : (Cond.selects RX1 yX1_hearing yX1_hearing) ∈ TT := tt_2 (List.mem_of_getElem? (i := 197) rfl) rfl
set_option maxRecDepth 20000 in
theorem w_393 : (Cond.code yX1_hearing cX1_hearing 2 (some (.object "SwornLists$Hearing"))) ∈ TT := tt_2 (List.mem_of_getElem? (i := 198) rfl) rfl
set_option maxRecDepth 20000 in
theorem w_394 : (Cond.methodLink RX1 60 yX0_lawOf) ∈ TT := tt_2 (List.mem_of_getElem? (i := 199) rfl) rfl
set_option maxRecDepth 20000 in
theorem w_395 : (Cond.instanceMethod yX0_lawOf) ∈ TT := tt_2 (List.mem_of_getElem? (i := 200) rfl) rfl
set_option maxRecDepth 20000 in
theorem w_396 : (Cond.selects RX0 yX0_lawOf yX0_lawOf) ∈ TT := tt_2 (List.mem_of_getElem? (i := 201) rfl) rfl
set_option maxRecDepth 20000 in
theorem w_397 : (Cond.code yX0_lawOf cX0_lawOf 4 (some (.object "SwornLists$Text"))) ∈ TT := tt_2 (List.mem_of_getElem? (i := 202) rfl) rfl
set_option maxRecDepth 20000 in
theorem w_398 : (Cond.methodLink RX0 73 yX0_inForce) ∈ TT := tt_2 (List.mem_of_getElem? (i := 203) rfl) rfl
set_option maxRecDepth 20000 in
theorem w_399 : (Cond.instanceMethod yX0_inForce) ∈ TT := tt_2 (List.mem_of_getElem? (i := 204) rfl) rfl
set_option maxRecDepth 20000 in
theorem w_400 : (Cond.selects RX0 yX0_inForce yX0_inForce) ∈ TT := tt_2 (List.mem_of_getElem? (i := 205) rfl) rfl
set_option maxRecDepth 20000 in
theorem w_401 : (Cond.code yX0_inForce cX0_inForce 7 (some .int)) ∈ TT := tt_2 (List.mem_of_getElem? (i := 206) rfl) rfl
set_option maxRecDepth 20000 in
theorem w_402 : (Cond.methodLink RX0 76 yX6_get) ∈ TT := tt_2 (List.mem_of_getElem? (i := 207) rfl) rfl
set_option maxRecDepth 20000 in
theorem w_403 : (Cond.methodLink RX1 64 yX1_hear) ∈ TT := tt_2 (List.mem_of_getElem? (i := 208) rfl) rfl
set_option maxRecDepth 20000 in
theorem w_404 : (Cond.instanceMethod yX1_hear) ∈ TT := tt_2 (List.mem_of_getElem? (i := 209) rfl) rfl
set_option maxRecDepth 20000 in
theorem w_405 : (Cond.selects RX1 yX1_hear yX1_hear) ∈ TT := tt_2 (List.mem_of_getElem? (i := 210) rfl) rfl
set_option maxRecDepth 20000 in
theorem w_406 : (Cond.code yX1_hear cX1_hear 11 none) ∈ TT := tt_2 (List.mem_of_getElem? (i := 211) rfl) rfl
set_option maxRecDepth 20000 in
theorem w_407 : (Cond.methodLink RX1 68 yX0_everyone) ∈ TT := tt_2 (List.mem_of_getElem? (i := 212) rfl) rfl
set_option maxRecDepth 20000 in
theorem w_408 : (Cond.methodLink RX1 71 yX0_kinOfSides) ∈ TT := tt_2 (List.mem_of_getElem? (i := 213) rfl) rfl
set_option maxRecDepth 20000 in
theorem w_409 : (Cond.instanceMethod yX0_kinOfSides) ∈ TT := tt_2 (List.mem_of_getElem? (i := 214) rfl) rfl
set_option maxRecDepth 20000 in
theorem w_410 : (Cond.selects RX0 yX0_kinOfSides yX0_kinOfSides) ∈ TT := tt_2 (List.mem_of_getElem? (i := 215) rfl) rfl
set_option maxRecDepth 20000 in
theorem w_411 : (Cond.code yX0_kinOfSides cX0_kinOfSides 7 (some .int)) ∈ TT := tt_2 (List.mem_of_getElem? (i := 216) rfl) rfl
set_option maxRecDepth 20000 in
theorem w_412 : (Cond.methodLink RX1 74 yX1_busy) ∈ TT := tt_2 (List.mem_of_getElem? (i := 217) rfl) rfl
set_option maxRecDepth 20000 in
theorem w_413 : (Cond.instanceMethod yX1_busy) ∈ TT := tt_2 (List.mem_of_getElem? (i := 219) rfl) rfl
set_option maxRecDepth 20000 in
theorem w_414 : (Cond.selects RX1 yX1_busy yX1_busy) ∈ TT := tt_0 (List.mem_map.mpr ⟨(_, 5), List.mem_of_getElem? (i := 5) rfl, rfl⟩) rfl
set_option maxRecDepth 20000 in
theorem w_415 : (Cond.code yX1_busy cX1_busy 4 (some .int)) ∈ TT := tt_2 (List.mem_of_getElem? (i := 220) rfl) rfl
set_option maxRecDepth 20000 in
theorem w_416 : (Cond.methodLink RX1 103 yX0_overlap) ∈ TT := tt_2 (List.mem_of_getElem? (i := 221) rfl) rfl
set_option maxRecDepth 20000 in
theorem w_417 : (Cond.instanceMethod yX0_overlap) ∈ TT := tt_2 (List.mem_of_getElem? (i := 222) rfl) rfl
set_option maxRecDepth 20000 in
theorem w_418 : (Cond.selects RX0 yX0_overlap yX0_overlap) ∈ TT := tt_2 (List.mem_of_getElem? (i := 223) rfl) rfl
set_option maxRecDepth 20000 in
theorem w_419 : (Cond.code yX0_overlap cX0_overlap 3 (some .boolean)) ∈ TT := tt_2 (List.mem_of_getElem? (i := 224) rfl) rfl
set_option maxRecDepth 20000 in
theorem w_420 : (Cond.methodLink RX0 83 yX0_lastDayOf) ∈ TT := tt_2 (List.mem_of_getElem? (i := 225) rfl) rfl
set_option maxRecDepth 20000 in
theorem w_421 : (Cond.instanceMethod yX0_lastDayOf) ∈ TT := tt_2 (List.mem_of_getElem? (i := 226) rfl) rfl
set_option maxRecDepth 20000 in
theorem w_422 : (Cond.selects RX0 yX0_lastDayOf yX0_lastDayOf) ∈ TT := tt_2 (List.mem_of_getElem? (i := 227) rfl) rfl
set_option maxRecDepth 20000 in
theorem w_423 : (Cond.code yX0_lastDayOf cX0_lastDayOf 2 (some .int)) ∈ TT := tt_2 (List.mem_of_getElem? (i := 228) rfl) rfl
set_option maxRecDepth 20000 in
theorem w_424 : (Cond.methodLink RX1 78 yX1_truths) ∈ TT := tt_2 (List.mem_of_getElem? (i := 229) rfl) rfl
set_option maxRecDepth 20000 in
theorem w_425 : (Cond.instanceMethod yX1_truths) ∈ TT := tt_2 (List.mem_of_getElem? (i := 230) rfl) rfl
set_option maxRecDepth 20000 in
theorem w_426 : (Cond.selects RX1 yX1_truths yX1_truths) ∈ TT := tt_2 (List.mem_of_getElem? (i := 231) rfl) rfl
set_option maxRecDepth 20000 in
theorem w_427 : (Cond.code yX1_truths cX1_truths 7 (some .int)) ∈ TT := tt_2 (List.mem_of_getElem? (i := 232) rfl) rfl
set_option maxRecDepth 20000 in
theorem w_428 : (Cond.methodLink RX1 116 yX1_tell) ∈ TT := tt_2 (List.mem_of_getElem? (i := 234) rfl) rfl
set_option maxRecDepth 20000 in
theorem w_429 : (Cond.instanceMethod yX1_tell) ∈ TT := tt_2 (List.mem_of_getElem? (i := 235) rfl) rfl
set_option maxRecDepth 20000 in
theorem w_430 : (Cond.selects RX1 yX1_tell yX1_tell) ∈ TT := tt_2 (List.mem_of_getElem? (i := 236) rfl) rfl
set_option maxRecDepth 20000 in
theorem w_431 : (Cond.code yX1_tell cX1_tell 8 (some .long)) ∈ TT := tt_2 (List.mem_of_getElem? (i := 237) rfl) rfl
set_option maxRecDepth 20000 in
theorem w_432 : (Cond.methodLink RX1 120 yX8_stepCount) ∈ TT := tt_2 (List.mem_of_getElem? (i := 238) rfl) rfl
set_option maxRecDepth 20000 in
theorem w_433 : (Cond.instanceMethod yX8_stepCount) ∈ TT := tt_2 (List.mem_of_getElem? (i := 239) rfl) rfl
set_option maxRecDepth 20000 in
theorem w_434 : (Cond.selects RX8 yX8_stepCount yX8_stepCount) ∈ TT := tt_3 (List.mem_of_getElem? (i := 0) rfl) rfl
set_option maxRecDepth 20000 in
theorem w_435 : (Cond.code yX8_stepCount cX8_stepCount 1 (some .int)) ∈ TT := tt_3 (List.mem_of_getElem? (i := 1) rfl) rfl
set_option maxRecDepth 20000 in
theorem w_436 : (Cond.methodLink RX1 125 yX8_stepAt) ∈ TT := tt_3 (List.mem_of_getElem? (i := 2) rfl) rfl
set_option maxRecDepth 20000 in
theorem w_437 : (Cond.instanceMethod yX8_stepAt) ∈ TT := tt_3 (List.mem_of_getElem? (i := 3) rfl) rfl
set_option maxRecDepth 20000 in
theorem w_438 : (Cond.selects RX8 yX8_stepAt yX8_stepAt) ∈ TT := tt_3 (List.mem_of_getElem? (i := 4) rfl) rfl
set_option maxRecDepth 20000 in
theorem w_439 : (Cond.code yX8_stepAt cX8_stepAt 2 (some .int)) ∈ TT := tt_3 (List.mem_of_getElem? (i := 5) rfl) rfl
set_option maxRecDepth 20000 in
theorem w_440 : (Cond.methodLink RX1 128 yX7_rank) ∈ TT := tt_3 (List.mem_of_getElem? (i := 6) rfl) rfl
set_option maxRecDepth 20000 in
theorem w_441 : (Cond.methodLink RX1 133 yX1_letter) ∈ TT := tt_3 (List.mem_of_getElem? (i := 7) rfl) rfl
set_option maxRecDepth 20000 in
theorem w_442 : (Cond.instanceMethod yX1_letter) ∈ TT := tt_3 (List.mem_of_getElem? (i := 9) rfl) rfl
set_option maxRecDepth 20000 in
theorem w_443 : (Cond.selects RX1 yX1_letter yX1_letter) ∈ TT := tt_0 (List.mem_map.mpr ⟨(_, 5), List.mem_of_getElem? (i := 6) rfl, rfl⟩) rfl
set_option maxRecDepth 20000 in
theorem w_444 : (Cond.code yX1_letter cX1_letter 4 (some .long)) ∈ TT := tt_3 (List.mem_of_getElem? (i := 10) rfl) rfl
set_option maxRecDepth 20000 in
theorem w_445 : (Cond.static yX10_yearOf) ∈ TT := tt_3 (List.mem_of_getElem? (i := 12) rfl) rfl
set_option maxRecDepth 20000 in
theorem w_446 : (Cond.code yX10_yearOf cX10_yearOf 1 (some .int)) ∈ TT := tt_3 (List.mem_of_getElem? (i := 13) rfl) rfl
set_option maxRecDepth 20000 in
theorem w_447 : (Cond.methodLink RX1 148 yX1_timesSat) ∈ TT := tt_3 (List.mem_of_getElem? (i := 14) rfl) rfl
set_option maxRecDepth 20000 in
theorem w_448 : (Cond.instanceMethod yX1_timesSat) ∈ TT := tt_3 (List.mem_of_getElem? (i := 16) rfl) rfl
set_option maxRecDepth 20000 in
theorem w_449 : (Cond.selects RX1 yX1_timesSat yX1_timesSat) ∈ TT := tt_0 (List.mem_map.mpr ⟨(_, 5), List.mem_of_getElem? (i := 7) rfl, rfl⟩) rfl
set_option maxRecDepth 20000 in
theorem w_450 : (Cond.code yX1_timesSat cX1_timesSat 5 (some .int)) ∈ TT := tt_3 (List.mem_of_getElem? (i := 17) rfl) rfl
set_option maxRecDepth 20000 in
theorem w_451 : (Cond.methodLink RX1 151 yX1_yearsSince) ∈ TT := tt_3 (List.mem_of_getElem? (i := 18) rfl) rfl
set_option maxRecDepth 20000 in
theorem w_452 : (Cond.instanceMethod yX1_yearsSince) ∈ TT := tt_3 (List.mem_of_getElem? (i := 20) rfl) rfl
set_option maxRecDepth 20000 in
theorem w_453 : (Cond.selects RX1 yX1_yearsSince yX1_yearsSince) ∈ TT := tt_0 (List.mem_map.mpr ⟨(_, 5), List.mem_of_getElem? (i := 8) rfl, rfl⟩) rfl
set_option maxRecDepth 20000 in
theorem w_454 : (Cond.code yX1_yearsSince cX1_yearsSince 6 (some .int)) ∈ TT := tt_3 (List.mem_of_getElem? (i := 21) rfl) rfl
set_option maxRecDepth 20000 in
theorem w_455 : (Cond.methodLink RX1 137 yX7_turned) ∈ TT := tt_3 (List.mem_of_getElem? (i := 22) rfl) rfl
set_option maxRecDepth 20000 in
theorem w_456 : (Cond.static yX7_turned) ∈ TT := tt_3 (List.mem_of_getElem? (i := 23) rfl) rfl
set_option maxRecDepth 20000 in
theorem w_457 : (Cond.code yX7_turned cX7_turned 3 (some .long)) ∈ TT := tt_3 (List.mem_of_getElem? (i := 24) rfl) rfl
set_option maxRecDepth 20000 in
theorem w_458 : (Cond.methodLink RX7 9 yX7_truth) ∈ TT := tt_3 (List.mem_of_getElem? (i := 25) rfl) rfl
set_option maxRecDepth 20000 in
theorem w_459 : (Cond.static yX7_truth) ∈ TT := tt_3 (List.mem_of_getElem? (i := 26) rfl) rfl
set_option maxRecDepth 20000 in
theorem w_460 : (Cond.code yX7_truth cX7_truth 1 (some .long)) ∈ TT := tt_3 (List.mem_of_getElem? (i := 27) rfl) rfl
set_option maxRecDepth 20000 in
theorem w_461 : (Cond.methodLink RX1 141 yX7_joined) ∈ TT := tt_3 (List.mem_of_getElem? (i := 28) rfl) rfl
set_option maxRecDepth 20000 in
theorem w_462 : (Cond.static yX7_joined) ∈ TT := tt_3 (List.mem_of_getElem? (i := 29) rfl) rfl
set_option maxRecDepth 20000 in
theorem w_463 : (Cond.code yX7_joined cX7_joined 5 (some .long)) ∈ TT := tt_3 (List.mem_of_getElem? (i := 30) rfl) rfl
set_option maxRecDepth 20000 in
theorem w_464 : (Cond.methodLink RX1 82 yX0_listedOn) ∈ TT := tt_3 (List.mem_of_getElem? (i := 31) rfl) rfl
set_option maxRecDepth 20000 in
theorem w_465 : (Cond.methodLink RX1 85 yX0_ofTradeWanted) ∈ TT := tt_3 (List.mem_of_getElem? (i := 32) rfl) rfl
set_option maxRecDepth 20000 in
theorem w_466 : (Cond.instanceMethod yX0_ofTradeWanted) ∈ TT := tt_3 (List.mem_of_getElem? (i := 33) rfl) rfl
set_option maxRecDepth 20000 in
theorem w_467 : (Cond.selects RX0 yX0_ofTradeWanted yX0_ofTradeWanted) ∈ TT := tt_3 (List.mem_of_getElem? (i := 34) rfl) rfl
set_option maxRecDepth 20000 in
theorem w_468 : (Cond.code yX0_ofTradeWanted cX0_ofTradeWanted 3 (some .int)) ∈ TT := tt_3 (List.mem_of_getElem? (i := 35) rfl) rfl
set_option maxRecDepth 20000 in
theorem w_469 : (Cond.methodLink RX0 80 yX0_peopleWith) ∈ TT := tt_3 (List.mem_of_getElem? (i := 36) rfl) rfl
set_option maxRecDepth 20000 in
theorem w_470 : (Cond.instanceMethod yX0_peopleWith) ∈ TT := tt_3 (List.mem_of_getElem? (i := 37) rfl) rfl
set_option maxRecDepth 20000 in
theorem w_471 : (Cond.selects RX0 yX0_peopleWith yX0_peopleWith) ∈ TT := tt_3 (List.mem_of_getElem? (i := 38) rfl) rfl
set_option maxRecDepth 20000 in
theorem w_472 : (Cond.code yX0_peopleWith cX0_peopleWith 5 (some .int)) ∈ TT := tt_3 (List.mem_of_getElem? (i := 39) rfl) rfl
set_option maxRecDepth 20000 in
theorem w_473 : (Cond.methodLink RX1 88 yX3_draw) ∈ TT := tt_3 (List.mem_of_getElem? (i := 40) rfl) rfl
set_option maxRecDepth 20000 in
theorem w_474 : (Cond.instanceMethod yX3_draw) ∈ TT := tt_3 (List.mem_of_getElem? (i := 41) rfl) rfl
set_option maxRecDepth 20000 in
theorem w_475 : (Cond.selects RX3 yX3_draw yX3_draw) ∈ TT := tt_3 (List.mem_of_getElem? (i := 42) rfl) rfl
set_option maxRecDepth 20000 in
theorem w_476 : (Cond.code yX3_draw cX3_draw 7 none) ∈ TT := tt_3 (List.mem_of_getElem? (i := 43) rfl) rfl
set_option maxRecDepth 20000 in
theorem w_477 : (Cond.fieldLink RX3 15 "SwornLists$Hearing" "inBox" "I") ∈ TT := tt_1 (List.mem_of_getElem? (i := 139) rfl) rfl
set_option maxRecDepth 20000 in
theorem w_478 : (Cond.fieldLink RX3 19 "SwornLists$Hearing" "lot" "I") ∈ TT := tt_1 (List.mem_of_getElem? (i := 138) rfl) rfl
set_option maxRecDepth 20000 in
theorem w_479 : (Cond.fieldLink RX3 22 "SwornLists$Hearing" "slips" "I") ∈ TT := tt_1 (List.mem_of_getElem? (i := 137) rfl) rfl
set_option maxRecDepth 20000 in
theorem w_480 : (Cond.fieldLink RX3 25 "SwornLists$Hearing" "called" "I") ∈ TT := tt_1 (List.mem_of_getElem? (i := 142) rfl) rfl
set_option maxRecDepth 20000 in
theorem w_481 : (Cond.methodLink RX3 34 Lib.Math.min.name) ∈ TT := tt_3 (List.mem_of_getElem? (i := 50) rfl) rfl
set_option maxRecDepth 20000 in
theorem w_482 : (Cond.constant RX3 40 (1103515245)) ∈ TT := tt_3 (List.mem_of_getElem? (i := 51) rfl) rfl
set_option maxRecDepth 20000 in
theorem w_483 : (Cond.methodLink RX3 28 yJ6_bitCount_0f7a4) ∈ TT := tt_3 (List.mem_of_getElem? (i := 44) rfl) rfl
set_option maxRecDepth 20000 in
theorem w_484 : (Cond.static yJ6_bitCount_0f7a4) ∈ TT := tt_3 (List.mem_of_getElem? (i := 45) rfl) rfl
set_option maxRecDepth 20000 in
theorem w_485 : (Cond.initialized RJ6) ∈ TT := tt_1 (List.mem_of_getElem? (i := 14) rfl) rfl
set_option maxRecDepth 20000 in
theorem w_486 : (Cond.code yJ6_bitCount_0f7a4 cJ6_bitCount_0f7a4 1 (some .int)) ∈ TT := tt_3 (List.mem_of_getElem? (i := 46) rfl) rfl
set_option maxRecDepth 20000 in
theorem w_487 : (Cond.constant RJ6 265 (1431655765)) ∈ TT := tt_3 (List.mem_of_getElem? (i := 47) rfl) rfl
set_option maxRecDepth 20000 in
theorem w_488 : (Cond.constant RJ6 266 (858993459)) ∈ TT := tt_3 (List.mem_of_getElem? (i := 48) rfl) rfl
set_option maxRecDepth 20000 in
theorem w_489 : (Cond.constant RJ6 267 (252645135)) ∈ TT := tt_3 (List.mem_of_getElem? (i := 49) rfl) rfl
set_option maxRecDepth 20000 in
theorem w_490 : (Cond.methodLink RX3 41 yX3_bitAt) ∈ TT := tt_3 (List.mem_of_getElem? (i := 52) rfl) rfl
set_option maxRecDepth 20000 in
theorem w_491 : (Cond.static yX3_bitAt) ∈ TT := tt_3 (List.mem_of_getElem? (i := 53) rfl) rfl
set_option maxRecDepth 20000 in
theorem w_492 : (Cond.code yX3_bitAt cX3_bitAt 4 (some .int)) ∈ TT := tt_3 (List.mem_of_getElem? (i := 54) rfl) rfl
set_option maxRecDepth 20000 in
theorem w_493 : (Cond.methodLink RX1 92 yX3_strike) ∈ TT := tt_3 (List.mem_of_getElem? (i := 56) rfl) rfl
set_option maxRecDepth 20000 in
theorem w_494 : (Cond.instanceMethod yX3_strike) ∈ TT := tt_3 (List.mem_of_getElem? (i := 57) rfl) rfl
set_option maxRecDepth 20000 in
theorem w_495 : (Cond.selects RX3 yX3_strike yX3_strike) ∈ TT := tt_3 (List.mem_of_getElem? (i := 58) rfl) rfl
set_option maxRecDepth 20000 in
theorem w_496 : (Cond.code yX3_strike cX3_strike 4 none) ∈ TT := tt_3 (List.mem_of_getElem? (i := 59) rfl) rfl
set_option maxRecDepth 20000 in
theorem w_497 : (Cond.fieldLink RX3 53 "SwornLists$Hearing" "missing" "I") ∈ TT := tt_1 (List.mem_of_getElem? (i := 143) rfl) rfl
set_option maxRecDepth 20000 in
theorem w_498 : (Cond.fieldLink RX3 56 "SwornLists$Hearing" "struckBy0" "I") ∈ TT := tt_1 (List.mem_of_getElem? (i := 145) rfl) rfl
set_option maxRecDepth 20000 in
theorem w_499 : (Cond.fieldLink RX3 59 "SwornLists$Hearing" "struckBy1" "I") ∈ TT := tt_1 (List.mem_of_getElem? (i := 146) rfl) rfl
set_option maxRecDepth 20000 in
theorem w_500 : (Cond.methodLink RX3 48 yX5_at) ∈ TT := tt_3 (List.mem_of_getElem? (i := 60) rfl) rfl
set_option maxRecDepth 20000 in
theorem w_501 : (Cond.methodLink RX3 62 yX3_leastLiked) ∈ TT := tt_3 (List.mem_of_getElem? (i := 61) rfl) rfl
set_option maxRecDepth 20000 in
theorem w_502 : (Cond.instanceMethod yX3_leastLiked) ∈ TT := tt_3 (List.mem_of_getElem? (i := 63) rfl) rfl
set_option maxRecDepth 20000 in
theorem w_503 : (Cond.selects RX3 yX3_leastLiked yX3_leastLiked) ∈ TT := tt_0 (List.mem_map.mpr ⟨(_, 9), List.mem_of_getElem? (i := 9) rfl, rfl⟩) rfl
set_option maxRecDepth 20000 in
theorem w_504 : (Cond.code yX3_leastLiked cX3_leastLiked 9 (some .int)) ∈ TT := tt_3 (List.mem_of_getElem? (i := 64) rfl) rfl
set_option maxRecDepth 20000 in
theorem w_505 : (Cond.static yX10_likesColumn) ∈ TT := tt_3 (List.mem_of_getElem? (i := 66) rfl) rfl
set_option maxRecDepth 20000 in
theorem w_506 : (Cond.code yX10_likesColumn cX10_likesColumn 2 (some .int)) ∈ TT := tt_3 (List.mem_of_getElem? (i := 67) rfl) rfl
set_option maxRecDepth 20000 in
theorem w_507 : (Cond.methodLink RX3 69 yX3_left) ∈ TT := tt_3 (List.mem_of_getElem? (i := 68) rfl) rfl
set_option maxRecDepth 20000 in
theorem w_508 : (Cond.instanceMethod yX3_left) ∈ TT := tt_3 (List.mem_of_getElem? (i := 70) rfl) rfl
set_option maxRecDepth 20000 in
theorem w_509 : (Cond.selects RX3 yX3_left yX3_left) ∈ TT := tt_0 (List.mem_map.mpr ⟨(_, 9), List.mem_of_getElem? (i := 10) rfl, rfl⟩) rfl
set_option maxRecDepth 20000 in
theorem w_510 : (Cond.code yX3_left cX3_left 1 (some .int)) ∈ TT := tt_3 (List.mem_of_getElem? (i := 71) rfl) rfl
set_option maxRecDepth 20000 in
theorem w_511 : (Cond.methodLink RX1 99 yX3_seat) ∈ TT := tt_3 (List.mem_of_getElem? (i := 72) rfl) rfl
set_option maxRecDepth 20000 in
theorem w_512 : (Cond.instanceMethod yX3_seat) ∈ TT := tt_3 (List.mem_of_getElem? (i := 73) rfl) rfl
set_option maxRecDepth 20000 in
theorem w_513 : (Cond.selects RX3 yX3_seat yX3_seat) ∈ TT := tt_3 (List.mem_of_getElem? (i := 74) rfl) rfl
set_option maxRecDepth 20000 in
theorem w_514 : (Cond.code yX3_seat cX3_seat 4 none) ∈ TT := tt_3 (List.mem_of_getElem? (i := 75) rfl) rfl
set_option maxRecDepth 20000 in
theorem w_515 : (Cond.fieldLink RX3 73 "SwornLists$Hearing" "sworn" "I") ∈ TT := tt_1 (List.mem_of_getElem? (i := 148) rfl) rfl
set_option maxRecDepth 20000 in
theorem w_516 : (Cond.methodLink RX10 127 yX1_tell) ∈ TT := tt_3 (List.mem_of_getElem? (i := 76) rfl) rfl
set_option maxRecDepth 20000 in
theorem w_517 : (Cond.methodLink RL 49 yX11_tells) ∈ TT := tt_5 (List.mem_of_getElem? (i := 19) rfl) rfl
set_option maxRecDepth 20000 in
theorem w_518 : (Cond.instanceMethod yX11_tells) ∈ TT := tt_5 (List.mem_of_getElem? (i := 20) rfl) rfl
set_option maxRecDepth 20000 in
theorem w_519 : (Cond.selects RX11 yX11_tells yX11_tells) ∈ TT := tt_5 (List.mem_of_getElem? (i := 21) rfl) rfl
set_option maxRecDepth 20000 in
theorem w_520 : (Cond.code yX11_tells cX11_tells 4 (some .long)) ∈ TT := tt_5 (List.mem_of_getElem? (i := 22) rfl) rfl
set_option maxRecDepth 20000 in
theorem w_521 : (Cond.constantLong RX11 174 (-2000000000000000000)) ∈ TT := tt_5 (List.mem_of_getElem? (i := 23) rfl) rfl
set_option maxRecDepth 20000 in
theorem w_522 : (Cond.constantLong RX11 179 (-3000000000000000000)) ∈ TT := tt_5 (List.mem_of_getElem? (i := 85) rfl) rfl
set_option maxRecDepth 20000 in
theorem w_523 : (Cond.methodLink RX11 176 yX11_finds) ∈ TT := tt_5 (List.mem_of_getElem? (i := 24) rfl) rfl
set_option maxRecDepth 20000 in
theorem w_524 : (Cond.instanceMethod yX11_finds) ∈ TT := tt_5 (List.mem_of_getElem? (i := 26) rfl) rfl
set_option maxRecDepth 20000 in
theorem w_525 : (Cond.selects RX11 yX11_finds yX11_finds) ∈ TT := tt_0 (List.mem_map.mpr ⟨(_, 25), List.mem_of_getElem? (i := 27) rfl, rfl⟩) rfl
set_option maxRecDepth 20000 in
theorem w_526 : (Cond.code yX11_finds cX11_finds 2 none) ∈ TT := tt_5 (List.mem_of_getElem? (i := 27) rfl) rfl
set_option maxRecDepth 20000 in
theorem w_527 : (Cond.fieldLink RX11 146 "SwornListsModel" "found" "I") ∈ TT := tt_4 (List.mem_of_getElem? (i := 106) rfl) rfl
set_option maxRecDepth 20000 in
theorem w_528 : (Cond.methodLink RX11 225 yX11_tries) ∈ TT := tt_5 (List.mem_of_getElem? (i := 28) rfl) rfl
set_option maxRecDepth 20000 in
theorem w_529 : (Cond.instanceMethod yX11_tries) ∈ TT := tt_5 (List.mem_of_getElem? (i := 30) rfl) rfl
set_option maxRecDepth 20000 in
theorem w_530 : (Cond.selects RX11 yX11_tries yX11_tries) ∈ TT := tt_0 (List.mem_map.mpr ⟨(_, 25), List.mem_of_getElem? (i := 28) rfl, rfl⟩) rfl
set_option maxRecDepth 20000 in
theorem w_531 : (Cond.code yX11_tries cX11_tries 13 none) ∈ TT := tt_5 (List.mem_of_getElem? (i := 31) rfl) rfl
set_option maxRecDepth 20000 in
theorem w_532 : (Cond.methodLink RX11 149 yX11_ofTrial) ∈ TT := tt_5 (List.mem_of_getElem? (i := 32) rfl) rfl
set_option maxRecDepth 20000 in
theorem w_533 : (Cond.instanceMethod yX11_ofTrial) ∈ TT := tt_5 (List.mem_of_getElem? (i := 34) rfl) rfl
set_option maxRecDepth 20000 in
theorem w_534 : (Cond.selects RX11 yX11_ofTrial yX11_ofTrial) ∈ TT := tt_0 (List.mem_map.mpr ⟨(_, 25), List.mem_of_getElem? (i := 29) rfl, rfl⟩) rfl
set_option maxRecDepth 20000 in
theorem w_535 : (Cond.code yX11_ofTrial cX11_ofTrial 3 (some .int)) ∈ TT := tt_5 (List.mem_of_getElem? (i := 35) rfl) rfl
set_option maxRecDepth 20000 in
theorem w_536 : (Cond.methodLink RX11 188 yX11_whom) ∈ TT := tt_5 (List.mem_of_getElem? (i := 36) rfl) rfl
set_option maxRecDepth 20000 in
theorem w_537 : (Cond.instanceMethod yX11_whom) ∈ TT := tt_5 (List.mem_of_getElem? (i := 38) rfl) rfl
set_option maxRecDepth 20000 in
theorem w_538 : (Cond.selects RX11 yX11_whom yX11_whom) ∈ TT := tt_0 (List.mem_map.mpr ⟨(_, 25), List.mem_of_getElem? (i := 30) rfl, rfl⟩) rfl
set_option maxRecDepth 20000 in
theorem w_539 : (Cond.code yX11_whom cX11_whom 8 (some .int)) ∈ TT := tt_5 (List.mem_of_getElem? (i := 39) rfl) rfl
set_option maxRecDepth 20000 in
theorem w_540 : (Cond.methodLink RX11 185 yX11_inForce) ∈ TT := tt_5 (List.mem_of_getElem? (i := 40) rfl) rfl
set_option maxRecDepth 20000 in
theorem w_541 : (Cond.instanceMethod yX11_inForce) ∈ TT := tt_5 (List.mem_of_getElem? (i := 42) rfl) rfl
set_option maxRecDepth 20000 in
theorem w_542 : (Cond.selects RX11 yX11_inForce yX11_inForce) ∈ TT := tt_0 (List.mem_map.mpr ⟨(_, 25), List.mem_of_getElem? (i := 31) rfl, rfl⟩) rfl
set_option maxRecDepth 20000 in
theorem w_543 : (Cond.code yX11_inForce cX11_inForce 7 (some .int)) ∈ TT := tt_5 (List.mem_of_getElem? (i := 43) rfl) rfl
set_option maxRecDepth 20000 in
theorem w_544 : (Cond.methodLink RX11 181 yX11_tellsOf) ∈ TT := tt_5 (List.mem_of_getElem? (i := 44) rfl) rfl
set_option maxRecDepth 20000 in
theorem w_545 : (Cond.instanceMethod yX11_tellsOf) ∈ TT := tt_5 (List.mem_of_getElem? (i := 46) rfl) rfl
set_option maxRecDepth 20000 in
theorem w_546 : (Cond.selects RX11 yX11_tellsOf yX11_tellsOf) ∈ TT := tt_0 (List.mem_map.mpr ⟨(_, 25), List.mem_of_getElem? (i := 32) rfl, rfl⟩) rfl
set_option maxRecDepth 20000 in
theorem w_547 : (Cond.code yX11_tellsOf cX11_tellsOf 6 (some .long)) ∈ TT := tt_5 (List.mem_of_getElem? (i := 47) rfl) rfl
set_option maxRecDepth 20000 in
theorem w_548 : (Cond.methodLink RX11 155 yX11_findSat) ∈ TT := tt_5 (List.mem_of_getElem? (i := 48) rfl) rfl
set_option maxRecDepth 20000 in
theorem w_549 : (Cond.instanceMethod yX11_findSat) ∈ TT := tt_5 (List.mem_of_getElem? (i := 50) rfl) rfl
set_option maxRecDepth 20000 in
theorem w_550 : (Cond.selects RX11 yX11_findSat yX11_findSat) ∈ TT := tt_0 (List.mem_map.mpr ⟨(_, 25), List.mem_of_getElem? (i := 33) rfl, rfl⟩) rfl
set_option maxRecDepth 20000 in
theorem w_551 : (Cond.code yX11_findSat cX11_findSat 5 none) ∈ TT := tt_5 (List.mem_of_getElem? (i := 51) rfl) rfl
set_option maxRecDepth 20000 in
theorem w_552 : (Cond.fieldLink RX11 140 "SwornListsModel" "sat" "I") ∈ TT := tt_4 (List.mem_of_getElem? (i := 103) rfl) rfl
set_option maxRecDepth 20000 in
theorem w_553 : (Cond.fieldLink RX11 143 "SwornListsModel" "lastYear" "I") ∈ TT := tt_4 (List.mem_of_getElem? (i := 104) rfl) rfl
set_option maxRecDepth 20000 in
theorem w_554 : (Cond.methodLink RX11 158 yX11_named) ∈ TT := tt_5 (List.mem_of_getElem? (i := 52) rfl) rfl
set_option maxRecDepth 20000 in
theorem w_555 : (Cond.instanceMethod yX11_named) ∈ TT := tt_5 (List.mem_of_getElem? (i := 54) rfl) rfl
set_option maxRecDepth 20000 in
theorem w_556 : (Cond.selects RX11 yX11_named yX11_named) ∈ TT := tt_0 (List.mem_map.mpr ⟨(_, 25), List.mem_of_getElem? (i := 34) rfl, rfl⟩) rfl
set_option maxRecDepth 20000 in
theorem w_557 : (Cond.code yX11_named cX11_named 5 (some .long)) ∈ TT := tt_5 (List.mem_of_getElem? (i := 55) rfl) rfl
set_option maxRecDepth 20000 in
theorem w_558 : (Cond.constantLong RX11 153 (999)) ∈ TT := tt_5 (List.mem_of_getElem? (i := 56) rfl) rfl
set_option maxRecDepth 20000 in
theorem w_559 : (Cond.methodLink RX11 162 yX11_twoOf) ∈ TT := tt_5 (List.mem_of_getElem? (i := 57) rfl) rfl
set_option maxRecDepth 20000 in
theorem w_560 : (Cond.static yX11_twoOf) ∈ TT := tt_5 (List.mem_of_getElem? (i := 58) rfl) rfl
set_option maxRecDepth 20000 in
theorem w_561 : (Cond.code yX11_twoOf cX11_twoOf 5 (some .long)) ∈ TT := tt_5 (List.mem_of_getElem? (i := 59) rfl) rfl
set_option maxRecDepth 20000 in
theorem w_562 : (Cond.methodLink RX11 206 yX11_kinOf) ∈ TT := tt_5 (List.mem_of_getElem? (i := 60) rfl) rfl
set_option maxRecDepth 20000 in
theorem w_563 : (Cond.instanceMethod yX11_kinOf) ∈ TT := tt_5 (List.mem_of_getElem? (i := 62) rfl) rfl
set_option maxRecDepth 20000 in
theorem w_564 : (Cond.selects RX11 yX11_kinOf yX11_kinOf) ∈ TT := tt_0 (List.mem_map.mpr ⟨(_, 25), List.mem_of_getElem? (i := 35) rfl, rfl⟩) rfl
set_option maxRecDepth 20000 in
theorem w_565 : (Cond.code yX11_kinOf cX11_kinOf 7 (some .int)) ∈ TT := tt_5 (List.mem_of_getElem? (i := 63) rfl) rfl
set_option maxRecDepth 20000 in
theorem w_566 : (Cond.methodLink RX11 209 yX11_sitting) ∈ TT := tt_5 (List.mem_of_getElem? (i := 64) rfl) rfl
set_option maxRecDepth 20000 in
theorem w_567 : (Cond.instanceMethod yX11_sitting) ∈ TT := tt_5 (List.mem_of_getElem? (i := 66) rfl) rfl
set_option maxRecDepth 20000 in
theorem w_568 : (Cond.selects RX11 yX11_sitting yX11_sitting) ∈ TT := tt_0 (List.mem_map.mpr ⟨(_, 25), List.mem_of_getElem? (i := 36) rfl, rfl⟩) rfl
set_option maxRecDepth 20000 in
theorem w_569 : (Cond.code yX11_sitting cX11_sitting 5 (some .int)) ∈ TT := tt_5 (List.mem_of_getElem? (i := 67) rfl) rfl
set_option maxRecDepth 20000 in
theorem w_570 : (Cond.methodLink RX11 212 yX11_draws) ∈ TT := tt_5 (List.mem_of_getElem? (i := 68) rfl) rfl
set_option maxRecDepth 20000 in
theorem w_571 : (Cond.instanceMethod yX11_draws) ∈ TT := tt_5 (List.mem_of_getElem? (i := 70) rfl) rfl
set_option maxRecDepth 20000 in
theorem w_572 : (Cond.selects RX11 yX11_draws yX11_draws) ∈ TT := tt_0 (List.mem_map.mpr ⟨(_, 25), List.mem_of_getElem? (i := 37) rfl, rfl⟩) rfl
set_option maxRecDepth 20000 in
theorem w_573 : (Cond.code yX11_draws cX11_draws 7 none) ∈ TT := tt_5 (List.mem_of_getElem? (i := 71) rfl) rfl
set_option maxRecDepth 20000 in
theorem w_574 : (Cond.constant RX11 204 (1103515245)) ∈ TT := tt_5 (List.mem_of_getElem? (i := 72) rfl) rfl
set_option maxRecDepth 20000 in
theorem w_575 : (Cond.constant RX11 205 (65535)) ∈ TT := tt_5 (List.mem_of_getElem? (i := 73) rfl) rfl
set_option maxRecDepth 20000 in
theorem w_576 : (Cond.methodLink RX11 215 yX11_strikes) ∈ TT := tt_5 (List.mem_of_getElem? (i := 74) rfl) rfl
set_option maxRecDepth 20000 in
theorem w_577 : (Cond.instanceMethod yX11_strikes) ∈ TT := tt_5 (List.mem_of_getElem? (i := 76) rfl) rfl
set_option maxRecDepth 20000 in
theorem w_578 : (Cond.selects RX11 yX11_strikes yX11_strikes) ∈ TT := tt_0 (List.mem_map.mpr ⟨(_, 25), List.mem_of_getElem? (i := 38) rfl, rfl⟩) rfl
set_option maxRecDepth 20000 in
theorem w_579 : (Cond.code yX11_strikes cX11_strikes 9 (some .int)) ∈ TT := tt_5 (List.mem_of_getElem? (i := 77) rfl) rfl
set_option maxRecDepth 20000 in
theorem w_580 : (Cond.methodLink RX11 218 yX11_seats) ∈ TT := tt_5 (List.mem_of_getElem? (i := 78) rfl) rfl
set_option maxRecDepth 20000 in
theorem w_581 : (Cond.instanceMethod yX11_seats) ∈ TT := tt_5 (List.mem_of_getElem? (i := 80) rfl) rfl
set_option maxRecDepth 20000 in
theorem w_582 : (Cond.selects RX11 yX11_seats yX11_seats) ∈ TT := tt_0 (List.mem_map.mpr ⟨(_, 25), List.mem_of_getElem? (i := 39) rfl, rfl⟩) rfl
set_option maxRecDepth 20000 in
theorem w_583 : (Cond.code yX11_seats cX11_seats 10 none) ∈ TT := tt_5 (List.mem_of_getElem? (i := 81) rfl) rfl
set_option maxRecDepth 20000 in
theorem w_584 : (Cond.methodLink RX11 222 yX11_sizeOf) ∈ TT := tt_5 (List.mem_of_getElem? (i := 82) rfl) rfl
set_option maxRecDepth 20000 in
theorem w_585 : (Cond.static yX11_sizeOf) ∈ TT := tt_5 (List.mem_of_getElem? (i := 83) rfl) rfl
set_option maxRecDepth 20000 in
theorem w_586 : (Cond.code yX11_sizeOf cX11_sizeOf 3 (some .int)) ∈ TT := tt_5 (List.mem_of_getElem? (i := 84) rfl) rfl
set_option maxRecDepth 20000 in
theorem w_587 : (Cond.methodLink RL 50 yX10_act) ∈ TT := tt_3 (List.mem_of_getElem? (i := 77) rfl) rfl
set_option maxRecDepth 20000 in
theorem w_588 : (Cond.instanceMethod yX10_act) ∈ TT := tt_3 (List.mem_of_getElem? (i := 78) rfl) rfl
set_option maxRecDepth 20000 in
theorem w_589 : (Cond.selects RX10 yX10_act yX10_act) ∈ TT := tt_3 (List.mem_of_getElem? (i := 79) rfl) rfl
set_option maxRecDepth 20000 in
theorem w_590 : (Cond.code yX10_act cX10_act 6 (some .int)) ∈ TT := tt_3 (List.mem_of_getElem? (i := 80) rfl) rfl
set_option maxRecDepth 20000 in
theorem w_591 : (Cond.methodLink RX10 131 yX10_isSort) ∈ TT := tt_3 (List.mem_of_getElem? (i := 81) rfl) rfl
set_option maxRecDepth 20000 in
theorem w_592 : (Cond.static yX10_isSort) ∈ TT := tt_3 (List.mem_of_getElem? (i := 82) rfl) rfl
set_option maxRecDepth 20000 in
theorem w_593 : (Cond.code yX10_isSort cX10_isSort 1 (some .boolean)) ∈ TT := tt_3 (List.mem_of_getElem? (i := 83) rfl) rfl
set_option maxRecDepth 20000 in
theorem w_594 : (Cond.methodLink RX10 140 yX8_copy) ∈ TT := tt_3 (List.mem_of_getElem? (i := 84) rfl) rfl
set_option maxRecDepth 20000 in
theorem w_595 : (Cond.instanceMethod yX8_copy) ∈ TT := tt_3 (List.mem_of_getElem? (i := 85) rfl) rfl
set_option maxRecDepth 20000 in
theorem w_596 : (Cond.selects RX8 yX8_copy yX8_copy) ∈ TT := tt_3 (List.mem_of_getElem? (i := 86) rfl) rfl
set_option maxRecDepth 20000 in
theorem w_597 : (Cond.code yX8_copy cX8_copy 2 none) ∈ TT := tt_3 (List.mem_of_getElem? (i := 87) rfl) rfl
set_option maxRecDepth 20000 in
theorem w_598 : (Cond.methodLink RX8 25 arraycopyName) ∈ TT := tt_3 (List.mem_of_getElem? (i := 88) rfl) rfl
set_option maxRecDepth 20000 in
theorem w_599 : (Cond.native arraycopyName) ∈ TT := tt_3 (List.mem_of_getElem? (i := 90) rfl) rfl
set_option maxRecDepth 20000 in
theorem w_600 : (Cond.static arraycopyName) ∈ TT := tt_3 (List.mem_of_getElem? (i := 89) rfl) rfl
set_option maxRecDepth 20000 in
theorem w_601 : (Cond.initialized "java/lang/System") ∈ TT := tt_1 (List.mem_of_getElem? (i := 15) rfl) rfl
set_option maxRecDepth 20000 in
theorem w_602 : (Cond.methodLink RL 53 yX11_act) ∈ TT := tt_5 (List.mem_of_getElem? (i := 86) rfl) rfl
set_option maxRecDepth 20000 in
theorem w_603 : (Cond.instanceMethod yX11_act) ∈ TT := tt_5 (List.mem_of_getElem? (i := 87) rfl) rfl
set_option maxRecDepth 20000 in
theorem w_604 : (Cond.selects RX11 yX11_act yX11_act) ∈ TT := tt_5 (List.mem_of_getElem? (i := 88) rfl) rfl
set_option maxRecDepth 20000 in
theorem w_605 : (Cond.code yX11_act cX11_act 6 (some .int)) ∈ TT := tt_5 (List.mem_of_getElem? (i := 89) rfl) rfl
set_option maxRecDepth 20000 in
theorem w_606 : (Cond.methodLink RL 54 yX10_strikeOut) ∈ TT := tt_3 (List.mem_of_getElem? (i := 91) rfl) rfl
set_option maxRecDepth 20000 in
theorem w_607 : (Cond.instanceMethod yX10_strikeOut) ∈ TT := tt_3 (List.mem_of_getElem? (i := 92) rfl) rfl
set_option maxRecDepth 20000 in
theorem w_608 : (Cond.selects RX10 yX10_strikeOut yX10_strikeOut) ∈ TT := tt_3 (List.mem_of_getElem? (i := 93) rfl) rfl
set_option maxRecDepth 20000 in
theorem w_609 : (Cond.code yX10_strikeOut cX10_strikeOut 3 (some .int)) ∈ TT := tt_3 (List.mem_of_getElem? (i := 94) rfl) rfl
set_option maxRecDepth 20000 in
theorem w_610 : (Cond.methodLink RX10 144 yX5_at) ∈ TT := tt_3 (List.mem_of_getElem? (i := 95) rfl) rfl
set_option maxRecDepth 20000 in
theorem w_611 : (Cond.methodLink RL 57 yX11_strikeOut) ∈ TT := tt_5 (List.mem_of_getElem? (i := 90) rfl) rfl
set_option maxRecDepth 20000 in
theorem w_612 : (Cond.instanceMethod yX11_strikeOut) ∈ TT := tt_5 (List.mem_of_getElem? (i := 91) rfl) rfl
set_option maxRecDepth 20000 in
theorem w_613 : (Cond.selects RX11 yX11_strikeOut yX11_strikeOut) ∈ TT := tt_5 (List.mem_of_getElem? (i := 92) rfl) rfl
set_option maxRecDepth 20000 in
theorem w_614 : (Cond.code yX11_strikeOut cX11_strikeOut 4 (some .int)) ∈ TT := tt_5 (List.mem_of_getElem? (i := 93) rfl) rfl
set_option maxRecDepth 20000 in
theorem w_615 : (Cond.methodLink RL 58 yX10_force) ∈ TT := tt_3 (List.mem_of_getElem? (i := 96) rfl) rfl
set_option maxRecDepth 20000 in
theorem w_616 : (Cond.instanceMethod yX10_force) ∈ TT := tt_3 (List.mem_of_getElem? (i := 97) rfl) rfl
set_option maxRecDepth 20000 in
theorem w_617 : (Cond.selects RX10 yX10_force yX10_force) ∈ TT := tt_3 (List.mem_of_getElem? (i := 98) rfl) rfl
set_option maxRecDepth 20000 in
theorem w_618 : (Cond.code yX10_force cX10_force 3 (some .int)) ∈ TT := tt_3 (List.mem_of_getElem? (i := 99) rfl) rfl
set_option maxRecDepth 20000 in
theorem w_619 : (Cond.methodLink RX10 148 yX0_inForce) ∈ TT := tt_3 (List.mem_of_getElem? (i := 100) rfl) rfl
set_option maxRecDepth 20000 in
theorem w_620 : (Cond.methodLink RL 61 yX11_force) ∈ TT := tt_5 (List.mem_of_getElem? (i := 94) rfl) rfl
set_option maxRecDepth 20000 in
theorem w_621 : (Cond.instanceMethod yX11_force) ∈ TT := tt_5 (List.mem_of_getElem? (i := 95) rfl) rfl
set_option maxRecDepth 20000 in
theorem w_622 : (Cond.selects RX11 yX11_force yX11_force) ∈ TT := tt_5 (List.mem_of_getElem? (i := 96) rfl) rfl
set_option maxRecDepth 20000 in
theorem w_623 : (Cond.code yX11_force cX11_force 3 (some .int)) ∈ TT := tt_5 (List.mem_of_getElem? (i := 97) rfl) rfl
set_option maxRecDepth 20000 in
theorem w_624 : (Cond.methodLink RL 62 yX10_may) ∈ TT := tt_3 (List.mem_of_getElem? (i := 101) rfl) rfl
set_option maxRecDepth 20000 in
theorem w_625 : (Cond.instanceMethod yX10_may) ∈ TT := tt_3 (List.mem_of_getElem? (i := 102) rfl) rfl
set_option maxRecDepth 20000 in
theorem w_626 : (Cond.selects RX10 yX10_may yX10_may) ∈ TT := tt_3 (List.mem_of_getElem? (i := 103) rfl) rfl
set_option maxRecDepth 20000 in
theorem w_627 : (Cond.code yX10_may cX10_may 4 (some .int)) ∈ TT := tt_3 (List.mem_of_getElem? (i := 104) rfl) rfl
set_option maxRecDepth 20000 in
theorem w_628 : (Cond.methodLink RX10 151 yX0_lawOf) ∈ TT := tt_3 (List.mem_of_getElem? (i := 105) rfl) rfl
set_option maxRecDepth 20000 in
theorem w_629 : (Cond.methodLink RX10 155 yX1_truths) ∈ TT := tt_3 (List.mem_of_getElem? (i := 106) rfl) rfl
set_option maxRecDepth 20000 in
theorem w_630 : (Cond.methodLink RL 65 yX11_may) ∈ TT := tt_5 (List.mem_of_getElem? (i := 98) rfl) rfl
set_option maxRecDepth 20000 in
theorem w_631 : (Cond.instanceMethod yX11_may) ∈ TT := tt_5 (List.mem_of_getElem? (i := 99) rfl) rfl
set_option maxRecDepth 20000 in
theorem w_632 : (Cond.selects RX11 yX11_may yX11_may) ∈ TT := tt_5 (List.mem_of_getElem? (i := 100) rfl) rfl
set_option maxRecDepth 20000 in
theorem w_633 : (Cond.code yX11_may cX11_may 4 (some .int)) ∈ TT := tt_5 (List.mem_of_getElem? (i := 101) rfl) rfl
set_option maxRecDepth 20000 in
theorem w_634 : (Cond.methodLink RL 66 yX10_trial) ∈ TT := tt_3 (List.mem_of_getElem? (i := 107) rfl) rfl
set_option maxRecDepth 20000 in
theorem w_635 : (Cond.instanceMethod yX10_trial) ∈ TT := tt_3 (List.mem_of_getElem? (i := 108) rfl) rfl
set_option maxRecDepth 20000 in
theorem w_636 : (Cond.selects RX10 yX10_trial yX10_trial) ∈ TT := tt_3 (List.mem_of_getElem? (i := 109) rfl) rfl
set_option maxRecDepth 20000 in
theorem w_637 : (Cond.code yX10_trial cX10_trial 12 (some .int)) ∈ TT := tt_3 (List.mem_of_getElem? (i := 110) rfl) rfl
set_option maxRecDepth 20000 in
theorem w_638 : (Cond.methodLink RX10 159 yX10_isNextDay) ∈ TT := tt_3 (List.mem_of_getElem? (i := 111) rfl) rfl
set_option maxRecDepth 20000 in
theorem w_639 : (Cond.instanceMethod yX10_isNextDay) ∈ TT := tt_3 (List.mem_of_getElem? (i := 113) rfl) rfl
set_option maxRecDepth 20000 in
theorem w_640 : (Cond.selects RX10 yX10_isNextDay yX10_isNextDay) ∈ TT := tt_0 (List.mem_map.mpr ⟨(_, 7), List.mem_of_getElem? (i := 11) rfl, rfl⟩) rfl
set_option maxRecDepth 20000 in
theorem w_641 : (Cond.code yX10_isNextDay cX10_isNextDay 3 (some .boolean)) ∈ TT := tt_3 (List.mem_of_getElem? (i := 114) rfl) rfl
set_option maxRecDepth 20000 in
theorem w_642 : (Cond.methodLink RX10 195 yX5_size) ∈ TT := tt_3 (List.mem_of_getElem? (i := 115) rfl) rfl
set_option maxRecDepth 20000 in
theorem w_643 : (Cond.methodLink RL 70 yX11_trial) ∈ TT := tt_5 (List.mem_of_getElem? (i := 102) rfl) rfl
set_option maxRecDepth 20000 in
theorem w_644 : (Cond.instanceMethod yX11_trial) ∈ TT := tt_5 (List.mem_of_getElem? (i := 103) rfl) rfl
set_option maxRecDepth 20000 in
theorem w_645 : (Cond.selects RX11 yX11_trial yX11_trial) ∈ TT := tt_5 (List.mem_of_getElem? (i := 104) rfl) rfl
set_option maxRecDepth 20000 in
theorem w_646 : (Cond.code yX11_trial cX11_trial 13 (some .int)) ∈ TT := tt_5 (List.mem_of_getElem? (i := 105) rfl) rfl
set_option maxRecDepth 20000 in
theorem w_647 : (Cond.constantLong RX11 192 (8)) ∈ TT := tt_5 (List.mem_of_getElem? (i := 106) rfl) rfl
set_option maxRecDepth 20000 in
theorem w_648 : (Cond.constantLong RX11 194 (-1)) ∈ TT := tt_5 (List.mem_of_getElem? (i := 107) rfl) rfl
set_option maxRecDepth 20000 in
theorem w_649 : (Cond.constantLong RX11 196 (4)) ∈ TT := tt_5 (List.mem_of_getElem? (i := 108) rfl) rfl
set_option maxRecDepth 20000 in
theorem w_650 : (Cond.constantLong RX11 198 (24)) ∈ TT := tt_5 (List.mem_of_getElem? (i := 109) rfl) rfl
set_option maxRecDepth 20000 in
theorem w_651 : (Cond.methodLink RL 71 yX10_away) ∈ TT := tt_3 (List.mem_of_getElem? (i := 116) rfl) rfl
set_option maxRecDepth 20000 in
theorem w_652 : (Cond.instanceMethod yX10_away) ∈ TT := tt_3 (List.mem_of_getElem? (i := 117) rfl) rfl
set_option maxRecDepth 20000 in
theorem w_653 : (Cond.selects RX10 yX10_away yX10_away) ∈ TT := tt_3 (List.mem_of_getElem? (i := 118) rfl) rfl
set_option maxRecDepth 20000 in
theorem w_654 : (Cond.code yX10_away cX10_away 5 (some .int)) ∈ TT := tt_3 (List.mem_of_getElem? (i := 119) rfl) rfl
set_option maxRecDepth 20000 in
theorem w_655 : (Cond.methodLink RX10 165 yX10_hasBit) ∈ TT := tt_3 (List.mem_of_getElem? (i := 120) rfl) rfl
set_option maxRecDepth 20000 in
theorem w_656 : (Cond.methodLink RL 75 yX11_away) ∈ TT := tt_5 (List.mem_of_getElem? (i := 110) rfl) rfl
set_option maxRecDepth 20000 in
theorem w_657 : (Cond.instanceMethod yX11_away) ∈ TT := tt_5 (List.mem_of_getElem? (i := 111) rfl) rfl
set_option maxRecDepth 20000 in
theorem w_658 : (Cond.selects RX11 yX11_away yX11_away) ∈ TT := tt_5 (List.mem_of_getElem? (i := 112) rfl) rfl
set_option maxRecDepth 20000 in
theorem w_659 : (Cond.code yX11_away cX11_away 5 (some .int)) ∈ TT := tt_5 (List.mem_of_getElem? (i := 113) rfl) rfl
set_option maxRecDepth 20000 in
theorem w_660 : (Cond.methodLink RL 76 yX10_like) ∈ TT := tt_3 (List.mem_of_getElem? (i := 121) rfl) rfl
set_option maxRecDepth 20000 in
theorem w_661 : (Cond.instanceMethod yX10_like) ∈ TT := tt_3 (List.mem_of_getElem? (i := 122) rfl) rfl
set_option maxRecDepth 20000 in
theorem w_662 : (Cond.selects RX10 yX10_like yX10_like) ∈ TT := tt_3 (List.mem_of_getElem? (i := 123) rfl) rfl
set_option maxRecDepth 20000 in
theorem w_663 : (Cond.code yX10_like cX10_like 7 (some .int)) ∈ TT := tt_3 (List.mem_of_getElem? (i := 124) rfl) rfl
set_option maxRecDepth 20000 in
theorem w_664 : (Cond.methodLink RX10 169 yX10_likesColumn) ∈ TT := tt_3 (List.mem_of_getElem? (i := 125) rfl) rfl
set_option maxRecDepth 20000 in
theorem w_665 : (Cond.methodLink RL 79 yX11_like) ∈ TT := tt_5 (List.mem_of_getElem? (i := 114) rfl) rfl
set_option maxRecDepth 20000 in
theorem w_666 : (Cond.instanceMethod yX11_like) ∈ TT := tt_5 (List.mem_of_getElem? (i := 115) rfl) rfl
set_option maxRecDepth 20000 in
theorem w_667 : (Cond.selects RX11 yX11_like yX11_like) ∈ TT := tt_5 (List.mem_of_getElem? (i := 116) rfl) rfl
set_option maxRecDepth 20000 in
theorem w_668 : (Cond.code yX11_like cX11_like 7 (some .int)) ∈ TT := tt_5 (List.mem_of_getElem? (i := 117) rfl) rfl
set_option maxRecDepth 20000 in
theorem w_669 : (Cond.constantLong RX11 200 (-100)) ∈ TT := tt_5 (List.mem_of_getElem? (i := 118) rfl) rfl
set_option maxRecDepth 20000 in
theorem w_670 : (Cond.constantLong RX11 202 (100)) ∈ TT := tt_5 (List.mem_of_getElem? (i := 119) rfl) rfl
set_option maxRecDepth 20000 in
theorem w_671 : (Cond.methodLink RL 80 yX10_box) ∈ TT := tt_3 (List.mem_of_getElem? (i := 126) rfl) rfl
set_option maxRecDepth 20000 in
theorem w_672 : (Cond.instanceMethod yX10_box) ∈ TT := tt_3 (List.mem_of_getElem? (i := 127) rfl) rfl
set_option maxRecDepth 20000 in
theorem w_673 : (Cond.selects RX10 yX10_box yX10_box) ∈ TT := tt_3 (List.mem_of_getElem? (i := 128) rfl) rfl
set_option maxRecDepth 20000 in
theorem w_674 : (Cond.code yX10_box cX10_box 2 (some .int)) ∈ TT := tt_3 (List.mem_of_getElem? (i := 129) rfl) rfl
set_option maxRecDepth 20000 in
theorem w_675 : (Cond.methodLink RX10 172 yX1_hearing) ∈ TT := tt_3 (List.mem_of_getElem? (i := 130) rfl) rfl
set_option maxRecDepth 20000 in
theorem w_676 : (Cond.methodLink RL 83 yX11_box) ∈ TT := tt_5 (List.mem_of_getElem? (i := 120) rfl) rfl
set_option maxRecDepth 20000 in
theorem w_677 : (Cond.instanceMethod yX11_box) ∈ TT := tt_5 (List.mem_of_getElem? (i := 121) rfl) rfl
set_option maxRecDepth 20000 in
theorem w_678 : (Cond.selects RX11 yX11_box yX11_box) ∈ TT := tt_5 (List.mem_of_getElem? (i := 122) rfl) rfl
set_option maxRecDepth 20000 in
theorem w_679 : (Cond.code yX11_box cX11_box 2 (some .int)) ∈ TT := tt_5 (List.mem_of_getElem? (i := 123) rfl) rfl
set_option maxRecDepth 20000 in
theorem w_680 : (Cond.methodLink RX11 229 yX11_isTrial) ∈ TT := tt_5 (List.mem_of_getElem? (i := 124) rfl) rfl
set_option maxRecDepth 20000 in
theorem w_681 : (Cond.instanceMethod yX11_isTrial) ∈ TT := tt_5 (List.mem_of_getElem? (i := 126) rfl) rfl
set_option maxRecDepth 20000 in
theorem w_682 : (Cond.selects RX11 yX11_isTrial yX11_isTrial) ∈ TT := tt_0 (List.mem_map.mpr ⟨(_, 25), List.mem_of_getElem? (i := 40) rfl, rfl⟩) rfl
set_option maxRecDepth 20000 in
theorem w_683 : (Cond.code yX11_isTrial cX11_isTrial 2 (some .boolean)) ∈ TT := tt_5 (List.mem_of_getElem? (i := 127) rfl) rfl
set_option maxRecDepth 20000 in
theorem w_684 : (Cond.methodLink RL 84 yX10_drawn) ∈ TT := tt_3 (List.mem_of_getElem? (i := 131) rfl) rfl
set_option maxRecDepth 20000 in
theorem w_685 : (Cond.instanceMethod yX10_drawn) ∈ TT := tt_3 (List.mem_of_getElem? (i := 132) rfl) rfl
set_option maxRecDepth 20000 in
theorem w_686 : (Cond.selects RX10 yX10_drawn yX10_drawn) ∈ TT := tt_3 (List.mem_of_getElem? (i := 133) rfl) rfl
set_option maxRecDepth 20000 in
theorem w_687 : (Cond.code yX10_drawn cX10_drawn 3 (some .int)) ∈ TT := tt_3 (List.mem_of_getElem? (i := 134) rfl) rfl
set_option maxRecDepth 20000 in
theorem w_688 : (Cond.methodLink RX10 182 yX3_slipAt) ∈ TT := tt_3 (List.mem_of_getElem? (i := 135) rfl) rfl
set_option maxRecDepth 20000 in
theorem w_689 : (Cond.instanceMethod yX3_slipAt) ∈ TT := tt_3 (List.mem_of_getElem? (i := 136) rfl) rfl
set_option maxRecDepth 20000 in
theorem w_690 : (Cond.selects RX3 yX3_slipAt yX3_slipAt) ∈ TT := tt_3 (List.mem_of_getElem? (i := 137) rfl) rfl
set_option maxRecDepth 20000 in
theorem w_691 : (Cond.code yX3_slipAt cX3_slipAt 2 (some .int)) ∈ TT := tt_3 (List.mem_of_getElem? (i := 138) rfl) rfl
set_option maxRecDepth 20000 in
theorem w_692 : (Cond.methodLink RL 87 yX11_drawn) ∈ TT := tt_5 (List.mem_of_getElem? (i := 128) rfl) rfl
set_option maxRecDepth 20000 in
theorem w_693 : (Cond.instanceMethod yX11_drawn) ∈ TT := tt_5 (List.mem_of_getElem? (i := 129) rfl) rfl
set_option maxRecDepth 20000 in
theorem w_694 : (Cond.selects RX11 yX11_drawn yX11_drawn) ∈ TT := tt_5 (List.mem_of_getElem? (i := 130) rfl) rfl
set_option maxRecDepth 20000 in
theorem w_695 : (Cond.code yX11_drawn cX11_drawn 3 (some .int)) ∈ TT := tt_5 (List.mem_of_getElem? (i := 131) rfl) rfl
set_option maxRecDepth 20000 in
theorem w_696 : (Cond.methodLink RL 88 yX10_slip) ∈ TT := tt_3 (List.mem_of_getElem? (i := 139) rfl) rfl
set_option maxRecDepth 20000 in
theorem w_697 : (Cond.instanceMethod yX10_slip) ∈ TT := tt_3 (List.mem_of_getElem? (i := 140) rfl) rfl
set_option maxRecDepth 20000 in
theorem w_698 : (Cond.selects RX10 yX10_slip yX10_slip) ∈ TT := tt_3 (List.mem_of_getElem? (i := 141) rfl) rfl
set_option maxRecDepth 20000 in
theorem w_699 : (Cond.code yX10_slip cX10_slip 3 (some .int)) ∈ TT := tt_3 (List.mem_of_getElem? (i := 142) rfl) rfl
set_option maxRecDepth 20000 in
theorem w_700 : (Cond.methodLink RX10 185 yX3_standing) ∈ TT := tt_3 (List.mem_of_getElem? (i := 143) rfl) rfl
set_option maxRecDepth 20000 in
theorem w_701 : (Cond.instanceMethod yX3_standing) ∈ TT := tt_3 (List.mem_of_getElem? (i := 144) rfl) rfl
set_option maxRecDepth 20000 in
theorem w_702 : (Cond.selects RX3 yX3_standing yX3_standing) ∈ TT := tt_3 (List.mem_of_getElem? (i := 145) rfl) rfl
set_option maxRecDepth 20000 in
theorem w_703 : (Cond.code yX3_standing cX3_standing 2 (some .int)) ∈ TT := tt_3 (List.mem_of_getElem? (i := 146) rfl) rfl
set_option maxRecDepth 20000 in
theorem w_704 : (Cond.methodLink RL 91 yX11_slip) ∈ TT := tt_5 (List.mem_of_getElem? (i := 132) rfl) rfl
set_option maxRecDepth 20000 in
theorem w_705 : (Cond.instanceMethod yX11_slip) ∈ TT := tt_5 (List.mem_of_getElem? (i := 133) rfl) rfl
set_option maxRecDepth 20000 in
theorem w_706 : (Cond.selects RX11 yX11_slip yX11_slip) ∈ TT := tt_5 (List.mem_of_getElem? (i := 134) rfl) rfl
set_option maxRecDepth 20000 in
theorem w_707 : (Cond.code yX11_slip cX11_slip 3 (some .int)) ∈ TT := tt_5 (List.mem_of_getElem? (i := 135) rfl) rfl
set_option maxRecDepth 20000 in
theorem w_708 : (Cond.methodLink RL 92 yX10_jury) ∈ TT := tt_3 (List.mem_of_getElem? (i := 147) rfl) rfl
set_option maxRecDepth 20000 in
theorem w_709 : (Cond.instanceMethod yX10_jury) ∈ TT := tt_3 (List.mem_of_getElem? (i := 148) rfl) rfl
set_option maxRecDepth 20000 in
theorem w_710 : (Cond.selects RX10 yX10_jury yX10_jury) ∈ TT := tt_3 (List.mem_of_getElem? (i := 149) rfl) rfl
set_option maxRecDepth 20000 in
theorem w_711 : (Cond.code yX10_jury cX10_jury 2 (some .int)) ∈ TT := tt_3 (List.mem_of_getElem? (i := 150) rfl) rfl
set_option maxRecDepth 20000 in
theorem w_712 : (Cond.methodLink RL 95 yX11_jury) ∈ TT := tt_5 (List.mem_of_getElem? (i := 136) rfl) rfl
set_option maxRecDepth 20000 in
theorem w_713 : (Cond.instanceMethod yX11_jury) ∈ TT := tt_5 (List.mem_of_getElem? (i := 137) rfl) rfl
set_option maxRecDepth 20000 in
theorem w_714 : (Cond.selects RX11 yX11_jury yX11_jury) ∈ TT := tt_5 (List.mem_of_getElem? (i := 138) rfl) rfl
set_option maxRecDepth 20000 in
theorem w_715 : (Cond.code yX11_jury cX11_jury 2 (some .int)) ∈ TT := tt_5 (List.mem_of_getElem? (i := 139) rfl) rfl
set_option maxRecDepth 20000 in
theorem w_716 : (Cond.methodLink RL 96 yX10_about) ∈ TT := tt_3 (List.mem_of_getElem? (i := 151) rfl) rfl
set_option maxRecDepth 20000 in
theorem w_717 : (Cond.instanceMethod yX10_about) ∈ TT := tt_3 (List.mem_of_getElem? (i := 152) rfl) rfl
set_option maxRecDepth 20000 in
theorem w_718 : (Cond.selects RX10 yX10_about yX10_about) ∈ TT := tt_3 (List.mem_of_getElem? (i := 153) rfl) rfl
set_option maxRecDepth 20000 in
theorem w_719 : (Cond.code yX10_about cX10_about 3 (some .int)) ∈ TT := tt_3 (List.mem_of_getElem? (i := 154) rfl) rfl
set_option maxRecDepth 20000 in
theorem w_720 : (Cond.constant RX10 191 (-2000000000)) ∈ TT := tt_3 (List.mem_of_getElem? (i := 155) rfl) rfl
set_option maxRecDepth 20000 in
theorem w_721 : (Cond.methodLink RX10 192 yX3_figure) ∈ TT := tt_3 (List.mem_of_getElem? (i := 156) rfl) rfl
set_option maxRecDepth 20000 in
theorem w_722 : (Cond.instanceMethod yX3_figure) ∈ TT := tt_3 (List.mem_of_getElem? (i := 157) rfl) rfl
set_option maxRecDepth 20000 in
theorem w_723 : (Cond.selects RX3 yX3_figure yX3_figure) ∈ TT := tt_3 (List.mem_of_getElem? (i := 158) rfl) rfl
set_option maxRecDepth 20000 in
theorem w_724 : (Cond.code yX3_figure cX3_figure 2 (some .int)) ∈ TT := tt_3 (List.mem_of_getElem? (i := 159) rfl) rfl
set_option maxRecDepth 20000 in
theorem w_725 : (Cond.methodLink RL 99 yX11_about) ∈ TT := tt_5 (List.mem_of_getElem? (i := 140) rfl) rfl
set_option maxRecDepth 20000 in
theorem w_726 : (Cond.instanceMethod yX11_about) ∈ TT := tt_5 (List.mem_of_getElem? (i := 141) rfl) rfl
set_option maxRecDepth 20000 in
theorem w_727 : (Cond.selects RX11 yX11_about yX11_about) ∈ TT := tt_5 (List.mem_of_getElem? (i := 142) rfl) rfl
set_option maxRecDepth 20000 in
theorem w_728 : (Cond.code yX11_about cX11_about 3 (some .int)) ∈ TT := tt_5 (List.mem_of_getElem? (i := 143) rfl) rfl
set_option maxRecDepth 20000 in
theorem w_729 : (Cond.constant RX11 232 (-2000000000)) ∈ TT := tt_5 (List.mem_of_getElem? (i := 144) rfl) rfl
set_option maxRecDepth 20000 in
theorem w_730 : (Cond.methodLink RL 100 yX10_bad) ∈ TT := tt_3 (List.mem_of_getElem? (i := 160) rfl) rfl
set_option maxRecDepth 20000 in
theorem w_731 : (Cond.instanceMethod yX10_bad) ∈ TT := tt_3 (List.mem_of_getElem? (i := 161) rfl) rfl
set_option maxRecDepth 20000 in
theorem w_732 : (Cond.selects RX10 yX10_bad yX10_bad) ∈ TT := tt_3 (List.mem_of_getElem? (i := 162) rfl) rfl
set_option maxRecDepth 20000 in
theorem w_733 : (Cond.code yX10_bad cX10_bad 4 (some .int)) ∈ TT := tt_3 (List.mem_of_getElem? (i := 163) rfl) rfl
set_option maxRecDepth 20000 in
theorem w_734 : (Cond.methodLink RX10 198 yX0_kinOfSides) ∈ TT := tt_3 (List.mem_of_getElem? (i := 164) rfl) rfl
set_option maxRecDepth 20000 in
theorem w_735 : (Cond.methodLink RL 103 yX11_bad) ∈ TT := tt_5 (List.mem_of_getElem? (i := 145) rfl) rfl
set_option maxRecDepth 20000 in
theorem w_736 : (Cond.instanceMethod yX11_bad) ∈ TT := tt_5 (List.mem_of_getElem? (i := 146) rfl) rfl
set_option maxRecDepth 20000 in
theorem w_737 : (Cond.selects RX11 yX11_bad yX11_bad) ∈ TT := tt_5 (List.mem_of_getElem? (i := 147) rfl) rfl
set_option maxRecDepth 20000 in
theorem w_738 : (Cond.code yX11_bad cX11_bad 4 (some .int)) ∈ TT := tt_5 (List.mem_of_getElem? (i := 148) rfl) rfl
set_option maxRecDepth 20000 in
theorem w_739 : (Cond.methodLink RL 104 yX10_sums) ∈ TT := tt_3 (List.mem_of_getElem? (i := 165) rfl) rfl
set_option maxRecDepth 20000 in
theorem w_740 : (Cond.instanceMethod yX10_sums) ∈ TT := tt_3 (List.mem_of_getElem? (i := 166) rfl) rfl
set_option maxRecDepth 20000 in
theorem w_741 : (Cond.selects RX10 yX10_sums yX10_sums) ∈ TT := tt_3 (List.mem_of_getElem? (i := 167) rfl) rfl
set_option maxRecDepth 20000 in
theorem w_742 : (Cond.code yX10_sums cX10_sums 3 (some .int)) ∈ TT := tt_3 (List.mem_of_getElem? (i := 168) rfl) rfl
set_option maxRecDepth 20000 in
theorem w_743 : (Cond.methodLink RL 107 yX11_sums) ∈ TT := tt_5 (List.mem_of_getElem? (i := 149) rfl) rfl
set_option maxRecDepth 20000 in
theorem w_744 : (Cond.instanceMethod yX11_sums) ∈ TT := tt_5 (List.mem_of_getElem? (i := 150) rfl) rfl
set_option maxRecDepth 20000 in
theorem w_745 : (Cond.selects RX11 yX11_sums yX11_sums) ∈ TT := tt_5 (List.mem_of_getElem? (i := 151) rfl) rfl
set_option maxRecDepth 20000 in
theorem w_746 : (Cond.code yX11_sums cX11_sums 3 (some .int)) ∈ TT := tt_5 (List.mem_of_getElem? (i := 152) rfl) rfl
set_option maxRecDepth 20000 in
theorem w_747 : (Cond.methodLink RL 108 yX10_owed) ∈ TT := tt_3 (List.mem_of_getElem? (i := 169) rfl) rfl
set_option maxRecDepth 20000 in
theorem w_748 : (Cond.instanceMethod yX10_owed) ∈ TT := tt_3 (List.mem_of_getElem? (i := 170) rfl) rfl
set_option maxRecDepth 20000 in
theorem w_749 : (Cond.selects RX10 yX10_owed yX10_owed) ∈ TT := tt_3 (List.mem_of_getElem? (i := 171) rfl) rfl
set_option maxRecDepth 20000 in
theorem w_750 : (Cond.code yX10_owed cX10_owed 6 (some .int)) ∈ TT := tt_3 (List.mem_of_getElem? (i := 172) rfl) rfl
set_option maxRecDepth 20000 in
theorem w_751 : (Cond.constant RX10 207 (-1000000)) ∈ TT := tt_3 (List.mem_of_getElem? (i := 173) rfl) rfl
set_option maxRecDepth 20000 in
theorem w_752 : (Cond.methodLink RL 111 yX11_owed) ∈ TT := tt_5 (List.mem_of_getElem? (i := 153) rfl) rfl
set_option maxRecDepth 20000 in
theorem w_753 : (Cond.instanceMethod yX11_owed) ∈ TT := tt_5 (List.mem_of_getElem? (i := 154) rfl) rfl
set_option maxRecDepth 20000 in
theorem w_754 : (Cond.selects RX11 yX11_owed yX11_owed) ∈ TT := tt_5 (List.mem_of_getElem? (i := 155) rfl) rfl
set_option maxRecDepth 20000 in
theorem w_755 : (Cond.code yX11_owed cX11_owed 5 (some .int)) ∈ TT := tt_5 (List.mem_of_getElem? (i := 156) rfl) rfl
set_option maxRecDepth 20000 in
theorem w_756 : (Cond.constant RX11 233 (-1000000)) ∈ TT := tt_5 (List.mem_of_getElem? (i := 157) rfl) rfl
set_option maxRecDepth 20000 in
theorem w_757 : (Cond.methodLink RL 112 yX10_chance) ∈ TT := tt_3 (List.mem_of_getElem? (i := 174) rfl) rfl
set_option maxRecDepth 20000 in
theorem w_758 : (Cond.instanceMethod yX10_chance) ∈ TT := tt_3 (List.mem_of_getElem? (i := 175) rfl) rfl
set_option maxRecDepth 20000 in
theorem w_759 : (Cond.selects RX10 yX10_chance yX10_chance) ∈ TT := tt_3 (List.mem_of_getElem? (i := 176) rfl) rfl
set_option maxRecDepth 20000 in
theorem w_760 : (Cond.code yX10_chance cX10_chance 8 (some .int)) ∈ TT := tt_3 (List.mem_of_getElem? (i := 177) rfl) rfl
set_option maxRecDepth 20000 in
theorem w_761 : (Cond.methodLink RX10 211 yX10_ways) ∈ TT := tt_3 (List.mem_of_getElem? (i := 178) rfl) rfl
set_option maxRecDepth 20000 in
theorem w_762 : (Cond.static yX10_ways) ∈ TT := tt_3 (List.mem_of_getElem? (i := 179) rfl) rfl
set_option maxRecDepth 20000 in
theorem w_763 : (Cond.code yX10_ways cX10_ways 5 (some .long)) ∈ TT := tt_3 (List.mem_of_getElem? (i := 180) rfl) rfl
set_option maxRecDepth 20000 in
theorem w_764 : (Cond.methodLink RX10 215 yX2_become) ∈ TT := tt_3 (List.mem_of_getElem? (i := 181) rfl) rfl
set_option maxRecDepth 20000 in
theorem w_765 : (Cond.instanceMethod yX2_become) ∈ TT := tt_3 (List.mem_of_getElem? (i := 182) rfl) rfl
set_option maxRecDepth 20000 in
theorem w_766 : (Cond.selects RX2 yX2_become yX2_become) ∈ TT := tt_3 (List.mem_of_getElem? (i := 183) rfl) rfl
set_option maxRecDepth 20000 in
theorem w_767 : (Cond.code yX2_become cX2_become 7 (some .int)) ∈ TT := tt_3 (List.mem_of_getElem? (i := 184) rfl) rfl
set_option maxRecDepth 20000 in
theorem w_768 : (Cond.methodLink RX2 16 yX2_commonDivisor) ∈ TT := tt_3 (List.mem_of_getElem? (i := 185) rfl) rfl
set_option maxRecDepth 20000 in
theorem w_769 : (Cond.static yX2_commonDivisor) ∈ TT := tt_3 (List.mem_of_getElem? (i := 186) rfl) rfl
set_option maxRecDepth 20000 in
theorem w_770 : (Cond.code yX2_commonDivisor cX2_commonDivisor 11 (some .long)) ∈ TT := tt_3 (List.mem_of_getElem? (i := 187) rfl) rfl
set_option maxRecDepth 20000 in
theorem w_771 : (Cond.methodLink RL 115 yX11_chance) ∈ TT := tt_5 (List.mem_of_getElem? (i := 158) rfl) rfl
set_option maxRecDepth 20000 in
theorem w_772 : (Cond.instanceMethod yX11_chance) ∈ TT := tt_5 (List.mem_of_getElem? (i := 159) rfl) rfl
set_option maxRecDepth 20000 in
theorem w_773 : (Cond.selects RX11 yX11_chance yX11_chance) ∈ TT := tt_5 (List.mem_of_getElem? (i := 160) rfl) rfl
set_option maxRecDepth 20000 in
theorem w_774 : (Cond.code yX11_chance cX11_chance 8 (some .int)) ∈ TT := tt_5 (List.mem_of_getElem? (i := 161) rfl) rfl
set_option maxRecDepth 20000 in
theorem w_775 : (Cond.constantLong RX11 241 (40)) ∈ TT := tt_5 (List.mem_of_getElem? (i := 162) rfl) rfl
set_option maxRecDepth 20000 in
theorem w_776 : (Cond.methodLink RX11 243 yX11_ways) ∈ TT := tt_5 (List.mem_of_getElem? (i := 163) rfl) rfl
set_option maxRecDepth 20000 in
theorem w_777 : (Cond.static yX11_ways) ∈ TT := tt_5 (List.mem_of_getElem? (i := 164) rfl) rfl
set_option maxRecDepth 20000 in
theorem w_778 : (Cond.code yX11_ways cX11_ways 5 (some .long)) ∈ TT := tt_5 (List.mem_of_getElem? (i := 165) rfl) rfl
set_option maxRecDepth 20000 in
theorem w_779 : (Cond.methodLink RX11 246 yX11_told) ∈ TT := tt_5 (List.mem_of_getElem? (i := 166) rfl) rfl
set_option maxRecDepth 20000 in
theorem w_780 : (Cond.instanceMethod yX11_told) ∈ TT := tt_5 (List.mem_of_getElem? (i := 168) rfl) rfl
set_option maxRecDepth 20000 in
theorem w_781 : (Cond.selects RX11 yX11_told yX11_told) ∈ TT := tt_0 (List.mem_map.mpr ⟨(_, 25), List.mem_of_getElem? (i := 41) rfl, rfl⟩) rfl
set_option maxRecDepth 20000 in
theorem w_782 : (Cond.code yX11_told cX11_told 7 (some .int)) ∈ TT := tt_5 (List.mem_of_getElem? (i := 169) rfl) rfl
set_option maxRecDepth 20000 in
theorem w_783 : (Cond.fieldLink RX11 238 "SwornListsModel" "above" "J") ∈ TT := tt_4 (List.mem_of_getElem? (i := 95) rfl) rfl
set_option maxRecDepth 20000 in
theorem w_784 : (Cond.methodLink RX11 234 yX11_divisor) ∈ TT := tt_5 (List.mem_of_getElem? (i := 170) rfl) rfl
set_option maxRecDepth 20000 in
theorem w_785 : (Cond.static yX11_divisor) ∈ TT := tt_5 (List.mem_of_getElem? (i := 171) rfl) rfl
set_option maxRecDepth 20000 in
theorem w_786 : (Cond.code yX11_divisor cX11_divisor 10 (some .long)) ∈ TT := tt_5 (List.mem_of_getElem? (i := 172) rfl) rfl
set_option maxRecDepth 20000 in
theorem w_787 : (Cond.methodLink RL 116 yX10_twelve) ∈ TT := tt_3 (List.mem_of_getElem? (i := 188) rfl) rfl
set_option maxRecDepth 20000 in
theorem w_788 : (Cond.instanceMethod yX10_twelve) ∈ TT := tt_3 (List.mem_of_getElem? (i := 189) rfl) rfl
set_option maxRecDepth 20000 in
theorem w_789 : (Cond.selects RX10 yX10_twelve yX10_twelve) ∈ TT := tt_3 (List.mem_of_getElem? (i := 190) rfl) rfl
set_option maxRecDepth 20000 in
theorem w_790 : (Cond.code yX10_twelve cX10_twelve 9 (some .int)) ∈ TT := tt_3 (List.mem_of_getElem? (i := 191) rfl) rfl
set_option maxRecDepth 20000 in
theorem w_791 : (Cond.methodLink RX10 219 yX0_peopleWith) ∈ TT := tt_3 (List.mem_of_getElem? (i := 192) rfl) rfl
set_option maxRecDepth 20000 in
theorem w_792 : (Cond.methodLink RX10 222 yJ6_bitCount_0f7a4) ∈ TT := tt_3 (List.mem_of_getElem? (i := 193) rfl) rfl
set_option maxRecDepth 20000 in
theorem w_793 : (Cond.methodLink RL 119 yX11_twelve) ∈ TT := tt_5 (List.mem_of_getElem? (i := 173) rfl) rfl
set_option maxRecDepth 20000 in
theorem w_794 : (Cond.instanceMethod yX11_twelve) ∈ TT := tt_5 (List.mem_of_getElem? (i := 174) rfl) rfl
set_option maxRecDepth 20000 in
theorem w_795 : (Cond.selects RX11 yX11_twelve yX11_twelve) ∈ TT := tt_5 (List.mem_of_getElem? (i := 175) rfl) rfl
set_option maxRecDepth 20000 in
theorem w_796 : (Cond.code yX11_twelve cX11_twelve 9 (some .int)) ∈ TT := tt_5 (List.mem_of_getElem? (i := 176) rfl) rfl
set_option maxRecDepth 20000 in
theorem w_797 : (Cond.methodLink RL 120 yX10_part) ∈ TT := tt_3 (List.mem_of_getElem? (i := 194) rfl) rfl
set_option maxRecDepth 20000 in
theorem w_798 : (Cond.instanceMethod yX10_part) ∈ TT := tt_3 (List.mem_of_getElem? (i := 195) rfl) rfl
set_option maxRecDepth 20000 in
theorem w_799 : (Cond.selects RX10 yX10_part yX10_part) ∈ TT := tt_3 (List.mem_of_getElem? (i := 196) rfl) rfl
set_option maxRecDepth 20000 in
theorem w_800 : (Cond.code yX10_part cX10_part 2 (some .long)) ∈ TT := tt_3 (List.mem_of_getElem? (i := 197) rfl) rfl
set_option maxRecDepth 20000 in
theorem w_801 : (Cond.constantLong RX10 234 (-1)) ∈ TT := tt_3 (List.mem_of_getElem? (i := 198) rfl) rfl
set_option maxRecDepth 20000 in
theorem w_802 : (Cond.methodLink RL 124 yX11_part) ∈ TT := tt_5 (List.mem_of_getElem? (i := 177) rfl) rfl
set_option maxRecDepth 20000 in
theorem w_803 : (Cond.instanceMethod yX11_part) ∈ TT := tt_5 (List.mem_of_getElem? (i := 178) rfl) rfl
set_option maxRecDepth 20000 in
theorem w_804 : (Cond.selects RX11 yX11_part yX11_part) ∈ TT := tt_5 (List.mem_of_getElem? (i := 179) rfl) rfl
set_option maxRecDepth 20000 in
theorem w_805 : (Cond.code yX11_part cX11_part 2 (some .long)) ∈ TT := tt_5 (List.mem_of_getElem? (i := 180) rfl) rfl
set_option maxRecDepth 20000 in
theorem w_806 : (Cond.methodLink RL 125 yX10_beside) ∈ TT := tt_3 (List.mem_of_getElem? (i := 199) rfl) rfl
set_option maxRecDepth 20000 in
theorem w_807 : (Cond.instanceMethod yX10_beside) ∈ TT := tt_3 (List.mem_of_getElem? (i := 200) rfl) rfl
set_option maxRecDepth 20000 in
theorem w_808 : (Cond.selects RX10 yX10_beside yX10_beside) ∈ TT := tt_3 (List.mem_of_getElem? (i := 201) rfl) rfl
set_option maxRecDepth 20000 in
theorem w_809 : (Cond.code yX10_beside cX10_beside 6 (some .int)) ∈ TT := tt_3 (List.mem_of_getElem? (i := 202) rfl) rfl
set_option maxRecDepth 20000 in
theorem w_810 : (Cond.methodLink RX10 240 yX1_hear) ∈ TT := tt_3 (List.mem_of_getElem? (i := 203) rfl) rfl
set_option maxRecDepth 20000 in
theorem w_811 : (Cond.methodLink RL 128 yX11_beside) ∈ TT := tt_5 (List.mem_of_getElem? (i := 181) rfl) rfl
set_option maxRecDepth 20000 in
theorem w_812 : (Cond.instanceMethod yX11_beside) ∈ TT := tt_5 (List.mem_of_getElem? (i := 182) rfl) rfl
set_option maxRecDepth 20000 in
theorem w_813 : (Cond.selects RX11 yX11_beside yX11_beside) ∈ TT := tt_5 (List.mem_of_getElem? (i := 183) rfl) rfl
set_option maxRecDepth 20000 in
theorem w_814 : (Cond.code yX11_beside cX11_beside 5 (some .int)) ∈ TT := tt_5 (List.mem_of_getElem? (i := 184) rfl) rfl
set_option maxRecDepth 20000 in
theorem w_815 : (Cond.methodLink RL 129 yX10_clash) ∈ TT := tt_3 (List.mem_of_getElem? (i := 204) rfl) rfl
set_option maxRecDepth 20000 in
theorem w_816 : (Cond.instanceMethod yX10_clash) ∈ TT := tt_3 (List.mem_of_getElem? (i := 205) rfl) rfl
set_option maxRecDepth 20000 in
theorem w_817 : (Cond.selects RX10 yX10_clash yX10_clash) ∈ TT := tt_3 (List.mem_of_getElem? (i := 206) rfl) rfl
set_option maxRecDepth 20000 in
theorem w_818 : (Cond.code yX10_clash cX10_clash 5 (some .int)) ∈ TT := tt_3 (List.mem_of_getElem? (i := 207) rfl) rfl
set_option maxRecDepth 20000 in
theorem w_819 : (Cond.methodLink RX10 244 yX10_lowBits) ∈ TT := tt_3 (List.mem_of_getElem? (i := 208) rfl) rfl
set_option maxRecDepth 20000 in
theorem w_820 : (Cond.methodLink RX10 247 yX9_seek) ∈ TT := tt_3 (List.mem_of_getElem? (i := 209) rfl) rfl
set_option maxRecDepth 20000 in
theorem w_821 : (Cond.instanceMethod yX9_seek) ∈ TT := tt_3 (List.mem_of_getElem? (i := 210) rfl) rfl
set_option maxRecDepth 20000 in
theorem w_822 : (Cond.selects RX9 yX9_seek yX9_seek) ∈ TT := tt_3 (List.mem_of_getElem? (i := 211) rfl) rfl
set_option maxRecDepth 20000 in
theorem w_823 : (Cond.code yX9_seek cX9_seek 6 none) ∈ TT := tt_3 (List.mem_of_getElem? (i := 212) rfl) rfl
set_option maxRecDepth 20000 in
theorem w_824 : (Cond.fieldLink RX9 24 "SwornLists$Waits" "many" "I") ∈ TT := tt_1 (List.mem_of_getElem? (i := 238) rfl) rfl
set_option maxRecDepth 20000 in
theorem w_825 : (Cond.fieldLink RX9 32 "SwornLists$Waits" "leastSum" "I") ∈ TT := tt_1 (List.mem_of_getElem? (i := 239) rfl) rfl
set_option maxRecDepth 20000 in
theorem w_826 : (Cond.constant RX9 35 (1000000)) ∈ TT := tt_3 (List.mem_of_getElem? (i := 227) rfl) rfl
set_option maxRecDepth 20000 in
theorem w_827 : (Cond.methodLink RX9 47 arraycopyName) ∈ TT := tt_4 (List.mem_of_getElem? (i := 2) rfl) rfl
set_option maxRecDepth 20000 in
theorem w_828 : (Cond.methodLink RX9 28 yX9_gather) ∈ TT := tt_3 (List.mem_of_getElem? (i := 213) rfl) rfl
set_option maxRecDepth 20000 in
theorem w_829 : (Cond.instanceMethod yX9_gather) ∈ TT := tt_3 (List.mem_of_getElem? (i := 215) rfl) rfl
set_option maxRecDepth 20000 in
theorem w_830 : (Cond.selects RX9 yX9_gather yX9_gather) ∈ TT := tt_0 (List.mem_map.mpr ⟨(_, 6), List.mem_of_getElem? (i := 12) rfl, rfl⟩) rfl
set_option maxRecDepth 20000 in
theorem w_831 : (Cond.code yX9_gather cX9_gather 5 none) ∈ TT := tt_3 (List.mem_of_getElem? (i := 216) rfl) rfl
set_option maxRecDepth 20000 in
theorem w_832 : (Cond.methodLink RX9 58 yX5_size) ∈ TT := tt_3 (List.mem_of_getElem? (i := 217) rfl) rfl
set_option maxRecDepth 20000 in
theorem w_833 : (Cond.methodLink RX9 68 yX0_shareFamily) ∈ TT := tt_3 (List.mem_of_getElem? (i := 219) rfl) rfl
set_option maxRecDepth 20000 in
theorem w_834 : (Cond.instanceMethod yX0_shareFamily) ∈ TT := tt_3 (List.mem_of_getElem? (i := 220) rfl) rfl
set_option maxRecDepth 20000 in
theorem w_835 : (Cond.selects RX0 yX0_shareFamily yX0_shareFamily) ∈ TT := tt_3 (List.mem_of_getElem? (i := 221) rfl) rfl
set_option maxRecDepth 20000 in
theorem w_836 : (Cond.code yX0_shareFamily cX0_shareFamily 6 (some .boolean)) ∈ TT := tt_3 (List.mem_of_getElem? (i := 222) rfl) rfl
set_option maxRecDepth 20000 in
theorem w_837 : (Cond.methodLink RX9 71 yX0_shareTrade) ∈ TT := tt_3 (List.mem_of_getElem? (i := 223) rfl) rfl
set_option maxRecDepth 20000 in
theorem w_838 : (Cond.instanceMethod yX0_shareTrade) ∈ TT := tt_3 (List.mem_of_getElem? (i := 224) rfl) rfl
set_option maxRecDepth 20000 in
theorem w_839 : (Cond.selects RX0 yX0_shareTrade yX0_shareTrade) ∈ TT := tt_3 (List.mem_of_getElem? (i := 225) rfl) rfl
set_option maxRecDepth 20000 in
theorem w_840 : (Cond.code yX0_shareTrade cX0_shareTrade 4 (some .boolean)) ∈ TT := tt_3 (List.mem_of_getElem? (i := 226) rfl) rfl
set_option maxRecDepth 20000 in
theorem w_841 : (Cond.methodLink RX9 36 yX9_sumTo) ∈ TT := tt_3 (List.mem_of_getElem? (i := 228) rfl) rfl
set_option maxRecDepth 20000 in
theorem w_842 : (Cond.instanceMethod yX9_sumTo) ∈ TT := tt_3 (List.mem_of_getElem? (i := 230) rfl) rfl
set_option maxRecDepth 20000 in
theorem w_843 : (Cond.selects RX9 yX9_sumTo yX9_sumTo) ∈ TT := tt_0 (List.mem_map.mpr ⟨(_, 6), List.mem_of_getElem? (i := 13) rfl, rfl⟩) rfl
set_option maxRecDepth 20000 in
theorem w_844 : (Cond.code yX9_sumTo cX9_sumTo 4 (some .int)) ∈ TT := tt_3 (List.mem_of_getElem? (i := 231) rfl) rfl
set_option maxRecDepth 20000 in
theorem w_845 : (Cond.methodLink RX9 40 yX9_longestOf) ∈ TT := tt_3 (List.mem_of_getElem? (i := 232) rfl) rfl
set_option maxRecDepth 20000 in
theorem w_846 : (Cond.instanceMethod yX9_longestOf) ∈ TT := tt_3 (List.mem_of_getElem? (i := 234) rfl) rfl
set_option maxRecDepth 20000 in
theorem w_847 : (Cond.selects RX9 yX9_longestOf yX9_longestOf) ∈ TT := tt_0 (List.mem_map.mpr ⟨(_, 6), List.mem_of_getElem? (i := 14) rfl, rfl⟩) rfl
set_option maxRecDepth 20000 in
theorem w_848 : (Cond.code yX9_longestOf cX9_longestOf 2 (some .int)) ∈ TT := tt_3 (List.mem_of_getElem? (i := 235) rfl) rfl
set_option maxRecDepth 20000 in
theorem w_849 : (Cond.methodLink RX9 43 yX9_fits) ∈ TT := tt_3 (List.mem_of_getElem? (i := 236) rfl) rfl
set_option maxRecDepth 20000 in
theorem w_850 : (Cond.instanceMethod yX9_fits) ∈ TT := tt_3 (List.mem_of_getElem? (i := 238) rfl) rfl
set_option maxRecDepth 20000 in
theorem w_851 : (Cond.selects RX9 yX9_fits yX9_fits) ∈ TT := tt_0 (List.mem_map.mpr ⟨(_, 6), List.mem_of_getElem? (i := 15) rfl, rfl⟩) rfl
set_option maxRecDepth 20000 in
theorem w_852 : (Cond.code yX9_fits cX9_fits 8 (some .boolean)) ∈ TT := tt_3 (List.mem_of_getElem? (i := 239) rfl) rfl
set_option maxRecDepth 20000 in
theorem w_853 : (Cond.methodLink RX9 74 yX5_at) ∈ TT := tt_4 (List.mem_of_getElem? (i := 0) rfl) rfl
set_option maxRecDepth 20000 in
theorem w_854 : (Cond.methodLink RX9 78 yX0_lastDayOf) ∈ TT := tt_4 (List.mem_of_getElem? (i := 1) rfl) rfl
set_option maxRecDepth 20000 in
theorem w_855 : (Cond.methodLink RX10 254 yX9_bestAt) ∈ TT := tt_4 (List.mem_of_getElem? (i := 3) rfl) rfl
set_option maxRecDepth 20000 in
theorem w_856 : (Cond.instanceMethod yX9_bestAt) ∈ TT := tt_4 (List.mem_of_getElem? (i := 4) rfl) rfl
set_option maxRecDepth 20000 in
theorem w_857 : (Cond.selects RX9 yX9_bestAt yX9_bestAt) ∈ TT := tt_4 (List.mem_of_getElem? (i := 5) rfl) rfl
set_option maxRecDepth 20000 in
theorem w_858 : (Cond.code yX9_bestAt cX9_bestAt 2 (some .int)) ∈ TT := tt_4 (List.mem_of_getElem? (i := 6) rfl) rfl
set_option maxRecDepth 20000 in
theorem w_859 : (Cond.methodLink RL 132 yX11_clash) ∈ TT := tt_5 (List.mem_of_getElem? (i := 185) rfl) rfl
set_option maxRecDepth 20000 in
theorem w_860 : (Cond.instanceMethod yX11_clash) ∈ TT := tt_5 (List.mem_of_getElem? (i := 186) rfl) rfl
set_option maxRecDepth 20000 in
theorem w_861 : (Cond.selects RX11 yX11_clash yX11_clash) ∈ TT := tt_5 (List.mem_of_getElem? (i := 187) rfl) rfl
set_option maxRecDepth 20000 in
theorem w_862 : (Cond.code yX11_clash cX11_clash 10 (some .int)) ∈ TT := tt_5 (List.mem_of_getElem? (i := 188) rfl) rfl
set_option maxRecDepth 20000 in
theorem w_863 : (Cond.methodLink RX11 253 yX11_areApart) ∈ TT := tt_5 (List.mem_of_getElem? (i := 189) rfl) rfl
set_option maxRecDepth 20000 in
theorem w_864 : (Cond.instanceMethod yX11_areApart) ∈ TT := tt_5 (List.mem_of_getElem? (i := 191) rfl) rfl
set_option maxRecDepth 20000 in
theorem w_865 : (Cond.selects RX11 yX11_areApart yX11_areApart) ∈ TT := tt_0 (List.mem_map.mpr ⟨(_, 25), List.mem_of_getElem? (i := 42) rfl, rfl⟩) rfl
set_option maxRecDepth 20000 in
theorem w_866 : (Cond.code yX11_areApart cX11_areApart 7 (some .boolean)) ∈ TT := tt_5 (List.mem_of_getElem? (i := 192) rfl) rfl
set_option maxRecDepth 20000 in
theorem w_867 : (Cond.methodLink RX11 250 yX11_meets) ∈ TT := tt_5 (List.mem_of_getElem? (i := 193) rfl) rfl
set_option maxRecDepth 20000 in
theorem w_868 : (Cond.instanceMethod yX11_meets) ∈ TT := tt_5 (List.mem_of_getElem? (i := 195) rfl) rfl
set_option maxRecDepth 20000 in
theorem w_869 : (Cond.selects RX11 yX11_meets yX11_meets) ∈ TT := tt_0 (List.mem_map.mpr ⟨(_, 25), List.mem_of_getElem? (i := 43) rfl, rfl⟩) rfl
set_option maxRecDepth 20000 in
theorem w_870 : (Cond.code yX11_meets cX11_meets 6 (some .boolean)) ∈ TT := tt_5 (List.mem_of_getElem? (i := 196) rfl) rfl
set_option maxRecDepth 20000 in
theorem w_871 : (Cond.methodLink RL 133 yX10_turn) ∈ TT := tt_4 (List.mem_of_getElem? (i := 7) rfl) rfl
set_option maxRecDepth 20000 in
theorem w_872 : (Cond.instanceMethod yX10_turn) ∈ TT := tt_4 (List.mem_of_getElem? (i := 8) rfl) rfl
set_option maxRecDepth 20000 in
theorem w_873 : (Cond.selects RX10 yX10_turn yX10_turn) ∈ TT := tt_4 (List.mem_of_getElem? (i := 9) rfl) rfl
set_option maxRecDepth 20000 in
theorem w_874 : (Cond.code yX10_turn cX10_turn 4 (some .int)) ∈ TT := tt_4 (List.mem_of_getElem? (i := 10) rfl) rfl
set_option maxRecDepth 20000 in
theorem w_875 : (Cond.methodLink RX10 257 yX1_nextInTurn) ∈ TT := tt_4 (List.mem_of_getElem? (i := 11) rfl) rfl
set_option maxRecDepth 20000 in
theorem w_876 : (Cond.instanceMethod yX1_nextInTurn) ∈ TT := tt_4 (List.mem_of_getElem? (i := 12) rfl) rfl
set_option maxRecDepth 20000 in
theorem w_877 : (Cond.selects RX1 yX1_nextInTurn yX1_nextInTurn) ∈ TT := tt_4 (List.mem_of_getElem? (i := 13) rfl) rfl
set_option maxRecDepth 20000 in
theorem w_878 : (Cond.code yX1_nextInTurn cX1_nextInTurn 5 (some .int)) ∈ TT := tt_4 (List.mem_of_getElem? (i := 14) rfl) rfl
set_option maxRecDepth 20000 in
theorem w_879 : (Cond.methodLink RX1 154 yX1_isAhead) ∈ TT := tt_4 (List.mem_of_getElem? (i := 15) rfl) rfl
set_option maxRecDepth 20000 in
theorem w_880 : (Cond.instanceMethod yX1_isAhead) ∈ TT := tt_4 (List.mem_of_getElem? (i := 17) rfl) rfl
set_option maxRecDepth 20000 in
theorem w_881 : (Cond.selects RX1 yX1_isAhead yX1_isAhead) ∈ TT := tt_0 (List.mem_map.mpr ⟨(_, 5), List.mem_of_getElem? (i := 16) rfl, rfl⟩) rfl
set_option maxRecDepth 20000 in
theorem w_882 : (Cond.code yX1_isAhead cX1_isAhead 5 (some .boolean)) ∈ TT := tt_4 (List.mem_of_getElem? (i := 18) rfl) rfl
set_option maxRecDepth 20000 in
theorem w_883 : (Cond.methodLink RX1 158 yJ6_compare_7cf53) ∈ TT := tt_4 (List.mem_of_getElem? (i := 19) rfl) rfl
set_option maxRecDepth 20000 in
theorem w_884 : (Cond.static yJ6_compare_7cf53) ∈ TT := tt_4 (List.mem_of_getElem? (i := 20) rfl) rfl
set_option maxRecDepth 20000 in
theorem w_885 : (Cond.code yJ6_compare_7cf53 cJ6_compare_7cf53 2 (some .int)) ∈ TT := tt_4 (List.mem_of_getElem? (i := 21) rfl) rfl
set_option maxRecDepth 20000 in
theorem w_886 : (Cond.methodLink RL 136 yX11_turn) ∈ TT := tt_5 (List.mem_of_getElem? (i := 197) rfl) rfl
set_option maxRecDepth 20000 in
theorem w_887 : (Cond.instanceMethod yX11_turn) ∈ TT := tt_5 (List.mem_of_getElem? (i := 198) rfl) rfl
set_option maxRecDepth 20000 in
theorem w_888 : (Cond.selects RX11 yX11_turn yX11_turn) ∈ TT := tt_5 (List.mem_of_getElem? (i := 199) rfl) rfl
set_option maxRecDepth 20000 in
theorem w_889 : (Cond.code yX11_turn cX11_turn 9 (some .int)) ∈ TT := tt_5 (List.mem_of_getElem? (i := 200) rfl) rfl
set_option maxRecDepth 20000 in
theorem w_890 : (Cond.methodLink RL 137 yX10_image) ∈ TT := tt_4 (List.mem_of_getElem? (i := 22) rfl) rfl
set_option maxRecDepth 20000 in
theorem w_891 : (Cond.instanceMethod yX10_image) ∈ TT := tt_4 (List.mem_of_getElem? (i := 23) rfl) rfl
set_option maxRecDepth 20000 in
theorem w_892 : (Cond.selects RX10 yX10_image yX10_image) ∈ TT := tt_4 (List.mem_of_getElem? (i := 24) rfl) rfl
set_option maxRecDepth 20000 in
theorem w_893 : (Cond.code yX10_image cX10_image 2 (some .int)) ∈ TT := tt_4 (List.mem_of_getElem? (i := 25) rfl) rfl
set_option maxRecDepth 20000 in
theorem w_894 : (Cond.methodLink RX10 260 yX0_copy) ∈ TT := tt_4 (List.mem_of_getElem? (i := 26) rfl) rfl
set_option maxRecDepth 20000 in
theorem w_895 : (Cond.instanceMethod yX0_copy) ∈ TT := tt_4 (List.mem_of_getElem? (i := 27) rfl) rfl
set_option maxRecDepth 20000 in
theorem w_896 : (Cond.selects RX0 yX0_copy yX0_copy) ∈ TT := tt_4 (List.mem_of_getElem? (i := 28) rfl) rfl
set_option maxRecDepth 20000 in
theorem w_897 : (Cond.code yX0_copy cX0_copy 2 none) ∈ TT := tt_4 (List.mem_of_getElem? (i := 29) rfl) rfl
set_option maxRecDepth 20000 in
theorem w_898 : (Cond.methodLink RX0 51 yX5_copy) ∈ TT := tt_4 (List.mem_of_getElem? (i := 30) rfl) rfl
set_option maxRecDepth 20000 in
theorem w_899 : (Cond.instanceMethod yX5_copy) ∈ TT := tt_4 (List.mem_of_getElem? (i := 31) rfl) rfl
set_option maxRecDepth 20000 in
theorem w_900 : (Cond.selects RX5 yX5_copy yX5_copy) ∈ TT := tt_4 (List.mem_of_getElem? (i := 32) rfl) rfl
set_option maxRecDepth 20000 in
theorem w_901 : (Cond.code yX5_copy cX5_copy 2 none) ∈ TT := tt_4 (List.mem_of_getElem? (i := 33) rfl) rfl
set_option maxRecDepth 20000 in
theorem w_902 : (Cond.methodLink RX5 25 Lib.Math.min.name) ∈ TT := tt_4 (List.mem_of_getElem? (i := 34) rfl) rfl
set_option maxRecDepth 20000 in
theorem w_903 : (Cond.methodLink RX5 31 arraycopyName) ∈ TT := tt_4 (List.mem_of_getElem? (i := 35) rfl) rfl
set_option maxRecDepth 20000 in
theorem w_904 : (Cond.methodLink RX0 55 yX6_copy) ∈ TT := tt_4 (List.mem_of_getElem? (i := 36) rfl) rfl
set_option maxRecDepth 20000 in
theorem w_905 : (Cond.instanceMethod yX6_copy) ∈ TT := tt_4 (List.mem_of_getElem? (i := 37) rfl) rfl
set_option maxRecDepth 20000 in
theorem w_906 : (Cond.selects RX6 yX6_copy yX6_copy) ∈ TT := tt_4 (List.mem_of_getElem? (i := 38) rfl) rfl
set_option maxRecDepth 20000 in
theorem w_907 : (Cond.code yX6_copy cX6_copy 3 none) ∈ TT := tt_4 (List.mem_of_getElem? (i := 39) rfl) rfl
set_option maxRecDepth 20000 in
theorem w_908 : (Cond.methodLink RX6 20 yX6_get) ∈ TT := tt_4 (List.mem_of_getElem? (i := 40) rfl) rfl
set_option maxRecDepth 20000 in
theorem w_909 : (Cond.methodLink RX6 24 yX8_copy) ∈ TT := tt_4 (List.mem_of_getElem? (i := 41) rfl) rfl
set_option maxRecDepth 20000 in
theorem w_910 : (Cond.methodLink RL 140 yX11_image) ∈ TT := tt_5 (List.mem_of_getElem? (i := 201) rfl) rfl
set_option maxRecDepth 20000 in
theorem w_911 : (Cond.instanceMethod yX11_image) ∈ TT := tt_5 (List.mem_of_getElem? (i := 202) rfl) rfl
set_option maxRecDepth 20000 in
theorem w_912 : (Cond.selects RX11 yX11_image yX11_image) ∈ TT := tt_5 (List.mem_of_getElem? (i := 203) rfl) rfl
set_option maxRecDepth 20000 in
theorem w_913 : (Cond.code yX11_image cX11_image 3 (some .int)) ∈ TT := tt_5 (List.mem_of_getElem? (i := 204) rfl) rfl
set_option maxRecDepth 20000 in
theorem w_914 : (Cond.methodLink RL 141 yX10_from) ∈ TT := tt_4 (List.mem_of_getElem? (i := 42) rfl) rfl
set_option maxRecDepth 20000 in
theorem w_915 : (Cond.instanceMethod yX10_from) ∈ TT := tt_4 (List.mem_of_getElem? (i := 43) rfl) rfl
set_option maxRecDepth 20000 in
theorem w_916 : (Cond.selects RX10 yX10_from yX10_from) ∈ TT := tt_4 (List.mem_of_getElem? (i := 44) rfl) rfl
set_option maxRecDepth 20000 in
theorem w_917 : (Cond.code yX10_from cX10_from 2 (some .int)) ∈ TT := tt_4 (List.mem_of_getElem? (i := 45) rfl) rfl
set_option maxRecDepth 20000 in
theorem w_918 : (Cond.methodLink RL 144 yX11_from) ∈ TT := tt_5 (List.mem_of_getElem? (i := 205) rfl) rfl
set_option maxRecDepth 20000 in
theorem w_919 : (Cond.instanceMethod yX11_from) ∈ TT := tt_5 (List.mem_of_getElem? (i := 206) rfl) rfl
set_option maxRecDepth 20000 in
theorem w_920 : (Cond.selects RX11 yX11_from yX11_from) ∈ TT := tt_5 (List.mem_of_getElem? (i := 207) rfl) rfl
set_option maxRecDepth 20000 in
theorem w_921 : (Cond.code yX11_from cX11_from 3 (some .int)) ∈ TT := tt_5 (List.mem_of_getElem? (i := 208) rfl) rfl
set_option maxRecDepth 20000 in
theorem w_922 : (Cond.methodLink RL 145 yX10_count) ∈ TT := tt_4 (List.mem_of_getElem? (i := 46) rfl) rfl
set_option maxRecDepth 20000 in
theorem w_923 : (Cond.instanceMethod yX10_count) ∈ TT := tt_4 (List.mem_of_getElem? (i := 47) rfl) rfl
set_option maxRecDepth 20000 in
theorem w_924 : (Cond.selects RX10 yX10_count yX10_count) ∈ TT := tt_4 (List.mem_of_getElem? (i := 48) rfl) rfl
set_option maxRecDepth 20000 in
theorem w_925 : (Cond.code yX10_count cX10_count 2 (some .int)) ∈ TT := tt_4 (List.mem_of_getElem? (i := 49) rfl) rfl
set_option maxRecDepth 20000 in
theorem w_926 : (Cond.methodLink RX10 263 yX10_howMany) ∈ TT := tt_4 (List.mem_of_getElem? (i := 50) rfl) rfl
set_option maxRecDepth 20000 in
theorem w_927 : (Cond.instanceMethod yX10_howMany) ∈ TT := tt_4 (List.mem_of_getElem? (i := 52) rfl) rfl
set_option maxRecDepth 20000 in
theorem w_928 : (Cond.selects RX10 yX10_howMany yX10_howMany) ∈ TT := tt_0 (List.mem_map.mpr ⟨(_, 7), List.mem_of_getElem? (i := 17) rfl, rfl⟩) rfl
set_option maxRecDepth 20000 in
theorem w_929 : (Cond.code yX10_howMany cX10_howMany 2 (some .int)) ∈ TT := tt_4 (List.mem_of_getElem? (i := 53) rfl) rfl
set_option maxRecDepth 20000 in
theorem w_930 : (Cond.methodLink RX10 282 yX1_sworn) ∈ TT := tt_4 (List.mem_of_getElem? (i := 54) rfl) rfl
set_option maxRecDepth 20000 in
theorem w_931 : (Cond.instanceMethod yX1_sworn) ∈ TT := tt_4 (List.mem_of_getElem? (i := 55) rfl) rfl
set_option maxRecDepth 20000 in
theorem w_932 : (Cond.selects RX1 yX1_sworn yX1_sworn) ∈ TT := tt_4 (List.mem_of_getElem? (i := 56) rfl) rfl
set_option maxRecDepth 20000 in
theorem w_933 : (Cond.code yX1_sworn cX1_sworn 3 (some .int)) ∈ TT := tt_4 (List.mem_of_getElem? (i := 57) rfl) rfl
set_option maxRecDepth 20000 in
theorem w_934 : (Cond.methodLink RL 148 yX11_count) ∈ TT := tt_5 (List.mem_of_getElem? (i := 209) rfl) rfl
set_option maxRecDepth 20000 in
theorem w_935 : (Cond.instanceMethod yX11_count) ∈ TT := tt_5 (List.mem_of_getElem? (i := 210) rfl) rfl
set_option maxRecDepth 20000 in
theorem w_936 : (Cond.selects RX11 yX11_count yX11_count) ∈ TT := tt_5 (List.mem_of_getElem? (i := 211) rfl) rfl
set_option maxRecDepth 20000 in
theorem w_937 : (Cond.code yX11_count cX11_count 2 (some .int)) ∈ TT := tt_5 (List.mem_of_getElem? (i := 212) rfl) rfl
set_option maxRecDepth 20000 in
theorem w_938 : (Cond.constantLong RX11 256 (5)) ∈ TT := tt_5 (List.mem_of_getElem? (i := 213) rfl) rfl
set_option maxRecDepth 20000 in
theorem w_939 : (Cond.methodLink RX11 258 yX11_countOf) ∈ TT := tt_5 (List.mem_of_getElem? (i := 214) rfl) rfl
set_option maxRecDepth 20000 in
theorem w_940 : (Cond.instanceMethod yX11_countOf) ∈ TT := tt_5 (List.mem_of_getElem? (i := 216) rfl) rfl
set_option maxRecDepth 20000 in
theorem w_941 : (Cond.selects RX11 yX11_countOf yX11_countOf) ∈ TT := tt_0 (List.mem_map.mpr ⟨(_, 25), List.mem_of_getElem? (i := 44) rfl, rfl⟩) rfl
set_option maxRecDepth 20000 in
theorem w_942 : (Cond.code yX11_countOf cX11_countOf 4 (some .int)) ∈ TT := tt_5 (List.mem_of_getElem? (i := 217) rfl) rfl
set_option maxRecDepth 20000 in
theorem w_943 : (Cond.methodLink RL 149 yX10_digest) ∈ TT := tt_4 (List.mem_of_getElem? (i := 58) rfl) rfl
set_option maxRecDepth 20000 in
theorem w_944 : (Cond.instanceMethod yX10_digest) ∈ TT := tt_4 (List.mem_of_getElem? (i := 59) rfl) rfl
set_option maxRecDepth 20000 in
theorem w_945 : (Cond.selects RX10 yX10_digest yX10_digest) ∈ TT := tt_4 (List.mem_of_getElem? (i := 60) rfl) rfl
set_option maxRecDepth 20000 in
theorem w_946 : (Cond.code yX10_digest cX10_digest 4 (some .long)) ∈ TT := tt_4 (List.mem_of_getElem? (i := 61) rfl) rfl
set_option maxRecDepth 20000 in
theorem w_947 : (Cond.constantLong RX10 266 (367)) ∈ TT := tt_4 (List.mem_of_getElem? (i := 62) rfl) rfl
set_option maxRecDepth 20000 in
theorem w_948 : (Cond.constantLong RX10 268 (31)) ∈ TT := tt_4 (List.mem_of_getElem? (i := 63) rfl) rfl
set_option maxRecDepth 20000 in
theorem w_949 : (Cond.methodLink RX10 270 yX5_foldAll) ∈ TT := tt_4 (List.mem_of_getElem? (i := 64) rfl) rfl
set_option maxRecDepth 20000 in
theorem w_950 : (Cond.instanceMethod yX5_foldAll) ∈ TT := tt_4 (List.mem_of_getElem? (i := 65) rfl) rfl
set_option maxRecDepth 20000 in
theorem w_951 : (Cond.selects RX5 yX5_foldAll yX5_foldAll) ∈ TT := tt_4 (List.mem_of_getElem? (i := 66) rfl) rfl
set_option maxRecDepth 20000 in
theorem w_952 : (Cond.code yX5_foldAll cX5_foldAll 4 (some .long)) ∈ TT := tt_4 (List.mem_of_getElem? (i := 67) rfl) rfl
set_option maxRecDepth 20000 in
theorem w_953 : (Cond.methodLink RX5 42 yX5_foldRow) ∈ TT := tt_4 (List.mem_of_getElem? (i := 68) rfl) rfl
set_option maxRecDepth 20000 in
theorem w_954 : (Cond.instanceMethod yX5_foldRow) ∈ TT := tt_4 (List.mem_of_getElem? (i := 69) rfl) rfl
set_option maxRecDepth 20000 in
theorem w_955 : (Cond.selects RX5 yX5_foldRow yX5_foldRow) ∈ TT := tt_4 (List.mem_of_getElem? (i := 70) rfl) rfl
set_option maxRecDepth 20000 in
theorem w_956 : (Cond.code yX5_foldRow cX5_foldRow 5 (some .long)) ∈ TT := tt_4 (List.mem_of_getElem? (i := 71) rfl) rfl
set_option maxRecDepth 20000 in
theorem w_957 : (Cond.constantLong RX5 37 (31)) ∈ TT := tt_4 (List.mem_of_getElem? (i := 72) rfl) rfl
set_option maxRecDepth 20000 in
theorem w_958 : (Cond.methodLink RX5 39 yX5_at) ∈ TT := tt_4 (List.mem_of_getElem? (i := 73) rfl) rfl
set_option maxRecDepth 20000 in
theorem w_959 : (Cond.methodLink RX10 274 yX5_foldRow) ∈ TT := tt_4 (List.mem_of_getElem? (i := 74) rfl) rfl
set_option maxRecDepth 20000 in
theorem w_960 : (Cond.methodLink RX10 278 yX8_fold) ∈ TT := tt_4 (List.mem_of_getElem? (i := 75) rfl) rfl
set_option maxRecDepth 20000 in
theorem w_961 : (Cond.instanceMethod yX8_fold) ∈ TT := tt_4 (List.mem_of_getElem? (i := 76) rfl) rfl
set_option maxRecDepth 20000 in
theorem w_962 : (Cond.selects RX8 yX8_fold yX8_fold) ∈ TT := tt_4 (List.mem_of_getElem? (i := 77) rfl) rfl
set_option maxRecDepth 20000 in
theorem w_963 : (Cond.code yX8_fold cX8_fold 4 (some .long)) ∈ TT := tt_4 (List.mem_of_getElem? (i := 78) rfl) rfl
set_option maxRecDepth 20000 in
theorem w_964 : (Cond.constantLong RX8 31 (31)) ∈ TT := tt_4 (List.mem_of_getElem? (i := 79) rfl) rfl
set_option maxRecDepth 20000 in
theorem w_965 : (Cond.methodLink RX10 281 yX3_fold) ∈ TT := tt_4 (List.mem_of_getElem? (i := 80) rfl) rfl
set_option maxRecDepth 20000 in
theorem w_966 : (Cond.instanceMethod yX3_fold) ∈ TT := tt_4 (List.mem_of_getElem? (i := 81) rfl) rfl
set_option maxRecDepth 20000 in
theorem w_967 : (Cond.selects RX3 yX3_fold yX3_fold) ∈ TT := tt_4 (List.mem_of_getElem? (i := 82) rfl) rfl
set_option maxRecDepth 20000 in
theorem w_968 : (Cond.code yX3_fold cX3_fold 4 (some .long)) ∈ TT := tt_4 (List.mem_of_getElem? (i := 83) rfl) rfl
set_option maxRecDepth 20000 in
theorem w_969 : (Cond.constantLong RX3 76 (31)) ∈ TT := tt_4 (List.mem_of_getElem? (i := 84) rfl) rfl
set_option maxRecDepth 20000 in
theorem w_970 : (Cond.methodLink RX3 78 yX3_figure) ∈ TT := tt_4 (List.mem_of_getElem? (i := 85) rfl) rfl
set_option maxRecDepth 20000 in
theorem w_971 : (Cond.methodLink RL 153 yX11_digest) ∈ TT := tt_5 (List.mem_of_getElem? (i := 218) rfl) rfl
set_option maxRecDepth 20000 in
theorem w_972 : (Cond.instanceMethod yX11_digest) ∈ TT := tt_5 (List.mem_of_getElem? (i := 219) rfl) rfl
set_option maxRecDepth 20000 in
theorem w_973 : (Cond.selects RX11 yX11_digest yX11_digest) ∈ TT := tt_5 (List.mem_of_getElem? (i := 220) rfl) rfl
set_option maxRecDepth 20000 in
theorem w_974 : (Cond.code yX11_digest cX11_digest 5 (some .long)) ∈ TT := tt_5 (List.mem_of_getElem? (i := 221) rfl) rfl
set_option maxRecDepth 20000 in
theorem w_975 : (Cond.constantLong RX11 263 (367)) ∈ TT := tt_5 (List.mem_of_getElem? (i := 222) rfl) rfl
set_option maxRecDepth 20000 in
theorem w_976 : (Cond.constantLong RX11 261 (31)) ∈ TT := tt_5 (List.mem_of_getElem? (i := 223) rfl) rfl
set_option maxRecDepth 20000 in
theorem w_977 : (Cond.methodLink RX11 265 yX11_mixed) ∈ TT := tt_5 (List.mem_of_getElem? (i := 224) rfl) rfl
set_option maxRecDepth 20000 in
theorem w_978 : (Cond.instanceMethod yX11_mixed) ∈ TT := tt_5 (List.mem_of_getElem? (i := 226) rfl) rfl
set_option maxRecDepth 20000 in
theorem w_979 : (Cond.selects RX11 yX11_mixed yX11_mixed) ∈ TT := tt_0 (List.mem_map.mpr ⟨(_, 25), List.mem_of_getElem? (i := 45) rfl, rfl⟩) rfl
set_option maxRecDepth 20000 in
theorem w_980 : (Cond.code yX11_mixed cX11_mixed 8 (some .long)) ∈ TT := tt_5 (List.mem_of_getElem? (i := 227) rfl) rfl
set_option maxRecDepth 20000 in
theorem wl_X0_0 : (Cond.laysFinal RX0 "SwornLists$Book" "people" "LSwornLists$Rows;") ∈ TT := tt_1 (List.mem_of_getElem? (i := 110) rfl) rfl
set_option maxRecDepth 20000 in
theorem wl_X0_1 : (Cond.laysFinal RX0 "SwornLists$Book" "facts" "LSwornLists$Rows;") ∈ TT := tt_1 (List.mem_of_getElem? (i := 112) rfl) rfl
set_option maxRecDepth 20000 in
theorem wl_X0_2 : (Cond.laysFinal RX0 "SwornLists$Book" "rolls" "LSwornLists$Rows;") ∈ TT := tt_1 (List.mem_of_getElem? (i := 114) rfl) rfl
set_option maxRecDepth 20000 in
theorem wl_X0_3 : (Cond.laysFinal RX0 "SwornLists$Book" "acts" "LSwornLists$Rows;") ∈ TT := tt_1 (List.mem_of_getElem? (i := 116) rfl) rfl
set_option maxRecDepth 20000 in
theorem wl_X0_4 : (Cond.laysFinal RX0 "SwornLists$Book" "trials" "LSwornLists$Rows;") ∈ TT := tt_1 (List.mem_of_getElem? (i := 118) rfl) rfl
set_option maxRecDepth 20000 in
theorem wl_X0_5 : (Cond.laysFinal RX0 "SwornLists$Book" "laws" "LSwornLists$Shelf;") ∈ TT := tt_1 (List.mem_of_getElem? (i := 120) rfl) rfl
set_option maxRecDepth 20000 in
theorem wl_X0_6 : (Cond.laysFinal RX0 "SwornLists$Book" "texts" "LSwornLists$Shelf;") ∈ TT := tt_1 (List.mem_of_getElem? (i := 122) rfl) rfl
set_option maxRecDepth 20000 in
theorem wl_X0_7 : (Cond.lays RX0 "SwornLists$Book" "pay" "I") ∈ TT := tt_1 (List.mem_of_getElem? (i := 124) rfl) rfl
set_option maxRecDepth 20000 in
theorem wl_X0_8 : (Cond.lays RX0 "SwornLists$Book" "fine" "I") ∈ TT := tt_1 (List.mem_of_getElem? (i := 126) rfl) rfl
theorem inlX0 : ∀ w ∈ wsX00, w ∈ TT := by
  intro w hw
  obtain ⟨k, hk, rfl⟩ := List.mem_map.mp hw
  have hk := List.mem_range.mp hk
  match k, hk with
  | 0, _ => exact wl_X0_0
  | 1, _ => exact wl_X0_1
  | 2, _ => exact wl_X0_2
  | 3, _ => exact wl_X0_3
  | 4, _ => exact wl_X0_4
  | 5, _ => exact wl_X0_5
  | 6, _ => exact wl_X0_6
  | 7, _ => exact wl_X0_7
  | 8, _ => exact wl_X0_8
  | k + 9, h => exact absurd h (by omega)
set_option maxRecDepth 20000 in
theorem wl_X1_0 : (Cond.laysFinal RX1 "SwornLists$Court" "book" "LSwornLists$Book;") ∈ TT := tt_1 (List.mem_of_getElem? (i := 176) rfl) rfl
set_option maxRecDepth 20000 in
theorem wl_X1_1 : (Cond.laysFinal RX1 "SwornLists$Court" "hearings" "[LSwornLists$Hearing;") ∈ TT := tt_1 (List.mem_of_getElem? (i := 178) rfl) rfl
set_option maxRecDepth 20000 in
theorem wl_X1_2 : (Cond.laysFinal RX1 "SwornLists$Court" "spare" "LSwornLists$Hearing;") ∈ TT := tt_1 (List.mem_of_getElem? (i := 180) rfl) rfl
set_option maxRecDepth 20000 in
theorem wl_X1_3 : (Cond.laysFinal RX1 "SwornLists$Court" "values" "[J") ∈ TT := tt_1 (List.mem_of_getElem? (i := 182) rfl) rfl
set_option maxRecDepth 20000 in
theorem wl_X1_4 : (Cond.lays RX1 "SwornLists$Court" "settled" "I") ∈ TT := tt_1 (List.mem_of_getElem? (i := 184) rfl) rfl
theorem inlX1 : ∀ w ∈ wsX10, w ∈ TT := by
  intro w hw
  obtain ⟨k, hk, rfl⟩ := List.mem_map.mp hw
  have hk := List.mem_range.mp hk
  match k, hk with
  | 0, _ => exact wl_X1_0
  | 1, _ => exact wl_X1_1
  | 2, _ => exact wl_X1_2
  | 3, _ => exact wl_X1_3
  | 4, _ => exact wl_X1_4
  | k + 5, h => exact absurd h (by omega)
set_option maxRecDepth 20000 in
theorem wl_X2_0 : (Cond.lays RX2 "SwornLists$Fraction" "above" "J") ∈ TT := tt_1 (List.mem_of_getElem? (i := 223) rfl) rfl
set_option maxRecDepth 20000 in
theorem wl_X2_1 : (Cond.lays RX2 "SwornLists$Fraction" "below" "J") ∈ TT := tt_1 (List.mem_of_getElem? (i := 225) rfl) rfl
theorem inlX2 : ∀ w ∈ wsX20, w ∈ TT := by
  intro w hw
  obtain ⟨k, hk, rfl⟩ := List.mem_map.mp hw
  have hk := List.mem_range.mp hk
  match k, hk with
  | 0, _ => exact wl_X2_0
  | 1, _ => exact wl_X2_1
  | k + 2, h => exact absurd h (by omega)
set_option maxRecDepth 20000 in
theorem wl_X3_0 : (Cond.laysFinal RX3 "SwornLists$Hearing" "order" "[I") ∈ TT := tt_1 (List.mem_of_getElem? (i := 150) rfl) rfl
set_option maxRecDepth 20000 in
theorem wl_X3_1 : (Cond.lays RX3 "SwornLists$Hearing" "slips" "I") ∈ TT := tt_1 (List.mem_of_getElem? (i := 152) rfl) rfl
set_option maxRecDepth 20000 in
theorem wl_X3_2 : (Cond.lays RX3 "SwornLists$Hearing" "lot" "I") ∈ TT := tt_1 (List.mem_of_getElem? (i := 154) rfl) rfl
set_option maxRecDepth 20000 in
theorem wl_X3_3 : (Cond.lays RX3 "SwornLists$Hearing" "inBox" "I") ∈ TT := tt_1 (List.mem_of_getElem? (i := 156) rfl) rfl
set_option maxRecDepth 20000 in
theorem wl_X3_4 : (Cond.lays RX3 "SwornLists$Hearing" "called" "I") ∈ TT := tt_1 (List.mem_of_getElem? (i := 158) rfl) rfl
set_option maxRecDepth 20000 in
theorem wl_X3_5 : (Cond.lays RX3 "SwornLists$Hearing" "missing" "I") ∈ TT := tt_1 (List.mem_of_getElem? (i := 160) rfl) rfl
set_option maxRecDepth 20000 in
theorem wl_X3_6 : (Cond.lays RX3 "SwornLists$Hearing" "struckBy0" "I") ∈ TT := tt_1 (List.mem_of_getElem? (i := 162) rfl) rfl
set_option maxRecDepth 20000 in
theorem wl_X3_7 : (Cond.lays RX3 "SwornLists$Hearing" "struckBy1" "I") ∈ TT := tt_1 (List.mem_of_getElem? (i := 164) rfl) rfl
set_option maxRecDepth 20000 in
theorem wl_X3_8 : (Cond.lays RX3 "SwornLists$Hearing" "sworn" "I") ∈ TT := tt_1 (List.mem_of_getElem? (i := 166) rfl) rfl
theorem inlX3 : ∀ w ∈ wsX30, w ∈ TT := by
  intro w hw
  obtain ⟨k, hk, rfl⟩ := List.mem_map.mp hw
  have hk := List.mem_range.mp hk
  match k, hk with
  | 0, _ => exact wl_X3_0
  | 1, _ => exact wl_X3_1
  | 2, _ => exact wl_X3_2
  | 3, _ => exact wl_X3_3
  | 4, _ => exact wl_X3_4
  | 5, _ => exact wl_X3_5
  | 6, _ => exact wl_X3_6
  | 7, _ => exact wl_X3_7
  | 8, _ => exact wl_X3_8
  | k + 9, h => exact absurd h (by omega)
set_option maxRecDepth 20000 in
theorem wl_X4_0 : (Cond.laysFinal RX4 "SwornLists$Reader" "marks" "[I") ∈ TT := tt_1 (List.mem_of_getElem? (i := 201) rfl) rfl
set_option maxRecDepth 20000 in
theorem wl_X4_1 : (Cond.lays RX4 "SwornLists$Reader" "markCount" "I") ∈ TT := tt_1 (List.mem_of_getElem? (i := 203) rfl) rfl
set_option maxRecDepth 20000 in
theorem wl_X4_2 : (Cond.lays RX4 "SwornLists$Reader" "open" "I") ∈ TT := tt_1 (List.mem_of_getElem? (i := 205) rfl) rfl
set_option maxRecDepth 20000 in
theorem wl_X4_3 : (Cond.lays RX4 "SwornLists$Reader" "compared" "I") ∈ TT := tt_1 (List.mem_of_getElem? (i := 207) rfl) rfl
set_option maxRecDepth 20000 in
theorem wl_X4_4 : (Cond.lays RX4 "SwornLists$Reader" "wantsUnit" "Z") ∈ TT := tt_1 (List.mem_of_getElem? (i := 209) rfl) rfl
theorem inlX4 : ∀ w ∈ wsX40, w ∈ TT := by
  intro w hw
  obtain ⟨k, hk, rfl⟩ := List.mem_map.mp hw
  have hk := List.mem_range.mp hk
  match k, hk with
  | 0, _ => exact wl_X4_0
  | 1, _ => exact wl_X4_1
  | 2, _ => exact wl_X4_2
  | 3, _ => exact wl_X4_3
  | 4, _ => exact wl_X4_4
  | k + 5, h => exact absurd h (by omega)
set_option maxRecDepth 20000 in
theorem wl_X5_0 : (Cond.laysFinal RX5 "SwornLists$Rows" "most" "I") ∈ TT := tt_1 (List.mem_of_getElem? (i := 46) rfl) rfl
set_option maxRecDepth 20000 in
theorem wl_X5_1 : (Cond.laysFinal RX5 "SwornLists$Rows" "width" "I") ∈ TT := tt_1 (List.mem_of_getElem? (i := 48) rfl) rfl
set_option maxRecDepth 20000 in
theorem wl_X5_2 : (Cond.laysFinal RX5 "SwornLists$Rows" "cells" "[I") ∈ TT := tt_1 (List.mem_of_getElem? (i := 50) rfl) rfl
set_option maxRecDepth 20000 in
theorem wl_X5_3 : (Cond.lays RX5 "SwornLists$Rows" "size" "I") ∈ TT := tt_1 (List.mem_of_getElem? (i := 52) rfl) rfl
theorem inlX5 : ∀ w ∈ wsX50, w ∈ TT := by
  intro w hw
  obtain ⟨k, hk, rfl⟩ := List.mem_map.mp hw
  have hk := List.mem_range.mp hk
  match k, hk with
  | 0, _ => exact wl_X5_0
  | 1, _ => exact wl_X5_1
  | 2, _ => exact wl_X5_2
  | 3, _ => exact wl_X5_3
  | k + 4, h => exact absurd h (by omega)
set_option maxRecDepth 20000 in
theorem wl_X6_0 : (Cond.laysFinal RX6 "SwornLists$Shelf" "texts" "[LSwornLists$Text;") ∈ TT := tt_1 (List.mem_of_getElem? (i := 84) rfl) rfl
set_option maxRecDepth 20000 in
theorem wl_X6_1 : (Cond.laysFinal RX6 "SwornLists$Shelf" "blank" "LSwornLists$Text;") ∈ TT := tt_1 (List.mem_of_getElem? (i := 86) rfl) rfl
theorem inlX6 : ∀ w ∈ wsX60, w ∈ TT := by
  intro w hw
  obtain ⟨k, hk, rfl⟩ := List.mem_map.mp hw
  have hk := List.mem_range.mp hk
  match k, hk with
  | 0, _ => exact wl_X6_0
  | 1, _ => exact wl_X6_1
  | k + 2, h => exact absurd h (by omega)
set_option maxRecDepth 20000 in
theorem wl_X8_0 : (Cond.laysFinal RX8 "SwornLists$Text" "signs" "[I") ∈ TT := tt_1 (List.mem_of_getElem? (i := 72) rfl) rfl
set_option maxRecDepth 20000 in
theorem wl_X8_1 : (Cond.laysFinal RX8 "SwornLists$Text" "steps" "[I") ∈ TT := tt_1 (List.mem_of_getElem? (i := 74) rfl) rfl
set_option maxRecDepth 20000 in
theorem wl_X8_2 : (Cond.lays RX8 "SwornLists$Text" "length" "I") ∈ TT := tt_1 (List.mem_of_getElem? (i := 76) rfl) rfl
set_option maxRecDepth 20000 in
theorem wl_X8_3 : (Cond.lays RX8 "SwornLists$Text" "stepCount" "I") ∈ TT := tt_1 (List.mem_of_getElem? (i := 78) rfl) rfl
theorem inlX8 : ∀ w ∈ wsX80, w ∈ TT := by
  intro w hw
  obtain ⟨k, hk, rfl⟩ := List.mem_map.mp hw
  have hk := List.mem_range.mp hk
  match k, hk with
  | 0, _ => exact wl_X8_0
  | 1, _ => exact wl_X8_1
  | 2, _ => exact wl_X8_2
  | 3, _ => exact wl_X8_3
  | k + 4, h => exact absurd h (by omega)
set_option maxRecDepth 20000 in
theorem wl_X9_0 : (Cond.laysFinal RX9 "SwornLists$Waits" "trials" "[I") ∈ TT := tt_2 (List.mem_of_getElem? (i := 1) rfl) rfl
set_option maxRecDepth 20000 in
theorem wl_X9_1 : (Cond.laysFinal RX9 "SwornLists$Waits" "waits" "[I") ∈ TT := tt_2 (List.mem_of_getElem? (i := 3) rfl) rfl
set_option maxRecDepth 20000 in
theorem wl_X9_2 : (Cond.laysFinal RX9 "SwornLists$Waits" "best" "[I") ∈ TT := tt_2 (List.mem_of_getElem? (i := 5) rfl) rfl
set_option maxRecDepth 20000 in
theorem wl_X9_3 : (Cond.laysFinal RX9 "SwornLists$Waits" "foes" "[I") ∈ TT := tt_2 (List.mem_of_getElem? (i := 7) rfl) rfl
set_option maxRecDepth 20000 in
theorem wl_X9_4 : (Cond.lays RX9 "SwornLists$Waits" "many" "I") ∈ TT := tt_2 (List.mem_of_getElem? (i := 9) rfl) rfl
set_option maxRecDepth 20000 in
theorem wl_X9_5 : (Cond.lays RX9 "SwornLists$Waits" "leastSum" "I") ∈ TT := tt_2 (List.mem_of_getElem? (i := 11) rfl) rfl
theorem inlX9 : ∀ w ∈ wsX90, w ∈ TT := by
  intro w hw
  obtain ⟨k, hk, rfl⟩ := List.mem_map.mp hw
  have hk := List.mem_range.mp hk
  match k, hk with
  | 0, _ => exact wl_X9_0
  | 1, _ => exact wl_X9_1
  | 2, _ => exact wl_X9_2
  | 3, _ => exact wl_X9_3
  | 4, _ => exact wl_X9_4
  | 5, _ => exact wl_X9_5
  | k + 6, h => exact absurd h (by omega)
set_option maxRecDepth 20000 in
theorem wl_X10_0 : (Cond.laysFinal RX10 "SwornLists" "court" "LSwornLists$Court;") ∈ TT := tt_2 (List.mem_of_getElem? (i := 22) rfl) rfl
set_option maxRecDepth 20000 in
theorem wl_X10_1 : (Cond.laysFinal RX10 "SwornLists" "book" "LSwornLists$Book;") ∈ TT := tt_2 (List.mem_of_getElem? (i := 24) rfl) rfl
set_option maxRecDepth 20000 in
theorem wl_X10_2 : (Cond.laysFinal RX10 "SwornLists" "images" "[LSwornLists$Book;") ∈ TT := tt_2 (List.mem_of_getElem? (i := 26) rfl) rfl
set_option maxRecDepth 20000 in
theorem wl_X10_3 : (Cond.laysFinal RX10 "SwornLists" "kept" "[Z") ∈ TT := tt_2 (List.mem_of_getElem? (i := 28) rfl) rfl
set_option maxRecDepth 20000 in
theorem wl_X10_4 : (Cond.laysFinal RX10 "SwornLists" "reader" "LSwornLists$Reader;") ∈ TT := tt_2 (List.mem_of_getElem? (i := 30) rfl) rfl
set_option maxRecDepth 20000 in
theorem wl_X10_5 : (Cond.laysFinal RX10 "SwornLists" "fraction" "LSwornLists$Fraction;") ∈ TT := tt_2 (List.mem_of_getElem? (i := 32) rfl) rfl
set_option maxRecDepth 20000 in
theorem wl_X10_6 : (Cond.laysFinal RX10 "SwornLists" "waits" "LSwornLists$Waits;") ∈ TT := tt_2 (List.mem_of_getElem? (i := 34) rfl) rfl
theorem inlX10 : ∀ w ∈ wsX100, w ∈ TT := by
  intro w hw
  obtain ⟨k, hk, rfl⟩ := List.mem_map.mp hw
  have hk := List.mem_range.mp hk
  match k, hk with
  | 0, _ => exact wl_X10_0
  | 1, _ => exact wl_X10_1
  | 2, _ => exact wl_X10_2
  | 3, _ => exact wl_X10_3
  | 4, _ => exact wl_X10_4
  | 5, _ => exact wl_X10_5
  | 6, _ => exact wl_X10_6
  | k + 7, h => exact absurd h (by omega)
set_option maxRecDepth 20000 in
theorem wl_X11_0 : (Cond.laysFinal RX11 "SwornListsModel" "st" "[I") ∈ TT := tt_4 (List.mem_of_getElem? (i := 117) rfl) rfl
set_option maxRecDepth 20000 in
theorem wl_X11_1 : (Cond.laysFinal RX11 "SwornListsModel" "images" "[I") ∈ TT := tt_4 (List.mem_of_getElem? (i := 119) rfl) rfl
set_option maxRecDepth 20000 in
theorem wl_X11_2 : (Cond.laysFinal RX11 "SwornListsModel" "isKept" "[Z") ∈ TT := tt_4 (List.mem_of_getElem? (i := 121) rfl) rfl
set_option maxRecDepth 20000 in
theorem wl_X11_3 : (Cond.lays RX11 "SwornListsModel" "above" "J") ∈ TT := tt_4 (List.mem_of_getElem? (i := 123) rfl) rfl
set_option maxRecDepth 20000 in
theorem wl_X11_4 : (Cond.lays RX11 "SwornListsModel" "below" "J") ∈ TT := tt_4 (List.mem_of_getElem? (i := 125) rfl) rfl
set_option maxRecDepth 20000 in
theorem wl_X11_5 : (Cond.lays RX11 "SwornListsModel" "steps" "I") ∈ TT := tt_4 (List.mem_of_getElem? (i := 127) rfl) rfl
set_option maxRecDepth 20000 in
theorem wl_X11_6 : (Cond.laysFinal RX11 "SwornListsModel" "step" "[I") ∈ TT := tt_4 (List.mem_of_getElem? (i := 129) rfl) rfl
set_option maxRecDepth 20000 in
theorem wl_X11_7 : (Cond.laysFinal RX11 "SwornListsModel" "with" "[I") ∈ TT := tt_4 (List.mem_of_getElem? (i := 131) rfl) rfl
set_option maxRecDepth 20000 in
theorem wl_X11_8 : (Cond.lays RX11 "SwornListsModel" "waiting" "I") ∈ TT := tt_4 (List.mem_of_getElem? (i := 133) rfl) rfl
set_option maxRecDepth 20000 in
theorem wl_X11_9 : (Cond.laysFinal RX11 "SwornListsModel" "waits" "[I") ∈ TT := tt_4 (List.mem_of_getElem? (i := 135) rfl) rfl
set_option maxRecDepth 20000 in
theorem wl_X11_10 : (Cond.laysFinal RX11 "SwornListsModel" "value" "[J") ∈ TT := tt_4 (List.mem_of_getElem? (i := 137) rfl) rfl
set_option maxRecDepth 20000 in
theorem wl_X11_11 : (Cond.lays RX11 "SwornListsModel" "sat" "I") ∈ TT := tt_4 (List.mem_of_getElem? (i := 139) rfl) rfl
set_option maxRecDepth 20000 in
theorem wl_X11_12 : (Cond.lays RX11 "SwornListsModel" "lastYear" "I") ∈ TT := tt_4 (List.mem_of_getElem? (i := 141) rfl) rfl
set_option maxRecDepth 20000 in
theorem wl_X11_13 : (Cond.lays RX11 "SwornListsModel" "isReady" "Z") ∈ TT := tt_4 (List.mem_of_getElem? (i := 143) rfl) rfl
set_option maxRecDepth 20000 in
theorem wl_X11_14 : (Cond.lays RX11 "SwornListsModel" "found" "I") ∈ TT := tt_4 (List.mem_of_getElem? (i := 145) rfl) rfl
set_option maxRecDepth 20000 in
theorem wl_X11_15 : (Cond.laysFinal RX11 "SwornListsModel" "boxes" "[I") ∈ TT := tt_4 (List.mem_of_getElem? (i := 147) rfl) rfl
set_option maxRecDepth 20000 in
theorem wl_X11_16 : (Cond.laysFinal RX11 "SwornListsModel" "juries" "[I") ∈ TT := tt_4 (List.mem_of_getElem? (i := 149) rfl) rfl
set_option maxRecDepth 20000 in
theorem wl_X11_17 : (Cond.laysFinal RX11 "SwornListsModel" "drew" "[I") ∈ TT := tt_4 (List.mem_of_getElem? (i := 151) rfl) rfl
set_option maxRecDepth 20000 in
theorem wl_X11_18 : (Cond.laysFinal RX11 "SwornListsModel" "drews" "[I") ∈ TT := tt_4 (List.mem_of_getElem? (i := 153) rfl) rfl
set_option maxRecDepth 20000 in
theorem wl_X11_19 : (Cond.laysFinal RX11 "SwornListsModel" "slips" "[I") ∈ TT := tt_4 (List.mem_of_getElem? (i := 155) rfl) rfl
set_option maxRecDepth 20000 in
theorem wl_X11_20 : (Cond.laysFinal RX11 "SwornListsModel" "abouts" "[I") ∈ TT := tt_4 (List.mem_of_getElem? (i := 157) rfl) rfl
set_option maxRecDepth 20000 in
theorem wl_X11_21 : (Cond.laysFinal RX11 "SwornListsModel" "left" "[I") ∈ TT := tt_4 (List.mem_of_getElem? (i := 159) rfl) rfl
set_option maxRecDepth 20000 in
theorem wl_X11_22 : (Cond.laysFinal RX11 "SwornListsModel" "which" "[I") ∈ TT := tt_4 (List.mem_of_getElem? (i := 161) rfl) rfl
set_option maxRecDepth 20000 in
theorem wl_X11_23 : (Cond.laysFinal RX11 "SwornListsModel" "waits6" "[I") ∈ TT := tt_4 (List.mem_of_getElem? (i := 163) rfl) rfl
set_option maxRecDepth 20000 in
theorem wl_X11_24 : (Cond.laysFinal RX11 "SwornListsModel" "best" "[I") ∈ TT := tt_4 (List.mem_of_getElem? (i := 165) rfl) rfl
theorem inlX11 : ∀ w ∈ wsX110, w ∈ TT := by
  intro w hw
  obtain ⟨k, hk, rfl⟩ := List.mem_map.mp hw
  have hk := List.mem_range.mp hk
  match k, hk with
  | 0, _ => exact wl_X11_0
  | 1, _ => exact wl_X11_1
  | 2, _ => exact wl_X11_2
  | 3, _ => exact wl_X11_3
  | 4, _ => exact wl_X11_4
  | 5, _ => exact wl_X11_5
  | 6, _ => exact wl_X11_6
  | 7, _ => exact wl_X11_7
  | 8, _ => exact wl_X11_8
  | 9, _ => exact wl_X11_9
  | 10, _ => exact wl_X11_10
  | 11, _ => exact wl_X11_11
  | 12, _ => exact wl_X11_12
  | 13, _ => exact wl_X11_13
  | 14, _ => exact wl_X11_14
  | 15, _ => exact wl_X11_15
  | 16, _ => exact wl_X11_16
  | 17, _ => exact wl_X11_17
  | 18, _ => exact wl_X11_18
  | 19, _ => exact wl_X11_19
  | 20, _ => exact wl_X11_20
  | 21, _ => exact wl_X11_21
  | 22, _ => exact wl_X11_22
  | 23, _ => exact wl_X11_23
  | 24, _ => exact wl_X11_24
  | k + 25, h => exact absurd h (by omega)


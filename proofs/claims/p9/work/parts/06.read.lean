theorem ok_X7_rank : okS yX7_rank cX7_rank 1 (some .int) 1 := ⟨⟨w_338, w_337, ⟨by decide +kernel, by decide +kernel, by decide +kernel⟩⟩, trivial, w_336, trivial⟩
theorem ok_X7_turned : okS yX7_turned cX7_turned 3 (some .long) 2 := ⟨⟨w_457, w_337, ⟨by decide +kernel, by decide +kernel, by decide +kernel⟩⟩, trivial, w_456, trivial⟩
theorem ok_X7_joined : okS yX7_joined cX7_joined 5 (some .long) 3 := ⟨⟨w_463, w_337, ⟨by decide +kernel, by decide +kernel, by decide +kernel⟩⟩, trivial, w_462, trivial⟩
theorem ok_X7_truth : okS yX7_truth cX7_truth 1 (some .long) 1 := ⟨⟨w_460, w_337, ⟨by decide +kernel, by decide +kernel, by decide +kernel⟩⟩, trivial, w_459, trivial⟩
theorem ok_X4_isDigit : okS yX4_isDigit cX4_isDigit 1 (some .boolean) 1 := ⟨⟨w_304, w_23, ⟨by decide +kernel, by decide +kernel, by decide +kernel⟩⟩, trivial, w_303, trivial⟩
theorem ok_X4_digitsEnd : okS yX4_digitsEnd cX4_digitsEnd 3 (some .int) 2 := ⟨⟨w_307, w_23, ⟨by decide +kernel, by decide +kernel, by decide +kernel⟩⟩, trivial, w_306, trivial⟩
theorem ok_X4_numberIn : okS yX4_numberIn cX4_numberIn 5 (some .int) 3 := ⟨⟨w_310, w_23, ⟨by decide +kernel, by decide +kernel, by decide +kernel⟩⟩, trivial, w_309, trivial⟩
theorem ok_X4_startsUnit : okV yX4_startsUnit cX4_startsUnit 3 (some .boolean) 2 := ⟨⟨w_318, w_23, ⟨by decide +kernel, by decide +kernel, by decide +kernel⟩⟩, trivial, w_316, w_317⟩
theorem ok_X4_goesOn : okV yX4_goesOn cX4_goesOn 5 (some .boolean) 2 := ⟨⟨w_326, w_23, ⟨by decide +kernel, by decide +kernel, by decide +kernel⟩⟩, trivial, w_324, w_325⟩
theorem ok_X4_closes : okV yX4_closes cX4_closes 2 (some .boolean) 1 := ⟨⟨w_330, w_23, ⟨by decide +kernel, by decide +kernel, by decide +kernel⟩⟩, trivial, w_328, w_329⟩
theorem ok_X4_hold : okV yX4_hold cX4_hold 2 none 1 := ⟨⟨w_322, w_23, ⟨by decide +kernel, by decide +kernel, by decide +kernel⟩⟩, trivial, w_320, w_321⟩
theorem ok_X4_release : okV yX4_release cX4_release 3 none 2 := ⟨⟨w_334, w_23, ⟨by decide +kernel, by decide +kernel, by decide +kernel⟩⟩, trivial, w_332, w_333⟩
theorem ok_X4_read : okV yX4_read cX4_read 5 (some .int) 1 := ⟨⟨w_281, w_23, ⟨by decide +kernel, by decide +kernel, by decide +kernel⟩⟩, trivial, w_279, w_280⟩
set_option maxHeartbeats 4000000 in
set_option maxRecDepth 100000 in
theorem g_rank (l : Launch) (G : gW) (g : Nat → Nat) (hg : gOK g) (f : Nat → va_E) (n : Int32)   : Met l yX7_rank (wsT yX7_rank cX7_rank 1 (some .int)) ({ frames := 0, cells := 0, slots := 0, locals := 0 }) (bP G g f [.int n]) (rQi (fun z9 => True)) 0 0 fr0 := by
  refine Met.ofW (cc := cX7_rank) (maxL := 1) (ret := (some .int)) (by decide) rfl ?_
  intro p e s m args below meth c s₁ B hml hv
  obtain ⟨rfl, hP, hG⟩ := hv
  have hx := B.exec
  have hb := B.bytes
  have hr := B.returns
  have hts := my_hts (atoms_spec (ws := wsT yX7_rank cX7_rank 1 (some .int)) B.pre)
  have hown : s.vm.findClass RX7 = some m.cls := findClass_of_methodNamed B.named
  have hlocks := B.notSynchronized
  have hl := lv_entry ([.int n]) (n := 1) (Nat.le_of_ble_eq_true rfl)
  rw [lg_entry_eq]
  generalize (lg_sl ([.int n]) ++ List.replicate (1 - (lg_sl ([.int n])).length) Slot.unset).toArray = ls at hl ⊢
  have hl : lv_has ls 1 [(0, .int n)] := hl
  refine lv_iload_n hx hb dX7_rank_0 rfl (lv_at hl 0 rfl) ?_
  by_cases e_33 : n = 33
  · refine my_bei e_33 ?_
    refine lv_lookup (off := 109) (tgt := 110) hx hb dX7_rank_1 (by decide) (by decide) (by decide) ?_
    refine lv_bipush (v := 6) hx hb dX7_rank_110 (by decide) ?_
    exact W.iret (v := 6) hx hb hr (fun t ht hW => ⟨_, rfl, (trivial), ht⟩) (fun _ h => absurd h List.not_mem_nil) dX7_rank_112
  by_cases e_38 : n = 38
  · refine my_bei e_38 ?_
    refine lv_lookup (off := 101) (tgt := 102) hx hb dX7_rank_1 (by decide) (by decide) (by decide) ?_
    refine lv_iconst (v := 2) hx hb dX7_rank_102 (by decide) ?_
    exact W.iret (v := 2) hx hb hr (fun t ht hW => ⟨_, rfl, (trivial), ht⟩) (fun _ h => absurd h List.not_mem_nil) dX7_rank_103
  by_cases e_42 : n = 42
  · refine my_bei e_42 ?_
    refine lv_lookup (off := 107) (tgt := 108) hx hb dX7_rank_1 (by decide) (by decide) (by decide) ?_
    refine lv_iconst (v := 5) hx hb dX7_rank_108 (by decide) ?_
    exact W.iret (v := 5) hx hb hr (fun t ht hW => ⟨_, rfl, (trivial), ht⟩) (fun _ h => absurd h List.not_mem_nil) dX7_rank_109
  by_cases e_43 : n = 43
  · refine my_bei e_43 ?_
    refine lv_lookup (off := 105) (tgt := 106) hx hb dX7_rank_1 (by decide) (by decide) (by decide) ?_
    refine lv_iconst (v := 4) hx hb dX7_rank_106 (by decide) ?_
    exact W.iret (v := 4) hx hb hr (fun t ht hW => ⟨_, rfl, (trivial), ht⟩) (fun _ h => absurd h List.not_mem_nil) dX7_rank_107
  by_cases e_45 : n = 45
  · refine my_bei e_45 ?_
    refine lv_lookup (off := 105) (tgt := 106) hx hb dX7_rank_1 (by decide) (by decide) (by decide) ?_
    refine lv_iconst (v := 4) hx hb dX7_rank_106 (by decide) ?_
    exact W.iret (v := 4) hx hb hr (fun t ht hW => ⟨_, rfl, (trivial), ht⟩) (fun _ h => absurd h List.not_mem_nil) dX7_rank_107
  by_cases e_47 : n = 47
  · refine my_bei e_47 ?_
    refine lv_lookup (off := 107) (tgt := 108) hx hb dX7_rank_1 (by decide) (by decide) (by decide) ?_
    refine lv_iconst (v := 5) hx hb dX7_rank_108 (by decide) ?_
    exact W.iret (v := 5) hx hb hr (fun t ht hW => ⟨_, rfl, (trivial), ht⟩) (fun _ h => absurd h List.not_mem_nil) dX7_rank_109
  by_cases e_60 : n = 60
  · refine my_bei e_60 ?_
    refine lv_lookup (off := 103) (tgt := 104) hx hb dX7_rank_1 (by decide) (by decide) (by decide) ?_
    refine lv_iconst (v := 3) hx hb dX7_rank_104 (by decide) ?_
    exact W.iret (v := 3) hx hb hr (fun t ht hW => ⟨_, rfl, (trivial), ht⟩) (fun _ h => absurd h List.not_mem_nil) dX7_rank_105
  by_cases e_61 : n = 61
  · refine my_bei e_61 ?_
    refine lv_lookup (off := 103) (tgt := 104) hx hb dX7_rank_1 (by decide) (by decide) (by decide) ?_
    refine lv_iconst (v := 3) hx hb dX7_rank_104 (by decide) ?_
    exact W.iret (v := 3) hx hb hr (fun t ht hW => ⟨_, rfl, (trivial), ht⟩) (fun _ h => absurd h List.not_mem_nil) dX7_rank_105
  by_cases e_62 : n = 62
  · refine my_bei e_62 ?_
    refine lv_lookup (off := 103) (tgt := 104) hx hb dX7_rank_1 (by decide) (by decide) (by decide) ?_
    refine lv_iconst (v := 3) hx hb dX7_rank_104 (by decide) ?_
    exact W.iret (v := 3) hx hb hr (fun t ht hW => ⟨_, rfl, (trivial), ht⟩) (fun _ h => absurd h List.not_mem_nil) dX7_rank_105
  by_cases e_124 : n = 124
  · refine my_bei e_124 ?_
    refine lv_lookup (off := 99) (tgt := 100) hx hb dX7_rank_1 (by decide) (by decide) (by decide) ?_
    refine lv_iconst (v := 1) hx hb dX7_rank_100 (by decide) ?_
    exact W.iret (v := 1) hx hb hr (fun t ht hW => ⟨_, rfl, (trivial), ht⟩) (fun _ h => absurd h List.not_mem_nil) dX7_rank_101
  by_cases e_126 : n = 126
  · refine my_bei e_126 ?_
    refine lv_lookup (off := 109) (tgt := 110) hx hb dX7_rank_1 (by decide) (by decide) (by decide) ?_
    refine lv_bipush (v := 6) hx hb dX7_rank_110 (by decide) ?_
    exact W.iret (v := 6) hx hb hr (fun t ht hW => ⟨_, rfl, (trivial), ht⟩) (fun _ h => absurd h List.not_mem_nil) dX7_rank_112
  refine lv_lookup (off := 112) (tgt := 113) hx hb dX7_rank_1 (by decide) (by show Op.lookupswitch.offset [(33, 109), (38, 101), (42, 107), (43, 105), (45, 105), (47, 107), (60, 103), (61, 103), (62, 103), (124, 99), (126, 109)] 112 _ = 112; rw [lv_osw (a := 33) e_33 (by decide), lv_osw (a := 38) e_38 (by decide), lv_osw (a := 42) e_42 (by decide), lv_osw (a := 43) e_43 (by decide), lv_osw (a := 45) e_45 (by decide), lv_osw (a := 47) e_47 (by decide), lv_osw (a := 60) e_60 (by decide), lv_osw (a := 61) e_61 (by decide), lv_osw (a := 62) e_62 (by decide), lv_osw (a := 124) e_124 (by decide), lv_osw (a := 126) e_126 (by decide)]; rfl) (by decide) ?_
  refine lv_iconst (v := 0) hx hb dX7_rank_113 (by decide) ?_
  exact W.iret (v := 0) hx hb hr (fun t ht hW => ⟨_, rfl, (trivial), ht⟩) (fun _ h => absurd h List.not_mem_nil) dX7_rank_114
set_option maxHeartbeats 4000000 in
set_option maxRecDepth 100000 in
theorem g_truth (l : Launch) (G : gW) (g : Nat → Nat) (hg : gOK g) (f : Nat → va_E) (n : Int32)   : Met l yX7_truth (wsT yX7_truth cX7_truth 1 (some .long)) ({ frames := 0, cells := 0, slots := 0, locals := 0 }) (bP G g f [.int n]) (rQl (fun z9 => True)) 0 0 fr0 := by
  refine Met.ofW (cc := cX7_truth) (maxL := 1) (ret := (some .long)) (by decide) rfl ?_
  intro p e s m args below meth c s₁ B hml hv
  obtain ⟨rfl, hP, hG⟩ := hv
  have hx := B.exec
  have hb := B.bytes
  have hr := B.returns
  have hts := my_hts (atoms_spec (ws := wsT yX7_truth cX7_truth 1 (some .long)) B.pre)
  have hown : s.vm.findClass RX7 = some m.cls := findClass_of_methodNamed B.named
  have hlocks := B.notSynchronized
  have hl := lv_entry ([.int n]) (n := 1) (Nat.le_of_ble_eq_true rfl)
  rw [lg_entry_eq]
  generalize (lg_sl ([.int n]) ++ List.replicate (1 - (lg_sl ([.int n])).length) Slot.unset).toArray = ls at hl ⊢
  have hl : lv_has ls 1 [(0, .int n)] := hl
  refine lv_iload_n hx hb dX7_truth_0 rfl (lv_at hl 0 rfl) ?_
  refine lv_if_eq (tgt := 8) hx hb dX7_truth_1 (by decide) (fun c_1 => ?_) (fun c_1 => ?_)
  · refine lv_lconst (v := 0) hx hb dX7_truth_8 (by decide) ?_
    exact W.lret (v := 0) hx hb hr (fun t ht hW => ⟨_, rfl, (trivial), ht⟩) (fun _ h => absurd h List.not_mem_nil) dX7_truth_9
  · refine lv_lconst (v := 1) hx hb dX7_truth_4 (by decide) ?_
    refine lv_goto (tgt := 9) hx hb dX7_truth_5 (by decide) ?_
    exact W.lret (v := 1) hx hb hr (fun t ht hW => ⟨_, rfl, (trivial), ht⟩) (fun _ h => absurd h List.not_mem_nil) dX7_truth_9
set_option maxHeartbeats 4000000 in
set_option maxRecDepth 100000 in
theorem g_turned (l : Launch) (G : gW) (g : Nat → Nat) (hg : gOK g) (f : Nat → va_E) (n : Int32) (u : Int64)   : Met l yX7_turned (wsT yX7_turned cX7_turned 3 (some .long)) ({ frames := 1, cells := 0, slots := 0, locals := 20 }) (bP G g f [.int n, .long u]) (rQl (fun z9 => True)) 0 0 fr0 := by
  refine Met.ofW (cc := cX7_turned) (maxL := 3) (ret := (some .long)) (by decide) rfl ?_
  intro p e s m args below meth c s₁ B hml hv
  obtain ⟨rfl, hP, hG⟩ := hv
  have hx := B.exec
  have hb := B.bytes
  have hr := B.returns
  have hts := my_hts (atoms_spec (ws := wsT yX7_turned cX7_turned 3 (some .long)) B.pre)
  have hown : s.vm.findClass RX7 = some m.cls := findClass_of_methodNamed B.named
  have hlocks := B.notSynchronized
  have hl := lv_entry ([.int n, .long u]) (n := 3) (Nat.le_of_ble_eq_true rfl)
  rw [lg_entry_eq]
  generalize (lg_sl ([.int n, .long u]) ++ List.replicate (3 - (lg_sl ([.int n, .long u])).length) Slot.unset).toArray = ls at hl ⊢
  have hl : lv_has ls 3 [(0, .int n), (1, .long u)] := hl
  refine lv_iload_n hx hb dX7_turned_0 rfl (lv_at hl 0 rfl) ?_
  refine lv_bipush (v := 33) hx hb dX7_turned_1 (by decide) ?_
  refine lv_icmp_ne (tgt := 23) hx hb dX7_turned_3 (by decide) (fun c_3 => ?_) (fun c_3 => ?_)
  · refine lv_lload_n hx hb dX7_turned_23 rfl (lv_at hl 1 rfl) ?_
    refine lv_lneg hx hb dX7_turned_24 ?_
    exact W.lret (v := -u) hx hb hr (fun t ht hW => ⟨_, rfl, (trivial), ht⟩) (fun _ h => absurd h List.not_mem_nil) dX7_turned_25
  · refine lv_lload_n hx hb dX7_turned_6 rfl (lv_at hl 1 rfl) ?_
    refine lv_lconst (v := 0) hx hb dX7_turned_7 (by decide) ?_
    refine W.lcmp hx hb dX7_turned_8 ?_
    refine lv_if_ne (tgt := 16) hx hb dX7_turned_9 (by decide) (fun c_9 => ?_) (fun c_9 => ?_)
    · refine lv_iconst (v := 0) hx hb dX7_turned_16 (by decide) ?_
      refine rd_calll (va_runS (As := [.int 0]) (rest := []) ⟨hx, hb, hml, hown, hts⟩ (g_truth l G g hg f 0  ) (my_cwS hts ok_X7_truth w_458 rfl rfl ⟨Nat.le_of_ble_eq_true rfl, Nat.le_of_ble_eq_true rfl⟩) ⟨bP.blind, fun U hU hW => ⟨rfl, by rw [hU]; exact hP, kG.warm hW hG⟩⟩ rfl rfl hl.1 rfl (lv_room (Nat.le_of_ble_eq_true rfl)) dX7_turned_17 ⟨Nat.le_of_ble_eq_true rfl, Nat.le_of_ble_eq_true rfl⟩) (fun v1 _ => ?_)
      refine lv_goto (tgt := 25) hx hb dX7_turned_20 (by decide) ?_
      exact W.lret (v := v1) hx hb hr (fun t ht hW => ⟨_, rfl, (trivial), ht⟩) (fun _ h => absurd h List.not_mem_nil) dX7_turned_25
    · refine lv_iconst (v := 1) hx hb dX7_turned_12 (by decide) ?_
      refine lv_goto (tgt := 17) hx hb dX7_turned_13 (by decide) ?_
      refine rd_calll (va_runS (As := [.int 1]) (rest := []) ⟨hx, hb, hml, hown, hts⟩ (g_truth l G g hg f 1  ) (my_cwS hts ok_X7_truth w_458 rfl rfl ⟨Nat.le_of_ble_eq_true rfl, Nat.le_of_ble_eq_true rfl⟩) ⟨bP.blind, fun U hU hW => ⟨rfl, by rw [hU]; exact hP, kG.warm hW hG⟩⟩ rfl rfl hl.1 rfl (lv_room (Nat.le_of_ble_eq_true rfl)) dX7_turned_17 ⟨Nat.le_of_ble_eq_true rfl, Nat.le_of_ble_eq_true rfl⟩) (fun v2 _ => ?_)
      refine lv_goto (tgt := 25) hx hb dX7_turned_20 (by decide) ?_
      exact W.lret (v := v2) hx hb hr (fun t ht hW => ⟨_, rfl, (trivial), ht⟩) (fun _ h => absurd h List.not_mem_nil) dX7_turned_25
set_option maxHeartbeats 4000000 in
set_option maxRecDepth 100000 in
theorem g_joined (l : Launch) (G : gW) (g : Nat → Nat) (hg : gOK g) (f : Nat → va_E) (n : Int32) (u : Int64) (v : Int64)   : Met l yX7_joined (wsT yX7_joined cX7_joined 5 (some .long)) ({ frames := 1, cells := 0, slots := 0, locals := 20 }) (bP G g f [.int n, .long u, .long v]) (rQl (fun z9 => True)) 0 0 fr0 := by
  refine Met.ofW (cc := cX7_joined) (maxL := 5) (ret := (some .long)) (by decide) rfl ?_
  intro p e s m args below meth c s₁ B hml hv
  obtain ⟨rfl, hP, hG⟩ := hv
  have hx := B.exec
  have hb := B.bytes
  have hr := B.returns
  have hts := my_hts (atoms_spec (ws := wsT yX7_joined cX7_joined 5 (some .long)) B.pre)
  have hown : s.vm.findClass RX7 = some m.cls := findClass_of_methodNamed B.named
  have hlocks := B.notSynchronized
  have hl := lv_entry ([.int n, .long u, .long v]) (n := 5) (Nat.le_of_ble_eq_true rfl)
  rw [lg_entry_eq]
  generalize (lg_sl ([.int n, .long u, .long v]) ++ List.replicate (5 - (lg_sl ([.int n, .long u, .long v])).length) Slot.unset).toArray = ls at hl ⊢
  have hl : lv_has ls 5 [(0, .int n), (1, .long u), (3, .long v)] := hl
  refine lv_iload_n hx hb dX7_joined_0 rfl (lv_at hl 0 rfl) ?_
  by_cases e_38 : n = 38
  · refine my_bei e_38 ?_
    refine lv_lookup (off := 96) (tgt := 97) hx hb dX7_joined_1 (by decide) (by decide) (by decide) ?_
    refine lv_lload_n hx hb dX7_joined_97 rfl (lv_at hl 1 rfl) ?_
    refine lv_lconst (v := 0) hx hb dX7_joined_98 (by decide) ?_
    refine W.lcmp hx hb dX7_joined_99 ?_
    refine lv_if_eq (tgt := 113) hx hb dX7_joined_100 (by decide) (fun c_100 => ?_) (fun c_100 => ?_)
    · refine lv_iconst (v := 0) hx hb dX7_joined_113 (by decide) ?_
      refine rd_calll (va_runS (As := [.int 0]) (rest := []) ⟨hx, hb, hml, hown, hts⟩ (g_truth l G g hg f 0  ) (my_cwS hts ok_X7_truth w_458 rfl rfl ⟨Nat.le_of_ble_eq_true rfl, Nat.le_of_ble_eq_true rfl⟩) ⟨bP.blind, fun U hU hW => ⟨rfl, by rw [hU]; exact hP, kG.warm hW hG⟩⟩ rfl rfl hl.1 rfl (lv_room (Nat.le_of_ble_eq_true rfl)) dX7_joined_114 ⟨Nat.le_of_ble_eq_true rfl, Nat.le_of_ble_eq_true rfl⟩) (fun v1 _ => ?_)
      exact W.lret (v := v1) hx hb hr (fun t ht hW => ⟨_, rfl, (trivial), ht⟩) (fun _ h => absurd h List.not_mem_nil) dX7_joined_117
    · refine lv_lload_n hx hb dX7_joined_103 rfl (lv_at hl 2 rfl) ?_
      refine lv_lconst (v := 0) hx hb dX7_joined_104 (by decide) ?_
      refine W.lcmp hx hb dX7_joined_105 ?_
      refine lv_if_eq (tgt := 113) hx hb dX7_joined_106 (by decide) (fun c_106 => ?_) (fun c_106 => ?_)
      · refine lv_iconst (v := 0) hx hb dX7_joined_113 (by decide) ?_
        refine rd_calll (va_runS (As := [.int 0]) (rest := []) ⟨hx, hb, hml, hown, hts⟩ (g_truth l G g hg f 0  ) (my_cwS hts ok_X7_truth w_458 rfl rfl ⟨Nat.le_of_ble_eq_true rfl, Nat.le_of_ble_eq_true rfl⟩) ⟨bP.blind, fun U hU hW => ⟨rfl, by rw [hU]; exact hP, kG.warm hW hG⟩⟩ rfl rfl hl.1 rfl (lv_room (Nat.le_of_ble_eq_true rfl)) dX7_joined_114 ⟨Nat.le_of_ble_eq_true rfl, Nat.le_of_ble_eq_true rfl⟩) (fun v2 _ => ?_)
        exact W.lret (v := v2) hx hb hr (fun t ht hW => ⟨_, rfl, (trivial), ht⟩) (fun _ h => absurd h List.not_mem_nil) dX7_joined_117
      · refine lv_iconst (v := 1) hx hb dX7_joined_109 (by decide) ?_
        refine lv_goto (tgt := 114) hx hb dX7_joined_110 (by decide) ?_
        refine rd_calll (va_runS (As := [.int 1]) (rest := []) ⟨hx, hb, hml, hown, hts⟩ (g_truth l G g hg f 1  ) (my_cwS hts ok_X7_truth w_458 rfl rfl ⟨Nat.le_of_ble_eq_true rfl, Nat.le_of_ble_eq_true rfl⟩) ⟨bP.blind, fun U hU hW => ⟨rfl, by rw [hU]; exact hP, kG.warm hW hG⟩⟩ rfl rfl hl.1 rfl (lv_room (Nat.le_of_ble_eq_true rfl)) dX7_joined_114 ⟨Nat.le_of_ble_eq_true rfl, Nat.le_of_ble_eq_true rfl⟩) (fun v3 _ => ?_)
        exact W.lret (v := v3) hx hb hr (fun t ht hW => ⟨_, rfl, (trivial), ht⟩) (fun _ h => absurd h List.not_mem_nil) dX7_joined_117
  by_cases e_42 : n = 42
  · refine my_bei e_42 ?_
    refine lv_lookup (off := 170) (tgt := 171) hx hb dX7_joined_1 (by decide) (by decide) (by decide) ?_
    refine lv_lload_n hx hb dX7_joined_171 rfl (lv_at hl 1 rfl) ?_
    refine lv_lload_n hx hb dX7_joined_172 rfl (lv_at hl 2 rfl) ?_
    refine lv_lmul hx hb dX7_joined_173 ?_
    exact W.lret (v := u * v) hx hb hr (fun t ht hW => ⟨_, rfl, (trivial), ht⟩) (fun _ h => absurd h List.not_mem_nil) dX7_joined_174
  by_cases e_43 : n = 43
  · refine my_bei e_43 ?_
    refine lv_lookup (off := 162) (tgt := 163) hx hb dX7_joined_1 (by decide) (by decide) (by decide) ?_
    refine lv_lload_n hx hb dX7_joined_163 rfl (lv_at hl 1 rfl) ?_
    refine lv_lload_n hx hb dX7_joined_164 rfl (lv_at hl 2 rfl) ?_
    refine lv_ladd hx hb dX7_joined_165 ?_
    exact W.lret (v := u + v) hx hb hr (fun t ht hW => ⟨_, rfl, (trivial), ht⟩) (fun _ h => absurd h List.not_mem_nil) dX7_joined_166
  by_cases e_45 : n = 45
  · refine my_bei e_45 ?_
    refine lv_lookup (off := 166) (tgt := 167) hx hb dX7_joined_1 (by decide) (by decide) (by decide) ?_
    refine lv_lload_n hx hb dX7_joined_167 rfl (lv_at hl 1 rfl) ?_
    refine lv_lload_n hx hb dX7_joined_168 rfl (lv_at hl 2 rfl) ?_
    refine lv_lsub hx hb dX7_joined_169 ?_
    exact W.lret (v := u - v) hx hb hr (fun t ht hW => ⟨_, rfl, (trivial), ht⟩) (fun _ h => absurd h List.not_mem_nil) dX7_joined_170
  by_cases e_60 : n = 60
  · refine my_bei e_60 ?_
    refine lv_lookup (off := 117) (tgt := 118) hx hb dX7_joined_1 (by decide) (by decide) (by decide) ?_
    refine lv_lload_n hx hb dX7_joined_118 rfl (lv_at hl 1 rfl) ?_
    refine lv_lload_n hx hb dX7_joined_119 rfl (lv_at hl 2 rfl) ?_
    refine W.lcmp hx hb dX7_joined_120 ?_
    refine lv_if_ge (tgt := 128) hx hb dX7_joined_121 (by decide) (fun c_121 => ?_) (fun c_121 => ?_)
    · refine lv_iconst (v := 0) hx hb dX7_joined_128 (by decide) ?_
      refine rd_calll (va_runS (As := [.int 0]) (rest := []) ⟨hx, hb, hml, hown, hts⟩ (g_truth l G g hg f 0  ) (my_cwS hts ok_X7_truth w_458 rfl rfl ⟨Nat.le_of_ble_eq_true rfl, Nat.le_of_ble_eq_true rfl⟩) ⟨bP.blind, fun U hU hW => ⟨rfl, by rw [hU]; exact hP, kG.warm hW hG⟩⟩ rfl rfl hl.1 rfl (lv_room (Nat.le_of_ble_eq_true rfl)) dX7_joined_129 ⟨Nat.le_of_ble_eq_true rfl, Nat.le_of_ble_eq_true rfl⟩) (fun v4 _ => ?_)
      exact W.lret (v := v4) hx hb hr (fun t ht hW => ⟨_, rfl, (trivial), ht⟩) (fun _ h => absurd h List.not_mem_nil) dX7_joined_132
    · refine lv_iconst (v := 1) hx hb dX7_joined_124 (by decide) ?_
      refine lv_goto (tgt := 129) hx hb dX7_joined_125 (by decide) ?_
      refine rd_calll (va_runS (As := [.int 1]) (rest := []) ⟨hx, hb, hml, hown, hts⟩ (g_truth l G g hg f 1  ) (my_cwS hts ok_X7_truth w_458 rfl rfl ⟨Nat.le_of_ble_eq_true rfl, Nat.le_of_ble_eq_true rfl⟩) ⟨bP.blind, fun U hU hW => ⟨rfl, by rw [hU]; exact hP, kG.warm hW hG⟩⟩ rfl rfl hl.1 rfl (lv_room (Nat.le_of_ble_eq_true rfl)) dX7_joined_129 ⟨Nat.le_of_ble_eq_true rfl, Nat.le_of_ble_eq_true rfl⟩) (fun v5 _ => ?_)
      exact W.lret (v := v5) hx hb hr (fun t ht hW => ⟨_, rfl, (trivial), ht⟩) (fun _ h => absurd h List.not_mem_nil) dX7_joined_132
  by_cases e_61 : n = 61
  · refine my_bei e_61 ?_
    refine lv_lookup (off := 147) (tgt := 148) hx hb dX7_joined_1 (by decide) (by decide) (by decide) ?_
    refine lv_lload_n hx hb dX7_joined_148 rfl (lv_at hl 1 rfl) ?_
    refine lv_lload_n hx hb dX7_joined_149 rfl (lv_at hl 2 rfl) ?_
    refine W.lcmp hx hb dX7_joined_150 ?_
    refine lv_if_ne (tgt := 158) hx hb dX7_joined_151 (by decide) (fun c_151 => ?_) (fun c_151 => ?_)
    · refine lv_iconst (v := 0) hx hb dX7_joined_158 (by decide) ?_
      refine rd_calll (va_runS (As := [.int 0]) (rest := []) ⟨hx, hb, hml, hown, hts⟩ (g_truth l G g hg f 0  ) (my_cwS hts ok_X7_truth w_458 rfl rfl ⟨Nat.le_of_ble_eq_true rfl, Nat.le_of_ble_eq_true rfl⟩) ⟨bP.blind, fun U hU hW => ⟨rfl, by rw [hU]; exact hP, kG.warm hW hG⟩⟩ rfl rfl hl.1 rfl (lv_room (Nat.le_of_ble_eq_true rfl)) dX7_joined_159 ⟨Nat.le_of_ble_eq_true rfl, Nat.le_of_ble_eq_true rfl⟩) (fun v6 _ => ?_)
      exact W.lret (v := v6) hx hb hr (fun t ht hW => ⟨_, rfl, (trivial), ht⟩) (fun _ h => absurd h List.not_mem_nil) dX7_joined_162
    · refine lv_iconst (v := 1) hx hb dX7_joined_154 (by decide) ?_
      refine lv_goto (tgt := 159) hx hb dX7_joined_155 (by decide) ?_
      refine rd_calll (va_runS (As := [.int 1]) (rest := []) ⟨hx, hb, hml, hown, hts⟩ (g_truth l G g hg f 1  ) (my_cwS hts ok_X7_truth w_458 rfl rfl ⟨Nat.le_of_ble_eq_true rfl, Nat.le_of_ble_eq_true rfl⟩) ⟨bP.blind, fun U hU hW => ⟨rfl, by rw [hU]; exact hP, kG.warm hW hG⟩⟩ rfl rfl hl.1 rfl (lv_room (Nat.le_of_ble_eq_true rfl)) dX7_joined_159 ⟨Nat.le_of_ble_eq_true rfl, Nat.le_of_ble_eq_true rfl⟩) (fun v7 _ => ?_)
      exact W.lret (v := v7) hx hb hr (fun t ht hW => ⟨_, rfl, (trivial), ht⟩) (fun _ h => absurd h List.not_mem_nil) dX7_joined_162
  by_cases e_62 : n = 62
  · refine my_bei e_62 ?_
    refine lv_lookup (off := 132) (tgt := 133) hx hb dX7_joined_1 (by decide) (by decide) (by decide) ?_
    refine lv_lload_n hx hb dX7_joined_133 rfl (lv_at hl 1 rfl) ?_
    refine lv_lload_n hx hb dX7_joined_134 rfl (lv_at hl 2 rfl) ?_
    refine W.lcmp hx hb dX7_joined_135 ?_
    refine lv_if_le (tgt := 143) hx hb dX7_joined_136 (by decide) (fun c_136 => ?_) (fun c_136 => ?_)
    · refine lv_iconst (v := 0) hx hb dX7_joined_143 (by decide) ?_
      refine rd_calll (va_runS (As := [.int 0]) (rest := []) ⟨hx, hb, hml, hown, hts⟩ (g_truth l G g hg f 0  ) (my_cwS hts ok_X7_truth w_458 rfl rfl ⟨Nat.le_of_ble_eq_true rfl, Nat.le_of_ble_eq_true rfl⟩) ⟨bP.blind, fun U hU hW => ⟨rfl, by rw [hU]; exact hP, kG.warm hW hG⟩⟩ rfl rfl hl.1 rfl (lv_room (Nat.le_of_ble_eq_true rfl)) dX7_joined_144 ⟨Nat.le_of_ble_eq_true rfl, Nat.le_of_ble_eq_true rfl⟩) (fun v8 _ => ?_)
      exact W.lret (v := v8) hx hb hr (fun t ht hW => ⟨_, rfl, (trivial), ht⟩) (fun _ h => absurd h List.not_mem_nil) dX7_joined_147
    · refine lv_iconst (v := 1) hx hb dX7_joined_139 (by decide) ?_
      refine lv_goto (tgt := 144) hx hb dX7_joined_140 (by decide) ?_
      refine rd_calll (va_runS (As := [.int 1]) (rest := []) ⟨hx, hb, hml, hown, hts⟩ (g_truth l G g hg f 1  ) (my_cwS hts ok_X7_truth w_458 rfl rfl ⟨Nat.le_of_ble_eq_true rfl, Nat.le_of_ble_eq_true rfl⟩) ⟨bP.blind, fun U hU hW => ⟨rfl, by rw [hU]; exact hP, kG.warm hW hG⟩⟩ rfl rfl hl.1 rfl (lv_room (Nat.le_of_ble_eq_true rfl)) dX7_joined_144 ⟨Nat.le_of_ble_eq_true rfl, Nat.le_of_ble_eq_true rfl⟩) (fun v9 _ => ?_)
      exact W.lret (v := v9) hx hb hr (fun t ht hW => ⟨_, rfl, (trivial), ht⟩) (fun _ h => absurd h List.not_mem_nil) dX7_joined_147
  by_cases e_124 : n = 124
  · refine my_bei e_124 ?_
    refine lv_lookup (off := 75) (tgt := 76) hx hb dX7_joined_1 (by decide) (by decide) (by decide) ?_
    refine lv_lload_n hx hb dX7_joined_76 rfl (lv_at hl 1 rfl) ?_
    refine lv_lconst (v := 0) hx hb dX7_joined_77 (by decide) ?_
    refine W.lcmp hx hb dX7_joined_78 ?_
    refine lv_if_ne (tgt := 88) hx hb dX7_joined_79 (by decide) (fun c_79 => ?_) (fun c_79 => ?_)
    · refine lv_iconst (v := 1) hx hb dX7_joined_88 (by decide) ?_
      refine lv_goto (tgt := 93) hx hb dX7_joined_89 (by decide) ?_
      refine rd_calll (va_runS (As := [.int 1]) (rest := []) ⟨hx, hb, hml, hown, hts⟩ (g_truth l G g hg f 1  ) (my_cwS hts ok_X7_truth w_458 rfl rfl ⟨Nat.le_of_ble_eq_true rfl, Nat.le_of_ble_eq_true rfl⟩) ⟨bP.blind, fun U hU hW => ⟨rfl, by rw [hU]; exact hP, kG.warm hW hG⟩⟩ rfl rfl hl.1 rfl (lv_room (Nat.le_of_ble_eq_true rfl)) dX7_joined_93 ⟨Nat.le_of_ble_eq_true rfl, Nat.le_of_ble_eq_true rfl⟩) (fun v10 _ => ?_)
      exact W.lret (v := v10) hx hb hr (fun t ht hW => ⟨_, rfl, (trivial), ht⟩) (fun _ h => absurd h List.not_mem_nil) dX7_joined_96
    · refine lv_lload_n hx hb dX7_joined_82 rfl (lv_at hl 2 rfl) ?_
      refine lv_lconst (v := 0) hx hb dX7_joined_83 (by decide) ?_
      refine W.lcmp hx hb dX7_joined_84 ?_
      refine lv_if_eq (tgt := 92) hx hb dX7_joined_85 (by decide) (fun c_85 => ?_) (fun c_85 => ?_)
      · refine lv_iconst (v := 0) hx hb dX7_joined_92 (by decide) ?_
        refine rd_calll (va_runS (As := [.int 0]) (rest := []) ⟨hx, hb, hml, hown, hts⟩ (g_truth l G g hg f 0  ) (my_cwS hts ok_X7_truth w_458 rfl rfl ⟨Nat.le_of_ble_eq_true rfl, Nat.le_of_ble_eq_true rfl⟩) ⟨bP.blind, fun U hU hW => ⟨rfl, by rw [hU]; exact hP, kG.warm hW hG⟩⟩ rfl rfl hl.1 rfl (lv_room (Nat.le_of_ble_eq_true rfl)) dX7_joined_93 ⟨Nat.le_of_ble_eq_true rfl, Nat.le_of_ble_eq_true rfl⟩) (fun v11 _ => ?_)
        exact W.lret (v := v11) hx hb hr (fun t ht hW => ⟨_, rfl, (trivial), ht⟩) (fun _ h => absurd h List.not_mem_nil) dX7_joined_96
      · refine lv_iconst (v := 1) hx hb dX7_joined_88 (by decide) ?_
        refine lv_goto (tgt := 93) hx hb dX7_joined_89 (by decide) ?_
        refine rd_calll (va_runS (As := [.int 1]) (rest := []) ⟨hx, hb, hml, hown, hts⟩ (g_truth l G g hg f 1  ) (my_cwS hts ok_X7_truth w_458 rfl rfl ⟨Nat.le_of_ble_eq_true rfl, Nat.le_of_ble_eq_true rfl⟩) ⟨bP.blind, fun U hU hW => ⟨rfl, by rw [hU]; exact hP, kG.warm hW hG⟩⟩ rfl rfl hl.1 rfl (lv_room (Nat.le_of_ble_eq_true rfl)) dX7_joined_93 ⟨Nat.le_of_ble_eq_true rfl, Nat.le_of_ble_eq_true rfl⟩) (fun v12 _ => ?_)
        exact W.lret (v := v12) hx hb hr (fun t ht hW => ⟨_, rfl, (trivial), ht⟩) (fun _ h => absurd h List.not_mem_nil) dX7_joined_96
  refine lv_lookup (off := 174) (tgt := 175) hx hb dX7_joined_1 (by decide) (by show Op.lookupswitch.offset [(38, 96), (42, 170), (43, 162), (45, 166), (60, 117), (61, 147), (62, 132), (124, 75)] 174 _ = 174; rw [lv_osw (a := 38) e_38 (by decide), lv_osw (a := 42) e_42 (by decide), lv_osw (a := 43) e_43 (by decide), lv_osw (a := 45) e_45 (by decide), lv_osw (a := 60) e_60 (by decide), lv_osw (a := 61) e_61 (by decide), lv_osw (a := 62) e_62 (by decide), lv_osw (a := 124) e_124 (by decide)]; rfl) (by decide) ?_
  refine lv_lload_n hx hb dX7_joined_175 rfl (lv_at hl 2 rfl) ?_
  refine lv_lconst (v := 0) hx hb dX7_joined_176 (by decide) ?_
  refine W.lcmp hx hb dX7_joined_177 ?_
  refine lv_if_ne (tgt := 185) hx hb dX7_joined_178 (by decide) (fun c_178 => ?_) (fun c_178 => ?_)
  · refine lv_lload_n hx hb dX7_joined_185 rfl (lv_at hl 1 rfl) ?_
    refine lv_lload_n hx hb dX7_joined_186 rfl (lv_at hl 2 rfl) ?_
    refine lv_ldiv hx hb dX7_joined_187 (fun z => c_178 ((lg_cmp_eq _ _).mpr z)) ?_
    exact W.lret (v := u / v) hx hb hr (fun t ht hW => ⟨_, rfl, (trivial), ht⟩) (fun _ h => absurd h List.not_mem_nil) dX7_joined_188
  · refine lv_lconst (v := 0) hx hb dX7_joined_181 (by decide) ?_
    refine lv_goto (tgt := 188) hx hb dX7_joined_182 (by decide) ?_
    exact W.lret (v := 0) hx hb hr (fun t ht hW => ⟨_, rfl, (trivial), ht⟩) (fun _ h => absurd h List.not_mem_nil) dX7_joined_188
set_option maxHeartbeats 4000000 in
set_option maxRecDepth 100000 in
theorem g_isDigit (l : Launch) (G : gW) (g : Nat → Nat) (hg : gOK g) (f : Nat → va_E) (n : Int32)   : Met l yX4_isDigit (wsT yX4_isDigit cX4_isDigit 1 (some .boolean)) ({ frames := 0, cells := 0, slots := 0, locals := 0 }) (bP G g f [.int n]) (rQi (fun z9 => z9 = b2 (inB 48 n 57 = true))) 0 0 fr0 := by
  refine Met.ofW (cc := cX4_isDigit) (maxL := 1) (ret := (some .boolean)) (by decide) rfl ?_
  intro p e s m args below meth c s₁ B hml hv
  obtain ⟨rfl, hP, hG⟩ := hv
  have hx := B.exec
  have hb := B.bytes
  have hr := B.returns
  have hts := my_hts (atoms_spec (ws := wsT yX4_isDigit cX4_isDigit 1 (some .boolean)) B.pre)
  have hown : s.vm.findClass RX4 = some m.cls := findClass_of_methodNamed B.named
  have hlocks := B.notSynchronized
  have hl := lv_entry ([.int n]) (n := 1) (Nat.le_of_ble_eq_true rfl)
  rw [lg_entry_eq]
  generalize (lg_sl ([.int n]) ++ List.replicate (1 - (lg_sl ([.int n])).length) Slot.unset).toArray = ls at hl ⊢
  have hl : lv_has ls 1 [(0, .int n)] := hl
  refine lv_iload_n hx hb dX4_isDigit_0 rfl (lv_at hl 0 rfl) ?_
  refine lv_bipush (v := 48) hx hb dX4_isDigit_1 (by decide) ?_
  refine lv_icmp_lt (tgt := 16) hx hb dX4_isDigit_3 (by decide) (fun c_3 => ?_) (fun c_3 => ?_)
  · refine lv_iconst (v := 0) hx hb dX4_isDigit_16 (by decide) ?_
    exact W.zret (v := 0) hx hb hr (rfl) (fun t ht hW => ⟨_, rfl, ((b2_f (inB_lo c_3)).symm), ht⟩) (fun _ h => absurd h List.not_mem_nil) dX4_isDigit_17
  · refine lv_iload_n hx hb dX4_isDigit_6 rfl (lv_at hl 0 rfl) ?_
    refine lv_bipush (v := 57) hx hb dX4_isDigit_7 (by decide) ?_
    refine lv_icmp_gt (tgt := 16) hx hb dX4_isDigit_9 (by decide) (fun c_9 => ?_) (fun c_9 => ?_)
    · refine lv_iconst (v := 0) hx hb dX4_isDigit_16 (by decide) ?_
      exact W.zret (v := 0) hx hb hr (rfl) (fun t ht hW => ⟨_, rfl, ((b2_f (inB_hi c_9)).symm), ht⟩) (fun _ h => absurd h List.not_mem_nil) dX4_isDigit_17
    · refine lv_iconst (v := 1) hx hb dX4_isDigit_12 (by decide) ?_
      refine lv_goto (tgt := 17) hx hb dX4_isDigit_13 (by decide) ?_
      exact W.zret (v := 1) hx hb hr (rfl) (fun t ht hW => ⟨_, rfl, ((b2_t (inB_t c_3 c_9)).symm), ht⟩) (fun _ h => absurd h List.not_mem_nil) dX4_isDigit_17
set_option maxHeartbeats 4000000 in
set_option maxRecDepth 100000 in
theorem t_addStepS (l : Launch) (G : gW) (g : Nat → Nat) (hg : gOK g) (f : Nat → va_E) (k : Nat) (ln : Nat) (sc : Nat) (sp : Nat → Int32) (v : Int32) (htx : f k = eO 7 [.ref (g (k + 1)), .ref (g (k + 2)), .int (nI ln), .int (nI sc)]) (hpx : f (k + 2) = eI G 50 sp) (hk3 : k + 2 < 333) (hln : ln ≤ 50) (hsc : sc ≤ 50) : Met l yX8_addStep (wsT yX8_addStep cX8_addStep 2 none) ({ frames := 0, cells := 0, slots := 0, locals := 0 }) (bP G g f [.ref (g k), .int v]) (bQv G g (fun (f' : Nat → va_E) => ∃ sc9 : Nat, ∃ sp9 : Nat → Int32, f' k = eO 7 [.ref (g (k + 1)), .ref (g (k + 2)), .int (nI ln), .int (nI sc9)] ∧ f' (k + 2) = eI G 50 sp9 ∧ (sc9 ≤ 50) ∧ ∀ j, (j ≠ k ∧ j ≠ k + 2) → f' j = f j)) 0 0 (gA g) := by
  refine Met.ofW (cc := cX8_addStep) (maxL := 2) (ret := none) (by decide) rfl ?_
  intro p e s m args below meth c s₁ B hml hv
  obtain ⟨rfl, hP, hG⟩ := hv
  have hx := B.exec
  have hb := B.bytes
  have hr := B.returns
  have hts := my_hts (atoms_spec (ws := wsT yX8_addStep cX8_addStep 2 none) B.pre)
  have hown : s.vm.findClass RX8 = some m.cls := findClass_of_methodNamed B.named
  have hlocks := B.notSynchronized
  have hS : va_S (gA g) s.heap s.heap [] := va_S.rf
  have hl := lv_entry ([.ref (g k), .int v]) (n := 2) (Nat.le_of_ble_eq_true rfl)
  rw [lg_entry_eq]
  generalize (lg_sl ([.ref (g k), .int v]) ++ List.replicate (2 - (lg_sl ([.ref (g k), .int v])).length) Slot.unset).toArray = ls at hl ⊢
  have hl : lv_has ls 2 [(0, .ref (g k)), (1, .int v)] := hl
  refine lv_aload_n hx hb dX8_addStep_0 rfl (lv_at hl 0 rfl) ?_
  refine va_get (D := G.1) (ci := 7) (v := .int (nI sc)) (C := RX8) (T := TX8) (N := 4) hx hb hts inlX8 hown hG.1 hP k (wl_at (by omega) htx) rfl 3 (by decide) (hts (.fieldLink RX8 22 "SwornLists$Text" "stepCount" "I") w_293) (fun _ h9 => h9) rfl dX8_addStep_1 ?_
  refine lv_bipush (v := 50) hx hb dX8_addStep_4 (by decide) ?_
  refine lv_icmp_ge (tgt := 29) hx hb dX8_addStep_6 (by decide) (fun c_6 => ?_) (fun c_6 => ?_)
  · exact W.vret hx hb hr (fun t ht hW => ⟨⟨f, rfl, (⟨sc, sp, htx, hpx, by omega, fun j hj => rfl⟩), by rw [ht]; exact hP⟩, hS.F ht⟩) hS.2.2 dX8_addStep_29
  · have hlt : sc < 50 := Nat.not_le.mp (fun z => c_6 (nI_le (a := 50) z (by omega)))
    refine lv_aload_n hx hb dX8_addStep_9 rfl (lv_at hl 0 rfl) ?_
    refine va_get (D := G.1) (ci := 7) (v := .ref (g (k + 2))) (C := RX8) (T := TX8) (N := 4) hx hb hts inlX8 hown hG.1 hP k (wl_at (by omega) htx) rfl 1 (by decide) (hts (.fieldLink RX8 15 "SwornLists$Text" "steps" "[I") w_87) (fun _ h9 => h9) rfl dX8_addStep_10 ?_
    refine lv_aload_n hx hb dX8_addStep_13 rfl (lv_at hl 0 rfl) ?_
    refine va_get (D := G.1) (ci := 7) (v := .int (nI sc)) (C := RX8) (T := TX8) (N := 4) hx hb hts inlX8 hown hG.1 hP k (wl_at (by omega) htx) rfl 3 (by decide) (hts (.fieldLink RX8 22 "SwornLists$Text" "stepCount" "I") w_293) (fun _ h9 => h9) rfl dX8_addStep_14 ?_
    refine lv_iload_n hx hb dX8_addStep_17 rfl (lv_at hl 1 rfl) ?_
    refine va_iast hx hb hG.1 hP (wl_D hg f) hS (k + 2) 0 (wl_at (by omega) hpx) rfl (vp_in_nI hlt (by decide)) dX8_addStep_18 (fun H locs hP _ hS => ?_)
    obtain ⟨f_1, hP, e_1, o_1⟩ := b_put (by omega) hP
    have hpx : f_1 (k + 2) = eI G 50 (upd sp (Int32.toNatClampNeg (nI sc)) v) := e_1
    replace htx : f_1 k = eO 7 [.ref (g (k + 1)), .ref (g (k + 2)), .int (nI ln), .int (nI sc)] := (o_1 k (by omega)).trans htx
    refine lv_aload_n hx hb dX8_addStep_19 rfl (lv_at hl 0 rfl) ?_
    refine lv_dup hx hb dX8_addStep_20 rfl ?_
    refine va_get (D := G.1) (ci := 7) (v := .int (nI sc)) (C := RX8) (T := TX8) (N := 4) hx hb hts inlX8 hown hG.1 hP k (wl_at (by omega) htx) rfl 3 (by decide) (hts (.fieldLink RX8 22 "SwornLists$Text" "stepCount" "I") w_293) (fun _ h9 => h9) rfl dX8_addStep_21 ?_
    refine lv_iconst (v := 1) hx hb dX8_addStep_24 (by decide) ?_
    refine lv_iadd hx hb dX8_addStep_25 ?_
    refine my_bei (v := nI (sc + 1)) (nI_1 sc) ?_
    refine va_put (D := G.1) (ci := 7) (v := .int (nI (sc + 1))) (ty := .int) (C := RX8) (T := TX8) (N := 4) hx hb hts inlX8 tyX8 tyX8_ok nmX8 hown hG.1 hP (wl_D hg f_1) hS k (wl_at (by omega) htx) rfl 3 (by decide) (hts (.fieldLink RX8 22 "SwornLists$Text" "stepCount" "I") w_293) (fun _ h9 => h9) rfl (by decide +kernel) rfl rfl (Nat.le_of_ble_eq_true rfl) dX8_addStep_26 (fun H locs hP _ hS => ?_)
    obtain ⟨f_2, hP, e_2, o_2⟩ := b_put (by omega) hP
    have htx : f_2 k = eO 7 [.ref (g (k + 1)), .ref (g (k + 2)), .int (nI ln), .int (nI (sc + 1))] := e_2
    replace hpx : f_2 (k + 2) = eI G 50 (upd sp (Int32.toNatClampNeg (nI sc)) v) := (o_2 (k + 2) (by omega)).trans hpx
    exact W.vret hx hb hr (fun t ht hW => ⟨⟨f_2, rfl, (⟨(sc + 1), (upd sp (Int32.toNatClampNeg (nI sc)) v), htx, hpx, by omega, fun j hj => ((o_2 j (by omega))).trans (o_1 j (by omega))⟩), by rw [ht]; exact hP⟩, hS.F ht⟩) hS.2.2 dX8_addStep_29
set_option maxHeartbeats 4000000 in
set_option maxRecDepth 100000 in
theorem e_hold (l : Launch) (G : gW) (g : Nat → Nat) (hg : gOK g) (f : Nat → va_E) (mc : Nat) (op : Int32) (cm : Int32) (wu : Int32) (mk : Nat → Int32) (v : Int32) (hrd : f 4 = eO 4 [.ref (g 5), .int (nI mc), .int op, .int cm, .int wu]) (hmk : f 5 = eI G 50 mk) (hmc : mc ≤ 50) : Met l yX4_hold (wsT yX4_hold cX4_hold 2 none) ({ frames := 0, cells := 0, slots := 0, locals := 0 }) (bP G g f [.ref (g 4), .int v]) (bQv G g (fun (f' : Nat → va_E) => ∃ mc9 : Nat, ∃ mk9 : Nat → Int32, f' 4 = eO 4 [.ref (g 5), .int (nI mc9), .int op, .int cm, .int wu] ∧ f' 5 = eI G 50 mk9 ∧ (mc9 ≤ 50) ∧ ∀ j, (j ≠ 4 ∧ j ≠ 5) → f' j = f j)) 0 0 (gA g) := by
  refine Met.ofW (cc := cX4_hold) (maxL := 2) (ret := none) (by decide) rfl ?_
  intro p e s m args below meth c s₁ B hml hv
  obtain ⟨rfl, hP, hG⟩ := hv
  have hx := B.exec
  have hb := B.bytes
  have hr := B.returns
  have hts := my_hts (atoms_spec (ws := wsT yX4_hold cX4_hold 2 none) B.pre)
  have hown : s.vm.findClass RX4 = some m.cls := findClass_of_methodNamed B.named
  have hlocks := B.notSynchronized
  have hS : va_S (gA g) s.heap s.heap [] := va_S.rf
  have hl := lv_entry ([.ref (g 4), .int v]) (n := 2) (Nat.le_of_ble_eq_true rfl)
  rw [lg_entry_eq]
  generalize (lg_sl ([.ref (g 4), .int v]) ++ List.replicate (2 - (lg_sl ([.ref (g 4), .int v])).length) Slot.unset).toArray = ls at hl ⊢
  have hl : lv_has ls 2 [(0, .ref (g 4)), (1, .int v)] := hl
  refine lv_aload_n hx hb dX4_hold_0 rfl (lv_at hl 0 rfl) ?_
  refine va_get (D := G.1) (ci := 4) (v := .int (nI mc)) (C := RX4) (T := TX4) (N := 5) hx hb hts inlX4 hown hG.1 hP 4 (wl_at (by decide) hrd) rfl 1 (by decide) (hts (.fieldLink RX4 20 "SwornLists$Reader" "markCount" "I") w_282) (fun _ h9 => h9) rfl dX4_hold_1 ?_
  refine lv_bipush (v := 50) hx hb dX4_hold_4 (by decide) ?_
  refine lv_icmp_ge (tgt := 29) hx hb dX4_hold_6 (by decide) (fun c_6 => ?_) (fun c_6 => ?_)
  · exact W.vret hx hb hr (fun t ht hW => ⟨⟨f, rfl, (⟨mc, mk, hrd, hmk, by omega, fun j hj => rfl⟩), by rw [ht]; exact hP⟩, hS.F ht⟩) hS.2.2 dX4_hold_29
  · have hlt : mc < 50 := Nat.not_le.mp (fun z => c_6 (nI_le (a := 50) z (by omega)))
    refine lv_aload_n hx hb dX4_hold_9 rfl (lv_at hl 0 rfl) ?_
    refine va_get (D := G.1) (ci := 4) (v := .ref (g 5)) (C := RX4) (T := TX4) (N := 5) hx hb hts inlX4 hown hG.1 hP 4 (wl_at (by decide) hrd) rfl 0 (by decide) (hts (.fieldLink RX4 9 "SwornLists$Reader" "marks" "[I") w_95) (fun _ h9 => h9) rfl dX4_hold_10 ?_
    refine lv_aload_n hx hb dX4_hold_13 rfl (lv_at hl 0 rfl) ?_
    refine va_get (D := G.1) (ci := 4) (v := .int (nI mc)) (C := RX4) (T := TX4) (N := 5) hx hb hts inlX4 hown hG.1 hP 4 (wl_at (by decide) hrd) rfl 1 (by decide) (hts (.fieldLink RX4 20 "SwornLists$Reader" "markCount" "I") w_282) (fun _ h9 => h9) rfl dX4_hold_14 ?_
    refine lv_iload_n hx hb dX4_hold_17 rfl (lv_at hl 1 rfl) ?_
    refine va_iast hx hb hG.1 hP (wl_D hg f) hS 5 0 (wl_at (by decide) hmk) rfl (vp_in_nI hlt (by decide)) dX4_hold_18 (fun H locs hP _ hS => ?_)
    obtain ⟨f_1, hP, e_1, o_1⟩ := b_put (by decide) hP
    have hmk : f_1 5 = eI G 50 (upd mk (Int32.toNatClampNeg (nI mc)) v) := e_1
    replace hrd := (o_1 4 (by decide)).trans hrd
    refine lv_aload_n hx hb dX4_hold_19 rfl (lv_at hl 0 rfl) ?_
    refine lv_dup hx hb dX4_hold_20 rfl ?_
    refine va_get (D := G.1) (ci := 4) (v := .int (nI mc)) (C := RX4) (T := TX4) (N := 5) hx hb hts inlX4 hown hG.1 hP 4 (wl_at (by decide) hrd) rfl 1 (by decide) (hts (.fieldLink RX4 20 "SwornLists$Reader" "markCount" "I") w_282) (fun _ h9 => h9) rfl dX4_hold_21 ?_
    refine lv_iconst (v := 1) hx hb dX4_hold_24 (by decide) ?_
    refine lv_iadd hx hb dX4_hold_25 ?_
    refine my_bei (v := nI (mc + 1)) (nI_1 mc) ?_
    refine va_put (D := G.1) (ci := 4) (v := .int (nI (mc + 1))) (ty := .int) (C := RX4) (T := TX4) (N := 5) hx hb hts inlX4 tyX4 tyX4_ok nmX4 hown hG.1 hP (wl_D hg f_1) hS 4 (wl_at (by decide) hrd) rfl 1 (by decide) (hts (.fieldLink RX4 20 "SwornLists$Reader" "markCount" "I") w_282) (fun _ h9 => h9) rfl (by decide +kernel) rfl rfl (Nat.le_of_ble_eq_true rfl) dX4_hold_26 (fun H locs hP _ hS => ?_)
    obtain ⟨f_2, hP, e_2, o_2⟩ := b_put (by decide) hP
    have hrd : f_2 4 = eO 4 [.ref (g 5), .int (nI (mc + 1)), .int op, .int cm, .int wu] := e_2
    replace hmk := (o_2 5 (by decide)).trans hmk
    exact W.vret hx hb hr (fun t ht hW => ⟨⟨f_2, rfl, (⟨(mc + 1), (upd mk (Int32.toNatClampNeg (nI mc)) v), hrd, hmk, by omega, fun j hj => ((o_2 j (by omega))).trans (o_1 j (by omega))⟩), by rw [ht]; exact hP⟩, hS.F ht⟩) hS.2.2 dX4_hold_29


theorem ok_X3_draw : okV yX3_draw cX3_draw 7 none 3 := ⟨⟨w_476, w_44, ⟨by decide +kernel, by decide +kernel, by decide +kernel⟩⟩, trivial, w_474, w_475⟩
theorem ok_X3_bitAt : okS yX3_bitAt cX3_bitAt 4 (some .int) 2 := ⟨⟨w_492, w_44, ⟨by decide +kernel, by decide +kernel, by decide +kernel⟩⟩, trivial, w_491, trivial⟩
theorem ok_X3_strike : okV yX3_strike cX3_strike 4 none 2 := ⟨⟨w_496, w_44, ⟨by decide +kernel, by decide +kernel, by decide +kernel⟩⟩, trivial, w_494, w_495⟩
theorem ok_X3_left : okV yX3_left cX3_left 1 (some .int) 0 := ⟨⟨w_510, w_44, ⟨by decide +kernel, by decide +kernel, by decide +kernel⟩⟩, trivial, w_508, w_509⟩
theorem ok_X3_leastLiked : okV yX3_leastLiked cX3_leastLiked 9 (some .int) 3 := ⟨⟨w_504, w_44, ⟨by decide +kernel, by decide +kernel, by decide +kernel⟩⟩, trivial, w_502, w_503⟩
theorem ok_X3_seat : okV yX3_seat cX3_seat 4 none 2 := ⟨⟨w_514, w_44, ⟨by decide +kernel, by decide +kernel, by decide +kernel⟩⟩, trivial, w_512, w_513⟩
theorem ok_X3_slipAt : okV yX3_slipAt cX3_slipAt 2 (some .int) 1 := ⟨⟨w_691, w_44, ⟨by decide +kernel, by decide +kernel, by decide +kernel⟩⟩, trivial, w_689, w_690⟩
theorem ok_X3_standing : okV yX3_standing cX3_standing 2 (some .int) 1 := ⟨⟨w_703, w_44, ⟨by decide +kernel, by decide +kernel, by decide +kernel⟩⟩, trivial, w_701, w_702⟩
theorem ok_X3_figure : okV yX3_figure cX3_figure 2 (some .int) 1 := ⟨⟨w_724, w_44, ⟨by decide +kernel, by decide +kernel, by decide +kernel⟩⟩, trivial, w_722, w_723⟩
theorem ok_X3_fold : okV yX3_fold cX3_fold 4 (some .long) 1 := ⟨⟨w_968, w_44, ⟨by decide +kernel, by decide +kernel, by decide +kernel⟩⟩, trivial, w_966, w_967⟩
set_option maxHeartbeats 4000000 in
set_option maxRecDepth 100000 in
theorem h_figure (l : Launch) (G : gW) (g : Nat → Nat) (hg : gOK g) (f : Nat → va_E) (k : Nat) (sl : Nat) (lo : Int32) (ib : Int32) (ca : Int32) (mi : Int32) (s0 : Int32) (s1 : Int32) (sw : Int32) (q : Int32) (hhe : f k = eO 3 [.ref (g (k + 1)), .int (nI sl), .int lo, .int ib, .int ca, .int mi, .int s0, .int s1, .int sw]) (hk3 : k + 1 < 36) (hsl : sl ≤ 24) : Met l yX3_figure (wsT yX3_figure cX3_figure 2 (some .int)) ({ frames := 1, cells := 0, slots := 0, locals := 20 }) (bP G g f [.ref (g k), .int q]) (rQi (fun z9 => True)) 0 0 fr0 := by
  refine Met.ofW (cc := cX3_figure) (maxL := 2) (ret := (some .int)) (by decide) rfl ?_
  intro p e s m args below meth c s₁ B hml hv
  obtain ⟨rfl, hP, hG⟩ := hv
  have hx := B.exec
  have hb := B.bytes
  have hr := B.returns
  have hts := my_hts (atoms_spec (ws := wsT yX3_figure cX3_figure 2 (some .int)) B.pre)
  have hown : s.vm.findClass RX3 = some m.cls := findClass_of_methodNamed B.named
  have hlocks := B.notSynchronized
  have hl := lv_entry ([.ref (g k), .int q]) (n := 2) (Nat.le_of_ble_eq_true rfl)
  rw [lg_entry_eq]
  generalize (lg_sl ([.ref (g k), .int q]) ++ List.replicate (2 - (lg_sl ([.ref (g k), .int q])).length) Slot.unset).toArray = ls at hl ⊢
  have hl : lv_has ls 2 [(0, .ref (g k)), (1, .int q)] := hl
  refine lv_iload_n hx hb dX3_figure_0 rfl (lv_at hl 1 rfl) ?_
  by_cases e_0 : q = 0
  · refine my_bei e_0 ?_
    refine lv_tableIn (off := 27) (tgt := 28) hx hb dX3_figure_1 (by decide) (by decide) (by decide) (by decide) ?_
    refine lv_aload_n hx hb dX3_figure_28 rfl (lv_at hl 0 rfl) ?_
    refine va_get (D := G.1) (ci := 3) (v := .int sw) (C := RX3) (T := TX3) (N := 9) hx hb hts inlX3 hown hG.1 hP k (wl_at (by omega) hhe) rfl 8 (by decide) (hts (.fieldLink RX3 73 "SwornLists$Hearing" "sworn" "I") w_515) (fun _ h9 => h9) rfl dX3_figure_29 ?_
    refine lv_aload_n hx hb dX3_figure_32 rfl (lv_at hl 0 rfl) ?_
    refine va_get (D := G.1) (ci := 3) (v := .int ib) (C := RX3) (T := TX3) (N := 9) hx hb hts inlX3 hown hG.1 hP k (wl_at (by omega) hhe) rfl 3 (by decide) (hts (.fieldLink RX3 15 "SwornLists$Hearing" "inBox" "I") w_477) (fun _ h9 => h9) rfl dX3_figure_33 ?_
    refine lv_iconst (v := (-1)) hx hb dX3_figure_36 (by decide) ?_
    refine lv_ixor hx hb dX3_figure_37 ?_
    refine lv_iand hx hb dX3_figure_38 ?_
    refine rd_calli (va_runS (As := [.int (sw &&& (ib ^^^ (-1)))]) (rest := []) ⟨hx, hb, hml, hown, hts⟩ (s_bitCount l G g hg f (sw &&& (ib ^^^ (-1)))  ) (my_cwS hts ok_J6_bitCount_0f7a4 w_483 rfl rfl ⟨Nat.le_of_ble_eq_true rfl, Nat.le_of_ble_eq_true rfl⟩) ⟨bP.blind, fun U hU hW => ⟨rfl, by rw [hU]; exact hP, kG.warm hW hG⟩⟩ rfl rfl hl.1 rfl (lv_room (Nat.le_of_ble_eq_true rfl)) dX3_figure_39 ⟨Nat.le_of_ble_eq_true rfl, Nat.le_of_ble_eq_true rfl⟩) (fun v1 _ => ?_)
    exact W.iret (v := v1) hx hb hr (fun t ht hW => ⟨_, rfl, (trivial), ht⟩) (fun _ h => absurd h List.not_mem_nil) dX3_figure_42
  by_cases e_1 : q = 1
  · refine my_bei e_1 ?_
    refine lv_tableIn (off := 42) (tgt := 43) hx hb dX3_figure_1 (by decide) (by decide) (by decide) (by decide) ?_
    refine lv_aload_n hx hb dX3_figure_43 rfl (lv_at hl 0 rfl) ?_
    refine va_get (D := G.1) (ci := 3) (v := .int s0) (C := RX3) (T := TX3) (N := 9) hx hb hts inlX3 hown hG.1 hP k (wl_at (by omega) hhe) rfl 6 (by decide) (hts (.fieldLink RX3 56 "SwornLists$Hearing" "struckBy0" "I") w_498) (fun _ h9 => h9) rfl dX3_figure_44 ?_
    refine rd_calli (va_runS (As := [.int s0]) (rest := []) ⟨hx, hb, hml, hown, hts⟩ (s_bitCount l G g hg f s0  ) (my_cwS hts ok_J6_bitCount_0f7a4 w_483 rfl rfl ⟨Nat.le_of_ble_eq_true rfl, Nat.le_of_ble_eq_true rfl⟩) ⟨bP.blind, fun U hU hW => ⟨rfl, by rw [hU]; exact hP, kG.warm hW hG⟩⟩ rfl rfl hl.1 rfl (lv_room (Nat.le_of_ble_eq_true rfl)) dX3_figure_47 ⟨Nat.le_of_ble_eq_true rfl, Nat.le_of_ble_eq_true rfl⟩) (fun v2 _ => ?_)
    exact W.iret (v := v2) hx hb hr (fun t ht hW => ⟨_, rfl, (trivial), ht⟩) (fun _ h => absurd h List.not_mem_nil) dX3_figure_50
  by_cases e_2 : q = 2
  · refine my_bei e_2 ?_
    refine lv_tableIn (off := 50) (tgt := 51) hx hb dX3_figure_1 (by decide) (by decide) (by decide) (by decide) ?_
    refine lv_aload_n hx hb dX3_figure_51 rfl (lv_at hl 0 rfl) ?_
    refine va_get (D := G.1) (ci := 3) (v := .int s1) (C := RX3) (T := TX3) (N := 9) hx hb hts inlX3 hown hG.1 hP k (wl_at (by omega) hhe) rfl 7 (by decide) (hts (.fieldLink RX3 59 "SwornLists$Hearing" "struckBy1" "I") w_499) (fun _ h9 => h9) rfl dX3_figure_52 ?_
    refine rd_calli (va_runS (As := [.int s1]) (rest := []) ⟨hx, hb, hml, hown, hts⟩ (s_bitCount l G g hg f s1  ) (my_cwS hts ok_J6_bitCount_0f7a4 w_483 rfl rfl ⟨Nat.le_of_ble_eq_true rfl, Nat.le_of_ble_eq_true rfl⟩) ⟨bP.blind, fun U hU hW => ⟨rfl, by rw [hU]; exact hP, kG.warm hW hG⟩⟩ rfl rfl hl.1 rfl (lv_room (Nat.le_of_ble_eq_true rfl)) dX3_figure_55 ⟨Nat.le_of_ble_eq_true rfl, Nat.le_of_ble_eq_true rfl⟩) (fun v3 _ => ?_)
    exact W.iret (v := v3) hx hb hr (fun t ht hW => ⟨_, rfl, (trivial), ht⟩) (fun _ h => absurd h List.not_mem_nil) dX3_figure_58
  have n_0 : q.toInt ≠ 0 := fun z => e_0 (Int32.toInt_inj.mp (z.trans (by decide)))
  have n_1 : q.toInt ≠ 1 := fun z => e_1 (Int32.toInt_inj.mp (z.trans (by decide)))
  have n_2 : q.toInt ≠ 2 := fun z => e_2 (Int32.toInt_inj.mp (z.trans (by decide)))
  refine lv_tableOut (tgt := 59) hx hb dX3_figure_1 (by omega) (by decide) ?_
  refine lv_aload_n hx hb dX3_figure_59 rfl (lv_at hl 0 rfl) ?_
  refine va_get (D := G.1) (ci := 3) (v := .int lo) (C := RX3) (T := TX3) (N := 9) hx hb hts inlX3 hown hG.1 hP k (wl_at (by omega) hhe) rfl 2 (by decide) (hts (.fieldLink RX3 19 "SwornLists$Hearing" "lot" "I") w_478) (fun _ h9 => h9) rfl dX3_figure_60 ?_
  exact W.iret (v := lo) hx hb hr (fun t ht hW => ⟨_, rfl, (trivial), ht⟩) (fun _ h => absurd h List.not_mem_nil) dX3_figure_63
set_option maxHeartbeats 4000000 in
set_option maxRecDepth 100000 in
theorem h_fold (l : Launch) (G : gW) (g : Nat → Nat) (hg : gOK g) (f : Nat → va_E) (k : Nat) (sl : Nat) (lo : Int32) (ib : Int32) (ca : Int32) (mi : Int32) (s0 : Int32) (s1 : Int32) (sw : Int32) (h : Int64) (hhe : f k = eO 3 [.ref (g (k + 1)), .int (nI sl), .int lo, .int ib, .int ca, .int mi, .int s0, .int s1, .int sw]) (hk3 : k + 1 < 36) (hsl : sl ≤ 24) : Met l yX3_fold (wsT yX3_fold cX3_fold 4 (some .long)) ({ frames := 2, cells := 0, slots := 0, locals := 41 }) (bP G g f [.ref (g k), .long h]) (rQl (fun z9 => True)) 0 0 fr0 := by
  refine Met.ofW (cc := cX3_fold) (maxL := 4) (ret := (some .long)) (by decide) rfl ?_
  intro p e s m args below meth c s₁ B hml hv
  obtain ⟨rfl, hP, hG⟩ := hv
  have hx := B.exec
  have hb := B.bytes
  have hr := B.returns
  have hts := my_hts (atoms_spec (ws := wsT yX3_fold cX3_fold 4 (some .long)) B.pre)
  have hown : s.vm.findClass RX3 = some m.cls := findClass_of_methodNamed B.named
  have hlocks := B.notSynchronized
  have hl := lv_entry ([.ref (g k), .long h]) (n := 4) (Nat.le_of_ble_eq_true rfl)
  rw [lg_entry_eq]
  generalize (lg_sl ([.ref (g k), .long h]) ++ List.replicate (4 - (lg_sl ([.ref (g k), .long h])).length) Slot.unset).toArray = ls at hl ⊢
  have hl : lv_has ls 4 [(0, .ref (g k)), (1, .long h)] := hl
  refine lv_ldc2 (v := 31) hx hb hown (hts (.constantLong RX3 76 (31)) w_969) dX3_fold_0 ?_
  refine lv_lload_n hx hb dX3_fold_3 rfl (lv_at hl 1 rfl) ?_
  refine lv_lmul hx hb dX3_fold_4 ?_
  refine lv_aload_n hx hb dX3_fold_5 rfl (lv_at hl 0 rfl) ?_
  refine va_get (D := G.1) (ci := 3) (v := .int ib) (C := RX3) (T := TX3) (N := 9) hx hb hts inlX3 hown hG.1 hP k (wl_at (by omega) hhe) rfl 3 (by decide) (hts (.fieldLink RX3 15 "SwornLists$Hearing" "inBox" "I") w_477) (fun _ h9 => h9) rfl dX3_fold_6 ?_
  refine lv_i2l hx hb dX3_fold_9 rfl ?_
  refine lv_ladd hx hb dX3_fold_10 ?_
  refine lv_lstore_n (lv' := [(1, .long ((31 * h) + (Int32.toInt64 ib))), (0, .ref (g k))]) hx hb dX3_fold_11 rfl hl (by decide) rfl (fun ls hl => ?_)
  refine lv_ldc2 (v := 31) hx hb hown (hts (.constantLong RX3 76 (31)) w_969) dX3_fold_12 ?_
  refine lv_lload_n hx hb dX3_fold_15 rfl (lv_at hl 0 rfl) ?_
  refine lv_lmul hx hb dX3_fold_16 ?_
  refine lv_aload_n hx hb dX3_fold_17 rfl (lv_at hl 1 rfl) ?_
  refine va_get (D := G.1) (ci := 3) (v := .int sw) (C := RX3) (T := TX3) (N := 9) hx hb hts inlX3 hown hG.1 hP k (wl_at (by omega) hhe) rfl 8 (by decide) (hts (.fieldLink RX3 73 "SwornLists$Hearing" "sworn" "I") w_515) (fun _ h9 => h9) rfl dX3_fold_18 ?_
  refine lv_i2l hx hb dX3_fold_21 rfl ?_
  refine lv_ladd hx hb dX3_fold_22 ?_
  refine lv_lstore_n (lv' := [(1, .long ((31 * ((31 * h) + (Int32.toInt64 ib))) + (Int32.toInt64 sw))), (0, .ref (g k))]) hx hb dX3_fold_23 rfl hl (by decide) rfl (fun ls hl => ?_)
  refine lv_iconst (v := 0) hx hb dX3_fold_24 (by decide) ?_
  refine lv_istore_n (lv' := [(3, .int 0), (1, .long ((31 * ((31 * h) + (Int32.toInt64 ib))) + (Int32.toInt64 sw))), (0, .ref (g k))]) hx hb dX3_fold_25 rfl hl (by decide) rfl (fun ls hl => ?_)
  refine lv_iload_n hx hb dX3_fold_26 rfl (lv_at hl 0 rfl) ?_
  refine lv_iconst (v := 3) hx hb dX3_fold_27 (by decide) ?_
  refine lv_icmp_gt (tgt := 50) hx hb dX3_fold_28 (by decide) (fun c_28 => absurd c_28 (by decide)) (fun c_28 => ?_)
  refine lv_ldc2 (v := 31) hx hb hown (hts (.constantLong RX3 76 (31)) w_969) dX3_fold_31 ?_
  refine lv_lload_n hx hb dX3_fold_34 rfl (lv_at hl 1 rfl) ?_
  refine lv_lmul hx hb dX3_fold_35 ?_
  refine lv_aload_n hx hb dX3_fold_36 rfl (lv_at hl 2 rfl) ?_
  refine lv_iload_n hx hb dX3_fold_37 rfl (lv_at hl 0 rfl) ?_
  refine rd_calli (va_runV (As := [.int 0]) (rest := [.long (31 * ((31 * ((31 * h) + (Int32.toInt64 ib))) + (Int32.toInt64 sw)))]) ⟨hx, hb, hml, hown, hts⟩ (h_figure l G g hg f k sl lo ib ca mi s0 s1 sw 0 hhe (by first | assumption | omega | decide) (by first | assumption | omega | decide)) (my_cwV hts ok_X3_figure w_970 rfl rfl ⟨Nat.le_of_ble_eq_true rfl, Nat.le_of_ble_eq_true rfl⟩) ⟨bP.blind, va_recv hG.1 hP (ci := 3) (q0 := k) rfl (wl_at (by omega) hhe), fun U hU hW => ⟨rfl, by rw [hU]; exact hP, kG.warm hW hG⟩⟩ rfl rfl hl.1 rfl (lv_room (Nat.le_of_ble_eq_true rfl)) dX3_fold_38 ⟨Nat.le_of_ble_eq_true rfl, Nat.le_of_ble_eq_true rfl⟩) (fun v1 _ => ?_)
  refine lv_i2l hx hb dX3_fold_41 rfl ?_
  refine lv_ladd hx hb dX3_fold_42 ?_
  refine lv_lstore_n (lv' := [(1, .long ((31 * ((31 * ((31 * h) + (Int32.toInt64 ib))) + (Int32.toInt64 sw))) + (Int32.toInt64 v1))), (3, .int 0), (0, .ref (g k))]) hx hb dX3_fold_43 rfl hl (by decide) rfl (fun ls hl => ?_)
  refine lv_iinc (v := 1) (lv' := [(3, .int 1), (1, .long ((31 * ((31 * ((31 * h) + (Int32.toInt64 ib))) + (Int32.toInt64 sw))) + (Int32.toInt64 v1))), (0, .ref (g k))]) hx hb dX3_fold_44 hl (k := 1) rfl (by decide) (by decide) rfl (fun ls hl => ?_)
  refine lv_goto (tgt := 26) hx hb dX3_fold_47 (by decide) ?_
  refine lv_iload_n hx hb dX3_fold_26 rfl (lv_at hl 0 rfl) ?_
  refine lv_iconst (v := 3) hx hb dX3_fold_27 (by decide) ?_
  refine lv_icmp_gt (tgt := 50) hx hb dX3_fold_28 (by decide) (fun c_28 => absurd c_28 (by decide)) (fun c_28 => ?_)
  refine lv_ldc2 (v := 31) hx hb hown (hts (.constantLong RX3 76 (31)) w_969) dX3_fold_31 ?_
  refine lv_lload_n hx hb dX3_fold_34 rfl (lv_at hl 1 rfl) ?_
  refine lv_lmul hx hb dX3_fold_35 ?_
  refine lv_aload_n hx hb dX3_fold_36 rfl (lv_at hl 2 rfl) ?_
  refine lv_iload_n hx hb dX3_fold_37 rfl (lv_at hl 0 rfl) ?_
  refine rd_calli (va_runV (As := [.int 1]) (rest := [.long (31 * ((31 * ((31 * ((31 * h) + (Int32.toInt64 ib))) + (Int32.toInt64 sw))) + (Int32.toInt64 v1)))]) ⟨hx, hb, hml, hown, hts⟩ (h_figure l G g hg f k sl lo ib ca mi s0 s1 sw 1 hhe (by first | assumption | omega | decide) (by first | assumption | omega | decide)) (my_cwV hts ok_X3_figure w_970 rfl rfl ⟨Nat.le_of_ble_eq_true rfl, Nat.le_of_ble_eq_true rfl⟩) ⟨bP.blind, va_recv hG.1 hP (ci := 3) (q0 := k) rfl (wl_at (by omega) hhe), fun U hU hW => ⟨rfl, by rw [hU]; exact hP, kG.warm hW hG⟩⟩ rfl rfl hl.1 rfl (lv_room (Nat.le_of_ble_eq_true rfl)) dX3_fold_38 ⟨Nat.le_of_ble_eq_true rfl, Nat.le_of_ble_eq_true rfl⟩) (fun v2 _ => ?_)
  refine lv_i2l hx hb dX3_fold_41 rfl ?_
  refine lv_ladd hx hb dX3_fold_42 ?_
  refine lv_lstore_n (lv' := [(1, .long ((31 * ((31 * ((31 * ((31 * h) + (Int32.toInt64 ib))) + (Int32.toInt64 sw))) + (Int32.toInt64 v1))) + (Int32.toInt64 v2))), (3, .int 1), (0, .ref (g k))]) hx hb dX3_fold_43 rfl hl (by decide) rfl (fun ls hl => ?_)
  refine lv_iinc (v := 2) (lv' := [(3, .int 2), (1, .long ((31 * ((31 * ((31 * ((31 * h) + (Int32.toInt64 ib))) + (Int32.toInt64 sw))) + (Int32.toInt64 v1))) + (Int32.toInt64 v2))), (0, .ref (g k))]) hx hb dX3_fold_44 hl (k := 1) rfl (by decide) (by decide) rfl (fun ls hl => ?_)
  refine lv_goto (tgt := 26) hx hb dX3_fold_47 (by decide) ?_
  refine lv_iload_n hx hb dX3_fold_26 rfl (lv_at hl 0 rfl) ?_
  refine lv_iconst (v := 3) hx hb dX3_fold_27 (by decide) ?_
  refine lv_icmp_gt (tgt := 50) hx hb dX3_fold_28 (by decide) (fun c_28 => absurd c_28 (by decide)) (fun c_28 => ?_)
  refine lv_ldc2 (v := 31) hx hb hown (hts (.constantLong RX3 76 (31)) w_969) dX3_fold_31 ?_
  refine lv_lload_n hx hb dX3_fold_34 rfl (lv_at hl 1 rfl) ?_
  refine lv_lmul hx hb dX3_fold_35 ?_
  refine lv_aload_n hx hb dX3_fold_36 rfl (lv_at hl 2 rfl) ?_
  refine lv_iload_n hx hb dX3_fold_37 rfl (lv_at hl 0 rfl) ?_
  refine rd_calli (va_runV (As := [.int 2]) (rest := [.long (31 * ((31 * ((31 * ((31 * ((31 * h) + (Int32.toInt64 ib))) + (Int32.toInt64 sw))) + (Int32.toInt64 v1))) + (Int32.toInt64 v2)))]) ⟨hx, hb, hml, hown, hts⟩ (h_figure l G g hg f k sl lo ib ca mi s0 s1 sw 2 hhe (by first | assumption | omega | decide) (by first | assumption | omega | decide)) (my_cwV hts ok_X3_figure w_970 rfl rfl ⟨Nat.le_of_ble_eq_true rfl, Nat.le_of_ble_eq_true rfl⟩) ⟨bP.blind, va_recv hG.1 hP (ci := 3) (q0 := k) rfl (wl_at (by omega) hhe), fun U hU hW => ⟨rfl, by rw [hU]; exact hP, kG.warm hW hG⟩⟩ rfl rfl hl.1 rfl (lv_room (Nat.le_of_ble_eq_true rfl)) dX3_fold_38 ⟨Nat.le_of_ble_eq_true rfl, Nat.le_of_ble_eq_true rfl⟩) (fun v3 _ => ?_)
  refine lv_i2l hx hb dX3_fold_41 rfl ?_
  refine lv_ladd hx hb dX3_fold_42 ?_
  refine lv_lstore_n (lv' := [(1, .long ((31 * ((31 * ((31 * ((31 * ((31 * h) + (Int32.toInt64 ib))) + (Int32.toInt64 sw))) + (Int32.toInt64 v1))) + (Int32.toInt64 v2))) + (Int32.toInt64 v3))), (3, .int 2), (0, .ref (g k))]) hx hb dX3_fold_43 rfl hl (by decide) rfl (fun ls hl => ?_)
  refine lv_iinc (v := 3) (lv' := [(3, .int 3), (1, .long ((31 * ((31 * ((31 * ((31 * ((31 * h) + (Int32.toInt64 ib))) + (Int32.toInt64 sw))) + (Int32.toInt64 v1))) + (Int32.toInt64 v2))) + (Int32.toInt64 v3))), (0, .ref (g k))]) hx hb dX3_fold_44 hl (k := 1) rfl (by decide) (by decide) rfl (fun ls hl => ?_)
  refine lv_goto (tgt := 26) hx hb dX3_fold_47 (by decide) ?_
  refine lv_iload_n hx hb dX3_fold_26 rfl (lv_at hl 0 rfl) ?_
  refine lv_iconst (v := 3) hx hb dX3_fold_27 (by decide) ?_
  refine lv_icmp_gt (tgt := 50) hx hb dX3_fold_28 (by decide) (fun c_28 => absurd c_28 (by decide)) (fun c_28 => ?_)
  refine lv_ldc2 (v := 31) hx hb hown (hts (.constantLong RX3 76 (31)) w_969) dX3_fold_31 ?_
  refine lv_lload_n hx hb dX3_fold_34 rfl (lv_at hl 1 rfl) ?_
  refine lv_lmul hx hb dX3_fold_35 ?_
  refine lv_aload_n hx hb dX3_fold_36 rfl (lv_at hl 2 rfl) ?_
  refine lv_iload_n hx hb dX3_fold_37 rfl (lv_at hl 0 rfl) ?_
  refine rd_calli (va_runV (As := [.int 3]) (rest := [.long (31 * ((31 * ((31 * ((31 * ((31 * ((31 * h) + (Int32.toInt64 ib))) + (Int32.toInt64 sw))) + (Int32.toInt64 v1))) + (Int32.toInt64 v2))) + (Int32.toInt64 v3)))]) ⟨hx, hb, hml, hown, hts⟩ (h_figure l G g hg f k sl lo ib ca mi s0 s1 sw 3 hhe (by first | assumption | omega | decide) (by first | assumption | omega | decide)) (my_cwV hts ok_X3_figure w_970 rfl rfl ⟨Nat.le_of_ble_eq_true rfl, Nat.le_of_ble_eq_true rfl⟩) ⟨bP.blind, va_recv hG.1 hP (ci := 3) (q0 := k) rfl (wl_at (by omega) hhe), fun U hU hW => ⟨rfl, by rw [hU]; exact hP, kG.warm hW hG⟩⟩ rfl rfl hl.1 rfl (lv_room (Nat.le_of_ble_eq_true rfl)) dX3_fold_38 ⟨Nat.le_of_ble_eq_true rfl, Nat.le_of_ble_eq_true rfl⟩) (fun v4 _ => ?_)
  refine lv_i2l hx hb dX3_fold_41 rfl ?_
  refine lv_ladd hx hb dX3_fold_42 ?_
  refine lv_lstore_n (lv' := [(1, .long ((31 * ((31 * ((31 * ((31 * ((31 * ((31 * h) + (Int32.toInt64 ib))) + (Int32.toInt64 sw))) + (Int32.toInt64 v1))) + (Int32.toInt64 v2))) + (Int32.toInt64 v3))) + (Int32.toInt64 v4))), (3, .int 3), (0, .ref (g k))]) hx hb dX3_fold_43 rfl hl (by decide) rfl (fun ls hl => ?_)
  refine lv_iinc (v := 4) (lv' := [(3, .int 4), (1, .long ((31 * ((31 * ((31 * ((31 * ((31 * ((31 * h) + (Int32.toInt64 ib))) + (Int32.toInt64 sw))) + (Int32.toInt64 v1))) + (Int32.toInt64 v2))) + (Int32.toInt64 v3))) + (Int32.toInt64 v4))), (0, .ref (g k))]) hx hb dX3_fold_44 hl (k := 1) rfl (by decide) (by decide) rfl (fun ls hl => ?_)
  refine lv_goto (tgt := 26) hx hb dX3_fold_47 (by decide) ?_
  refine lv_iload_n hx hb dX3_fold_26 rfl (lv_at hl 0 rfl) ?_
  refine lv_iconst (v := 3) hx hb dX3_fold_27 (by decide) ?_
  refine lv_icmp_gt (tgt := 50) hx hb dX3_fold_28 (by decide) (fun c_28 => ?_) (fun c_28 => absurd (by decide) c_28)
  refine lv_lload_n hx hb dX3_fold_50 rfl (lv_at hl 1 rfl) ?_
  exact W.lret (v := (31 * ((31 * ((31 * ((31 * ((31 * ((31 * h) + (Int32.toInt64 ib))) + (Int32.toInt64 sw))) + (Int32.toInt64 v1))) + (Int32.toInt64 v2))) + (Int32.toInt64 v3))) + (Int32.toInt64 v4)) hx hb hr (fun t ht hW => ⟨_, rfl, (trivial), ht⟩) (fun _ h => absurd h List.not_mem_nil) dX3_fold_51

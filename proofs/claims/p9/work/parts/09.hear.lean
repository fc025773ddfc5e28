theorem min24 (x y : Int32) : (if y < (if (24 : Int32) < x then 24 else x) then y else (if (24 : Int32) < x then 24 else x)) ≤ 24 := by
  have hle : (if (24 : Int32) < x then (24 : Int32) else x) ≤ 24 := by
    split
    · exact Int32.le_refl _
    · rename_i h; exact Int32.not_lt.mp h
  generalize (if (24 : Int32) < x then (24 : Int32) else x) = z at hle ⊢
  by_cases h : y < z
  · rw [if_pos h]; exact Int32.le_trans (Int32.le_of_lt h) hle
  · rw [if_neg h]; exact hle
theorem lt24 {s : Nat} {y : Int32} (hs : s ≤ 24) (hy : y ≤ 24) (h : ¬ y ≤ nI s) : s < 24 := by
  have h1 : nI s < y := Int32.not_le.mp h
  have h2 := Int32.lt_iff_toInt_lt.mp h1
  have h3 := Int32.le_iff_toInt_le.mp hy
  rw [nI_toInt (by omega)] at h2
  have h4 : (24 : Int32).toInt = 24 := by decide
  omega
theorem ge_lt {i : Nat} {y : Int32} (hi : i < 2 ^ 31) (h : ¬ y ≤ nI i) : (i : Int) < y.toInt := by
  have h2 := Int32.lt_iff_toInt_lt.mp (Int32.not_le.mp h)
  rw [nI_toInt hi] at h2
  exact h2
theorem gt0 {x : Int32} (h : ¬ x ≤ 0) : ¬ x = 0 := fun z => h (by rw [z]; exact Int32.le_refl _)
theorem i32_top (y : Int32) : y.toInt < 2147483648 := by
  have := Int32.toInt_lt y
  omega
theorem ok_X3_draw : okV yX3_draw cX3_draw 7 none 3 := ⟨⟨w_476, w_44, ⟨by decide +kernel, by decide +kernel, by decide +kernel⟩⟩, trivial, w_474, w_475⟩
theorem ok_X3_bitAt : okS yX3_bitAt cX3_bitAt 4 (some .int) 2 := ⟨⟨w_492, w_44, ⟨by decide +kernel, by decide +kernel, by decide +kernel⟩⟩, trivial, w_491, trivial⟩
theorem ok_X3_strike : okV yX3_strike cX3_strike 4 none 2 := ⟨⟨w_496, w_44, ⟨by decide +kernel, by decide +kernel, by decide +kernel⟩⟩, trivial, w_494, w_495⟩
theorem ok_X3_left : okV yX3_left cX3_left 1 (some .int) 0 := ⟨⟨w_510, w_44, ⟨by decide +kernel, by decide +kernel, by decide +kernel⟩⟩, trivial, w_508, w_509⟩
theorem ok_X3_leastLiked : okV yX3_leastLiked cX3_leastLiked 9 (some .int) 3 := ⟨⟨w_504, w_44, ⟨by decide +kernel, by decide +kernel, by decide +kernel⟩⟩, trivial, w_502, w_503⟩
theorem ok_X3_seat : okV yX3_seat cX3_seat 4 none 2 := ⟨⟨w_514, w_44, ⟨by decide +kernel, by decide +kernel, by decide +kernel⟩⟩, trivial, w_512, w_513⟩
theorem ok_X3_slipAt : okV yX3_slipAt cX3_slipAt 2 (some .int) 1 := ⟨⟨w_691, w_44, ⟨by decide +kernel, by decide +kernel, by decide +kernel⟩⟩, trivial, w_689, w_690⟩
theorem ok_X3_standing : okV yX3_standing cX3_standing 2 (some .int) 1 := ⟨⟨w_703, w_44, ⟨by decide +kernel, by decide +kernel, by decide +kernel⟩⟩, trivial, w_701, w_702⟩
theorem ok_X3_figure : okV yX3_figure cX3_figure 2 (some .int) 1 := ⟨⟨w_724, w_44, ⟨by decide +kernel, by decide +kernel, by decide +kernel⟩⟩, trivial, w_722, w_723⟩
theorem ok_X3_fold : okV yX3_fold cX3_fold 4 (some .long) 1 := ⟨⟨w_968, w_44, ⟨by decide +kernel, by decide +kernel, by decide +kernel⟩⟩, trivial, w_966, w_967⟩
set_option maxHeartbeats 4000000 in
set_option maxRecDepth 100000 in
theorem h_bitAt (l : Launch) (G : gW) (g : Nat → Nat) (hg : gOK g) (f : Nat → va_E) (n : Int32) (q : Int32)   : Met l yX3_bitAt (wsT yX3_bitAt cX3_bitAt 4 (some .int)) ({ frames := 1, cells := 0, slots := 0, locals := 21 }) (bP G g f [.int n, .int q]) (rQi (fun z9 => True)) 0 0 fr0 := by
  refine Met.ofW (cc := cX3_bitAt) (maxL := 4) (ret := (some .int)) (by decide) rfl ?_
  intro p e s m args below meth c s₁ B hml hv
  obtain ⟨rfl, hP, hG⟩ := hv
  have hx := B.exec
  have hb := B.bytes
  have hr := B.returns
  have hts := my_hts (atoms_spec (ws := wsT yX3_bitAt cX3_bitAt 4 (some .int)) B.pre)
  have hown : s.vm.findClass RX3 = some m.cls := findClass_of_methodNamed B.named
  have hlocks := B.notSynchronized
  have hl := lv_entry ([.int n, .int q]) (n := 4) (Nat.le_of_ble_eq_true rfl)
  rw [lg_entry_eq]
  generalize (lg_sl ([.int n, .int q]) ++ List.replicate (4 - (lg_sl ([.int n, .int q])).length) Slot.unset).toArray = ls at hl ⊢
  have hl : lv_has ls 4 [(0, .int n), (1, .int q)] := hl
  refine lv_iconst (v := 0) hx hb dX3_bitAt_0 (by decide) ?_
  refine lv_istore_n (lv' := [(2, .int 0), (0, .int n), (1, .int q)]) hx hb dX3_bitAt_1 rfl hl (by decide) rfl (fun ls hl => ?_)
  refine lv_iconst (v := 0) hx hb dX3_bitAt_2 (by decide) ?_
  refine lv_istore_n (lv' := [(3, .int 0), (2, .int 0), (0, .int n), (1, .int q)]) hx hb dX3_bitAt_3 rfl hl (by decide) rfl (fun ls hl => ?_)
  have key1 : ∀ (n9 : Nat) (u : Int32) (i : Nat) (ls : Array Slot), (i ≤ 30) → 30 - i < n9 → lv_has ls 4 [(0, .int n), (1, .int q), (2, .int u), (3, .int (nI i))] → W p l e (headSpec (wsT yX3_bitAt cX3_bitAt 4 (some .int)) ({ frames := 1, cells := 0, slots := 0, locals := 21 })).room s m ([.int n, .int q] : List Value).toArray below meth c s.heap [] 0 0 (MQ below (rQi (fun z9 => True)) ([.int n, .int q] : List Value).toArray s 0 0 fr0) (F0 m 4 ls []) := by
    intro n9
    induction n9 with
    | zero => intro u i ls hi hn9; exact absurd hn9 (Nat.not_lt_zero _)
    | succ n9 ih =>
      intro u i ls hi hn9 hl
      refine lv_iload_n hx hb dX3_bitAt_4 rfl (lv_at hl 3 rfl) ?_
      refine lv_bipush (v := 30) hx hb dX3_bitAt_5 (by decide) ?_
      refine lv_icmp_ge (tgt := 34) hx hb dX3_bitAt_7 (by decide) (fun c_7 => ?_) (fun c_7 => ?_)
      · refine lv_iconst (v := 0) hx hb dX3_bitAt_34 (by decide) ?_
        exact W.iret (v := 0) hx hb hr (fun t ht hW => ⟨_, rfl, (trivial), ht⟩) (fun _ h => absurd h List.not_mem_nil) dX3_bitAt_35
      · have hi9 : i < 30 := Nat.not_le.mp (fun z => c_7 (nI_le z (by omega)))
        refine lv_iload_n hx hb dX3_bitAt_10 rfl (lv_at hl 0 rfl) ?_
        refine lv_iload_n hx hb dX3_bitAt_11 rfl (lv_at hl 3 rfl) ?_
        refine rd_calli (va_runSN (As := [.int n, .int (nI i)]) (rest := []) ⟨hx, hb, hml, hown, hts⟩ (s_hasBit l G g hg f n (nI i)  ) (⟨my_cn hts ok_X10_hasBit.1 (hG.2.1 (.methodLinkNest RX3 44 yX10_hasBit RX10) (List.mem_of_getElem? (i := 33) rfl)) rfl rfl ⟨Nat.le_of_ble_eq_true rfl, Nat.le_of_ble_eq_true rfl⟩, hts _ ok_X10_hasBit.2.2.1, trivial⟩) ⟨bP.blind, fun U hU hW => ⟨rfl, by rw [hU]; exact hP, kG.warm hW hG⟩⟩ rfl rfl hl.1 rfl (lv_room (Nat.le_of_ble_eq_true rfl)) dX3_bitAt_12 ⟨Nat.le_of_ble_eq_true rfl, Nat.le_of_ble_eq_true rfl⟩) (fun r hr9 => ?_)
        subst hr9
        refine my_ifeq (tgt := 28) hx hb dX3_bitAt_15 (by decide) (fun c_15 => ?_) (fun c_15 => ?_)
        · refine lv_iinc (v := nI (i + 1)) (lv' := [(3, .int (nI (i + 1))), (0, .int n), (1, .int q), (2, .int u)]) hx hb dX3_bitAt_28 hl (k := 3) rfl (nI_1 i) (by decide) rfl (fun ls hl => ?_)
          refine lv_goto (tgt := 4) hx hb dX3_bitAt_31 (by decide) ?_
          exact ih u (i + 1) _ (hi9) (by omega) (lv_sub hl [1, 2, 3, 0] rfl)
        · refine lv_iload_n hx hb dX3_bitAt_18 rfl (lv_at hl 2 rfl) ?_
          refine lv_iload_n hx hb dX3_bitAt_19 rfl (lv_at hl 1 rfl) ?_
          refine lv_icmp_ne (tgt := 25) hx hb dX3_bitAt_20 (by decide) (fun c_20 => ?_) (fun c_20 => ?_)
          · refine lv_iinc (v := u + 1) (lv' := [(2, .int (u + 1)), (0, .int n), (1, .int q), (3, .int (nI i))]) hx hb dX3_bitAt_25 hl (k := 2) rfl (rfl) (by decide) rfl (fun ls hl => ?_)
            refine lv_iinc (v := nI (i + 1)) (lv' := [(3, .int (nI (i + 1))), (2, .int (u + 1)), (0, .int n), (1, .int q)]) hx hb dX3_bitAt_28 hl (k := 3) rfl (nI_1 i) (by decide) rfl (fun ls hl => ?_)
            refine lv_goto (tgt := 4) hx hb dX3_bitAt_31 (by decide) ?_
            exact ih (u + 1) (i + 1) _ (hi9) (by omega) (lv_sub hl [2, 3, 1, 0] rfl)
          · refine lv_iload_n hx hb dX3_bitAt_23 rfl (lv_at hl 3 rfl) ?_
            exact W.iret (v := nI i) hx hb hr (fun t ht hW => ⟨_, rfl, (trivial), ht⟩) (fun _ h => absurd h List.not_mem_nil) dX3_bitAt_24
  exact key1 (30 + 1) 0 0 _ (Nat.zero_le _) (by omega) (lv_sub hl [2, 3, 1, 0] rfl)
set_option maxHeartbeats 4000000 in
set_option maxRecDepth 100000 in
theorem h_left (l : Launch) (G : gW) (g : Nat → Nat) (hg : gOK g) (f : Nat → va_E) (k : Nat) (sl : Nat) (lo : Int32) (ib : Int32) (ca : Int32) (mi : Int32) (s0 : Int32) (s1 : Int32) (sw : Int32) (hhe : f k = eO 3 [.ref (g (k + 1)), .int (nI sl), .int lo, .int ib, .int ca, .int mi, .int s0, .int s1, .int sw]) (hk3 : k + 1 < 36) (hsl : sl ≤ 24) : Met l yX3_left (wsT yX3_left cX3_left 1 (some .int)) ({ frames := 0, cells := 0, slots := 0, locals := 0 }) (bP G g f [.ref (g k)]) (rQi (fun z9 => True)) 0 0 fr0 := by
  refine Met.ofW (cc := cX3_left) (maxL := 1) (ret := (some .int)) (by decide) rfl ?_
  intro p e s m args below meth c s₁ B hml hv
  obtain ⟨rfl, hP, hG⟩ := hv
  have hx := B.exec
  have hb := B.bytes
  have hr := B.returns
  have hts := my_hts (atoms_spec (ws := wsT yX3_left cX3_left 1 (some .int)) B.pre)
  have hown : s.vm.findClass RX3 = some m.cls := findClass_of_methodNamed B.named
  have hlocks := B.notSynchronized
  have hl := lv_entry ([.ref (g k)]) (n := 1) (Nat.le_of_ble_eq_true rfl)
  rw [lg_entry_eq]
  generalize (lg_sl ([.ref (g k)]) ++ List.replicate (1 - (lg_sl ([.ref (g k)])).length) Slot.unset).toArray = ls at hl ⊢
  have hl : lv_has ls 1 [(0, .ref (g k))] := hl
  refine lv_aload_n hx hb dX3_left_0 rfl (lv_at hl 0 rfl) ?_
  refine va_get (D := G.1) (ci := 3) (v := .int ca) (C := RX3) (T := TX3) (N := 9) hx hb hts inlX3 hown hG.1 hP k (wl_at (by omega) hhe) rfl 4 (by decide) (hts (.fieldLink RX3 25 "SwornLists$Hearing" "called" "I") w_480) (fun _ h9 => h9) rfl dX3_left_1 ?_
  refine lv_aload_n hx hb dX3_left_4 rfl (lv_at hl 0 rfl) ?_
  refine va_get (D := G.1) (ci := 3) (v := .int mi) (C := RX3) (T := TX3) (N := 9) hx hb hts inlX3 hown hG.1 hP k (wl_at (by omega) hhe) rfl 5 (by decide) (hts (.fieldLink RX3 53 "SwornLists$Hearing" "missing" "I") w_497) (fun _ h9 => h9) rfl dX3_left_5 ?_
  refine lv_iconst (v := (-1)) hx hb dX3_left_8 (by decide) ?_
  refine lv_ixor hx hb dX3_left_9 ?_
  refine lv_iand hx hb dX3_left_10 ?_
  refine lv_aload_n hx hb dX3_left_11 rfl (lv_at hl 0 rfl) ?_
  refine va_get (D := G.1) (ci := 3) (v := .int s0) (C := RX3) (T := TX3) (N := 9) hx hb hts inlX3 hown hG.1 hP k (wl_at (by omega) hhe) rfl 6 (by decide) (hts (.fieldLink RX3 56 "SwornLists$Hearing" "struckBy0" "I") w_498) (fun _ h9 => h9) rfl dX3_left_12 ?_
  refine lv_iconst (v := (-1)) hx hb dX3_left_15 (by decide) ?_
  refine lv_ixor hx hb dX3_left_16 ?_
  refine lv_iand hx hb dX3_left_17 ?_
  refine lv_aload_n hx hb dX3_left_18 rfl (lv_at hl 0 rfl) ?_
  refine va_get (D := G.1) (ci := 3) (v := .int s1) (C := RX3) (T := TX3) (N := 9) hx hb hts inlX3 hown hG.1 hP k (wl_at (by omega) hhe) rfl 7 (by decide) (hts (.fieldLink RX3 59 "SwornLists$Hearing" "struckBy1" "I") w_499) (fun _ h9 => h9) rfl dX3_left_19 ?_
  refine lv_iconst (v := (-1)) hx hb dX3_left_22 (by decide) ?_
  refine lv_ixor hx hb dX3_left_23 ?_
  refine lv_iand hx hb dX3_left_24 ?_
  exact W.iret (v := ((ca &&& (mi ^^^ (-1))) &&& (s0 ^^^ (-1))) &&& (s1 ^^^ (-1))) hx hb hr (fun t ht hW => ⟨_, rfl, (trivial), ht⟩) (fun _ h => absurd h List.not_mem_nil) dX3_left_25
set_option maxHeartbeats 4000000 in
set_option maxRecDepth 100000 in
theorem h_figure (l : Launch) (G : gW) (g : Nat → Nat) (hg : gOK g) (f : Nat → va_E) (k : Nat) (sl : Nat) (lo : Int32) (ib : Int32) (ca : Int32) (mi : Int32) (s0 : Int32) (s1 : Int32) (sw : Int32) (q : Int32) (hhe : f k = eO 3 [.ref (g (k + 1)), .int (nI sl), .int lo, .int ib, .int ca, .int mi, .int s0, .int s1, .int sw]) (hk3 : k + 1 < 36) (hsl : sl ≤ 24) : Met l yX3_figure (wsT yX3_figure cX3_figure 2 (some .int)) ({ frames := 1, cells := 0, slots := 0, locals := 20 }) (bP G g f [.ref (g k), .int q]) (rQi (fun z9 => True)) 0 0 fr0 := by
  refine Met.ofW (cc := cX3_figure) (maxL := 2) (ret := (some .int)) (by decide) rfl ?_
  intro p e s m args below meth c s₁ B hml hv
  obtain ⟨rfl, hP, hG⟩ := hv
  have hx := B.exec
  have hb := B.bytes
  have hr := B.returns
  have hts := my_hts (atoms_spec (ws := wsT yX3_figure cX3_figure 2 (some .int)) B.pre)
  have hown : s.vm.findClass RX3 = some m.cls := findClass_of_methodNamed B.named
  have hlocks := B.notSynchronized
  have hl := lv_entry ([.ref (g k), .int q]) (n := 2) (Nat.le_of_ble_eq_true rfl)
  rw [lg_entry_eq]
  generalize (lg_sl ([.ref (g k), .int q]) ++ List.replicate (2 - (lg_sl ([.ref (g k), .int q])).length) Slot.unset).toArray = ls at hl ⊢
  have hl : lv_has ls 2 [(0, .ref (g k)), (1, .int q)] := hl
  refine lv_iload_n hx hb dX3_figure_0 rfl (lv_at hl 1 rfl) ?_
  by_cases e_0 : q = 0
  · refine my_bei e_0 ?_
    refine lv_tableIn (off := 27) (tgt := 28) hx hb dX3_figure_1 (by decide) (by decide) (by decide) (by decide) ?_
    refine lv_aload_n hx hb dX3_figure_28 rfl (lv_at hl 0 rfl) ?_
    refine va_get (D := G.1) (ci := 3) (v := .int sw) (C := RX3) (T := TX3) (N := 9) hx hb hts inlX3 hown hG.1 hP k (wl_at (by omega) hhe) rfl 8 (by decide) (hts (.fieldLink RX3 73 "SwornLists$Hearing" "sworn" "I") w_515) (fun _ h9 => h9) rfl dX3_figure_29 ?_
    refine lv_aload_n hx hb dX3_figure_32 rfl (lv_at hl 0 rfl) ?_
    refine va_get (D := G.1) (ci := 3) (v := .int ib) (C := RX3) (T := TX3) (N := 9) hx hb hts inlX3 hown hG.1 hP k (wl_at (by omega) hhe) rfl 3 (by decide) (hts (.fieldLink RX3 15 "SwornLists$Hearing" "inBox" "I") w_477) (fun _ h9 => h9) rfl dX3_figure_33 ?_
    refine lv_iconst (v := (-1)) hx hb dX3_figure_36 (by decide) ?_
    refine lv_ixor hx hb dX3_figure_37 ?_
    refine lv_iand hx hb dX3_figure_38 ?_
    refine rd_calli (va_runS (As := [.int (sw &&& (ib ^^^ (-1)))]) (rest := []) ⟨hx, hb, hml, hown, hts⟩ (s_bitCount l G g hg f (sw &&& (ib ^^^ (-1)))  ) (my_cwS hts ok_J6_bitCount_0f7a4 w_483 rfl rfl ⟨Nat.le_of_ble_eq_true rfl, Nat.le_of_ble_eq_true rfl⟩) ⟨bP.blind, fun U hU hW => ⟨rfl, by rw [hU]; exact hP, kG.warm hW hG⟩⟩ rfl rfl hl.1 rfl (lv_room (Nat.le_of_ble_eq_true rfl)) dX3_figure_39 ⟨Nat.le_of_ble_eq_true rfl, Nat.le_of_ble_eq_true rfl⟩) (fun v1 _ => ?_)
    exact W.iret (v := v1) hx hb hr (fun t ht hW => ⟨_, rfl, (trivial), ht⟩) (fun _ h => absurd h List.not_mem_nil) dX3_figure_42
  by_cases e_1 : q = 1
  · refine my_bei e_1 ?_
    refine lv_tableIn (off := 42) (tgt := 43) hx hb dX3_figure_1 (by decide) (by decide) (by decide) (by decide) ?_
    refine lv_aload_n hx hb dX3_figure_43 rfl (lv_at hl 0 rfl) ?_
    refine va_get (D := G.1) (ci := 3) (v := .int s0) (C := RX3) (T := TX3) (N := 9) hx hb hts inlX3 hown hG.1 hP k (wl_at (by omega) hhe) rfl 6 (by decide) (hts (.fieldLink RX3 56 "SwornLists$Hearing" "struckBy0" "I") w_498) (fun _ h9 => h9) rfl dX3_figure_44 ?_
    refine rd_calli (va_runS (As := [.int s0]) (rest := []) ⟨hx, hb, hml, hown, hts⟩ (s_bitCount l G g hg f s0  ) (my_cwS hts ok_J6_bitCount_0f7a4 w_483 rfl rfl ⟨Nat.le_of_ble_eq_true rfl, Nat.le_of_ble_eq_true rfl⟩) ⟨bP.blind, fun U hU hW => ⟨rfl, by rw [hU]; exact hP, kG.warm hW hG⟩⟩ rfl rfl hl.1 rfl (lv_room (Nat.le_of_ble_eq_true rfl)) dX3_figure_47 ⟨Nat.le_of_ble_eq_true rfl, Nat.le_of_ble_eq_true rfl⟩) (fun v2 _ => ?_)
    exact W.iret (v := v2) hx hb hr (fun t ht hW => ⟨_, rfl, (trivial), ht⟩) (fun _ h => absurd h List.not_mem_nil) dX3_figure_50
  by_cases e_2 : q = 2
  · refine my_bei e_2 ?_
    refine lv_tableIn (off := 50) (tgt := 51) hx hb dX3_figure_1 (by decide) (by decide) (by decide) (by decide) ?_
    refine lv_aload_n hx hb dX3_figure_51 rfl (lv_at hl 0 rfl) ?_
    refine va_get (D := G.1) (ci := 3) (v := .int s1) (C := RX3) (T := TX3) (N := 9) hx hb hts inlX3 hown hG.1 hP k (wl_at (by omega) hhe) rfl 7 (by decide) (hts (.fieldLink RX3 59 "SwornLists$Hearing" "struckBy1" "I") w_499) (fun _ h9 => h9) rfl dX3_figure_52 ?_
    refine rd_calli (va_runS (As := [.int s1]) (rest := []) ⟨hx, hb, hml, hown, hts⟩ (s_bitCount l G g hg f s1  ) (my_cwS hts ok_J6_bitCount_0f7a4 w_483 rfl rfl ⟨Nat.le_of_ble_eq_true rfl, Nat.le_of_ble_eq_true rfl⟩) ⟨bP.blind, fun U hU hW => ⟨rfl, by rw [hU]; exact hP, kG.warm hW hG⟩⟩ rfl rfl hl.1 rfl (lv_room (Nat.le_of_ble_eq_true rfl)) dX3_figure_55 ⟨Nat.le_of_ble_eq_true rfl, Nat.le_of_ble_eq_true rfl⟩) (fun v3 _ => ?_)
    exact W.iret (v := v3) hx hb hr (fun t ht hW => ⟨_, rfl, (trivial), ht⟩) (fun _ h => absurd h List.not_mem_nil) dX3_figure_58
  have n_0 : q.toInt ≠ 0 := fun z => e_0 (Int32.toInt_inj.mp (z.trans (by decide)))
  have n_1 : q.toInt ≠ 1 := fun z => e_1 (Int32.toInt_inj.mp (z.trans (by decide)))
  have n_2 : q.toInt ≠ 2 := fun z => e_2 (Int32.toInt_inj.mp (z.trans (by decide)))
  refine lv_tableOut (tgt := 59) hx hb dX3_figure_1 (by omega) (by decide) ?_
  refine lv_aload_n hx hb dX3_figure_59 rfl (lv_at hl 0 rfl) ?_
  refine va_get (D := G.1) (ci := 3) (v := .int lo) (C := RX3) (T := TX3) (N := 9) hx hb hts inlX3 hown hG.1 hP k (wl_at (by omega) hhe) rfl 2 (by decide) (hts (.fieldLink RX3 19 "SwornLists$Hearing" "lot" "I") w_478) (fun _ h9 => h9) rfl dX3_figure_60 ?_
  exact W.iret (v := lo) hx hb hr (fun t ht hW => ⟨_, rfl, (trivial), ht⟩) (fun _ h => absurd h List.not_mem_nil) dX3_figure_63
set_option maxHeartbeats 4000000 in
set_option maxRecDepth 100000 in
theorem h_fold (l : Launch) (G : gW) (g : Nat → Nat) (hg : gOK g) (f : Nat → va_E) (k : Nat) (sl : Nat) (lo : Int32) (ib : Int32) (ca : Int32) (mi : Int32) (s0 : Int32) (s1 : Int32) (sw : Int32) (h : Int64) (hhe : f k = eO 3 [.ref (g (k + 1)), .int (nI sl), .int lo, .int ib, .int ca, .int mi, .int s0, .int s1, .int sw]) (hk3 : k + 1 < 36) (hsl : sl ≤ 24) : Met l yX3_fold (wsT yX3_fold cX3_fold 4 (some .long)) ({ frames := 2, cells := 0, slots := 0, locals := 41 }) (bP G g f [.ref (g k), .long h]) (rQl (fun z9 => True)) 0 0 fr0 := by
  refine Met.ofW (cc := cX3_fold) (maxL := 4) (ret := (some .long)) (by decide) rfl ?_
  intro p e s m args below meth c s₁ B hml hv
  obtain ⟨rfl, hP, hG⟩ := hv
  have hx := B.exec
  have hb := B.bytes
  have hr := B.returns
  have hts := my_hts (atoms_spec (ws := wsT yX3_fold cX3_fold 4 (some .long)) B.pre)
  have hown : s.vm.findClass RX3 = some m.cls := findClass_of_methodNamed B.named
  have hlocks := B.notSynchronized
  have hl := lv_entry ([.ref (g k), .long h]) (n := 4) (Nat.le_of_ble_eq_true rfl)
  rw [lg_entry_eq]
  generalize (lg_sl ([.ref (g k), .long h]) ++ List.replicate (4 - (lg_sl ([.ref (g k), .long h])).length) Slot.unset).toArray = ls at hl ⊢
  have hl : lv_has ls 4 [(0, .ref (g k)), (1, .long h)] := hl
  refine lv_ldc2 (v := 31) hx hb hown (hts (.constantLong RX3 76 (31)) w_969) dX3_fold_0 ?_
  refine lv_lload_n hx hb dX3_fold_3 rfl (lv_at hl 1 rfl) ?_
  refine lv_lmul hx hb dX3_fold_4 ?_
  refine lv_aload_n hx hb dX3_fold_5 rfl (lv_at hl 0 rfl) ?_
  refine va_get (D := G.1) (ci := 3) (v := .int ib) (C := RX3) (T := TX3) (N := 9) hx hb hts inlX3 hown hG.1 hP k (wl_at (by omega) hhe) rfl 3 (by decide) (hts (.fieldLink RX3 15 "SwornLists$Hearing" "inBox" "I") w_477) (fun _ h9 => h9) rfl dX3_fold_6 ?_
  refine lv_i2l hx hb dX3_fold_9 rfl ?_
  refine lv_ladd hx hb dX3_fold_10 ?_
  refine lv_lstore_n (lv' := [(1, .long ((31 * h) + (Int32.toInt64 ib))), (0, .ref (g k))]) hx hb dX3_fold_11 rfl hl (by decide) rfl (fun ls hl => ?_)
  refine lv_ldc2 (v := 31) hx hb hown (hts (.constantLong RX3 76 (31)) w_969) dX3_fold_12 ?_
  refine lv_lload_n hx hb dX3_fold_15 rfl (lv_at hl 0 rfl) ?_
  refine lv_lmul hx hb dX3_fold_16 ?_
  refine lv_aload_n hx hb dX3_fold_17 rfl (lv_at hl 1 rfl) ?_
  refine va_get (D := G.1) (ci := 3) (v := .int sw) (C := RX3) (T := TX3) (N := 9) hx hb hts inlX3 hown hG.1 hP k (wl_at (by omega) hhe) rfl 8 (by decide) (hts (.fieldLink RX3 73 "SwornLists$Hearing" "sworn" "I") w_515) (fun _ h9 => h9) rfl dX3_fold_18 ?_
  refine lv_i2l hx hb dX3_fold_21 rfl ?_
  refine lv_ladd hx hb dX3_fold_22 ?_
  refine lv_lstore_n (lv' := [(1, .long ((31 * ((31 * h) + (Int32.toInt64 ib))) + (Int32.toInt64 sw))), (0, .ref (g k))]) hx hb dX3_fold_23 rfl hl (by decide) rfl (fun ls hl => ?_)
  refine lv_iconst (v := 0) hx hb dX3_fold_24 (by decide) ?_
  refine lv_istore_n (lv' := [(3, .int 0), (1, .long ((31 * ((31 * h) + (Int32.toInt64 ib))) + (Int32.toInt64 sw))), (0, .ref (g k))]) hx hb dX3_fold_25 rfl hl (by decide) rfl (fun ls hl => ?_)
  refine lv_iload_n hx hb dX3_fold_26 rfl (lv_at hl 0 rfl) ?_
  refine lv_iconst (v := 3) hx hb dX3_fold_27 (by decide) ?_
  refine lv_icmp_gt (tgt := 50) hx hb dX3_fold_28 (by decide) (fun c_28 => absurd c_28 (by decide)) (fun c_28 => ?_)
  refine lv_ldc2 (v := 31) hx hb hown (hts (.constantLong RX3 76 (31)) w_969) dX3_fold_31 ?_
  refine lv_lload_n hx hb dX3_fold_34 rfl (lv_at hl 1 rfl) ?_
  refine lv_lmul hx hb dX3_fold_35 ?_
  refine lv_aload_n hx hb dX3_fold_36 rfl (lv_at hl 2 rfl) ?_
  refine lv_iload_n hx hb dX3_fold_37 rfl (lv_at hl 0 rfl) ?_
  refine rd_calli (va_runV (As := [.int 0]) (rest := [.long (31 * ((31 * ((31 * h) + (Int32.toInt64 ib))) + (Int32.toInt64 sw)))]) ⟨hx, hb, hml, hown, hts⟩ (h_figure l G g hg f k sl lo ib ca mi s0 s1 sw 0 hhe (by first | assumption | omega | decide) (by first | assumption | omega | decide)) (my_cwV hts ok_X3_figure w_970 rfl rfl ⟨Nat.le_of_ble_eq_true rfl, Nat.le_of_ble_eq_true rfl⟩) ⟨bP.blind, va_recv hG.1 hP (ci := 3) (q0 := k) rfl (wl_at (by omega) hhe), fun U hU hW => ⟨rfl, by rw [hU]; exact hP, kG.warm hW hG⟩⟩ rfl rfl hl.1 rfl (lv_room (Nat.le_of_ble_eq_true rfl)) dX3_fold_38 ⟨Nat.le_of_ble_eq_true rfl, Nat.le_of_ble_eq_true rfl⟩) (fun v1 _ => ?_)
  refine lv_i2l hx hb dX3_fold_41 rfl ?_
  refine lv_ladd hx hb dX3_fold_42 ?_
  refine lv_lstore_n (lv' := [(1, .long ((31 * ((31 * ((31 * h) + (Int32.toInt64 ib))) + (Int32.toInt64 sw))) + (Int32.toInt64 v1))), (3, .int 0), (0, .ref (g k))]) hx hb dX3_fold_43 rfl hl (by decide) rfl (fun ls hl => ?_)
  refine lv_iinc (v := 1) (lv' := [(3, .int 1), (1, .long ((31 * ((31 * ((31 * h) + (Int32.toInt64 ib))) + (Int32.toInt64 sw))) + (Int32.toInt64 v1))), (0, .ref (g k))]) hx hb dX3_fold_44 hl (k := 1) rfl (by decide) (by decide) rfl (fun ls hl => ?_)
  refine lv_goto (tgt := 26) hx hb dX3_fold_47 (by decide) ?_
  refine lv_iload_n hx hb dX3_fold_26 rfl (lv_at hl 0 rfl) ?_
  refine lv_iconst (v := 3) hx hb dX3_fold_27 (by decide) ?_
  refine lv_icmp_gt (tgt := 50) hx hb dX3_fold_28 (by decide) (fun c_28 => absurd c_28 (by decide)) (fun c_28 => ?_)
  refine lv_ldc2 (v := 31) hx hb hown (hts (.constantLong RX3 76 (31)) w_969) dX3_fold_31 ?_
  refine lv_lload_n hx hb dX3_fold_34 rfl (lv_at hl 1 rfl) ?_
  refine lv_lmul hx hb dX3_fold_35 ?_
  refine lv_aload_n hx hb dX3_fold_36 rfl (lv_at hl 2 rfl) ?_
  refine lv_iload_n hx hb dX3_fold_37 rfl (lv_at hl 0 rfl) ?_
  refine rd_calli (va_runV (As := [.int 1]) (rest := [.long (31 * ((31 * ((31 * ((31 * h) + (Int32.toInt64 ib))) + (Int32.toInt64 sw))) + (Int32.toInt64 v1)))]) ⟨hx, hb, hml, hown, hts⟩ (h_figure l G g hg f k sl lo ib ca mi s0 s1 sw 1 hhe (by first | assumption | omega | decide) (by first | assumption | omega | decide)) (my_cwV hts ok_X3_figure w_970 rfl rfl ⟨Nat.le_of_ble_eq_true rfl, Nat.le_of_ble_eq_true rfl⟩) ⟨bP.blind, va_recv hG.1 hP (ci := 3) (q0 := k) rfl (wl_at (by omega) hhe), fun U hU hW => ⟨rfl, by rw [hU]; exact hP, kG.warm hW hG⟩⟩ rfl rfl hl.1 rfl (lv_room (Nat.le_of_ble_eq_true rfl)) dX3_fold_38 ⟨Nat.le_of_ble_eq_true rfl, Nat.le_of_ble_eq_true rfl⟩) (fun v2 _ => ?_)
  refine lv_i2l hx hb dX3_fold_41 rfl ?_
  refine lv_ladd hx hb dX3_fold_42 ?_
  refine lv_lstore_n (lv' := [(1, .long ((31 * ((31 * ((31 * ((31 * h) + (Int32.toInt64 ib))) + (Int32.toInt64 sw))) + (Int32.toInt64 v1))) + (Int32.toInt64 v2))), (3, .int 1), (0, .ref (g k))]) hx hb dX3_fold_43 rfl hl (by decide) rfl (fun ls hl => ?_)
  refine lv_iinc (v := 2) (lv' := [(3, .int 2), (1, .long ((31 * ((31 * ((31 * ((31 * h) + (Int32.toInt64 ib))) + (Int32.toInt64 sw))) + (Int32.toInt64 v1))) + (Int32.toInt64 v2))), (0, .ref (g k))]) hx hb dX3_fold_44 hl (k := 1) rfl (by decide) (by decide) rfl (fun ls hl => ?_)
  refine lv_goto (tgt := 26) hx hb dX3_fold_47 (by decide) ?_
  refine lv_iload_n hx hb dX3_fold_26 rfl (lv_at hl 0 rfl) ?_
  refine lv_iconst (v := 3) hx hb dX3_fold_27 (by decide) ?_
  refine lv_icmp_gt (tgt := 50) hx hb dX3_fold_28 (by decide) (fun c_28 => absurd c_28 (by decide)) (fun c_28 => ?_)
  refine lv_ldc2 (v := 31) hx hb hown (hts (.constantLong RX3 76 (31)) w_969) dX3_fold_31 ?_
  refine lv_lload_n hx hb dX3_fold_34 rfl (lv_at hl 1 rfl) ?_
  refine lv_lmul hx hb dX3_fold_35 ?_
  refine lv_aload_n hx hb dX3_fold_36 rfl (lv_at hl 2 rfl) ?_
  refine lv_iload_n hx hb dX3_fold_37 rfl (lv_at hl 0 rfl) ?_
  refine rd_calli (va_runV (As := [.int 2]) (rest := [.long (31 * ((31 * ((31 * ((31 * ((31 * h) + (Int32.toInt64 ib))) + (Int32.toInt64 sw))) + (Int32.toInt64 v1))) + (Int32.toInt64 v2)))]) ⟨hx, hb, hml, hown, hts⟩ (h_figure l G g hg f k sl lo ib ca mi s0 s1 sw 2 hhe (by first | assumption | omega | decide) (by first | assumption | omega | decide)) (my_cwV hts ok_X3_figure w_970 rfl rfl ⟨Nat.le_of_ble_eq_true rfl, Nat.le_of_ble_eq_true rfl⟩) ⟨bP.blind, va_recv hG.1 hP (ci := 3) (q0 := k) rfl (wl_at (by omega) hhe), fun U hU hW => ⟨rfl, by rw [hU]; exact hP, kG.warm hW hG⟩⟩ rfl rfl hl.1 rfl (lv_room (Nat.le_of_ble_eq_true rfl)) dX3_fold_38 ⟨Nat.le_of_ble_eq_true rfl, Nat.le_of_ble_eq_true rfl⟩) (fun v3 _ => ?_)
  refine lv_i2l hx hb dX3_fold_41 rfl ?_
  refine lv_ladd hx hb dX3_fold_42 ?_
  refine lv_lstore_n (lv' := [(1, .long ((31 * ((31 * ((31 * ((31 * ((31 * h) + (Int32.toInt64 ib))) + (Int32.toInt64 sw))) + (Int32.toInt64 v1))) + (Int32.toInt64 v2))) + (Int32.toInt64 v3))), (3, .int 2), (0, .ref (g k))]) hx hb dX3_fold_43 rfl hl (by decide) rfl (fun ls hl => ?_)
  refine lv_iinc (v := 3) (lv' := [(3, .int 3), (1, .long ((31 * ((31 * ((31 * ((31 * ((31 * h) + (Int32.toInt64 ib))) + (Int32.toInt64 sw))) + (Int32.toInt64 v1))) + (Int32.toInt64 v2))) + (Int32.toInt64 v3))), (0, .ref (g k))]) hx hb dX3_fold_44 hl (k := 1) rfl (by decide) (by decide) rfl (fun ls hl => ?_)
  refine lv_goto (tgt := 26) hx hb dX3_fold_47 (by decide) ?_
  refine lv_iload_n hx hb dX3_fold_26 rfl (lv_at hl 0 rfl) ?_
  refine lv_iconst (v := 3) hx hb dX3_fold_27 (by decide) ?_
  refine lv_icmp_gt (tgt := 50) hx hb dX3_fold_28 (by decide) (fun c_28 => absurd c_28 (by decide)) (fun c_28 => ?_)
  refine lv_ldc2 (v := 31) hx hb hown (hts (.constantLong RX3 76 (31)) w_969) dX3_fold_31 ?_
  refine lv_lload_n hx hb dX3_fold_34 rfl (lv_at hl 1 rfl) ?_
  refine lv_lmul hx hb dX3_fold_35 ?_
  refine lv_aload_n hx hb dX3_fold_36 rfl (lv_at hl 2 rfl) ?_
  refine lv_iload_n hx hb dX3_fold_37 rfl (lv_at hl 0 rfl) ?_
  refine rd_calli (va_runV (As := [.int 3]) (rest := [.long (31 * ((31 * ((31 * ((31 * ((31 * ((31 * h) + (Int32.toInt64 ib))) + (Int32.toInt64 sw))) + (Int32.toInt64 v1))) + (Int32.toInt64 v2))) + (Int32.toInt64 v3)))]) ⟨hx, hb, hml, hown, hts⟩ (h_figure l G g hg f k sl lo ib ca mi s0 s1 sw 3 hhe (by first | assumption | omega | decide) (by first | assumption | omega | decide)) (my_cwV hts ok_X3_figure w_970 rfl rfl ⟨Nat.le_of_ble_eq_true rfl, Nat.le_of_ble_eq_true rfl⟩) ⟨bP.blind, va_recv hG.1 hP (ci := 3) (q0 := k) rfl (wl_at (by omega) hhe), fun U hU hW => ⟨rfl, by rw [hU]; exact hP, kG.warm hW hG⟩⟩ rfl rfl hl.1 rfl (lv_room (Nat.le_of_ble_eq_true rfl)) dX3_fold_38 ⟨Nat.le_of_ble_eq_true rfl, Nat.le_of_ble_eq_true rfl⟩) (fun v4 _ => ?_)
  refine lv_i2l hx hb dX3_fold_41 rfl ?_
  refine lv_ladd hx hb dX3_fold_42 ?_
  refine lv_lstore_n (lv' := [(1, .long ((31 * ((31 * ((31 * ((31 * ((31 * ((31 * h) + (Int32.toInt64 ib))) + (Int32.toInt64 sw))) + (Int32.toInt64 v1))) + (Int32.toInt64 v2))) + (Int32.toInt64 v3))) + (Int32.toInt64 v4))), (3, .int 3), (0, .ref (g k))]) hx hb dX3_fold_43 rfl hl (by decide) rfl (fun ls hl => ?_)
  refine lv_iinc (v := 4) (lv' := [(3, .int 4), (1, .long ((31 * ((31 * ((31 * ((31 * ((31 * ((31 * h) + (Int32.toInt64 ib))) + (Int32.toInt64 sw))) + (Int32.toInt64 v1))) + (Int32.toInt64 v2))) + (Int32.toInt64 v3))) + (Int32.toInt64 v4))), (0, .ref (g k))]) hx hb dX3_fold_44 hl (k := 1) rfl (by decide) (by decide) rfl (fun ls hl => ?_)
  refine lv_goto (tgt := 26) hx hb dX3_fold_47 (by decide) ?_
  refine lv_iload_n hx hb dX3_fold_26 rfl (lv_at hl 0 rfl) ?_
  refine lv_iconst (v := 3) hx hb dX3_fold_27 (by decide) ?_
  refine lv_icmp_gt (tgt := 50) hx hb dX3_fold_28 (by decide) (fun c_28 => ?_) (fun c_28 => absurd (by decide) c_28)
  refine lv_lload_n hx hb dX3_fold_50 rfl (lv_at hl 1 rfl) ?_
  exact W.lret (v := (31 * ((31 * ((31 * ((31 * ((31 * ((31 * h) + (Int32.toInt64 ib))) + (Int32.toInt64 sw))) + (Int32.toInt64 v1))) + (Int32.toInt64 v2))) + (Int32.toInt64 v3))) + (Int32.toInt64 v4)) hx hb hr (fun t ht hW => ⟨_, rfl, (trivial), ht⟩) (fun _ h => absurd h List.not_mem_nil) dX3_fold_51
set_option maxHeartbeats 4000000 in
set_option maxRecDepth 100000 in
theorem h_leastLiked (l : Launch) (G : gW) (g : Nat → Nat) (hg : gOK g) (f : Nat → va_E) (k : Nat) (sl : Nat) (lo : Int32) (ib : Int32) (ca : Int32) (mi : Int32) (s0 : Int32) (s1 : Int32) (sw : Int32) (od : Nat → Int32) (nt : Nat) (ct : Nat → Int32) (r : Int32) (q : Int32) (hhe : f k = eO 3 [.ref (g (k + 1)), .int (nI sl), .int lo, .int ib, .int ca, .int mi, .int s0, .int s1, .int sw]) (hor : f (k + 1) = eI G 24 od) (htr : f 45 = eO 5 [.int (nI 10), .int (nI 70), .ref (g 46), .int (nI nt)]) (hct : f 46 = eI G (10 * 70) ct) (hk3 : k + 1 < 36) (hsl : sl ≤ 24) (hnt : nt ≤ 10) : Met l yX3_leastLiked (wsT yX3_leastLiked cX3_leastLiked 9 (some .int)) ({ frames := 1, cells := 0, slots := 0, locals := 23 }) (bP G g f [.ref (g k), .ref (g 45), .int r, .int q]) (rQi (fun z9 => True)) 0 0 fr0 := by
  refine Met.ofW (cc := cX3_leastLiked) (maxL := 9) (ret := (some .int)) (by decide) rfl ?_
  intro p e s m args below meth c s₁ B hml hv
  obtain ⟨rfl, hP, hG⟩ := hv
  have hx := B.exec
  have hb := B.bytes
  have hr := B.returns
  have hts := my_hts (atoms_spec (ws := wsT yX3_leastLiked cX3_leastLiked 9 (some .int)) B.pre)
  have hown : s.vm.findClass RX3 = some m.cls := findClass_of_methodNamed B.named
  have hlocks := B.notSynchronized
  have hl := lv_entry ([.ref (g k), .ref (g 45), .int r, .int q]) (n := 9) (Nat.le_of_ble_eq_true rfl)
  rw [lg_entry_eq]
  generalize (lg_sl ([.ref (g k), .ref (g 45), .int r, .int q]) ++ List.replicate (9 - (lg_sl ([.ref (g k), .ref (g 45), .int r, .int q])).length) Slot.unset).toArray = ls at hl ⊢
  have hl : lv_has ls 9 [(0, .ref (g k)), (1, .ref (g 45)), (2, .int r), (3, .int q)] := hl
  refine lv_iconst (v := (-1)) hx hb dX3_leastLiked_0 (by decide) ?_
  refine lv_istore (lv' := [(4, .int (-1)), (0, .ref (g k)), (1, .ref (g 45)), (2, .int r), (3, .int q)]) hx hb dX3_leastLiked_1 hl (by decide) rfl (fun ls hl => ?_)
  refine lv_iconst (v := 0) hx hb dX3_leastLiked_3 (by decide) ?_
  refine lv_istore (lv' := [(5, .int 0), (4, .int (-1)), (0, .ref (g k)), (1, .ref (g 45)), (2, .int r), (3, .int q)]) hx hb dX3_leastLiked_4 hl (by decide) rfl (fun ls hl => ?_)
  refine lv_iconst (v := 0) hx hb dX3_leastLiked_6 (by decide) ?_
  refine lv_istore (lv' := [(6, .int 0), (5, .int 0), (4, .int (-1)), (0, .ref (g k)), (1, .ref (g 45)), (2, .int r), (3, .int q)]) hx hb dX3_leastLiked_7 hl (by decide) rfl (fun ls hl => ?_)
  have key1 : ∀ (n9 : Nat) (u : Int32) (w : Int32) (i : Nat) (ls : Array Slot), (i ≤ sl) → sl - i < n9 → lv_has ls 9 [(0, .ref (g k)), (1, .ref (g 45)), (2, .int r), (3, .int q), (4, .int u), (5, .int w), (6, .int (nI i))] → W p l e (headSpec (wsT yX3_leastLiked cX3_leastLiked 9 (some .int)) ({ frames := 1, cells := 0, slots := 0, locals := 23 })).room s m ([.ref (g k), .ref (g 45), .int r, .int q] : List Value).toArray below meth c s.heap [] 0 0 (MQ below (rQi (fun z9 => True)) ([.ref (g k), .ref (g 45), .int r, .int q] : List Value).toArray s 0 0 fr0) (F0 m 9 ls []) := by
    intro n9
    induction n9 with
    | zero => intro u w i ls hi hn9; exact absurd hn9 (Nat.not_lt_zero _)
    | succ n9 ih =>
      intro u w i ls hi hn9 hl
      refine lv_iload hx hb dX3_leastLiked_9 (lv_at hl 6 rfl) ?_
      refine lv_aload_n hx hb dX3_leastLiked_11 rfl (lv_at hl 0 rfl) ?_
      refine va_get (D := G.1) (ci := 3) (v := .int (nI sl)) (C := RX3) (T := TX3) (N := 9) hx hb hts inlX3 hown hG.1 hP k (wl_at (by omega) hhe) rfl 1 (by decide) (hts (.fieldLink RX3 22 "SwornLists$Hearing" "slips" "I") w_479) (fun _ h9 => h9) rfl dX3_leastLiked_12 ?_
      refine lv_icmp_ge (tgt := 75) hx hb dX3_leastLiked_15 (by decide) (fun c_15 => ?_) (fun c_15 => ?_)
      · refine lv_iload hx hb dX3_leastLiked_75 (lv_at hl 5 rfl) ?_
        exact W.iret (v := w) hx hb hr (fun t ht hW => ⟨_, rfl, (trivial), ht⟩) (fun _ h => absurd h List.not_mem_nil) dX3_leastLiked_77
      · have hi9 : i < sl := Nat.not_le.mp (fun z => c_15 (nI_le z (by omega)))
        refine lv_aload_n hx hb dX3_leastLiked_18 rfl (lv_at hl 0 rfl) ?_
        refine va_get (D := G.1) (ci := 3) (v := .ref (g (k + 1))) (C := RX3) (T := TX3) (N := 9) hx hb hts inlX3 hown hG.1 hP k (wl_at (by omega) hhe) rfl 0 (by decide) (hts (.fieldLink RX3 9 "SwornLists$Hearing" "order" "[I") w_91) (fun _ h9 => h9) rfl dX3_leastLiked_19 ?_
        refine lv_iload hx hb dX3_leastLiked_22 (lv_at hl 6 rfl) ?_
        refine va_iald hx hb hG.1 hP (k + 1) 0 (wl_at (by omega) hor) rfl (vp_in_nI (by omega) (by decide)) dX3_leastLiked_24 ?_
        refine lv_istore (lv' := [(7, .int (od (Int32.toNatClampNeg (nI i)))), (0, .ref (g k)), (1, .ref (g 45)), (2, .int r), (3, .int q), (4, .int u), (5, .int w), (6, .int (nI i))]) hx hb dX3_leastLiked_25 hl (by decide) rfl (fun ls hl => ?_)
        refine lv_aload_n hx hb dX3_leastLiked_27 rfl (lv_at hl 2 rfl) ?_
        refine lv_iload_n hx hb dX3_leastLiked_28 rfl (lv_at hl 3 rfl) ?_
        refine lv_iload_n hx hb dX3_leastLiked_29 rfl (lv_at hl 4 rfl) ?_
        refine lv_iload hx hb dX3_leastLiked_30 (lv_at hl 0 rfl) ?_
        refine rd_calli (va_runSN (As := [.int q, .int (od (Int32.toNatClampNeg (nI i)))]) (rest := [.int r, .ref (g 45)]) ⟨hx, hb, hml, hown, hts⟩ (s_likesColumn l G g hg f q (od (Int32.toNatClampNeg (nI i)))  ) (⟨my_cn hts ok_X10_likesColumn.1 (hG.2.1 (.methodLinkNest RX3 66 yX10_likesColumn RX10) (List.mem_of_getElem? (i := 34) rfl)) rfl rfl ⟨Nat.le_of_ble_eq_true rfl, Nat.le_of_ble_eq_true rfl⟩, hts _ ok_X10_likesColumn.2.2.1, trivial⟩) ⟨bP.blind, fun U hU hW => ⟨rfl, by rw [hU]; exact hP, kG.warm hW hG⟩⟩ rfl rfl hl.1 rfl (lv_room (Nat.le_of_ble_eq_true rfl)) dX3_leastLiked_32 ⟨Nat.le_of_ble_eq_true rfl, Nat.le_of_ble_eq_true rfl⟩) (fun r hr9 => ?_)
        subst hr9
        refine rd_calli (va_runV (As := [.int r, .int (10 + q * 30 + (od (Int32.toNatClampNeg (nI i))))]) (rest := []) ⟨hx, hb, hml, hown, hts⟩ (r_at l G g hg f 45 10 70 nt ct r (10 + q * 30 + (od (Int32.toNatClampNeg (nI i)))) htr hct (by first | assumption | omega | decide) (by first | assumption | omega | decide) (by first | assumption | omega | decide) (by first | assumption | omega | decide)) (my_cwV hts ok_X5_at w_500 rfl rfl ⟨Nat.le_of_ble_eq_true rfl, Nat.le_of_ble_eq_true rfl⟩) ⟨bP.blind, va_recv hG.1 hP (ci := 5) (q0 := 45) rfl (wl_at (by decide) htr), fun U hU hW => ⟨rfl, by rw [hU]; exact hP, kG.warm hW hG⟩⟩ rfl rfl hl.1 rfl (lv_room (Nat.le_of_ble_eq_true rfl)) dX3_leastLiked_35 ⟨Nat.le_of_ble_eq_true rfl, Nat.le_of_ble_eq_true rfl⟩) (fun r hr9 => ?_)
        subst hr9
        refine lv_istore (lv' := [(8, .int (atv ct nt 70 r (10 + q * 30 + (od (Int32.toNatClampNeg (nI i)))))), (7, .int (od (Int32.toNatClampNeg (nI i)))), (0, .ref (g k)), (1, .ref (g 45)), (2, .int r), (3, .int q), (4, .int u), (5, .int w), (6, .int (nI i))]) hx hb dX3_leastLiked_38 hl (by decide) rfl (fun ls hl => ?_)
        refine lv_aload_n hx hb dX3_leastLiked_40 rfl (lv_at hl 2 rfl) ?_
        refine rd_calli (va_runV (As := []) (rest := []) ⟨hx, hb, hml, hown, hts⟩ (h_left l G g hg f k sl lo ib ca mi s0 s1 sw hhe (by first | assumption | omega | decide) (by first | assumption | omega | decide)) (my_cwV hts ok_X3_left w_507 rfl rfl ⟨Nat.le_of_ble_eq_true rfl, Nat.le_of_ble_eq_true rfl⟩) ⟨bP.blind, va_recv hG.1 hP (ci := 3) (q0 := k) rfl (wl_at (by omega) hhe), fun U hU hW => ⟨rfl, by rw [hU]; exact hP, kG.warm hW hG⟩⟩ rfl rfl hl.1 rfl (lv_room (Nat.le_of_ble_eq_true rfl)) dX3_leastLiked_41 ⟨Nat.le_of_ble_eq_true rfl, Nat.le_of_ble_eq_true rfl⟩) (fun v2 _ => ?_)
        refine lv_iload hx hb dX3_leastLiked_44 (lv_at hl 1 rfl) ?_
        refine rd_calli (va_runSN (As := [.int v2, .int (od (Int32.toNatClampNeg (nI i)))]) (rest := []) ⟨hx, hb, hml, hown, hts⟩ (s_hasBit l G g hg f v2 (od (Int32.toNatClampNeg (nI i)))  ) (⟨my_cn hts ok_X10_hasBit.1 (hG.2.1 (.methodLinkNest RX3 44 yX10_hasBit RX10) (List.mem_of_getElem? (i := 33) rfl)) rfl rfl ⟨Nat.le_of_ble_eq_true rfl, Nat.le_of_ble_eq_true rfl⟩, hts _ ok_X10_hasBit.2.2.1, trivial⟩) ⟨bP.blind, fun U hU hW => ⟨rfl, by rw [hU]; exact hP, kG.warm hW hG⟩⟩ rfl rfl hl.1 rfl (lv_room (Nat.le_of_ble_eq_true rfl)) dX3_leastLiked_46 ⟨Nat.le_of_ble_eq_true rfl, Nat.le_of_ble_eq_true rfl⟩) (fun r hr9 => ?_)
        subst hr9
        refine my_ifeq (tgt := 69) hx hb dX3_leastLiked_49 (by decide) (fun c_49 => ?_) (fun c_49 => ?_)
        · refine lv_iinc (v := nI (i + 1)) (lv' := [(6, .int (nI (i + 1))), (8, .int (atv ct nt 70 r (10 + q * 30 + (od (Int32.toNatClampNeg (nI i)))))), (7, .int (od (Int32.toNatClampNeg (nI i)))), (0, .ref (g k)), (1, .ref (g 45)), (2, .int r), (3, .int q), (4, .int u), (5, .int w)]) hx hb dX3_leastLiked_69 hl (k := 8) rfl (nI_1 i) (by decide) rfl (fun ls hl => ?_)
          refine lv_goto (tgt := 9) hx hb dX3_leastLiked_72 (by decide) ?_
          exact ih u w (i + 1) _ (hi9) (by omega) (lv_sub hl [3, 4, 5, 6, 7, 8, 0] rfl)
        · refine lv_iload hx hb dX3_leastLiked_52 (lv_at hl 0 rfl) ?_
          refine lv_iload hx hb dX3_leastLiked_54 (lv_at hl 6 rfl) ?_
          refine lv_icmp_gt (tgt := 69) hx hb dX3_leastLiked_56 (by decide) (fun c_56 => ?_) (fun c_56 => ?_)
          · refine lv_iinc (v := nI (i + 1)) (lv' := [(6, .int (nI (i + 1))), (8, .int (atv ct nt 70 r (10 + q * 30 + (od (Int32.toNatClampNeg (nI i)))))), (7, .int (od (Int32.toNatClampNeg (nI i)))), (0, .ref (g k)), (1, .ref (g 45)), (2, .int r), (3, .int q), (4, .int u), (5, .int w)]) hx hb dX3_leastLiked_69 hl (k := 8) rfl (nI_1 i) (by decide) rfl (fun ls hl => ?_)
            refine lv_goto (tgt := 9) hx hb dX3_leastLiked_72 (by decide) ?_
            exact ih u w (i + 1) _ (hi9) (by omega) (lv_sub hl [3, 4, 5, 6, 7, 8, 0] rfl)
          · refine lv_iload hx hb dX3_leastLiked_59 (lv_at hl 0 rfl) ?_
            refine lv_istore (lv' := [(4, .int (atv ct nt 70 r (10 + q * 30 + (od (Int32.toNatClampNeg (nI i)))))), (8, .int (atv ct nt 70 r (10 + q * 30 + (od (Int32.toNatClampNeg (nI i)))))), (7, .int (od (Int32.toNatClampNeg (nI i)))), (0, .ref (g k)), (1, .ref (g 45)), (2, .int r), (3, .int q), (5, .int w), (6, .int (nI i))]) hx hb dX3_leastLiked_61 hl (by decide) rfl (fun ls hl => ?_)
            refine lv_iconst (v := 1) hx hb dX3_leastLiked_63 (by decide) ?_
            refine lv_iload hx hb dX3_leastLiked_64 (lv_at hl 2 rfl) ?_
            refine lv_ishl hx hb dX3_leastLiked_66 ?_
            refine lv_istore (lv' := [(5, .int (1 <<< ((od (Int32.toNatClampNeg (nI i))) &&& 31))), (4, .int (atv ct nt 70 r (10 + q * 30 + (od (Int32.toNatClampNeg (nI i)))))), (8, .int (atv ct nt 70 r (10 + q * 30 + (od (Int32.toNatClampNeg (nI i)))))), (7, .int (od (Int32.toNatClampNeg (nI i)))), (0, .ref (g k)), (1, .ref (g 45)), (2, .int r), (3, .int q), (6, .int (nI i))]) hx hb dX3_leastLiked_67 hl (by decide) rfl (fun ls hl => ?_)
            refine lv_iinc (v := nI (i + 1)) (lv' := [(6, .int (nI (i + 1))), (5, .int (1 <<< ((od (Int32.toNatClampNeg (nI i))) &&& 31))), (4, .int (atv ct nt 70 r (10 + q * 30 + (od (Int32.toNatClampNeg (nI i)))))), (8, .int (atv ct nt 70 r (10 + q * 30 + (od (Int32.toNatClampNeg (nI i)))))), (7, .int (od (Int32.toNatClampNeg (nI i)))), (0, .ref (g k)), (1, .ref (g 45)), (2, .int r), (3, .int q)]) hx hb dX3_leastLiked_69 hl (k := 8) rfl (nI_1 i) (by decide) rfl (fun ls hl => ?_)
            refine lv_goto (tgt := 9) hx hb dX3_leastLiked_72 (by decide) ?_
            exact ih (atv ct nt 70 r (10 + q * 30 + (od (Int32.toNatClampNeg (nI i))))) (1 <<< ((od (Int32.toNatClampNeg (nI i))) &&& 31)) (i + 1) _ (hi9) (by omega) (lv_sub hl [5, 6, 7, 8, 2, 1, 0] rfl)
  exact key1 (sl + 1) (-1) 0 0 _ (Nat.zero_le _) (by omega) (lv_sub hl [3, 4, 5, 6, 2, 1, 0] rfl)
set_option maxHeartbeats 4000000 in
set_option maxRecDepth 100000 in
theorem h_draw (l : Launch) (G : gW) (g : Nat → Nat) (hg : gOK g) (f : Nat → va_E) (k : Nat) (sl : Nat) (lo : Int32) (ib : Int32) (ca : Int32) (mi : Int32) (s0 : Int32) (s1 : Int32) (sw : Int32) (od : Nat → Int32) (n : Int32) (r : Int32) (q : Int32) (hhe : f k = eO 3 [.ref (g (k + 1)), .int (nI sl), .int lo, .int ib, .int ca, .int mi, .int s0, .int s1, .int sw]) (hor : f (k + 1) = eI G 24 od) (hk3 : k + 1 < 36) (hsl : sl ≤ 24) : Met l yX3_draw (wsT yX3_draw cX3_draw 7 none) ({ frames := 2, cells := 0, slots := 0, locals := 44 }) (bP G g f [.ref (g k), .int n, .int r, .int q]) (bQv G g (fun (f' : Nat → va_E) => ∃ sl9 : Nat, ∃ lo9 : Int32, ∃ ib9 : Int32, ∃ ca9 : Int32, ∃ mi9 : Int32, ∃ s09 : Int32, ∃ s19 : Int32, ∃ sw9 : Int32, ∃ od9 : Nat → Int32, f' k = eO 3 [.ref (g (k + 1)), .int (nI sl9), .int lo9, .int ib9, .int ca9, .int mi9, .int s09, .int s19, .int sw9] ∧ f' (k + 1) = eI G 24 od9 ∧ (sl9 ≤ 24) ∧ ∀ j, (j ≠ k ∧ j ≠ k + 1) → f' j = f j)) 0 0 (gA g) := by
  refine Met.ofW (cc := cX3_draw) (maxL := 7) (ret := none) (by decide) rfl ?_
  intro p e s m args below meth c s₁ B hml hv
  obtain ⟨rfl, hP, hG⟩ := hv
  have hx := B.exec
  have hb := B.bytes
  have hr := B.returns
  have hts := my_hts (atoms_spec (ws := wsT yX3_draw cX3_draw 7 none) B.pre)
  have hown : s.vm.findClass RX3 = some m.cls := findClass_of_methodNamed B.named
  have hlocks := B.notSynchronized
  have hS : va_S (gA g) s.heap s.heap [] := va_S.rf
  have hl := lv_entry ([.ref (g k), .int n, .int r, .int q]) (n := 7) (Nat.le_of_ble_eq_true rfl)
  rw [lg_entry_eq]
  generalize (lg_sl ([.ref (g k), .int n, .int r, .int q]) ++ List.replicate (7 - (lg_sl ([.ref (g k), .int n, .int r, .int q])).length) Slot.unset).toArray = ls at hl ⊢
  have hl : lv_has ls 7 [(0, .ref (g k)), (1, .int n), (2, .int r), (3, .int q)] := hl
  refine lv_aload_n hx hb dX3_draw_0 rfl (lv_at hl 0 rfl) ?_
  refine lv_iload_n hx hb dX3_draw_1 rfl (lv_at hl 1 rfl) ?_
  refine va_put (D := G.1) (ci := 3) (v := .int n) (ty := .int) (C := RX3) (T := TX3) (N := 9) hx hb hts inlX3 tyX3 tyX3_ok nmX3 hown hG.1 hP (wl_D hg f) hS k (wl_at (by omega) hhe) rfl 3 (by decide) (hts (.fieldLink RX3 15 "SwornLists$Hearing" "inBox" "I") w_477) (fun _ h9 => h9) rfl (by decide +kernel) rfl rfl (Nat.le_of_ble_eq_true rfl) dX3_draw_2 (fun H locs hP _ hS => ?_)
  obtain ⟨f_1, hP, e_1, o_1⟩ := b_put (by omega) hP
  have hhe : f_1 k = eO 3 [.ref (g (k + 1)), .int (nI sl), .int lo, .int n, .int ca, .int mi, .int s0, .int s1, .int sw] := e_1
  replace hor : f_1 (k + 1) = eI G 24 od := (o_1 (k + 1) (by omega)).trans hor
  refine lv_aload_n hx hb dX3_draw_5 rfl (lv_at hl 0 rfl) ?_
  refine lv_iload_n hx hb dX3_draw_6 rfl (lv_at hl 2 rfl) ?_
  refine va_put (D := G.1) (ci := 3) (v := .int r) (ty := .int) (C := RX3) (T := TX3) (N := 9) hx hb hts inlX3 tyX3 tyX3_ok nmX3 hown hG.1 hP (wl_D hg f_1) hS k (wl_at (by omega) hhe) rfl 2 (by decide) (hts (.fieldLink RX3 19 "SwornLists$Hearing" "lot" "I") w_478) (fun _ h9 => h9) rfl (by decide +kernel) rfl rfl (Nat.le_of_ble_eq_true rfl) dX3_draw_7 (fun H locs hP _ hS => ?_)
  obtain ⟨f_2, hP, e_2, o_2⟩ := b_put (by omega) hP
  have hhe : f_2 k = eO 3 [.ref (g (k + 1)), .int (nI sl), .int r, .int n, .int ca, .int mi, .int s0, .int s1, .int sw] := e_2
  replace hor : f_2 (k + 1) = eI G 24 od := (o_2 (k + 1) (by omega)).trans hor
  refine lv_aload_n hx hb dX3_draw_10 rfl (lv_at hl 0 rfl) ?_
  refine lv_iconst (v := 0) hx hb dX3_draw_11 (by decide) ?_
  refine va_put (D := G.1) (ci := 3) (v := .int 0) (ty := .int) (C := RX3) (T := TX3) (N := 9) hx hb hts inlX3 tyX3 tyX3_ok nmX3 hown hG.1 hP (wl_D hg f_2) hS k (wl_at (by omega) hhe) rfl 1 (by decide) (hts (.fieldLink RX3 22 "SwornLists$Hearing" "slips" "I") w_479) (fun _ h9 => h9) rfl (by decide +kernel) rfl rfl (Nat.le_of_ble_eq_true rfl) dX3_draw_12 (fun H locs hP _ hS => ?_)
  obtain ⟨f_3, hP, e_3, o_3⟩ := b_put (by omega) hP
  have hhe : f_3 k = eO 3 [.ref (g (k + 1)), .int 0, .int r, .int n, .int ca, .int mi, .int s0, .int s1, .int sw] := e_3
  replace hor : f_3 (k + 1) = eI G 24 od := (o_3 (k + 1) (by omega)).trans hor
  refine lv_aload_n hx hb dX3_draw_15 rfl (lv_at hl 0 rfl) ?_
  refine lv_iconst (v := 0) hx hb dX3_draw_16 (by decide) ?_
  refine va_put (D := G.1) (ci := 3) (v := .int 0) (ty := .int) (C := RX3) (T := TX3) (N := 9) hx hb hts inlX3 tyX3 tyX3_ok nmX3 hown hG.1 hP (wl_D hg f_3) hS k (wl_at (by omega) hhe) rfl 4 (by decide) (hts (.fieldLink RX3 25 "SwornLists$Hearing" "called" "I") w_480) (fun _ h9 => h9) rfl (by decide +kernel) rfl rfl (Nat.le_of_ble_eq_true rfl) dX3_draw_17 (fun H locs hP _ hS => ?_)
  obtain ⟨f_4, hP, e_4, o_4⟩ := b_put (by omega) hP
  have hhe : f_4 k = eO 3 [.ref (g (k + 1)), .int 0, .int r, .int n, .int 0, .int mi, .int s0, .int s1, .int sw] := e_4
  replace hor : f_4 (k + 1) = eI G 24 od := (o_4 (k + 1) (by omega)).trans hor
  refine lv_iload_n hx hb dX3_draw_20 rfl (lv_at hl 1 rfl) ?_
  refine rd_calli (va_runS (As := [.int n]) (rest := []) ⟨hx, hb, hml, hown, hts⟩ (s_bitCount l G g hg f_4 n  ) (my_cwS hts ok_J6_bitCount_0f7a4 w_483 rfl rfl ⟨Nat.le_of_ble_eq_true rfl, Nat.le_of_ble_eq_true rfl⟩) ⟨bP.blind, fun U hU hW => ⟨rfl, by rw [hU]; exact hP, kG.warm hW hG⟩⟩ rfl rfl hl.1 rfl (lv_room (Nat.le_of_ble_eq_true rfl)) dX3_draw_21 ⟨Nat.le_of_ble_eq_true rfl, Nat.le_of_ble_eq_true rfl⟩) (fun v1 _ => ?_)
  refine lv_istore (lv' := [(4, .int v1), (0, .ref (g k)), (1, .int n), (2, .int r), (3, .int q)]) hx hb dX3_draw_24 hl (by decide) rfl (fun ls hl => ?_)
  refine lv_iload_n hx hb dX3_draw_26 rfl (lv_at hl 4 rfl) ?_
  refine lv_bipush (v := 24) hx hb dX3_draw_27 (by decide) ?_
  refine va_mmin hx hb (by rw [hml]; exact hl.1.symm) hown (hts (.methodLink RX3 34 Lib.Math.min.name) w_481) (hts (.static Lib.Math.min.name) w_152) (hts (.initialized "java/lang/Math") w_153) (hts (.code Lib.Math.min.name Lib.Math.min.code 2 (some .int)) w_154) (Nat.le_of_ble_eq_true rfl) (Nat.le_of_ble_eq_true rfl) (Nat.le_of_ble_eq_true rfl) (Nat.le_of_ble_eq_true rfl) dX3_draw_29 ?_
  refine lv_iload hx hb dX3_draw_32 (lv_at hl 0 rfl) ?_
  refine va_mmin hx hb (by rw [hml]; exact hl.1.symm) hown (hts (.methodLink RX3 34 Lib.Math.min.name) w_481) (hts (.static Lib.Math.min.name) w_152) (hts (.initialized "java/lang/Math") w_153) (hts (.code Lib.Math.min.name Lib.Math.min.code 2 (some .int)) w_154) (Nat.le_of_ble_eq_true rfl) (Nat.le_of_ble_eq_true rfl) (Nat.le_of_ble_eq_true rfl) (Nat.le_of_ble_eq_true rfl) dX3_draw_34 ?_
  refine lv_istore (lv' := [(5, .int (if v1 < (if 24 < q then 24 else q) then v1 else (if 24 < q then 24 else q))), (4, .int v1), (0, .ref (g k)), (1, .int n), (2, .int r), (3, .int q)]) hx hb dX3_draw_37 hl (by decide) rfl (fun ls hl => ?_)
  have hy : (if v1 < (if 24 < q then 24 else q) then v1 else (if 24 < q then 24 else q)) ≤ 24 := min24 _ _
  have key2 : ∀ (n9 : Nat) (sl1 : Nat) (lo1 : Int32) (ca1 : Int32) (od1 : Nat → Int32) (u : Int32) (f_5 : Nat → va_E) (H : Heap) (locs : List Loc) (ls : Array Slot), (sl1 ≤ 24) → 24 - sl1 < n9 → f_5 k = eO 3 [.ref (g (k + 1)), .int (nI sl1), .int lo1, .int n, .int ca1, .int mi, .int s0, .int s1, .int sw] → f_5 (k + 1) = eI G 24 od1 → (∀ j, (j ≠ k ∧ j ≠ k + 1) → f_5 j = f_4 j) → va_P G.1 vwCl (wl g f_5) H → va_S (gA g) s.heap H locs → lv_has ls 7 [(0, .ref (g k)), (4, .int u), (5, .int (if v1 < (if 24 < q then 24 else q) then v1 else (if 24 < q then 24 else q)))] → W p l e (headSpec (wsT yX3_draw cX3_draw 7 none) ({ frames := 2, cells := 0, slots := 0, locals := 44 })).room s m ([.ref (g k), .int n, .int r, .int q] : List Value).toArray below meth c H locs 0 0 (MQ below (bQv G g (fun (f' : Nat → va_E) => ∃ sl9 : Nat, ∃ lo9 : Int32, ∃ ib9 : Int32, ∃ ca9 : Int32, ∃ mi9 : Int32, ∃ s09 : Int32, ∃ s19 : Int32, ∃ sw9 : Int32, ∃ od9 : Nat → Int32, f' k = eO 3 [.ref (g (k + 1)), .int (nI sl9), .int lo9, .int ib9, .int ca9, .int mi9, .int s09, .int s19, .int sw9] ∧ f' (k + 1) = eI G 24 od9 ∧ (sl9 ≤ 24) ∧ ∀ j, (j ≠ k ∧ j ≠ k + 1) → f' j = f j)) ([.ref (g k), .int n, .int r, .int q] : List Value).toArray s 0 0 (gA g)) (F0 m 39 ls []) := by
    intro n9
    induction n9 with
    | zero => intro sl1 lo1 ca1 od1 u f_5 H locs ls h1 hn9; exact absurd hn9 (Nat.not_lt_zero _)
    | succ n9 ih =>
      intro sl1 lo1 ca1 od1 u f_5 H locs ls h1 hn9 hhe hor o_5 hP hS hl
      have hy : (if v1 < (if 24 < q then 24 else q) then v1 else (if 24 < q then 24 else q)) ≤ 24 := min24 _ _
      refine lv_aload_n hx hb dX3_draw_39 rfl (lv_at hl 0 rfl) ?_
      refine va_get (D := G.1) (ci := 3) (v := .int (nI sl1)) (C := RX3) (T := TX3) (N := 9) hx hb hts inlX3 hown hG.1 hP k (wl_at (by omega) hhe) rfl 1 (by decide) (hts (.fieldLink RX3 22 "SwornLists$Hearing" "slips" "I") w_479) (fun _ h9 => h9) rfl dX3_draw_40 ?_
      refine lv_iload hx hb dX3_draw_43 (lv_at hl 2 rfl) ?_
      refine lv_icmp_ge (tgt := 134) hx hb dX3_draw_45 (by decide) (fun c_45 => ?_) (fun c_45 => ?_)
      · exact W.vret hx hb hr (fun t ht hW => ⟨⟨f_5, rfl, (⟨sl1, lo1, n, ca1, mi, s0, s1, sw, od1, hhe, hor, by omega, fun j hj => (((((o_5 j (by omega))).trans (o_4 j (by omega))).trans (o_3 j (by omega))).trans (o_2 j (by omega))).trans (o_1 j (by omega))⟩), by rw [ht]; exact hP⟩, hS.F ht⟩) hS.2.2 dX3_draw_134
      · refine lv_iload hx hb dX3_draw_48 (lv_at hl 1 rfl) ?_
        refine lv_if_le (tgt := 134) hx hb dX3_draw_50 (by decide) (fun c_50 => ?_) (fun c_50 => ?_)
        · exact W.vret hx hb hr (fun t ht hW => ⟨⟨f_5, rfl, (⟨sl1, lo1, n, ca1, mi, s0, s1, sw, od1, hhe, hor, by omega, fun j hj => (((((o_5 j (by omega))).trans (o_4 j (by omega))).trans (o_3 j (by omega))).trans (o_2 j (by omega))).trans (o_1 j (by omega))⟩), by rw [ht]; exact hP⟩, hS.F ht⟩) hS.2.2 dX3_draw_134
        · have hlt : sl1 < 24 := lt24 h1 hy c_45
          refine lv_aload_n hx hb dX3_draw_53 rfl (lv_at hl 0 rfl) ?_
          refine lv_aload_n hx hb dX3_draw_54 rfl (lv_at hl 0 rfl) ?_
          refine va_get (D := G.1) (ci := 3) (v := .int lo1) (C := RX3) (T := TX3) (N := 9) hx hb hts inlX3 hown hG.1 hP k (wl_at (by omega) hhe) rfl 2 (by decide) (hts (.fieldLink RX3 19 "SwornLists$Hearing" "lot" "I") w_478) (fun _ h9 => h9) rfl dX3_draw_55 ?_
          refine lv_ldc (v := 1103515245) hx hb hown (hts (.constant RX3 40 (1103515245)) w_482) dX3_draw_58 ?_
          refine lv_imul hx hb dX3_draw_60 ?_
          refine lv_sipush (v := 12345) hx hb dX3_draw_61 (by decide) ?_
          refine lv_iadd hx hb dX3_draw_64 ?_
          refine va_put (D := G.1) (ci := 3) (v := .int ((lo1 * 1103515245) + 12345)) (ty := .int) (C := RX3) (T := TX3) (N := 9) hx hb hts inlX3 tyX3 tyX3_ok nmX3 hown hG.1 hP (wl_D hg f_5) hS k (wl_at (by omega) hhe) rfl 2 (by decide) (hts (.fieldLink RX3 19 "SwornLists$Hearing" "lot" "I") w_478) (fun _ h9 => h9) rfl (by decide +kernel) rfl rfl (Nat.le_of_ble_eq_true rfl) dX3_draw_65 (fun H locs hP _ hS => ?_)
          obtain ⟨f_6, hP, e_6, o_6⟩ := b_put (by omega) hP
          have hhe : f_6 k = eO 3 [.ref (g (k + 1)), .int (nI sl1), .int ((lo1 * 1103515245) + 12345), .int n, .int ca1, .int mi, .int s0, .int s1, .int sw] := e_6
          replace hor : f_6 (k + 1) = eI G 24 od1 := (o_6 (k + 1) (by omega)).trans hor
          refine lv_aload_n hx hb dX3_draw_68 rfl (lv_at hl 0 rfl) ?_
          refine va_get (D := G.1) (ci := 3) (v := .int n) (C := RX3) (T := TX3) (N := 9) hx hb hts inlX3 hown hG.1 hP k (wl_at (by omega) hhe) rfl 3 (by decide) (hts (.fieldLink RX3 15 "SwornLists$Hearing" "inBox" "I") w_477) (fun _ h9 => h9) rfl dX3_draw_69 ?_
          refine lv_aload_n hx hb dX3_draw_72 rfl (lv_at hl 0 rfl) ?_
          refine va_get (D := G.1) (ci := 3) (v := .int ca1) (C := RX3) (T := TX3) (N := 9) hx hb hts inlX3 hown hG.1 hP k (wl_at (by omega) hhe) rfl 4 (by decide) (hts (.fieldLink RX3 25 "SwornLists$Hearing" "called" "I") w_480) (fun _ h9 => h9) rfl dX3_draw_73 ?_
          refine lv_iconst (v := (-1)) hx hb dX3_draw_76 (by decide) ?_
          refine lv_ixor hx hb dX3_draw_77 ?_
          refine lv_iand hx hb dX3_draw_78 ?_
          refine lv_aload_n hx hb dX3_draw_79 rfl (lv_at hl 0 rfl) ?_
          refine va_get (D := G.1) (ci := 3) (v := .int ((lo1 * 1103515245) + 12345)) (C := RX3) (T := TX3) (N := 9) hx hb hts inlX3 hown hG.1 hP k (wl_at (by omega) hhe) rfl 2 (by decide) (hts (.fieldLink RX3 19 "SwornLists$Hearing" "lot" "I") w_478) (fun _ h9 => h9) rfl dX3_draw_80 ?_
          refine lv_bipush (v := 16) hx hb dX3_draw_83 (by decide) ?_
          refine lv_iushr hx hb dX3_draw_85 rfl ?_
          refine lv_iload hx hb dX3_draw_86 (lv_at hl 1 rfl) ?_
          refine lv_irem hx hb dX3_draw_88 (gt0 c_50) ?_
          refine rd_calli (va_runS (As := [.int (n &&& (ca1 ^^^ (-1))), .int (((Int32.toUInt32 ((lo1 * 1103515245) + 12345) >>> (Int32.toUInt32 16 &&& Int32.toUInt32 31)).toInt32) - ((Int32.toUInt32 ((lo1 * 1103515245) + 12345) >>> (Int32.toUInt32 16 &&& Int32.toUInt32 31)).toInt32) / u * u)]) (rest := []) ⟨hx, hb, hml, hown, hts⟩ (h_bitAt l G g hg f_6 (n &&& (ca1 ^^^ (-1))) (((Int32.toUInt32 ((lo1 * 1103515245) + 12345) >>> (Int32.toUInt32 16 &&& Int32.toUInt32 31)).toInt32) - ((Int32.toUInt32 ((lo1 * 1103515245) + 12345) >>> (Int32.toUInt32 16 &&& Int32.toUInt32 31)).toInt32) / u * u)  ) (my_cwS hts ok_X3_bitAt w_490 rfl rfl ⟨Nat.le_of_ble_eq_true rfl, Nat.le_of_ble_eq_true rfl⟩) ⟨bP.blind, fun U hU hW => ⟨rfl, by rw [hU]; exact hP, kG.warm hW hG⟩⟩ rfl rfl hl.1 rfl (lv_room (Nat.le_of_ble_eq_true rfl)) dX3_draw_89 ⟨Nat.le_of_ble_eq_true rfl, Nat.le_of_ble_eq_true rfl⟩) (fun v3 _ => ?_)
          refine lv_istore (lv' := [(6, .int v3), (0, .ref (g k)), (4, .int u), (5, .int (if v1 < (if 24 < q then 24 else q) then v1 else (if 24 < q then 24 else q)))]) hx hb dX3_draw_92 hl (by decide) rfl (fun ls hl => ?_)
          refine lv_aload_n hx hb dX3_draw_94 rfl (lv_at hl 1 rfl) ?_
          refine va_get (D := G.1) (ci := 3) (v := .ref (g (k + 1))) (C := RX3) (T := TX3) (N := 9) hx hb hts inlX3 hown hG.1 hP k (wl_at (by omega) hhe) rfl 0 (by decide) (hts (.fieldLink RX3 9 "SwornLists$Hearing" "order" "[I") w_91) (fun _ h9 => h9) rfl dX3_draw_95 ?_
          refine lv_aload_n hx hb dX3_draw_98 rfl (lv_at hl 1 rfl) ?_
          refine va_get (D := G.1) (ci := 3) (v := .int (nI sl1)) (C := RX3) (T := TX3) (N := 9) hx hb hts inlX3 hown hG.1 hP k (wl_at (by omega) hhe) rfl 1 (by decide) (hts (.fieldLink RX3 22 "SwornLists$Hearing" "slips" "I") w_479) (fun _ h9 => h9) rfl dX3_draw_99 ?_
          refine lv_iload hx hb dX3_draw_102 (lv_at hl 0 rfl) ?_
          refine va_iast hx hb hG.1 hP (wl_D hg f_6) hS (k + 1) 0 (wl_at (by omega) hor) rfl (vp_in_nI hlt (by decide)) dX3_draw_104 (fun H locs hP _ hS => ?_)
          obtain ⟨f_7, hP, e_7, o_7⟩ := b_put (by omega) hP
          have hor : f_7 (k + 1) = eI G 24 (upd od1 (Int32.toNatClampNeg (nI sl1)) v3) := e_7
          replace hhe : f_7 k = eO 3 [.ref (g (k + 1)), .int (nI sl1), .int ((lo1 * 1103515245) + 12345), .int n, .int ca1, .int mi, .int s0, .int s1, .int sw] := (o_7 k (by omega)).trans hhe
          refine lv_aload_n hx hb dX3_draw_105 rfl (lv_at hl 1 rfl) ?_
          refine lv_dup hx hb dX3_draw_106 rfl ?_
          refine va_get (D := G.1) (ci := 3) (v := .int (nI sl1)) (C := RX3) (T := TX3) (N := 9) hx hb hts inlX3 hown hG.1 hP k (wl_at (by omega) hhe) rfl 1 (by decide) (hts (.fieldLink RX3 22 "SwornLists$Hearing" "slips" "I") w_479) (fun _ h9 => h9) rfl dX3_draw_107 ?_
          refine lv_iconst (v := 1) hx hb dX3_draw_110 (by decide) ?_
          refine lv_iadd hx hb dX3_draw_111 ?_
          refine my_bei (v := nI (sl1 + 1)) (nI_1 sl1) ?_
          refine va_put (D := G.1) (ci := 3) (v := .int (nI (sl1 + 1))) (ty := .int) (C := RX3) (T := TX3) (N := 9) hx hb hts inlX3 tyX3 tyX3_ok nmX3 hown hG.1 hP (wl_D hg f_7) hS k (wl_at (by omega) hhe) rfl 1 (by decide) (hts (.fieldLink RX3 22 "SwornLists$Hearing" "slips" "I") w_479) (fun _ h9 => h9) rfl (by decide +kernel) rfl rfl (Nat.le_of_ble_eq_true rfl) dX3_draw_112 (fun H locs hP _ hS => ?_)
          obtain ⟨f_8, hP, e_8, o_8⟩ := b_put (by omega) hP
          have hhe : f_8 k = eO 3 [.ref (g (k + 1)), .int (nI (sl1 + 1)), .int ((lo1 * 1103515245) + 12345), .int n, .int ca1, .int mi, .int s0, .int s1, .int sw] := e_8
          replace hor : f_8 (k + 1) = eI G 24 (upd od1 (Int32.toNatClampNeg (nI sl1)) v3) := (o_8 (k + 1) (by omega)).trans hor
          refine lv_iinc (v := u + (-1)) (lv' := [(4, .int (u + (-1))), (6, .int v3), (0, .ref (g k)), (5, .int (if v1 < (if 24 < q then 24 else q) then v1 else (if 24 < q then 24 else q)))]) hx hb dX3_draw_115 hl (k := 2) rfl (rfl) (by decide) rfl (fun ls hl => ?_)
          refine lv_aload_n hx hb dX3_draw_118 rfl (lv_at hl 2 rfl) ?_
          refine lv_dup hx hb dX3_draw_119 rfl ?_
          refine va_get (D := G.1) (ci := 3) (v := .int ca1) (C := RX3) (T := TX3) (N := 9) hx hb hts inlX3 hown hG.1 hP k (wl_at (by omega) hhe) rfl 4 (by decide) (hts (.fieldLink RX3 25 "SwornLists$Hearing" "called" "I") w_480) (fun _ h9 => h9) rfl dX3_draw_120 ?_
          refine lv_iconst (v := 1) hx hb dX3_draw_123 (by decide) ?_
          refine lv_iload hx hb dX3_draw_124 (lv_at hl 1 rfl) ?_
          refine lv_ishl hx hb dX3_draw_126 ?_
          refine lv_ior hx hb dX3_draw_127 ?_
          refine va_put (D := G.1) (ci := 3) (v := .int (ca1 ||| (1 <<< (v3 &&& 31)))) (ty := .int) (C := RX3) (T := TX3) (N := 9) hx hb hts inlX3 tyX3 tyX3_ok nmX3 hown hG.1 hP (wl_D hg f_8) hS k (wl_at (by omega) hhe) rfl 4 (by decide) (hts (.fieldLink RX3 25 "SwornLists$Hearing" "called" "I") w_480) (fun _ h9 => h9) rfl (by decide +kernel) rfl rfl (Nat.le_of_ble_eq_true rfl) dX3_draw_128 (fun H locs hP _ hS => ?_)
          obtain ⟨f_9, hP, e_9, o_9⟩ := b_put (by omega) hP
          have hhe : f_9 k = eO 3 [.ref (g (k + 1)), .int (nI (sl1 + 1)), .int ((lo1 * 1103515245) + 12345), .int n, .int (ca1 ||| (1 <<< (v3 &&& 31))), .int mi, .int s0, .int s1, .int sw] := e_9
          replace hor : f_9 (k + 1) = eI G 24 (upd od1 (Int32.toNatClampNeg (nI sl1)) v3) := (o_9 (k + 1) (by omega)).trans hor
          refine lv_goto (tgt := 39) hx hb dX3_draw_131 (by decide) ?_
          exact ih (sl1 + 1) ((lo1 * 1103515245) + 12345) (ca1 ||| (1 <<< (v3 &&& 31))) (upd od1 (Int32.toNatClampNeg (nI sl1)) v3) (u + (-1)) f_9 _ _ _ (by omega) (by omega) (hhe) (hor) (fun j hj => (((((o_9 j (by omega))).trans (o_8 j (by omega))).trans (o_7 j (by omega))).trans (o_6 j (by omega))).trans (o_5 j (by omega))) hP hS (lv_sub hl [2, 0, 3] rfl)
  exact key2 (24 + 1) 0 r 0 od v1 f_4 _ _ _ (by omega) (by omega) (hhe) (hor) (fun j _ => rfl) hP hS (lv_sub hl [2, 1, 0] rfl)


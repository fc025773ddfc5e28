def saV (od : Nat → Int32) (sl : Nat) (q : Int32) : Int32 := if inN q sl = true then od q.toNatClampNeg else -1
set_option maxHeartbeats 4000000 in
set_option maxRecDepth 100000 in
theorem h_slipAtE (l : Launch) (G : gW) (g : Nat → Nat) (hg : gOK g) (f : Nat → va_E) (k : Nat) (sl : Nat) (lo : Int32) (ib : Int32) (ca : Int32) (mi : Int32) (s0 : Int32) (s1 : Int32) (sw : Int32) (od : Nat → Int32) (q : Int32) (hhe : f k = eO 3 [.ref (g (k + 1)), .int (nI sl), .int lo, .int ib, .int ca, .int mi, .int s0, .int s1, .int sw]) (hor : f (k + 1) = eI G 24 od) (hk3 : k + 1 < 36) (hsl : sl ≤ 24) : Met l yX3_slipAt (wsT yX3_slipAt cX3_slipAt 2 (some .int)) ({ frames := 0, cells := 0, slots := 0, locals := 0 }) (bP G g f [.ref (g k), .int q]) (rQi (fun z9 => z9 = saV od sl q)) 0 0 fr0 := by
  refine Met.ofW (cc := cX3_slipAt) (maxL := 2) (ret := (some .int)) (by decide) rfl ?_
  intro p e s m args below meth c s₁ B hml hv
  obtain ⟨rfl, hP, hG⟩ := hv
  have hx := B.exec
  have hb := B.bytes
  have hr := B.returns
  have hts := my_hts (atoms_spec (ws := wsT yX3_slipAt cX3_slipAt 2 (some .int)) B.pre)
  have hown : s.vm.findClass RX3 = some m.cls := findClass_of_methodNamed B.named
  have hlocks := B.notSynchronized
  have hl := lv_entry ([.ref (g k), .int q]) (n := 2) (Nat.le_of_ble_eq_true rfl)
  rw [lg_entry_eq]
  generalize (lg_sl ([.ref (g k), .int q]) ++ List.replicate (2 - (lg_sl ([.ref (g k), .int q])).length) Slot.unset).toArray = ls at hl ⊢
  have hl : lv_has ls 2 [(0, .ref (g k)), (1, .int q)] := hl
  refine W_q8 (fun Q9 hQ9 => ?_)
  refine lv_iload_n hx hb dX3_slipAt_0 rfl (lv_at hl 1 rfl) ?_
  refine lv_if_lt (tgt := 21) hx hb dX3_slipAt_1 (by decide) (fun c_1 => ?_) (fun c_1 => ?_)
  · refine lv_iconst (v := (-1)) hx hb dX3_slipAt_21 (by decide) ?_
    refine W_q9 hQ9 ?_
    exact W.iret (v := (-1)) hx hb hr (fun _ hT9 _ => ⟨_, rfl, ((if_neg (inN_lo c_1)).symm), hT9⟩) (fun _ h => absurd h List.not_mem_nil) dX3_slipAt_22
  · refine lv_iload_n hx hb dX3_slipAt_4 rfl (lv_at hl 1 rfl) ?_
    refine lv_aload_n hx hb dX3_slipAt_5 rfl (lv_at hl 0 rfl) ?_
    refine va_get (D := G.1) (ci := 3) (v := .int (nI sl)) (C := RX3) (T := TX3) (N := 9) hx hb hts inlX3 hown hG.1 hP k (wl_at (by omega) hhe) rfl 1 (by decide) (hts (.fieldLink RX3 22 "SwornLists$Hearing" "slips" "I") w_479) (fun _ h9 => h9) rfl dX3_slipAt_6 ?_
    refine lv_icmp_ge (tgt := 21) hx hb dX3_slipAt_9 (by decide) (fun c_9 => ?_) (fun c_9 => ?_)
    · refine lv_iconst (v := (-1)) hx hb dX3_slipAt_21 (by decide) ?_
      refine W_q9 hQ9 ?_
      exact W.iret (v := (-1)) hx hb hr (fun _ hT9 _ => ⟨_, rfl, ((if_neg (inN_hi (by omega) c_9)).symm), hT9⟩) (fun _ h => absurd h List.not_mem_nil) dX3_slipAt_22
    · refine lv_aload_n hx hb dX3_slipAt_12 rfl (lv_at hl 0 rfl) ?_
      refine va_get (D := G.1) (ci := 3) (v := .ref (g (k + 1))) (C := RX3) (T := TX3) (N := 9) hx hb hts inlX3 hown hG.1 hP k (wl_at (by omega) hhe) rfl 0 (by decide) (hts (.fieldLink RX3 9 "SwornLists$Hearing" "order" "[I") w_91) (fun _ h9 => h9) rfl dX3_slipAt_13 ?_
      refine lv_iload_n hx hb dX3_slipAt_16 rfl (lv_at hl 1 rfl) ?_
      refine va_iald hx hb hG.1 hP (k + 1) 0 (wl_at (by omega) hor) rfl (inN_vp (inN_t (by omega) c_1 c_9) hsl (by decide)) dX3_slipAt_17 ?_
      refine lv_goto (tgt := 22) hx hb dX3_slipAt_18 (by decide) ?_
      refine W_q9 hQ9 ?_
      exact W.iret (v := od (Int32.toNatClampNeg q)) hx hb hr (fun _ hT9 _ => ⟨_, rfl, ((if_pos (inN_t (by omega) c_1 c_9)).symm), hT9⟩) (fun _ h => absurd h List.not_mem_nil) dX3_slipAt_22
set_option maxHeartbeats 4000000 in
set_option maxRecDepth 100000 in
theorem h_standingE (l : Launch) (G : gW) (g : Nat → Nat) (hg : gOK g) (f : Nat → va_E) (k : Nat) (sl : Nat) (lo : Int32) (ib : Int32) (ca : Int32) (mi : Int32) (s0 : Int32) (s1 : Int32) (sw : Int32) (pn : Nat) (hhe : f k = eO 3 [.ref (g (k + 1)), .int (nI sl), .int lo, .int ib, .int ca, .int mi, .int s0, .int s1, .int sw]) (hk3 : k + 1 < 36) (hsl : sl ≤ 24) (hpn30 : pn < 30) : Met l yX3_standing (wsT yX3_standing cX3_standing 2 (some .int)) ({ frames := 1, cells := 0, slots := 0, locals := 21 }) (bP G g f [.ref (g k), .int (nI pn)]) (rQi (fun z9 => z9 = stZ ib ca mi (s0, s1) sw pn)) 0 0 fr0 := by
  refine Met.ofW (cc := cX3_standing) (maxL := 2) (ret := (some .int)) (by decide) rfl ?_
  intro p e s m args below meth c s₁ B hml hv
  obtain ⟨rfl, hP, hG⟩ := hv
  have hx := B.exec
  have hb := B.bytes
  have hr := B.returns
  have hts := my_hts (atoms_spec (ws := wsT yX3_standing cX3_standing 2 (some .int)) B.pre)
  have hown : s.vm.findClass RX3 = some m.cls := findClass_of_methodNamed B.named
  have hlocks := B.notSynchronized
  have hl := lv_entry ([.ref (g k), .int (nI pn)]) (n := 2) (Nat.le_of_ble_eq_true rfl)
  rw [lg_entry_eq]
  generalize (lg_sl ([.ref (g k), .int (nI pn)]) ++ List.replicate (2 - (lg_sl ([.ref (g k), .int (nI pn)])).length) Slot.unset).toArray = ls at hl ⊢
  have hl : lv_has ls 2 [(0, .ref (g k)), (1, .int (nI pn))] := hl
  refine W_q8 (fun Q9 hQ9 => ?_)
  refine lv_aload_n hx hb dX3_standing_0 rfl (lv_at hl 0 rfl) ?_
  refine va_get (D := G.1) (ci := 3) (v := .int ib) (C := RX3) (T := TX3) (N := 9) hx hb hts inlX3 hown hG.1 hP k (wl_at (by omega) hhe) rfl 3 (by decide) (hts (.fieldLink RX3 15 "SwornLists$Hearing" "inBox" "I") w_477) (fun _ h9 => h9) rfl dX3_standing_1 ?_
  refine lv_iload_n hx hb dX3_standing_4 rfl (lv_at hl 1 rfl) ?_
  refine rd_calli (va_runSN (As := [.int ib, .int (nI pn)]) (rest := []) ⟨hx, hb, hml, hown, hts⟩ (s_hasBit l G g hg f ib (nI pn)  ) (⟨my_cn hts ok_X10_hasBit.1 (hG.2.1 (.methodLinkNest RX3 44 yX10_hasBit RX10) (List.mem_of_getElem? (i := 33) rfl)) rfl rfl ⟨Nat.le_of_ble_eq_true rfl, Nat.le_of_ble_eq_true rfl⟩, hts _ ok_X10_hasBit.2.2.1, trivial⟩) ⟨bP.blind, fun U hU hW => ⟨rfl, by rw [hU]; exact hP, kG.warm hW hG⟩⟩ rfl rfl hl.1 rfl (lv_room (Nat.le_of_ble_eq_true rfl)) dX3_standing_5 ⟨Nat.le_of_ble_eq_true rfl, Nat.le_of_ble_eq_true rfl⟩) (fun r hr9 => ?_)
  subst hr9
  refine my_ifne (tgt := 29) hx hb dX3_standing_8 (by decide) (fun c_8 => ?_) (fun c_8 => ?_)
  · refine lv_aload_n hx hb dX3_standing_29 rfl (lv_at hl 0 rfl) ?_
    refine va_get (D := G.1) (ci := 3) (v := .int ca) (C := RX3) (T := TX3) (N := 9) hx hb hts inlX3 hown hG.1 hP k (wl_at (by omega) hhe) rfl 4 (by decide) (hts (.fieldLink RX3 25 "SwornLists$Hearing" "called" "I") w_480) (fun _ h9 => h9) rfl dX3_standing_30 ?_
    refine lv_iload_n hx hb dX3_standing_33 rfl (lv_at hl 1 rfl) ?_
    refine rd_calli (va_runSN (As := [.int ca, .int (nI pn)]) (rest := []) ⟨hx, hb, hml, hown, hts⟩ (s_hasBit l G g hg f ca (nI pn)  ) (⟨my_cn hts ok_X10_hasBit.1 (hG.2.1 (.methodLinkNest RX3 44 yX10_hasBit RX10) (List.mem_of_getElem? (i := 33) rfl)) rfl rfl ⟨Nat.le_of_ble_eq_true rfl, Nat.le_of_ble_eq_true rfl⟩, hts _ ok_X10_hasBit.2.2.1, trivial⟩) ⟨bP.blind, fun U hU hW => ⟨rfl, by rw [hU]; exact hP, kG.warm hW hG⟩⟩ rfl rfl hl.1 rfl (lv_room (Nat.le_of_ble_eq_true rfl)) dX3_standing_34 ⟨Nat.le_of_ble_eq_true rfl, Nat.le_of_ble_eq_true rfl⟩) (fun r hr9 => ?_)
    subst hr9
    refine my_ifne (tgt := 42) hx hb dX3_standing_37 (by decide) (fun c_37 => ?_) (fun c_37 => ?_)
    · refine lv_aload_n hx hb dX3_standing_42 rfl (lv_at hl 0 rfl) ?_
      refine va_get (D := G.1) (ci := 3) (v := .int mi) (C := RX3) (T := TX3) (N := 9) hx hb hts inlX3 hown hG.1 hP k (wl_at (by omega) hhe) rfl 5 (by decide) (hts (.fieldLink RX3 53 "SwornLists$Hearing" "missing" "I") w_497) (fun _ h9 => h9) rfl dX3_standing_43 ?_
      refine lv_iload_n hx hb dX3_standing_46 rfl (lv_at hl 1 rfl) ?_
      refine rd_calli (va_runSN (As := [.int mi, .int (nI pn)]) (rest := []) ⟨hx, hb, hml, hown, hts⟩ (s_hasBit l G g hg f mi (nI pn)  ) (⟨my_cn hts ok_X10_hasBit.1 (hG.2.1 (.methodLinkNest RX3 44 yX10_hasBit RX10) (List.mem_of_getElem? (i := 33) rfl)) rfl rfl ⟨Nat.le_of_ble_eq_true rfl, Nat.le_of_ble_eq_true rfl⟩, hts _ ok_X10_hasBit.2.2.1, trivial⟩) ⟨bP.blind, fun U hU hW => ⟨rfl, by rw [hU]; exact hP, kG.warm hW hG⟩⟩ rfl rfl hl.1 rfl (lv_room (Nat.le_of_ble_eq_true rfl)) dX3_standing_47 ⟨Nat.le_of_ble_eq_true rfl, Nat.le_of_ble_eq_true rfl⟩) (fun r hr9 => ?_)
      subst hr9
      refine my_ifeq (tgt := 55) hx hb dX3_standing_50 (by decide) (fun c_50 => ?_) (fun c_50 => ?_)
      · refine lv_aload_n hx hb dX3_standing_55 rfl (lv_at hl 0 rfl) ?_
        refine va_get (D := G.1) (ci := 3) (v := .int s0) (C := RX3) (T := TX3) (N := 9) hx hb hts inlX3 hown hG.1 hP k (wl_at (by omega) hhe) rfl 6 (by decide) (hts (.fieldLink RX3 56 "SwornLists$Hearing" "struckBy0" "I") w_498) (fun _ h9 => h9) rfl dX3_standing_56 ?_
        refine lv_iload_n hx hb dX3_standing_59 rfl (lv_at hl 1 rfl) ?_
        refine rd_calli (va_runSN (As := [.int s0, .int (nI pn)]) (rest := []) ⟨hx, hb, hml, hown, hts⟩ (s_hasBit l G g hg f s0 (nI pn)  ) (⟨my_cn hts ok_X10_hasBit.1 (hG.2.1 (.methodLinkNest RX3 44 yX10_hasBit RX10) (List.mem_of_getElem? (i := 33) rfl)) rfl rfl ⟨Nat.le_of_ble_eq_true rfl, Nat.le_of_ble_eq_true rfl⟩, hts _ ok_X10_hasBit.2.2.1, trivial⟩) ⟨bP.blind, fun U hU hW => ⟨rfl, by rw [hU]; exact hP, kG.warm hW hG⟩⟩ rfl rfl hl.1 rfl (lv_room (Nat.le_of_ble_eq_true rfl)) dX3_standing_60 ⟨Nat.le_of_ble_eq_true rfl, Nat.le_of_ble_eq_true rfl⟩) (fun r hr9 => ?_)
        subst hr9
        refine my_ifeq (tgt := 68) hx hb dX3_standing_63 (by decide) (fun c_63 => ?_) (fun c_63 => ?_)
        · refine lv_aload_n hx hb dX3_standing_68 rfl (lv_at hl 0 rfl) ?_
          refine va_get (D := G.1) (ci := 3) (v := .int s1) (C := RX3) (T := TX3) (N := 9) hx hb hts inlX3 hown hG.1 hP k (wl_at (by omega) hhe) rfl 7 (by decide) (hts (.fieldLink RX3 59 "SwornLists$Hearing" "struckBy1" "I") w_499) (fun _ h9 => h9) rfl dX3_standing_69 ?_
          refine lv_iload_n hx hb dX3_standing_72 rfl (lv_at hl 1 rfl) ?_
          refine rd_calli (va_runSN (As := [.int s1, .int (nI pn)]) (rest := []) ⟨hx, hb, hml, hown, hts⟩ (s_hasBit l G g hg f s1 (nI pn)  ) (⟨my_cn hts ok_X10_hasBit.1 (hG.2.1 (.methodLinkNest RX3 44 yX10_hasBit RX10) (List.mem_of_getElem? (i := 33) rfl)) rfl rfl ⟨Nat.le_of_ble_eq_true rfl, Nat.le_of_ble_eq_true rfl⟩, hts _ ok_X10_hasBit.2.2.1, trivial⟩) ⟨bP.blind, fun U hU hW => ⟨rfl, by rw [hU]; exact hP, kG.warm hW hG⟩⟩ rfl rfl hl.1 rfl (lv_room (Nat.le_of_ble_eq_true rfl)) dX3_standing_73 ⟨Nat.le_of_ble_eq_true rfl, Nat.le_of_ble_eq_true rfl⟩) (fun r hr9 => ?_)
          subst hr9
          refine my_ifeq (tgt := 81) hx hb dX3_standing_76 (by decide) (fun c_76 => ?_) (fun c_76 => ?_)
          · refine lv_aload_n hx hb dX3_standing_81 rfl (lv_at hl 0 rfl) ?_
            refine va_get (D := G.1) (ci := 3) (v := .int sw) (C := RX3) (T := TX3) (N := 9) hx hb hts inlX3 hown hG.1 hP k (wl_at (by omega) hhe) rfl 8 (by decide) (hts (.fieldLink RX3 73 "SwornLists$Hearing" "sworn" "I") w_515) (fun _ h9 => h9) rfl dX3_standing_82 ?_
            refine lv_iload_n hx hb dX3_standing_85 rfl (lv_at hl 1 rfl) ?_
            refine rd_calli (va_runSN (As := [.int sw, .int (nI pn)]) (rest := []) ⟨hx, hb, hml, hown, hts⟩ (s_hasBit l G g hg f sw (nI pn)  ) (⟨my_cn hts ok_X10_hasBit.1 (hG.2.1 (.methodLinkNest RX3 44 yX10_hasBit RX10) (List.mem_of_getElem? (i := 33) rfl)) rfl rfl ⟨Nat.le_of_ble_eq_true rfl, Nat.le_of_ble_eq_true rfl⟩, hts _ ok_X10_hasBit.2.2.1, trivial⟩) ⟨bP.blind, fun U hU hW => ⟨rfl, by rw [hU]; exact hP, kG.warm hW hG⟩⟩ rfl rfl hl.1 rfl (lv_room (Nat.le_of_ble_eq_true rfl)) dX3_standing_86 ⟨Nat.le_of_ble_eq_true rfl, Nat.le_of_ble_eq_true rfl⟩) (fun r hr9 => ?_)
            subst hr9
            refine my_ifeq (tgt := 96) hx hb dX3_standing_89 (by decide) (fun c_89 => ?_) (fun c_89 => ?_)
            · refine lv_bipush (v := 6) hx hb dX3_standing_96 (by decide) ?_
              refine W_q9 hQ9 ?_
              exact W.iret (v := 6) hx hb hr (fun _ hT9 _ => ⟨_, rfl, (by unfold stZ; rw [if_neg (fun z => z (by rw [← hbt_bt (by omega)]; exact c_8)), if_neg (fun z => z (by rw [← hbt_bt (by omega)]; exact c_37)), if_neg (fun z => c_50 (by rw [hbt_bt (by omega)]; exact z)), if_neg (fun z => c_63 (by rw [hbt_bt (by omega)]; exact z)), if_neg (fun z => c_76 (by rw [hbt_bt (by omega)]; exact z)), if_neg (fun z => c_89 (by rw [hbt_bt (by omega)]; exact z))]), hT9⟩) (fun _ h => absurd h List.not_mem_nil) dX3_standing_98
            · refine lv_iconst (v := 5) hx hb dX3_standing_92 (by decide) ?_
              refine lv_goto (tgt := 98) hx hb dX3_standing_93 (by decide) ?_
              refine W_q9 hQ9 ?_
              exact W.iret (v := 5) hx hb hr (fun _ hT9 _ => ⟨_, rfl, (by unfold stZ; rw [if_neg (fun z => z (by rw [← hbt_bt (by omega)]; exact c_8)), if_neg (fun z => z (by rw [← hbt_bt (by omega)]; exact c_37)), if_neg (fun z => c_50 (by rw [hbt_bt (by omega)]; exact z)), if_neg (fun z => c_63 (by rw [hbt_bt (by omega)]; exact z)), if_neg (fun z => c_76 (by rw [hbt_bt (by omega)]; exact z)), if_pos (by rw [← hbt_bt (by omega)]; exact c_89)]), hT9⟩) (fun _ h => absurd h List.not_mem_nil) dX3_standing_98
          · refine lv_iconst (v := 4) hx hb dX3_standing_79 (by decide) ?_
            refine W_q9 hQ9 ?_
            exact W.iret (v := 4) hx hb hr (fun _ hT9 _ => ⟨_, rfl, (by unfold stZ; rw [if_neg (fun z => z (by rw [← hbt_bt (by omega)]; exact c_8)), if_neg (fun z => z (by rw [← hbt_bt (by omega)]; exact c_37)), if_neg (fun z => c_50 (by rw [hbt_bt (by omega)]; exact z)), if_neg (fun z => c_63 (by rw [hbt_bt (by omega)]; exact z)), if_pos (by rw [← hbt_bt (by omega)]; exact c_76)]), hT9⟩) (fun _ h => absurd h List.not_mem_nil) dX3_standing_80
        · refine lv_iconst (v := 3) hx hb dX3_standing_66 (by decide) ?_
          refine W_q9 hQ9 ?_
          exact W.iret (v := 3) hx hb hr (fun _ hT9 _ => ⟨_, rfl, (by unfold stZ; rw [if_neg (fun z => z (by rw [← hbt_bt (by omega)]; exact c_8)), if_neg (fun z => z (by rw [← hbt_bt (by omega)]; exact c_37)), if_neg (fun z => c_50 (by rw [hbt_bt (by omega)]; exact z)), if_pos (by rw [← hbt_bt (by omega)]; exact c_63)]), hT9⟩) (fun _ h => absurd h List.not_mem_nil) dX3_standing_67
      · refine lv_iconst (v := 2) hx hb dX3_standing_53 (by decide) ?_
        refine W_q9 hQ9 ?_
        exact W.iret (v := 2) hx hb hr (fun _ hT9 _ => ⟨_, rfl, (by unfold stZ; rw [if_neg (fun z => z (by rw [← hbt_bt (by omega)]; exact c_8)), if_neg (fun z => z (by rw [← hbt_bt (by omega)]; exact c_37)), if_pos (by rw [← hbt_bt (by omega)]; exact c_50)]), hT9⟩) (fun _ h => absurd h List.not_mem_nil) dX3_standing_54
    · refine lv_iconst (v := 1) hx hb dX3_standing_40 (by decide) ?_
      refine W_q9 hQ9 ?_
      exact W.iret (v := 1) hx hb hr (fun _ hT9 _ => ⟨_, rfl, (by unfold stZ; rw [if_neg (fun z => z (by rw [← hbt_bt (by omega)]; exact c_8)), if_pos (fun z => c_37 (by rw [hbt_bt (by omega)]; exact z))]), hT9⟩) (fun _ h => absurd h List.not_mem_nil) dX3_standing_41
  · refine lv_aload_n hx hb dX3_standing_11 rfl (lv_at hl 0 rfl) ?_
    refine va_get (D := G.1) (ci := 3) (v := .int sw) (C := RX3) (T := TX3) (N := 9) hx hb hts inlX3 hown hG.1 hP k (wl_at (by omega) hhe) rfl 8 (by decide) (hts (.fieldLink RX3 73 "SwornLists$Hearing" "sworn" "I") w_515) (fun _ h9 => h9) rfl dX3_standing_12 ?_
    refine lv_iload_n hx hb dX3_standing_15 rfl (lv_at hl 1 rfl) ?_
    refine rd_calli (va_runSN (As := [.int sw, .int (nI pn)]) (rest := []) ⟨hx, hb, hml, hown, hts⟩ (s_hasBit l G g hg f sw (nI pn)  ) (⟨my_cn hts ok_X10_hasBit.1 (hG.2.1 (.methodLinkNest RX3 44 yX10_hasBit RX10) (List.mem_of_getElem? (i := 33) rfl)) rfl rfl ⟨Nat.le_of_ble_eq_true rfl, Nat.le_of_ble_eq_true rfl⟩, hts _ ok_X10_hasBit.2.2.1, trivial⟩) ⟨bP.blind, fun U hU hW => ⟨rfl, by rw [hU]; exact hP, kG.warm hW hG⟩⟩ rfl rfl hl.1 rfl (lv_room (Nat.le_of_ble_eq_true rfl)) dX3_standing_16 ⟨Nat.le_of_ble_eq_true rfl, Nat.le_of_ble_eq_true rfl⟩) (fun r hr9 => ?_)
    subst hr9
    refine my_ifeq (tgt := 27) hx hb dX3_standing_19 (by decide) (fun c_19 => ?_) (fun c_19 => ?_)
    · refine lv_iconst (v := 0) hx hb dX3_standing_27 (by decide) ?_
      refine W_q9 hQ9 ?_
      exact W.iret (v := 0) hx hb hr (fun _ hT9 _ => ⟨_, rfl, (by unfold stZ; rw [if_pos (fun z => c_8 (by rw [hbt_bt (by omega)]; exact z)), if_neg (fun z => c_19 (by rw [hbt_bt (by omega)]; exact z))]), hT9⟩) (fun _ h => absurd h List.not_mem_nil) dX3_standing_28
    · refine lv_bipush (v := 7) hx hb dX3_standing_22 (by decide) ?_
      refine lv_goto (tgt := 28) hx hb dX3_standing_24 (by decide) ?_
      refine W_q9 hQ9 ?_
      exact W.iret (v := 7) hx hb hr (fun _ hT9 _ => ⟨_, rfl, (by unfold stZ; rw [if_pos (fun z => c_8 (by rw [hbt_bt (by omega)]; exact z)), if_pos (by rw [← hbt_bt (by omega)]; exact c_19)]), hT9⟩) (fun _ h => absurd h List.not_mem_nil) dX3_standing_28
set_option maxHeartbeats 4000000 in
set_option maxRecDepth 100000 in
theorem h_figureE0 (l : Launch) (G : gW) (g : Nat → Nat) (hg : gOK g) (f : Nat → va_E) (k : Nat) (sl : Nat) (lo : Int32) (ib : Int32) (ca : Int32) (mi : Int32) (s0 : Int32) (s1 : Int32) (sw : Int32) (hhe : f k = eO 3 [.ref (g (k + 1)), .int (nI sl), .int lo, .int ib, .int ca, .int mi, .int s0, .int s1, .int sw]) (hk3 : k + 1 < 36) (hsl : sl ≤ 24) : Met l yX3_figure (wsT yX3_figure cX3_figure 2 (some .int)) ({ frames := 1, cells := 0, slots := 0, locals := 20 }) (bP G g f [.ref (g k), .int 0]) (rQi (fun z9 => z9 = nI (cnt (sw &&& (ib ^^^ (-1))) 32))) 0 0 fr0 := by
  refine Met.ofW (cc := cX3_figure) (maxL := 2) (ret := (some .int)) (by decide) rfl ?_
  intro p e s m args below meth c s₁ B hml hv
  obtain ⟨rfl, hP, hG⟩ := hv
  have hx := B.exec
  have hb := B.bytes
  have hr := B.returns
  have hts := my_hts (atoms_spec (ws := wsT yX3_figure cX3_figure 2 (some .int)) B.pre)
  have hown : s.vm.findClass RX3 = some m.cls := findClass_of_methodNamed B.named
  have hlocks := B.notSynchronized
  have hl := lv_entry ([.ref (g k), .int 0]) (n := 2) (Nat.le_of_ble_eq_true rfl)
  rw [lg_entry_eq]
  generalize (lg_sl ([.ref (g k), .int 0]) ++ List.replicate (2 - (lg_sl ([.ref (g k), .int 0])).length) Slot.unset).toArray = ls at hl ⊢
  have hl : lv_has ls 2 [(0, .ref (g k)), (1, .int 0)] := hl
  refine W_q8 (fun Q9 hQ9 => ?_)
  refine lv_iload_n hx hb dX3_figure_0 rfl (lv_at hl 1 rfl) ?_
  refine lv_tableIn (off := 27) (tgt := 28) hx hb dX3_figure_1 (by decide) (by decide) (by decide) (by decide) ?_
  refine lv_aload_n hx hb dX3_figure_28 rfl (lv_at hl 0 rfl) ?_
  refine va_get (D := G.1) (ci := 3) (v := .int sw) (C := RX3) (T := TX3) (N := 9) hx hb hts inlX3 hown hG.1 hP k (wl_at (by omega) hhe) rfl 8 (by decide) (hts (.fieldLink RX3 73 "SwornLists$Hearing" "sworn" "I") w_515) (fun _ h9 => h9) rfl dX3_figure_29 ?_
  refine lv_aload_n hx hb dX3_figure_32 rfl (lv_at hl 0 rfl) ?_
  refine va_get (D := G.1) (ci := 3) (v := .int ib) (C := RX3) (T := TX3) (N := 9) hx hb hts inlX3 hown hG.1 hP k (wl_at (by omega) hhe) rfl 3 (by decide) (hts (.fieldLink RX3 15 "SwornLists$Hearing" "inBox" "I") w_477) (fun _ h9 => h9) rfl dX3_figure_33 ?_
  refine lv_iconst (v := (-1)) hx hb dX3_figure_36 (by decide) ?_
  refine lv_ixor hx hb dX3_figure_37 ?_
  refine lv_iand hx hb dX3_figure_38 ?_
  refine rd_calli (va_runS (As := [.int (sw &&& (ib ^^^ (-1)))]) (rest := []) ⟨hx, hb, hml, hown, hts⟩ (s_bitCountE l G g hg f (sw &&& (ib ^^^ (-1)))  ) (my_cwS hts ok_J6_bitCount_0f7a4 w_483 rfl rfl ⟨Nat.le_of_ble_eq_true rfl, Nat.le_of_ble_eq_true rfl⟩) ⟨bP.blind, fun U hU hW => ⟨rfl, by rw [hU]; exact hP, kG.warm hW hG⟩⟩ rfl rfl hl.1 rfl (lv_room (Nat.le_of_ble_eq_true rfl)) dX3_figure_39 ⟨Nat.le_of_ble_eq_true rfl, Nat.le_of_ble_eq_true rfl⟩) (fun r hr9 => ?_)
  subst hr9
  refine W_q9 hQ9 ?_
  exact W.iret (v := nI (cnt (sw &&& (ib ^^^ (-1))) 32)) hx hb hr (fun _ hT9 _ => ⟨_, rfl, (rfl), hT9⟩) (fun _ h => absurd h List.not_mem_nil) dX3_figure_42
set_option maxHeartbeats 4000000 in
set_option maxRecDepth 100000 in
theorem h_figureE1 (l : Launch) (G : gW) (g : Nat → Nat) (hg : gOK g) (f : Nat → va_E) (k : Nat) (sl : Nat) (lo : Int32) (ib : Int32) (ca : Int32) (mi : Int32) (s0 : Int32) (s1 : Int32) (sw : Int32) (hhe : f k = eO 3 [.ref (g (k + 1)), .int (nI sl), .int lo, .int ib, .int ca, .int mi, .int s0, .int s1, .int sw]) (hk3 : k + 1 < 36) (hsl : sl ≤ 24) : Met l yX3_figure (wsT yX3_figure cX3_figure 2 (some .int)) ({ frames := 1, cells := 0, slots := 0, locals := 20 }) (bP G g f [.ref (g k), .int 1]) (rQi (fun z9 => z9 = nI (cnt s0 32))) 0 0 fr0 := by
  refine Met.ofW (cc := cX3_figure) (maxL := 2) (ret := (some .int)) (by decide) rfl ?_
  intro p e s m args below meth c s₁ B hml hv
  obtain ⟨rfl, hP, hG⟩ := hv
  have hx := B.exec
  have hb := B.bytes
  have hr := B.returns
  have hts := my_hts (atoms_spec (ws := wsT yX3_figure cX3_figure 2 (some .int)) B.pre)
  have hown : s.vm.findClass RX3 = some m.cls := findClass_of_methodNamed B.named
  have hlocks := B.notSynchronized
  have hl := lv_entry ([.ref (g k), .int 1]) (n := 2) (Nat.le_of_ble_eq_true rfl)
  rw [lg_entry_eq]
  generalize (lg_sl ([.ref (g k), .int 1]) ++ List.replicate (2 - (lg_sl ([.ref (g k), .int 1])).length) Slot.unset).toArray = ls at hl ⊢
  have hl : lv_has ls 2 [(0, .ref (g k)), (1, .int 1)] := hl
  refine W_q8 (fun Q9 hQ9 => ?_)
  refine lv_iload_n hx hb dX3_figure_0 rfl (lv_at hl 1 rfl) ?_
  refine lv_tableIn (off := 42) (tgt := 43) hx hb dX3_figure_1 (by decide) (by decide) (by decide) (by decide) ?_
  refine lv_aload_n hx hb dX3_figure_43 rfl (lv_at hl 0 rfl) ?_
  refine va_get (D := G.1) (ci := 3) (v := .int s0) (C := RX3) (T := TX3) (N := 9) hx hb hts inlX3 hown hG.1 hP k (wl_at (by omega) hhe) rfl 6 (by decide) (hts (.fieldLink RX3 56 "SwornLists$Hearing" "struckBy0" "I") w_498) (fun _ h9 => h9) rfl dX3_figure_44 ?_
  refine rd_calli (va_runS (As := [.int s0]) (rest := []) ⟨hx, hb, hml, hown, hts⟩ (s_bitCountE l G g hg f s0  ) (my_cwS hts ok_J6_bitCount_0f7a4 w_483 rfl rfl ⟨Nat.le_of_ble_eq_true rfl, Nat.le_of_ble_eq_true rfl⟩) ⟨bP.blind, fun U hU hW => ⟨rfl, by rw [hU]; exact hP, kG.warm hW hG⟩⟩ rfl rfl hl.1 rfl (lv_room (Nat.le_of_ble_eq_true rfl)) dX3_figure_47 ⟨Nat.le_of_ble_eq_true rfl, Nat.le_of_ble_eq_true rfl⟩) (fun r hr9 => ?_)
  subst hr9
  refine W_q9 hQ9 ?_
  exact W.iret (v := nI (cnt s0 32)) hx hb hr (fun _ hT9 _ => ⟨_, rfl, (rfl), hT9⟩) (fun _ h => absurd h List.not_mem_nil) dX3_figure_50
set_option maxHeartbeats 4000000 in
set_option maxRecDepth 100000 in
theorem h_figureE2 (l : Launch) (G : gW) (g : Nat → Nat) (hg : gOK g) (f : Nat → va_E) (k : Nat) (sl : Nat) (lo : Int32) (ib : Int32) (ca : Int32) (mi : Int32) (s0 : Int32) (s1 : Int32) (sw : Int32) (hhe : f k = eO 3 [.ref (g (k + 1)), .int (nI sl), .int lo, .int ib, .int ca, .int mi, .int s0, .int s1, .int sw]) (hk3 : k + 1 < 36) (hsl : sl ≤ 24) : Met l yX3_figure (wsT yX3_figure cX3_figure 2 (some .int)) ({ frames := 1, cells := 0, slots := 0, locals := 20 }) (bP G g f [.ref (g k), .int 2]) (rQi (fun z9 => z9 = nI (cnt s1 32))) 0 0 fr0 := by
  refine Met.ofW (cc := cX3_figure) (maxL := 2) (ret := (some .int)) (by decide) rfl ?_
  intro p e s m args below meth c s₁ B hml hv
  obtain ⟨rfl, hP, hG⟩ := hv
  have hx := B.exec
  have hb := B.bytes
  have hr := B.returns
  have hts := my_hts (atoms_spec (ws := wsT yX3_figure cX3_figure 2 (some .int)) B.pre)
  have hown : s.vm.findClass RX3 = some m.cls := findClass_of_methodNamed B.named
  have hlocks := B.notSynchronized
  have hl := lv_entry ([.ref (g k), .int 2]) (n := 2) (Nat.le_of_ble_eq_true rfl)
  rw [lg_entry_eq]
  generalize (lg_sl ([.ref (g k), .int 2]) ++ List.replicate (2 - (lg_sl ([.ref (g k), .int 2])).length) Slot.unset).toArray = ls at hl ⊢
  have hl : lv_has ls 2 [(0, .ref (g k)), (1, .int 2)] := hl
  refine W_q8 (fun Q9 hQ9 => ?_)
  refine lv_iload_n hx hb dX3_figure_0 rfl (lv_at hl 1 rfl) ?_
  refine lv_tableIn (off := 50) (tgt := 51) hx hb dX3_figure_1 (by decide) (by decide) (by decide) (by decide) ?_
  refine lv_aload_n hx hb dX3_figure_51 rfl (lv_at hl 0 rfl) ?_
  refine va_get (D := G.1) (ci := 3) (v := .int s1) (C := RX3) (T := TX3) (N := 9) hx hb hts inlX3 hown hG.1 hP k (wl_at (by omega) hhe) rfl 7 (by decide) (hts (.fieldLink RX3 59 "SwornLists$Hearing" "struckBy1" "I") w_499) (fun _ h9 => h9) rfl dX3_figure_52 ?_
  refine rd_calli (va_runS (As := [.int s1]) (rest := []) ⟨hx, hb, hml, hown, hts⟩ (s_bitCountE l G g hg f s1  ) (my_cwS hts ok_J6_bitCount_0f7a4 w_483 rfl rfl ⟨Nat.le_of_ble_eq_true rfl, Nat.le_of_ble_eq_true rfl⟩) ⟨bP.blind, fun U hU hW => ⟨rfl, by rw [hU]; exact hP, kG.warm hW hG⟩⟩ rfl rfl hl.1 rfl (lv_room (Nat.le_of_ble_eq_true rfl)) dX3_figure_55 ⟨Nat.le_of_ble_eq_true rfl, Nat.le_of_ble_eq_true rfl⟩) (fun r hr9 => ?_)
  subst hr9
  refine W_q9 hQ9 ?_
  exact W.iret (v := nI (cnt s1 32)) hx hb hr (fun _ hT9 _ => ⟨_, rfl, (rfl), hT9⟩) (fun _ h => absurd h List.not_mem_nil) dX3_figure_58
set_option maxHeartbeats 4000000 in
set_option maxRecDepth 100000 in
theorem h_figureE3 (l : Launch) (G : gW) (g : Nat → Nat) (hg : gOK g) (f : Nat → va_E) (k : Nat) (sl : Nat) (lo : Int32) (ib : Int32) (ca : Int32) (mi : Int32) (s0 : Int32) (s1 : Int32) (sw : Int32) (hhe : f k = eO 3 [.ref (g (k + 1)), .int (nI sl), .int lo, .int ib, .int ca, .int mi, .int s0, .int s1, .int sw]) (hk3 : k + 1 < 36) (hsl : sl ≤ 24) : Met l yX3_figure (wsT yX3_figure cX3_figure 2 (some .int)) ({ frames := 0, cells := 0, slots := 0, locals := 0 }) (bP G g f [.ref (g k), .int 3]) (rQi (fun z9 => z9 = lo)) 0 0 fr0 := by
  refine Met.ofW (cc := cX3_figure) (maxL := 2) (ret := (some .int)) (by decide) rfl ?_
  intro p e s m args below meth c s₁ B hml hv
  obtain ⟨rfl, hP, hG⟩ := hv
  have hx := B.exec
  have hb := B.bytes
  have hr := B.returns
  have hts := my_hts (atoms_spec (ws := wsT yX3_figure cX3_figure 2 (some .int)) B.pre)
  have hown : s.vm.findClass RX3 = some m.cls := findClass_of_methodNamed B.named
  have hlocks := B.notSynchronized
  have hl := lv_entry ([.ref (g k), .int 3]) (n := 2) (Nat.le_of_ble_eq_true rfl)
  rw [lg_entry_eq]
  generalize (lg_sl ([.ref (g k), .int 3]) ++ List.replicate (2 - (lg_sl ([.ref (g k), .int 3])).length) Slot.unset).toArray = ls at hl ⊢
  have hl : lv_has ls 2 [(0, .ref (g k)), (1, .int 3)] := hl
  refine W_q8 (fun Q9 hQ9 => ?_)
  refine lv_iload_n hx hb dX3_figure_0 rfl (lv_at hl 1 rfl) ?_
  refine lv_tableOut (tgt := 59) hx hb dX3_figure_1 (by decide) (by decide) ?_
  refine lv_aload_n hx hb dX3_figure_59 rfl (lv_at hl 0 rfl) ?_
  refine va_get (D := G.1) (ci := 3) (v := .int lo) (C := RX3) (T := TX3) (N := 9) hx hb hts inlX3 hown hG.1 hP k (wl_at (by omega) hhe) rfl 2 (by decide) (hts (.fieldLink RX3 19 "SwornLists$Hearing" "lot" "I") w_478) (fun _ h9 => h9) rfl dX3_figure_60 ?_
  refine W_q9 hQ9 ?_
  exact W.iret (v := lo) hx hb hr (fun _ hT9 _ => ⟨_, rfl, (rfl), hT9⟩) (fun _ h => absurd h List.not_mem_nil) dX3_figure_63


set_option maxHeartbeats 4000000 in
set_option maxRecDepth 100000 in
theorem m_isNextDay (l : Launch) (G : gW) (g : Nat → Nat) (hg : gOK g) (f : Nat → va_E) (pay : Int32) (fine : Int32) (nt : Nat) (ct : Nat → Int32) (n : Int32) (hx0 : f 0 = eO 9 [.ref (g 1), .ref (g 36), .ref (g 2), .ref (g 3), .ref (g 4), .ref (g 6), .ref (g 7)]) (hbk : f 36 = eO 0 [.ref (g 37), .ref (g 39), .ref (g 41), .ref (g 43), .ref (g 45), .ref (g 47), .ref (g 112), .int pay, .int fine]) (htr : f 45 = eO 5 [.int (nI 10), .int (nI 70), .ref (g 46), .int (nI nt)]) (hct : f 46 = eI G (10 * 70) ct) (hnt : nt ≤ 10) : Met l yX10_isNextDay (wsT yX10_isNextDay cX10_isNextDay 3 (some .boolean)) ({ frames := 2, cells := 0, slots := 0, locals := 42 }) (bP G g f [.ref (g 0), .int n]) (rQi (fun z9 => ∃ bz : Bool, z9 = b2 (bz = true))) 0 0 fr0 := by
  refine Met.ofW (cc := cX10_isNextDay) (maxL := 3) (ret := (some .boolean)) (by decide) rfl ?_
  intro p e s m args below meth c s₁ B hml hv
  obtain ⟨rfl, hP, hG⟩ := hv
  have hx := B.exec
  have hb := B.bytes
  have hr := B.returns
  have hts := my_hts (atoms_spec (ws := wsT yX10_isNextDay cX10_isNextDay 3 (some .boolean)) B.pre)
  have hown : s.vm.findClass RX10 = some m.cls := findClass_of_methodNamed B.named
  have hlocks := B.notSynchronized
  have hl := lv_entry ([.ref (g 0), .int n]) (n := 3) (Nat.le_of_ble_eq_true rfl)
  rw [lg_entry_eq]
  generalize (lg_sl ([.ref (g 0), .int n]) ++ List.replicate (3 - (lg_sl ([.ref (g 0), .int n])).length) Slot.unset).toArray = ls at hl ⊢
  have hl : lv_has ls 3 [(0, .ref (g 0)), (1, .int n)] := hl
  refine lv_aload_n hx hb dX10_isNextDay_0 rfl (lv_at hl 0 rfl) ?_
  refine va_get (D := G.1) (ci := 9) (v := .ref (g 36)) (C := RX10) (T := TX10) (N := 7) hx hb hts inlX10 hown hG.1 hP 0 (wl_at (by decide) hx0) rfl 1 (by decide) (hts (.fieldLink RX10 20 "SwornLists" "book" "LSwornLists$Book;") w_16) (fun _ h9 => h9) rfl dX10_isNextDay_1 ?_
  refine va_getN (D := G.1) (ci := 0) (v := .ref (g 45)) (C := RX0) (T := TX0) (N := 9) (host := RX10) hx hb hts inlX0 hown hG.1 hP 36 (wl_at (by decide) hbk) rfl 4 (by decide) (va_Nw.use rfl (hG.2.1 (.fieldLinkNest RX10 162 RX0 "trials" "LSwornLists$Rows;" RX10) (List.mem_of_getElem? (i := 7) rfl))) (fun _ h9 => h9) rfl dX10_isNextDay_4 ?_
  refine rd_calli (va_runV (As := []) (rest := []) ⟨hx, hb, hml, hown, hts⟩ (r_size l G g hg f 45 10 70 nt htr (by first | assumption | omega | decide) (by first | assumption | omega | decide) (by first | assumption | omega | decide) (by first | assumption | omega | decide)) (my_cwV hts ok_X5_size w_642 rfl rfl ⟨Nat.le_of_ble_eq_true rfl, Nat.le_of_ble_eq_true rfl⟩) ⟨bP.blind, va_recv hG.1 hP (ci := 5) (q0 := 45) rfl (wl_at (by decide) htr), fun U hU hW => ⟨rfl, by rw [hU]; exact hP, kG.warm hW hG⟩⟩ rfl rfl hl.1 rfl (lv_room (Nat.le_of_ble_eq_true rfl)) dX10_isNextDay_7 ⟨Nat.le_of_ble_eq_true rfl, Nat.le_of_ble_eq_true rfl⟩) (fun r hr9 => ?_)
  subst hr9
  refine lv_istore_n (lv' := [(2, .int (nI nt)), (0, .ref (g 0)), (1, .int n)]) hx hb dX10_isNextDay_10 rfl hl (by decide) rfl (fun ls hl => ?_)
  refine lv_iload_n hx hb dX10_isNextDay_11 rfl (lv_at hl 2 rfl) ?_
  refine rd_calli (va_runS (As := [.int n]) (rest := []) ⟨hx, hb, hml, hown, hts⟩ (s_isDay l G g hg f n  ) (my_cwS hts ok_X10_isDay w_178 rfl rfl ⟨Nat.le_of_ble_eq_true rfl, Nat.le_of_ble_eq_true rfl⟩) ⟨bP.blind, fun U hU hW => ⟨rfl, by rw [hU]; exact hP, kG.warm hW hG⟩⟩ rfl rfl hl.1 rfl (lv_room (Nat.le_of_ble_eq_true rfl)) dX10_isNextDay_12 ⟨Nat.le_of_ble_eq_true rfl, Nat.le_of_ble_eq_true rfl⟩) (fun r hr9 => ?_)
  subst hr9
  refine my_ifeq (tgt := 44) hx hb dX10_isNextDay_15 (by decide) (fun c_15 => ?_) (fun c_15 => ?_)
  · refine lv_iconst (v := 0) hx hb dX10_isNextDay_44 (by decide) ?_
    exact W.zret (v := 0) hx hb hr (rfl) (fun t ht hW => ⟨_, rfl, (⟨false, (b2_f (by decide)).symm⟩), ht⟩) (fun _ h => absurd h List.not_mem_nil) dX10_isNextDay_45
  · refine lv_iload_n hx hb dX10_isNextDay_18 rfl (lv_at hl 0 rfl) ?_
    refine lv_if_eq (tgt := 40) hx hb dX10_isNextDay_19 (by decide) (fun c_19 => ?_) (fun c_19 => ?_)
    · refine lv_iconst (v := 1) hx hb dX10_isNextDay_40 (by decide) ?_
      refine lv_goto (tgt := 45) hx hb dX10_isNextDay_41 (by decide) ?_
      exact W.zret (v := 1) hx hb hr (rfl) (fun t ht hW => ⟨_, rfl, (⟨true, (b2_t rfl).symm⟩), ht⟩) (fun _ h => absurd h List.not_mem_nil) dX10_isNextDay_45
    · refine lv_iload_n hx hb dX10_isNextDay_22 rfl (lv_at hl 2 rfl) ?_
      refine lv_aload_n hx hb dX10_isNextDay_23 rfl (lv_at hl 1 rfl) ?_
      refine va_get (D := G.1) (ci := 9) (v := .ref (g 36)) (C := RX10) (T := TX10) (N := 7) hx hb hts inlX10 hown hG.1 hP 0 (wl_at (by decide) hx0) rfl 1 (by decide) (hts (.fieldLink RX10 20 "SwornLists" "book" "LSwornLists$Book;") w_16) (fun _ h9 => h9) rfl dX10_isNextDay_24 ?_
      refine va_getN (D := G.1) (ci := 0) (v := .ref (g 45)) (C := RX0) (T := TX0) (N := 9) (host := RX10) hx hb hts inlX0 hown hG.1 hP 36 (wl_at (by decide) hbk) rfl 4 (by decide) (va_Nw.use rfl (hG.2.1 (.fieldLinkNest RX10 162 RX0 "trials" "LSwornLists$Rows;" RX10) (List.mem_of_getElem? (i := 7) rfl))) (fun _ h9 => h9) rfl dX10_isNextDay_27 ?_
      refine lv_iload_n hx hb dX10_isNextDay_30 rfl (lv_at hl 0 rfl) ?_
      refine lv_iconst (v := 1) hx hb dX10_isNextDay_31 (by decide) ?_
      refine lv_isub hx hb dX10_isNextDay_32 ?_
      refine lv_iconst (v := 0) hx hb dX10_isNextDay_33 (by decide) ?_
      refine rd_calli (va_runV (As := [.int ((nI nt) - 1), .int 0]) (rest := [.int n]) ⟨hx, hb, hml, hown, hts⟩ (r_at l G g hg f 45 10 70 nt ct ((nI nt) - 1) 0 htr hct (by first | assumption | omega | decide) (by first | assumption | omega | decide) (by first | assumption | omega | decide) (by first | assumption | omega | decide)) (my_cwV hts ok_X5_at w_610 rfl rfl ⟨Nat.le_of_ble_eq_true rfl, Nat.le_of_ble_eq_true rfl⟩) ⟨bP.blind, va_recv hG.1 hP (ci := 5) (q0 := 45) rfl (wl_at (by decide) htr), fun U hU hW => ⟨rfl, by rw [hU]; exact hP, kG.warm hW hG⟩⟩ rfl rfl hl.1 rfl (lv_room (Nat.le_of_ble_eq_true rfl)) dX10_isNextDay_34 ⟨Nat.le_of_ble_eq_true rfl, Nat.le_of_ble_eq_true rfl⟩) (fun r hr9 => ?_)
      subst hr9
      refine lv_icmp_lt (tgt := 44) hx hb dX10_isNextDay_37 (by decide) (fun c_37 => ?_) (fun c_37 => ?_)
      · refine lv_iconst (v := 0) hx hb dX10_isNextDay_44 (by decide) ?_
        exact W.zret (v := 0) hx hb hr (rfl) (fun t ht hW => ⟨_, rfl, (⟨false, (b2_f (by decide)).symm⟩), ht⟩) (fun _ h => absurd h List.not_mem_nil) dX10_isNextDay_45
      · refine lv_iconst (v := 1) hx hb dX10_isNextDay_40 (by decide) ?_
        refine lv_goto (tgt := 45) hx hb dX10_isNextDay_41 (by decide) ?_
        exact W.zret (v := 1) hx hb hr (rfl) (fun t ht hW => ⟨_, rfl, (⟨true, (b2_t rfl).symm⟩), ht⟩) (fun _ h => absurd h List.not_mem_nil) dX10_isNextDay_45
set_option maxHeartbeats 4000000 in
set_option maxRecDepth 100000 in
theorem m_trial (l : Launch) (G : gW) (g : Nat → Nat) (hg : gOK g) (f : Nat → va_E) (a1 : Int32) (a2 : Int32) (a3 : Int32) (a4 : Int32) (a5 : Int32) (a6 : Int32) (a7 : Int32) (a8 : Int32) (a9 : Int32)  (hI : cI G g f) : Met l yX10_trial (wsT yX10_trial cX10_trial 12 (some .int)) ({ frames := 3, cells := 0, slots := 0, locals := 64 }) (bP G g f [.ref (g 0), .int a1, .int a2, .int a3, .int a4, .int a5, .int a6, .int a7, .int a8, .int a9]) (bQi G g (fun (z9 : Int32) (f' : Nat → va_E) => (cI G g f') ∧ ∀ j, 315 ≤ j → f' j = f j)) 0 0 (gA g) := by
  refine Met.ofW (cc := cX10_trial) (maxL := 12) (ret := (some .int)) (by decide) rfl ?_
  intro p e s m args below meth c s₁ B hml hv
  obtain ⟨rfl, hP, hG⟩ := hv
  have hx := B.exec
  have hb := B.bytes
  have hr := B.returns
  have hts := my_hts (atoms_spec (ws := wsT yX10_trial cX10_trial 12 (some .int)) B.pre)
  have hown : s.vm.findClass RX10 = some m.cls := findClass_of_methodNamed B.named
  have hlocks := B.notSynchronized
  have hS : va_S (gA g) s.heap s.heap [] := va_S.rf
  have hl := lv_entry ([.ref (g 0), .int a1, .int a2, .int a3, .int a4, .int a5, .int a6, .int a7, .int a8, .int a9]) (n := 12) (Nat.le_of_ble_eq_true rfl)
  rw [lg_entry_eq]
  generalize (lg_sl ([.ref (g 0), .int a1, .int a2, .int a3, .int a4, .int a5, .int a6, .int a7, .int a8, .int a9]) ++ List.replicate (12 - (lg_sl ([.ref (g 0), .int a1, .int a2, .int a3, .int a4, .int a5, .int a6, .int a7, .int a8, .int a9])).length) Slot.unset).toArray = ls at hl ⊢
  have hl : lv_has ls 12 [(0, .ref (g 0)), (1, .int a1), (2, .int a2), (3, .int a3), (4, .int a4), (5, .int a5), (6, .int a6), (7, .int a7), (8, .int a8), (9, .int a9)] := hl
  obtain ⟨se, hf, imf, kf, mc, op, cm, wu, mk, ab, be, mn, le, wt, ww, wb, wf, vv, pay, fine, np, dp, nf, df, nr, dr, na, da, nt, ct, lf, tf, hx0, hctc, hhs, him, hkp, hrd, hmk, hfc6, hwt, hw8, hw9, hw10, hw11, hvl, hbk, hpr, hpd, hfr, hfd, hor, hod, har, had, htr, hct, hla, hlaa, hts0, htsa, hse, hhf, him0, him1, hmc, hmn, hnp, hnf, hnr, hna, hnt, hlf, htf, hH, hS, hL, hT, hB1, hB2⟩ := hI
  refine lv_aload_n hx hb dX10_trial_0 rfl (lv_at hl 0 rfl) ?_
  refine lv_iload_n hx hb dX10_trial_1 rfl (lv_at hl 1 rfl) ?_
  refine rd_calli (va_runV (As := [.int a1]) (rest := []) ⟨hx, hb, hml, hown, hts⟩ (m_isNextDay l G g hg f pay fine nt ct a1 hx0 hbk htr hct (by first | assumption | omega | decide)) (my_cwV hts ok_X10_isNextDay w_638 rfl rfl ⟨Nat.le_of_ble_eq_true rfl, Nat.le_of_ble_eq_true rfl⟩) ⟨bP.blind, va_recv hG.1 hP (ci := 9) (q0 := 0) rfl (wl_at (by decide) hx0), fun U hU hW => ⟨rfl, by rw [hU]; exact hP, kG.warm hW hG⟩⟩ rfl rfl hl.1 rfl (lv_room (Nat.le_of_ble_eq_true rfl)) dX10_trial_2 ⟨Nat.le_of_ble_eq_true rfl, Nat.le_of_ble_eq_true rfl⟩) (fun r hr9 => ?_)
  obtain ⟨bz1, rfl⟩ := hr9
  refine my_ifeq (tgt := 81) hx hb dX10_trial_5 (by decide) (fun c_5 => ?_) (fun c_5 => ?_)
  · refine lv_bipush (v := (-2)) hx hb dX10_trial_81 (by decide) ?_
    exact W.iret (v := (-2)) hx hb hr (fun t ht hW => ⟨⟨_, f, rfl, (⟨⟨se, hf, imf, kf, mc, op, cm, wu, mk, ab, be, mn, le, wt, ww, wb, wf, vv, pay, fine, np, dp, nf, df, nr, dr, na, da, nt, ct, lf, tf, hx0, hctc, hhs, him, hkp, hrd, hmk, hfc6, hwt, hw8, hw9, hw10, hw11, hvl, hbk, hpr, hpd, hfr, hfd, hor, hod, har, had, htr, hct, hla, hlaa, hts0, htsa, by omega, hhf, him0, him1, by omega, by omega, by omega, by omega, by omega, by omega, by omega, hlf, htf, hH, hS, hL, hT, hB1, hB2⟩, fun j hj => rfl⟩), by rw [ht]; exact hP⟩, hS.F ht⟩) hS.2.2 dX10_trial_83
  · refine lv_iload_n hx hb dX10_trial_8 rfl (lv_at hl 2 rfl) ?_
    refine lv_iconst (v := 1) hx hb dX10_trial_9 (by decide) ?_
    refine lv_bipush (v := 9) hx hb dX10_trial_10 (by decide) ?_
    refine rd_calli (va_runS (As := [.int a2, .int 1, .int 9]) (rest := []) ⟨hx, hb, hml, hown, hts⟩ (s_within l G g hg f a2 1 9  ) (my_cwS hts ok_X10_within w_134 rfl rfl ⟨Nat.le_of_ble_eq_true rfl, Nat.le_of_ble_eq_true rfl⟩) ⟨bP.blind, fun U hU hW => ⟨rfl, by rw [hU]; exact hP, kG.warm hW hG⟩⟩ rfl rfl hl.1 rfl (lv_room (Nat.le_of_ble_eq_true rfl)) dX10_trial_12 ⟨Nat.le_of_ble_eq_true rfl, Nat.le_of_ble_eq_true rfl⟩) (fun r hr9 => ?_)
    subst hr9
    refine my_ifeq (tgt := 81) hx hb dX10_trial_15 (by decide) (fun c_15 => ?_) (fun c_15 => ?_)
    · refine lv_bipush (v := (-2)) hx hb dX10_trial_81 (by decide) ?_
      exact W.iret (v := (-2)) hx hb hr (fun t ht hW => ⟨⟨_, f, rfl, (⟨⟨se, hf, imf, kf, mc, op, cm, wu, mk, ab, be, mn, le, wt, ww, wb, wf, vv, pay, fine, np, dp, nf, df, nr, dr, na, da, nt, ct, lf, tf, hx0, hctc, hhs, him, hkp, hrd, hmk, hfc6, hwt, hw8, hw9, hw10, hw11, hvl, hbk, hpr, hpd, hfr, hfd, hor, hod, har, had, htr, hct, hla, hlaa, hts0, htsa, by omega, hhf, him0, him1, by omega, by omega, by omega, by omega, by omega, by omega, by omega, hlf, htf, hH, hS, hL, hT, hB1, hB2⟩, fun j hj => rfl⟩), by rw [ht]; exact hP⟩, hS.F ht⟩) hS.2.2 dX10_trial_83
    · refine lv_iload_n hx hb dX10_trial_18 rfl (lv_at hl 3 rfl) ?_
      refine lv_iconst (v := 1) hx hb dX10_trial_19 (by decide) ?_
      refine lv_bipush (v := 8) hx hb dX10_trial_20 (by decide) ?_
      refine rd_calli (va_runS (As := [.int a3, .int 1, .int 8]) (rest := []) ⟨hx, hb, hml, hown, hts⟩ (s_within l G g hg f a3 1 8  ) (my_cwS hts ok_X10_within w_134 rfl rfl ⟨Nat.le_of_ble_eq_true rfl, Nat.le_of_ble_eq_true rfl⟩) ⟨bP.blind, fun U hU hW => ⟨rfl, by rw [hU]; exact hP, kG.warm hW hG⟩⟩ rfl rfl hl.1 rfl (lv_room (Nat.le_of_ble_eq_true rfl)) dX10_trial_22 ⟨Nat.le_of_ble_eq_true rfl, Nat.le_of_ble_eq_true rfl⟩) (fun r hr9 => ?_)
      subst hr9
      refine my_ifeq (tgt := 81) hx hb dX10_trial_25 (by decide) (fun c_25 => ?_) (fun c_25 => ?_)
      · refine lv_bipush (v := (-2)) hx hb dX10_trial_81 (by decide) ?_
        exact W.iret (v := (-2)) hx hb hr (fun t ht hW => ⟨⟨_, f, rfl, (⟨⟨se, hf, imf, kf, mc, op, cm, wu, mk, ab, be, mn, le, wt, ww, wb, wf, vv, pay, fine, np, dp, nf, df, nr, dr, na, da, nt, ct, lf, tf, hx0, hctc, hhs, him, hkp, hrd, hmk, hfc6, hwt, hw8, hw9, hw10, hw11, hvl, hbk, hpr, hpd, hfr, hfd, hor, hod, har, had, htr, hct, hla, hlaa, hts0, htsa, by omega, hhf, him0, him1, by omega, by omega, by omega, by omega, by omega, by omega, by omega, hlf, htf, hH, hS, hL, hT, hB1, hB2⟩, fun j hj => rfl⟩), by rw [ht]; exact hP⟩, hS.F ht⟩) hS.2.2 dX10_trial_83
      · refine lv_iload hx hb dX10_trial_28 (lv_at hl 4 rfl) ?_
        refine lv_iconst (v := (-1)) hx hb dX10_trial_30 (by decide) ?_
        refine lv_bipush (v := 9) hx hb dX10_trial_31 (by decide) ?_
        refine rd_calli (va_runS (As := [.int a4, .int (-1), .int 9]) (rest := []) ⟨hx, hb, hml, hown, hts⟩ (s_within l G g hg f a4 (-1) 9  ) (my_cwS hts ok_X10_within w_134 rfl rfl ⟨Nat.le_of_ble_eq_true rfl, Nat.le_of_ble_eq_true rfl⟩) ⟨bP.blind, fun U hU hW => ⟨rfl, by rw [hU]; exact hP, kG.warm hW hG⟩⟩ rfl rfl hl.1 rfl (lv_room (Nat.le_of_ble_eq_true rfl)) dX10_trial_33 ⟨Nat.le_of_ble_eq_true rfl, Nat.le_of_ble_eq_true rfl⟩) (fun r hr9 => ?_)
        subst hr9
        refine my_ifeq (tgt := 81) hx hb dX10_trial_36 (by decide) (fun c_36 => ?_) (fun c_36 => ?_)
        · refine lv_bipush (v := (-2)) hx hb dX10_trial_81 (by decide) ?_
          exact W.iret (v := (-2)) hx hb hr (fun t ht hW => ⟨⟨_, f, rfl, (⟨⟨se, hf, imf, kf, mc, op, cm, wu, mk, ab, be, mn, le, wt, ww, wb, wf, vv, pay, fine, np, dp, nf, df, nr, dr, na, da, nt, ct, lf, tf, hx0, hctc, hhs, him, hkp, hrd, hmk, hfc6, hwt, hw8, hw9, hw10, hw11, hvl, hbk, hpr, hpd, hfr, hfd, hor, hod, har, had, htr, hct, hla, hlaa, hts0, htsa, by omega, hhf, him0, him1, by omega, by omega, by omega, by omega, by omega, by omega, by omega, hlf, htf, hH, hS, hL, hT, hB1, hB2⟩, fun j hj => rfl⟩), by rw [ht]; exact hP⟩, hS.F ht⟩) hS.2.2 dX10_trial_83
        · refine lv_iload hx hb dX10_trial_39 (lv_at hl 5 rfl) ?_
          refine lv_iconst (v := (-1)) hx hb dX10_trial_41 (by decide) ?_
          refine lv_bipush (v := 9) hx hb dX10_trial_42 (by decide) ?_
          refine rd_calli (va_runS (As := [.int a5, .int (-1), .int 9]) (rest := []) ⟨hx, hb, hml, hown, hts⟩ (s_within l G g hg f a5 (-1) 9  ) (my_cwS hts ok_X10_within w_134 rfl rfl ⟨Nat.le_of_ble_eq_true rfl, Nat.le_of_ble_eq_true rfl⟩) ⟨bP.blind, fun U hU hW => ⟨rfl, by rw [hU]; exact hP, kG.warm hW hG⟩⟩ rfl rfl hl.1 rfl (lv_room (Nat.le_of_ble_eq_true rfl)) dX10_trial_44 ⟨Nat.le_of_ble_eq_true rfl, Nat.le_of_ble_eq_true rfl⟩) (fun r hr9 => ?_)
          subst hr9
          refine my_ifeq (tgt := 81) hx hb dX10_trial_47 (by decide) (fun c_47 => ?_) (fun c_47 => ?_)
          · refine lv_bipush (v := (-2)) hx hb dX10_trial_81 (by decide) ?_
            exact W.iret (v := (-2)) hx hb hr (fun t ht hW => ⟨⟨_, f, rfl, (⟨⟨se, hf, imf, kf, mc, op, cm, wu, mk, ab, be, mn, le, wt, ww, wb, wf, vv, pay, fine, np, dp, nf, df, nr, dr, na, da, nt, ct, lf, tf, hx0, hctc, hhs, him, hkp, hrd, hmk, hfc6, hwt, hw8, hw9, hw10, hw11, hvl, hbk, hpr, hpd, hfr, hfd, hor, hod, har, had, htr, hct, hla, hlaa, hts0, htsa, by omega, hhf, him0, him1, by omega, by omega, by omega, by omega, by omega, by omega, by omega, hlf, htf, hH, hS, hL, hT, hB1, hB2⟩, fun j hj => rfl⟩), by rw [ht]; exact hP⟩, hS.F ht⟩) hS.2.2 dX10_trial_83
          · refine lv_iload hx hb dX10_trial_50 (lv_at hl 6 rfl) ?_
            refine lv_iconst (v := (-1)) hx hb dX10_trial_52 (by decide) ?_
            refine lv_iconst (v := 3) hx hb dX10_trial_53 (by decide) ?_
            refine rd_calli (va_runS (As := [.int a6, .int (-1), .int 3]) (rest := []) ⟨hx, hb, hml, hown, hts⟩ (s_within l G g hg f a6 (-1) 3  ) (my_cwS hts ok_X10_within w_134 rfl rfl ⟨Nat.le_of_ble_eq_true rfl, Nat.le_of_ble_eq_true rfl⟩) ⟨bP.blind, fun U hU hW => ⟨rfl, by rw [hU]; exact hP, kG.warm hW hG⟩⟩ rfl rfl hl.1 rfl (lv_room (Nat.le_of_ble_eq_true rfl)) dX10_trial_54 ⟨Nat.le_of_ble_eq_true rfl, Nat.le_of_ble_eq_true rfl⟩) (fun r hr9 => ?_)
            subst hr9
            refine my_ifeq (tgt := 81) hx hb dX10_trial_57 (by decide) (fun c_57 => ?_) (fun c_57 => ?_)
            · refine lv_bipush (v := (-2)) hx hb dX10_trial_81 (by decide) ?_
              exact W.iret (v := (-2)) hx hb hr (fun t ht hW => ⟨⟨_, f, rfl, (⟨⟨se, hf, imf, kf, mc, op, cm, wu, mk, ab, be, mn, le, wt, ww, wb, wf, vv, pay, fine, np, dp, nf, df, nr, dr, na, da, nt, ct, lf, tf, hx0, hctc, hhs, him, hkp, hrd, hmk, hfc6, hwt, hw8, hw9, hw10, hw11, hvl, hbk, hpr, hpd, hfr, hfd, hor, hod, har, had, htr, hct, hla, hlaa, hts0, htsa, by omega, hhf, him0, him1, by omega, by omega, by omega, by omega, by omega, by omega, by omega, hlf, htf, hH, hS, hL, hT, hB1, hB2⟩, fun j hj => rfl⟩), by rw [ht]; exact hP⟩, hS.F ht⟩) hS.2.2 dX10_trial_83
            · refine lv_iload hx hb dX10_trial_60 (lv_at hl 7 rfl) ?_
              refine lv_iconst (v := 0) hx hb dX10_trial_62 (by decide) ?_
              refine lv_iconst (v := 4) hx hb dX10_trial_63 (by decide) ?_
              refine rd_calli (va_runS (As := [.int a7, .int 0, .int 4]) (rest := []) ⟨hx, hb, hml, hown, hts⟩ (s_within l G g hg f a7 0 4  ) (my_cwS hts ok_X10_within w_134 rfl rfl ⟨Nat.le_of_ble_eq_true rfl, Nat.le_of_ble_eq_true rfl⟩) ⟨bP.blind, fun U hU hW => ⟨rfl, by rw [hU]; exact hP, kG.warm hW hG⟩⟩ rfl rfl hl.1 rfl (lv_room (Nat.le_of_ble_eq_true rfl)) dX10_trial_64 ⟨Nat.le_of_ble_eq_true rfl, Nat.le_of_ble_eq_true rfl⟩) (fun r hr9 => ?_)
              subst hr9
              refine my_ifeq (tgt := 81) hx hb dX10_trial_67 (by decide) (fun c_67 => ?_) (fun c_67 => ?_)
              · refine lv_bipush (v := (-2)) hx hb dX10_trial_81 (by decide) ?_
                exact W.iret (v := (-2)) hx hb hr (fun t ht hW => ⟨⟨_, f, rfl, (⟨⟨se, hf, imf, kf, mc, op, cm, wu, mk, ab, be, mn, le, wt, ww, wb, wf, vv, pay, fine, np, dp, nf, df, nr, dr, na, da, nt, ct, lf, tf, hx0, hctc, hhs, him, hkp, hrd, hmk, hfc6, hwt, hw8, hw9, hw10, hw11, hvl, hbk, hpr, hpd, hfr, hfd, hor, hod, har, had, htr, hct, hla, hlaa, hts0, htsa, by omega, hhf, him0, him1, by omega, by omega, by omega, by omega, by omega, by omega, by omega, hlf, htf, hH, hS, hL, hT, hB1, hB2⟩, fun j hj => rfl⟩), by rw [ht]; exact hP⟩, hS.F ht⟩) hS.2.2 dX10_trial_83
              · refine lv_iload hx hb dX10_trial_70 (lv_at hl 9 rfl) ?_
                refine lv_iconst (v := 1) hx hb dX10_trial_72 (by decide) ?_
                refine lv_bipush (v := 24) hx hb dX10_trial_73 (by decide) ?_
                refine rd_calli (va_runS (As := [.int a9, .int 1, .int 24]) (rest := []) ⟨hx, hb, hml, hown, hts⟩ (s_within l G g hg f a9 1 24  ) (my_cwS hts ok_X10_within w_134 rfl rfl ⟨Nat.le_of_ble_eq_true rfl, Nat.le_of_ble_eq_true rfl⟩) ⟨bP.blind, fun U hU hW => ⟨rfl, by rw [hU]; exact hP, kG.warm hW hG⟩⟩ rfl rfl hl.1 rfl (lv_room (Nat.le_of_ble_eq_true rfl)) dX10_trial_75 ⟨Nat.le_of_ble_eq_true rfl, Nat.le_of_ble_eq_true rfl⟩) (fun r hr9 => ?_)
                subst hr9
                refine my_ifne (tgt := 84) hx hb dX10_trial_78 (by decide) (fun c_78 => ?_) (fun c_78 => ?_)
                · refine lv_aload_n hx hb dX10_trial_84 rfl (lv_at hl 0 rfl) ?_
                  refine va_get (D := G.1) (ci := 9) (v := .ref (g 36)) (C := RX10) (T := TX10) (N := 7) hx hb hts inlX10 hown hG.1 hP 0 (wl_at (by decide) hx0) rfl 1 (by decide) (hts (.fieldLink RX10 20 "SwornLists" "book" "LSwornLists$Book;") w_16) (fun _ h9 => h9) rfl dX10_trial_85 ?_
                  refine va_getN (D := G.1) (ci := 0) (v := .ref (g 45)) (C := RX0) (T := TX0) (N := 9) (host := RX10) hx hb hts inlX0 hown hG.1 hP 36 (wl_at (by decide) hbk) rfl 4 (by decide) (va_Nw.use rfl (hG.2.1 (.fieldLinkNest RX10 162 RX0 "trials" "LSwornLists$Rows;" RX10) (List.mem_of_getElem? (i := 7) rfl))) (fun _ h9 => h9) rfl dX10_trial_88 ?_
                  refine lv_astore (lv' := [(10, .ref (g 45)), (0, .ref (g 0)), (1, .int a1), (2, .int a2), (3, .int a3), (4, .int a4), (5, .int a5), (6, .int a6), (7, .int a7), (8, .int a8), (9, .int a9)]) hx hb dX10_trial_91 hl (by decide) rfl (fun ls hl => ?_)
                  refine lv_aload hx hb dX10_trial_93 (lv_at hl 0 rfl) ?_
                  by_cases hlt : nt < 10
                  · refine b_calli (va_runV (As := []) (rest := []) ⟨hx, hb, hml, hown, hts⟩ (r_grow l G g hg f 45 10 70 nt htr (by first | assumption | omega | decide) (by first | assumption | omega | decide) (by first | assumption | omega | decide) (by first | assumption | omega | decide) (by first | assumption | omega | decide)) (my_cwV hts ok_X5_grow w_137 rfl rfl ⟨Nat.le_of_ble_eq_true rfl, Nat.le_of_ble_eq_true rfl⟩) ⟨bP.blind, va_recv hG.1 hP (ci := 5) (q0 := 45) rfl (wl_at (by decide) htr), fun U hU hW => ⟨rfl, by rw [hU]; exact hP, kG.warm hW hG⟩⟩ rfl rfl hl.1 rfl (lv_room (Nat.le_of_ble_eq_true rfl)) dX10_trial_95 ⟨Nat.le_of_ble_eq_true rfl, Nat.le_of_ble_eq_true rfl⟩) hS (fun v2 f_2 H locs hq9 hP hS => ?_)
                    obtain ⟨rfl, hq_2_0, o_2⟩ := hq9
                    have hx0 : f_2 0 = eO 9 [.ref (g 1), .ref (g 36), .ref (g 2), .ref (g 3), .ref (g 4), .ref (g 6), .ref (g 7)] := (o_2 0 (by omega)).trans hx0
                    have hctc : f_2 1 = eO 1 [.ref (g 36), .ref (g 12), .ref (g 13), .ref (g 15), .int (nI se)] := (o_2 1 (by omega)).trans hctc
                    have hhs : f_2 12 = eA G 4 10 hf := (o_2 12 (by omega)).trans hhs
                    have him : f_2 2 = eA G 3 2 imf := (o_2 2 (by omega)).trans him
                    have hkp : f_2 3 = eZ G 2 kf := (o_2 3 (by omega)).trans hkp
                    have hrd : f_2 4 = eO 4 [.ref (g 5), .int (nI mc), .int op, .int cm, .int wu] := (o_2 4 (by omega)).trans hrd
                    have hmk : f_2 5 = eI G 50 mk := (o_2 5 (by omega)).trans hmk
                    have hfc6 : f_2 6 = eO 2 [.long ab, .long be] := (o_2 6 (by omega)).trans hfc6
                    have hwt : f_2 7 = eO 8 [.ref (g 8), .ref (g 9), .ref (g 10), .ref (g 11), .int (nI mn), .int le] := (o_2 7 (by omega)).trans hwt
                    have hw8 : f_2 8 = eI G 6 wt := (o_2 8 (by omega)).trans hw8
                    have hw9 : f_2 9 = eI G 6 ww := (o_2 9 (by omega)).trans hw9
                    have hw10 : f_2 10 = eI G 6 wb := (o_2 10 (by omega)).trans hw10
                    have hw11 : f_2 11 = eI G 6 wf := (o_2 11 (by omega)).trans hw11
                    have hvl : f_2 15 = eJ G 50 vv := (o_2 15 (by omega)).trans hvl
                    have hbk : f_2 36 = eO 0 [.ref (g 37), .ref (g 39), .ref (g 41), .ref (g 43), .ref (g 45), .ref (g 47), .ref (g 112), .int pay, .int fine] := (o_2 36 (by omega)).trans hbk
                    have hpr : f_2 37 = eO 5 [.int (nI 30), .int (nI 4), .ref (g 38), .int (nI np)] := (o_2 37 (by omega)).trans hpr
                    have hpd : f_2 38 = eI G (30 * 4) dp := (o_2 38 (by omega)).trans hpd
                    have hfr : f_2 39 = eO 5 [.int (nI 40), .int (nI 3), .ref (g 40), .int (nI nf)] := (o_2 39 (by omega)).trans hfr
                    have hfd : f_2 40 = eI G (40 * 3) df := (o_2 40 (by omega)).trans hfd
                    have hor : f_2 41 = eO 5 [.int (nI 4), .int (nI 3), .ref (g 42), .int (nI nr)] := (o_2 41 (by omega)).trans hor
                    have hod : f_2 42 = eI G (4 * 3) dr := (o_2 42 (by omega)).trans hod
                    have har : f_2 43 = eO 5 [.int (nI 20), .int (nI 3), .ref (g 44), .int (nI na)] := (o_2 43 (by omega)).trans har
                    have had : f_2 44 = eI G (20 * 3) da := (o_2 44 (by omega)).trans had
                    have hct : f_2 46 = eI G (10 * 70) ct := (o_2 46 (by omega)).trans hct
                    have hla : f_2 47 = eO 6 [.ref (g 48), .ref (g 49)] := (o_2 47 (by omega)).trans hla
                    have hlaa : f_2 48 = eA G 5 20 lf := (o_2 48 (by omega)).trans hlaa
                    have hts0 : f_2 112 = eO 6 [.ref (g 113), .ref (g 114)] := (o_2 112 (by omega)).trans hts0
                    have htsa : f_2 113 = eA G 5 4 tf := (o_2 113 (by omega)).trans htsa
                    have htr : f_2 45 = eO 5 [.int (nI 10), .int (nI 70), .ref (g (45 + 1)), .int (nI (nt + 1))] := hq_2_0
                    have hH : ∀ i, i < 10 → okH G g f_2 (2 * i + 16) := fun z hz => okH_fr (hH z hz) (o_2 _ (by omega)) (o_2 _ (by omega))
                    have hS : okH G g f_2 13 := okH_fr hS (o_2 _ (by omega)) (o_2 _ (by omega))
                    have hL : ∀ i, i < 20 → okT G g f_2 (3 * i + 52) := fun z hz => okT_fr (hL z hz) (o_2 _ (by omega)) (o_2 _ (by omega)) (o_2 _ (by omega))
                    have hT : ∀ i, i < 4 → okT G g f_2 (3 * i + 117) := fun z hz => okT_fr (hT z hz) (o_2 _ (by omega)) (o_2 _ (by omega)) (o_2 _ (by omega))
                    have hB1 : okB G g f_2 129 := okB_fr hB1 (fun j _ _ => o_2 j (by omega))
                    have hB2 : okB G g f_2 222 := okB_fr hB2 (fun j _ _ => o_2 j (by omega))
                    refine lv_istore (lv' := [(11, .int (nI nt)), (10, .ref (g 45)), (0, .ref (g 0)), (1, .int a1), (2, .int a2), (3, .int a3), (4, .int a4), (5, .int a5), (6, .int a6), (7, .int a7), (8, .int a8), (9, .int a9)]) hx hb dX10_trial_98 hl (by decide) rfl (fun ls hl => ?_)
                    refine lv_iload hx hb dX10_trial_100 (lv_at hl 0 rfl) ?_
                    refine lv_bipush (v := (-4)) hx hb dX10_trial_102 (by decide) ?_
                    refine lv_icmp_ne (tgt := 110) hx hb dX10_trial_104 (by decide) (fun c_104 => ?_) (fun c_104 => absurd c_104 (nI_m4 (by omega)))
                    refine lv_aload hx hb dX10_trial_110 (lv_at hl 1 rfl) ?_
                    refine lv_iload hx hb dX10_trial_112 (lv_at hl 0 rfl) ?_
                    refine lv_iconst (v := 0) hx hb dX10_trial_114 (by decide) ?_
                    refine lv_iload_n hx hb dX10_trial_115 rfl (lv_at hl 3 rfl) ?_
                    refine b_callv (va_runV (As := [.int (nI nt), .int 0, .int a1]) (rest := []) ⟨hx, hb, hml, hown, hts⟩ (r_set l G g hg f_2 45 10 70 (nt + 1) ct (nI nt) 0 a1 htr hct (by first | assumption | omega | decide) (by first | assumption | omega | decide) (by first | assumption | omega | decide) (by first | assumption | omega | decide) (inN_n (by omega) (by omega)) (by first | assumption | omega | decide)) (my_cwV hts ok_X5_set w_142 rfl rfl ⟨Nat.le_of_ble_eq_true rfl, Nat.le_of_ble_eq_true rfl⟩) ⟨bP.blind, va_recv hG.1 hP (ci := 5) (q0 := 45) rfl (wl_at (by decide) htr), fun U hU hW => ⟨rfl, by rw [hU]; exact hP, kG.warm hW hG⟩⟩ rfl rfl hl.1 rfl (lv_room (Nat.le_of_ble_eq_true rfl)) dX10_trial_116 ⟨Nat.le_of_ble_eq_true rfl, Nat.le_of_ble_eq_true rfl⟩) hS (fun f_3 H locs hq9 hP hS => ?_)
                    obtain ⟨hq_3_0, o_3⟩ := hq9
                    have hx0 : f_3 0 = eO 9 [.ref (g 1), .ref (g 36), .ref (g 2), .ref (g 3), .ref (g 4), .ref (g 6), .ref (g 7)] := (o_3 0 (by omega)).trans hx0
                    have hctc : f_3 1 = eO 1 [.ref (g 36), .ref (g 12), .ref (g 13), .ref (g 15), .int (nI se)] := (o_3 1 (by omega)).trans hctc
                    have hhs : f_3 12 = eA G 4 10 hf := (o_3 12 (by omega)).trans hhs
                    have him : f_3 2 = eA G 3 2 imf := (o_3 2 (by omega)).trans him
                    have hkp : f_3 3 = eZ G 2 kf := (o_3 3 (by omega)).trans hkp
                    have hrd : f_3 4 = eO 4 [.ref (g 5), .int (nI mc), .int op, .int cm, .int wu] := (o_3 4 (by omega)).trans hrd
                    have hmk : f_3 5 = eI G 50 mk := (o_3 5 (by omega)).trans hmk
                    have hfc6 : f_3 6 = eO 2 [.long ab, .long be] := (o_3 6 (by omega)).trans hfc6
                    have hwt : f_3 7 = eO 8 [.ref (g 8), .ref (g 9), .ref (g 10), .ref (g 11), .int (nI mn), .int le] := (o_3 7 (by omega)).trans hwt
                    have hw8 : f_3 8 = eI G 6 wt := (o_3 8 (by omega)).trans hw8
                    have hw9 : f_3 9 = eI G 6 ww := (o_3 9 (by omega)).trans hw9
                    have hw10 : f_3 10 = eI G 6 wb := (o_3 10 (by omega)).trans hw10
                    have hw11 : f_3 11 = eI G 6 wf := (o_3 11 (by omega)).trans hw11
                    have hvl : f_3 15 = eJ G 50 vv := (o_3 15 (by omega)).trans hvl
                    have hbk : f_3 36 = eO 0 [.ref (g 37), .ref (g 39), .ref (g 41), .ref (g 43), .ref (g 45), .ref (g 47), .ref (g 112), .int pay, .int fine] := (o_3 36 (by omega)).trans hbk
                    have hpr : f_3 37 = eO 5 [.int (nI 30), .int (nI 4), .ref (g 38), .int (nI np)] := (o_3 37 (by omega)).trans hpr
                    have hpd : f_3 38 = eI G (30 * 4) dp := (o_3 38 (by omega)).trans hpd
                    have hfr : f_3 39 = eO 5 [.int (nI 40), .int (nI 3), .ref (g 40), .int (nI nf)] := (o_3 39 (by omega)).trans hfr
                    have hfd : f_3 40 = eI G (40 * 3) df := (o_3 40 (by omega)).trans hfd
                    have hor : f_3 41 = eO 5 [.int (nI 4), .int (nI 3), .ref (g 42), .int (nI nr)] := (o_3 41 (by omega)).trans hor
                    have hod : f_3 42 = eI G (4 * 3) dr := (o_3 42 (by omega)).trans hod
                    have har : f_3 43 = eO 5 [.int (nI 20), .int (nI 3), .ref (g 44), .int (nI na)] := (o_3 43 (by omega)).trans har
                    have had : f_3 44 = eI G (20 * 3) da := (o_3 44 (by omega)).trans had
                    have htr : f_3 45 = eO 5 [.int (nI 10), .int (nI 70), .ref (g (45 + 1)), .int (nI (nt + 1))] := (o_3 45 (by omega)).trans htr
                    have hla : f_3 47 = eO 6 [.ref (g 48), .ref (g 49)] := (o_3 47 (by omega)).trans hla
                    have hlaa : f_3 48 = eA G 5 20 lf := (o_3 48 (by omega)).trans hlaa
                    have hts0 : f_3 112 = eO 6 [.ref (g 113), .ref (g 114)] := (o_3 112 (by omega)).trans hts0
                    have htsa : f_3 113 = eA G 5 4 tf := (o_3 113 (by omega)).trans htsa
                    have hct : f_3 46 = eI G (10 * 70) (upd ct (Int32.toNatClampNeg ((nI nt) * nI 70 + 0)) a1) := hq_3_0
                    have hH : ∀ i, i < 10 → okH G g f_3 (2 * i + 16) := fun z hz => okH_fr (hH z hz) (o_3 _ (by omega)) (o_3 _ (by omega))
                    have hS : okH G g f_3 13 := okH_fr hS (o_3 _ (by omega)) (o_3 _ (by omega))
                    have hL : ∀ i, i < 20 → okT G g f_3 (3 * i + 52) := fun z hz => okT_fr (hL z hz) (o_3 _ (by omega)) (o_3 _ (by omega)) (o_3 _ (by omega))
                    have hT : ∀ i, i < 4 → okT G g f_3 (3 * i + 117) := fun z hz => okT_fr (hT z hz) (o_3 _ (by omega)) (o_3 _ (by omega)) (o_3 _ (by omega))
                    have hB1 : okB G g f_3 129 := okB_fr hB1 (fun j _ _ => o_3 j (by omega))
                    have hB2 : okB G g f_3 222 := okB_fr hB2 (fun j _ _ => o_3 j (by omega))
                    refine lv_aload hx hb dX10_trial_119 (lv_at hl 1 rfl) ?_
                    refine lv_iload hx hb dX10_trial_121 (lv_at hl 0 rfl) ?_
                    refine lv_iconst (v := 1) hx hb dX10_trial_123 (by decide) ?_
                    refine lv_iload_n hx hb dX10_trial_124 rfl (lv_at hl 4 rfl) ?_
                    refine b_callv (va_runV (As := [.int (nI nt), .int 1, .int a2]) (rest := []) ⟨hx, hb, hml, hown, hts⟩ (r_set l G g hg f_3 45 10 70 (nt + 1) (upd ct (Int32.toNatClampNeg ((nI nt) * nI 70 + 0)) a1) (nI nt) 1 a2 htr hct (by first | assumption | omega | decide) (by first | assumption | omega | decide) (by first | assumption | omega | decide) (by first | assumption | omega | decide) (inN_n (by omega) (by omega)) (by first | assumption | omega | decide)) (my_cwV hts ok_X5_set w_142 rfl rfl ⟨Nat.le_of_ble_eq_true rfl, Nat.le_of_ble_eq_true rfl⟩) ⟨bP.blind, va_recv hG.1 hP (ci := 5) (q0 := 45) rfl (wl_at (by decide) htr), fun U hU hW => ⟨rfl, by rw [hU]; exact hP, kG.warm hW hG⟩⟩ rfl rfl hl.1 rfl (lv_room (Nat.le_of_ble_eq_true rfl)) dX10_trial_125 ⟨Nat.le_of_ble_eq_true rfl, Nat.le_of_ble_eq_true rfl⟩) hS (fun f_4 H locs hq9 hP hS => ?_)
                    obtain ⟨hq_4_0, o_4⟩ := hq9
                    have hx0 : f_4 0 = eO 9 [.ref (g 1), .ref (g 36), .ref (g 2), .ref (g 3), .ref (g 4), .ref (g 6), .ref (g 7)] := (o_4 0 (by omega)).trans hx0
                    have hctc : f_4 1 = eO 1 [.ref (g 36), .ref (g 12), .ref (g 13), .ref (g 15), .int (nI se)] := (o_4 1 (by omega)).trans hctc
                    have hhs : f_4 12 = eA G 4 10 hf := (o_4 12 (by omega)).trans hhs
                    have him : f_4 2 = eA G 3 2 imf := (o_4 2 (by omega)).trans him
                    have hkp : f_4 3 = eZ G 2 kf := (o_4 3 (by omega)).trans hkp
                    have hrd : f_4 4 = eO 4 [.ref (g 5), .int (nI mc), .int op, .int cm, .int wu] := (o_4 4 (by omega)).trans hrd
                    have hmk : f_4 5 = eI G 50 mk := (o_4 5 (by omega)).trans hmk
                    have hfc6 : f_4 6 = eO 2 [.long ab, .long be] := (o_4 6 (by omega)).trans hfc6
                    have hwt : f_4 7 = eO 8 [.ref (g 8), .ref (g 9), .ref (g 10), .ref (g 11), .int (nI mn), .int le] := (o_4 7 (by omega)).trans hwt
                    have hw8 : f_4 8 = eI G 6 wt := (o_4 8 (by omega)).trans hw8
                    have hw9 : f_4 9 = eI G 6 ww := (o_4 9 (by omega)).trans hw9
                    have hw10 : f_4 10 = eI G 6 wb := (o_4 10 (by omega)).trans hw10
                    have hw11 : f_4 11 = eI G 6 wf := (o_4 11 (by omega)).trans hw11
                    have hvl : f_4 15 = eJ G 50 vv := (o_4 15 (by omega)).trans hvl
                    have hbk : f_4 36 = eO 0 [.ref (g 37), .ref (g 39), .ref (g 41), .ref (g 43), .ref (g 45), .ref (g 47), .ref (g 112), .int pay, .int fine] := (o_4 36 (by omega)).trans hbk
                    have hpr : f_4 37 = eO 5 [.int (nI 30), .int (nI 4), .ref (g 38), .int (nI np)] := (o_4 37 (by omega)).trans hpr
                    have hpd : f_4 38 = eI G (30 * 4) dp := (o_4 38 (by omega)).trans hpd
                    have hfr : f_4 39 = eO 5 [.int (nI 40), .int (nI 3), .ref (g 40), .int (nI nf)] := (o_4 39 (by omega)).trans hfr
                    have hfd : f_4 40 = eI G (40 * 3) df := (o_4 40 (by omega)).trans hfd
                    have hor : f_4 41 = eO 5 [.int (nI 4), .int (nI 3), .ref (g 42), .int (nI nr)] := (o_4 41 (by omega)).trans hor
                    have hod : f_4 42 = eI G (4 * 3) dr := (o_4 42 (by omega)).trans hod
                    have har : f_4 43 = eO 5 [.int (nI 20), .int (nI 3), .ref (g 44), .int (nI na)] := (o_4 43 (by omega)).trans har
                    have had : f_4 44 = eI G (20 * 3) da := (o_4 44 (by omega)).trans had
                    have htr : f_4 45 = eO 5 [.int (nI 10), .int (nI 70), .ref (g (45 + 1)), .int (nI (nt + 1))] := (o_4 45 (by omega)).trans htr
                    have hla : f_4 47 = eO 6 [.ref (g 48), .ref (g 49)] := (o_4 47 (by omega)).trans hla
                    have hlaa : f_4 48 = eA G 5 20 lf := (o_4 48 (by omega)).trans hlaa
                    have hts0 : f_4 112 = eO 6 [.ref (g 113), .ref (g 114)] := (o_4 112 (by omega)).trans hts0
                    have htsa : f_4 113 = eA G 5 4 tf := (o_4 113 (by omega)).trans htsa
                    have hct : f_4 46 = eI G (10 * 70) (upd (upd ct (Int32.toNatClampNeg ((nI nt) * nI 70 + 0)) a1) (Int32.toNatClampNeg ((nI nt) * nI 70 + 1)) a2) := hq_4_0
                    have hH : ∀ i, i < 10 → okH G g f_4 (2 * i + 16) := fun z hz => okH_fr (hH z hz) (o_4 _ (by omega)) (o_4 _ (by omega))
                    have hS : okH G g f_4 13 := okH_fr hS (o_4 _ (by omega)) (o_4 _ (by omega))
                    have hL : ∀ i, i < 20 → okT G g f_4 (3 * i + 52) := fun z hz => okT_fr (hL z hz) (o_4 _ (by omega)) (o_4 _ (by omega)) (o_4 _ (by omega))
                    have hT : ∀ i, i < 4 → okT G g f_4 (3 * i + 117) := fun z hz => okT_fr (hT z hz) (o_4 _ (by omega)) (o_4 _ (by omega)) (o_4 _ (by omega))
                    have hB1 : okB G g f_4 129 := okB_fr hB1 (fun j _ _ => o_4 j (by omega))
                    have hB2 : okB G g f_4 222 := okB_fr hB2 (fun j _ _ => o_4 j (by omega))
                    refine lv_aload hx hb dX10_trial_128 (lv_at hl 1 rfl) ?_
                    refine lv_iload hx hb dX10_trial_130 (lv_at hl 0 rfl) ?_
                    refine lv_iconst (v := 2) hx hb dX10_trial_132 (by decide) ?_
                    refine lv_iload_n hx hb dX10_trial_133 rfl (lv_at hl 5 rfl) ?_
                    refine b_callv (va_runV (As := [.int (nI nt), .int 2, .int a3]) (rest := []) ⟨hx, hb, hml, hown, hts⟩ (r_set l G g hg f_4 45 10 70 (nt + 1) (upd (upd ct (Int32.toNatClampNeg ((nI nt) * nI 70 + 0)) a1) (Int32.toNatClampNeg ((nI nt) * nI 70 + 1)) a2) (nI nt) 2 a3 htr hct (by first | assumption | omega | decide) (by first | assumption | omega | decide) (by first | assumption | omega | decide) (by first | assumption | omega | decide) (inN_n (by omega) (by omega)) (by first | assumption | omega | decide)) (my_cwV hts ok_X5_set w_142 rfl rfl ⟨Nat.le_of_ble_eq_true rfl, Nat.le_of_ble_eq_true rfl⟩) ⟨bP.blind, va_recv hG.1 hP (ci := 5) (q0 := 45) rfl (wl_at (by decide) htr), fun U hU hW => ⟨rfl, by rw [hU]; exact hP, kG.warm hW hG⟩⟩ rfl rfl hl.1 rfl (lv_room (Nat.le_of_ble_eq_true rfl)) dX10_trial_134 ⟨Nat.le_of_ble_eq_true rfl, Nat.le_of_ble_eq_true rfl⟩) hS (fun f_5 H locs hq9 hP hS => ?_)
                    obtain ⟨hq_5_0, o_5⟩ := hq9
                    have hx0 : f_5 0 = eO 9 [.ref (g 1), .ref (g 36), .ref (g 2), .ref (g 3), .ref (g 4), .ref (g 6), .ref (g 7)] := (o_5 0 (by omega)).trans hx0
                    have hctc : f_5 1 = eO 1 [.ref (g 36), .ref (g 12), .ref (g 13), .ref (g 15), .int (nI se)] := (o_5 1 (by omega)).trans hctc
                    have hhs : f_5 12 = eA G 4 10 hf := (o_5 12 (by omega)).trans hhs
                    have him : f_5 2 = eA G 3 2 imf := (o_5 2 (by omega)).trans him
                    have hkp : f_5 3 = eZ G 2 kf := (o_5 3 (by omega)).trans hkp
                    have hrd : f_5 4 = eO 4 [.ref (g 5), .int (nI mc), .int op, .int cm, .int wu] := (o_5 4 (by omega)).trans hrd
                    have hmk : f_5 5 = eI G 50 mk := (o_5 5 (by omega)).trans hmk
                    have hfc6 : f_5 6 = eO 2 [.long ab, .long be] := (o_5 6 (by omega)).trans hfc6
                    have hwt : f_5 7 = eO 8 [.ref (g 8), .ref (g 9), .ref (g 10), .ref (g 11), .int (nI mn), .int le] := (o_5 7 (by omega)).trans hwt
                    have hw8 : f_5 8 = eI G 6 wt := (o_5 8 (by omega)).trans hw8
                    have hw9 : f_5 9 = eI G 6 ww := (o_5 9 (by omega)).trans hw9
                    have hw10 : f_5 10 = eI G 6 wb := (o_5 10 (by omega)).trans hw10
                    have hw11 : f_5 11 = eI G 6 wf := (o_5 11 (by omega)).trans hw11
                    have hvl : f_5 15 = eJ G 50 vv := (o_5 15 (by omega)).trans hvl
                    have hbk : f_5 36 = eO 0 [.ref (g 37), .ref (g 39), .ref (g 41), .ref (g 43), .ref (g 45), .ref (g 47), .ref (g 112), .int pay, .int fine] := (o_5 36 (by omega)).trans hbk
                    have hpr : f_5 37 = eO 5 [.int (nI 30), .int (nI 4), .ref (g 38), .int (nI np)] := (o_5 37 (by omega)).trans hpr
                    have hpd : f_5 38 = eI G (30 * 4) dp := (o_5 38 (by omega)).trans hpd
                    have hfr : f_5 39 = eO 5 [.int (nI 40), .int (nI 3), .ref (g 40), .int (nI nf)] := (o_5 39 (by omega)).trans hfr
                    have hfd : f_5 40 = eI G (40 * 3) df := (o_5 40 (by omega)).trans hfd
                    have hor : f_5 41 = eO 5 [.int (nI 4), .int (nI 3), .ref (g 42), .int (nI nr)] := (o_5 41 (by omega)).trans hor
                    have hod : f_5 42 = eI G (4 * 3) dr := (o_5 42 (by omega)).trans hod
                    have har : f_5 43 = eO 5 [.int (nI 20), .int (nI 3), .ref (g 44), .int (nI na)] := (o_5 43 (by omega)).trans har
                    have had : f_5 44 = eI G (20 * 3) da := (o_5 44 (by omega)).trans had
                    have htr : f_5 45 = eO 5 [.int (nI 10), .int (nI 70), .ref (g (45 + 1)), .int (nI (nt + 1))] := (o_5 45 (by omega)).trans htr
                    have hla : f_5 47 = eO 6 [.ref (g 48), .ref (g 49)] := (o_5 47 (by omega)).trans hla
                    have hlaa : f_5 48 = eA G 5 20 lf := (o_5 48 (by omega)).trans hlaa
                    have hts0 : f_5 112 = eO 6 [.ref (g 113), .ref (g 114)] := (o_5 112 (by omega)).trans hts0
                    have htsa : f_5 113 = eA G 5 4 tf := (o_5 113 (by omega)).trans htsa
                    have hct : f_5 46 = eI G (10 * 70) (upd (upd (upd ct (Int32.toNatClampNeg ((nI nt) * nI 70 + 0)) a1) (Int32.toNatClampNeg ((nI nt) * nI 70 + 1)) a2) (Int32.toNatClampNeg ((nI nt) * nI 70 + 2)) a3) := hq_5_0
                    have hH : ∀ i, i < 10 → okH G g f_5 (2 * i + 16) := fun z hz => okH_fr (hH z hz) (o_5 _ (by omega)) (o_5 _ (by omega))
                    have hS : okH G g f_5 13 := okH_fr hS (o_5 _ (by omega)) (o_5 _ (by omega))
                    have hL : ∀ i, i < 20 → okT G g f_5 (3 * i + 52) := fun z hz => okT_fr (hL z hz) (o_5 _ (by omega)) (o_5 _ (by omega)) (o_5 _ (by omega))
                    have hT : ∀ i, i < 4 → okT G g f_5 (3 * i + 117) := fun z hz => okT_fr (hT z hz) (o_5 _ (by omega)) (o_5 _ (by omega)) (o_5 _ (by omega))
                    have hB1 : okB G g f_5 129 := okB_fr hB1 (fun j _ _ => o_5 j (by omega))
                    have hB2 : okB G g f_5 222 := okB_fr hB2 (fun j _ _ => o_5 j (by omega))
                    refine lv_aload hx hb dX10_trial_137 (lv_at hl 1 rfl) ?_
                    refine lv_iload hx hb dX10_trial_139 (lv_at hl 0 rfl) ?_
                    refine lv_iconst (v := 3) hx hb dX10_trial_141 (by decide) ?_
                    refine lv_iload hx hb dX10_trial_142 (lv_at hl 6 rfl) ?_
                    refine b_callv (va_runV (As := [.int (nI nt), .int 3, .int a4]) (rest := []) ⟨hx, hb, hml, hown, hts⟩ (r_set l G g hg f_5 45 10 70 (nt + 1) (upd (upd (upd ct (Int32.toNatClampNeg ((nI nt) * nI 70 + 0)) a1) (Int32.toNatClampNeg ((nI nt) * nI 70 + 1)) a2) (Int32.toNatClampNeg ((nI nt) * nI 70 + 2)) a3) (nI nt) 3 a4 htr hct (by first | assumption | omega | decide) (by first | assumption | omega | decide) (by first | assumption | omega | decide) (by first | assumption | omega | decide) (inN_n (by omega) (by omega)) (by first | assumption | omega | decide)) (my_cwV hts ok_X5_set w_142 rfl rfl ⟨Nat.le_of_ble_eq_true rfl, Nat.le_of_ble_eq_true rfl⟩) ⟨bP.blind, va_recv hG.1 hP (ci := 5) (q0 := 45) rfl (wl_at (by decide) htr), fun U hU hW => ⟨rfl, by rw [hU]; exact hP, kG.warm hW hG⟩⟩ rfl rfl hl.1 rfl (lv_room (Nat.le_of_ble_eq_true rfl)) dX10_trial_144 ⟨Nat.le_of_ble_eq_true rfl, Nat.le_of_ble_eq_true rfl⟩) hS (fun f_6 H locs hq9 hP hS => ?_)
                    obtain ⟨hq_6_0, o_6⟩ := hq9
                    have hx0 : f_6 0 = eO 9 [.ref (g 1), .ref (g 36), .ref (g 2), .ref (g 3), .ref (g 4), .ref (g 6), .ref (g 7)] := (o_6 0 (by omega)).trans hx0
                    have hctc : f_6 1 = eO 1 [.ref (g 36), .ref (g 12), .ref (g 13), .ref (g 15), .int (nI se)] := (o_6 1 (by omega)).trans hctc
                    have hhs : f_6 12 = eA G 4 10 hf := (o_6 12 (by omega)).trans hhs
                    have him : f_6 2 = eA G 3 2 imf := (o_6 2 (by omega)).trans him
                    have hkp : f_6 3 = eZ G 2 kf := (o_6 3 (by omega)).trans hkp
                    have hrd : f_6 4 = eO 4 [.ref (g 5), .int (nI mc), .int op, .int cm, .int wu] := (o_6 4 (by omega)).trans hrd
                    have hmk : f_6 5 = eI G 50 mk := (o_6 5 (by omega)).trans hmk
                    have hfc6 : f_6 6 = eO 2 [.long ab, .long be] := (o_6 6 (by omega)).trans hfc6
                    have hwt : f_6 7 = eO 8 [.ref (g 8), .ref (g 9), .ref (g 10), .ref (g 11), .int (nI mn), .int le] := (o_6 7 (by omega)).trans hwt
                    have hw8 : f_6 8 = eI G 6 wt := (o_6 8 (by omega)).trans hw8
                    have hw9 : f_6 9 = eI G 6 ww := (o_6 9 (by omega)).trans hw9
                    have hw10 : f_6 10 = eI G 6 wb := (o_6 10 (by omega)).trans hw10
                    have hw11 : f_6 11 = eI G 6 wf := (o_6 11 (by omega)).trans hw11
                    have hvl : f_6 15 = eJ G 50 vv := (o_6 15 (by omega)).trans hvl
                    have hbk : f_6 36 = eO 0 [.ref (g 37), .ref (g 39), .ref (g 41), .ref (g 43), .ref (g 45), .ref (g 47), .ref (g 112), .int pay, .int fine] := (o_6 36 (by omega)).trans hbk
                    have hpr : f_6 37 = eO 5 [.int (nI 30), .int (nI 4), .ref (g 38), .int (nI np)] := (o_6 37 (by omega)).trans hpr
                    have hpd : f_6 38 = eI G (30 * 4) dp := (o_6 38 (by omega)).trans hpd
                    have hfr : f_6 39 = eO 5 [.int (nI 40), .int (nI 3), .ref (g 40), .int (nI nf)] := (o_6 39 (by omega)).trans hfr
                    have hfd : f_6 40 = eI G (40 * 3) df := (o_6 40 (by omega)).trans hfd
                    have hor : f_6 41 = eO 5 [.int (nI 4), .int (nI 3), .ref (g 42), .int (nI nr)] := (o_6 41 (by omega)).trans hor
                    have hod : f_6 42 = eI G (4 * 3) dr := (o_6 42 (by omega)).trans hod
                    have har : f_6 43 = eO 5 [.int (nI 20), .int (nI 3), .ref (g 44), .int (nI na)] := (o_6 43 (by omega)).trans har
                    have had : f_6 44 = eI G (20 * 3) da := (o_6 44 (by omega)).trans had
                    have htr : f_6 45 = eO 5 [.int (nI 10), .int (nI 70), .ref (g (45 + 1)), .int (nI (nt + 1))] := (o_6 45 (by omega)).trans htr
                    have hla : f_6 47 = eO 6 [.ref (g 48), .ref (g 49)] := (o_6 47 (by omega)).trans hla
                    have hlaa : f_6 48 = eA G 5 20 lf := (o_6 48 (by omega)).trans hlaa
                    have hts0 : f_6 112 = eO 6 [.ref (g 113), .ref (g 114)] := (o_6 112 (by omega)).trans hts0
                    have htsa : f_6 113 = eA G 5 4 tf := (o_6 113 (by omega)).trans htsa
                    have hct : f_6 46 = eI G (10 * 70) (upd (upd (upd (upd ct (Int32.toNatClampNeg ((nI nt) * nI 70 + 0)) a1) (Int32.toNatClampNeg ((nI nt) * nI 70 + 1)) a2) (Int32.toNatClampNeg ((nI nt) * nI 70 + 2)) a3) (Int32.toNatClampNeg ((nI nt) * nI 70 + 3)) a4) := hq_6_0
                    have hH : ∀ i, i < 10 → okH G g f_6 (2 * i + 16) := fun z hz => okH_fr (hH z hz) (o_6 _ (by omega)) (o_6 _ (by omega))
                    have hS : okH G g f_6 13 := okH_fr hS (o_6 _ (by omega)) (o_6 _ (by omega))
                    have hL : ∀ i, i < 20 → okT G g f_6 (3 * i + 52) := fun z hz => okT_fr (hL z hz) (o_6 _ (by omega)) (o_6 _ (by omega)) (o_6 _ (by omega))
                    have hT : ∀ i, i < 4 → okT G g f_6 (3 * i + 117) := fun z hz => okT_fr (hT z hz) (o_6 _ (by omega)) (o_6 _ (by omega)) (o_6 _ (by omega))
                    have hB1 : okB G g f_6 129 := okB_fr hB1 (fun j _ _ => o_6 j (by omega))
                    have hB2 : okB G g f_6 222 := okB_fr hB2 (fun j _ _ => o_6 j (by omega))
                    refine lv_aload hx hb dX10_trial_147 (lv_at hl 1 rfl) ?_
                    refine lv_iload hx hb dX10_trial_149 (lv_at hl 0 rfl) ?_
                    refine lv_iconst (v := 4) hx hb dX10_trial_151 (by decide) ?_
                    refine lv_iload hx hb dX10_trial_152 (lv_at hl 7 rfl) ?_
                    refine b_callv (va_runV (As := [.int (nI nt), .int 4, .int a5]) (rest := []) ⟨hx, hb, hml, hown, hts⟩ (r_set l G g hg f_6 45 10 70 (nt + 1) (upd (upd (upd (upd ct (Int32.toNatClampNeg ((nI nt) * nI 70 + 0)) a1) (Int32.toNatClampNeg ((nI nt) * nI 70 + 1)) a2) (Int32.toNatClampNeg ((nI nt) * nI 70 + 2)) a3) (Int32.toNatClampNeg ((nI nt) * nI 70 + 3)) a4) (nI nt) 4 a5 htr hct (by first | assumption | omega | decide) (by first | assumption | omega | decide) (by first | assumption | omega | decide) (by first | assumption | omega | decide) (inN_n (by omega) (by omega)) (by first | assumption | omega | decide)) (my_cwV hts ok_X5_set w_142 rfl rfl ⟨Nat.le_of_ble_eq_true rfl, Nat.le_of_ble_eq_true rfl⟩) ⟨bP.blind, va_recv hG.1 hP (ci := 5) (q0 := 45) rfl (wl_at (by decide) htr), fun U hU hW => ⟨rfl, by rw [hU]; exact hP, kG.warm hW hG⟩⟩ rfl rfl hl.1 rfl (lv_room (Nat.le_of_ble_eq_true rfl)) dX10_trial_154 ⟨Nat.le_of_ble_eq_true rfl, Nat.le_of_ble_eq_true rfl⟩) hS (fun f_7 H locs hq9 hP hS => ?_)
                    obtain ⟨hq_7_0, o_7⟩ := hq9
                    have hx0 : f_7 0 = eO 9 [.ref (g 1), .ref (g 36), .ref (g 2), .ref (g 3), .ref (g 4), .ref (g 6), .ref (g 7)] := (o_7 0 (by omega)).trans hx0
                    have hctc : f_7 1 = eO 1 [.ref (g 36), .ref (g 12), .ref (g 13), .ref (g 15), .int (nI se)] := (o_7 1 (by omega)).trans hctc
                    have hhs : f_7 12 = eA G 4 10 hf := (o_7 12 (by omega)).trans hhs
                    have him : f_7 2 = eA G 3 2 imf := (o_7 2 (by omega)).trans him
                    have hkp : f_7 3 = eZ G 2 kf := (o_7 3 (by omega)).trans hkp
                    have hrd : f_7 4 = eO 4 [.ref (g 5), .int (nI mc), .int op, .int cm, .int wu] := (o_7 4 (by omega)).trans hrd
                    have hmk : f_7 5 = eI G 50 mk := (o_7 5 (by omega)).trans hmk
                    have hfc6 : f_7 6 = eO 2 [.long ab, .long be] := (o_7 6 (by omega)).trans hfc6
                    have hwt : f_7 7 = eO 8 [.ref (g 8), .ref (g 9), .ref (g 10), .ref (g 11), .int (nI mn), .int le] := (o_7 7 (by omega)).trans hwt
                    have hw8 : f_7 8 = eI G 6 wt := (o_7 8 (by omega)).trans hw8
                    have hw9 : f_7 9 = eI G 6 ww := (o_7 9 (by omega)).trans hw9
                    have hw10 : f_7 10 = eI G 6 wb := (o_7 10 (by omega)).trans hw10
                    have hw11 : f_7 11 = eI G 6 wf := (o_7 11 (by omega)).trans hw11
                    have hvl : f_7 15 = eJ G 50 vv := (o_7 15 (by omega)).trans hvl
                    have hbk : f_7 36 = eO 0 [.ref (g 37), .ref (g 39), .ref (g 41), .ref (g 43), .ref (g 45), .ref (g 47), .ref (g 112), .int pay, .int fine] := (o_7 36 (by omega)).trans hbk
                    have hpr : f_7 37 = eO 5 [.int (nI 30), .int (nI 4), .ref (g 38), .int (nI np)] := (o_7 37 (by omega)).trans hpr
                    have hpd : f_7 38 = eI G (30 * 4) dp := (o_7 38 (by omega)).trans hpd
                    have hfr : f_7 39 = eO 5 [.int (nI 40), .int (nI 3), .ref (g 40), .int (nI nf)] := (o_7 39 (by omega)).trans hfr
                    have hfd : f_7 40 = eI G (40 * 3) df := (o_7 40 (by omega)).trans hfd
                    have hor : f_7 41 = eO 5 [.int (nI 4), .int (nI 3), .ref (g 42), .int (nI nr)] := (o_7 41 (by omega)).trans hor
                    have hod : f_7 42 = eI G (4 * 3) dr := (o_7 42 (by omega)).trans hod
                    have har : f_7 43 = eO 5 [.int (nI 20), .int (nI 3), .ref (g 44), .int (nI na)] := (o_7 43 (by omega)).trans har
                    have had : f_7 44 = eI G (20 * 3) da := (o_7 44 (by omega)).trans had
                    have htr : f_7 45 = eO 5 [.int (nI 10), .int (nI 70), .ref (g (45 + 1)), .int (nI (nt + 1))] := (o_7 45 (by omega)).trans htr
                    have hla : f_7 47 = eO 6 [.ref (g 48), .ref (g 49)] := (o_7 47 (by omega)).trans hla
                    have hlaa : f_7 48 = eA G 5 20 lf := (o_7 48 (by omega)).trans hlaa
                    have hts0 : f_7 112 = eO 6 [.ref (g 113), .ref (g 114)] := (o_7 112 (by omega)).trans hts0
                    have htsa : f_7 113 = eA G 5 4 tf := (o_7 113 (by omega)).trans htsa
                    have hct : f_7 46 = eI G (10 * 70) (upd (upd (upd (upd (upd ct (Int32.toNatClampNeg ((nI nt) * nI 70 + 0)) a1) (Int32.toNatClampNeg ((nI nt) * nI 70 + 1)) a2) (Int32.toNatClampNeg ((nI nt) * nI 70 + 2)) a3) (Int32.toNatClampNeg ((nI nt) * nI 70 + 3)) a4) (Int32.toNatClampNeg ((nI nt) * nI 70 + 4)) a5) := hq_7_0
                    have hH : ∀ i, i < 10 → okH G g f_7 (2 * i + 16) := fun z hz => okH_fr (hH z hz) (o_7 _ (by omega)) (o_7 _ (by omega))
                    have hS : okH G g f_7 13 := okH_fr hS (o_7 _ (by omega)) (o_7 _ (by omega))
                    have hL : ∀ i, i < 20 → okT G g f_7 (3 * i + 52) := fun z hz => okT_fr (hL z hz) (o_7 _ (by omega)) (o_7 _ (by omega)) (o_7 _ (by omega))
                    have hT : ∀ i, i < 4 → okT G g f_7 (3 * i + 117) := fun z hz => okT_fr (hT z hz) (o_7 _ (by omega)) (o_7 _ (by omega)) (o_7 _ (by omega))
                    have hB1 : okB G g f_7 129 := okB_fr hB1 (fun j _ _ => o_7 j (by omega))
                    have hB2 : okB G g f_7 222 := okB_fr hB2 (fun j _ _ => o_7 j (by omega))
                    refine lv_aload hx hb dX10_trial_157 (lv_at hl 1 rfl) ?_
                    refine lv_iload hx hb dX10_trial_159 (lv_at hl 0 rfl) ?_
                    refine lv_iconst (v := 5) hx hb dX10_trial_161 (by decide) ?_
                    refine lv_iload hx hb dX10_trial_162 (lv_at hl 8 rfl) ?_
                    refine b_callv (va_runV (As := [.int (nI nt), .int 5, .int a6]) (rest := []) ⟨hx, hb, hml, hown, hts⟩ (r_set l G g hg f_7 45 10 70 (nt + 1) (upd (upd (upd (upd (upd ct (Int32.toNatClampNeg ((nI nt) * nI 70 + 0)) a1) (Int32.toNatClampNeg ((nI nt) * nI 70 + 1)) a2) (Int32.toNatClampNeg ((nI nt) * nI 70 + 2)) a3) (Int32.toNatClampNeg ((nI nt) * nI 70 + 3)) a4) (Int32.toNatClampNeg ((nI nt) * nI 70 + 4)) a5) (nI nt) 5 a6 htr hct (by first | assumption | omega | decide) (by first | assumption | omega | decide) (by first | assumption | omega | decide) (by first | assumption | omega | decide) (inN_n (by omega) (by omega)) (by first | assumption | omega | decide)) (my_cwV hts ok_X5_set w_142 rfl rfl ⟨Nat.le_of_ble_eq_true rfl, Nat.le_of_ble_eq_true rfl⟩) ⟨bP.blind, va_recv hG.1 hP (ci := 5) (q0 := 45) rfl (wl_at (by decide) htr), fun U hU hW => ⟨rfl, by rw [hU]; exact hP, kG.warm hW hG⟩⟩ rfl rfl hl.1 rfl (lv_room (Nat.le_of_ble_eq_true rfl)) dX10_trial_164 ⟨Nat.le_of_ble_eq_true rfl, Nat.le_of_ble_eq_true rfl⟩) hS (fun f_8 H locs hq9 hP hS => ?_)
                    obtain ⟨hq_8_0, o_8⟩ := hq9
                    have hx0 : f_8 0 = eO 9 [.ref (g 1), .ref (g 36), .ref (g 2), .ref (g 3), .ref (g 4), .ref (g 6), .ref (g 7)] := (o_8 0 (by omega)).trans hx0
                    have hctc : f_8 1 = eO 1 [.ref (g 36), .ref (g 12), .ref (g 13), .ref (g 15), .int (nI se)] := (o_8 1 (by omega)).trans hctc
                    have hhs : f_8 12 = eA G 4 10 hf := (o_8 12 (by omega)).trans hhs
                    have him : f_8 2 = eA G 3 2 imf := (o_8 2 (by omega)).trans him
                    have hkp : f_8 3 = eZ G 2 kf := (o_8 3 (by omega)).trans hkp
                    have hrd : f_8 4 = eO 4 [.ref (g 5), .int (nI mc), .int op, .int cm, .int wu] := (o_8 4 (by omega)).trans hrd
                    have hmk : f_8 5 = eI G 50 mk := (o_8 5 (by omega)).trans hmk
                    have hfc6 : f_8 6 = eO 2 [.long ab, .long be] := (o_8 6 (by omega)).trans hfc6
                    have hwt : f_8 7 = eO 8 [.ref (g 8), .ref (g 9), .ref (g 10), .ref (g 11), .int (nI mn), .int le] := (o_8 7 (by omega)).trans hwt
                    have hw8 : f_8 8 = eI G 6 wt := (o_8 8 (by omega)).trans hw8
                    have hw9 : f_8 9 = eI G 6 ww := (o_8 9 (by omega)).trans hw9
                    have hw10 : f_8 10 = eI G 6 wb := (o_8 10 (by omega)).trans hw10
                    have hw11 : f_8 11 = eI G 6 wf := (o_8 11 (by omega)).trans hw11
                    have hvl : f_8 15 = eJ G 50 vv := (o_8 15 (by omega)).trans hvl
                    have hbk : f_8 36 = eO 0 [.ref (g 37), .ref (g 39), .ref (g 41), .ref (g 43), .ref (g 45), .ref (g 47), .ref (g 112), .int pay, .int fine] := (o_8 36 (by omega)).trans hbk
                    have hpr : f_8 37 = eO 5 [.int (nI 30), .int (nI 4), .ref (g 38), .int (nI np)] := (o_8 37 (by omega)).trans hpr
                    have hpd : f_8 38 = eI G (30 * 4) dp := (o_8 38 (by omega)).trans hpd
                    have hfr : f_8 39 = eO 5 [.int (nI 40), .int (nI 3), .ref (g 40), .int (nI nf)] := (o_8 39 (by omega)).trans hfr
                    have hfd : f_8 40 = eI G (40 * 3) df := (o_8 40 (by omega)).trans hfd
                    have hor : f_8 41 = eO 5 [.int (nI 4), .int (nI 3), .ref (g 42), .int (nI nr)] := (o_8 41 (by omega)).trans hor
                    have hod : f_8 42 = eI G (4 * 3) dr := (o_8 42 (by omega)).trans hod
                    have har : f_8 43 = eO 5 [.int (nI 20), .int (nI 3), .ref (g 44), .int (nI na)] := (o_8 43 (by omega)).trans har
                    have had : f_8 44 = eI G (20 * 3) da := (o_8 44 (by omega)).trans had
                    have htr : f_8 45 = eO 5 [.int (nI 10), .int (nI 70), .ref (g (45 + 1)), .int (nI (nt + 1))] := (o_8 45 (by omega)).trans htr
                    have hla : f_8 47 = eO 6 [.ref (g 48), .ref (g 49)] := (o_8 47 (by omega)).trans hla
                    have hlaa : f_8 48 = eA G 5 20 lf := (o_8 48 (by omega)).trans hlaa
                    have hts0 : f_8 112 = eO 6 [.ref (g 113), .ref (g 114)] := (o_8 112 (by omega)).trans hts0
                    have htsa : f_8 113 = eA G 5 4 tf := (o_8 113 (by omega)).trans htsa
                    have hct : f_8 46 = eI G (10 * 70) (upd (upd (upd (upd (upd (upd ct (Int32.toNatClampNeg ((nI nt) * nI 70 + 0)) a1) (Int32.toNatClampNeg ((nI nt) * nI 70 + 1)) a2) (Int32.toNatClampNeg ((nI nt) * nI 70 + 2)) a3) (Int32.toNatClampNeg ((nI nt) * nI 70 + 3)) a4) (Int32.toNatClampNeg ((nI nt) * nI 70 + 4)) a5) (Int32.toNatClampNeg ((nI nt) * nI 70 + 5)) a6) := hq_8_0
                    have hH : ∀ i, i < 10 → okH G g f_8 (2 * i + 16) := fun z hz => okH_fr (hH z hz) (o_8 _ (by omega)) (o_8 _ (by omega))
                    have hS : okH G g f_8 13 := okH_fr hS (o_8 _ (by omega)) (o_8 _ (by omega))
                    have hL : ∀ i, i < 20 → okT G g f_8 (3 * i + 52) := fun z hz => okT_fr (hL z hz) (o_8 _ (by omega)) (o_8 _ (by omega)) (o_8 _ (by omega))
                    have hT : ∀ i, i < 4 → okT G g f_8 (3 * i + 117) := fun z hz => okT_fr (hT z hz) (o_8 _ (by omega)) (o_8 _ (by omega)) (o_8 _ (by omega))
                    have hB1 : okB G g f_8 129 := okB_fr hB1 (fun j _ _ => o_8 j (by omega))
                    have hB2 : okB G g f_8 222 := okB_fr hB2 (fun j _ _ => o_8 j (by omega))
                    refine lv_aload hx hb dX10_trial_167 (lv_at hl 1 rfl) ?_
                    refine lv_iload hx hb dX10_trial_169 (lv_at hl 0 rfl) ?_
                    refine lv_bipush (v := 6) hx hb dX10_trial_171 (by decide) ?_
                    refine lv_iload hx hb dX10_trial_173 (lv_at hl 9 rfl) ?_
                    refine b_callv (va_runV (As := [.int (nI nt), .int 6, .int a7]) (rest := []) ⟨hx, hb, hml, hown, hts⟩ (r_set l G g hg f_8 45 10 70 (nt + 1) (upd (upd (upd (upd (upd (upd ct (Int32.toNatClampNeg ((nI nt) * nI 70 + 0)) a1) (Int32.toNatClampNeg ((nI nt) * nI 70 + 1)) a2) (Int32.toNatClampNeg ((nI nt) * nI 70 + 2)) a3) (Int32.toNatClampNeg ((nI nt) * nI 70 + 3)) a4) (Int32.toNatClampNeg ((nI nt) * nI 70 + 4)) a5) (Int32.toNatClampNeg ((nI nt) * nI 70 + 5)) a6) (nI nt) 6 a7 htr hct (by first | assumption | omega | decide) (by first | assumption | omega | decide) (by first | assumption | omega | decide) (by first | assumption | omega | decide) (inN_n (by omega) (by omega)) (by first | assumption | omega | decide)) (my_cwV hts ok_X5_set w_142 rfl rfl ⟨Nat.le_of_ble_eq_true rfl, Nat.le_of_ble_eq_true rfl⟩) ⟨bP.blind, va_recv hG.1 hP (ci := 5) (q0 := 45) rfl (wl_at (by decide) htr), fun U hU hW => ⟨rfl, by rw [hU]; exact hP, kG.warm hW hG⟩⟩ rfl rfl hl.1 rfl (lv_room (Nat.le_of_ble_eq_true rfl)) dX10_trial_175 ⟨Nat.le_of_ble_eq_true rfl, Nat.le_of_ble_eq_true rfl⟩) hS (fun f_9 H locs hq9 hP hS => ?_)
                    obtain ⟨hq_9_0, o_9⟩ := hq9
                    have hx0 : f_9 0 = eO 9 [.ref (g 1), .ref (g 36), .ref (g 2), .ref (g 3), .ref (g 4), .ref (g 6), .ref (g 7)] := (o_9 0 (by omega)).trans hx0
                    have hctc : f_9 1 = eO 1 [.ref (g 36), .ref (g 12), .ref (g 13), .ref (g 15), .int (nI se)] := (o_9 1 (by omega)).trans hctc
                    have hhs : f_9 12 = eA G 4 10 hf := (o_9 12 (by omega)).trans hhs
                    have him : f_9 2 = eA G 3 2 imf := (o_9 2 (by omega)).trans him
                    have hkp : f_9 3 = eZ G 2 kf := (o_9 3 (by omega)).trans hkp
                    have hrd : f_9 4 = eO 4 [.ref (g 5), .int (nI mc), .int op, .int cm, .int wu] := (o_9 4 (by omega)).trans hrd
                    have hmk : f_9 5 = eI G 50 mk := (o_9 5 (by omega)).trans hmk
                    have hfc6 : f_9 6 = eO 2 [.long ab, .long be] := (o_9 6 (by omega)).trans hfc6
                    have hwt : f_9 7 = eO 8 [.ref (g 8), .ref (g 9), .ref (g 10), .ref (g 11), .int (nI mn), .int le] := (o_9 7 (by omega)).trans hwt
                    have hw8 : f_9 8 = eI G 6 wt := (o_9 8 (by omega)).trans hw8
                    have hw9 : f_9 9 = eI G 6 ww := (o_9 9 (by omega)).trans hw9
                    have hw10 : f_9 10 = eI G 6 wb := (o_9 10 (by omega)).trans hw10
                    have hw11 : f_9 11 = eI G 6 wf := (o_9 11 (by omega)).trans hw11
                    have hvl : f_9 15 = eJ G 50 vv := (o_9 15 (by omega)).trans hvl
                    have hbk : f_9 36 = eO 0 [.ref (g 37), .ref (g 39), .ref (g 41), .ref (g 43), .ref (g 45), .ref (g 47), .ref (g 112), .int pay, .int fine] := (o_9 36 (by omega)).trans hbk
                    have hpr : f_9 37 = eO 5 [.int (nI 30), .int (nI 4), .ref (g 38), .int (nI np)] := (o_9 37 (by omega)).trans hpr
                    have hpd : f_9 38 = eI G (30 * 4) dp := (o_9 38 (by omega)).trans hpd
                    have hfr : f_9 39 = eO 5 [.int (nI 40), .int (nI 3), .ref (g 40), .int (nI nf)] := (o_9 39 (by omega)).trans hfr
                    have hfd : f_9 40 = eI G (40 * 3) df := (o_9 40 (by omega)).trans hfd
                    have hor : f_9 41 = eO 5 [.int (nI 4), .int (nI 3), .ref (g 42), .int (nI nr)] := (o_9 41 (by omega)).trans hor
                    have hod : f_9 42 = eI G (4 * 3) dr := (o_9 42 (by omega)).trans hod
                    have har : f_9 43 = eO 5 [.int (nI 20), .int (nI 3), .ref (g 44), .int (nI na)] := (o_9 43 (by omega)).trans har
                    have had : f_9 44 = eI G (20 * 3) da := (o_9 44 (by omega)).trans had
                    have htr : f_9 45 = eO 5 [.int (nI 10), .int (nI 70), .ref (g (45 + 1)), .int (nI (nt + 1))] := (o_9 45 (by omega)).trans htr
                    have hla : f_9 47 = eO 6 [.ref (g 48), .ref (g 49)] := (o_9 47 (by omega)).trans hla
                    have hlaa : f_9 48 = eA G 5 20 lf := (o_9 48 (by omega)).trans hlaa
                    have hts0 : f_9 112 = eO 6 [.ref (g 113), .ref (g 114)] := (o_9 112 (by omega)).trans hts0
                    have htsa : f_9 113 = eA G 5 4 tf := (o_9 113 (by omega)).trans htsa
                    have hct : f_9 46 = eI G (10 * 70) (upd (upd (upd (upd (upd (upd (upd ct (Int32.toNatClampNeg ((nI nt) * nI 70 + 0)) a1) (Int32.toNatClampNeg ((nI nt) * nI 70 + 1)) a2) (Int32.toNatClampNeg ((nI nt) * nI 70 + 2)) a3) (Int32.toNatClampNeg ((nI nt) * nI 70 + 3)) a4) (Int32.toNatClampNeg ((nI nt) * nI 70 + 4)) a5) (Int32.toNatClampNeg ((nI nt) * nI 70 + 5)) a6) (Int32.toNatClampNeg ((nI nt) * nI 70 + 6)) a7) := hq_9_0
                    have hH : ∀ i, i < 10 → okH G g f_9 (2 * i + 16) := fun z hz => okH_fr (hH z hz) (o_9 _ (by omega)) (o_9 _ (by omega))
                    have hS : okH G g f_9 13 := okH_fr hS (o_9 _ (by omega)) (o_9 _ (by omega))
                    have hL : ∀ i, i < 20 → okT G g f_9 (3 * i + 52) := fun z hz => okT_fr (hL z hz) (o_9 _ (by omega)) (o_9 _ (by omega)) (o_9 _ (by omega))
                    have hT : ∀ i, i < 4 → okT G g f_9 (3 * i + 117) := fun z hz => okT_fr (hT z hz) (o_9 _ (by omega)) (o_9 _ (by omega)) (o_9 _ (by omega))
                    have hB1 : okB G g f_9 129 := okB_fr hB1 (fun j _ _ => o_9 j (by omega))
                    have hB2 : okB G g f_9 222 := okB_fr hB2 (fun j _ _ => o_9 j (by omega))
                    refine lv_aload hx hb dX10_trial_178 (lv_at hl 1 rfl) ?_
                    refine lv_iload hx hb dX10_trial_180 (lv_at hl 0 rfl) ?_
                    refine lv_bipush (v := 7) hx hb dX10_trial_182 (by decide) ?_
                    refine lv_iload hx hb dX10_trial_184 (lv_at hl 10 rfl) ?_
                    refine b_callv (va_runV (As := [.int (nI nt), .int 7, .int a8]) (rest := []) ⟨hx, hb, hml, hown, hts⟩ (r_set l G g hg f_9 45 10 70 (nt + 1) (upd (upd (upd (upd (upd (upd (upd ct (Int32.toNatClampNeg ((nI nt) * nI 70 + 0)) a1) (Int32.toNatClampNeg ((nI nt) * nI 70 + 1)) a2) (Int32.toNatClampNeg ((nI nt) * nI 70 + 2)) a3) (Int32.toNatClampNeg ((nI nt) * nI 70 + 3)) a4) (Int32.toNatClampNeg ((nI nt) * nI 70 + 4)) a5) (Int32.toNatClampNeg ((nI nt) * nI 70 + 5)) a6) (Int32.toNatClampNeg ((nI nt) * nI 70 + 6)) a7) (nI nt) 7 a8 htr hct (by first | assumption | omega | decide) (by first | assumption | omega | decide) (by first | assumption | omega | decide) (by first | assumption | omega | decide) (inN_n (by omega) (by omega)) (by first | assumption | omega | decide)) (my_cwV hts ok_X5_set w_142 rfl rfl ⟨Nat.le_of_ble_eq_true rfl, Nat.le_of_ble_eq_true rfl⟩) ⟨bP.blind, va_recv hG.1 hP (ci := 5) (q0 := 45) rfl (wl_at (by decide) htr), fun U hU hW => ⟨rfl, by rw [hU]; exact hP, kG.warm hW hG⟩⟩ rfl rfl hl.1 rfl (lv_room (Nat.le_of_ble_eq_true rfl)) dX10_trial_186 ⟨Nat.le_of_ble_eq_true rfl, Nat.le_of_ble_eq_true rfl⟩) hS (fun f_10 H locs hq9 hP hS => ?_)
                    obtain ⟨hq_10_0, o_10⟩ := hq9
                    have hx0 : f_10 0 = eO 9 [.ref (g 1), .ref (g 36), .ref (g 2), .ref (g 3), .ref (g 4), .ref (g 6), .ref (g 7)] := (o_10 0 (by omega)).trans hx0
                    have hctc : f_10 1 = eO 1 [.ref (g 36), .ref (g 12), .ref (g 13), .ref (g 15), .int (nI se)] := (o_10 1 (by omega)).trans hctc
                    have hhs : f_10 12 = eA G 4 10 hf := (o_10 12 (by omega)).trans hhs
                    have him : f_10 2 = eA G 3 2 imf := (o_10 2 (by omega)).trans him
                    have hkp : f_10 3 = eZ G 2 kf := (o_10 3 (by omega)).trans hkp
                    have hrd : f_10 4 = eO 4 [.ref (g 5), .int (nI mc), .int op, .int cm, .int wu] := (o_10 4 (by omega)).trans hrd
                    have hmk : f_10 5 = eI G 50 mk := (o_10 5 (by omega)).trans hmk
                    have hfc6 : f_10 6 = eO 2 [.long ab, .long be] := (o_10 6 (by omega)).trans hfc6
                    have hwt : f_10 7 = eO 8 [.ref (g 8), .ref (g 9), .ref (g 10), .ref (g 11), .int (nI mn), .int le] := (o_10 7 (by omega)).trans hwt
                    have hw8 : f_10 8 = eI G 6 wt := (o_10 8 (by omega)).trans hw8
                    have hw9 : f_10 9 = eI G 6 ww := (o_10 9 (by omega)).trans hw9
                    have hw10 : f_10 10 = eI G 6 wb := (o_10 10 (by omega)).trans hw10
                    have hw11 : f_10 11 = eI G 6 wf := (o_10 11 (by omega)).trans hw11
                    have hvl : f_10 15 = eJ G 50 vv := (o_10 15 (by omega)).trans hvl
                    have hbk : f_10 36 = eO 0 [.ref (g 37), .ref (g 39), .ref (g 41), .ref (g 43), .ref (g 45), .ref (g 47), .ref (g 112), .int pay, .int fine] := (o_10 36 (by omega)).trans hbk
                    have hpr : f_10 37 = eO 5 [.int (nI 30), .int (nI 4), .ref (g 38), .int (nI np)] := (o_10 37 (by omega)).trans hpr
                    have hpd : f_10 38 = eI G (30 * 4) dp := (o_10 38 (by omega)).trans hpd
                    have hfr : f_10 39 = eO 5 [.int (nI 40), .int (nI 3), .ref (g 40), .int (nI nf)] := (o_10 39 (by omega)).trans hfr
                    have hfd : f_10 40 = eI G (40 * 3) df := (o_10 40 (by omega)).trans hfd
                    have hor : f_10 41 = eO 5 [.int (nI 4), .int (nI 3), .ref (g 42), .int (nI nr)] := (o_10 41 (by omega)).trans hor
                    have hod : f_10 42 = eI G (4 * 3) dr := (o_10 42 (by omega)).trans hod
                    have har : f_10 43 = eO 5 [.int (nI 20), .int (nI 3), .ref (g 44), .int (nI na)] := (o_10 43 (by omega)).trans har
                    have had : f_10 44 = eI G (20 * 3) da := (o_10 44 (by omega)).trans had
                    have htr : f_10 45 = eO 5 [.int (nI 10), .int (nI 70), .ref (g (45 + 1)), .int (nI (nt + 1))] := (o_10 45 (by omega)).trans htr
                    have hla : f_10 47 = eO 6 [.ref (g 48), .ref (g 49)] := (o_10 47 (by omega)).trans hla
                    have hlaa : f_10 48 = eA G 5 20 lf := (o_10 48 (by omega)).trans hlaa
                    have hts0 : f_10 112 = eO 6 [.ref (g 113), .ref (g 114)] := (o_10 112 (by omega)).trans hts0
                    have htsa : f_10 113 = eA G 5 4 tf := (o_10 113 (by omega)).trans htsa
                    have hct : f_10 46 = eI G (10 * 70) (upd (upd (upd (upd (upd (upd (upd (upd ct (Int32.toNatClampNeg ((nI nt) * nI 70 + 0)) a1) (Int32.toNatClampNeg ((nI nt) * nI 70 + 1)) a2) (Int32.toNatClampNeg ((nI nt) * nI 70 + 2)) a3) (Int32.toNatClampNeg ((nI nt) * nI 70 + 3)) a4) (Int32.toNatClampNeg ((nI nt) * nI 70 + 4)) a5) (Int32.toNatClampNeg ((nI nt) * nI 70 + 5)) a6) (Int32.toNatClampNeg ((nI nt) * nI 70 + 6)) a7) (Int32.toNatClampNeg ((nI nt) * nI 70 + 7)) a8) := hq_10_0
                    have hH : ∀ i, i < 10 → okH G g f_10 (2 * i + 16) := fun z hz => okH_fr (hH z hz) (o_10 _ (by omega)) (o_10 _ (by omega))
                    have hS : okH G g f_10 13 := okH_fr hS (o_10 _ (by omega)) (o_10 _ (by omega))
                    have hL : ∀ i, i < 20 → okT G g f_10 (3 * i + 52) := fun z hz => okT_fr (hL z hz) (o_10 _ (by omega)) (o_10 _ (by omega)) (o_10 _ (by omega))
                    have hT : ∀ i, i < 4 → okT G g f_10 (3 * i + 117) := fun z hz => okT_fr (hT z hz) (o_10 _ (by omega)) (o_10 _ (by omega)) (o_10 _ (by omega))
                    have hB1 : okB G g f_10 129 := okB_fr hB1 (fun j _ _ => o_10 j (by omega))
                    have hB2 : okB G g f_10 222 := okB_fr hB2 (fun j _ _ => o_10 j (by omega))
                    refine lv_aload hx hb dX10_trial_189 (lv_at hl 1 rfl) ?_
                    refine lv_iload hx hb dX10_trial_191 (lv_at hl 0 rfl) ?_
                    refine lv_bipush (v := 8) hx hb dX10_trial_193 (by decide) ?_
                    refine lv_iload hx hb dX10_trial_195 (lv_at hl 11 rfl) ?_
                    refine b_callv (va_runV (As := [.int (nI nt), .int 8, .int a9]) (rest := []) ⟨hx, hb, hml, hown, hts⟩ (r_set l G g hg f_10 45 10 70 (nt + 1) (upd (upd (upd (upd (upd (upd (upd (upd ct (Int32.toNatClampNeg ((nI nt) * nI 70 + 0)) a1) (Int32.toNatClampNeg ((nI nt) * nI 70 + 1)) a2) (Int32.toNatClampNeg ((nI nt) * nI 70 + 2)) a3) (Int32.toNatClampNeg ((nI nt) * nI 70 + 3)) a4) (Int32.toNatClampNeg ((nI nt) * nI 70 + 4)) a5) (Int32.toNatClampNeg ((nI nt) * nI 70 + 5)) a6) (Int32.toNatClampNeg ((nI nt) * nI 70 + 6)) a7) (Int32.toNatClampNeg ((nI nt) * nI 70 + 7)) a8) (nI nt) 8 a9 htr hct (by first | assumption | omega | decide) (by first | assumption | omega | decide) (by first | assumption | omega | decide) (by first | assumption | omega | decide) (inN_n (by omega) (by omega)) (by first | assumption | omega | decide)) (my_cwV hts ok_X5_set w_142 rfl rfl ⟨Nat.le_of_ble_eq_true rfl, Nat.le_of_ble_eq_true rfl⟩) ⟨bP.blind, va_recv hG.1 hP (ci := 5) (q0 := 45) rfl (wl_at (by decide) htr), fun U hU hW => ⟨rfl, by rw [hU]; exact hP, kG.warm hW hG⟩⟩ rfl rfl hl.1 rfl (lv_room (Nat.le_of_ble_eq_true rfl)) dX10_trial_197 ⟨Nat.le_of_ble_eq_true rfl, Nat.le_of_ble_eq_true rfl⟩) hS (fun f_11 H locs hq9 hP hS => ?_)
                    obtain ⟨hq_11_0, o_11⟩ := hq9
                    have hx0 : f_11 0 = eO 9 [.ref (g 1), .ref (g 36), .ref (g 2), .ref (g 3), .ref (g 4), .ref (g 6), .ref (g 7)] := (o_11 0 (by omega)).trans hx0
                    have hctc : f_11 1 = eO 1 [.ref (g 36), .ref (g 12), .ref (g 13), .ref (g 15), .int (nI se)] := (o_11 1 (by omega)).trans hctc
                    have hhs : f_11 12 = eA G 4 10 hf := (o_11 12 (by omega)).trans hhs
                    have him : f_11 2 = eA G 3 2 imf := (o_11 2 (by omega)).trans him
                    have hkp : f_11 3 = eZ G 2 kf := (o_11 3 (by omega)).trans hkp
                    have hrd : f_11 4 = eO 4 [.ref (g 5), .int (nI mc), .int op, .int cm, .int wu] := (o_11 4 (by omega)).trans hrd
                    have hmk : f_11 5 = eI G 50 mk := (o_11 5 (by omega)).trans hmk
                    have hfc6 : f_11 6 = eO 2 [.long ab, .long be] := (o_11 6 (by omega)).trans hfc6
                    have hwt : f_11 7 = eO 8 [.ref (g 8), .ref (g 9), .ref (g 10), .ref (g 11), .int (nI mn), .int le] := (o_11 7 (by omega)).trans hwt
                    have hw8 : f_11 8 = eI G 6 wt := (o_11 8 (by omega)).trans hw8
                    have hw9 : f_11 9 = eI G 6 ww := (o_11 9 (by omega)).trans hw9
                    have hw10 : f_11 10 = eI G 6 wb := (o_11 10 (by omega)).trans hw10
                    have hw11 : f_11 11 = eI G 6 wf := (o_11 11 (by omega)).trans hw11
                    have hvl : f_11 15 = eJ G 50 vv := (o_11 15 (by omega)).trans hvl
                    have hbk : f_11 36 = eO 0 [.ref (g 37), .ref (g 39), .ref (g 41), .ref (g 43), .ref (g 45), .ref (g 47), .ref (g 112), .int pay, .int fine] := (o_11 36 (by omega)).trans hbk
                    have hpr : f_11 37 = eO 5 [.int (nI 30), .int (nI 4), .ref (g 38), .int (nI np)] := (o_11 37 (by omega)).trans hpr
                    have hpd : f_11 38 = eI G (30 * 4) dp := (o_11 38 (by omega)).trans hpd
                    have hfr : f_11 39 = eO 5 [.int (nI 40), .int (nI 3), .ref (g 40), .int (nI nf)] := (o_11 39 (by omega)).trans hfr
                    have hfd : f_11 40 = eI G (40 * 3) df := (o_11 40 (by omega)).trans hfd
                    have hor : f_11 41 = eO 5 [.int (nI 4), .int (nI 3), .ref (g 42), .int (nI nr)] := (o_11 41 (by omega)).trans hor
                    have hod : f_11 42 = eI G (4 * 3) dr := (o_11 42 (by omega)).trans hod
                    have har : f_11 43 = eO 5 [.int (nI 20), .int (nI 3), .ref (g 44), .int (nI na)] := (o_11 43 (by omega)).trans har
                    have had : f_11 44 = eI G (20 * 3) da := (o_11 44 (by omega)).trans had
                    have htr : f_11 45 = eO 5 [.int (nI 10), .int (nI 70), .ref (g (45 + 1)), .int (nI (nt + 1))] := (o_11 45 (by omega)).trans htr
                    have hla : f_11 47 = eO 6 [.ref (g 48), .ref (g 49)] := (o_11 47 (by omega)).trans hla
                    have hlaa : f_11 48 = eA G 5 20 lf := (o_11 48 (by omega)).trans hlaa
                    have hts0 : f_11 112 = eO 6 [.ref (g 113), .ref (g 114)] := (o_11 112 (by omega)).trans hts0
                    have htsa : f_11 113 = eA G 5 4 tf := (o_11 113 (by omega)).trans htsa
                    have hct : f_11 46 = eI G (10 * 70) (upd (upd (upd (upd (upd (upd (upd (upd (upd ct (Int32.toNatClampNeg ((nI nt) * nI 70 + 0)) a1) (Int32.toNatClampNeg ((nI nt) * nI 70 + 1)) a2) (Int32.toNatClampNeg ((nI nt) * nI 70 + 2)) a3) (Int32.toNatClampNeg ((nI nt) * nI 70 + 3)) a4) (Int32.toNatClampNeg ((nI nt) * nI 70 + 4)) a5) (Int32.toNatClampNeg ((nI nt) * nI 70 + 5)) a6) (Int32.toNatClampNeg ((nI nt) * nI 70 + 6)) a7) (Int32.toNatClampNeg ((nI nt) * nI 70 + 7)) a8) (Int32.toNatClampNeg ((nI nt) * nI 70 + 8)) a9) := hq_11_0
                    have hH : ∀ i, i < 10 → okH G g f_11 (2 * i + 16) := fun z hz => okH_fr (hH z hz) (o_11 _ (by omega)) (o_11 _ (by omega))
                    have hS : okH G g f_11 13 := okH_fr hS (o_11 _ (by omega)) (o_11 _ (by omega))
                    have hL : ∀ i, i < 20 → okT G g f_11 (3 * i + 52) := fun z hz => okT_fr (hL z hz) (o_11 _ (by omega)) (o_11 _ (by omega)) (o_11 _ (by omega))
                    have hT : ∀ i, i < 4 → okT G g f_11 (3 * i + 117) := fun z hz => okT_fr (hT z hz) (o_11 _ (by omega)) (o_11 _ (by omega)) (o_11 _ (by omega))
                    have hB1 : okB G g f_11 129 := okB_fr hB1 (fun j _ _ => o_11 j (by omega))
                    have hB2 : okB G g f_11 222 := okB_fr hB2 (fun j _ _ => o_11 j (by omega))
                    refine lv_iload hx hb dX10_trial_200 (lv_at hl 0 rfl) ?_
                    exact W.iret (v := nI nt) hx hb hr (fun t ht hW => ⟨⟨_, f_11, rfl, (⟨⟨se, hf, imf, kf, mc, op, cm, wu, mk, ab, be, mn, le, wt, ww, wb, wf, vv, pay, fine, np, dp, nf, df, nr, dr, na, da, (nt + 1), (upd (upd (upd (upd (upd (upd (upd (upd (upd ct (Int32.toNatClampNeg ((nI nt) * nI 70 + 0)) a1) (Int32.toNatClampNeg ((nI nt) * nI 70 + 1)) a2) (Int32.toNatClampNeg ((nI nt) * nI 70 + 2)) a3) (Int32.toNatClampNeg ((nI nt) * nI 70 + 3)) a4) (Int32.toNatClampNeg ((nI nt) * nI 70 + 4)) a5) (Int32.toNatClampNeg ((nI nt) * nI 70 + 5)) a6) (Int32.toNatClampNeg ((nI nt) * nI 70 + 6)) a7) (Int32.toNatClampNeg ((nI nt) * nI 70 + 7)) a8) (Int32.toNatClampNeg ((nI nt) * nI 70 + 8)) a9), lf, tf, hx0, hctc, hhs, him, hkp, hrd, hmk, hfc6, hwt, hw8, hw9, hw10, hw11, hvl, hbk, hpr, hpd, hfr, hfd, hor, hod, har, had, htr, hct, hla, hlaa, hts0, htsa, by omega, hhf, him0, him1, by omega, by omega, by omega, by omega, by omega, by omega, by omega, hlf, htf, hH, hS, hL, hT, hB1, hB2⟩, fun j hj => ((((((((((o_11 j (by omega))).trans (o_10 j (by omega))).trans (o_9 j (by omega))).trans (o_8 j (by omega))).trans (o_7 j (by omega))).trans (o_6 j (by omega))).trans (o_5 j (by omega))).trans (o_4 j (by omega))).trans (o_3 j (by omega))).trans (o_2 j (by omega))⟩), by rw [ht]; exact hP⟩, hS.F ht⟩) hS.2.2 dX10_trial_202
                  · refine rd_calli (va_runV (As := []) (rest := []) ⟨hx, hb, hml, hown, hts⟩ (r_growF l G g hg f 45 10 70 nt htr (by first | assumption | omega | decide) (by first | assumption | omega | decide) (by first | assumption | omega | decide) (by first | assumption | omega | decide) (by first | assumption | omega | decide)) (my_cwV hts ok_X5_grow w_137 rfl rfl ⟨Nat.le_of_ble_eq_true rfl, Nat.le_of_ble_eq_true rfl⟩) ⟨bP.blind, va_recv hG.1 hP (ci := 5) (q0 := 45) rfl (wl_at (by decide) htr), fun U hU hW => ⟨rfl, by rw [hU]; exact hP, kG.warm hW hG⟩⟩ rfl rfl hl.1 rfl (lv_room (Nat.le_of_ble_eq_true rfl)) dX10_trial_95 ⟨Nat.le_of_ble_eq_true rfl, Nat.le_of_ble_eq_true rfl⟩) (fun r hr9 => ?_)
                    subst hr9
                    refine lv_istore (lv' := [(11, .int (-4)), (10, .ref (g 45)), (0, .ref (g 0)), (1, .int a1), (2, .int a2), (3, .int a3), (4, .int a4), (5, .int a5), (6, .int a6), (7, .int a7), (8, .int a8), (9, .int a9)]) hx hb dX10_trial_98 hl (by decide) rfl (fun ls hl => ?_)
                    refine lv_iload hx hb dX10_trial_100 (lv_at hl 0 rfl) ?_
                    refine lv_bipush (v := (-4)) hx hb dX10_trial_102 (by decide) ?_
                    refine lv_icmp_ne (tgt := 110) hx hb dX10_trial_104 (by decide) (fun c_104 => absurd (by decide) c_104) (fun c_104 => ?_)
                    refine lv_bipush (v := (-4)) hx hb dX10_trial_107 (by decide) ?_
                    exact W.iret (v := (-4)) hx hb hr (fun t ht hW => ⟨⟨_, f, rfl, (⟨⟨se, hf, imf, kf, mc, op, cm, wu, mk, ab, be, mn, le, wt, ww, wb, wf, vv, pay, fine, np, dp, nf, df, nr, dr, na, da, nt, ct, lf, tf, hx0, hctc, hhs, him, hkp, hrd, hmk, hfc6, hwt, hw8, hw9, hw10, hw11, hvl, hbk, hpr, hpd, hfr, hfd, hor, hod, har, had, htr, hct, hla, hlaa, hts0, htsa, by omega, hhf, him0, him1, by omega, by omega, by omega, by omega, by omega, by omega, by omega, hlf, htf, hH, hS, hL, hT, hB1, hB2⟩, fun j hj => rfl⟩), by rw [ht]; exact hP⟩, hS.F ht⟩) hS.2.2 dX10_trial_109
                · refine lv_bipush (v := (-2)) hx hb dX10_trial_81 (by decide) ?_
                  exact W.iret (v := (-2)) hx hb hr (fun t ht hW => ⟨⟨_, f, rfl, (⟨⟨se, hf, imf, kf, mc, op, cm, wu, mk, ab, be, mn, le, wt, ww, wb, wf, vv, pay, fine, np, dp, nf, df, nr, dr, na, da, nt, ct, lf, tf, hx0, hctc, hhs, him, hkp, hrd, hmk, hfc6, hwt, hw8, hw9, hw10, hw11, hvl, hbk, hpr, hpd, hfr, hfd, hor, hod, har, had, htr, hct, hla, hlaa, hts0, htsa, by omega, hhf, him0, him1, by omega, by omega, by omega, by omega, by omega, by omega, by omega, hlf, htf, hH, hS, hL, hT, hB1, hB2⟩, fun j hj => rfl⟩), by rw [ht]; exact hP⟩, hS.F ht⟩) hS.2.2 dX10_trial_83
set_option maxHeartbeats 4000000 in
set_option maxRecDepth 100000 in
theorem m_away (l : Launch) (G : gW) (g : Nat → Nat) (hg : gOK g) (f : Nat → va_E) (a1 : Int32) (a2 : Int32) (a3 : Int32)  (hI : cI G g f) : Met l yX10_away (wsT yX10_away cX10_away 5 (some .int)) ({ frames := 2, cells := 0, slots := 0, locals := 35 }) (bP G g f [.ref (g 0), .int a1, .int a2, .int a3]) (bQi G g (fun (z9 : Int32) (f' : Nat → va_E) => (cI G g f') ∧ ∀ j, 315 ≤ j → f' j = f j)) 0 0 (gA g) := by
  refine Met.ofW (cc := cX10_away) (maxL := 5) (ret := (some .int)) (by decide) rfl ?_
  intro p e s m args below meth c s₁ B hml hv
  obtain ⟨rfl, hP, hG⟩ := hv
  have hx := B.exec
  have hb := B.bytes
  have hr := B.returns
  have hts := my_hts (atoms_spec (ws := wsT yX10_away cX10_away 5 (some .int)) B.pre)
  have hown : s.vm.findClass RX10 = some m.cls := findClass_of_methodNamed B.named
  have hlocks := B.notSynchronized
  have hS : va_S (gA g) s.heap s.heap [] := va_S.rf
  have hl := lv_entry ([.ref (g 0), .int a1, .int a2, .int a3]) (n := 5) (Nat.le_of_ble_eq_true rfl)
  rw [lg_entry_eq]
  generalize (lg_sl ([.ref (g 0), .int a1, .int a2, .int a3]) ++ List.replicate (5 - (lg_sl ([.ref (g 0), .int a1, .int a2, .int a3])).length) Slot.unset).toArray = ls at hl ⊢
  have hl : lv_has ls 5 [(0, .ref (g 0)), (1, .int a1), (2, .int a2), (3, .int a3)] := hl
  obtain ⟨se, hf, imf, kf, mc, op, cm, wu, mk, ab, be, mn, le, wt, ww, wb, wf, vv, pay, fine, np, dp, nf, df, nr, dr, na, da, nt, ct, lf, tf, hx0, hctc, hhs, him, hkp, hrd, hmk, hfc6, hwt, hw8, hw9, hw10, hw11, hvl, hbk, hpr, hpd, hfr, hfd, hor, hod, har, had, htr, hct, hla, hlaa, hts0, htsa, hse, hhf, him0, him1, hmc, hmn, hnp, hnf, hnr, hna, hnt, hlf, htf, hH, hS, hL, hT, hB1, hB2⟩ := hI
  refine lv_aload_n hx hb dX10_away_0 rfl (lv_at hl 0 rfl) ?_
  refine va_get (D := G.1) (ci := 9) (v := .ref (g 36)) (C := RX10) (T := TX10) (N := 7) hx hb hts inlX10 hown hG.1 hP 0 (wl_at (by decide) hx0) rfl 1 (by decide) (hts (.fieldLink RX10 20 "SwornLists" "book" "LSwornLists$Book;") w_16) (fun _ h9 => h9) rfl dX10_away_1 ?_
  refine va_getN (D := G.1) (ci := 0) (v := .ref (g 45)) (C := RX0) (T := TX0) (N := 9) (host := RX10) hx hb hts inlX0 hown hG.1 hP 36 (wl_at (by decide) hbk) rfl 4 (by decide) (va_Nw.use rfl (hG.2.1 (.fieldLinkNest RX10 162 RX0 "trials" "LSwornLists$Rows;" RX10) (List.mem_of_getElem? (i := 7) rfl))) (fun _ h9 => h9) rfl dX10_away_4 ?_
  refine lv_iload_n hx hb dX10_away_7 rfl (lv_at hl 1 rfl) ?_
  refine rd_calli (va_runV (As := [.int a1]) (rest := []) ⟨hx, hb, hml, hown, hts⟩ (r_has l G g hg f 45 10 70 nt a1 htr (by first | assumption | omega | decide) (by first | assumption | omega | decide) (by first | assumption | omega | decide) (by first | assumption | omega | decide)) (my_cwV hts ok_X5_has w_174 rfl rfl ⟨Nat.le_of_ble_eq_true rfl, Nat.le_of_ble_eq_true rfl⟩) ⟨bP.blind, va_recv hG.1 hP (ci := 5) (q0 := 45) rfl (wl_at (by decide) htr), fun U hU hW => ⟨rfl, by rw [hU]; exact hP, kG.warm hW hG⟩⟩ rfl rfl hl.1 rfl (lv_room (Nat.le_of_ble_eq_true rfl)) dX10_away_8 ⟨Nat.le_of_ble_eq_true rfl, Nat.le_of_ble_eq_true rfl⟩) (fun r hr9 => ?_)
  subst hr9
  refine my_ifeq (tgt := 28) hx hb dX10_away_11 (by decide) (fun c_11 => ?_) (fun c_11 => ?_)
  · refine lv_bipush (v := (-2)) hx hb dX10_away_28 (by decide) ?_
    exact W.iret (v := (-2)) hx hb hr (fun t ht hW => ⟨⟨_, f, rfl, (⟨⟨se, hf, imf, kf, mc, op, cm, wu, mk, ab, be, mn, le, wt, ww, wb, wf, vv, pay, fine, np, dp, nf, df, nr, dr, na, da, nt, ct, lf, tf, hx0, hctc, hhs, him, hkp, hrd, hmk, hfc6, hwt, hw8, hw9, hw10, hw11, hvl, hbk, hpr, hpd, hfr, hfd, hor, hod, har, had, htr, hct, hla, hlaa, hts0, htsa, by omega, hhf, him0, him1, by omega, by omega, by omega, by omega, by omega, by omega, by omega, hlf, htf, hH, hS, hL, hT, hB1, hB2⟩, fun j hj => rfl⟩), by rw [ht]; exact hP⟩, hS.F ht⟩) hS.2.2 dX10_away_30
  · refine lv_aload_n hx hb dX10_away_14 rfl (lv_at hl 0 rfl) ?_
    refine va_get (D := G.1) (ci := 9) (v := .ref (g 36)) (C := RX10) (T := TX10) (N := 7) hx hb hts inlX10 hown hG.1 hP 0 (wl_at (by decide) hx0) rfl 1 (by decide) (hts (.fieldLink RX10 20 "SwornLists" "book" "LSwornLists$Book;") w_16) (fun _ h9 => h9) rfl dX10_away_15 ?_
    refine va_getN (D := G.1) (ci := 0) (v := .ref (g 37)) (C := RX0) (T := TX0) (N := 9) (host := RX10) hx hb hts inlX0 hown hG.1 hP 36 (wl_at (by decide) hbk) rfl 0 (by decide) (va_Nw.use rfl (hG.2.1 (.fieldLinkNest RX10 57 RX0 "people" "LSwornLists$Rows;" RX10) (List.mem_of_getElem? (i := 0) rfl))) (fun _ h9 => h9) rfl dX10_away_18 ?_
    refine lv_iload_n hx hb dX10_away_21 rfl (lv_at hl 2 rfl) ?_
    refine rd_calli (va_runV (As := [.int a2]) (rest := []) ⟨hx, hb, hml, hown, hts⟩ (r_has l G g hg f 37 30 4 np a2 hpr (by first | assumption | omega | decide) (by first | assumption | omega | decide) (by first | assumption | omega | decide) (by first | assumption | omega | decide)) (my_cwV hts ok_X5_has w_174 rfl rfl ⟨Nat.le_of_ble_eq_true rfl, Nat.le_of_ble_eq_true rfl⟩) ⟨bP.blind, va_recv hG.1 hP (ci := 5) (q0 := 37) rfl (wl_at (by decide) hpr), fun U hU hW => ⟨rfl, by rw [hU]; exact hP, kG.warm hW hG⟩⟩ rfl rfl hl.1 rfl (lv_room (Nat.le_of_ble_eq_true rfl)) dX10_away_22 ⟨Nat.le_of_ble_eq_true rfl, Nat.le_of_ble_eq_true rfl⟩) (fun r hr9 => ?_)
    subst hr9
    refine my_ifne (tgt := 31) hx hb dX10_away_25 (by decide) (fun c_25 => ?_) (fun c_25 => ?_)
    · obtain ⟨tn, htn, rfl⟩ := inN_nat (by omega) c_11
      refine lv_aload_n hx hb dX10_away_31 rfl (lv_at hl 0 rfl) ?_
      refine va_get (D := G.1) (ci := 9) (v := .ref (g 36)) (C := RX10) (T := TX10) (N := 7) hx hb hts inlX10 hown hG.1 hP 0 (wl_at (by decide) hx0) rfl 1 (by decide) (hts (.fieldLink RX10 20 "SwornLists" "book" "LSwornLists$Book;") w_16) (fun _ h9 => h9) rfl dX10_away_32 ?_
      refine va_getN (D := G.1) (ci := 0) (v := .ref (g 45)) (C := RX0) (T := TX0) (N := 9) (host := RX10) hx hb hts inlX0 hown hG.1 hP 36 (wl_at (by decide) hbk) rfl 4 (by decide) (va_Nw.use rfl (hG.2.1 (.fieldLinkNest RX10 162 RX0 "trials" "LSwornLists$Rows;" RX10) (List.mem_of_getElem? (i := 7) rfl))) (fun _ h9 => h9) rfl dX10_away_35 ?_
      refine lv_iload_n hx hb dX10_away_38 rfl (lv_at hl 1 rfl) ?_
      refine lv_bipush (v := 9) hx hb dX10_away_39 (by decide) ?_
      refine rd_calli (va_runV (As := [.int (nI tn), .int 9]) (rest := []) ⟨hx, hb, hml, hown, hts⟩ (r_at l G g hg f 45 10 70 nt ct (nI tn) 9 htr hct (by first | assumption | omega | decide) (by first | assumption | omega | decide) (by first | assumption | omega | decide) (by first | assumption | omega | decide)) (my_cwV hts ok_X5_at w_610 rfl rfl ⟨Nat.le_of_ble_eq_true rfl, Nat.le_of_ble_eq_true rfl⟩) ⟨bP.blind, va_recv hG.1 hP (ci := 5) (q0 := 45) rfl (wl_at (by decide) htr), fun U hU hW => ⟨rfl, by rw [hU]; exact hP, kG.warm hW hG⟩⟩ rfl rfl hl.1 rfl (lv_room (Nat.le_of_ble_eq_true rfl)) dX10_away_41 ⟨Nat.le_of_ble_eq_true rfl, Nat.le_of_ble_eq_true rfl⟩) (fun r hr9 => ?_)
      subst hr9
      refine lv_istore (lv' := [(4, .int (atv ct nt 70 (nI tn) 9)), (0, .ref (g 0)), (1, .int (nI tn)), (2, .int a2), (3, .int a3)]) hx hb dX10_away_44 hl (by decide) rfl (fun ls hl => ?_)
      refine lv_iload hx hb dX10_away_46 (lv_at hl 0 rfl) ?_
      refine lv_iload_n hx hb dX10_away_48 rfl (lv_at hl 3 rfl) ?_
      refine rd_calli (va_runS (As := [.int (atv ct nt 70 (nI tn) 9), .int a2]) (rest := []) ⟨hx, hb, hml, hown, hts⟩ (s_hasBit l G g hg f (atv ct nt 70 (nI tn) 9) a2  ) (my_cwS hts ok_X10_hasBit w_655 rfl rfl ⟨Nat.le_of_ble_eq_true rfl, Nat.le_of_ble_eq_true rfl⟩) ⟨bP.blind, fun U hU hW => ⟨rfl, by rw [hU]; exact hP, kG.warm hW hG⟩⟩ rfl rfl hl.1 rfl (lv_room (Nat.le_of_ble_eq_true rfl)) dX10_away_49 ⟨Nat.le_of_ble_eq_true rfl, Nat.le_of_ble_eq_true rfl⟩) (fun r hr9 => ?_)
      subst hr9
      refine lv_iload_n hx hb dX10_away_52 rfl (lv_at hl 4 rfl) ?_
      refine lv_icmp_ne (tgt := 59) hx hb dX10_away_53 (by decide) (fun c_53 => ?_) (fun c_53 => ?_)
      · refine lv_aload_n hx hb dX10_away_59 rfl (lv_at hl 1 rfl) ?_
        refine va_get (D := G.1) (ci := 9) (v := .ref (g 36)) (C := RX10) (T := TX10) (N := 7) hx hb hts inlX10 hown hG.1 hP 0 (wl_at (by decide) hx0) rfl 1 (by decide) (hts (.fieldLink RX10 20 "SwornLists" "book" "LSwornLists$Book;") w_16) (fun _ h9 => h9) rfl dX10_away_60 ?_
        refine va_getN (D := G.1) (ci := 0) (v := .ref (g 45)) (C := RX0) (T := TX0) (N := 9) (host := RX10) hx hb hts inlX0 hown hG.1 hP 36 (wl_at (by decide) hbk) rfl 4 (by decide) (va_Nw.use rfl (hG.2.1 (.fieldLinkNest RX10 162 RX0 "trials" "LSwornLists$Rows;" RX10) (List.mem_of_getElem? (i := 7) rfl))) (fun _ h9 => h9) rfl dX10_away_63 ?_
        refine lv_iload_n hx hb dX10_away_66 rfl (lv_at hl 2 rfl) ?_
        refine lv_bipush (v := 9) hx hb dX10_away_67 (by decide) ?_
        refine lv_iload hx hb dX10_away_69 (lv_at hl 0 rfl) ?_
        refine lv_iconst (v := 1) hx hb dX10_away_71 (by decide) ?_
        refine lv_iload_n hx hb dX10_away_72 rfl (lv_at hl 3 rfl) ?_
        refine lv_ishl hx hb dX10_away_73 ?_
        refine lv_ixor hx hb dX10_away_74 ?_
        refine b_callv (va_runV (As := [.int (nI tn), .int 9, .int ((atv ct nt 70 (nI tn) 9) ^^^ (1 <<< (a2 &&& 31)))]) (rest := []) ⟨hx, hb, hml, hown, hts⟩ (r_set l G g hg f 45 10 70 nt ct (nI tn) 9 ((atv ct nt 70 (nI tn) 9) ^^^ (1 <<< (a2 &&& 31))) htr hct (by first | assumption | omega | decide) (by first | assumption | omega | decide) (by first | assumption | omega | decide) (by first | assumption | omega | decide) (by first | assumption | omega | decide) (by first | assumption | omega | decide)) (my_cwV hts ok_X5_set w_142 rfl rfl ⟨Nat.le_of_ble_eq_true rfl, Nat.le_of_ble_eq_true rfl⟩) ⟨bP.blind, va_recv hG.1 hP (ci := 5) (q0 := 45) rfl (wl_at (by decide) htr), fun U hU hW => ⟨rfl, by rw [hU]; exact hP, kG.warm hW hG⟩⟩ rfl rfl hl.1 rfl (lv_room (Nat.le_of_ble_eq_true rfl)) dX10_away_75 ⟨Nat.le_of_ble_eq_true rfl, Nat.le_of_ble_eq_true rfl⟩) hS (fun f_1 H locs hq9 hP hS => ?_)
        obtain ⟨hq_1_0, o_1⟩ := hq9
        have hx0 : f_1 0 = eO 9 [.ref (g 1), .ref (g 36), .ref (g 2), .ref (g 3), .ref (g 4), .ref (g 6), .ref (g 7)] := (o_1 0 (by omega)).trans hx0
        have hctc : f_1 1 = eO 1 [.ref (g 36), .ref (g 12), .ref (g 13), .ref (g 15), .int (nI se)] := (o_1 1 (by omega)).trans hctc
        have hhs : f_1 12 = eA G 4 10 hf := (o_1 12 (by omega)).trans hhs
        have him : f_1 2 = eA G 3 2 imf := (o_1 2 (by omega)).trans him
        have hkp : f_1 3 = eZ G 2 kf := (o_1 3 (by omega)).trans hkp
        have hrd : f_1 4 = eO 4 [.ref (g 5), .int (nI mc), .int op, .int cm, .int wu] := (o_1 4 (by omega)).trans hrd
        have hmk : f_1 5 = eI G 50 mk := (o_1 5 (by omega)).trans hmk
        have hfc6 : f_1 6 = eO 2 [.long ab, .long be] := (o_1 6 (by omega)).trans hfc6
        have hwt : f_1 7 = eO 8 [.ref (g 8), .ref (g 9), .ref (g 10), .ref (g 11), .int (nI mn), .int le] := (o_1 7 (by omega)).trans hwt
        have hw8 : f_1 8 = eI G 6 wt := (o_1 8 (by omega)).trans hw8
        have hw9 : f_1 9 = eI G 6 ww := (o_1 9 (by omega)).trans hw9
        have hw10 : f_1 10 = eI G 6 wb := (o_1 10 (by omega)).trans hw10
        have hw11 : f_1 11 = eI G 6 wf := (o_1 11 (by omega)).trans hw11
        have hvl : f_1 15 = eJ G 50 vv := (o_1 15 (by omega)).trans hvl
        have hbk : f_1 36 = eO 0 [.ref (g 37), .ref (g 39), .ref (g 41), .ref (g 43), .ref (g 45), .ref (g 47), .ref (g 112), .int pay, .int fine] := (o_1 36 (by omega)).trans hbk
        have hpr : f_1 37 = eO 5 [.int (nI 30), .int (nI 4), .ref (g 38), .int (nI np)] := (o_1 37 (by omega)).trans hpr
        have hpd : f_1 38 = eI G (30 * 4) dp := (o_1 38 (by omega)).trans hpd
        have hfr : f_1 39 = eO 5 [.int (nI 40), .int (nI 3), .ref (g 40), .int (nI nf)] := (o_1 39 (by omega)).trans hfr
        have hfd : f_1 40 = eI G (40 * 3) df := (o_1 40 (by omega)).trans hfd
        have hor : f_1 41 = eO 5 [.int (nI 4), .int (nI 3), .ref (g 42), .int (nI nr)] := (o_1 41 (by omega)).trans hor
        have hod : f_1 42 = eI G (4 * 3) dr := (o_1 42 (by omega)).trans hod
        have har : f_1 43 = eO 5 [.int (nI 20), .int (nI 3), .ref (g 44), .int (nI na)] := (o_1 43 (by omega)).trans har
        have had : f_1 44 = eI G (20 * 3) da := (o_1 44 (by omega)).trans had
        have htr : f_1 45 = eO 5 [.int (nI 10), .int (nI 70), .ref (g 46), .int (nI nt)] := (o_1 45 (by omega)).trans htr
        have hla : f_1 47 = eO 6 [.ref (g 48), .ref (g 49)] := (o_1 47 (by omega)).trans hla
        have hlaa : f_1 48 = eA G 5 20 lf := (o_1 48 (by omega)).trans hlaa
        have hts0 : f_1 112 = eO 6 [.ref (g 113), .ref (g 114)] := (o_1 112 (by omega)).trans hts0
        have htsa : f_1 113 = eA G 5 4 tf := (o_1 113 (by omega)).trans htsa
        have hct : f_1 46 = eI G (10 * 70) (upd ct (Int32.toNatClampNeg ((nI tn) * nI 70 + 9)) ((atv ct nt 70 (nI tn) 9) ^^^ (1 <<< (a2 &&& 31)))) := hq_1_0
        have hH : ∀ i, i < 10 → okH G g f_1 (2 * i + 16) := fun z hz => okH_fr (hH z hz) (o_1 _ (by omega)) (o_1 _ (by omega))
        have hS : okH G g f_1 13 := okH_fr hS (o_1 _ (by omega)) (o_1 _ (by omega))
        have hL : ∀ i, i < 20 → okT G g f_1 (3 * i + 52) := fun z hz => okT_fr (hL z hz) (o_1 _ (by omega)) (o_1 _ (by omega)) (o_1 _ (by omega))
        have hT : ∀ i, i < 4 → okT G g f_1 (3 * i + 117) := fun z hz => okT_fr (hT z hz) (o_1 _ (by omega)) (o_1 _ (by omega)) (o_1 _ (by omega))
        have hB1 : okB G g f_1 129 := okB_fr hB1 (fun j _ _ => o_1 j (by omega))
        have hB2 : okB G g f_1 222 := okB_fr hB2 (fun j _ _ => o_1 j (by omega))
        refine lv_aload_n hx hb dX10_away_78 rfl (lv_at hl 1 rfl) ?_
        refine va_get (D := G.1) (ci := 9) (v := .ref (g 1)) (C := RX10) (T := TX10) (N := 7) hx hb hts inlX10 hown hG.1 hP 0 (wl_at (by decide) hx0) rfl 0 (by decide) (hts (.fieldLink RX10 12 "SwornLists" "court" "LSwornLists$Court;") w_15) (fun _ h9 => h9) rfl dX10_away_79 ?_
        refine lv_iload_n hx hb dX10_away_82 rfl (lv_at hl 2 rfl) ?_
        refine b_callv (va_runV (As := [.int (nI tn)]) (rest := []) ⟨hx, hb, hml, hown, hts⟩ (u_unsettle l G g hg f_1 se tn hctc (by first | assumption | omega | decide) (by first | assumption | omega | decide)) (my_cwV hts ok_X1_unsettle w_146 rfl rfl ⟨Nat.le_of_ble_eq_true rfl, Nat.le_of_ble_eq_true rfl⟩) ⟨bP.blind, va_recv hG.1 hP (ci := 1) (q0 := 1) rfl (wl_at (by decide) hctc), fun U hU hW => ⟨rfl, by rw [hU]; exact hP, kG.warm hW hG⟩⟩ rfl rfl hl.1 rfl (lv_room (Nat.le_of_ble_eq_true rfl)) dX10_away_83 ⟨Nat.le_of_ble_eq_true rfl, Nat.le_of_ble_eq_true rfl⟩) hS (fun f_2 H locs hq9 hP hS => ?_)
        obtain ⟨hq_2_0, o_2⟩ := hq9
        have hx0 : f_2 0 = eO 9 [.ref (g 1), .ref (g 36), .ref (g 2), .ref (g 3), .ref (g 4), .ref (g 6), .ref (g 7)] := (o_2 0 (by omega)).trans hx0
        have hhs : f_2 12 = eA G 4 10 hf := (o_2 12 (by omega)).trans hhs
        have him : f_2 2 = eA G 3 2 imf := (o_2 2 (by omega)).trans him
        have hkp : f_2 3 = eZ G 2 kf := (o_2 3 (by omega)).trans hkp
        have hrd : f_2 4 = eO 4 [.ref (g 5), .int (nI mc), .int op, .int cm, .int wu] := (o_2 4 (by omega)).trans hrd
        have hmk : f_2 5 = eI G 50 mk := (o_2 5 (by omega)).trans hmk
        have hfc6 : f_2 6 = eO 2 [.long ab, .long be] := (o_2 6 (by omega)).trans hfc6
        have hwt : f_2 7 = eO 8 [.ref (g 8), .ref (g 9), .ref (g 10), .ref (g 11), .int (nI mn), .int le] := (o_2 7 (by omega)).trans hwt
        have hw8 : f_2 8 = eI G 6 wt := (o_2 8 (by omega)).trans hw8
        have hw9 : f_2 9 = eI G 6 ww := (o_2 9 (by omega)).trans hw9
        have hw10 : f_2 10 = eI G 6 wb := (o_2 10 (by omega)).trans hw10
        have hw11 : f_2 11 = eI G 6 wf := (o_2 11 (by omega)).trans hw11
        have hvl : f_2 15 = eJ G 50 vv := (o_2 15 (by omega)).trans hvl
        have hbk : f_2 36 = eO 0 [.ref (g 37), .ref (g 39), .ref (g 41), .ref (g 43), .ref (g 45), .ref (g 47), .ref (g 112), .int pay, .int fine] := (o_2 36 (by omega)).trans hbk
        have hpr : f_2 37 = eO 5 [.int (nI 30), .int (nI 4), .ref (g 38), .int (nI np)] := (o_2 37 (by omega)).trans hpr
        have hpd : f_2 38 = eI G (30 * 4) dp := (o_2 38 (by omega)).trans hpd
        have hfr : f_2 39 = eO 5 [.int (nI 40), .int (nI 3), .ref (g 40), .int (nI nf)] := (o_2 39 (by omega)).trans hfr
        have hfd : f_2 40 = eI G (40 * 3) df := (o_2 40 (by omega)).trans hfd
        have hor : f_2 41 = eO 5 [.int (nI 4), .int (nI 3), .ref (g 42), .int (nI nr)] := (o_2 41 (by omega)).trans hor
        have hod : f_2 42 = eI G (4 * 3) dr := (o_2 42 (by omega)).trans hod
        have har : f_2 43 = eO 5 [.int (nI 20), .int (nI 3), .ref (g 44), .int (nI na)] := (o_2 43 (by omega)).trans har
        have had : f_2 44 = eI G (20 * 3) da := (o_2 44 (by omega)).trans had
        have htr : f_2 45 = eO 5 [.int (nI 10), .int (nI 70), .ref (g 46), .int (nI nt)] := (o_2 45 (by omega)).trans htr
        have hct : f_2 46 = eI G (10 * 70) (upd ct (Int32.toNatClampNeg ((nI tn) * nI 70 + 9)) ((atv ct nt 70 (nI tn) 9) ^^^ (1 <<< (a2 &&& 31)))) := (o_2 46 (by omega)).trans hct
        have hla : f_2 47 = eO 6 [.ref (g 48), .ref (g 49)] := (o_2 47 (by omega)).trans hla
        have hlaa : f_2 48 = eA G 5 20 lf := (o_2 48 (by omega)).trans hlaa
        have hts0 : f_2 112 = eO 6 [.ref (g 113), .ref (g 114)] := (o_2 112 (by omega)).trans hts0
        have htsa : f_2 113 = eA G 5 4 tf := (o_2 113 (by omega)).trans htsa
        have hctc : f_2 1 = eO 1 [.ref (g 36), .ref (g 12), .ref (g 13), .ref (g 15), .int (nI (min se tn))] := hq_2_0
        have hH : ∀ i, i < 10 → okH G g f_2 (2 * i + 16) := fun z hz => okH_fr (hH z hz) (o_2 _ (by omega)) (o_2 _ (by omega))
        have hS : okH G g f_2 13 := okH_fr hS (o_2 _ (by omega)) (o_2 _ (by omega))
        have hL : ∀ i, i < 20 → okT G g f_2 (3 * i + 52) := fun z hz => okT_fr (hL z hz) (o_2 _ (by omega)) (o_2 _ (by omega)) (o_2 _ (by omega))
        have hT : ∀ i, i < 4 → okT G g f_2 (3 * i + 117) := fun z hz => okT_fr (hT z hz) (o_2 _ (by omega)) (o_2 _ (by omega)) (o_2 _ (by omega))
        have hB1 : okB G g f_2 129 := okB_fr hB1 (fun j _ _ => o_2 j (by omega))
        have hB2 : okB G g f_2 222 := okB_fr hB2 (fun j _ _ => o_2 j (by omega))
        refine lv_iconst (v := 1) hx hb dX10_away_86 (by decide) ?_
        exact W.iret (v := 1) hx hb hr (fun t ht hW => ⟨⟨_, f_2, rfl, (⟨⟨(min se tn), hf, imf, kf, mc, op, cm, wu, mk, ab, be, mn, le, wt, ww, wb, wf, vv, pay, fine, np, dp, nf, df, nr, dr, na, da, nt, (upd ct (Int32.toNatClampNeg ((nI tn) * nI 70 + 9)) ((atv ct nt 70 (nI tn) 9) ^^^ (1 <<< (a2 &&& 31)))), lf, tf, hx0, hctc, hhs, him, hkp, hrd, hmk, hfc6, hwt, hw8, hw9, hw10, hw11, hvl, hbk, hpr, hpd, hfr, hfd, hor, hod, har, had, htr, hct, hla, hlaa, hts0, htsa, by omega, hhf, him0, him1, by omega, by omega, by omega, by omega, by omega, by omega, by omega, hlf, htf, hH, hS, hL, hT, hB1, hB2⟩, fun j hj => ((o_2 j (by omega))).trans (o_1 j (by omega))⟩), by rw [ht]; exact hP⟩, hS.F ht⟩) hS.2.2 dX10_away_87
      · refine lv_bipush (v := (-3)) hx hb dX10_away_56 (by decide) ?_
        exact W.iret (v := (-3)) hx hb hr (fun t ht hW => ⟨⟨_, f, rfl, (⟨⟨se, hf, imf, kf, mc, op, cm, wu, mk, ab, be, mn, le, wt, ww, wb, wf, vv, pay, fine, np, dp, nf, df, nr, dr, na, da, nt, ct, lf, tf, hx0, hctc, hhs, him, hkp, hrd, hmk, hfc6, hwt, hw8, hw9, hw10, hw11, hvl, hbk, hpr, hpd, hfr, hfd, hor, hod, har, had, htr, hct, hla, hlaa, hts0, htsa, by omega, hhf, him0, him1, by omega, by omega, by omega, by omega, by omega, by omega, by omega, hlf, htf, hH, hS, hL, hT, hB1, hB2⟩, fun j hj => rfl⟩), by rw [ht]; exact hP⟩, hS.F ht⟩) hS.2.2 dX10_away_58
    · refine lv_bipush (v := (-2)) hx hb dX10_away_28 (by decide) ?_
      exact W.iret (v := (-2)) hx hb hr (fun t ht hW => ⟨⟨_, f, rfl, (⟨⟨se, hf, imf, kf, mc, op, cm, wu, mk, ab, be, mn, le, wt, ww, wb, wf, vv, pay, fine, np, dp, nf, df, nr, dr, na, da, nt, ct, lf, tf, hx0, hctc, hhs, him, hkp, hrd, hmk, hfc6, hwt, hw8, hw9, hw10, hw11, hvl, hbk, hpr, hpd, hfr, hfd, hor, hod, har, had, htr, hct, hla, hlaa, hts0, htsa, by omega, hhf, him0, him1, by omega, by omega, by omega, by omega, by omega, by omega, by omega, hlf, htf, hH, hS, hL, hT, hB1, hB2⟩, fun j hj => rfl⟩), by rw [ht]; exact hP⟩, hS.F ht⟩) hS.2.2 dX10_away_30
set_option maxHeartbeats 4000000 in
set_option maxRecDepth 100000 in
theorem m_like (l : Launch) (G : gW) (g : Nat → Nat) (hg : gOK g) (f : Nat → va_E) (a1 : Int32) (a2 : Int32) (a3 : Int32) (a4 : Int32)  (hI : cI G g f) : Met l yX10_like (wsT yX10_like cX10_like 7 (some .int)) ({ frames := 2, cells := 0, slots := 0, locals := 35 }) (bP G g f [.ref (g 0), .int a1, .int a2, .int a3, .int a4]) (bQi G g (fun (z9 : Int32) (f' : Nat → va_E) => (cI G g f') ∧ ∀ j, 315 ≤ j → f' j = f j)) 0 0 (gA g) := by
  refine Met.ofW (cc := cX10_like) (maxL := 7) (ret := (some .int)) (by decide) rfl ?_
  intro p e s m args below meth c s₁ B hml hv
  obtain ⟨rfl, hP, hG⟩ := hv
  have hx := B.exec
  have hb := B.bytes
  have hr := B.returns
  have hts := my_hts (atoms_spec (ws := wsT yX10_like cX10_like 7 (some .int)) B.pre)
  have hown : s.vm.findClass RX10 = some m.cls := findClass_of_methodNamed B.named
  have hlocks := B.notSynchronized
  have hS : va_S (gA g) s.heap s.heap [] := va_S.rf
  have hl := lv_entry ([.ref (g 0), .int a1, .int a2, .int a3, .int a4]) (n := 7) (Nat.le_of_ble_eq_true rfl)
  rw [lg_entry_eq]
  generalize (lg_sl ([.ref (g 0), .int a1, .int a2, .int a3, .int a4]) ++ List.replicate (7 - (lg_sl ([.ref (g 0), .int a1, .int a2, .int a3, .int a4])).length) Slot.unset).toArray = ls at hl ⊢
  have hl : lv_has ls 7 [(0, .ref (g 0)), (1, .int a1), (2, .int a2), (3, .int a3), (4, .int a4)] := hl
  obtain ⟨se, hf, imf, kf, mc, op, cm, wu, mk, ab, be, mn, le, wt, ww, wb, wf, vv, pay, fine, np, dp, nf, df, nr, dr, na, da, nt, ct, lf, tf, hx0, hctc, hhs, him, hkp, hrd, hmk, hfc6, hwt, hw8, hw9, hw10, hw11, hvl, hbk, hpr, hpd, hfr, hfd, hor, hod, har, had, htr, hct, hla, hlaa, hts0, htsa, hse, hhf, him0, him1, hmc, hmn, hnp, hnf, hnr, hna, hnt, hlf, htf, hH, hS, hL, hT, hB1, hB2⟩ := hI
  refine lv_aload_n hx hb dX10_like_0 rfl (lv_at hl 0 rfl) ?_
  refine va_get (D := G.1) (ci := 9) (v := .ref (g 36)) (C := RX10) (T := TX10) (N := 7) hx hb hts inlX10 hown hG.1 hP 0 (wl_at (by decide) hx0) rfl 1 (by decide) (hts (.fieldLink RX10 20 "SwornLists" "book" "LSwornLists$Book;") w_16) (fun _ h9 => h9) rfl dX10_like_1 ?_
  refine va_getN (D := G.1) (ci := 0) (v := .ref (g 45)) (C := RX0) (T := TX0) (N := 9) (host := RX10) hx hb hts inlX0 hown hG.1 hP 36 (wl_at (by decide) hbk) rfl 4 (by decide) (va_Nw.use rfl (hG.2.1 (.fieldLinkNest RX10 162 RX0 "trials" "LSwornLists$Rows;" RX10) (List.mem_of_getElem? (i := 7) rfl))) (fun _ h9 => h9) rfl dX10_like_4 ?_
  refine lv_iload_n hx hb dX10_like_7 rfl (lv_at hl 1 rfl) ?_
  refine rd_calli (va_runV (As := [.int a1]) (rest := []) ⟨hx, hb, hml, hown, hts⟩ (r_has l G g hg f 45 10 70 nt a1 htr (by first | assumption | omega | decide) (by first | assumption | omega | decide) (by first | assumption | omega | decide) (by first | assumption | omega | decide)) (my_cwV hts ok_X5_has w_174 rfl rfl ⟨Nat.le_of_ble_eq_true rfl, Nat.le_of_ble_eq_true rfl⟩) ⟨bP.blind, va_recv hG.1 hP (ci := 5) (q0 := 45) rfl (wl_at (by decide) htr), fun U hU hW => ⟨rfl, by rw [hU]; exact hP, kG.warm hW hG⟩⟩ rfl rfl hl.1 rfl (lv_room (Nat.le_of_ble_eq_true rfl)) dX10_like_8 ⟨Nat.le_of_ble_eq_true rfl, Nat.le_of_ble_eq_true rfl⟩) (fun r hr9 => ?_)
  subst hr9
  refine my_ifeq (tgt := 49) hx hb dX10_like_11 (by decide) (fun c_11 => ?_) (fun c_11 => ?_)
  · refine lv_sipush (v := (-1000)) hx hb dX10_like_49 (by decide) ?_
    exact W.iret (v := (-1000)) hx hb hr (fun t ht hW => ⟨⟨_, f, rfl, (⟨⟨se, hf, imf, kf, mc, op, cm, wu, mk, ab, be, mn, le, wt, ww, wb, wf, vv, pay, fine, np, dp, nf, df, nr, dr, na, da, nt, ct, lf, tf, hx0, hctc, hhs, him, hkp, hrd, hmk, hfc6, hwt, hw8, hw9, hw10, hw11, hvl, hbk, hpr, hpd, hfr, hfd, hor, hod, har, had, htr, hct, hla, hlaa, hts0, htsa, by omega, hhf, him0, him1, by omega, by omega, by omega, by omega, by omega, by omega, by omega, hlf, htf, hH, hS, hL, hT, hB1, hB2⟩, fun j hj => rfl⟩), by rw [ht]; exact hP⟩, hS.F ht⟩) hS.2.2 dX10_like_52
  · refine lv_iload_n hx hb dX10_like_14 rfl (lv_at hl 2 rfl) ?_
    refine lv_iconst (v := 0) hx hb dX10_like_15 (by decide) ?_
    refine lv_iconst (v := 1) hx hb dX10_like_16 (by decide) ?_
    refine rd_calli (va_runS (As := [.int a2, .int 0, .int 1]) (rest := []) ⟨hx, hb, hml, hown, hts⟩ (s_within l G g hg f a2 0 1  ) (my_cwS hts ok_X10_within w_134 rfl rfl ⟨Nat.le_of_ble_eq_true rfl, Nat.le_of_ble_eq_true rfl⟩) ⟨bP.blind, fun U hU hW => ⟨rfl, by rw [hU]; exact hP, kG.warm hW hG⟩⟩ rfl rfl hl.1 rfl (lv_room (Nat.le_of_ble_eq_true rfl)) dX10_like_17 ⟨Nat.le_of_ble_eq_true rfl, Nat.le_of_ble_eq_true rfl⟩) (fun r hr9 => ?_)
    subst hr9
    refine my_ifeq (tgt := 49) hx hb dX10_like_20 (by decide) (fun c_20 => ?_) (fun c_20 => ?_)
    · refine lv_sipush (v := (-1000)) hx hb dX10_like_49 (by decide) ?_
      exact W.iret (v := (-1000)) hx hb hr (fun t ht hW => ⟨⟨_, f, rfl, (⟨⟨se, hf, imf, kf, mc, op, cm, wu, mk, ab, be, mn, le, wt, ww, wb, wf, vv, pay, fine, np, dp, nf, df, nr, dr, na, da, nt, ct, lf, tf, hx0, hctc, hhs, him, hkp, hrd, hmk, hfc6, hwt, hw8, hw9, hw10, hw11, hvl, hbk, hpr, hpd, hfr, hfd, hor, hod, har, had, htr, hct, hla, hlaa, hts0, htsa, by omega, hhf, him0, him1, by omega, by omega, by omega, by omega, by omega, by omega, by omega, hlf, htf, hH, hS, hL, hT, hB1, hB2⟩, fun j hj => rfl⟩), by rw [ht]; exact hP⟩, hS.F ht⟩) hS.2.2 dX10_like_52
    · refine lv_aload_n hx hb dX10_like_23 rfl (lv_at hl 0 rfl) ?_
      refine va_get (D := G.1) (ci := 9) (v := .ref (g 36)) (C := RX10) (T := TX10) (N := 7) hx hb hts inlX10 hown hG.1 hP 0 (wl_at (by decide) hx0) rfl 1 (by decide) (hts (.fieldLink RX10 20 "SwornLists" "book" "LSwornLists$Book;") w_16) (fun _ h9 => h9) rfl dX10_like_24 ?_
      refine va_getN (D := G.1) (ci := 0) (v := .ref (g 37)) (C := RX0) (T := TX0) (N := 9) (host := RX10) hx hb hts inlX0 hown hG.1 hP 36 (wl_at (by decide) hbk) rfl 0 (by decide) (va_Nw.use rfl (hG.2.1 (.fieldLinkNest RX10 57 RX0 "people" "LSwornLists$Rows;" RX10) (List.mem_of_getElem? (i := 0) rfl))) (fun _ h9 => h9) rfl dX10_like_27 ?_
      refine lv_iload_n hx hb dX10_like_30 rfl (lv_at hl 3 rfl) ?_
      refine rd_calli (va_runV (As := [.int a3]) (rest := []) ⟨hx, hb, hml, hown, hts⟩ (r_has l G g hg f 37 30 4 np a3 hpr (by first | assumption | omega | decide) (by first | assumption | omega | decide) (by first | assumption | omega | decide) (by first | assumption | omega | decide)) (my_cwV hts ok_X5_has w_174 rfl rfl ⟨Nat.le_of_ble_eq_true rfl, Nat.le_of_ble_eq_true rfl⟩) ⟨bP.blind, va_recv hG.1 hP (ci := 5) (q0 := 37) rfl (wl_at (by decide) hpr), fun U hU hW => ⟨rfl, by rw [hU]; exact hP, kG.warm hW hG⟩⟩ rfl rfl hl.1 rfl (lv_room (Nat.le_of_ble_eq_true rfl)) dX10_like_31 ⟨Nat.le_of_ble_eq_true rfl, Nat.le_of_ble_eq_true rfl⟩) (fun r hr9 => ?_)
      subst hr9
      refine my_ifeq (tgt := 49) hx hb dX10_like_34 (by decide) (fun c_34 => ?_) (fun c_34 => ?_)
      · refine lv_sipush (v := (-1000)) hx hb dX10_like_49 (by decide) ?_
        exact W.iret (v := (-1000)) hx hb hr (fun t ht hW => ⟨⟨_, f, rfl, (⟨⟨se, hf, imf, kf, mc, op, cm, wu, mk, ab, be, mn, le, wt, ww, wb, wf, vv, pay, fine, np, dp, nf, df, nr, dr, na, da, nt, ct, lf, tf, hx0, hctc, hhs, him, hkp, hrd, hmk, hfc6, hwt, hw8, hw9, hw10, hw11, hvl, hbk, hpr, hpd, hfr, hfd, hor, hod, har, had, htr, hct, hla, hlaa, hts0, htsa, by omega, hhf, him0, him1, by omega, by omega, by omega, by omega, by omega, by omega, by omega, hlf, htf, hH, hS, hL, hT, hB1, hB2⟩, fun j hj => rfl⟩), by rw [ht]; exact hP⟩, hS.F ht⟩) hS.2.2 dX10_like_52
      · refine lv_iload hx hb dX10_like_37 (lv_at hl 4 rfl) ?_
        refine lv_bipush (v := (-100)) hx hb dX10_like_39 (by decide) ?_
        refine lv_bipush (v := 100) hx hb dX10_like_41 (by decide) ?_
        refine rd_calli (va_runS (As := [.int a4, .int (-100), .int 100]) (rest := []) ⟨hx, hb, hml, hown, hts⟩ (s_within l G g hg f a4 (-100) 100  ) (my_cwS hts ok_X10_within w_134 rfl rfl ⟨Nat.le_of_ble_eq_true rfl, Nat.le_of_ble_eq_true rfl⟩) ⟨bP.blind, fun U hU hW => ⟨rfl, by rw [hU]; exact hP, kG.warm hW hG⟩⟩ rfl rfl hl.1 rfl (lv_room (Nat.le_of_ble_eq_true rfl)) dX10_like_43 ⟨Nat.le_of_ble_eq_true rfl, Nat.le_of_ble_eq_true rfl⟩) (fun r hr9 => ?_)
        subst hr9
        refine my_ifne (tgt := 53) hx hb dX10_like_46 (by decide) (fun c_46 => ?_) (fun c_46 => ?_)
        · obtain ⟨tn, htn, rfl⟩ := inN_nat (by omega) c_11
          refine lv_iload_n hx hb dX10_like_53 rfl (lv_at hl 2 rfl) ?_
          refine lv_iload_n hx hb dX10_like_54 rfl (lv_at hl 3 rfl) ?_
          refine rd_calli (va_runS (As := [.int a2, .int a3]) (rest := []) ⟨hx, hb, hml, hown, hts⟩ (s_likesColumn l G g hg f a2 a3  ) (my_cwS hts ok_X10_likesColumn w_664 rfl rfl ⟨Nat.le_of_ble_eq_true rfl, Nat.le_of_ble_eq_true rfl⟩) ⟨bP.blind, fun U hU hW => ⟨rfl, by rw [hU]; exact hP, kG.warm hW hG⟩⟩ rfl rfl hl.1 rfl (lv_room (Nat.le_of_ble_eq_true rfl)) dX10_like_55 ⟨Nat.le_of_ble_eq_true rfl, Nat.le_of_ble_eq_true rfl⟩) (fun r hr9 => ?_)
          subst hr9
          refine lv_istore (lv' := [(5, .int (10 + a2 * 30 + a3)), (0, .ref (g 0)), (1, .int (nI tn)), (2, .int a2), (3, .int a3), (4, .int a4)]) hx hb dX10_like_58 hl (by decide) rfl (fun ls hl => ?_)
          refine lv_aload_n hx hb dX10_like_60 rfl (lv_at hl 1 rfl) ?_
          refine va_get (D := G.1) (ci := 9) (v := .ref (g 36)) (C := RX10) (T := TX10) (N := 7) hx hb hts inlX10 hown hG.1 hP 0 (wl_at (by decide) hx0) rfl 1 (by decide) (hts (.fieldLink RX10 20 "SwornLists" "book" "LSwornLists$Book;") w_16) (fun _ h9 => h9) rfl dX10_like_61 ?_
          refine va_getN (D := G.1) (ci := 0) (v := .ref (g 45)) (C := RX0) (T := TX0) (N := 9) (host := RX10) hx hb hts inlX0 hown hG.1 hP 36 (wl_at (by decide) hbk) rfl 4 (by decide) (va_Nw.use rfl (hG.2.1 (.fieldLinkNest RX10 162 RX0 "trials" "LSwornLists$Rows;" RX10) (List.mem_of_getElem? (i := 7) rfl))) (fun _ h9 => h9) rfl dX10_like_64 ?_
          refine lv_iload_n hx hb dX10_like_67 rfl (lv_at hl 2 rfl) ?_
          refine lv_iload hx hb dX10_like_68 (lv_at hl 0 rfl) ?_
          refine rd_calli (va_runV (As := [.int (nI tn), .int (10 + a2 * 30 + a3)]) (rest := []) ⟨hx, hb, hml, hown, hts⟩ (r_at l G g hg f 45 10 70 nt ct (nI tn) (10 + a2 * 30 + a3) htr hct (by first | assumption | omega | decide) (by first | assumption | omega | decide) (by first | assumption | omega | decide) (by first | assumption | omega | decide)) (my_cwV hts ok_X5_at w_610 rfl rfl ⟨Nat.le_of_ble_eq_true rfl, Nat.le_of_ble_eq_true rfl⟩) ⟨bP.blind, va_recv hG.1 hP (ci := 5) (q0 := 45) rfl (wl_at (by decide) htr), fun U hU hW => ⟨rfl, by rw [hU]; exact hP, kG.warm hW hG⟩⟩ rfl rfl hl.1 rfl (lv_room (Nat.le_of_ble_eq_true rfl)) dX10_like_70 ⟨Nat.le_of_ble_eq_true rfl, Nat.le_of_ble_eq_true rfl⟩) (fun r hr9 => ?_)
          subst hr9
          refine lv_istore (lv' := [(6, .int (atv ct nt 70 (nI tn) (10 + a2 * 30 + a3))), (5, .int (10 + a2 * 30 + a3)), (0, .ref (g 0)), (1, .int (nI tn)), (2, .int a2), (3, .int a3), (4, .int a4)]) hx hb dX10_like_73 hl (by decide) rfl (fun ls hl => ?_)
          refine lv_aload_n hx hb dX10_like_75 rfl (lv_at hl 2 rfl) ?_
          refine va_get (D := G.1) (ci := 9) (v := .ref (g 36)) (C := RX10) (T := TX10) (N := 7) hx hb hts inlX10 hown hG.1 hP 0 (wl_at (by decide) hx0) rfl 1 (by decide) (hts (.fieldLink RX10 20 "SwornLists" "book" "LSwornLists$Book;") w_16) (fun _ h9 => h9) rfl dX10_like_76 ?_
          refine va_getN (D := G.1) (ci := 0) (v := .ref (g 45)) (C := RX0) (T := TX0) (N := 9) (host := RX10) hx hb hts inlX0 hown hG.1 hP 36 (wl_at (by decide) hbk) rfl 4 (by decide) (va_Nw.use rfl (hG.2.1 (.fieldLinkNest RX10 162 RX0 "trials" "LSwornLists$Rows;" RX10) (List.mem_of_getElem? (i := 7) rfl))) (fun _ h9 => h9) rfl dX10_like_79 ?_
          refine lv_iload_n hx hb dX10_like_82 rfl (lv_at hl 3 rfl) ?_
          refine lv_iload hx hb dX10_like_83 (lv_at hl 1 rfl) ?_
          refine lv_iload hx hb dX10_like_85 (lv_at hl 6 rfl) ?_
          refine b_callv (va_runV (As := [.int (nI tn), .int (10 + a2 * 30 + a3), .int a4]) (rest := []) ⟨hx, hb, hml, hown, hts⟩ (r_set l G g hg f 45 10 70 nt ct (nI tn) (10 + a2 * 30 + a3) a4 htr hct (by first | assumption | omega | decide) (by first | assumption | omega | decide) (by first | assumption | omega | decide) (by first | assumption | omega | decide) (by first | assumption | omega | decide) (col_in c_20 c_34 hnp)) (my_cwV hts ok_X5_set w_142 rfl rfl ⟨Nat.le_of_ble_eq_true rfl, Nat.le_of_ble_eq_true rfl⟩) ⟨bP.blind, va_recv hG.1 hP (ci := 5) (q0 := 45) rfl (wl_at (by decide) htr), fun U hU hW => ⟨rfl, by rw [hU]; exact hP, kG.warm hW hG⟩⟩ rfl rfl hl.1 rfl (lv_room (Nat.le_of_ble_eq_true rfl)) dX10_like_87 ⟨Nat.le_of_ble_eq_true rfl, Nat.le_of_ble_eq_true rfl⟩) hS (fun f_1 H locs hq9 hP hS => ?_)
          obtain ⟨hq_1_0, o_1⟩ := hq9
          have hx0 : f_1 0 = eO 9 [.ref (g 1), .ref (g 36), .ref (g 2), .ref (g 3), .ref (g 4), .ref (g 6), .ref (g 7)] := (o_1 0 (by omega)).trans hx0
          have hctc : f_1 1 = eO 1 [.ref (g 36), .ref (g 12), .ref (g 13), .ref (g 15), .int (nI se)] := (o_1 1 (by omega)).trans hctc
          have hhs : f_1 12 = eA G 4 10 hf := (o_1 12 (by omega)).trans hhs
          have him : f_1 2 = eA G 3 2 imf := (o_1 2 (by omega)).trans him
          have hkp : f_1 3 = eZ G 2 kf := (o_1 3 (by omega)).trans hkp
          have hrd : f_1 4 = eO 4 [.ref (g 5), .int (nI mc), .int op, .int cm, .int wu] := (o_1 4 (by omega)).trans hrd
          have hmk : f_1 5 = eI G 50 mk := (o_1 5 (by omega)).trans hmk
          have hfc6 : f_1 6 = eO 2 [.long ab, .long be] := (o_1 6 (by omega)).trans hfc6
          have hwt : f_1 7 = eO 8 [.ref (g 8), .ref (g 9), .ref (g 10), .ref (g 11), .int (nI mn), .int le] := (o_1 7 (by omega)).trans hwt
          have hw8 : f_1 8 = eI G 6 wt := (o_1 8 (by omega)).trans hw8
          have hw9 : f_1 9 = eI G 6 ww := (o_1 9 (by omega)).trans hw9
          have hw10 : f_1 10 = eI G 6 wb := (o_1 10 (by omega)).trans hw10
          have hw11 : f_1 11 = eI G 6 wf := (o_1 11 (by omega)).trans hw11
          have hvl : f_1 15 = eJ G 50 vv := (o_1 15 (by omega)).trans hvl
          have hbk : f_1 36 = eO 0 [.ref (g 37), .ref (g 39), .ref (g 41), .ref (g 43), .ref (g 45), .ref (g 47), .ref (g 112), .int pay, .int fine] := (o_1 36 (by omega)).trans hbk
          have hpr : f_1 37 = eO 5 [.int (nI 30), .int (nI 4), .ref (g 38), .int (nI np)] := (o_1 37 (by omega)).trans hpr
          have hpd : f_1 38 = eI G (30 * 4) dp := (o_1 38 (by omega)).trans hpd
          have hfr : f_1 39 = eO 5 [.int (nI 40), .int (nI 3), .ref (g 40), .int (nI nf)] := (o_1 39 (by omega)).trans hfr
          have hfd : f_1 40 = eI G (40 * 3) df := (o_1 40 (by omega)).trans hfd
          have hor : f_1 41 = eO 5 [.int (nI 4), .int (nI 3), .ref (g 42), .int (nI nr)] := (o_1 41 (by omega)).trans hor
          have hod : f_1 42 = eI G (4 * 3) dr := (o_1 42 (by omega)).trans hod
          have har : f_1 43 = eO 5 [.int (nI 20), .int (nI 3), .ref (g 44), .int (nI na)] := (o_1 43 (by omega)).trans har
          have had : f_1 44 = eI G (20 * 3) da := (o_1 44 (by omega)).trans had
          have htr : f_1 45 = eO 5 [.int (nI 10), .int (nI 70), .ref (g 46), .int (nI nt)] := (o_1 45 (by omega)).trans htr
          have hla : f_1 47 = eO 6 [.ref (g 48), .ref (g 49)] := (o_1 47 (by omega)).trans hla
          have hlaa : f_1 48 = eA G 5 20 lf := (o_1 48 (by omega)).trans hlaa
          have hts0 : f_1 112 = eO 6 [.ref (g 113), .ref (g 114)] := (o_1 112 (by omega)).trans hts0
          have htsa : f_1 113 = eA G 5 4 tf := (o_1 113 (by omega)).trans htsa
          have hct : f_1 46 = eI G (10 * 70) (upd ct (Int32.toNatClampNeg ((nI tn) * nI 70 + (10 + a2 * 30 + a3))) a4) := hq_1_0
          have hH : ∀ i, i < 10 → okH G g f_1 (2 * i + 16) := fun z hz => okH_fr (hH z hz) (o_1 _ (by omega)) (o_1 _ (by omega))
          have hS : okH G g f_1 13 := okH_fr hS (o_1 _ (by omega)) (o_1 _ (by omega))
          have hL : ∀ i, i < 20 → okT G g f_1 (3 * i + 52) := fun z hz => okT_fr (hL z hz) (o_1 _ (by omega)) (o_1 _ (by omega)) (o_1 _ (by omega))
          have hT : ∀ i, i < 4 → okT G g f_1 (3 * i + 117) := fun z hz => okT_fr (hT z hz) (o_1 _ (by omega)) (o_1 _ (by omega)) (o_1 _ (by omega))
          have hB1 : okB G g f_1 129 := okB_fr hB1 (fun j _ _ => o_1 j (by omega))
          have hB2 : okB G g f_1 222 := okB_fr hB2 (fun j _ _ => o_1 j (by omega))
          refine lv_aload_n hx hb dX10_like_90 rfl (lv_at hl 2 rfl) ?_
          refine va_get (D := G.1) (ci := 9) (v := .ref (g 1)) (C := RX10) (T := TX10) (N := 7) hx hb hts inlX10 hown hG.1 hP 0 (wl_at (by decide) hx0) rfl 0 (by decide) (hts (.fieldLink RX10 12 "SwornLists" "court" "LSwornLists$Court;") w_15) (fun _ h9 => h9) rfl dX10_like_91 ?_
          refine lv_iload_n hx hb dX10_like_94 rfl (lv_at hl 3 rfl) ?_
          refine b_callv (va_runV (As := [.int (nI tn)]) (rest := []) ⟨hx, hb, hml, hown, hts⟩ (u_unsettle l G g hg f_1 se tn hctc (by first | assumption | omega | decide) (by first | assumption | omega | decide)) (my_cwV hts ok_X1_unsettle w_146 rfl rfl ⟨Nat.le_of_ble_eq_true rfl, Nat.le_of_ble_eq_true rfl⟩) ⟨bP.blind, va_recv hG.1 hP (ci := 1) (q0 := 1) rfl (wl_at (by decide) hctc), fun U hU hW => ⟨rfl, by rw [hU]; exact hP, kG.warm hW hG⟩⟩ rfl rfl hl.1 rfl (lv_room (Nat.le_of_ble_eq_true rfl)) dX10_like_95 ⟨Nat.le_of_ble_eq_true rfl, Nat.le_of_ble_eq_true rfl⟩) hS (fun f_2 H locs hq9 hP hS => ?_)
          obtain ⟨hq_2_0, o_2⟩ := hq9
          have hx0 : f_2 0 = eO 9 [.ref (g 1), .ref (g 36), .ref (g 2), .ref (g 3), .ref (g 4), .ref (g 6), .ref (g 7)] := (o_2 0 (by omega)).trans hx0
          have hhs : f_2 12 = eA G 4 10 hf := (o_2 12 (by omega)).trans hhs
          have him : f_2 2 = eA G 3 2 imf := (o_2 2 (by omega)).trans him
          have hkp : f_2 3 = eZ G 2 kf := (o_2 3 (by omega)).trans hkp
          have hrd : f_2 4 = eO 4 [.ref (g 5), .int (nI mc), .int op, .int cm, .int wu] := (o_2 4 (by omega)).trans hrd
          have hmk : f_2 5 = eI G 50 mk := (o_2 5 (by omega)).trans hmk
          have hfc6 : f_2 6 = eO 2 [.long ab, .long be] := (o_2 6 (by omega)).trans hfc6
          have hwt : f_2 7 = eO 8 [.ref (g 8), .ref (g 9), .ref (g 10), .ref (g 11), .int (nI mn), .int le] := (o_2 7 (by omega)).trans hwt
          have hw8 : f_2 8 = eI G 6 wt := (o_2 8 (by omega)).trans hw8
          have hw9 : f_2 9 = eI G 6 ww := (o_2 9 (by omega)).trans hw9
          have hw10 : f_2 10 = eI G 6 wb := (o_2 10 (by omega)).trans hw10
          have hw11 : f_2 11 = eI G 6 wf := (o_2 11 (by omega)).trans hw11
          have hvl : f_2 15 = eJ G 50 vv := (o_2 15 (by omega)).trans hvl
          have hbk : f_2 36 = eO 0 [.ref (g 37), .ref (g 39), .ref (g 41), .ref (g 43), .ref (g 45), .ref (g 47), .ref (g 112), .int pay, .int fine] := (o_2 36 (by omega)).trans hbk
          have hpr : f_2 37 = eO 5 [.int (nI 30), .int (nI 4), .ref (g 38), .int (nI np)] := (o_2 37 (by omega)).trans hpr
          have hpd : f_2 38 = eI G (30 * 4) dp := (o_2 38 (by omega)).trans hpd
          have hfr : f_2 39 = eO 5 [.int (nI 40), .int (nI 3), .ref (g 40), .int (nI nf)] := (o_2 39 (by omega)).trans hfr
          have hfd : f_2 40 = eI G (40 * 3) df := (o_2 40 (by omega)).trans hfd
          have hor : f_2 41 = eO 5 [.int (nI 4), .int (nI 3), .ref (g 42), .int (nI nr)] := (o_2 41 (by omega)).trans hor
          have hod : f_2 42 = eI G (4 * 3) dr := (o_2 42 (by omega)).trans hod
          have har : f_2 43 = eO 5 [.int (nI 20), .int (nI 3), .ref (g 44), .int (nI na)] := (o_2 43 (by omega)).trans har
          have had : f_2 44 = eI G (20 * 3) da := (o_2 44 (by omega)).trans had
          have htr : f_2 45 = eO 5 [.int (nI 10), .int (nI 70), .ref (g 46), .int (nI nt)] := (o_2 45 (by omega)).trans htr
          have hct : f_2 46 = eI G (10 * 70) (upd ct (Int32.toNatClampNeg ((nI tn) * nI 70 + (10 + a2 * 30 + a3))) a4) := (o_2 46 (by omega)).trans hct
          have hla : f_2 47 = eO 6 [.ref (g 48), .ref (g 49)] := (o_2 47 (by omega)).trans hla
          have hlaa : f_2 48 = eA G 5 20 lf := (o_2 48 (by omega)).trans hlaa
          have hts0 : f_2 112 = eO 6 [.ref (g 113), .ref (g 114)] := (o_2 112 (by omega)).trans hts0
          have htsa : f_2 113 = eA G 5 4 tf := (o_2 113 (by omega)).trans htsa
          have hctc : f_2 1 = eO 1 [.ref (g 36), .ref (g 12), .ref (g 13), .ref (g 15), .int (nI (min se tn))] := hq_2_0
          have hH : ∀ i, i < 10 → okH G g f_2 (2 * i + 16) := fun z hz => okH_fr (hH z hz) (o_2 _ (by omega)) (o_2 _ (by omega))
          have hS : okH G g f_2 13 := okH_fr hS (o_2 _ (by omega)) (o_2 _ (by omega))
          have hL : ∀ i, i < 20 → okT G g f_2 (3 * i + 52) := fun z hz => okT_fr (hL z hz) (o_2 _ (by omega)) (o_2 _ (by omega)) (o_2 _ (by omega))
          have hT : ∀ i, i < 4 → okT G g f_2 (3 * i + 117) := fun z hz => okT_fr (hT z hz) (o_2 _ (by omega)) (o_2 _ (by omega)) (o_2 _ (by omega))
          have hB1 : okB G g f_2 129 := okB_fr hB1 (fun j _ _ => o_2 j (by omega))
          have hB2 : okB G g f_2 222 := okB_fr hB2 (fun j _ _ => o_2 j (by omega))
          refine lv_iload hx hb dX10_like_98 (lv_at hl 0 rfl) ?_
          exact W.iret (v := atv ct nt 70 (nI tn) (10 + a2 * 30 + a3)) hx hb hr (fun t ht hW => ⟨⟨_, f_2, rfl, (⟨⟨(min se tn), hf, imf, kf, mc, op, cm, wu, mk, ab, be, mn, le, wt, ww, wb, wf, vv, pay, fine, np, dp, nf, df, nr, dr, na, da, nt, (upd ct (Int32.toNatClampNeg ((nI tn) * nI 70 + (10 + a2 * 30 + a3))) a4), lf, tf, hx0, hctc, hhs, him, hkp, hrd, hmk, hfc6, hwt, hw8, hw9, hw10, hw11, hvl, hbk, hpr, hpd, hfr, hfd, hor, hod, har, had, htr, hct, hla, hlaa, hts0, htsa, by omega, hhf, him0, him1, by omega, by omega, by omega, by omega, by omega, by omega, by omega, hlf, htf, hH, hS, hL, hT, hB1, hB2⟩, fun j hj => ((o_2 j (by omega))).trans (o_1 j (by omega))⟩), by rw [ht]; exact hP⟩, hS.F ht⟩) hS.2.2 dX10_like_100
        · refine lv_sipush (v := (-1000)) hx hb dX10_like_49 (by decide) ?_
          exact W.iret (v := (-1000)) hx hb hr (fun t ht hW => ⟨⟨_, f, rfl, (⟨⟨se, hf, imf, kf, mc, op, cm, wu, mk, ab, be, mn, le, wt, ww, wb, wf, vv, pay, fine, np, dp, nf, df, nr, dr, na, da, nt, ct, lf, tf, hx0, hctc, hhs, him, hkp, hrd, hmk, hfc6, hwt, hw8, hw9, hw10, hw11, hvl, hbk, hpr, hpd, hfr, hfd, hor, hod, har, had, htr, hct, hla, hlaa, hts0, htsa, by omega, hhf, him0, him1, by omega, by omega, by omega, by omega, by omega, by omega, by omega, hlf, htf, hH, hS, hL, hT, hB1, hB2⟩, fun j hj => rfl⟩), by rw [ht]; exact hP⟩, hS.F ht⟩) hS.2.2 dX10_like_52

set_option maxHeartbeats 4000000 in
set_option maxRecDepth 100000 in
theorem m_howMany (l : Launch) (G : gW) (g : Nat → Nat) (hg : gOK g) (f : Nat → va_E) (se : Nat) (hf : Nat → Option Nat) (pay : Int32) (fine : Int32) (np : Nat) (dp : Nat → Int32) (nf : Nat) (df : Nat → Int32) (nr : Nat) (dr : Nat → Int32) (na : Nat) (da : Nat → Int32) (nt : Nat) (ct : Nat → Int32) (n : Int32) (hx0 : f 0 = eO 9 [.ref (g 1), .ref (g 36), .ref (g 2), .ref (g 3), .ref (g 4), .ref (g 6), .ref (g 7)]) (hctc : f 1 = eO 1 [.ref (g 36), .ref (g 12), .ref (g 13), .ref (g 15), .int (nI se)]) (hhs : f 12 = eA G 4 10 hf) (hbk : f 36 = eO 0 [.ref (g 37), .ref (g 39), .ref (g 41), .ref (g 43), .ref (g 45), .ref (g 47), .ref (g 112), .int pay, .int fine]) (hpr : f 37 = eO 5 [.int (nI 30), .int (nI 4), .ref (g 38), .int (nI np)]) (hpd : f 38 = eI G (30 * 4) dp) (hfr : f 39 = eO 5 [.int (nI 40), .int (nI 3), .ref (g 40), .int (nI nf)]) (hfd : f 40 = eI G (40 * 3) df) (hor : f 41 = eO 5 [.int (nI 4), .int (nI 3), .ref (g 42), .int (nI nr)]) (hod : f 42 = eI G (4 * 3) dr) (har : f 43 = eO 5 [.int (nI 20), .int (nI 3), .ref (g 44), .int (nI na)]) (had : f 44 = eI G (20 * 3) da) (htr : f 45 = eO 5 [.int (nI 10), .int (nI 70), .ref (g 46), .int (nI nt)]) (hct : f 46 = eI G (10 * 70) ct) (hse : se ≤ 10) (hhf : ∀ i, i < 10 → hf i = some (g (2 * i + 16))) (hnp : np ≤ 30) (hnf : nf ≤ 40) (hnr : nr ≤ 4) (hna : na ≤ 20) (hnt : nt ≤ 10) (hH : ∀ i, i < 10 → okH G g f (2 * i + 16)) : Met l yX10_howMany (wsT yX10_howMany cX10_howMany 2 (some .int)) ({ frames := 2, cells := 0, slots := 0, locals := 43 }) (bP G g f [.ref (g 0), .int n]) (rQi (fun z9 => True)) 0 0 fr0 := by
  refine Met.ofW (cc := cX10_howMany) (maxL := 2) (ret := (some .int)) (by decide) rfl ?_
  intro p e s m args below meth c s₁ B hml hv
  obtain ⟨rfl, hP, hG⟩ := hv
  have hx := B.exec
  have hb := B.bytes
  have hr := B.returns
  have hts := my_hts (atoms_spec (ws := wsT yX10_howMany cX10_howMany 2 (some .int)) B.pre)
  have hown : s.vm.findClass RX10 = some m.cls := findClass_of_methodNamed B.named
  have hlocks := B.notSynchronized
  have hl := lv_entry ([.ref (g 0), .int n]) (n := 2) (Nat.le_of_ble_eq_true rfl)
  rw [lg_entry_eq]
  generalize (lg_sl ([.ref (g 0), .int n]) ++ List.replicate (2 - (lg_sl ([.ref (g 0), .int n])).length) Slot.unset).toArray = ls at hl ⊢
  have hl : lv_has ls 2 [(0, .ref (g 0)), (1, .int n)] := hl
  refine lv_iload_n hx hb dX10_howMany_0 rfl (lv_at hl 1 rfl) ?_
  by_cases e_0 : n = 0
  · refine my_bei e_0 ?_
    refine lv_tableIn (off := 35) (tgt := 36) hx hb dX10_howMany_1 (by decide) (by decide) (by decide) (by decide) ?_
    refine lv_aload_n hx hb dX10_howMany_36 rfl (lv_at hl 0 rfl) ?_
    refine va_get (D := G.1) (ci := 9) (v := .ref (g 36)) (C := RX10) (T := TX10) (N := 7) hx hb hts inlX10 hown hG.1 hP 0 (wl_at (by decide) hx0) rfl 1 (by decide) (hts (.fieldLink RX10 20 "SwornLists" "book" "LSwornLists$Book;") w_16) (fun _ h9 => h9) rfl dX10_howMany_37 ?_
    refine va_getN (D := G.1) (ci := 0) (v := .ref (g 37)) (C := RX0) (T := TX0) (N := 9) (host := RX10) hx hb hts inlX0 hown hG.1 hP 36 (wl_at (by decide) hbk) rfl 0 (by decide) (va_Nw.use rfl (hG.2.1 (.fieldLinkNest RX10 57 RX0 "people" "LSwornLists$Rows;" RX10) (List.mem_of_getElem? (i := 0) rfl))) (fun _ h9 => h9) rfl dX10_howMany_40 ?_
    refine rd_calli (va_runV (As := []) (rest := []) ⟨hx, hb, hml, hown, hts⟩ (r_size l G g hg f 37 30 4 np hpr (by first | assumption | omega | decide) (by first | assumption | omega | decide) (by first | assumption | omega | decide) (by first | assumption | omega | decide)) (my_cwV hts ok_X5_size w_642 rfl rfl ⟨Nat.le_of_ble_eq_true rfl, Nat.le_of_ble_eq_true rfl⟩) ⟨bP.blind, va_recv hG.1 hP (ci := 5) (q0 := 37) rfl (wl_at (by decide) hpr), fun U hU hW => ⟨rfl, by rw [hU]; exact hP, kG.warm hW hG⟩⟩ rfl rfl hl.1 rfl (lv_room (Nat.le_of_ble_eq_true rfl)) dX10_howMany_43 ⟨Nat.le_of_ble_eq_true rfl, Nat.le_of_ble_eq_true rfl⟩) (fun r hr9 => ?_)
    subst hr9
    exact W.iret (v := nI np) hx hb hr (fun t ht hW => ⟨_, rfl, (trivial), ht⟩) (fun _ h => absurd h List.not_mem_nil) dX10_howMany_46
  by_cases e_1 : n = 1
  · refine my_bei e_1 ?_
    refine lv_tableIn (off := 46) (tgt := 47) hx hb dX10_howMany_1 (by decide) (by decide) (by decide) (by decide) ?_
    refine lv_aload_n hx hb dX10_howMany_47 rfl (lv_at hl 0 rfl) ?_
    refine va_get (D := G.1) (ci := 9) (v := .ref (g 36)) (C := RX10) (T := TX10) (N := 7) hx hb hts inlX10 hown hG.1 hP 0 (wl_at (by decide) hx0) rfl 1 (by decide) (hts (.fieldLink RX10 20 "SwornLists" "book" "LSwornLists$Book;") w_16) (fun _ h9 => h9) rfl dX10_howMany_48 ?_
    refine va_getN (D := G.1) (ci := 0) (v := .ref (g 39)) (C := RX0) (T := TX0) (N := 9) (host := RX10) hx hb hts inlX0 hown hG.1 hP 36 (wl_at (by decide) hbk) rfl 1 (by decide) (va_Nw.use rfl (hG.2.1 (.fieldLinkNest RX10 82 RX0 "facts" "LSwornLists$Rows;" RX10) (List.mem_of_getElem? (i := 2) rfl))) (fun _ h9 => h9) rfl dX10_howMany_51 ?_
    refine rd_calli (va_runV (As := []) (rest := []) ⟨hx, hb, hml, hown, hts⟩ (r_size l G g hg f 39 40 3 nf hfr (by first | assumption | omega | decide) (by first | assumption | omega | decide) (by first | assumption | omega | decide) (by first | assumption | omega | decide)) (my_cwV hts ok_X5_size w_642 rfl rfl ⟨Nat.le_of_ble_eq_true rfl, Nat.le_of_ble_eq_true rfl⟩) ⟨bP.blind, va_recv hG.1 hP (ci := 5) (q0 := 39) rfl (wl_at (by decide) hfr), fun U hU hW => ⟨rfl, by rw [hU]; exact hP, kG.warm hW hG⟩⟩ rfl rfl hl.1 rfl (lv_room (Nat.le_of_ble_eq_true rfl)) dX10_howMany_54 ⟨Nat.le_of_ble_eq_true rfl, Nat.le_of_ble_eq_true rfl⟩) (fun r hr9 => ?_)
    subst hr9
    exact W.iret (v := nI nf) hx hb hr (fun t ht hW => ⟨_, rfl, (trivial), ht⟩) (fun _ h => absurd h List.not_mem_nil) dX10_howMany_57
  by_cases e_2 : n = 2
  · refine my_bei e_2 ?_
    refine lv_tableIn (off := 57) (tgt := 58) hx hb dX10_howMany_1 (by decide) (by decide) (by decide) (by decide) ?_
    refine lv_aload_n hx hb dX10_howMany_58 rfl (lv_at hl 0 rfl) ?_
    refine va_get (D := G.1) (ci := 9) (v := .ref (g 36)) (C := RX10) (T := TX10) (N := 7) hx hb hts inlX10 hown hG.1 hP 0 (wl_at (by decide) hx0) rfl 1 (by decide) (hts (.fieldLink RX10 20 "SwornLists" "book" "LSwornLists$Book;") w_16) (fun _ h9 => h9) rfl dX10_howMany_59 ?_
    refine va_getN (D := G.1) (ci := 0) (v := .ref (g 41)) (C := RX0) (T := TX0) (N := 9) (host := RX10) hx hb hts inlX0 hown hG.1 hP 36 (wl_at (by decide) hbk) rfl 2 (by decide) (va_Nw.use rfl (hG.2.1 (.fieldLinkNest RX10 88 RX0 "rolls" "LSwornLists$Rows;" RX10) (List.mem_of_getElem? (i := 3) rfl))) (fun _ h9 => h9) rfl dX10_howMany_62 ?_
    refine rd_calli (va_runV (As := []) (rest := []) ⟨hx, hb, hml, hown, hts⟩ (r_size l G g hg f 41 4 3 nr hor (by first | assumption | omega | decide) (by first | assumption | omega | decide) (by first | assumption | omega | decide) (by first | assumption | omega | decide)) (my_cwV hts ok_X5_size w_642 rfl rfl ⟨Nat.le_of_ble_eq_true rfl, Nat.le_of_ble_eq_true rfl⟩) ⟨bP.blind, va_recv hG.1 hP (ci := 5) (q0 := 41) rfl (wl_at (by decide) hor), fun U hU hW => ⟨rfl, by rw [hU]; exact hP, kG.warm hW hG⟩⟩ rfl rfl hl.1 rfl (lv_room (Nat.le_of_ble_eq_true rfl)) dX10_howMany_65 ⟨Nat.le_of_ble_eq_true rfl, Nat.le_of_ble_eq_true rfl⟩) (fun r hr9 => ?_)
    subst hr9
    exact W.iret (v := nI nr) hx hb hr (fun t ht hW => ⟨_, rfl, (trivial), ht⟩) (fun _ h => absurd h List.not_mem_nil) dX10_howMany_68
  by_cases e_3 : n = 3
  · refine my_bei e_3 ?_
    refine lv_tableIn (off := 68) (tgt := 69) hx hb dX10_howMany_1 (by decide) (by decide) (by decide) (by decide) ?_
    refine lv_aload_n hx hb dX10_howMany_69 rfl (lv_at hl 0 rfl) ?_
    refine va_get (D := G.1) (ci := 9) (v := .ref (g 36)) (C := RX10) (T := TX10) (N := 7) hx hb hts inlX10 hown hG.1 hP 0 (wl_at (by decide) hx0) rfl 1 (by decide) (hts (.fieldLink RX10 20 "SwornLists" "book" "LSwornLists$Book;") w_16) (fun _ h9 => h9) rfl dX10_howMany_70 ?_
    refine va_getN (D := G.1) (ci := 0) (v := .ref (g 43)) (C := RX0) (T := TX0) (N := 9) (host := RX10) hx hb hts inlX0 hown hG.1 hP 36 (wl_at (by decide) hbk) rfl 3 (by decide) (va_Nw.use rfl (hG.2.1 (.fieldLinkNest RX10 134 RX0 "acts" "LSwornLists$Rows;" RX10) (List.mem_of_getElem? (i := 4) rfl))) (fun _ h9 => h9) rfl dX10_howMany_73 ?_
    refine rd_calli (va_runV (As := []) (rest := []) ⟨hx, hb, hml, hown, hts⟩ (r_size l G g hg f 43 20 3 na har (by first | assumption | omega | decide) (by first | assumption | omega | decide) (by first | assumption | omega | decide) (by first | assumption | omega | decide)) (my_cwV hts ok_X5_size w_642 rfl rfl ⟨Nat.le_of_ble_eq_true rfl, Nat.le_of_ble_eq_true rfl⟩) ⟨bP.blind, va_recv hG.1 hP (ci := 5) (q0 := 43) rfl (wl_at (by decide) har), fun U hU hW => ⟨rfl, by rw [hU]; exact hP, kG.warm hW hG⟩⟩ rfl rfl hl.1 rfl (lv_room (Nat.le_of_ble_eq_true rfl)) dX10_howMany_76 ⟨Nat.le_of_ble_eq_true rfl, Nat.le_of_ble_eq_true rfl⟩) (fun r hr9 => ?_)
    subst hr9
    exact W.iret (v := nI na) hx hb hr (fun t ht hW => ⟨_, rfl, (trivial), ht⟩) (fun _ h => absurd h List.not_mem_nil) dX10_howMany_79
  by_cases e_4 : n = 4
  · refine my_bei e_4 ?_
    refine lv_tableIn (off := 79) (tgt := 80) hx hb dX10_howMany_1 (by decide) (by decide) (by decide) (by decide) ?_
    refine lv_aload_n hx hb dX10_howMany_80 rfl (lv_at hl 0 rfl) ?_
    refine va_get (D := G.1) (ci := 9) (v := .ref (g 36)) (C := RX10) (T := TX10) (N := 7) hx hb hts inlX10 hown hG.1 hP 0 (wl_at (by decide) hx0) rfl 1 (by decide) (hts (.fieldLink RX10 20 "SwornLists" "book" "LSwornLists$Book;") w_16) (fun _ h9 => h9) rfl dX10_howMany_81 ?_
    refine va_getN (D := G.1) (ci := 0) (v := .ref (g 45)) (C := RX0) (T := TX0) (N := 9) (host := RX10) hx hb hts inlX0 hown hG.1 hP 36 (wl_at (by decide) hbk) rfl 4 (by decide) (va_Nw.use rfl (hG.2.1 (.fieldLinkNest RX10 162 RX0 "trials" "LSwornLists$Rows;" RX10) (List.mem_of_getElem? (i := 7) rfl))) (fun _ h9 => h9) rfl dX10_howMany_84 ?_
    refine rd_calli (va_runV (As := []) (rest := []) ⟨hx, hb, hml, hown, hts⟩ (r_size l G g hg f 45 10 70 nt htr (by first | assumption | omega | decide) (by first | assumption | omega | decide) (by first | assumption | omega | decide) (by first | assumption | omega | decide)) (my_cwV hts ok_X5_size w_642 rfl rfl ⟨Nat.le_of_ble_eq_true rfl, Nat.le_of_ble_eq_true rfl⟩) ⟨bP.blind, va_recv hG.1 hP (ci := 5) (q0 := 45) rfl (wl_at (by decide) htr), fun U hU hW => ⟨rfl, by rw [hU]; exact hP, kG.warm hW hG⟩⟩ rfl rfl hl.1 rfl (lv_room (Nat.le_of_ble_eq_true rfl)) dX10_howMany_87 ⟨Nat.le_of_ble_eq_true rfl, Nat.le_of_ble_eq_true rfl⟩) (fun r hr9 => ?_)
    subst hr9
    exact W.iret (v := nI nt) hx hb hr (fun t ht hW => ⟨_, rfl, (trivial), ht⟩) (fun _ h => absurd h List.not_mem_nil) dX10_howMany_90
  have n_0 : n.toInt ≠ 0 := fun z => e_0 (Int32.toInt_inj.mp (z.trans (by decide)))
  have n_1 : n.toInt ≠ 1 := fun z => e_1 (Int32.toInt_inj.mp (z.trans (by decide)))
  have n_2 : n.toInt ≠ 2 := fun z => e_2 (Int32.toInt_inj.mp (z.trans (by decide)))
  have n_3 : n.toInt ≠ 3 := fun z => e_3 (Int32.toInt_inj.mp (z.trans (by decide)))
  have n_4 : n.toInt ≠ 4 := fun z => e_4 (Int32.toInt_inj.mp (z.trans (by decide)))
  refine lv_tableOut (tgt := 91) hx hb dX10_howMany_1 (by omega) (by decide) ?_
  refine lv_aload_n hx hb dX10_howMany_91 rfl (lv_at hl 0 rfl) ?_
  refine va_get (D := G.1) (ci := 9) (v := .ref (g 1)) (C := RX10) (T := TX10) (N := 7) hx hb hts inlX10 hown hG.1 hP 0 (wl_at (by decide) hx0) rfl 0 (by decide) (hts (.fieldLink RX10 12 "SwornLists" "court" "LSwornLists$Court;") w_15) (fun _ h9 => h9) rfl dX10_howMany_92 ?_
  refine rd_calli (va_runV (As := []) (rest := []) ⟨hx, hb, hml, hown, hts⟩ (u_sworn l G g hg f se hf pay fine nt ct hctc hhs hbk htr hct (by first | assumption | omega | decide) (by first | assumption | omega | decide) (by first | assumption | omega | decide) (by first | assumption | omega | decide)) (my_cwV hts ok_X1_sworn w_930 rfl rfl ⟨Nat.le_of_ble_eq_true rfl, Nat.le_of_ble_eq_true rfl⟩) ⟨bP.blind, va_recv hG.1 hP (ci := 1) (q0 := 1) rfl (wl_at (by decide) hctc), fun U hU hW => ⟨rfl, by rw [hU]; exact hP, kG.warm hW hG⟩⟩ rfl rfl hl.1 rfl (lv_room (Nat.le_of_ble_eq_true rfl)) dX10_howMany_95 ⟨Nat.le_of_ble_eq_true rfl, Nat.le_of_ble_eq_true rfl⟩) (fun v1 _ => ?_)
  exact W.iret (v := v1) hx hb hr (fun t ht hW => ⟨_, rfl, (trivial), ht⟩) (fun _ h => absurd h List.not_mem_nil) dX10_howMany_98
set_option maxHeartbeats 4000000 in
set_option maxRecDepth 100000 in
theorem m_count (l : Launch) (G : gW) (g : Nat → Nat) (hg : gOK g) (f : Nat → va_E) (a1 : Int32)  (hI : cI G g f) : Met l yX10_count (wsT yX10_count cX10_count 2 (some .int)) ({ frames := 7, cells := 0, slots := 0, locals := 176 }) (bP G g f [.ref (g 0), .int a1]) (bQi G g (fun (z9 : Int32) (f' : Nat → va_E) => (cI G g f') ∧ ∀ j, 315 ≤ j → f' j = f j)) 0 0 (gA g) := by
  refine Met.ofW (cc := cX10_count) (maxL := 2) (ret := (some .int)) (by decide) rfl ?_
  intro p e s m args below meth c s₁ B hml hv
  obtain ⟨rfl, hP, hG⟩ := hv
  have hx := B.exec
  have hb := B.bytes
  have hr := B.returns
  have hts := my_hts (atoms_spec (ws := wsT yX10_count cX10_count 2 (some .int)) B.pre)
  have hown : s.vm.findClass RX10 = some m.cls := findClass_of_methodNamed B.named
  have hlocks := B.notSynchronized
  have hS : va_S (gA g) s.heap s.heap [] := va_S.rf
  have hl := lv_entry ([.ref (g 0), .int a1]) (n := 2) (Nat.le_of_ble_eq_true rfl)
  rw [lg_entry_eq]
  generalize (lg_sl ([.ref (g 0), .int a1]) ++ List.replicate (2 - (lg_sl ([.ref (g 0), .int a1])).length) Slot.unset).toArray = ls at hl ⊢
  have hl : lv_has ls 2 [(0, .ref (g 0)), (1, .int a1)] := hl
  obtain ⟨se, hf, imf, kf, mc, op, cm, wu, mk, ab, be, mn, le, wt, ww, wb, wf, vv, pay, fine, np, dp, nf, df, nr, dr, na, da, nt, ct, lf, tf, hx0, hctc, hhs, him, hkp, hrd, hmk, hfc6, hwt, hw8, hw9, hw10, hw11, hvl, hbk, hpr, hpd, hfr, hfd, hor, hod, har, had, htr, hct, hla, hlaa, hts0, htsa, hse, hhf, him0, him1, hmc, hmn, hnp, hnf, hnr, hna, hnt, hlf, htf, hH, hS, hL, hT, hB1, hB2⟩ := hI
  refine lv_iload_n hx hb dX10_count_0 rfl (lv_at hl 1 rfl) ?_
  refine lv_iconst (v := 0) hx hb dX10_count_1 (by decide) ?_
  refine lv_iconst (v := 5) hx hb dX10_count_2 (by decide) ?_
  refine rd_calli (va_runS (As := [.int a1, .int 0, .int 5]) (rest := []) ⟨hx, hb, hml, hown, hts⟩ (s_within l G g hg f a1 0 5  ) (my_cwS hts ok_X10_within w_134 rfl rfl ⟨Nat.le_of_ble_eq_true rfl, Nat.le_of_ble_eq_true rfl⟩) ⟨bP.blind, fun U hU hW => ⟨rfl, by rw [hU]; exact hP, kG.warm hW hG⟩⟩ rfl rfl hl.1 rfl (lv_room (Nat.le_of_ble_eq_true rfl)) dX10_count_3 ⟨Nat.le_of_ble_eq_true rfl, Nat.le_of_ble_eq_true rfl⟩) (fun r hr9 => ?_)
  subst hr9
  refine my_ifne (tgt := 12) hx hb dX10_count_6 (by decide) (fun c_6 => ?_) (fun c_6 => ?_)
  · refine lv_aload_n hx hb dX10_count_12 rfl (lv_at hl 0 rfl) ?_
    refine va_get (D := G.1) (ci := 9) (v := .ref (g 1)) (C := RX10) (T := TX10) (N := 7) hx hb hts inlX10 hown hG.1 hP 0 (wl_at (by decide) hx0) rfl 0 (by decide) (hts (.fieldLink RX10 12 "SwornLists" "court" "LSwornLists$Court;") w_15) (fun _ h9 => h9) rfl dX10_count_13 ?_
    refine b_callv (va_runV (As := []) (rest := []) ⟨hx, hb, hml, hown, hts⟩ (u_settle l G g hg f se hf pay fine nt ct np dp nf df nr dr na da lf vv hctc hhs hbk htr hct hpr hpd hfr hfd hor hod har had hla hlaa hvl (by first | assumption | omega | decide) (by first | assumption | omega | decide) (by first | assumption | omega | decide) (by first | assumption | omega | decide) (by first | assumption | omega | decide) (by first | assumption | omega | decide) (by first | assumption | omega | decide) (by first | assumption | omega | decide) (by first | assumption | omega | decide) (by first | assumption | omega | decide)) (my_cwV hts ok_X1_settle w_384 rfl rfl ⟨Nat.le_of_ble_eq_true rfl, Nat.le_of_ble_eq_true rfl⟩) ⟨bP.blind, va_recv hG.1 hP (ci := 1) (q0 := 1) rfl (wl_at (by decide) hctc), fun U hU hW => ⟨rfl, by rw [hU]; exact hP, kG.warm hW hG⟩⟩ rfl rfl hl.1 rfl (lv_room (Nat.le_of_ble_eq_true rfl)) dX10_count_16 ⟨Nat.le_of_ble_eq_true rfl, Nat.le_of_ble_eq_true rfl⟩) hS (fun f_1 H locs hq9 hP hS => ?_)
    obtain ⟨vv91, hq_1_0, hq_1_1, hx_1_0, o_1⟩ := hq9
    have hx0 : f_1 0 = eO 9 [.ref (g 1), .ref (g 36), .ref (g 2), .ref (g 3), .ref (g 4), .ref (g 6), .ref (g 7)] := (o_1 0 (by omega)).trans hx0
    have hhs : f_1 12 = eA G 4 10 hf := (o_1 12 (by omega)).trans hhs
    have him : f_1 2 = eA G 3 2 imf := (o_1 2 (by omega)).trans him
    have hkp : f_1 3 = eZ G 2 kf := (o_1 3 (by omega)).trans hkp
    have hrd : f_1 4 = eO 4 [.ref (g 5), .int (nI mc), .int op, .int cm, .int wu] := (o_1 4 (by omega)).trans hrd
    have hmk : f_1 5 = eI G 50 mk := (o_1 5 (by omega)).trans hmk
    have hfc6 : f_1 6 = eO 2 [.long ab, .long be] := (o_1 6 (by omega)).trans hfc6
    have hwt : f_1 7 = eO 8 [.ref (g 8), .ref (g 9), .ref (g 10), .ref (g 11), .int (nI mn), .int le] := (o_1 7 (by omega)).trans hwt
    have hw8 : f_1 8 = eI G 6 wt := (o_1 8 (by omega)).trans hw8
    have hw9 : f_1 9 = eI G 6 ww := (o_1 9 (by omega)).trans hw9
    have hw10 : f_1 10 = eI G 6 wb := (o_1 10 (by omega)).trans hw10
    have hw11 : f_1 11 = eI G 6 wf := (o_1 11 (by omega)).trans hw11
    have hbk : f_1 36 = eO 0 [.ref (g 37), .ref (g 39), .ref (g 41), .ref (g 43), .ref (g 45), .ref (g 47), .ref (g 112), .int pay, .int fine] := (o_1 36 (by omega)).trans hbk
    have hpr : f_1 37 = eO 5 [.int (nI 30), .int (nI 4), .ref (g 38), .int (nI np)] := (o_1 37 (by omega)).trans hpr
    have hpd : f_1 38 = eI G (30 * 4) dp := (o_1 38 (by omega)).trans hpd
    have hfr : f_1 39 = eO 5 [.int (nI 40), .int (nI 3), .ref (g 40), .int (nI nf)] := (o_1 39 (by omega)).trans hfr
    have hfd : f_1 40 = eI G (40 * 3) df := (o_1 40 (by omega)).trans hfd
    have hor : f_1 41 = eO 5 [.int (nI 4), .int (nI 3), .ref (g 42), .int (nI nr)] := (o_1 41 (by omega)).trans hor
    have hod : f_1 42 = eI G (4 * 3) dr := (o_1 42 (by omega)).trans hod
    have har : f_1 43 = eO 5 [.int (nI 20), .int (nI 3), .ref (g 44), .int (nI na)] := (o_1 43 (by omega)).trans har
    have had : f_1 44 = eI G (20 * 3) da := (o_1 44 (by omega)).trans had
    have htr : f_1 45 = eO 5 [.int (nI 10), .int (nI 70), .ref (g 46), .int (nI nt)] := (o_1 45 (by omega)).trans htr
    have hct : f_1 46 = eI G (10 * 70) ct := (o_1 46 (by omega)).trans hct
    have hla : f_1 47 = eO 6 [.ref (g 48), .ref (g 49)] := (o_1 47 (by omega)).trans hla
    have hlaa : f_1 48 = eA G 5 20 lf := (o_1 48 (by omega)).trans hlaa
    have hts0 : f_1 112 = eO 6 [.ref (g 113), .ref (g 114)] := (o_1 112 (by omega)).trans hts0
    have htsa : f_1 113 = eA G 5 4 tf := (o_1 113 (by omega)).trans htsa
    have hctc : f_1 1 = eO 1 [.ref (g 36), .ref (g 12), .ref (g 13), .ref (g 15), .int (nI nt)] := hq_1_0
    have hvl : f_1 15 = eJ G 50 vv91 := hq_1_1
    have hH : ∀ i, i < 10 → okH G g f_1 (2 * i + 16) := hx_1_0
    have hS : okH G g f_1 13 := okH_fr hS (o_1 _ (by omega)) (o_1 _ (by omega))
    have hL : ∀ i, i < 20 → okT G g f_1 (3 * i + 52) := fun z hz => okT_fr (hL z hz) (o_1 _ (by omega)) (o_1 _ (by omega)) (o_1 _ (by omega))
    have hT : ∀ i, i < 4 → okT G g f_1 (3 * i + 117) := fun z hz => okT_fr (hT z hz) (o_1 _ (by omega)) (o_1 _ (by omega)) (o_1 _ (by omega))
    have hB1 : okB G g f_1 129 := okB_fr hB1 (fun j _ _ => o_1 j (by omega))
    have hB2 : okB G g f_1 222 := okB_fr hB2 (fun j _ _ => o_1 j (by omega))
    refine lv_aload_n hx hb dX10_count_19 rfl (lv_at hl 0 rfl) ?_
    refine lv_iload_n hx hb dX10_count_20 rfl (lv_at hl 1 rfl) ?_
    refine rd_calli (va_runV (As := [.int a1]) (rest := []) ⟨hx, hb, hml, hown, hts⟩ (m_howMany l G g hg f_1 nt hf pay fine np dp nf df nr dr na da nt ct a1 hx0 hctc hhs hbk hpr hpd hfr hfd hor hod har had htr hct (by first | assumption | omega | decide) (by first | assumption | omega | decide) (by first | assumption | omega | decide) (by first | assumption | omega | decide) (by first | assumption | omega | decide) (by first | assumption | omega | decide) (by first | assumption | omega | decide) (by first | assumption | omega | decide)) (my_cwV hts ok_X10_howMany w_926 rfl rfl ⟨Nat.le_of_ble_eq_true rfl, Nat.le_of_ble_eq_true rfl⟩) ⟨bP.blind, va_recv hG.1 hP (ci := 9) (q0 := 0) rfl (wl_at (by decide) hx0), fun U hU hW => ⟨rfl, by rw [hU]; exact hP, kG.warm hW hG⟩⟩ rfl rfl hl.1 rfl (lv_room (Nat.le_of_ble_eq_true rfl)) dX10_count_21 ⟨Nat.le_of_ble_eq_true rfl, Nat.le_of_ble_eq_true rfl⟩) (fun v2 _ => ?_)
    exact W.iret (v := v2) hx hb hr (fun t ht hW => ⟨⟨_, f_1, rfl, (⟨⟨nt, hf, imf, kf, mc, op, cm, wu, mk, ab, be, mn, le, wt, ww, wb, wf, vv91, pay, fine, np, dp, nf, df, nr, dr, na, da, nt, ct, lf, tf, hx0, hctc, hhs, him, hkp, hrd, hmk, hfc6, hwt, hw8, hw9, hw10, hw11, hvl, hbk, hpr, hpd, hfr, hfd, hor, hod, har, had, htr, hct, hla, hlaa, hts0, htsa, by omega, hhf, him0, him1, by omega, by omega, by omega, by omega, by omega, by omega, by omega, hlf, htf, hH, hS, hL, hT, hB1, hB2⟩, fun j hj => (o_1 j (by omega))⟩), by rw [ht]; exact hP⟩, hS.F ht⟩) hS.2.2 dX10_count_24
  · refine lv_bipush (v := (-2)) hx hb dX10_count_9 (by decide) ?_
    exact W.iret (v := (-2)) hx hb hr (fun t ht hW => ⟨⟨_, f, rfl, (⟨⟨se, hf, imf, kf, mc, op, cm, wu, mk, ab, be, mn, le, wt, ww, wb, wf, vv, pay, fine, np, dp, nf, df, nr, dr, na, da, nt, ct, lf, tf, hx0, hctc, hhs, him, hkp, hrd, hmk, hfc6, hwt, hw8, hw9, hw10, hw11, hvl, hbk, hpr, hpd, hfr, hfd, hor, hod, har, had, htr, hct, hla, hlaa, hts0, htsa, by omega, hhf, him0, him1, by omega, by omega, by omega, by omega, by omega, by omega, by omega, hlf, htf, hH, hS, hL, hT, hB1, hB2⟩, fun j hj => rfl⟩), by rw [ht]; exact hP⟩, hS.F ht⟩) hS.2.2 dX10_count_11
set_option maxHeartbeats 4000000 in
set_option maxRecDepth 100000 in
theorem m_digest (l : Launch) (G : gW) (g : Nat → Nat) (hg : gOK g) (f : Nat → va_E)   (hI : cI G g f) : Met l yX10_digest (wsT yX10_digest cX10_digest 4 (some .long)) ({ frames := 7, cells := 0, slots := 0, locals := 176 }) (bP G g f [.ref (g 0)]) (bQl G g (fun (z9 : Int64) (f' : Nat → va_E) => (cI G g f') ∧ ∀ j, 315 ≤ j → f' j = f j)) 0 0 (gA g) := by
  refine Met.ofW (cc := cX10_digest) (maxL := 4) (ret := (some .long)) (by decide) rfl ?_
  intro p e s m args below meth c s₁ B hml hv
  obtain ⟨rfl, hP, hG⟩ := hv
  have hx := B.exec
  have hb := B.bytes
  have hr := B.returns
  have hts := my_hts (atoms_spec (ws := wsT yX10_digest cX10_digest 4 (some .long)) B.pre)
  have hown : s.vm.findClass RX10 = some m.cls := findClass_of_methodNamed B.named
  have hlocks := B.notSynchronized
  have hS : va_S (gA g) s.heap s.heap [] := va_S.rf
  have hl := lv_entry ([.ref (g 0)]) (n := 4) (Nat.le_of_ble_eq_true rfl)
  rw [lg_entry_eq]
  generalize (lg_sl ([.ref (g 0)]) ++ List.replicate (4 - (lg_sl ([.ref (g 0)])).length) Slot.unset).toArray = ls at hl ⊢
  have hl : lv_has ls 4 [(0, .ref (g 0))] := hl
  obtain ⟨se, hf, imf, kf, mc, op, cm, wu, mk, ab, be, mn, le, wt, ww, wb, wf, vv, pay, fine, np, dp, nf, df, nr, dr, na, da, nt, ct, lf, tf, hx0, hctc, hhs, him, hkp, hrd, hmk, hfc6, hwt, hw8, hw9, hw10, hw11, hvl, hbk, hpr, hpd, hfr, hfd, hor, hod, har, had, htr, hct, hla, hlaa, hts0, htsa, hse, hhf, him0, him1, hmc, hmn, hnp, hnf, hnr, hna, hnt, hlf, htf, hH, hS, hL, hT, hB1, hB2⟩ := hI
  refine lv_aload_n hx hb dX10_digest_0 rfl (lv_at hl 0 rfl) ?_
  refine va_get (D := G.1) (ci := 9) (v := .ref (g 1)) (C := RX10) (T := TX10) (N := 7) hx hb hts inlX10 hown hG.1 hP 0 (wl_at (by decide) hx0) rfl 0 (by decide) (hts (.fieldLink RX10 12 "SwornLists" "court" "LSwornLists$Court;") w_15) (fun _ h9 => h9) rfl dX10_digest_1 ?_
  refine b_callv (va_runV (As := []) (rest := []) ⟨hx, hb, hml, hown, hts⟩ (u_settle l G g hg f se hf pay fine nt ct np dp nf df nr dr na da lf vv hctc hhs hbk htr hct hpr hpd hfr hfd hor hod har had hla hlaa hvl (by first | assumption | omega | decide) (by first | assumption | omega | decide) (by first | assumption | omega | decide) (by first | assumption | omega | decide) (by first | assumption | omega | decide) (by first | assumption | omega | decide) (by first | assumption | omega | decide) (by first | assumption | omega | decide) (by first | assumption | omega | decide) (by first | assumption | omega | decide)) (my_cwV hts ok_X1_settle w_384 rfl rfl ⟨Nat.le_of_ble_eq_true rfl, Nat.le_of_ble_eq_true rfl⟩) ⟨bP.blind, va_recv hG.1 hP (ci := 1) (q0 := 1) rfl (wl_at (by decide) hctc), fun U hU hW => ⟨rfl, by rw [hU]; exact hP, kG.warm hW hG⟩⟩ rfl rfl hl.1 rfl (lv_room (Nat.le_of_ble_eq_true rfl)) dX10_digest_4 ⟨Nat.le_of_ble_eq_true rfl, Nat.le_of_ble_eq_true rfl⟩) hS (fun f_1 H locs hq9 hP hS => ?_)
  obtain ⟨vv91, hq_1_0, hq_1_1, hx_1_0, o_1⟩ := hq9
  have hx0 : f_1 0 = eO 9 [.ref (g 1), .ref (g 36), .ref (g 2), .ref (g 3), .ref (g 4), .ref (g 6), .ref (g 7)] := (o_1 0 (by omega)).trans hx0
  have hhs : f_1 12 = eA G 4 10 hf := (o_1 12 (by omega)).trans hhs
  have him : f_1 2 = eA G 3 2 imf := (o_1 2 (by omega)).trans him
  have hkp : f_1 3 = eZ G 2 kf := (o_1 3 (by omega)).trans hkp
  have hrd : f_1 4 = eO 4 [.ref (g 5), .int (nI mc), .int op, .int cm, .int wu] := (o_1 4 (by omega)).trans hrd
  have hmk : f_1 5 = eI G 50 mk := (o_1 5 (by omega)).trans hmk
  have hfc6 : f_1 6 = eO 2 [.long ab, .long be] := (o_1 6 (by omega)).trans hfc6
  have hwt : f_1 7 = eO 8 [.ref (g 8), .ref (g 9), .ref (g 10), .ref (g 11), .int (nI mn), .int le] := (o_1 7 (by omega)).trans hwt
  have hw8 : f_1 8 = eI G 6 wt := (o_1 8 (by omega)).trans hw8
  have hw9 : f_1 9 = eI G 6 ww := (o_1 9 (by omega)).trans hw9
  have hw10 : f_1 10 = eI G 6 wb := (o_1 10 (by omega)).trans hw10
  have hw11 : f_1 11 = eI G 6 wf := (o_1 11 (by omega)).trans hw11
  have hbk : f_1 36 = eO 0 [.ref (g 37), .ref (g 39), .ref (g 41), .ref (g 43), .ref (g 45), .ref (g 47), .ref (g 112), .int pay, .int fine] := (o_1 36 (by omega)).trans hbk
  have hpr : f_1 37 = eO 5 [.int (nI 30), .int (nI 4), .ref (g 38), .int (nI np)] := (o_1 37 (by omega)).trans hpr
  have hpd : f_1 38 = eI G (30 * 4) dp := (o_1 38 (by omega)).trans hpd
  have hfr : f_1 39 = eO 5 [.int (nI 40), .int (nI 3), .ref (g 40), .int (nI nf)] := (o_1 39 (by omega)).trans hfr
  have hfd : f_1 40 = eI G (40 * 3) df := (o_1 40 (by omega)).trans hfd
  have hor : f_1 41 = eO 5 [.int (nI 4), .int (nI 3), .ref (g 42), .int (nI nr)] := (o_1 41 (by omega)).trans hor
  have hod : f_1 42 = eI G (4 * 3) dr := (o_1 42 (by omega)).trans hod
  have har : f_1 43 = eO 5 [.int (nI 20), .int (nI 3), .ref (g 44), .int (nI na)] := (o_1 43 (by omega)).trans har
  have had : f_1 44 = eI G (20 * 3) da := (o_1 44 (by omega)).trans had
  have htr : f_1 45 = eO 5 [.int (nI 10), .int (nI 70), .ref (g 46), .int (nI nt)] := (o_1 45 (by omega)).trans htr
  have hct : f_1 46 = eI G (10 * 70) ct := (o_1 46 (by omega)).trans hct
  have hla : f_1 47 = eO 6 [.ref (g 48), .ref (g 49)] := (o_1 47 (by omega)).trans hla
  have hlaa : f_1 48 = eA G 5 20 lf := (o_1 48 (by omega)).trans hlaa
  have hts0 : f_1 112 = eO 6 [.ref (g 113), .ref (g 114)] := (o_1 112 (by omega)).trans hts0
  have htsa : f_1 113 = eA G 5 4 tf := (o_1 113 (by omega)).trans htsa
  have hctc : f_1 1 = eO 1 [.ref (g 36), .ref (g 12), .ref (g 13), .ref (g 15), .int (nI nt)] := hq_1_0
  have hvl : f_1 15 = eJ G 50 vv91 := hq_1_1
  have hH : ∀ i, i < 10 → okH G g f_1 (2 * i + 16) := hx_1_0
  have hS : okH G g f_1 13 := okH_fr hS (o_1 _ (by omega)) (o_1 _ (by omega))
  have hL : ∀ i, i < 20 → okT G g f_1 (3 * i + 52) := fun z hz => okT_fr (hL z hz) (o_1 _ (by omega)) (o_1 _ (by omega)) (o_1 _ (by omega))
  have hT : ∀ i, i < 4 → okT G g f_1 (3 * i + 117) := fun z hz => okT_fr (hT z hz) (o_1 _ (by omega)) (o_1 _ (by omega)) (o_1 _ (by omega))
  have hB1 : okB G g f_1 129 := okB_fr hB1 (fun j _ _ => o_1 j (by omega))
  have hB2 : okB G g f_1 222 := okB_fr hB2 (fun j _ _ => o_1 j (by omega))
  refine lv_ldc2 (v := 367) hx hb hown (hts (.constantLong RX10 266 (367)) w_947) dX10_digest_7 ?_
  refine lv_lstore_n (lv' := [(1, .long 367), (0, .ref (g 0))]) hx hb dX10_digest_10 rfl hl (by decide) rfl (fun ls hl => ?_)
  refine lv_iconst (v := 0) hx hb dX10_digest_11 (by decide) ?_
  refine lv_istore_n (lv' := [(3, .int 0), (1, .long 367), (0, .ref (g 0))]) hx hb dX10_digest_12 rfl hl (by decide) rfl (fun ls hl => ?_)
  have key2 : ∀ (n9_2 : Nat) (i : Nat) (u : Int64) (f_2 : Nat → va_E) (H : Heap) (locs : List Loc) (ls : Array Slot), (i ≤ 6) → (∀ i, i < 10 → okH G g f_2 (2 * i + 16)) → (okH G g f_2 13) → (∀ i, i < 20 → okT G g f_2 (3 * i + 52)) → (∀ i, i < 4 → okT G g f_2 (3 * i + 117)) → (okB G g f_2 129) → (okB G g f_2 222) → 6 - i < n9_2 → f_2 0 = eO 9 [.ref (g 1), .ref (g 36), .ref (g 2), .ref (g 3), .ref (g 4), .ref (g 6), .ref (g 7)] → f_2 1 = eO 1 [.ref (g 36), .ref (g 12), .ref (g 13), .ref (g 15), .int (nI nt)] → f_2 12 = eA G 4 10 hf → f_2 2 = eA G 3 2 imf → f_2 3 = eZ G 2 kf → f_2 4 = eO 4 [.ref (g 5), .int (nI mc), .int op, .int cm, .int wu] → f_2 5 = eI G 50 mk → f_2 6 = eO 2 [.long ab, .long be] → f_2 7 = eO 8 [.ref (g 8), .ref (g 9), .ref (g 10), .ref (g 11), .int (nI mn), .int le] → f_2 8 = eI G 6 wt → f_2 9 = eI G 6 ww → f_2 10 = eI G 6 wb → f_2 11 = eI G 6 wf → f_2 15 = eJ G 50 vv91 → f_2 36 = eO 0 [.ref (g 37), .ref (g 39), .ref (g 41), .ref (g 43), .ref (g 45), .ref (g 47), .ref (g 112), .int pay, .int fine] → f_2 37 = eO 5 [.int (nI 30), .int (nI 4), .ref (g 38), .int (nI np)] → f_2 38 = eI G (30 * 4) dp → f_2 39 = eO 5 [.int (nI 40), .int (nI 3), .ref (g 40), .int (nI nf)] → f_2 40 = eI G (40 * 3) df → f_2 41 = eO 5 [.int (nI 4), .int (nI 3), .ref (g 42), .int (nI nr)] → f_2 42 = eI G (4 * 3) dr → f_2 43 = eO 5 [.int (nI 20), .int (nI 3), .ref (g 44), .int (nI na)] → f_2 44 = eI G (20 * 3) da → f_2 45 = eO 5 [.int (nI 10), .int (nI 70), .ref (g 46), .int (nI nt)] → f_2 46 = eI G (10 * 70) ct → f_2 47 = eO 6 [.ref (g 48), .ref (g 49)] → f_2 48 = eA G 5 20 lf → f_2 112 = eO 6 [.ref (g 113), .ref (g 114)] → f_2 113 = eA G 5 4 tf → (∀ j, (j < 333 ∨ 333 ≤ j) → f_2 j = f_1 j) → va_P G.1 vwCl (wl g f_2) H → va_S (gA g) s.heap H locs → lv_has ls 4 [(0, .ref (g 0)), (1, .long u), (3, .int (nI i))] → W p l e (headSpec (wsT yX10_digest cX10_digest 4 (some .long)) ({ frames := 7, cells := 0, slots := 0, locals := 176 })).room s m ([.ref (g 0)] : List Value).toArray below meth c H locs 0 0 (MQ below (bQl G g (fun (z9 : Int64) (f' : Nat → va_E) => (cI G g f') ∧ ∀ j, 315 ≤ j → f' j = f j)) ([.ref (g 0)] : List Value).toArray s 0 0 (gA g)) (F0 m 13 ls []) := by
    intro n9_2
    induction n9_2 with
    | zero => intro i u f_2 H locs ls hi hH hS hL hT hB1 hB2 hn9_2; exact absurd hn9_2 (Nat.not_lt_zero _)
    | succ n9_2 ih_2 =>
      intro i u f_2 H locs ls hi hH hS hL hT hB1 hB2 hn9_2 hx0 hctc hhs him hkp hrd hmk hfc6 hwt hw8 hw9 hw10 hw11 hvl hbk hpr hpd hfr hfd hor hod har had htr hct hla hlaa hts0 htsa o_2 hP hS hl
      refine lv_iload_n hx hb dX10_digest_13 rfl (lv_at hl 2 rfl) ?_
      refine lv_iconst (v := 5) hx hb dX10_digest_14 (by decide) ?_
      refine lv_icmp_gt (tgt := 37) hx hb dX10_digest_15 (by decide) (fun c_15 => ?_) (fun c_15 => ?_)
      · refine lv_aload_n hx hb dX10_digest_37 rfl (lv_at hl 0 rfl) ?_
        refine va_get (D := G.1) (ci := 9) (v := .ref (g 36)) (C := RX10) (T := TX10) (N := 7) hx hb hts inlX10 hown hG.1 hP 0 (wl_at (by decide) hx0) rfl 1 (by decide) (hts (.fieldLink RX10 20 "SwornLists" "book" "LSwornLists$Book;") w_16) (fun _ h9 => h9) rfl dX10_digest_38 ?_
        refine va_getN (D := G.1) (ci := 0) (v := .ref (g 37)) (C := RX0) (T := TX0) (N := 9) (host := RX10) hx hb hts inlX0 hown hG.1 hP 36 (wl_at (by decide) hbk) rfl 0 (by decide) (va_Nw.use rfl (hG.2.1 (.fieldLinkNest RX10 57 RX0 "people" "LSwornLists$Rows;" RX10) (List.mem_of_getElem? (i := 0) rfl))) (fun _ h9 => h9) rfl dX10_digest_41 ?_
        refine lv_lload_n hx hb dX10_digest_44 rfl (lv_at hl 1 rfl) ?_
        refine rd_calll (va_runV (As := [.long u]) (rest := []) ⟨hx, hb, hml, hown, hts⟩ (r_foldAll l G g hg f_2 37 30 4 np dp u hpr hpd (by first | assumption | omega | decide) (by first | assumption | omega | decide) (by first | assumption | omega | decide) (by first | assumption | omega | decide)) (my_cwV hts ok_X5_foldAll w_949 rfl rfl ⟨Nat.le_of_ble_eq_true rfl, Nat.le_of_ble_eq_true rfl⟩) ⟨bP.blind, va_recv hG.1 hP (ci := 5) (q0 := 37) rfl (wl_at (by decide) hpr), fun U hU hW => ⟨rfl, by rw [hU]; exact hP, kG.warm hW hG⟩⟩ rfl rfl hl.1 rfl (lv_room (Nat.le_of_ble_eq_true rfl)) dX10_digest_45 ⟨Nat.le_of_ble_eq_true rfl, Nat.le_of_ble_eq_true rfl⟩) (fun v3 _ => ?_)
        refine lv_lstore_n (lv' := [(1, .long v3), (0, .ref (g 0)), (3, .int (nI i))]) hx hb dX10_digest_48 rfl hl (by decide) rfl (fun ls hl => ?_)
        refine lv_aload_n hx hb dX10_digest_49 rfl (lv_at hl 1 rfl) ?_
        refine va_get (D := G.1) (ci := 9) (v := .ref (g 36)) (C := RX10) (T := TX10) (N := 7) hx hb hts inlX10 hown hG.1 hP 0 (wl_at (by decide) hx0) rfl 1 (by decide) (hts (.fieldLink RX10 20 "SwornLists" "book" "LSwornLists$Book;") w_16) (fun _ h9 => h9) rfl dX10_digest_50 ?_
        refine va_getN (D := G.1) (ci := 0) (v := .ref (g 39)) (C := RX0) (T := TX0) (N := 9) (host := RX10) hx hb hts inlX0 hown hG.1 hP 36 (wl_at (by decide) hbk) rfl 1 (by decide) (va_Nw.use rfl (hG.2.1 (.fieldLinkNest RX10 82 RX0 "facts" "LSwornLists$Rows;" RX10) (List.mem_of_getElem? (i := 2) rfl))) (fun _ h9 => h9) rfl dX10_digest_53 ?_
        refine lv_lload_n hx hb dX10_digest_56 rfl (lv_at hl 0 rfl) ?_
        refine rd_calll (va_runV (As := [.long v3]) (rest := []) ⟨hx, hb, hml, hown, hts⟩ (r_foldAll l G g hg f_2 39 40 3 nf df v3 hfr hfd (by first | assumption | omega | decide) (by first | assumption | omega | decide) (by first | assumption | omega | decide) (by first | assumption | omega | decide)) (my_cwV hts ok_X5_foldAll w_949 rfl rfl ⟨Nat.le_of_ble_eq_true rfl, Nat.le_of_ble_eq_true rfl⟩) ⟨bP.blind, va_recv hG.1 hP (ci := 5) (q0 := 39) rfl (wl_at (by decide) hfr), fun U hU hW => ⟨rfl, by rw [hU]; exact hP, kG.warm hW hG⟩⟩ rfl rfl hl.1 rfl (lv_room (Nat.le_of_ble_eq_true rfl)) dX10_digest_57 ⟨Nat.le_of_ble_eq_true rfl, Nat.le_of_ble_eq_true rfl⟩) (fun v4 _ => ?_)
        refine lv_lstore_n (lv' := [(1, .long v4), (0, .ref (g 0)), (3, .int (nI i))]) hx hb dX10_digest_60 rfl hl (by decide) rfl (fun ls hl => ?_)
        refine lv_aload_n hx hb dX10_digest_61 rfl (lv_at hl 1 rfl) ?_
        refine va_get (D := G.1) (ci := 9) (v := .ref (g 36)) (C := RX10) (T := TX10) (N := 7) hx hb hts inlX10 hown hG.1 hP 0 (wl_at (by decide) hx0) rfl 1 (by decide) (hts (.fieldLink RX10 20 "SwornLists" "book" "LSwornLists$Book;") w_16) (fun _ h9 => h9) rfl dX10_digest_62 ?_
        refine va_getN (D := G.1) (ci := 0) (v := .ref (g 41)) (C := RX0) (T := TX0) (N := 9) (host := RX10) hx hb hts inlX0 hown hG.1 hP 36 (wl_at (by decide) hbk) rfl 2 (by decide) (va_Nw.use rfl (hG.2.1 (.fieldLinkNest RX10 88 RX0 "rolls" "LSwornLists$Rows;" RX10) (List.mem_of_getElem? (i := 3) rfl))) (fun _ h9 => h9) rfl dX10_digest_65 ?_
        refine lv_lload_n hx hb dX10_digest_68 rfl (lv_at hl 0 rfl) ?_
        refine rd_calll (va_runV (As := [.long v4]) (rest := []) ⟨hx, hb, hml, hown, hts⟩ (r_foldAll l G g hg f_2 41 4 3 nr dr v4 hor hod (by first | assumption | omega | decide) (by first | assumption | omega | decide) (by first | assumption | omega | decide) (by first | assumption | omega | decide)) (my_cwV hts ok_X5_foldAll w_949 rfl rfl ⟨Nat.le_of_ble_eq_true rfl, Nat.le_of_ble_eq_true rfl⟩) ⟨bP.blind, va_recv hG.1 hP (ci := 5) (q0 := 41) rfl (wl_at (by decide) hor), fun U hU hW => ⟨rfl, by rw [hU]; exact hP, kG.warm hW hG⟩⟩ rfl rfl hl.1 rfl (lv_room (Nat.le_of_ble_eq_true rfl)) dX10_digest_69 ⟨Nat.le_of_ble_eq_true rfl, Nat.le_of_ble_eq_true rfl⟩) (fun v5 _ => ?_)
        refine lv_lstore_n (lv' := [(1, .long v5), (0, .ref (g 0)), (3, .int (nI i))]) hx hb dX10_digest_72 rfl hl (by decide) rfl (fun ls hl => ?_)
        refine lv_iconst (v := 0) hx hb dX10_digest_73 (by decide) ?_
        refine lv_istore_n (lv' := [(3, .int 0), (1, .long v5), (0, .ref (g 0))]) hx hb dX10_digest_74 rfl hl (by decide) rfl (fun ls hl => ?_)
        have key6 : ∀ (n9_6 : Nat) (u : Int64) (i : Nat) (f_3 : Nat → va_E) (H : Heap) (locs : List Loc) (ls : Array Slot), (i ≤ na) → (∀ i, i < 10 → okH G g f_3 (2 * i + 16)) → (okH G g f_3 13) → (∀ i, i < 20 → okT G g f_3 (3 * i + 52)) → (∀ i, i < 4 → okT G g f_3 (3 * i + 117)) → (okB G g f_3 129) → (okB G g f_3 222) → na - i < n9_6 → f_3 0 = eO 9 [.ref (g 1), .ref (g 36), .ref (g 2), .ref (g 3), .ref (g 4), .ref (g 6), .ref (g 7)] → f_3 1 = eO 1 [.ref (g 36), .ref (g 12), .ref (g 13), .ref (g 15), .int (nI nt)] → f_3 12 = eA G 4 10 hf → f_3 2 = eA G 3 2 imf → f_3 3 = eZ G 2 kf → f_3 4 = eO 4 [.ref (g 5), .int (nI mc), .int op, .int cm, .int wu] → f_3 5 = eI G 50 mk → f_3 6 = eO 2 [.long ab, .long be] → f_3 7 = eO 8 [.ref (g 8), .ref (g 9), .ref (g 10), .ref (g 11), .int (nI mn), .int le] → f_3 8 = eI G 6 wt → f_3 9 = eI G 6 ww → f_3 10 = eI G 6 wb → f_3 11 = eI G 6 wf → f_3 15 = eJ G 50 vv91 → f_3 36 = eO 0 [.ref (g 37), .ref (g 39), .ref (g 41), .ref (g 43), .ref (g 45), .ref (g 47), .ref (g 112), .int pay, .int fine] → f_3 37 = eO 5 [.int (nI 30), .int (nI 4), .ref (g 38), .int (nI np)] → f_3 38 = eI G (30 * 4) dp → f_3 39 = eO 5 [.int (nI 40), .int (nI 3), .ref (g 40), .int (nI nf)] → f_3 40 = eI G (40 * 3) df → f_3 41 = eO 5 [.int (nI 4), .int (nI 3), .ref (g 42), .int (nI nr)] → f_3 42 = eI G (4 * 3) dr → f_3 43 = eO 5 [.int (nI 20), .int (nI 3), .ref (g 44), .int (nI na)] → f_3 44 = eI G (20 * 3) da → f_3 45 = eO 5 [.int (nI 10), .int (nI 70), .ref (g 46), .int (nI nt)] → f_3 46 = eI G (10 * 70) ct → f_3 47 = eO 6 [.ref (g 48), .ref (g 49)] → f_3 48 = eA G 5 20 lf → f_3 112 = eO 6 [.ref (g 113), .ref (g 114)] → f_3 113 = eA G 5 4 tf → (∀ j, (j < 333 ∨ 333 ≤ j) → f_3 j = f_2 j) → va_P G.1 vwCl (wl g f_3) H → va_S (gA g) s.heap H locs → lv_has ls 4 [(0, .ref (g 0)), (1, .long u), (3, .int (nI i))] → W p l e (headSpec (wsT yX10_digest cX10_digest 4 (some .long)) ({ frames := 7, cells := 0, slots := 0, locals := 176 })).room s m ([.ref (g 0)] : List Value).toArray below meth c H locs 0 0 (MQ below (bQl G g (fun (z9 : Int64) (f' : Nat → va_E) => (cI G g f') ∧ ∀ j, 315 ≤ j → f' j = f j)) ([.ref (g 0)] : List Value).toArray s 0 0 (gA g)) (F0 m 75 ls []) := by
          intro n9_6
          induction n9_6 with
          | zero => intro u i f_3 H locs ls hi hH hS hL hT hB1 hB2 hn9_6; exact absurd hn9_6 (Nat.not_lt_zero _)
          | succ n9_6 ih_6 =>
            intro u i f_3 H locs ls hi hH hS hL hT hB1 hB2 hn9_6 hx0 hctc hhs him hkp hrd hmk hfc6 hwt hw8 hw9 hw10 hw11 hvl hbk hpr hpd hfr hfd hor hod har had htr hct hla hlaa hts0 htsa o_3 hP hS hl
            refine lv_iload_n hx hb dX10_digest_75 rfl (lv_at hl 2 rfl) ?_
            refine lv_aload_n hx hb dX10_digest_76 rfl (lv_at hl 0 rfl) ?_
            refine va_get (D := G.1) (ci := 9) (v := .ref (g 36)) (C := RX10) (T := TX10) (N := 7) hx hb hts inlX10 hown hG.1 hP 0 (wl_at (by decide) hx0) rfl 1 (by decide) (hts (.fieldLink RX10 20 "SwornLists" "book" "LSwornLists$Book;") w_16) (fun _ h9 => h9) rfl dX10_digest_77 ?_
            refine va_getN (D := G.1) (ci := 0) (v := .ref (g 43)) (C := RX0) (T := TX0) (N := 9) (host := RX10) hx hb hts inlX0 hown hG.1 hP 36 (wl_at (by decide) hbk) rfl 3 (by decide) (va_Nw.use rfl (hG.2.1 (.fieldLinkNest RX10 134 RX0 "acts" "LSwornLists$Rows;" RX10) (List.mem_of_getElem? (i := 4) rfl))) (fun _ h9 => h9) rfl dX10_digest_80 ?_
            refine rd_calli (va_runV (As := []) (rest := [.int (nI i)]) ⟨hx, hb, hml, hown, hts⟩ (r_size l G g hg f_3 43 20 3 na har (by first | assumption | omega | decide) (by first | assumption | omega | decide) (by first | assumption | omega | decide) (by first | assumption | omega | decide)) (my_cwV hts ok_X5_size w_642 rfl rfl ⟨Nat.le_of_ble_eq_true rfl, Nat.le_of_ble_eq_true rfl⟩) ⟨bP.blind, va_recv hG.1 hP (ci := 5) (q0 := 43) rfl (wl_at (by decide) har), fun U hU hW => ⟨rfl, by rw [hU]; exact hP, kG.warm hW hG⟩⟩ rfl rfl hl.1 rfl (lv_room (Nat.le_of_ble_eq_true rfl)) dX10_digest_83 ⟨Nat.le_of_ble_eq_true rfl, Nat.le_of_ble_eq_true rfl⟩) (fun r hr9 => ?_)
            subst hr9
            refine lv_icmp_ge (tgt := 122) hx hb dX10_digest_86 (by decide) (fun c_86 => ?_) (fun c_86 => ?_)
            · refine lv_iconst (v := 0) hx hb dX10_digest_122 (by decide) ?_
              refine lv_istore_n (lv' := [(3, .int 0), (0, .ref (g 0)), (1, .long u)]) hx hb dX10_digest_123 rfl hl (by decide) rfl (fun ls hl => ?_)
              have key7 : ∀ (n9_7 : Nat) (u : Int64) (i : Nat) (f_4 : Nat → va_E) (H : Heap) (locs : List Loc) (ls : Array Slot), (i ≤ nt) → (∀ i, i < 10 → okH G g f_4 (2 * i + 16)) → (okH G g f_4 13) → (∀ i, i < 20 → okT G g f_4 (3 * i + 52)) → (∀ i, i < 4 → okT G g f_4 (3 * i + 117)) → (okB G g f_4 129) → (okB G g f_4 222) → nt - i < n9_7 → f_4 0 = eO 9 [.ref (g 1), .ref (g 36), .ref (g 2), .ref (g 3), .ref (g 4), .ref (g 6), .ref (g 7)] → f_4 1 = eO 1 [.ref (g 36), .ref (g 12), .ref (g 13), .ref (g 15), .int (nI nt)] → f_4 12 = eA G 4 10 hf → f_4 2 = eA G 3 2 imf → f_4 3 = eZ G 2 kf → f_4 4 = eO 4 [.ref (g 5), .int (nI mc), .int op, .int cm, .int wu] → f_4 5 = eI G 50 mk → f_4 6 = eO 2 [.long ab, .long be] → f_4 7 = eO 8 [.ref (g 8), .ref (g 9), .ref (g 10), .ref (g 11), .int (nI mn), .int le] → f_4 8 = eI G 6 wt → f_4 9 = eI G 6 ww → f_4 10 = eI G 6 wb → f_4 11 = eI G 6 wf → f_4 15 = eJ G 50 vv91 → f_4 36 = eO 0 [.ref (g 37), .ref (g 39), .ref (g 41), .ref (g 43), .ref (g 45), .ref (g 47), .ref (g 112), .int pay, .int fine] → f_4 37 = eO 5 [.int (nI 30), .int (nI 4), .ref (g 38), .int (nI np)] → f_4 38 = eI G (30 * 4) dp → f_4 39 = eO 5 [.int (nI 40), .int (nI 3), .ref (g 40), .int (nI nf)] → f_4 40 = eI G (40 * 3) df → f_4 41 = eO 5 [.int (nI 4), .int (nI 3), .ref (g 42), .int (nI nr)] → f_4 42 = eI G (4 * 3) dr → f_4 43 = eO 5 [.int (nI 20), .int (nI 3), .ref (g 44), .int (nI na)] → f_4 44 = eI G (20 * 3) da → f_4 45 = eO 5 [.int (nI 10), .int (nI 70), .ref (g 46), .int (nI nt)] → f_4 46 = eI G (10 * 70) ct → f_4 47 = eO 6 [.ref (g 48), .ref (g 49)] → f_4 48 = eA G 5 20 lf → f_4 112 = eO 6 [.ref (g 113), .ref (g 114)] → f_4 113 = eA G 5 4 tf → (∀ j, (j < 333 ∨ 333 ≤ j) → f_4 j = f_3 j) → va_P G.1 vwCl (wl g f_4) H → va_S (gA g) s.heap H locs → lv_has ls 4 [(0, .ref (g 0)), (1, .long u), (3, .int (nI i))] → W p l e (headSpec (wsT yX10_digest cX10_digest 4 (some .long)) ({ frames := 7, cells := 0, slots := 0, locals := 176 })).room s m ([.ref (g 0)] : List Value).toArray below meth c H locs 0 0 (MQ below (bQl G g (fun (z9 : Int64) (f' : Nat → va_E) => (cI G g f') ∧ ∀ j, 315 ≤ j → f' j = f j)) ([.ref (g 0)] : List Value).toArray s 0 0 (gA g)) (F0 m 124 ls []) := by
                intro n9_7
                induction n9_7 with
                | zero => intro u i f_4 H locs ls hi hH hS hL hT hB1 hB2 hn9_7; exact absurd hn9_7 (Nat.not_lt_zero _)
                | succ n9_7 ih_7 =>
                  intro u i f_4 H locs ls hi hH hS hL hT hB1 hB2 hn9_7 hx0 hctc hhs him hkp hrd hmk hfc6 hwt hw8 hw9 hw10 hw11 hvl hbk hpr hpd hfr hfd hor hod har had htr hct hla hlaa hts0 htsa o_4 hP hS hl
                  refine lv_iload_n hx hb dX10_digest_124 rfl (lv_at hl 2 rfl) ?_
                  refine lv_aload_n hx hb dX10_digest_125 rfl (lv_at hl 0 rfl) ?_
                  refine va_get (D := G.1) (ci := 9) (v := .ref (g 36)) (C := RX10) (T := TX10) (N := 7) hx hb hts inlX10 hown hG.1 hP 0 (wl_at (by decide) hx0) rfl 1 (by decide) (hts (.fieldLink RX10 20 "SwornLists" "book" "LSwornLists$Book;") w_16) (fun _ h9 => h9) rfl dX10_digest_126 ?_
                  refine va_getN (D := G.1) (ci := 0) (v := .ref (g 45)) (C := RX0) (T := TX0) (N := 9) (host := RX10) hx hb hts inlX0 hown hG.1 hP 36 (wl_at (by decide) hbk) rfl 4 (by decide) (va_Nw.use rfl (hG.2.1 (.fieldLinkNest RX10 162 RX0 "trials" "LSwornLists$Rows;" RX10) (List.mem_of_getElem? (i := 7) rfl))) (fun _ h9 => h9) rfl dX10_digest_129 ?_
                  refine rd_calli (va_runV (As := []) (rest := [.int (nI i)]) ⟨hx, hb, hml, hown, hts⟩ (r_size l G g hg f_4 45 10 70 nt htr (by first | assumption | omega | decide) (by first | assumption | omega | decide) (by first | assumption | omega | decide) (by first | assumption | omega | decide)) (my_cwV hts ok_X5_size w_642 rfl rfl ⟨Nat.le_of_ble_eq_true rfl, Nat.le_of_ble_eq_true rfl⟩) ⟨bP.blind, va_recv hG.1 hP (ci := 5) (q0 := 45) rfl (wl_at (by decide) htr), fun U hU hW => ⟨rfl, by rw [hU]; exact hP, kG.warm hW hG⟩⟩ rfl rfl hl.1 rfl (lv_room (Nat.le_of_ble_eq_true rfl)) dX10_digest_132 ⟨Nat.le_of_ble_eq_true rfl, Nat.le_of_ble_eq_true rfl⟩) (fun r hr9 => ?_)
                  subst hr9
                  refine lv_icmp_ge (tgt := 157) hx hb dX10_digest_135 (by decide) (fun c_135 => ?_) (fun c_135 => ?_)
                  · refine lv_iconst (v := 0) hx hb dX10_digest_157 (by decide) ?_
                    refine lv_istore_n (lv' := [(3, .int 0), (0, .ref (g 0)), (1, .long u)]) hx hb dX10_digest_158 rfl hl (by decide) rfl (fun ls hl => ?_)
                    have key8 : ∀ (n9_8 : Nat) (u : Int64) (i : Nat) (f_5 : Nat → va_E) (H : Heap) (locs : List Loc) (ls : Array Slot), (i ≤ 4) → (∀ i, i < 10 → okH G g f_5 (2 * i + 16)) → (okH G g f_5 13) → (∀ i, i < 20 → okT G g f_5 (3 * i + 52)) → (∀ i, i < 4 → okT G g f_5 (3 * i + 117)) → (okB G g f_5 129) → (okB G g f_5 222) → 4 - i < n9_8 → f_5 0 = eO 9 [.ref (g 1), .ref (g 36), .ref (g 2), .ref (g 3), .ref (g 4), .ref (g 6), .ref (g 7)] → f_5 1 = eO 1 [.ref (g 36), .ref (g 12), .ref (g 13), .ref (g 15), .int (nI nt)] → f_5 12 = eA G 4 10 hf → f_5 2 = eA G 3 2 imf → f_5 3 = eZ G 2 kf → f_5 4 = eO 4 [.ref (g 5), .int (nI mc), .int op, .int cm, .int wu] → f_5 5 = eI G 50 mk → f_5 6 = eO 2 [.long ab, .long be] → f_5 7 = eO 8 [.ref (g 8), .ref (g 9), .ref (g 10), .ref (g 11), .int (nI mn), .int le] → f_5 8 = eI G 6 wt → f_5 9 = eI G 6 ww → f_5 10 = eI G 6 wb → f_5 11 = eI G 6 wf → f_5 15 = eJ G 50 vv91 → f_5 36 = eO 0 [.ref (g 37), .ref (g 39), .ref (g 41), .ref (g 43), .ref (g 45), .ref (g 47), .ref (g 112), .int pay, .int fine] → f_5 37 = eO 5 [.int (nI 30), .int (nI 4), .ref (g 38), .int (nI np)] → f_5 38 = eI G (30 * 4) dp → f_5 39 = eO 5 [.int (nI 40), .int (nI 3), .ref (g 40), .int (nI nf)] → f_5 40 = eI G (40 * 3) df → f_5 41 = eO 5 [.int (nI 4), .int (nI 3), .ref (g 42), .int (nI nr)] → f_5 42 = eI G (4 * 3) dr → f_5 43 = eO 5 [.int (nI 20), .int (nI 3), .ref (g 44), .int (nI na)] → f_5 44 = eI G (20 * 3) da → f_5 45 = eO 5 [.int (nI 10), .int (nI 70), .ref (g 46), .int (nI nt)] → f_5 46 = eI G (10 * 70) ct → f_5 47 = eO 6 [.ref (g 48), .ref (g 49)] → f_5 48 = eA G 5 20 lf → f_5 112 = eO 6 [.ref (g 113), .ref (g 114)] → f_5 113 = eA G 5 4 tf → (∀ j, (j < 333 ∨ 333 ≤ j) → f_5 j = f_4 j) → va_P G.1 vwCl (wl g f_5) H → va_S (gA g) s.heap H locs → lv_has ls 4 [(0, .ref (g 0)), (1, .long u), (3, .int (nI i))] → W p l e (headSpec (wsT yX10_digest cX10_digest 4 (some .long)) ({ frames := 7, cells := 0, slots := 0, locals := 176 })).room s m ([.ref (g 0)] : List Value).toArray below meth c H locs 0 0 (MQ below (bQl G g (fun (z9 : Int64) (f' : Nat → va_E) => (cI G g f') ∧ ∀ j, 315 ≤ j → f' j = f j)) ([.ref (g 0)] : List Value).toArray s 0 0 (gA g)) (F0 m 159 ls []) := by
                      intro n9_8
                      induction n9_8 with
                      | zero => intro u i f_5 H locs ls hi hH hS hL hT hB1 hB2 hn9_8; exact absurd hn9_8 (Nat.not_lt_zero _)
                      | succ n9_8 ih_8 =>
                        intro u i f_5 H locs ls hi hH hS hL hT hB1 hB2 hn9_8 hx0 hctc hhs him hkp hrd hmk hfc6 hwt hw8 hw9 hw10 hw11 hvl hbk hpr hpd hfr hfd hor hod har had htr hct hla hlaa hts0 htsa o_5 hP hS hl
                        refine lv_iload_n hx hb dX10_digest_159 rfl (lv_at hl 2 rfl) ?_
                        refine lv_iconst (v := 4) hx hb dX10_digest_160 (by decide) ?_
                        refine lv_icmp_ge (tgt := 186) hx hb dX10_digest_161 (by decide) (fun c_161 => ?_) (fun c_161 => ?_)
                        · refine lv_ldc2 (v := 31) hx hb hown (hts (.constantLong RX10 268 (31)) w_948) dX10_digest_186 ?_
                          refine lv_lload_n hx hb dX10_digest_189 rfl (lv_at hl 1 rfl) ?_
                          refine lv_lmul hx hb dX10_digest_190 ?_
                          refine lv_aload_n hx hb dX10_digest_191 rfl (lv_at hl 0 rfl) ?_
                          refine va_get (D := G.1) (ci := 9) (v := .ref (g 36)) (C := RX10) (T := TX10) (N := 7) hx hb hts inlX10 hown hG.1 hP 0 (wl_at (by decide) hx0) rfl 1 (by decide) (hts (.fieldLink RX10 20 "SwornLists" "book" "LSwornLists$Book;") w_16) (fun _ h9 => h9) rfl dX10_digest_192 ?_
                          refine va_getN (D := G.1) (ci := 0) (v := .int pay) (C := RX0) (T := TX0) (N := 9) (host := RX10) hx hb hts inlX0 hown hG.1 hP 36 (wl_at (by decide) hbk) rfl 7 (by decide) (va_Nw.use rfl (hG.2.1 (.fieldLinkNest RX10 201 RX0 "pay" "I" RX10) (List.mem_of_getElem? (i := 10) rfl))) (fun _ h9 => h9) rfl dX10_digest_195 ?_
                          refine lv_i2l hx hb dX10_digest_198 rfl ?_
                          refine lv_ladd hx hb dX10_digest_199 ?_
                          refine lv_lstore_n (lv' := [(1, .long ((31 * u) + (Int32.toInt64 pay))), (0, .ref (g 0)), (3, .int (nI i))]) hx hb dX10_digest_200 rfl hl (by decide) rfl (fun ls hl => ?_)
                          refine lv_ldc2 (v := 31) hx hb hown (hts (.constantLong RX10 268 (31)) w_948) dX10_digest_201 ?_
                          refine lv_lload_n hx hb dX10_digest_204 rfl (lv_at hl 0 rfl) ?_
                          refine lv_lmul hx hb dX10_digest_205 ?_
                          refine lv_aload_n hx hb dX10_digest_206 rfl (lv_at hl 1 rfl) ?_
                          refine va_get (D := G.1) (ci := 9) (v := .ref (g 36)) (C := RX10) (T := TX10) (N := 7) hx hb hts inlX10 hown hG.1 hP 0 (wl_at (by decide) hx0) rfl 1 (by decide) (hts (.fieldLink RX10 20 "SwornLists" "book" "LSwornLists$Book;") w_16) (fun _ h9 => h9) rfl dX10_digest_207 ?_
                          refine va_getN (D := G.1) (ci := 0) (v := .int fine) (C := RX0) (T := TX0) (N := 9) (host := RX10) hx hb hts inlX0 hown hG.1 hP 36 (wl_at (by decide) hbk) rfl 8 (by decide) (va_Nw.use rfl (hG.2.1 (.fieldLinkNest RX10 204 RX0 "fine" "I" RX10) (List.mem_of_getElem? (i := 11) rfl))) (fun _ h9 => h9) rfl dX10_digest_210 ?_
                          refine lv_i2l hx hb dX10_digest_213 rfl ?_
                          refine lv_ladd hx hb dX10_digest_214 ?_
                          refine lv_lstore_n (lv' := [(1, .long ((31 * ((31 * u) + (Int32.toInt64 pay))) + (Int32.toInt64 fine))), (0, .ref (g 0)), (3, .int (nI i))]) hx hb dX10_digest_215 rfl hl (by decide) rfl (fun ls hl => ?_)
                          refine lv_ldc2 (v := 31) hx hb hown (hts (.constantLong RX10 268 (31)) w_948) dX10_digest_216 ?_
                          refine lv_lload_n hx hb dX10_digest_219 rfl (lv_at hl 0 rfl) ?_
                          refine lv_lmul hx hb dX10_digest_220 ?_
                          refine lv_aload_n hx hb dX10_digest_221 rfl (lv_at hl 1 rfl) ?_
                          refine va_get (D := G.1) (ci := 9) (v := .ref (g 6)) (C := RX10) (T := TX10) (N := 7) hx hb hts inlX10 hown hG.1 hP 0 (wl_at (by decide) hx0) rfl 5 (by decide) (hts (.fieldLink RX10 41 "SwornLists" "fraction" "LSwornLists$Fraction;") w_28) (fun _ h9 => h9) rfl dX10_digest_222 ?_
                          refine va_getN (D := G.1) (ci := 2) (v := .long ab) (C := RX2) (T := TX2) (N := 2) (host := RX10) hx hb hts inlX2 hown hG.1 hP 6 (wl_at (by decide) hfc6) rfl 0 (by decide) (va_Nw.use rfl (hG.2.1 (.fieldLinkNest RX10 227 RX2 "above" "J" RX10) (List.mem_of_getElem? (i := 19) rfl))) (fun _ h9 => h9) rfl dX10_digest_225 ?_
                          refine lv_ladd hx hb dX10_digest_228 ?_
                          refine lv_lstore_n (lv' := [(1, .long ((31 * ((31 * ((31 * u) + (Int32.toInt64 pay))) + (Int32.toInt64 fine))) + ab)), (0, .ref (g 0)), (3, .int (nI i))]) hx hb dX10_digest_229 rfl hl (by decide) rfl (fun ls hl => ?_)
                          refine lv_ldc2 (v := 31) hx hb hown (hts (.constantLong RX10 268 (31)) w_948) dX10_digest_230 ?_
                          refine lv_lload_n hx hb dX10_digest_233 rfl (lv_at hl 0 rfl) ?_
                          refine lv_lmul hx hb dX10_digest_234 ?_
                          refine lv_aload_n hx hb dX10_digest_235 rfl (lv_at hl 1 rfl) ?_
                          refine va_get (D := G.1) (ci := 9) (v := .ref (g 6)) (C := RX10) (T := TX10) (N := 7) hx hb hts inlX10 hown hG.1 hP 0 (wl_at (by decide) hx0) rfl 5 (by decide) (hts (.fieldLink RX10 41 "SwornLists" "fraction" "LSwornLists$Fraction;") w_28) (fun _ h9 => h9) rfl dX10_digest_236 ?_
                          refine va_getN (D := G.1) (ci := 2) (v := .long be) (C := RX2) (T := TX2) (N := 2) (host := RX10) hx hb hts inlX2 hown hG.1 hP 6 (wl_at (by decide) hfc6) rfl 1 (by decide) (va_Nw.use rfl (hG.2.1 (.fieldLinkNest RX10 231 RX2 "below" "J" RX10) (List.mem_of_getElem? (i := 20) rfl))) (fun _ h9 => h9) rfl dX10_digest_239 ?_
                          refine lv_ladd hx hb dX10_digest_242 ?_
                          exact W.lret (v := (31 * ((31 * ((31 * ((31 * u) + (Int32.toInt64 pay))) + (Int32.toInt64 fine))) + ab)) + be) hx hb hr (fun t ht hW => ⟨⟨_, f_5, rfl, (⟨⟨nt, hf, imf, kf, mc, op, cm, wu, mk, ab, be, mn, le, wt, ww, wb, wf, vv91, pay, fine, np, dp, nf, df, nr, dr, na, da, nt, ct, lf, tf, hx0, hctc, hhs, him, hkp, hrd, hmk, hfc6, hwt, hw8, hw9, hw10, hw11, hvl, hbk, hpr, hpd, hfr, hfd, hor, hod, har, had, htr, hct, hla, hlaa, hts0, htsa, by omega, hhf, him0, him1, by omega, by omega, by omega, by omega, by omega, by omega, by omega, hlf, htf, hH, hS, hL, hT, hB1, hB2⟩, fun j hj => (((((o_5 j (by omega))).trans (o_4 j (by omega))).trans (o_3 j (by omega))).trans (o_2 j (by omega))).trans (o_1 j (by omega))⟩), by rw [ht]; exact hP⟩, hS.F ht⟩) hS.2.2 dX10_digest_243
                        · have hi9 : i < 4 := Nat.not_le.mp (fun z => c_161 (nI_le z (by omega)))
                          obtain ⟨ln7, sc7, sg7, sp7, htx7, hsx7, hpx7, hln7, hsc7⟩ := hT i (by omega)
                          refine lv_aload_n hx hb dX10_digest_164 rfl (lv_at hl 0 rfl) ?_
                          refine va_get (D := G.1) (ci := 9) (v := .ref (g 36)) (C := RX10) (T := TX10) (N := 7) hx hb hts inlX10 hown hG.1 hP 0 (wl_at (by decide) hx0) rfl 1 (by decide) (hts (.fieldLink RX10 20 "SwornLists" "book" "LSwornLists$Book;") w_16) (fun _ h9 => h9) rfl dX10_digest_165 ?_
                          refine va_getN (D := G.1) (ci := 0) (v := .ref (g 112)) (C := RX0) (T := TX0) (N := 9) (host := RX10) hx hb hts inlX0 hown hG.1 hP 36 (wl_at (by decide) hbk) rfl 6 (by decide) (va_Nw.use rfl (hG.2.1 (.fieldLinkNest RX10 98 RX0 "texts" "LSwornLists$Shelf;" RX10) (List.mem_of_getElem? (i := 9) rfl))) (fun _ h9 => h9) rfl dX10_digest_168 ?_
                          refine lv_iload_n hx hb dX10_digest_171 rfl (lv_at hl 2 rfl) ?_
                          refine rd_calla (va_runV (As := [.int (nI i)]) (rest := []) ⟨hx, hb, hml, hown, hts⟩ (w_get l G g hg f_5 112 4 tf i hts0 htsa (by first | assumption | omega | decide) (by first | assumption | omega | decide) (by first | assumption | omega | decide) (by first | assumption | omega | decide)) (my_cwV hts ok_X6_get w_245 rfl rfl ⟨Nat.le_of_ble_eq_true rfl, Nat.le_of_ble_eq_true rfl⟩) ⟨bP.blind, va_recv hG.1 hP (ci := 6) (q0 := 112) rfl (wl_at (by decide) hts0), fun U hU hW => ⟨rfl, by rw [hU]; exact hP, kG.warm hW hG⟩⟩ rfl rfl hl.1 rfl (lv_room (Nat.le_of_ble_eq_true rfl)) dX10_digest_172 ⟨Nat.le_of_ble_eq_true rfl, Nat.le_of_ble_eq_true rfl⟩) (fun r hr9 => ?_)
                          subst hr9
                          refine my_bea (v := .ref (g (3 * i + 117))) (by rw [show 112 + 3 * i + 5 = 3 * i + 117 by omega]) ?_
                          refine lv_lload_n hx hb dX10_digest_175 rfl (lv_at hl 1 rfl) ?_
                          refine rd_calll (va_runV (As := [.long u]) (rest := []) ⟨hx, hb, hml, hown, hts⟩ (t_fold l G g hg f_5 (3 * i + 117) ln7 sc7 sg7 u htx7 hsx7 (by first | assumption | omega | decide) (by first | assumption | omega | decide) (by first | assumption | omega | decide)) (my_cwV hts ok_X8_fold w_960 rfl rfl ⟨Nat.le_of_ble_eq_true rfl, Nat.le_of_ble_eq_true rfl⟩) ⟨bP.blind, va_recv hG.1 hP (ci := 7) (q0 := (3 * i + 117)) rfl (wl_at (by omega) htx7), fun U hU hW => ⟨rfl, by rw [hU]; exact hP, kG.warm hW hG⟩⟩ rfl rfl hl.1 rfl (lv_room (Nat.le_of_ble_eq_true rfl)) dX10_digest_176 ⟨Nat.le_of_ble_eq_true rfl, Nat.le_of_ble_eq_true rfl⟩) (fun v9 _ => ?_)
                          refine lv_lstore_n (lv' := [(1, .long v9), (0, .ref (g 0)), (3, .int (nI i))]) hx hb dX10_digest_179 rfl hl (by decide) rfl (fun ls hl => ?_)
                          refine lv_iinc (v := nI (i + 1)) (lv' := [(3, .int (nI (i + 1))), (1, .long v9), (0, .ref (g 0))]) hx hb dX10_digest_180 hl (k := 2) rfl (nI_1 i) (by decide) rfl (fun ls hl => ?_)
                          refine lv_goto (tgt := 159) hx hb dX10_digest_183 (by decide) ?_
                          exact ih_8 v9 (i + 1) f_5 _ _ _ (hi9) (hH) (hS) (hL) (hT) (hB1) (hB2) (by omega) (hx0) (hctc) (hhs) (him) (hkp) (hrd) (hmk) (hfc6) (hwt) (hw8) (hw9) (hw10) (hw11) (hvl) (hbk) (hpr) (hpd) (hfr) (hfd) (hor) (hod) (har) (had) (htr) (hct) (hla) (hlaa) (hts0) (htsa) (fun j hj => (o_5 j (by omega))) hP hS (lv_sub hl [2, 1, 0] rfl)
                    exact key8 (4 + 1) u 0 f_4 _ _ _ (Nat.zero_le _) (hH) (hS) (hL) (hT) (hB1) (hB2) (by omega) (hx0) (hctc) (hhs) (him) (hkp) (hrd) (hmk) (hfc6) (hwt) (hw8) (hw9) (hw10) (hw11) (hvl) (hbk) (hpr) (hpd) (hfr) (hfd) (hor) (hod) (har) (had) (htr) (hct) (hla) (hlaa) (hts0) (htsa) (fun j _ => rfl) hP hS (lv_sub hl [1, 2, 0] rfl)
                  · have hi9 : i < nt := Nat.not_le.mp (fun z => c_135 (nI_le z (by omega)))
                    obtain ⟨sl7, lo7, ib7, ca7, mi7, s07, s17, sw7, od7, hh7, ho7, hs7⟩ := hH i (by omega)
                    refine lv_aload_n hx hb dX10_digest_138 rfl (lv_at hl 0 rfl) ?_
                    refine va_get (D := G.1) (ci := 9) (v := .ref (g 1)) (C := RX10) (T := TX10) (N := 7) hx hb hts inlX10 hown hG.1 hP 0 (wl_at (by decide) hx0) rfl 0 (by decide) (hts (.fieldLink RX10 12 "SwornLists" "court" "LSwornLists$Court;") w_15) (fun _ h9 => h9) rfl dX10_digest_139 ?_
                    refine lv_iload_n hx hb dX10_digest_142 rfl (lv_at hl 2 rfl) ?_
                    refine rd_calla (va_runV (As := [.int (nI i)]) (rest := []) ⟨hx, hb, hml, hown, hts⟩ (u_hearing l G g hg f_4 nt hf i hctc hhs (by first | assumption | omega | decide) (by first | assumption | omega | decide) (by first | assumption | omega | decide)) (my_cwV hts ok_X1_hearing w_675 rfl rfl ⟨Nat.le_of_ble_eq_true rfl, Nat.le_of_ble_eq_true rfl⟩) ⟨bP.blind, va_recv hG.1 hP (ci := 1) (q0 := 1) rfl (wl_at (by decide) hctc), fun U hU hW => ⟨rfl, by rw [hU]; exact hP, kG.warm hW hG⟩⟩ rfl rfl hl.1 rfl (lv_room (Nat.le_of_ble_eq_true rfl)) dX10_digest_143 ⟨Nat.le_of_ble_eq_true rfl, Nat.le_of_ble_eq_true rfl⟩) (fun r hr9 => ?_)
                    subst hr9
                    refine lv_lload_n hx hb dX10_digest_146 rfl (lv_at hl 1 rfl) ?_
                    refine rd_calll (va_runV (As := [.long u]) (rest := []) ⟨hx, hb, hml, hown, hts⟩ (h_fold l G g hg f_4 (2 * i + 16) sl7 lo7 ib7 ca7 mi7 s07 s17 sw7 u hh7 (by first | assumption | omega | decide) (by first | assumption | omega | decide)) (my_cwV hts ok_X3_fold w_965 rfl rfl ⟨Nat.le_of_ble_eq_true rfl, Nat.le_of_ble_eq_true rfl⟩) ⟨bP.blind, va_recv hG.1 hP (ci := 3) (q0 := (2 * i + 16)) rfl (wl_at (by omega) hh7), fun U hU hW => ⟨rfl, by rw [hU]; exact hP, kG.warm hW hG⟩⟩ rfl rfl hl.1 rfl (lv_room (Nat.le_of_ble_eq_true rfl)) dX10_digest_147 ⟨Nat.le_of_ble_eq_true rfl, Nat.le_of_ble_eq_true rfl⟩) (fun v10 _ => ?_)
                    refine lv_lstore_n (lv' := [(1, .long v10), (0, .ref (g 0)), (3, .int (nI i))]) hx hb dX10_digest_150 rfl hl (by decide) rfl (fun ls hl => ?_)
                    refine lv_iinc (v := nI (i + 1)) (lv' := [(3, .int (nI (i + 1))), (1, .long v10), (0, .ref (g 0))]) hx hb dX10_digest_151 hl (k := 2) rfl (nI_1 i) (by decide) rfl (fun ls hl => ?_)
                    refine lv_goto (tgt := 124) hx hb dX10_digest_154 (by decide) ?_
                    exact ih_7 v10 (i + 1) f_4 _ _ _ (hi9) (hH) (hS) (hL) (hT) (hB1) (hB2) (by omega) (hx0) (hctc) (hhs) (him) (hkp) (hrd) (hmk) (hfc6) (hwt) (hw8) (hw9) (hw10) (hw11) (hvl) (hbk) (hpr) (hpd) (hfr) (hfd) (hor) (hod) (har) (had) (htr) (hct) (hla) (hlaa) (hts0) (htsa) (fun j hj => (o_4 j (by omega))) hP hS (lv_sub hl [2, 1, 0] rfl)
              exact key7 (nt + 1) u 0 f_3 _ _ _ (Nat.zero_le _) (hH) (hS) (hL) (hT) (hB1) (hB2) (by omega) (hx0) (hctc) (hhs) (him) (hkp) (hrd) (hmk) (hfc6) (hwt) (hw8) (hw9) (hw10) (hw11) (hvl) (hbk) (hpr) (hpd) (hfr) (hfd) (hor) (hod) (har) (had) (htr) (hct) (hla) (hlaa) (hts0) (htsa) (fun j _ => rfl) hP hS (lv_sub hl [1, 2, 0] rfl)
            · have hi9 : i < na := Nat.not_le.mp (fun z => c_86 (nI_le z (by omega)))
              obtain ⟨ln8, sc8, sg8, sp8, htx8, hsx8, hpx8, hln8, hsc8⟩ := hL i (by omega)
              refine lv_aload_n hx hb dX10_digest_89 rfl (lv_at hl 0 rfl) ?_
              refine va_get (D := G.1) (ci := 9) (v := .ref (g 36)) (C := RX10) (T := TX10) (N := 7) hx hb hts inlX10 hown hG.1 hP 0 (wl_at (by decide) hx0) rfl 1 (by decide) (hts (.fieldLink RX10 20 "SwornLists" "book" "LSwornLists$Book;") w_16) (fun _ h9 => h9) rfl dX10_digest_90 ?_
              refine va_getN (D := G.1) (ci := 0) (v := .ref (g 47)) (C := RX0) (T := TX0) (N := 9) (host := RX10) hx hb hts inlX0 hown hG.1 hP 36 (wl_at (by decide) hbk) rfl 5 (by decide) (va_Nw.use rfl (hG.2.1 (.fieldLinkNest RX10 137 RX0 "laws" "LSwornLists$Shelf;" RX10) (List.mem_of_getElem? (i := 8) rfl))) (fun _ h9 => h9) rfl dX10_digest_93 ?_
              refine lv_iload_n hx hb dX10_digest_96 rfl (lv_at hl 2 rfl) ?_
              refine rd_calla (va_runV (As := [.int (nI i)]) (rest := []) ⟨hx, hb, hml, hown, hts⟩ (w_get l G g hg f_3 47 20 lf i hla hlaa (by first | assumption | omega | decide) (by first | assumption | omega | decide) (by first | assumption | omega | decide) (by first | assumption | omega | decide)) (my_cwV hts ok_X6_get w_245 rfl rfl ⟨Nat.le_of_ble_eq_true rfl, Nat.le_of_ble_eq_true rfl⟩) ⟨bP.blind, va_recv hG.1 hP (ci := 6) (q0 := 47) rfl (wl_at (by decide) hla), fun U hU hW => ⟨rfl, by rw [hU]; exact hP, kG.warm hW hG⟩⟩ rfl rfl hl.1 rfl (lv_room (Nat.le_of_ble_eq_true rfl)) dX10_digest_97 ⟨Nat.le_of_ble_eq_true rfl, Nat.le_of_ble_eq_true rfl⟩) (fun r hr9 => ?_)
              subst hr9
              refine my_bea (v := .ref (g (3 * i + 52))) (by rw [show 47 + 3 * i + 5 = 3 * i + 52 by omega]) ?_
              refine lv_aload_n hx hb dX10_digest_100 rfl (lv_at hl 0 rfl) ?_
              refine va_get (D := G.1) (ci := 9) (v := .ref (g 36)) (C := RX10) (T := TX10) (N := 7) hx hb hts inlX10 hown hG.1 hP 0 (wl_at (by decide) hx0) rfl 1 (by decide) (hts (.fieldLink RX10 20 "SwornLists" "book" "LSwornLists$Book;") w_16) (fun _ h9 => h9) rfl dX10_digest_101 ?_
              refine va_getN (D := G.1) (ci := 0) (v := .ref (g 43)) (C := RX0) (T := TX0) (N := 9) (host := RX10) hx hb hts inlX0 hown hG.1 hP 36 (wl_at (by decide) hbk) rfl 3 (by decide) (va_Nw.use rfl (hG.2.1 (.fieldLinkNest RX10 134 RX0 "acts" "LSwornLists$Rows;" RX10) (List.mem_of_getElem? (i := 4) rfl))) (fun _ h9 => h9) rfl dX10_digest_104 ?_
              refine lv_lload_n hx hb dX10_digest_107 rfl (lv_at hl 1 rfl) ?_
              refine lv_iload_n hx hb dX10_digest_108 rfl (lv_at hl 2 rfl) ?_
              refine rd_calll (va_runV (As := [.long u, .int (nI i)]) (rest := [.ref (g (3 * i + 52))]) ⟨hx, hb, hml, hown, hts⟩ (r_foldRow l G g hg f_3 43 20 3 na da u (nI i) har had (by first | assumption | omega | decide) (by first | assumption | omega | decide) (by first | assumption | omega | decide) (by first | assumption | omega | decide)) (my_cwV hts ok_X5_foldRow w_959 rfl rfl ⟨Nat.le_of_ble_eq_true rfl, Nat.le_of_ble_eq_true rfl⟩) ⟨bP.blind, va_recv hG.1 hP (ci := 5) (q0 := 43) rfl (wl_at (by decide) har), fun U hU hW => ⟨rfl, by rw [hU]; exact hP, kG.warm hW hG⟩⟩ rfl rfl hl.1 rfl (lv_room (Nat.le_of_ble_eq_true rfl)) dX10_digest_109 ⟨Nat.le_of_ble_eq_true rfl, Nat.le_of_ble_eq_true rfl⟩) (fun v11 _ => ?_)
              refine rd_calll (va_runV (As := [.long v11]) (rest := []) ⟨hx, hb, hml, hown, hts⟩ (t_fold l G g hg f_3 (3 * i + 52) ln8 sc8 sg8 v11 htx8 hsx8 (by first | assumption | omega | decide) (by first | assumption | omega | decide) (by first | assumption | omega | decide)) (my_cwV hts ok_X8_fold w_960 rfl rfl ⟨Nat.le_of_ble_eq_true rfl, Nat.le_of_ble_eq_true rfl⟩) ⟨bP.blind, va_recv hG.1 hP (ci := 7) (q0 := (3 * i + 52)) rfl (wl_at (by omega) htx8), fun U hU hW => ⟨rfl, by rw [hU]; exact hP, kG.warm hW hG⟩⟩ rfl rfl hl.1 rfl (lv_room (Nat.le_of_ble_eq_true rfl)) dX10_digest_112 ⟨Nat.le_of_ble_eq_true rfl, Nat.le_of_ble_eq_true rfl⟩) (fun v12 _ => ?_)
              refine lv_lstore_n (lv' := [(1, .long v12), (0, .ref (g 0)), (3, .int (nI i))]) hx hb dX10_digest_115 rfl hl (by decide) rfl (fun ls hl => ?_)
              refine lv_iinc (v := nI (i + 1)) (lv' := [(3, .int (nI (i + 1))), (1, .long v12), (0, .ref (g 0))]) hx hb dX10_digest_116 hl (k := 2) rfl (nI_1 i) (by decide) rfl (fun ls hl => ?_)
              refine lv_goto (tgt := 75) hx hb dX10_digest_119 (by decide) ?_
              exact ih_6 v12 (i + 1) f_3 _ _ _ (hi9) (hH) (hS) (hL) (hT) (hB1) (hB2) (by omega) (hx0) (hctc) (hhs) (him) (hkp) (hrd) (hmk) (hfc6) (hwt) (hw8) (hw9) (hw10) (hw11) (hvl) (hbk) (hpr) (hpd) (hfr) (hfd) (hor) (hod) (har) (had) (htr) (hct) (hla) (hlaa) (hts0) (htsa) (fun j hj => (o_3 j (by omega))) hP hS (lv_sub hl [2, 1, 0] rfl)
        exact key6 (na + 1) v5 0 f_2 _ _ _ (Nat.zero_le _) (hH) (hS) (hL) (hT) (hB1) (hB2) (by omega) (hx0) (hctc) (hhs) (him) (hkp) (hrd) (hmk) (hfc6) (hwt) (hw8) (hw9) (hw10) (hw11) (hvl) (hbk) (hpr) (hpd) (hfr) (hfd) (hor) (hod) (har) (had) (htr) (hct) (hla) (hlaa) (hts0) (htsa) (fun j _ => rfl) hP hS (lv_sub hl [2, 1, 0] rfl)
      · have hi3 : i ≤ 5 := Nat.not_lt.mp (fun z => c_15 (nI_lt (a := 5) z (by omega)))
        refine lv_ldc2 (v := 31) hx hb hown (hts (.constantLong RX10 268 (31)) w_948) dX10_digest_18 ?_
        refine lv_lload_n hx hb dX10_digest_21 rfl (lv_at hl 1 rfl) ?_
        refine lv_lmul hx hb dX10_digest_22 ?_
        refine lv_aload_n hx hb dX10_digest_23 rfl (lv_at hl 0 rfl) ?_
        refine lv_iload_n hx hb dX10_digest_24 rfl (lv_at hl 2 rfl) ?_
        refine rd_calli (va_runV (As := [.int (nI i)]) (rest := [.long (31 * u)]) ⟨hx, hb, hml, hown, hts⟩ (m_howMany l G g hg f_2 nt hf pay fine np dp nf df nr dr na da nt ct (nI i) hx0 hctc hhs hbk hpr hpd hfr hfd hor hod har had htr hct (by first | assumption | omega | decide) (by first | assumption | omega | decide) (by first | assumption | omega | decide) (by first | assumption | omega | decide) (by first | assumption | omega | decide) (by first | assumption | omega | decide) (by first | assumption | omega | decide) (by first | assumption | omega | decide)) (my_cwV hts ok_X10_howMany w_926 rfl rfl ⟨Nat.le_of_ble_eq_true rfl, Nat.le_of_ble_eq_true rfl⟩) ⟨bP.blind, va_recv hG.1 hP (ci := 9) (q0 := 0) rfl (wl_at (by decide) hx0), fun U hU hW => ⟨rfl, by rw [hU]; exact hP, kG.warm hW hG⟩⟩ rfl rfl hl.1 rfl (lv_room (Nat.le_of_ble_eq_true rfl)) dX10_digest_25 ⟨Nat.le_of_ble_eq_true rfl, Nat.le_of_ble_eq_true rfl⟩) (fun v13 _ => ?_)
        refine lv_i2l hx hb dX10_digest_28 rfl ?_
        refine lv_ladd hx hb dX10_digest_29 ?_
        refine lv_lstore_n (lv' := [(1, .long ((31 * u) + (Int32.toInt64 v13))), (0, .ref (g 0)), (3, .int (nI i))]) hx hb dX10_digest_30 rfl hl (by decide) rfl (fun ls hl => ?_)
        refine lv_iinc (v := nI (i + 1)) (lv' := [(3, .int (nI (i + 1))), (1, .long ((31 * u) + (Int32.toInt64 v13))), (0, .ref (g 0))]) hx hb dX10_digest_31 hl (k := 2) rfl (nI_1 i) (by decide) rfl (fun ls hl => ?_)
        refine lv_goto (tgt := 13) hx hb dX10_digest_34 (by decide) ?_
        exact ih_2 (i + 1) ((31 * u) + (Int32.toInt64 v13)) f_2 _ _ _ (by omega) (hH) (hS) (hL) (hT) (hB1) (hB2) (by omega) (hx0) (hctc) (hhs) (him) (hkp) (hrd) (hmk) (hfc6) (hwt) (hw8) (hw9) (hw10) (hw11) (hvl) (hbk) (hpr) (hpd) (hfr) (hfd) (hor) (hod) (har) (had) (htr) (hct) (hla) (hlaa) (hts0) (htsa) (fun j hj => (o_2 j (by omega))) hP hS (lv_sub hl [2, 1, 0] rfl)
  exact key2 (6 + 1) 0 367 f_1 _ _ _ (by omega) (hH) (hS) (hL) (hT) (hB1) (hB2) (by omega) (hx0) (hctc) (hhs) (him) (hkp) (hrd) (hmk) (hfc6) (hwt) (hw8) (hw9) (hw10) (hw11) (hvl) (hbk) (hpr) (hpd) (hfr) (hfd) (hor) (hod) (har) (had) (htr) (hct) (hla) (hlaa) (hts0) (htsa) (fun j _ => rfl) hP hS (lv_sub hl [2, 1, 0] rfl)

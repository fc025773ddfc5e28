theorem okH_fr {G : gW} {g : Nat → Nat} {f f' : Nat → va_E} {k : Nat} (h : okH G g f k) (e1 : f' k = f k) (e2 : f' (k + 1) = f (k + 1)) : okH G g f' k := by
  obtain ⟨sl, lo, ib, ca, mi, s0, s1, sw, od, h1, h2, h3⟩ := h
  exact ⟨sl, lo, ib, ca, mi, s0, s1, sw, od, e1.trans h1, e2.trans h2, h3⟩
theorem okT_fr {G : gW} {g : Nat → Nat} {f f' : Nat → va_E} {k : Nat} (h : okT G g f k) (e1 : f' k = f k) (e2 : f' (k + 1) = f (k + 1)) (e3 : f' (k + 2) = f (k + 2)) : okT G g f' k := by
  obtain ⟨ln, sc, sg, sp, h1, h2, h3, h4, h5⟩ := h
  exact ⟨ln, sc, sg, sp, e1.trans h1, e2.trans h2, e3.trans h3, h4, h5⟩
theorem ok_X1_letter : okV yX1_letter cX1_letter 4 (some .long) 3 := ⟨⟨w_444, w_14, ⟨by decide +kernel, by decide +kernel, by decide +kernel⟩⟩, trivial, w_442, w_443⟩
theorem ok_X1_isAhead : okV yX1_isAhead cX1_isAhead 5 (some .boolean) 3 := ⟨⟨w_882, w_14, ⟨by decide +kernel, by decide +kernel, by decide +kernel⟩⟩, trivial, w_880, w_881⟩
theorem ok_X1_nextInTurn : okV yX1_nextInTurn cX1_nextInTurn 5 (some .int) 2 := ⟨⟨w_878, w_14, ⟨by decide +kernel, by decide +kernel, by decide +kernel⟩⟩, trivial, w_876, w_877⟩
theorem ok_X1_busy : okV yX1_busy cX1_busy 4 (some .int) 1 := ⟨⟨w_415, w_14, ⟨by decide +kernel, by decide +kernel, by decide +kernel⟩⟩, trivial, w_413, w_414⟩
set_option maxHeartbeats 4000000 in
set_option maxRecDepth 100000 in
theorem u_letter (l : Launch) (G : gW) (g : Nat → Nat) (hg : gOK g) (f : Nat → va_E) (se : Nat) (hf : Nat → Option Nat) (pay : Int32) (fine : Int32) (nt : Nat) (ct : Nat → Int32) (np : Nat) (dp : Nat → Int32) (n : Int32) (q : Int32) (w : Int32) (hctc : f 1 = eO 1 [.ref (g 36), .ref (g 12), .ref (g 13), .ref (g 15), .int (nI se)]) (hhs : f 12 = eA G 4 10 hf) (hbk : f 36 = eO 0 [.ref (g 37), .ref (g 39), .ref (g 41), .ref (g 43), .ref (g 45), .ref (g 47), .ref (g 112), .int pay, .int fine]) (htr : f 45 = eO 5 [.int (nI 10), .int (nI 70), .ref (g 46), .int (nI nt)]) (hct : f 46 = eI G (10 * 70) ct) (hpr : f 37 = eO 5 [.int (nI 30), .int (nI 4), .ref (g 38), .int (nI np)]) (hpd : f 38 = eI G (30 * 4) dp) (hse : se ≤ 10) (hhf : ∀ i, i < 10 → hf i = some (g (2 * i + 16))) (hH : ∀ i, i < 10 → okH G g f (2 * i + 16)) (hnt : nt ≤ 10) (hnp : np ≤ 30) : Met l yX1_letter (wsT yX1_letter cX1_letter 4 (some .long)) ({ frames := 2, cells := 0, slots := 0, locals := 48 }) (bP G g f [.ref (g 1), .int n, .int q, .int w]) (rQl (fun z9 => True)) 0 0 fr0 := by
  refine Met.ofW (cc := cX1_letter) (maxL := 4) (ret := (some .long)) (by decide) rfl ?_
  intro p e s m args below meth c s₁ B hml hv
  obtain ⟨rfl, hP, hG⟩ := hv
  have hx := B.exec
  have hb := B.bytes
  have hr := B.returns
  have hts := my_hts (atoms_spec (ws := wsT yX1_letter cX1_letter 4 (some .long)) B.pre)
  have hown : s.vm.findClass RX1 = some m.cls := findClass_of_methodNamed B.named
  have hlocks := B.notSynchronized
  have hl := lv_entry ([.ref (g 1), .int n, .int q, .int w]) (n := 4) (Nat.le_of_ble_eq_true rfl)
  rw [lg_entry_eq]
  generalize (lg_sl ([.ref (g 1), .int n, .int q, .int w]) ++ List.replicate (4 - (lg_sl ([.ref (g 1), .int n, .int q, .int w])).length) Slot.unset).toArray = ls at hl ⊢
  have hl : lv_has ls 4 [(0, .ref (g 1)), (1, .int n), (2, .int q), (3, .int w)] := hl
  refine lv_iload_n hx hb dX1_letter_0 rfl (lv_at hl 1 rfl) ?_
  by_cases e_97 : n = 97
  · refine my_bei e_97 ?_
    refine lv_lookup (off := 51) (tgt := 52) hx hb dX1_letter_1 (by decide) (by decide) (by decide) ?_
    refine lv_iload_n hx hb dX1_letter_52 rfl (lv_at hl 3 rfl) ?_
    refine rd_calli (va_runSN (As := [.int w]) (rest := []) ⟨hx, hb, hml, hown, hts⟩ (s_yearOf l G g hg f w  ) (⟨my_cn hts ok_X10_yearOf.1 (hG.2.1 (.methodLinkNest RX1 145 yX10_yearOf RX10) (List.mem_of_getElem? (i := 32) rfl)) rfl rfl ⟨Nat.le_of_ble_eq_true rfl, Nat.le_of_ble_eq_true rfl⟩, hts _ ok_X10_yearOf.2.2.1, trivial⟩) ⟨bP.blind, fun U hU hW => ⟨rfl, by rw [hU]; exact hP, kG.warm hW hG⟩⟩ rfl rfl hl.1 rfl (lv_room (Nat.le_of_ble_eq_true rfl)) dX1_letter_53 ⟨Nat.le_of_ble_eq_true rfl, Nat.le_of_ble_eq_true rfl⟩) (fun r hr9 => ?_)
    subst hr9
    refine lv_aload_n hx hb dX1_letter_56 rfl (lv_at hl 0 rfl) ?_
    refine va_get (D := G.1) (ci := 1) (v := .ref (g 36)) (C := RX1) (T := TX1) (N := 5) hx hb hts inlX1 hown hG.1 hP 1 (wl_at (by decide) hctc) rfl 0 (by decide) (hts (.fieldLink RX1 12 "SwornLists$Court" "book" "LSwornLists$Book;") w_40) (fun _ h9 => h9) rfl dX1_letter_57 ?_
    refine va_getN (D := G.1) (ci := 0) (v := .ref (g 37)) (C := RX0) (T := TX0) (N := 9) (host := RX10) hx hb hts inlX0 hown hG.1 hP 36 (wl_at (by decide) hbk) rfl 0 (by decide) (va_Nw.use rfl (hG.2.1 (.fieldLinkNest RX1 110 RX0 "people" "LSwornLists$Rows;" RX10) (List.mem_of_getElem? (i := 1) rfl))) (fun _ h9 => h9) rfl dX1_letter_60 ?_
    refine lv_iload_n hx hb dX1_letter_63 rfl (lv_at hl 2 rfl) ?_
    refine lv_iconst (v := 3) hx hb dX1_letter_64 (by decide) ?_
    refine rd_calli (va_runV (As := [.int q, .int 3]) (rest := [.int (100 + w / 100)]) ⟨hx, hb, hml, hown, hts⟩ (r_at l G g hg f 37 30 4 np dp q 3 hpr hpd (by first | assumption | omega | decide) (by first | assumption | omega | decide) (by first | assumption | omega | decide) (by first | assumption | omega | decide)) (my_cwV hts ok_X5_at w_389 rfl rfl ⟨Nat.le_of_ble_eq_true rfl, Nat.le_of_ble_eq_true rfl⟩) ⟨bP.blind, va_recv hG.1 hP (ci := 5) (q0 := 37) rfl (wl_at (by decide) hpr), fun U hU hW => ⟨rfl, by rw [hU]; exact hP, kG.warm hW hG⟩⟩ rfl rfl hl.1 rfl (lv_room (Nat.le_of_ble_eq_true rfl)) dX1_letter_65 ⟨Nat.le_of_ble_eq_true rfl, Nat.le_of_ble_eq_true rfl⟩) (fun r hr9 => ?_)
    subst hr9
    refine lv_isub hx hb dX1_letter_68 ?_
    refine lv_i2l hx hb dX1_letter_69 rfl ?_
    exact W.lret (v := Int32.toInt64 ((100 + w / 100) - (atv dp np 4 q 3))) hx hb hr (fun t ht hW => ⟨_, rfl, (trivial), ht⟩) (fun _ h => absurd h List.not_mem_nil) dX1_letter_70
  by_cases e_108 : n = 108
  · refine my_bei e_108 ?_
    refine lv_lookup (off := 70) (tgt := 71) hx hb dX1_letter_1 (by decide) (by decide) (by decide) ?_
    refine lv_aload_n hx hb dX1_letter_71 rfl (lv_at hl 0 rfl) ?_
    refine va_get (D := G.1) (ci := 1) (v := .ref (g 36)) (C := RX1) (T := TX1) (N := 5) hx hb hts inlX1 hown hG.1 hP 1 (wl_at (by decide) hctc) rfl 0 (by decide) (hts (.fieldLink RX1 12 "SwornLists$Court" "book" "LSwornLists$Book;") w_40) (fun _ h9 => h9) rfl dX1_letter_72 ?_
    refine va_getN (D := G.1) (ci := 0) (v := .ref (g 37)) (C := RX0) (T := TX0) (N := 9) (host := RX10) hx hb hts inlX0 hown hG.1 hP 36 (wl_at (by decide) hbk) rfl 0 (by decide) (va_Nw.use rfl (hG.2.1 (.fieldLinkNest RX1 110 RX0 "people" "LSwornLists$Rows;" RX10) (List.mem_of_getElem? (i := 1) rfl))) (fun _ h9 => h9) rfl dX1_letter_75 ?_
    refine lv_iload_n hx hb dX1_letter_78 rfl (lv_at hl 2 rfl) ?_
    refine lv_iconst (v := 2) hx hb dX1_letter_79 (by decide) ?_
    refine rd_calli (va_runV (As := [.int q, .int 2]) (rest := []) ⟨hx, hb, hml, hown, hts⟩ (r_at l G g hg f 37 30 4 np dp q 2 hpr hpd (by first | assumption | omega | decide) (by first | assumption | omega | decide) (by first | assumption | omega | decide) (by first | assumption | omega | decide)) (my_cwV hts ok_X5_at w_389 rfl rfl ⟨Nat.le_of_ble_eq_true rfl, Nat.le_of_ble_eq_true rfl⟩) ⟨bP.blind, va_recv hG.1 hP (ci := 5) (q0 := 37) rfl (wl_at (by decide) hpr), fun U hU hW => ⟨rfl, by rw [hU]; exact hP, kG.warm hW hG⟩⟩ rfl rfl hl.1 rfl (lv_room (Nat.le_of_ble_eq_true rfl)) dX1_letter_80 ⟨Nat.le_of_ble_eq_true rfl, Nat.le_of_ble_eq_true rfl⟩) (fun r hr9 => ?_)
    subst hr9
    refine lv_i2l hx hb dX1_letter_83 rfl ?_
    exact W.lret (v := Int32.toInt64 (atv dp np 4 q 2)) hx hb hr (fun t ht hW => ⟨_, rfl, (trivial), ht⟩) (fun _ h => absurd h List.not_mem_nil) dX1_letter_84
  by_cases e_112 : n = 112
  · refine my_bei e_112 ?_
    refine lv_lookup (off := 98) (tgt := 99) hx hb dX1_letter_1 (by decide) (by decide) (by decide) ?_
    refine lv_aload_n hx hb dX1_letter_99 rfl (lv_at hl 0 rfl) ?_
    refine va_get (D := G.1) (ci := 1) (v := .ref (g 36)) (C := RX1) (T := TX1) (N := 5) hx hb hts inlX1 hown hG.1 hP 1 (wl_at (by decide) hctc) rfl 0 (by decide) (hts (.fieldLink RX1 12 "SwornLists$Court" "book" "LSwornLists$Book;") w_40) (fun _ h9 => h9) rfl dX1_letter_100 ?_
    refine va_getN (D := G.1) (ci := 0) (v := .ref (g 37)) (C := RX0) (T := TX0) (N := 9) (host := RX10) hx hb hts inlX0 hown hG.1 hP 36 (wl_at (by decide) hbk) rfl 0 (by decide) (va_Nw.use rfl (hG.2.1 (.fieldLinkNest RX1 110 RX0 "people" "LSwornLists$Rows;" RX10) (List.mem_of_getElem? (i := 1) rfl))) (fun _ h9 => h9) rfl dX1_letter_103 ?_
    refine lv_iload_n hx hb dX1_letter_106 rfl (lv_at hl 2 rfl) ?_
    refine lv_iconst (v := 0) hx hb dX1_letter_107 (by decide) ?_
    refine rd_calli (va_runV (As := [.int q, .int 0]) (rest := []) ⟨hx, hb, hml, hown, hts⟩ (r_at l G g hg f 37 30 4 np dp q 0 hpr hpd (by first | assumption | omega | decide) (by first | assumption | omega | decide) (by first | assumption | omega | decide) (by first | assumption | omega | decide)) (my_cwV hts ok_X5_at w_389 rfl rfl ⟨Nat.le_of_ble_eq_true rfl, Nat.le_of_ble_eq_true rfl⟩) ⟨bP.blind, va_recv hG.1 hP (ci := 5) (q0 := 37) rfl (wl_at (by decide) hpr), fun U hU hW => ⟨rfl, by rw [hU]; exact hP, kG.warm hW hG⟩⟩ rfl rfl hl.1 rfl (lv_room (Nat.le_of_ble_eq_true rfl)) dX1_letter_108 ⟨Nat.le_of_ble_eq_true rfl, Nat.le_of_ble_eq_true rfl⟩) (fun r hr9 => ?_)
    subst hr9
    refine lv_i2l hx hb dX1_letter_111 rfl ?_
    exact W.lret (v := Int32.toInt64 (atv dp np 4 q 0)) hx hb hr (fun t ht hW => ⟨_, rfl, (trivial), ht⟩) (fun _ h => absurd h List.not_mem_nil) dX1_letter_112
  by_cases e_115 : n = 115
  · refine my_bei e_115 ?_
    refine lv_lookup (off := 112) (tgt := 113) hx hb dX1_letter_1 (by decide) (by decide) (by decide) ?_
    refine lv_aload_n hx hb dX1_letter_113 rfl (lv_at hl 0 rfl) ?_
    refine lv_iload_n hx hb dX1_letter_114 rfl (lv_at hl 2 rfl) ?_
    refine lv_iload_n hx hb dX1_letter_115 rfl (lv_at hl 3 rfl) ?_
    refine rd_calli (va_runV (As := [.int q, .int w]) (rest := []) ⟨hx, hb, hml, hown, hts⟩ (u_timesSat l G g hg f se hf pay fine nt ct q w hctc hhs hbk htr hct (by first | assumption | omega | decide) (by first | assumption | omega | decide) (by first | assumption | omega | decide) (by first | assumption | omega | decide)) (my_cwV hts ok_X1_timesSat w_447 rfl rfl ⟨Nat.le_of_ble_eq_true rfl, Nat.le_of_ble_eq_true rfl⟩) ⟨bP.blind, va_recv hG.1 hP (ci := 1) (q0 := 1) rfl (wl_at (by decide) hctc), fun U hU hW => ⟨rfl, by rw [hU]; exact hP, kG.warm hW hG⟩⟩ rfl rfl hl.1 rfl (lv_room (Nat.le_of_ble_eq_true rfl)) dX1_letter_116 ⟨Nat.le_of_ble_eq_true rfl, Nat.le_of_ble_eq_true rfl⟩) (fun v1 _ => ?_)
    refine lv_i2l hx hb dX1_letter_119 rfl ?_
    exact W.lret (v := Int32.toInt64 v1) hx hb hr (fun t ht hW => ⟨_, rfl, (trivial), ht⟩) (fun _ h => absurd h List.not_mem_nil) dX1_letter_120
  by_cases e_116 : n = 116
  · refine my_bei e_116 ?_
    refine lv_lookup (off := 84) (tgt := 85) hx hb dX1_letter_1 (by decide) (by decide) (by decide) ?_
    refine lv_aload_n hx hb dX1_letter_85 rfl (lv_at hl 0 rfl) ?_
    refine va_get (D := G.1) (ci := 1) (v := .ref (g 36)) (C := RX1) (T := TX1) (N := 5) hx hb hts inlX1 hown hG.1 hP 1 (wl_at (by decide) hctc) rfl 0 (by decide) (hts (.fieldLink RX1 12 "SwornLists$Court" "book" "LSwornLists$Book;") w_40) (fun _ h9 => h9) rfl dX1_letter_86 ?_
    refine va_getN (D := G.1) (ci := 0) (v := .ref (g 37)) (C := RX0) (T := TX0) (N := 9) (host := RX10) hx hb hts inlX0 hown hG.1 hP 36 (wl_at (by decide) hbk) rfl 0 (by decide) (va_Nw.use rfl (hG.2.1 (.fieldLinkNest RX1 110 RX0 "people" "LSwornLists$Rows;" RX10) (List.mem_of_getElem? (i := 1) rfl))) (fun _ h9 => h9) rfl dX1_letter_89 ?_
    refine lv_iload_n hx hb dX1_letter_92 rfl (lv_at hl 2 rfl) ?_
    refine lv_iconst (v := 1) hx hb dX1_letter_93 (by decide) ?_
    refine rd_calli (va_runV (As := [.int q, .int 1]) (rest := []) ⟨hx, hb, hml, hown, hts⟩ (r_at l G g hg f 37 30 4 np dp q 1 hpr hpd (by first | assumption | omega | decide) (by first | assumption | omega | decide) (by first | assumption | omega | decide) (by first | assumption | omega | decide)) (my_cwV hts ok_X5_at w_389 rfl rfl ⟨Nat.le_of_ble_eq_true rfl, Nat.le_of_ble_eq_true rfl⟩) ⟨bP.blind, va_recv hG.1 hP (ci := 5) (q0 := 37) rfl (wl_at (by decide) hpr), fun U hU hW => ⟨rfl, by rw [hU]; exact hP, kG.warm hW hG⟩⟩ rfl rfl hl.1 rfl (lv_room (Nat.le_of_ble_eq_true rfl)) dX1_letter_94 ⟨Nat.le_of_ble_eq_true rfl, Nat.le_of_ble_eq_true rfl⟩) (fun r hr9 => ?_)
    subst hr9
    refine lv_i2l hx hb dX1_letter_97 rfl ?_
    exact W.lret (v := Int32.toInt64 (atv dp np 4 q 1)) hx hb hr (fun t ht hW => ⟨_, rfl, (trivial), ht⟩) (fun _ h => absurd h List.not_mem_nil) dX1_letter_98
  refine lv_lookup (off := 120) (tgt := 121) hx hb dX1_letter_1 (by decide) (by show Op.lookupswitch.offset [(97, 51), (108, 70), (112, 98), (115, 112), (116, 84)] 120 _ = 120; rw [lv_osw (a := 97) e_97 (by decide), lv_osw (a := 108) e_108 (by decide), lv_osw (a := 112) e_112 (by decide), lv_osw (a := 115) e_115 (by decide), lv_osw (a := 116) e_116 (by decide)]; rfl) (by decide) ?_
  refine lv_aload_n hx hb dX1_letter_121 rfl (lv_at hl 0 rfl) ?_
  refine lv_iload_n hx hb dX1_letter_122 rfl (lv_at hl 2 rfl) ?_
  refine lv_iload_n hx hb dX1_letter_123 rfl (lv_at hl 3 rfl) ?_
  refine rd_calli (va_runV (As := [.int q, .int w]) (rest := []) ⟨hx, hb, hml, hown, hts⟩ (u_yearsSince l G g hg f se hf pay fine nt ct q w hctc hhs hbk htr hct (by first | assumption | omega | decide) (by first | assumption | omega | decide) (by first | assumption | omega | decide) (by first | assumption | omega | decide)) (my_cwV hts ok_X1_yearsSince w_451 rfl rfl ⟨Nat.le_of_ble_eq_true rfl, Nat.le_of_ble_eq_true rfl⟩) ⟨bP.blind, va_recv hG.1 hP (ci := 1) (q0 := 1) rfl (wl_at (by decide) hctc), fun U hU hW => ⟨rfl, by rw [hU]; exact hP, kG.warm hW hG⟩⟩ rfl rfl hl.1 rfl (lv_room (Nat.le_of_ble_eq_true rfl)) dX1_letter_124 ⟨Nat.le_of_ble_eq_true rfl, Nat.le_of_ble_eq_true rfl⟩) (fun v2 _ => ?_)
  refine lv_i2l hx hb dX1_letter_127 rfl ?_
  exact W.lret (v := Int32.toInt64 v2) hx hb hr (fun t ht hW => ⟨_, rfl, (trivial), ht⟩) (fun _ h => absurd h List.not_mem_nil) dX1_letter_128
set_option maxHeartbeats 4000000 in
set_option maxRecDepth 100000 in
theorem u_busy (l : Launch) (G : gW) (g : Nat → Nat) (hg : gOK g) (f : Nat → va_E) (se : Nat) (hf : Nat → Option Nat) (pay : Int32) (fine : Int32) (nt : Nat) (ct : Nat → Int32) (w : Nat) (hctc : f 1 = eO 1 [.ref (g 36), .ref (g 12), .ref (g 13), .ref (g 15), .int (nI se)]) (hhs : f 12 = eA G 4 10 hf) (hbk : f 36 = eO 0 [.ref (g 37), .ref (g 39), .ref (g 41), .ref (g 43), .ref (g 45), .ref (g 47), .ref (g 112), .int pay, .int fine]) (htr : f 45 = eO 5 [.int (nI 10), .int (nI 70), .ref (g 46), .int (nI nt)]) (hct : f 46 = eI G (10 * 70) ct) (hse : se ≤ 10) (hhf : ∀ i, i < 10 → hf i = some (g (2 * i + 16))) (hH : ∀ i, i < 10 → okH G g f (2 * i + 16)) (hnt : nt ≤ 10) (hw : w ≤ 10) : Met l yX1_busy (wsT yX1_busy cX1_busy 4 (some .int)) ({ frames := 3, cells := 0, slots := 0, locals := 66 }) (bP G g f [.ref (g 1), .int (nI w)]) (rQi (fun z9 => True)) 0 0 fr0 := by
  refine Met.ofW (cc := cX1_busy) (maxL := 4) (ret := (some .int)) (by decide) rfl ?_
  intro p e s m args below meth c s₁ B hml hv
  obtain ⟨rfl, hP, hG⟩ := hv
  have hx := B.exec
  have hb := B.bytes
  have hr := B.returns
  have hts := my_hts (atoms_spec (ws := wsT yX1_busy cX1_busy 4 (some .int)) B.pre)
  have hown : s.vm.findClass RX1 = some m.cls := findClass_of_methodNamed B.named
  have hlocks := B.notSynchronized
  have hl := lv_entry ([.ref (g 1), .int (nI w)]) (n := 4) (Nat.le_of_ble_eq_true rfl)
  rw [lg_entry_eq]
  generalize (lg_sl ([.ref (g 1), .int (nI w)]) ++ List.replicate (4 - (lg_sl ([.ref (g 1), .int (nI w)])).length) Slot.unset).toArray = ls at hl ⊢
  have hl : lv_has ls 4 [(0, .ref (g 1)), (1, .int (nI w))] := hl
  refine lv_iconst (v := 0) hx hb dX1_busy_0 (by decide) ?_
  refine lv_istore_n (lv' := [(2, .int 0), (0, .ref (g 1)), (1, .int (nI w))]) hx hb dX1_busy_1 rfl hl (by decide) rfl (fun ls hl => ?_)
  refine lv_iconst (v := 0) hx hb dX1_busy_2 (by decide) ?_
  refine lv_istore_n (lv' := [(3, .int 0), (2, .int 0), (0, .ref (g 1)), (1, .int (nI w))]) hx hb dX1_busy_3 rfl hl (by decide) rfl (fun ls hl => ?_)
  have key1 : ∀ (n9 : Nat) (u : Int32) (i : Nat) (ls : Array Slot), (i ≤ w) → w - i < n9 → lv_has ls 4 [(0, .ref (g 1)), (1, .int (nI w)), (2, .int u), (3, .int (nI i))] → W p l e (headSpec (wsT yX1_busy cX1_busy 4 (some .int)) ({ frames := 3, cells := 0, slots := 0, locals := 66 })).room s m ([.ref (g 1), .int (nI w)] : List Value).toArray below meth c s.heap [] 0 0 (MQ below (rQi (fun z9 => True)) ([.ref (g 1), .int (nI w)] : List Value).toArray s 0 0 fr0) (F0 m 4 ls []) := by
    intro n9
    induction n9 with
    | zero => intro u i ls hi hn9; exact absurd hn9 (Nat.not_lt_zero _)
    | succ n9 ih =>
      intro u i ls hi hn9 hl
      refine lv_iload_n hx hb dX1_busy_4 rfl (lv_at hl 3 rfl) ?_
      refine lv_iload_n hx hb dX1_busy_5 rfl (lv_at hl 1 rfl) ?_
      refine lv_icmp_ge (tgt := 38) hx hb dX1_busy_6 (by decide) (fun c_6 => ?_) (fun c_6 => ?_)
      · refine lv_iload_n hx hb dX1_busy_38 rfl (lv_at hl 2 rfl) ?_
        exact W.iret (v := u) hx hb hr (fun t ht hW => ⟨_, rfl, (trivial), ht⟩) (fun _ h => absurd h List.not_mem_nil) dX1_busy_39
      · have hi9 : i < w := Nat.not_le.mp (fun z => c_6 (nI_le z (by omega)))
        obtain ⟨sl7, lo7, ib7, ca7, mi7, s07, s17, sw7, od7, hh7, ho7, hs7⟩ := hH i (by omega)
        refine lv_aload_n hx hb dX1_busy_9 rfl (lv_at hl 0 rfl) ?_
        refine va_get (D := G.1) (ci := 1) (v := .ref (g 36)) (C := RX1) (T := TX1) (N := 5) hx hb hts inlX1 hown hG.1 hP 1 (wl_at (by decide) hctc) rfl 0 (by decide) (hts (.fieldLink RX1 12 "SwornLists$Court" "book" "LSwornLists$Book;") w_40) (fun _ h9 => h9) rfl dX1_busy_10 ?_
        refine lv_iload_n hx hb dX1_busy_13 rfl (lv_at hl 3 rfl) ?_
        refine lv_iload_n hx hb dX1_busy_14 rfl (lv_at hl 1 rfl) ?_
        refine rd_calli (va_runV (As := [.int (nI i), .int (nI w)]) (rest := []) ⟨hx, hb, hml, hown, hts⟩ (k_overlap l G g hg f pay fine nt ct (nI i) (nI w) hbk htr hct (by first | assumption | omega | decide)) (my_cwV hts ok_X0_overlap w_416 rfl rfl ⟨Nat.le_of_ble_eq_true rfl, Nat.le_of_ble_eq_true rfl⟩) ⟨bP.blind, va_recv hG.1 hP (ci := 0) (q0 := 36) rfl (wl_at (by decide) hbk), fun U hU hW => ⟨rfl, by rw [hU]; exact hP, kG.warm hW hG⟩⟩ rfl rfl hl.1 rfl (lv_room (Nat.le_of_ble_eq_true rfl)) dX1_busy_15 ⟨Nat.le_of_ble_eq_true rfl, Nat.le_of_ble_eq_true rfl⟩) (fun r hr9 => ?_)
        obtain ⟨bz2, rfl⟩ := hr9
        refine my_ifeq (tgt := 32) hx hb dX1_busy_18 (by decide) (fun c_18 => ?_) (fun c_18 => ?_)
        · refine lv_iinc (v := nI (i + 1)) (lv' := [(3, .int (nI (i + 1))), (0, .ref (g 1)), (1, .int (nI w)), (2, .int u)]) hx hb dX1_busy_32 hl (k := 3) rfl (nI_1 i) (by decide) rfl (fun ls hl => ?_)
          refine lv_goto (tgt := 4) hx hb dX1_busy_35 (by decide) ?_
          exact ih u (i + 1) _ (hi9) (by omega) (lv_sub hl [1, 2, 3, 0] rfl)
        · refine lv_iload_n hx hb dX1_busy_21 rfl (lv_at hl 2 rfl) ?_
          refine lv_aload_n hx hb dX1_busy_22 rfl (lv_at hl 0 rfl) ?_
          refine lv_iload_n hx hb dX1_busy_23 rfl (lv_at hl 3 rfl) ?_
          refine rd_calla (va_runV (As := [.int (nI i)]) (rest := [.int u]) ⟨hx, hb, hml, hown, hts⟩ (u_hearing l G g hg f se hf i hctc hhs (by first | assumption | omega | decide) (by first | assumption | omega | decide) (by first | assumption | omega | decide)) (my_cwV hts ok_X1_hearing w_390 rfl rfl ⟨Nat.le_of_ble_eq_true rfl, Nat.le_of_ble_eq_true rfl⟩) ⟨bP.blind, va_recv hG.1 hP (ci := 1) (q0 := 1) rfl (wl_at (by decide) hctc), fun U hU hW => ⟨rfl, by rw [hU]; exact hP, kG.warm hW hG⟩⟩ rfl rfl hl.1 rfl (lv_room (Nat.le_of_ble_eq_true rfl)) dX1_busy_24 ⟨Nat.le_of_ble_eq_true rfl, Nat.le_of_ble_eq_true rfl⟩) (fun r hr9 => ?_)
          subst hr9
          refine va_getN (D := G.1) (ci := 3) (v := .int sw7) (C := RX3) (T := TX3) (N := 9) (host := RX10) hx hb hts inlX3 hown hG.1 hP (2 * i + 16) (wl_at (by omega) hh7) rfl 8 (by decide) (va_Nw.use rfl (hG.2.1 (.fieldLinkNest RX1 107 RX3 "sworn" "I" RX10) (List.mem_of_getElem? (i := 15) rfl))) (fun _ h9 => h9) rfl dX1_busy_27 ?_
          refine lv_ior hx hb dX1_busy_30 ?_
          refine lv_istore_n (lv' := [(2, .int (u ||| sw7)), (0, .ref (g 1)), (1, .int (nI w)), (3, .int (nI i))]) hx hb dX1_busy_31 rfl hl (by decide) rfl (fun ls hl => ?_)
          refine lv_iinc (v := nI (i + 1)) (lv' := [(3, .int (nI (i + 1))), (2, .int (u ||| sw7)), (0, .ref (g 1)), (1, .int (nI w))]) hx hb dX1_busy_32 hl (k := 3) rfl (nI_1 i) (by decide) rfl (fun ls hl => ?_)
          refine lv_goto (tgt := 4) hx hb dX1_busy_35 (by decide) ?_
          exact ih (u ||| sw7) (i + 1) _ (hi9) (by omega) (lv_sub hl [2, 3, 1, 0] rfl)
  exact key1 (w + 1) 0 0 _ (Nat.zero_le _) (by omega) (lv_sub hl [2, 3, 1, 0] rfl)


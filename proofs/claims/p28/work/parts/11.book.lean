theorem ok_X0_everyone : okV yX0_everyone cX0_everyone 1 (some .int) 0 := ⟨⟨w_201, w_34, ⟨by decide +kernel, by decide +kernel, by decide +kernel⟩⟩, trivial, w_199, w_200⟩
theorem ok_X0_peopleWith : okV yX0_peopleWith cX0_peopleWith 5 (some .int) 2 := ⟨⟨w_472, w_34, ⟨by decide +kernel, by decide +kernel, by decide +kernel⟩⟩, trivial, w_470, w_471⟩
theorem ok_X0_listedOn : okV yX0_listedOn cX0_listedOn 5 (some .int) 1 := ⟨⟨w_224, w_34, ⟨by decide +kernel, by decide +kernel, by decide +kernel⟩⟩, trivial, w_222, w_223⟩
theorem ok_X0_kinOfSides : okV yX0_kinOfSides cX0_kinOfSides 7 (some .int) 2 := ⟨⟨w_411, w_34, ⟨by decide +kernel, by decide +kernel, by decide +kernel⟩⟩, trivial, w_409, w_410⟩
theorem ok_X0_ofTradeWanted : okV yX0_ofTradeWanted cX0_ofTradeWanted 3 (some .int) 1 := ⟨⟨w_468, w_34, ⟨by decide +kernel, by decide +kernel, by decide +kernel⟩⟩, trivial, w_466, w_467⟩
theorem ok_X0_lastDayOf : okV yX0_lastDayOf cX0_lastDayOf 2 (some .int) 1 := ⟨⟨w_423, w_34, ⟨by decide +kernel, by decide +kernel, by decide +kernel⟩⟩, trivial, w_421, w_422⟩
theorem ok_X0_overlap : okV yX0_overlap cX0_overlap 3 (some .boolean) 2 := ⟨⟨w_419, w_34, ⟨by decide +kernel, by decide +kernel, by decide +kernel⟩⟩, trivial, w_417, w_418⟩
theorem ok_X0_shareFamily : okV yX0_shareFamily cX0_shareFamily 6 (some .boolean) 2 := ⟨⟨w_836, w_34, ⟨by decide +kernel, by decide +kernel, by decide +kernel⟩⟩, trivial, w_834, w_835⟩
theorem ok_X0_shareTrade : okV yX0_shareTrade cX0_shareTrade 4 (some .boolean) 2 := ⟨⟨w_840, w_34, ⟨by decide +kernel, by decide +kernel, by decide +kernel⟩⟩, trivial, w_838, w_839⟩
set_option maxHeartbeats 4000000 in
set_option maxRecDepth 100000 in
theorem k_lastDayOf (l : Launch) (G : gW) (g : Nat → Nat) (hg : gOK g) (f : Nat → va_E) (pay : Int32) (fine : Int32) (nt : Nat) (ct : Nat → Int32) (n : Int32) (hbk : f 36 = eO 0 [.ref (g 37), .ref (g 39), .ref (g 41), .ref (g 43), .ref (g 45), .ref (g 47), .ref (g 112), .int pay, .int fine]) (htr : f 45 = eO 5 [.int (nI 10), .int (nI 70), .ref (g 46), .int (nI nt)]) (hct : f 46 = eI G (10 * 70) ct) (hnt : nt ≤ 10) : Met l yX0_lastDayOf (wsT yX0_lastDayOf cX0_lastDayOf 2 (some .int)) ({ frames := 1, cells := 0, slots := 0, locals := 23 }) (bP G g f [.ref (g 36), .int n]) (rQi (fun z9 => True)) 0 0 fr0 := by
  refine Met.ofW (cc := cX0_lastDayOf) (maxL := 2) (ret := (some .int)) (by decide) rfl ?_
  intro p e s m args below meth c s₁ B hml hv
  obtain ⟨rfl, hP, hG⟩ := hv
  have hx := B.exec
  have hb := B.bytes
  have hr := B.returns
  have hts := my_hts (atoms_spec (ws := wsT yX0_lastDayOf cX0_lastDayOf 2 (some .int)) B.pre)
  have hown : s.vm.findClass RX0 = some m.cls := findClass_of_methodNamed B.named
  have hlocks := B.notSynchronized
  have hl := lv_entry ([.ref (g 36), .int n]) (n := 2) (Nat.le_of_ble_eq_true rfl)
  rw [lg_entry_eq]
  generalize (lg_sl ([.ref (g 36), .int n]) ++ List.replicate (2 - (lg_sl ([.ref (g 36), .int n])).length) Slot.unset).toArray = ls at hl ⊢
  have hl : lv_has ls 2 [(0, .ref (g 36)), (1, .int n)] := hl
  refine lv_aload_n hx hb dX0_lastDayOf_0 rfl (lv_at hl 0 rfl) ?_
  refine va_get (D := G.1) (ci := 0) (v := .ref (g 45)) (C := RX0) (T := TX0) (N := 9) hx hb hts inlX0 hown hG.1 hP 36 (wl_at (by decide) hbk) rfl 4 (by decide) (hts (.fieldLink RX0 29 "SwornLists$Book" "trials" "LSwornLists$Rows;") w_58) (fun _ h9 => h9) rfl dX0_lastDayOf_1 ?_
  refine lv_iload_n hx hb dX0_lastDayOf_4 rfl (lv_at hl 1 rfl) ?_
  refine lv_iconst (v := 0) hx hb dX0_lastDayOf_5 (by decide) ?_
  refine rd_calli (va_runV (As := [.int n, .int 0]) (rest := []) ⟨hx, hb, hml, hown, hts⟩ (r_at l G g hg f 45 10 70 nt ct n 0 htr hct (by first | assumption | omega | decide) (by first | assumption | omega | decide) (by first | assumption | omega | decide) (by first | assumption | omega | decide)) (my_cwV hts ok_X5_at w_225 rfl rfl ⟨Nat.le_of_ble_eq_true rfl, Nat.le_of_ble_eq_true rfl⟩) ⟨bP.blind, va_recv hG.1 hP (ci := 5) (q0 := 45) rfl (wl_at (by decide) htr), fun U hU hW => ⟨rfl, by rw [hU]; exact hP, kG.warm hW hG⟩⟩ rfl rfl hl.1 rfl (lv_room (Nat.le_of_ble_eq_true rfl)) dX0_lastDayOf_6 ⟨Nat.le_of_ble_eq_true rfl, Nat.le_of_ble_eq_true rfl⟩) (fun r hr9 => ?_)
  subst hr9
  refine lv_aload_n hx hb dX0_lastDayOf_9 rfl (lv_at hl 0 rfl) ?_
  refine va_get (D := G.1) (ci := 0) (v := .ref (g 45)) (C := RX0) (T := TX0) (N := 9) hx hb hts inlX0 hown hG.1 hP 36 (wl_at (by decide) hbk) rfl 4 (by decide) (hts (.fieldLink RX0 29 "SwornLists$Book" "trials" "LSwornLists$Rows;") w_58) (fun _ h9 => h9) rfl dX0_lastDayOf_10 ?_
  refine lv_iload_n hx hb dX0_lastDayOf_13 rfl (lv_at hl 1 rfl) ?_
  refine lv_iconst (v := 1) hx hb dX0_lastDayOf_14 (by decide) ?_
  refine rd_calli (va_runV (As := [.int n, .int 1]) (rest := [.int (atv ct nt 70 n 0)]) ⟨hx, hb, hml, hown, hts⟩ (r_at l G g hg f 45 10 70 nt ct n 1 htr hct (by first | assumption | omega | decide) (by first | assumption | omega | decide) (by first | assumption | omega | decide) (by first | assumption | omega | decide)) (my_cwV hts ok_X5_at w_225 rfl rfl ⟨Nat.le_of_ble_eq_true rfl, Nat.le_of_ble_eq_true rfl⟩) ⟨bP.blind, va_recv hG.1 hP (ci := 5) (q0 := 45) rfl (wl_at (by decide) htr), fun U hU hW => ⟨rfl, by rw [hU]; exact hP, kG.warm hW hG⟩⟩ rfl rfl hl.1 rfl (lv_room (Nat.le_of_ble_eq_true rfl)) dX0_lastDayOf_15 ⟨Nat.le_of_ble_eq_true rfl, Nat.le_of_ble_eq_true rfl⟩) (fun r hr9 => ?_)
  subst hr9
  refine lv_iadd hx hb dX0_lastDayOf_18 ?_
  refine lv_iconst (v := 1) hx hb dX0_lastDayOf_19 (by decide) ?_
  refine lv_isub hx hb dX0_lastDayOf_20 ?_
  exact W.iret (v := ((atv ct nt 70 n 0) + (atv ct nt 70 n 1)) - 1) hx hb hr (fun t ht hW => ⟨_, rfl, (trivial), ht⟩) (fun _ h => absurd h List.not_mem_nil) dX0_lastDayOf_21
set_option maxHeartbeats 4000000 in
set_option maxRecDepth 100000 in
theorem k_shareTrade (l : Launch) (G : gW) (g : Nat → Nat) (hg : gOK g) (f : Nat → va_E) (pay : Int32) (fine : Int32) (nt : Nat) (ct : Nat → Int32) (n : Int32) (q : Int32) (hbk : f 36 = eO 0 [.ref (g 37), .ref (g 39), .ref (g 41), .ref (g 43), .ref (g 45), .ref (g 47), .ref (g 112), .int pay, .int fine]) (htr : f 45 = eO 5 [.int (nI 10), .int (nI 70), .ref (g 46), .int (nI nt)]) (hct : f 46 = eI G (10 * 70) ct) (hnt : nt ≤ 10) : Met l yX0_shareTrade (wsT yX0_shareTrade cX0_shareTrade 4 (some .boolean)) ({ frames := 1, cells := 0, slots := 0, locals := 23 }) (bP G g f [.ref (g 36), .int n, .int q]) (rQi (fun z9 => ∃ bz : Bool, z9 = b2 (bz = true))) 0 0 fr0 := by
  refine Met.ofW (cc := cX0_shareTrade) (maxL := 4) (ret := (some .boolean)) (by decide) rfl ?_
  intro p e s m args below meth c s₁ B hml hv
  obtain ⟨rfl, hP, hG⟩ := hv
  have hx := B.exec
  have hb := B.bytes
  have hr := B.returns
  have hts := my_hts (atoms_spec (ws := wsT yX0_shareTrade cX0_shareTrade 4 (some .boolean)) B.pre)
  have hown : s.vm.findClass RX0 = some m.cls := findClass_of_methodNamed B.named
  have hlocks := B.notSynchronized
  have hl := lv_entry ([.ref (g 36), .int n, .int q]) (n := 4) (Nat.le_of_ble_eq_true rfl)
  rw [lg_entry_eq]
  generalize (lg_sl ([.ref (g 36), .int n, .int q]) ++ List.replicate (4 - (lg_sl ([.ref (g 36), .int n, .int q])).length) Slot.unset).toArray = ls at hl ⊢
  have hl : lv_has ls 4 [(0, .ref (g 36)), (1, .int n), (2, .int q)] := hl
  refine lv_aload_n hx hb dX0_shareTrade_0 rfl (lv_at hl 0 rfl) ?_
  refine va_get (D := G.1) (ci := 0) (v := .ref (g 45)) (C := RX0) (T := TX0) (N := 9) hx hb hts inlX0 hown hG.1 hP 36 (wl_at (by decide) hbk) rfl 4 (by decide) (hts (.fieldLink RX0 29 "SwornLists$Book" "trials" "LSwornLists$Rows;") w_58) (fun _ h9 => h9) rfl dX0_shareTrade_1 ?_
  refine lv_iload_n hx hb dX0_shareTrade_4 rfl (lv_at hl 1 rfl) ?_
  refine lv_iconst (v := 5) hx hb dX0_shareTrade_5 (by decide) ?_
  refine rd_calli (va_runV (As := [.int n, .int 5]) (rest := []) ⟨hx, hb, hml, hown, hts⟩ (r_at l G g hg f 45 10 70 nt ct n 5 htr hct (by first | assumption | omega | decide) (by first | assumption | omega | decide) (by first | assumption | omega | decide) (by first | assumption | omega | decide)) (my_cwV hts ok_X5_at w_225 rfl rfl ⟨Nat.le_of_ble_eq_true rfl, Nat.le_of_ble_eq_true rfl⟩) ⟨bP.blind, va_recv hG.1 hP (ci := 5) (q0 := 45) rfl (wl_at (by decide) htr), fun U hU hW => ⟨rfl, by rw [hU]; exact hP, kG.warm hW hG⟩⟩ rfl rfl hl.1 rfl (lv_room (Nat.le_of_ble_eq_true rfl)) dX0_shareTrade_6 ⟨Nat.le_of_ble_eq_true rfl, Nat.le_of_ble_eq_true rfl⟩) (fun r hr9 => ?_)
  subst hr9
  refine lv_istore_n (lv' := [(3, .int (atv ct nt 70 n 5)), (0, .ref (g 36)), (1, .int n), (2, .int q)]) hx hb dX0_shareTrade_9 rfl hl (by decide) rfl (fun ls hl => ?_)
  refine lv_iload_n hx hb dX0_shareTrade_10 rfl (lv_at hl 0 rfl) ?_
  refine lv_iconst (v := (-1)) hx hb dX0_shareTrade_11 (by decide) ?_
  refine lv_icmp_eq (tgt := 32) hx hb dX0_shareTrade_12 (by decide) (fun c_12 => ?_) (fun c_12 => ?_)
  · refine lv_iconst (v := 0) hx hb dX0_shareTrade_32 (by decide) ?_
    exact W.zret (v := 0) hx hb hr (rfl) (fun t ht hW => ⟨_, rfl, (⟨false, (b2_f (by decide)).symm⟩), ht⟩) (fun _ h => absurd h List.not_mem_nil) dX0_shareTrade_33
  · refine lv_iload_n hx hb dX0_shareTrade_15 rfl (lv_at hl 0 rfl) ?_
    refine lv_aload_n hx hb dX0_shareTrade_16 rfl (lv_at hl 1 rfl) ?_
    refine va_get (D := G.1) (ci := 0) (v := .ref (g 45)) (C := RX0) (T := TX0) (N := 9) hx hb hts inlX0 hown hG.1 hP 36 (wl_at (by decide) hbk) rfl 4 (by decide) (hts (.fieldLink RX0 29 "SwornLists$Book" "trials" "LSwornLists$Rows;") w_58) (fun _ h9 => h9) rfl dX0_shareTrade_17 ?_
    refine lv_iload_n hx hb dX0_shareTrade_20 rfl (lv_at hl 3 rfl) ?_
    refine lv_iconst (v := 5) hx hb dX0_shareTrade_21 (by decide) ?_
    refine rd_calli (va_runV (As := [.int q, .int 5]) (rest := [.int (atv ct nt 70 n 5)]) ⟨hx, hb, hml, hown, hts⟩ (r_at l G g hg f 45 10 70 nt ct q 5 htr hct (by first | assumption | omega | decide) (by first | assumption | omega | decide) (by first | assumption | omega | decide) (by first | assumption | omega | decide)) (my_cwV hts ok_X5_at w_225 rfl rfl ⟨Nat.le_of_ble_eq_true rfl, Nat.le_of_ble_eq_true rfl⟩) ⟨bP.blind, va_recv hG.1 hP (ci := 5) (q0 := 45) rfl (wl_at (by decide) htr), fun U hU hW => ⟨rfl, by rw [hU]; exact hP, kG.warm hW hG⟩⟩ rfl rfl hl.1 rfl (lv_room (Nat.le_of_ble_eq_true rfl)) dX0_shareTrade_22 ⟨Nat.le_of_ble_eq_true rfl, Nat.le_of_ble_eq_true rfl⟩) (fun r hr9 => ?_)
    subst hr9
    refine lv_icmp_ne (tgt := 32) hx hb dX0_shareTrade_25 (by decide) (fun c_25 => ?_) (fun c_25 => ?_)
    · refine lv_iconst (v := 0) hx hb dX0_shareTrade_32 (by decide) ?_
      exact W.zret (v := 0) hx hb hr (rfl) (fun t ht hW => ⟨_, rfl, (⟨false, (b2_f (by decide)).symm⟩), ht⟩) (fun _ h => absurd h List.not_mem_nil) dX0_shareTrade_33
    · refine lv_iconst (v := 1) hx hb dX0_shareTrade_28 (by decide) ?_
      refine lv_goto (tgt := 33) hx hb dX0_shareTrade_29 (by decide) ?_
      exact W.zret (v := 1) hx hb hr (rfl) (fun t ht hW => ⟨_, rfl, (⟨true, (b2_t rfl).symm⟩), ht⟩) (fun _ h => absurd h List.not_mem_nil) dX0_shareTrade_33
set_option maxHeartbeats 4000000 in
set_option maxRecDepth 100000 in
theorem k_shareFamily (l : Launch) (G : gW) (g : Nat → Nat) (hg : gOK g) (f : Nat → va_E) (pay : Int32) (fine : Int32) (nt : Nat) (ct : Nat → Int32) (n : Int32) (q : Int32) (hbk : f 36 = eO 0 [.ref (g 37), .ref (g 39), .ref (g 41), .ref (g 43), .ref (g 45), .ref (g 47), .ref (g 112), .int pay, .int fine]) (htr : f 45 = eO 5 [.int (nI 10), .int (nI 70), .ref (g 46), .int (nI nt)]) (hct : f 46 = eI G (10 * 70) ct) (hnt : nt ≤ 10) : Met l yX0_shareFamily (wsT yX0_shareFamily cX0_shareFamily 6 (some .boolean)) ({ frames := 1, cells := 0, slots := 0, locals := 23 }) (bP G g f [.ref (g 36), .int n, .int q]) (rQi (fun z9 => ∃ bz : Bool, z9 = b2 (bz = true))) 0 0 fr0 := by
  refine Met.ofW (cc := cX0_shareFamily) (maxL := 6) (ret := (some .boolean)) (by decide) rfl ?_
  intro p e s m args below meth c s₁ B hml hv
  obtain ⟨rfl, hP, hG⟩ := hv
  have hx := B.exec
  have hb := B.bytes
  have hr := B.returns
  have hts := my_hts (atoms_spec (ws := wsT yX0_shareFamily cX0_shareFamily 6 (some .boolean)) B.pre)
  have hown : s.vm.findClass RX0 = some m.cls := findClass_of_methodNamed B.named
  have hlocks := B.notSynchronized
  have hl := lv_entry ([.ref (g 36), .int n, .int q]) (n := 6) (Nat.le_of_ble_eq_true rfl)
  rw [lg_entry_eq]
  generalize (lg_sl ([.ref (g 36), .int n, .int q]) ++ List.replicate (6 - (lg_sl ([.ref (g 36), .int n, .int q])).length) Slot.unset).toArray = ls at hl ⊢
  have hl : lv_has ls 6 [(0, .ref (g 36)), (1, .int n), (2, .int q)] := hl
  refine lv_iconst (v := 0) hx hb dX0_shareFamily_0 (by decide) ?_
  refine lv_istore_n (lv' := [(3, .int 0), (0, .ref (g 36)), (1, .int n), (2, .int q)]) hx hb dX0_shareFamily_1 rfl hl (by decide) rfl (fun ls hl => ?_)
  refine lv_iload_n hx hb dX0_shareFamily_2 rfl (lv_at hl 0 rfl) ?_
  refine lv_iconst (v := 1) hx hb dX0_shareFamily_3 (by decide) ?_
  refine lv_icmp_gt (tgt := 74) hx hb dX0_shareFamily_4 (by decide) (fun c_4 => absurd c_4 (by decide)) (fun c_4 => ?_)
  refine lv_aload_n hx hb dX0_shareFamily_7 rfl (lv_at hl 1 rfl) ?_
  refine va_get (D := G.1) (ci := 0) (v := .ref (g 45)) (C := RX0) (T := TX0) (N := 9) hx hb hts inlX0 hown hG.1 hP 36 (wl_at (by decide) hbk) rfl 4 (by decide) (hts (.fieldLink RX0 29 "SwornLists$Book" "trials" "LSwornLists$Rows;") w_58) (fun _ h9 => h9) rfl dX0_shareFamily_8 ?_
  refine lv_iload_n hx hb dX0_shareFamily_11 rfl (lv_at hl 2 rfl) ?_
  refine lv_iconst (v := 3) hx hb dX0_shareFamily_12 (by decide) ?_
  refine lv_iload_n hx hb dX0_shareFamily_13 rfl (lv_at hl 0 rfl) ?_
  refine lv_iadd hx hb dX0_shareFamily_14 ?_
  refine my_bei (v := 3) (by decide) ?_
  refine rd_calli (va_runV (As := [.int n, .int 3]) (rest := []) ⟨hx, hb, hml, hown, hts⟩ (r_at l G g hg f 45 10 70 nt ct n 3 htr hct (by first | assumption | omega | decide) (by first | assumption | omega | decide) (by first | assumption | omega | decide) (by first | assumption | omega | decide)) (my_cwV hts ok_X5_at w_225 rfl rfl ⟨Nat.le_of_ble_eq_true rfl, Nat.le_of_ble_eq_true rfl⟩) ⟨bP.blind, va_recv hG.1 hP (ci := 5) (q0 := 45) rfl (wl_at (by decide) htr), fun U hU hW => ⟨rfl, by rw [hU]; exact hP, kG.warm hW hG⟩⟩ rfl rfl hl.1 rfl (lv_room (Nat.le_of_ble_eq_true rfl)) dX0_shareFamily_15 ⟨Nat.le_of_ble_eq_true rfl, Nat.le_of_ble_eq_true rfl⟩) (fun r hr9 => ?_)
  subst hr9
  refine lv_istore (lv' := [(4, .int (atv ct nt 70 n 3)), (3, .int 0), (0, .ref (g 36)), (1, .int n), (2, .int q)]) hx hb dX0_shareFamily_18 hl (by decide) rfl (fun ls hl => ?_)
  refine lv_iload hx hb dX0_shareFamily_20 (lv_at hl 0 rfl) ?_
  refine lv_aload_n hx hb dX0_shareFamily_22 rfl (lv_at hl 2 rfl) ?_
  refine va_get (D := G.1) (ci := 0) (v := .ref (g 45)) (C := RX0) (T := TX0) (N := 9) hx hb hts inlX0 hown hG.1 hP 36 (wl_at (by decide) hbk) rfl 4 (by decide) (hts (.fieldLink RX0 29 "SwornLists$Book" "trials" "LSwornLists$Rows;") w_58) (fun _ h9 => h9) rfl dX0_shareFamily_23 ?_
  refine lv_iload_n hx hb dX0_shareFamily_26 rfl (lv_at hl 4 rfl) ?_
  refine lv_iconst (v := 3) hx hb dX0_shareFamily_27 (by decide) ?_
  refine rd_calli (va_runV (As := [.int q, .int 3]) (rest := [.int (atv ct nt 70 n 3)]) ⟨hx, hb, hml, hown, hts⟩ (r_at l G g hg f 45 10 70 nt ct q 3 htr hct (by first | assumption | omega | decide) (by first | assumption | omega | decide) (by first | assumption | omega | decide) (by first | assumption | omega | decide)) (my_cwV hts ok_X5_at w_225 rfl rfl ⟨Nat.le_of_ble_eq_true rfl, Nat.le_of_ble_eq_true rfl⟩) ⟨bP.blind, va_recv hG.1 hP (ci := 5) (q0 := 45) rfl (wl_at (by decide) htr), fun U hU hW => ⟨rfl, by rw [hU]; exact hP, kG.warm hW hG⟩⟩ rfl rfl hl.1 rfl (lv_room (Nat.le_of_ble_eq_true rfl)) dX0_shareFamily_28 ⟨Nat.le_of_ble_eq_true rfl, Nat.le_of_ble_eq_true rfl⟩) (fun r hr9 => ?_)
  subst hr9
  refine lv_icmp_eq (tgt := 48) hx hb dX0_shareFamily_31 (by decide) (fun c_31 => ?_) (fun c_31 => ?_)
  · refine lv_iconst (v := 1) hx hb dX0_shareFamily_48 (by decide) ?_
    refine lv_goto (tgt := 53) hx hb dX0_shareFamily_49 (by decide) ?_
    refine lv_istore (lv' := [(5, .int 1), (4, .int (atv ct nt 70 n 3)), (3, .int 0), (0, .ref (g 36)), (1, .int n), (2, .int q)]) hx hb dX0_shareFamily_53 hl (by decide) rfl (fun ls hl => ?_)
    refine lv_iload hx hb dX0_shareFamily_55 (lv_at hl 1 rfl) ?_
    refine lv_iconst (v := (-1)) hx hb dX0_shareFamily_57 (by decide) ?_
    refine lv_icmp_eq (tgt := 68) hx hb dX0_shareFamily_58 (by decide) (fun c_58 => ?_) (fun c_58 => ?_)
    · refine lv_iinc (v := 1) (lv' := [(3, .int 1), (5, .int 1), (4, .int (atv ct nt 70 n 3)), (0, .ref (g 36)), (1, .int n), (2, .int q)]) hx hb dX0_shareFamily_68 hl (k := 2) rfl (by decide) (by decide) rfl (fun ls hl => ?_)
      refine lv_goto (tgt := 2) hx hb dX0_shareFamily_71 (by decide) ?_
      refine lv_iload_n hx hb dX0_shareFamily_2 rfl (lv_at hl 0 rfl) ?_
      refine lv_iconst (v := 1) hx hb dX0_shareFamily_3 (by decide) ?_
      refine lv_icmp_gt (tgt := 74) hx hb dX0_shareFamily_4 (by decide) (fun c_4 => absurd c_4 (by decide)) (fun c_4 => ?_)
      refine lv_aload_n hx hb dX0_shareFamily_7 rfl (lv_at hl 3 rfl) ?_
      refine va_get (D := G.1) (ci := 0) (v := .ref (g 45)) (C := RX0) (T := TX0) (N := 9) hx hb hts inlX0 hown hG.1 hP 36 (wl_at (by decide) hbk) rfl 4 (by decide) (hts (.fieldLink RX0 29 "SwornLists$Book" "trials" "LSwornLists$Rows;") w_58) (fun _ h9 => h9) rfl dX0_shareFamily_8 ?_
      refine lv_iload_n hx hb dX0_shareFamily_11 rfl (lv_at hl 4 rfl) ?_
      refine lv_iconst (v := 3) hx hb dX0_shareFamily_12 (by decide) ?_
      refine lv_iload_n hx hb dX0_shareFamily_13 rfl (lv_at hl 0 rfl) ?_
      refine lv_iadd hx hb dX0_shareFamily_14 ?_
      refine my_bei (v := 4) (by decide) ?_
      refine rd_calli (va_runV (As := [.int n, .int 4]) (rest := []) ⟨hx, hb, hml, hown, hts⟩ (r_at l G g hg f 45 10 70 nt ct n 4 htr hct (by first | assumption | omega | decide) (by first | assumption | omega | decide) (by first | assumption | omega | decide) (by first | assumption | omega | decide)) (my_cwV hts ok_X5_at w_225 rfl rfl ⟨Nat.le_of_ble_eq_true rfl, Nat.le_of_ble_eq_true rfl⟩) ⟨bP.blind, va_recv hG.1 hP (ci := 5) (q0 := 45) rfl (wl_at (by decide) htr), fun U hU hW => ⟨rfl, by rw [hU]; exact hP, kG.warm hW hG⟩⟩ rfl rfl hl.1 rfl (lv_room (Nat.le_of_ble_eq_true rfl)) dX0_shareFamily_15 ⟨Nat.le_of_ble_eq_true rfl, Nat.le_of_ble_eq_true rfl⟩) (fun r hr9 => ?_)
      subst hr9
      refine lv_istore (lv' := [(4, .int (atv ct nt 70 n 4)), (3, .int 1), (5, .int 1), (0, .ref (g 36)), (1, .int n), (2, .int q)]) hx hb dX0_shareFamily_18 hl (by decide) rfl (fun ls hl => ?_)
      refine lv_iload hx hb dX0_shareFamily_20 (lv_at hl 0 rfl) ?_
      refine lv_aload_n hx hb dX0_shareFamily_22 rfl (lv_at hl 3 rfl) ?_
      refine va_get (D := G.1) (ci := 0) (v := .ref (g 45)) (C := RX0) (T := TX0) (N := 9) hx hb hts inlX0 hown hG.1 hP 36 (wl_at (by decide) hbk) rfl 4 (by decide) (hts (.fieldLink RX0 29 "SwornLists$Book" "trials" "LSwornLists$Rows;") w_58) (fun _ h9 => h9) rfl dX0_shareFamily_23 ?_
      refine lv_iload_n hx hb dX0_shareFamily_26 rfl (lv_at hl 5 rfl) ?_
      refine lv_iconst (v := 3) hx hb dX0_shareFamily_27 (by decide) ?_
      refine rd_calli (va_runV (As := [.int q, .int 3]) (rest := [.int (atv ct nt 70 n 4)]) ⟨hx, hb, hml, hown, hts⟩ (r_at l G g hg f 45 10 70 nt ct q 3 htr hct (by first | assumption | omega | decide) (by first | assumption | omega | decide) (by first | assumption | omega | decide) (by first | assumption | omega | decide)) (my_cwV hts ok_X5_at w_225 rfl rfl ⟨Nat.le_of_ble_eq_true rfl, Nat.le_of_ble_eq_true rfl⟩) ⟨bP.blind, va_recv hG.1 hP (ci := 5) (q0 := 45) rfl (wl_at (by decide) htr), fun U hU hW => ⟨rfl, by rw [hU]; exact hP, kG.warm hW hG⟩⟩ rfl rfl hl.1 rfl (lv_room (Nat.le_of_ble_eq_true rfl)) dX0_shareFamily_28 ⟨Nat.le_of_ble_eq_true rfl, Nat.le_of_ble_eq_true rfl⟩) (fun r hr9 => ?_)
      subst hr9
      refine lv_icmp_eq (tgt := 48) hx hb dX0_shareFamily_31 (by decide) (fun c_31 => ?_) (fun c_31 => ?_)
      · refine lv_iconst (v := 1) hx hb dX0_shareFamily_48 (by decide) ?_
        refine lv_goto (tgt := 53) hx hb dX0_shareFamily_49 (by decide) ?_
        refine lv_istore (lv' := [(5, .int 1), (4, .int (atv ct nt 70 n 4)), (3, .int 1), (0, .ref (g 36)), (1, .int n), (2, .int q)]) hx hb dX0_shareFamily_53 hl (by decide) rfl (fun ls hl => ?_)
        refine lv_iload hx hb dX0_shareFamily_55 (lv_at hl 1 rfl) ?_
        refine lv_iconst (v := (-1)) hx hb dX0_shareFamily_57 (by decide) ?_
        refine lv_icmp_eq (tgt := 68) hx hb dX0_shareFamily_58 (by decide) (fun c_58 => ?_) (fun c_58 => ?_)
        · refine lv_iinc (v := 2) (lv' := [(3, .int 2), (5, .int 1), (4, .int (atv ct nt 70 n 4)), (0, .ref (g 36)), (1, .int n), (2, .int q)]) hx hb dX0_shareFamily_68 hl (k := 2) rfl (by decide) (by decide) rfl (fun ls hl => ?_)
          refine lv_goto (tgt := 2) hx hb dX0_shareFamily_71 (by decide) ?_
          refine lv_iload_n hx hb dX0_shareFamily_2 rfl (lv_at hl 0 rfl) ?_
          refine lv_iconst (v := 1) hx hb dX0_shareFamily_3 (by decide) ?_
          refine lv_icmp_gt (tgt := 74) hx hb dX0_shareFamily_4 (by decide) (fun c_4 => ?_) (fun c_4 => absurd (by decide) c_4)
          refine lv_iconst (v := 0) hx hb dX0_shareFamily_74 (by decide) ?_
          exact W.zret (v := 0) hx hb hr (rfl) (fun t ht hW => ⟨_, rfl, (⟨false, (b2_f (by decide)).symm⟩), ht⟩) (fun _ h => absurd h List.not_mem_nil) dX0_shareFamily_75
        · refine lv_iload hx hb dX0_shareFamily_61 (lv_at hl 0 rfl) ?_
          refine lv_if_eq (tgt := 68) hx hb dX0_shareFamily_63 (by decide) (fun c_63 => absurd c_63 (by decide)) (fun c_63 => ?_)
          refine lv_iconst (v := 1) hx hb dX0_shareFamily_66 (by decide) ?_
          exact W.zret (v := 1) hx hb hr (rfl) (fun t ht hW => ⟨_, rfl, (⟨true, (b2_t rfl).symm⟩), ht⟩) (fun _ h => absurd h List.not_mem_nil) dX0_shareFamily_67
      · refine lv_iload hx hb dX0_shareFamily_34 (lv_at hl 0 rfl) ?_
        refine lv_aload_n hx hb dX0_shareFamily_36 rfl (lv_at hl 3 rfl) ?_
        refine va_get (D := G.1) (ci := 0) (v := .ref (g 45)) (C := RX0) (T := TX0) (N := 9) hx hb hts inlX0 hown hG.1 hP 36 (wl_at (by decide) hbk) rfl 4 (by decide) (hts (.fieldLink RX0 29 "SwornLists$Book" "trials" "LSwornLists$Rows;") w_58) (fun _ h9 => h9) rfl dX0_shareFamily_37 ?_
        refine lv_iload_n hx hb dX0_shareFamily_40 rfl (lv_at hl 5 rfl) ?_
        refine lv_iconst (v := 4) hx hb dX0_shareFamily_41 (by decide) ?_
        refine rd_calli (va_runV (As := [.int q, .int 4]) (rest := [.int (atv ct nt 70 n 4)]) ⟨hx, hb, hml, hown, hts⟩ (r_at l G g hg f 45 10 70 nt ct q 4 htr hct (by first | assumption | omega | decide) (by first | assumption | omega | decide) (by first | assumption | omega | decide) (by first | assumption | omega | decide)) (my_cwV hts ok_X5_at w_225 rfl rfl ⟨Nat.le_of_ble_eq_true rfl, Nat.le_of_ble_eq_true rfl⟩) ⟨bP.blind, va_recv hG.1 hP (ci := 5) (q0 := 45) rfl (wl_at (by decide) htr), fun U hU hW => ⟨rfl, by rw [hU]; exact hP, kG.warm hW hG⟩⟩ rfl rfl hl.1 rfl (lv_room (Nat.le_of_ble_eq_true rfl)) dX0_shareFamily_42 ⟨Nat.le_of_ble_eq_true rfl, Nat.le_of_ble_eq_true rfl⟩) (fun r hr9 => ?_)
        subst hr9
        refine lv_icmp_ne (tgt := 52) hx hb dX0_shareFamily_45 (by decide) (fun c_45 => ?_) (fun c_45 => ?_)
        · refine lv_iconst (v := 0) hx hb dX0_shareFamily_52 (by decide) ?_
          refine lv_istore (lv' := [(5, .int 0), (4, .int (atv ct nt 70 n 4)), (3, .int 1), (0, .ref (g 36)), (1, .int n), (2, .int q)]) hx hb dX0_shareFamily_53 hl (by decide) rfl (fun ls hl => ?_)
          refine lv_iload hx hb dX0_shareFamily_55 (lv_at hl 1 rfl) ?_
          refine lv_iconst (v := (-1)) hx hb dX0_shareFamily_57 (by decide) ?_
          refine lv_icmp_eq (tgt := 68) hx hb dX0_shareFamily_58 (by decide) (fun c_58 => ?_) (fun c_58 => ?_)
          · refine lv_iinc (v := 2) (lv' := [(3, .int 2), (5, .int 0), (4, .int (atv ct nt 70 n 4)), (0, .ref (g 36)), (1, .int n), (2, .int q)]) hx hb dX0_shareFamily_68 hl (k := 2) rfl (by decide) (by decide) rfl (fun ls hl => ?_)
            refine lv_goto (tgt := 2) hx hb dX0_shareFamily_71 (by decide) ?_
            refine lv_iload_n hx hb dX0_shareFamily_2 rfl (lv_at hl 0 rfl) ?_
            refine lv_iconst (v := 1) hx hb dX0_shareFamily_3 (by decide) ?_
            refine lv_icmp_gt (tgt := 74) hx hb dX0_shareFamily_4 (by decide) (fun c_4 => ?_) (fun c_4 => absurd (by decide) c_4)
            refine lv_iconst (v := 0) hx hb dX0_shareFamily_74 (by decide) ?_
            exact W.zret (v := 0) hx hb hr (rfl) (fun t ht hW => ⟨_, rfl, (⟨false, (b2_f (by decide)).symm⟩), ht⟩) (fun _ h => absurd h List.not_mem_nil) dX0_shareFamily_75
          · refine lv_iload hx hb dX0_shareFamily_61 (lv_at hl 0 rfl) ?_
            refine lv_if_eq (tgt := 68) hx hb dX0_shareFamily_63 (by decide) (fun c_63 => ?_) (fun c_63 => absurd (by decide) c_63)
            refine lv_iinc (v := 2) (lv' := [(3, .int 2), (5, .int 0), (4, .int (atv ct nt 70 n 4)), (0, .ref (g 36)), (1, .int n), (2, .int q)]) hx hb dX0_shareFamily_68 hl (k := 2) rfl (by decide) (by decide) rfl (fun ls hl => ?_)
            refine lv_goto (tgt := 2) hx hb dX0_shareFamily_71 (by decide) ?_
            refine lv_iload_n hx hb dX0_shareFamily_2 rfl (lv_at hl 0 rfl) ?_
            refine lv_iconst (v := 1) hx hb dX0_shareFamily_3 (by decide) ?_
            refine lv_icmp_gt (tgt := 74) hx hb dX0_shareFamily_4 (by decide) (fun c_4 => ?_) (fun c_4 => absurd (by decide) c_4)
            refine lv_iconst (v := 0) hx hb dX0_shareFamily_74 (by decide) ?_
            exact W.zret (v := 0) hx hb hr (rfl) (fun t ht hW => ⟨_, rfl, (⟨false, (b2_f (by decide)).symm⟩), ht⟩) (fun _ h => absurd h List.not_mem_nil) dX0_shareFamily_75
        · refine lv_iconst (v := 1) hx hb dX0_shareFamily_48 (by decide) ?_
          refine lv_goto (tgt := 53) hx hb dX0_shareFamily_49 (by decide) ?_
          refine lv_istore (lv' := [(5, .int 1), (4, .int (atv ct nt 70 n 4)), (3, .int 1), (0, .ref (g 36)), (1, .int n), (2, .int q)]) hx hb dX0_shareFamily_53 hl (by decide) rfl (fun ls hl => ?_)
          refine lv_iload hx hb dX0_shareFamily_55 (lv_at hl 1 rfl) ?_
          refine lv_iconst (v := (-1)) hx hb dX0_shareFamily_57 (by decide) ?_
          refine lv_icmp_eq (tgt := 68) hx hb dX0_shareFamily_58 (by decide) (fun c_58 => ?_) (fun c_58 => ?_)
          · refine lv_iinc (v := 2) (lv' := [(3, .int 2), (5, .int 1), (4, .int (atv ct nt 70 n 4)), (0, .ref (g 36)), (1, .int n), (2, .int q)]) hx hb dX0_shareFamily_68 hl (k := 2) rfl (by decide) (by decide) rfl (fun ls hl => ?_)
            refine lv_goto (tgt := 2) hx hb dX0_shareFamily_71 (by decide) ?_
            refine lv_iload_n hx hb dX0_shareFamily_2 rfl (lv_at hl 0 rfl) ?_
            refine lv_iconst (v := 1) hx hb dX0_shareFamily_3 (by decide) ?_
            refine lv_icmp_gt (tgt := 74) hx hb dX0_shareFamily_4 (by decide) (fun c_4 => ?_) (fun c_4 => absurd (by decide) c_4)
            refine lv_iconst (v := 0) hx hb dX0_shareFamily_74 (by decide) ?_
            exact W.zret (v := 0) hx hb hr (rfl) (fun t ht hW => ⟨_, rfl, (⟨false, (b2_f (by decide)).symm⟩), ht⟩) (fun _ h => absurd h List.not_mem_nil) dX0_shareFamily_75
          · refine lv_iload hx hb dX0_shareFamily_61 (lv_at hl 0 rfl) ?_
            refine lv_if_eq (tgt := 68) hx hb dX0_shareFamily_63 (by decide) (fun c_63 => absurd c_63 (by decide)) (fun c_63 => ?_)
            refine lv_iconst (v := 1) hx hb dX0_shareFamily_66 (by decide) ?_
            exact W.zret (v := 1) hx hb hr (rfl) (fun t ht hW => ⟨_, rfl, (⟨true, (b2_t rfl).symm⟩), ht⟩) (fun _ h => absurd h List.not_mem_nil) dX0_shareFamily_67
    · refine lv_iload hx hb dX0_shareFamily_61 (lv_at hl 0 rfl) ?_
      refine lv_if_eq (tgt := 68) hx hb dX0_shareFamily_63 (by decide) (fun c_63 => absurd c_63 (by decide)) (fun c_63 => ?_)
      refine lv_iconst (v := 1) hx hb dX0_shareFamily_66 (by decide) ?_
      exact W.zret (v := 1) hx hb hr (rfl) (fun t ht hW => ⟨_, rfl, (⟨true, (b2_t rfl).symm⟩), ht⟩) (fun _ h => absurd h List.not_mem_nil) dX0_shareFamily_67
  · refine lv_iload hx hb dX0_shareFamily_34 (lv_at hl 0 rfl) ?_
    refine lv_aload_n hx hb dX0_shareFamily_36 rfl (lv_at hl 2 rfl) ?_
    refine va_get (D := G.1) (ci := 0) (v := .ref (g 45)) (C := RX0) (T := TX0) (N := 9) hx hb hts inlX0 hown hG.1 hP 36 (wl_at (by decide) hbk) rfl 4 (by decide) (hts (.fieldLink RX0 29 "SwornLists$Book" "trials" "LSwornLists$Rows;") w_58) (fun _ h9 => h9) rfl dX0_shareFamily_37 ?_
    refine lv_iload_n hx hb dX0_shareFamily_40 rfl (lv_at hl 4 rfl) ?_
    refine lv_iconst (v := 4) hx hb dX0_shareFamily_41 (by decide) ?_
    refine rd_calli (va_runV (As := [.int q, .int 4]) (rest := [.int (atv ct nt 70 n 3)]) ⟨hx, hb, hml, hown, hts⟩ (r_at l G g hg f 45 10 70 nt ct q 4 htr hct (by first | assumption | omega | decide) (by first | assumption | omega | decide) (by first | assumption | omega | decide) (by first | assumption | omega | decide)) (my_cwV hts ok_X5_at w_225 rfl rfl ⟨Nat.le_of_ble_eq_true rfl, Nat.le_of_ble_eq_true rfl⟩) ⟨bP.blind, va_recv hG.1 hP (ci := 5) (q0 := 45) rfl (wl_at (by decide) htr), fun U hU hW => ⟨rfl, by rw [hU]; exact hP, kG.warm hW hG⟩⟩ rfl rfl hl.1 rfl (lv_room (Nat.le_of_ble_eq_true rfl)) dX0_shareFamily_42 ⟨Nat.le_of_ble_eq_true rfl, Nat.le_of_ble_eq_true rfl⟩) (fun r hr9 => ?_)
    subst hr9
    refine lv_icmp_ne (tgt := 52) hx hb dX0_shareFamily_45 (by decide) (fun c_45 => ?_) (fun c_45 => ?_)
    · refine lv_iconst (v := 0) hx hb dX0_shareFamily_52 (by decide) ?_
      refine lv_istore (lv' := [(5, .int 0), (4, .int (atv ct nt 70 n 3)), (3, .int 0), (0, .ref (g 36)), (1, .int n), (2, .int q)]) hx hb dX0_shareFamily_53 hl (by decide) rfl (fun ls hl => ?_)
      refine lv_iload hx hb dX0_shareFamily_55 (lv_at hl 1 rfl) ?_
      refine lv_iconst (v := (-1)) hx hb dX0_shareFamily_57 (by decide) ?_
      refine lv_icmp_eq (tgt := 68) hx hb dX0_shareFamily_58 (by decide) (fun c_58 => ?_) (fun c_58 => ?_)
      · refine lv_iinc (v := 1) (lv' := [(3, .int 1), (5, .int 0), (4, .int (atv ct nt 70 n 3)), (0, .ref (g 36)), (1, .int n), (2, .int q)]) hx hb dX0_shareFamily_68 hl (k := 2) rfl (by decide) (by decide) rfl (fun ls hl => ?_)
        refine lv_goto (tgt := 2) hx hb dX0_shareFamily_71 (by decide) ?_
        refine lv_iload_n hx hb dX0_shareFamily_2 rfl (lv_at hl 0 rfl) ?_
        refine lv_iconst (v := 1) hx hb dX0_shareFamily_3 (by decide) ?_
        refine lv_icmp_gt (tgt := 74) hx hb dX0_shareFamily_4 (by decide) (fun c_4 => absurd c_4 (by decide)) (fun c_4 => ?_)
        refine lv_aload_n hx hb dX0_shareFamily_7 rfl (lv_at hl 3 rfl) ?_
        refine va_get (D := G.1) (ci := 0) (v := .ref (g 45)) (C := RX0) (T := TX0) (N := 9) hx hb hts inlX0 hown hG.1 hP 36 (wl_at (by decide) hbk) rfl 4 (by decide) (hts (.fieldLink RX0 29 "SwornLists$Book" "trials" "LSwornLists$Rows;") w_58) (fun _ h9 => h9) rfl dX0_shareFamily_8 ?_
        refine lv_iload_n hx hb dX0_shareFamily_11 rfl (lv_at hl 4 rfl) ?_
        refine lv_iconst (v := 3) hx hb dX0_shareFamily_12 (by decide) ?_
        refine lv_iload_n hx hb dX0_shareFamily_13 rfl (lv_at hl 0 rfl) ?_
        refine lv_iadd hx hb dX0_shareFamily_14 ?_
        refine my_bei (v := 4) (by decide) ?_
        refine rd_calli (va_runV (As := [.int n, .int 4]) (rest := []) ⟨hx, hb, hml, hown, hts⟩ (r_at l G g hg f 45 10 70 nt ct n 4 htr hct (by first | assumption | omega | decide) (by first | assumption | omega | decide) (by first | assumption | omega | decide) (by first | assumption | omega | decide)) (my_cwV hts ok_X5_at w_225 rfl rfl ⟨Nat.le_of_ble_eq_true rfl, Nat.le_of_ble_eq_true rfl⟩) ⟨bP.blind, va_recv hG.1 hP (ci := 5) (q0 := 45) rfl (wl_at (by decide) htr), fun U hU hW => ⟨rfl, by rw [hU]; exact hP, kG.warm hW hG⟩⟩ rfl rfl hl.1 rfl (lv_room (Nat.le_of_ble_eq_true rfl)) dX0_shareFamily_15 ⟨Nat.le_of_ble_eq_true rfl, Nat.le_of_ble_eq_true rfl⟩) (fun r hr9 => ?_)
        subst hr9
        refine lv_istore (lv' := [(4, .int (atv ct nt 70 n 4)), (3, .int 1), (5, .int 0), (0, .ref (g 36)), (1, .int n), (2, .int q)]) hx hb dX0_shareFamily_18 hl (by decide) rfl (fun ls hl => ?_)
        refine lv_iload hx hb dX0_shareFamily_20 (lv_at hl 0 rfl) ?_
        refine lv_aload_n hx hb dX0_shareFamily_22 rfl (lv_at hl 3 rfl) ?_
        refine va_get (D := G.1) (ci := 0) (v := .ref (g 45)) (C := RX0) (T := TX0) (N := 9) hx hb hts inlX0 hown hG.1 hP 36 (wl_at (by decide) hbk) rfl 4 (by decide) (hts (.fieldLink RX0 29 "SwornLists$Book" "trials" "LSwornLists$Rows;") w_58) (fun _ h9 => h9) rfl dX0_shareFamily_23 ?_
        refine lv_iload_n hx hb dX0_shareFamily_26 rfl (lv_at hl 5 rfl) ?_
        refine lv_iconst (v := 3) hx hb dX0_shareFamily_27 (by decide) ?_
        refine rd_calli (va_runV (As := [.int q, .int 3]) (rest := [.int (atv ct nt 70 n 4)]) ⟨hx, hb, hml, hown, hts⟩ (r_at l G g hg f 45 10 70 nt ct q 3 htr hct (by first | assumption | omega | decide) (by first | assumption | omega | decide) (by first | assumption | omega | decide) (by first | assumption | omega | decide)) (my_cwV hts ok_X5_at w_225 rfl rfl ⟨Nat.le_of_ble_eq_true rfl, Nat.le_of_ble_eq_true rfl⟩) ⟨bP.blind, va_recv hG.1 hP (ci := 5) (q0 := 45) rfl (wl_at (by decide) htr), fun U hU hW => ⟨rfl, by rw [hU]; exact hP, kG.warm hW hG⟩⟩ rfl rfl hl.1 rfl (lv_room (Nat.le_of_ble_eq_true rfl)) dX0_shareFamily_28 ⟨Nat.le_of_ble_eq_true rfl, Nat.le_of_ble_eq_true rfl⟩) (fun r hr9 => ?_)
        subst hr9
        refine lv_icmp_eq (tgt := 48) hx hb dX0_shareFamily_31 (by decide) (fun c_31 => ?_) (fun c_31 => ?_)
        · refine lv_iconst (v := 1) hx hb dX0_shareFamily_48 (by decide) ?_
          refine lv_goto (tgt := 53) hx hb dX0_shareFamily_49 (by decide) ?_
          refine lv_istore (lv' := [(5, .int 1), (4, .int (atv ct nt 70 n 4)), (3, .int 1), (0, .ref (g 36)), (1, .int n), (2, .int q)]) hx hb dX0_shareFamily_53 hl (by decide) rfl (fun ls hl => ?_)
          refine lv_iload hx hb dX0_shareFamily_55 (lv_at hl 1 rfl) ?_
          refine lv_iconst (v := (-1)) hx hb dX0_shareFamily_57 (by decide) ?_
          refine lv_icmp_eq (tgt := 68) hx hb dX0_shareFamily_58 (by decide) (fun c_58 => ?_) (fun c_58 => ?_)
          · refine lv_iinc (v := 2) (lv' := [(3, .int 2), (5, .int 1), (4, .int (atv ct nt 70 n 4)), (0, .ref (g 36)), (1, .int n), (2, .int q)]) hx hb dX0_shareFamily_68 hl (k := 2) rfl (by decide) (by decide) rfl (fun ls hl => ?_)
            refine lv_goto (tgt := 2) hx hb dX0_shareFamily_71 (by decide) ?_
            refine lv_iload_n hx hb dX0_shareFamily_2 rfl (lv_at hl 0 rfl) ?_
            refine lv_iconst (v := 1) hx hb dX0_shareFamily_3 (by decide) ?_
            refine lv_icmp_gt (tgt := 74) hx hb dX0_shareFamily_4 (by decide) (fun c_4 => ?_) (fun c_4 => absurd (by decide) c_4)
            refine lv_iconst (v := 0) hx hb dX0_shareFamily_74 (by decide) ?_
            exact W.zret (v := 0) hx hb hr (rfl) (fun t ht hW => ⟨_, rfl, (⟨false, (b2_f (by decide)).symm⟩), ht⟩) (fun _ h => absurd h List.not_mem_nil) dX0_shareFamily_75
          · refine lv_iload hx hb dX0_shareFamily_61 (lv_at hl 0 rfl) ?_
            refine lv_if_eq (tgt := 68) hx hb dX0_shareFamily_63 (by decide) (fun c_63 => absurd c_63 (by decide)) (fun c_63 => ?_)
            refine lv_iconst (v := 1) hx hb dX0_shareFamily_66 (by decide) ?_
            exact W.zret (v := 1) hx hb hr (rfl) (fun t ht hW => ⟨_, rfl, (⟨true, (b2_t rfl).symm⟩), ht⟩) (fun _ h => absurd h List.not_mem_nil) dX0_shareFamily_67
        · refine lv_iload hx hb dX0_shareFamily_34 (lv_at hl 0 rfl) ?_
          refine lv_aload_n hx hb dX0_shareFamily_36 rfl (lv_at hl 3 rfl) ?_
          refine va_get (D := G.1) (ci := 0) (v := .ref (g 45)) (C := RX0) (T := TX0) (N := 9) hx hb hts inlX0 hown hG.1 hP 36 (wl_at (by decide) hbk) rfl 4 (by decide) (hts (.fieldLink RX0 29 "SwornLists$Book" "trials" "LSwornLists$Rows;") w_58) (fun _ h9 => h9) rfl dX0_shareFamily_37 ?_
          refine lv_iload_n hx hb dX0_shareFamily_40 rfl (lv_at hl 5 rfl) ?_
          refine lv_iconst (v := 4) hx hb dX0_shareFamily_41 (by decide) ?_
          refine rd_calli (va_runV (As := [.int q, .int 4]) (rest := [.int (atv ct nt 70 n 4)]) ⟨hx, hb, hml, hown, hts⟩ (r_at l G g hg f 45 10 70 nt ct q 4 htr hct (by first | assumption | omega | decide) (by first | assumption | omega | decide) (by first | assumption | omega | decide) (by first | assumption | omega | decide)) (my_cwV hts ok_X5_at w_225 rfl rfl ⟨Nat.le_of_ble_eq_true rfl, Nat.le_of_ble_eq_true rfl⟩) ⟨bP.blind, va_recv hG.1 hP (ci := 5) (q0 := 45) rfl (wl_at (by decide) htr), fun U hU hW => ⟨rfl, by rw [hU]; exact hP, kG.warm hW hG⟩⟩ rfl rfl hl.1 rfl (lv_room (Nat.le_of_ble_eq_true rfl)) dX0_shareFamily_42 ⟨Nat.le_of_ble_eq_true rfl, Nat.le_of_ble_eq_true rfl⟩) (fun r hr9 => ?_)
          subst hr9
          refine lv_icmp_ne (tgt := 52) hx hb dX0_shareFamily_45 (by decide) (fun c_45 => ?_) (fun c_45 => ?_)
          · refine lv_iconst (v := 0) hx hb dX0_shareFamily_52 (by decide) ?_
            refine lv_istore (lv' := [(5, .int 0), (4, .int (atv ct nt 70 n 4)), (3, .int 1), (0, .ref (g 36)), (1, .int n), (2, .int q)]) hx hb dX0_shareFamily_53 hl (by decide) rfl (fun ls hl => ?_)
            refine lv_iload hx hb dX0_shareFamily_55 (lv_at hl 1 rfl) ?_
            refine lv_iconst (v := (-1)) hx hb dX0_shareFamily_57 (by decide) ?_
            refine lv_icmp_eq (tgt := 68) hx hb dX0_shareFamily_58 (by decide) (fun c_58 => ?_) (fun c_58 => ?_)
            · refine lv_iinc (v := 2) (lv' := [(3, .int 2), (5, .int 0), (4, .int (atv ct nt 70 n 4)), (0, .ref (g 36)), (1, .int n), (2, .int q)]) hx hb dX0_shareFamily_68 hl (k := 2) rfl (by decide) (by decide) rfl (fun ls hl => ?_)
              refine lv_goto (tgt := 2) hx hb dX0_shareFamily_71 (by decide) ?_
              refine lv_iload_n hx hb dX0_shareFamily_2 rfl (lv_at hl 0 rfl) ?_
              refine lv_iconst (v := 1) hx hb dX0_shareFamily_3 (by decide) ?_
              refine lv_icmp_gt (tgt := 74) hx hb dX0_shareFamily_4 (by decide) (fun c_4 => ?_) (fun c_4 => absurd (by decide) c_4)
              refine lv_iconst (v := 0) hx hb dX0_shareFamily_74 (by decide) ?_
              exact W.zret (v := 0) hx hb hr (rfl) (fun t ht hW => ⟨_, rfl, (⟨false, (b2_f (by decide)).symm⟩), ht⟩) (fun _ h => absurd h List.not_mem_nil) dX0_shareFamily_75
            · refine lv_iload hx hb dX0_shareFamily_61 (lv_at hl 0 rfl) ?_
              refine lv_if_eq (tgt := 68) hx hb dX0_shareFamily_63 (by decide) (fun c_63 => ?_) (fun c_63 => absurd (by decide) c_63)
              refine lv_iinc (v := 2) (lv' := [(3, .int 2), (5, .int 0), (4, .int (atv ct nt 70 n 4)), (0, .ref (g 36)), (1, .int n), (2, .int q)]) hx hb dX0_shareFamily_68 hl (k := 2) rfl (by decide) (by decide) rfl (fun ls hl => ?_)
              refine lv_goto (tgt := 2) hx hb dX0_shareFamily_71 (by decide) ?_
              refine lv_iload_n hx hb dX0_shareFamily_2 rfl (lv_at hl 0 rfl) ?_
              refine lv_iconst (v := 1) hx hb dX0_shareFamily_3 (by decide) ?_
              refine lv_icmp_gt (tgt := 74) hx hb dX0_shareFamily_4 (by decide) (fun c_4 => ?_) (fun c_4 => absurd (by decide) c_4)
              refine lv_iconst (v := 0) hx hb dX0_shareFamily_74 (by decide) ?_
              exact W.zret (v := 0) hx hb hr (rfl) (fun t ht hW => ⟨_, rfl, (⟨false, (b2_f (by decide)).symm⟩), ht⟩) (fun _ h => absurd h List.not_mem_nil) dX0_shareFamily_75
          · refine lv_iconst (v := 1) hx hb dX0_shareFamily_48 (by decide) ?_
            refine lv_goto (tgt := 53) hx hb dX0_shareFamily_49 (by decide) ?_
            refine lv_istore (lv' := [(5, .int 1), (4, .int (atv ct nt 70 n 4)), (3, .int 1), (0, .ref (g 36)), (1, .int n), (2, .int q)]) hx hb dX0_shareFamily_53 hl (by decide) rfl (fun ls hl => ?_)
            refine lv_iload hx hb dX0_shareFamily_55 (lv_at hl 1 rfl) ?_
            refine lv_iconst (v := (-1)) hx hb dX0_shareFamily_57 (by decide) ?_
            refine lv_icmp_eq (tgt := 68) hx hb dX0_shareFamily_58 (by decide) (fun c_58 => ?_) (fun c_58 => ?_)
            · refine lv_iinc (v := 2) (lv' := [(3, .int 2), (5, .int 1), (4, .int (atv ct nt 70 n 4)), (0, .ref (g 36)), (1, .int n), (2, .int q)]) hx hb dX0_shareFamily_68 hl (k := 2) rfl (by decide) (by decide) rfl (fun ls hl => ?_)
              refine lv_goto (tgt := 2) hx hb dX0_shareFamily_71 (by decide) ?_
              refine lv_iload_n hx hb dX0_shareFamily_2 rfl (lv_at hl 0 rfl) ?_
              refine lv_iconst (v := 1) hx hb dX0_shareFamily_3 (by decide) ?_
              refine lv_icmp_gt (tgt := 74) hx hb dX0_shareFamily_4 (by decide) (fun c_4 => ?_) (fun c_4 => absurd (by decide) c_4)
              refine lv_iconst (v := 0) hx hb dX0_shareFamily_74 (by decide) ?_
              exact W.zret (v := 0) hx hb hr (rfl) (fun t ht hW => ⟨_, rfl, (⟨false, (b2_f (by decide)).symm⟩), ht⟩) (fun _ h => absurd h List.not_mem_nil) dX0_shareFamily_75
            · refine lv_iload hx hb dX0_shareFamily_61 (lv_at hl 0 rfl) ?_
              refine lv_if_eq (tgt := 68) hx hb dX0_shareFamily_63 (by decide) (fun c_63 => absurd c_63 (by decide)) (fun c_63 => ?_)
              refine lv_iconst (v := 1) hx hb dX0_shareFamily_66 (by decide) ?_
              exact W.zret (v := 1) hx hb hr (rfl) (fun t ht hW => ⟨_, rfl, (⟨true, (b2_t rfl).symm⟩), ht⟩) (fun _ h => absurd h List.not_mem_nil) dX0_shareFamily_67
      · refine lv_iload hx hb dX0_shareFamily_61 (lv_at hl 0 rfl) ?_
        refine lv_if_eq (tgt := 68) hx hb dX0_shareFamily_63 (by decide) (fun c_63 => ?_) (fun c_63 => absurd (by decide) c_63)
        refine lv_iinc (v := 1) (lv' := [(3, .int 1), (5, .int 0), (4, .int (atv ct nt 70 n 3)), (0, .ref (g 36)), (1, .int n), (2, .int q)]) hx hb dX0_shareFamily_68 hl (k := 2) rfl (by decide) (by decide) rfl (fun ls hl => ?_)
        refine lv_goto (tgt := 2) hx hb dX0_shareFamily_71 (by decide) ?_
        refine lv_iload_n hx hb dX0_shareFamily_2 rfl (lv_at hl 0 rfl) ?_
        refine lv_iconst (v := 1) hx hb dX0_shareFamily_3 (by decide) ?_
        refine lv_icmp_gt (tgt := 74) hx hb dX0_shareFamily_4 (by decide) (fun c_4 => absurd c_4 (by decide)) (fun c_4 => ?_)
        refine lv_aload_n hx hb dX0_shareFamily_7 rfl (lv_at hl 3 rfl) ?_
        refine va_get (D := G.1) (ci := 0) (v := .ref (g 45)) (C := RX0) (T := TX0) (N := 9) hx hb hts inlX0 hown hG.1 hP 36 (wl_at (by decide) hbk) rfl 4 (by decide) (hts (.fieldLink RX0 29 "SwornLists$Book" "trials" "LSwornLists$Rows;") w_58) (fun _ h9 => h9) rfl dX0_shareFamily_8 ?_
        refine lv_iload_n hx hb dX0_shareFamily_11 rfl (lv_at hl 4 rfl) ?_
        refine lv_iconst (v := 3) hx hb dX0_shareFamily_12 (by decide) ?_
        refine lv_iload_n hx hb dX0_shareFamily_13 rfl (lv_at hl 0 rfl) ?_
        refine lv_iadd hx hb dX0_shareFamily_14 ?_
        refine my_bei (v := 4) (by decide) ?_
        refine rd_calli (va_runV (As := [.int n, .int 4]) (rest := []) ⟨hx, hb, hml, hown, hts⟩ (r_at l G g hg f 45 10 70 nt ct n 4 htr hct (by first | assumption | omega | decide) (by first | assumption | omega | decide) (by first | assumption | omega | decide) (by first | assumption | omega | decide)) (my_cwV hts ok_X5_at w_225 rfl rfl ⟨Nat.le_of_ble_eq_true rfl, Nat.le_of_ble_eq_true rfl⟩) ⟨bP.blind, va_recv hG.1 hP (ci := 5) (q0 := 45) rfl (wl_at (by decide) htr), fun U hU hW => ⟨rfl, by rw [hU]; exact hP, kG.warm hW hG⟩⟩ rfl rfl hl.1 rfl (lv_room (Nat.le_of_ble_eq_true rfl)) dX0_shareFamily_15 ⟨Nat.le_of_ble_eq_true rfl, Nat.le_of_ble_eq_true rfl⟩) (fun r hr9 => ?_)
        subst hr9
        refine lv_istore (lv' := [(4, .int (atv ct nt 70 n 4)), (3, .int 1), (5, .int 0), (0, .ref (g 36)), (1, .int n), (2, .int q)]) hx hb dX0_shareFamily_18 hl (by decide) rfl (fun ls hl => ?_)
        refine lv_iload hx hb dX0_shareFamily_20 (lv_at hl 0 rfl) ?_
        refine lv_aload_n hx hb dX0_shareFamily_22 rfl (lv_at hl 3 rfl) ?_
        refine va_get (D := G.1) (ci := 0) (v := .ref (g 45)) (C := RX0) (T := TX0) (N := 9) hx hb hts inlX0 hown hG.1 hP 36 (wl_at (by decide) hbk) rfl 4 (by decide) (hts (.fieldLink RX0 29 "SwornLists$Book" "trials" "LSwornLists$Rows;") w_58) (fun _ h9 => h9) rfl dX0_shareFamily_23 ?_
        refine lv_iload_n hx hb dX0_shareFamily_26 rfl (lv_at hl 5 rfl) ?_
        refine lv_iconst (v := 3) hx hb dX0_shareFamily_27 (by decide) ?_
        refine rd_calli (va_runV (As := [.int q, .int 3]) (rest := [.int (atv ct nt 70 n 4)]) ⟨hx, hb, hml, hown, hts⟩ (r_at l G g hg f 45 10 70 nt ct q 3 htr hct (by first | assumption | omega | decide) (by first | assumption | omega | decide) (by first | assumption | omega | decide) (by first | assumption | omega | decide)) (my_cwV hts ok_X5_at w_225 rfl rfl ⟨Nat.le_of_ble_eq_true rfl, Nat.le_of_ble_eq_true rfl⟩) ⟨bP.blind, va_recv hG.1 hP (ci := 5) (q0 := 45) rfl (wl_at (by decide) htr), fun U hU hW => ⟨rfl, by rw [hU]; exact hP, kG.warm hW hG⟩⟩ rfl rfl hl.1 rfl (lv_room (Nat.le_of_ble_eq_true rfl)) dX0_shareFamily_28 ⟨Nat.le_of_ble_eq_true rfl, Nat.le_of_ble_eq_true rfl⟩) (fun r hr9 => ?_)
        subst hr9
        refine lv_icmp_eq (tgt := 48) hx hb dX0_shareFamily_31 (by decide) (fun c_31 => ?_) (fun c_31 => ?_)
        · refine lv_iconst (v := 1) hx hb dX0_shareFamily_48 (by decide) ?_
          refine lv_goto (tgt := 53) hx hb dX0_shareFamily_49 (by decide) ?_
          refine lv_istore (lv' := [(5, .int 1), (4, .int (atv ct nt 70 n 4)), (3, .int 1), (0, .ref (g 36)), (1, .int n), (2, .int q)]) hx hb dX0_shareFamily_53 hl (by decide) rfl (fun ls hl => ?_)
          refine lv_iload hx hb dX0_shareFamily_55 (lv_at hl 1 rfl) ?_
          refine lv_iconst (v := (-1)) hx hb dX0_shareFamily_57 (by decide) ?_
          refine lv_icmp_eq (tgt := 68) hx hb dX0_shareFamily_58 (by decide) (fun c_58 => ?_) (fun c_58 => ?_)
          · refine lv_iinc (v := 2) (lv' := [(3, .int 2), (5, .int 1), (4, .int (atv ct nt 70 n 4)), (0, .ref (g 36)), (1, .int n), (2, .int q)]) hx hb dX0_shareFamily_68 hl (k := 2) rfl (by decide) (by decide) rfl (fun ls hl => ?_)
            refine lv_goto (tgt := 2) hx hb dX0_shareFamily_71 (by decide) ?_
            refine lv_iload_n hx hb dX0_shareFamily_2 rfl (lv_at hl 0 rfl) ?_
            refine lv_iconst (v := 1) hx hb dX0_shareFamily_3 (by decide) ?_
            refine lv_icmp_gt (tgt := 74) hx hb dX0_shareFamily_4 (by decide) (fun c_4 => ?_) (fun c_4 => absurd (by decide) c_4)
            refine lv_iconst (v := 0) hx hb dX0_shareFamily_74 (by decide) ?_
            exact W.zret (v := 0) hx hb hr (rfl) (fun t ht hW => ⟨_, rfl, (⟨false, (b2_f (by decide)).symm⟩), ht⟩) (fun _ h => absurd h List.not_mem_nil) dX0_shareFamily_75
          · refine lv_iload hx hb dX0_shareFamily_61 (lv_at hl 0 rfl) ?_
            refine lv_if_eq (tgt := 68) hx hb dX0_shareFamily_63 (by decide) (fun c_63 => absurd c_63 (by decide)) (fun c_63 => ?_)
            refine lv_iconst (v := 1) hx hb dX0_shareFamily_66 (by decide) ?_
            exact W.zret (v := 1) hx hb hr (rfl) (fun t ht hW => ⟨_, rfl, (⟨true, (b2_t rfl).symm⟩), ht⟩) (fun _ h => absurd h List.not_mem_nil) dX0_shareFamily_67
        · refine lv_iload hx hb dX0_shareFamily_34 (lv_at hl 0 rfl) ?_
          refine lv_aload_n hx hb dX0_shareFamily_36 rfl (lv_at hl 3 rfl) ?_
          refine va_get (D := G.1) (ci := 0) (v := .ref (g 45)) (C := RX0) (T := TX0) (N := 9) hx hb hts inlX0 hown hG.1 hP 36 (wl_at (by decide) hbk) rfl 4 (by decide) (hts (.fieldLink RX0 29 "SwornLists$Book" "trials" "LSwornLists$Rows;") w_58) (fun _ h9 => h9) rfl dX0_shareFamily_37 ?_
          refine lv_iload_n hx hb dX0_shareFamily_40 rfl (lv_at hl 5 rfl) ?_
          refine lv_iconst (v := 4) hx hb dX0_shareFamily_41 (by decide) ?_
          refine rd_calli (va_runV (As := [.int q, .int 4]) (rest := [.int (atv ct nt 70 n 4)]) ⟨hx, hb, hml, hown, hts⟩ (r_at l G g hg f 45 10 70 nt ct q 4 htr hct (by first | assumption | omega | decide) (by first | assumption | omega | decide) (by first | assumption | omega | decide) (by first | assumption | omega | decide)) (my_cwV hts ok_X5_at w_225 rfl rfl ⟨Nat.le_of_ble_eq_true rfl, Nat.le_of_ble_eq_true rfl⟩) ⟨bP.blind, va_recv hG.1 hP (ci := 5) (q0 := 45) rfl (wl_at (by decide) htr), fun U hU hW => ⟨rfl, by rw [hU]; exact hP, kG.warm hW hG⟩⟩ rfl rfl hl.1 rfl (lv_room (Nat.le_of_ble_eq_true rfl)) dX0_shareFamily_42 ⟨Nat.le_of_ble_eq_true rfl, Nat.le_of_ble_eq_true rfl⟩) (fun r hr9 => ?_)
          subst hr9
          refine lv_icmp_ne (tgt := 52) hx hb dX0_shareFamily_45 (by decide) (fun c_45 => ?_) (fun c_45 => ?_)
          · refine lv_iconst (v := 0) hx hb dX0_shareFamily_52 (by decide) ?_
            refine lv_istore (lv' := [(5, .int 0), (4, .int (atv ct nt 70 n 4)), (3, .int 1), (0, .ref (g 36)), (1, .int n), (2, .int q)]) hx hb dX0_shareFamily_53 hl (by decide) rfl (fun ls hl => ?_)
            refine lv_iload hx hb dX0_shareFamily_55 (lv_at hl 1 rfl) ?_
            refine lv_iconst (v := (-1)) hx hb dX0_shareFamily_57 (by decide) ?_
            refine lv_icmp_eq (tgt := 68) hx hb dX0_shareFamily_58 (by decide) (fun c_58 => ?_) (fun c_58 => ?_)
            · refine lv_iinc (v := 2) (lv' := [(3, .int 2), (5, .int 0), (4, .int (atv ct nt 70 n 4)), (0, .ref (g 36)), (1, .int n), (2, .int q)]) hx hb dX0_shareFamily_68 hl (k := 2) rfl (by decide) (by decide) rfl (fun ls hl => ?_)
              refine lv_goto (tgt := 2) hx hb dX0_shareFamily_71 (by decide) ?_
              refine lv_iload_n hx hb dX0_shareFamily_2 rfl (lv_at hl 0 rfl) ?_
              refine lv_iconst (v := 1) hx hb dX0_shareFamily_3 (by decide) ?_
              refine lv_icmp_gt (tgt := 74) hx hb dX0_shareFamily_4 (by decide) (fun c_4 => ?_) (fun c_4 => absurd (by decide) c_4)
              refine lv_iconst (v := 0) hx hb dX0_shareFamily_74 (by decide) ?_
              exact W.zret (v := 0) hx hb hr (rfl) (fun t ht hW => ⟨_, rfl, (⟨false, (b2_f (by decide)).symm⟩), ht⟩) (fun _ h => absurd h List.not_mem_nil) dX0_shareFamily_75
            · refine lv_iload hx hb dX0_shareFamily_61 (lv_at hl 0 rfl) ?_
              refine lv_if_eq (tgt := 68) hx hb dX0_shareFamily_63 (by decide) (fun c_63 => ?_) (fun c_63 => absurd (by decide) c_63)
              refine lv_iinc (v := 2) (lv' := [(3, .int 2), (5, .int 0), (4, .int (atv ct nt 70 n 4)), (0, .ref (g 36)), (1, .int n), (2, .int q)]) hx hb dX0_shareFamily_68 hl (k := 2) rfl (by decide) (by decide) rfl (fun ls hl => ?_)
              refine lv_goto (tgt := 2) hx hb dX0_shareFamily_71 (by decide) ?_
              refine lv_iload_n hx hb dX0_shareFamily_2 rfl (lv_at hl 0 rfl) ?_
              refine lv_iconst (v := 1) hx hb dX0_shareFamily_3 (by decide) ?_
              refine lv_icmp_gt (tgt := 74) hx hb dX0_shareFamily_4 (by decide) (fun c_4 => ?_) (fun c_4 => absurd (by decide) c_4)
              refine lv_iconst (v := 0) hx hb dX0_shareFamily_74 (by decide) ?_
              exact W.zret (v := 0) hx hb hr (rfl) (fun t ht hW => ⟨_, rfl, (⟨false, (b2_f (by decide)).symm⟩), ht⟩) (fun _ h => absurd h List.not_mem_nil) dX0_shareFamily_75
          · refine lv_iconst (v := 1) hx hb dX0_shareFamily_48 (by decide) ?_
            refine lv_goto (tgt := 53) hx hb dX0_shareFamily_49 (by decide) ?_
            refine lv_istore (lv' := [(5, .int 1), (4, .int (atv ct nt 70 n 4)), (3, .int 1), (0, .ref (g 36)), (1, .int n), (2, .int q)]) hx hb dX0_shareFamily_53 hl (by decide) rfl (fun ls hl => ?_)
            refine lv_iload hx hb dX0_shareFamily_55 (lv_at hl 1 rfl) ?_
            refine lv_iconst (v := (-1)) hx hb dX0_shareFamily_57 (by decide) ?_
            refine lv_icmp_eq (tgt := 68) hx hb dX0_shareFamily_58 (by decide) (fun c_58 => ?_) (fun c_58 => ?_)
            · refine lv_iinc (v := 2) (lv' := [(3, .int 2), (5, .int 1), (4, .int (atv ct nt 70 n 4)), (0, .ref (g 36)), (1, .int n), (2, .int q)]) hx hb dX0_shareFamily_68 hl (k := 2) rfl (by decide) (by decide) rfl (fun ls hl => ?_)
              refine lv_goto (tgt := 2) hx hb dX0_shareFamily_71 (by decide) ?_
              refine lv_iload_n hx hb dX0_shareFamily_2 rfl (lv_at hl 0 rfl) ?_
              refine lv_iconst (v := 1) hx hb dX0_shareFamily_3 (by decide) ?_
              refine lv_icmp_gt (tgt := 74) hx hb dX0_shareFamily_4 (by decide) (fun c_4 => ?_) (fun c_4 => absurd (by decide) c_4)
              refine lv_iconst (v := 0) hx hb dX0_shareFamily_74 (by decide) ?_
              exact W.zret (v := 0) hx hb hr (rfl) (fun t ht hW => ⟨_, rfl, (⟨false, (b2_f (by decide)).symm⟩), ht⟩) (fun _ h => absurd h List.not_mem_nil) dX0_shareFamily_75
            · refine lv_iload hx hb dX0_shareFamily_61 (lv_at hl 0 rfl) ?_
              refine lv_if_eq (tgt := 68) hx hb dX0_shareFamily_63 (by decide) (fun c_63 => absurd c_63 (by decide)) (fun c_63 => ?_)
              refine lv_iconst (v := 1) hx hb dX0_shareFamily_66 (by decide) ?_
              exact W.zret (v := 1) hx hb hr (rfl) (fun t ht hW => ⟨_, rfl, (⟨true, (b2_t rfl).symm⟩), ht⟩) (fun _ h => absurd h List.not_mem_nil) dX0_shareFamily_67
    · refine lv_iconst (v := 1) hx hb dX0_shareFamily_48 (by decide) ?_
      refine lv_goto (tgt := 53) hx hb dX0_shareFamily_49 (by decide) ?_
      refine lv_istore (lv' := [(5, .int 1), (4, .int (atv ct nt 70 n 3)), (3, .int 0), (0, .ref (g 36)), (1, .int n), (2, .int q)]) hx hb dX0_shareFamily_53 hl (by decide) rfl (fun ls hl => ?_)
      refine lv_iload hx hb dX0_shareFamily_55 (lv_at hl 1 rfl) ?_
      refine lv_iconst (v := (-1)) hx hb dX0_shareFamily_57 (by decide) ?_
      refine lv_icmp_eq (tgt := 68) hx hb dX0_shareFamily_58 (by decide) (fun c_58 => ?_) (fun c_58 => ?_)
      · refine lv_iinc (v := 1) (lv' := [(3, .int 1), (5, .int 1), (4, .int (atv ct nt 70 n 3)), (0, .ref (g 36)), (1, .int n), (2, .int q)]) hx hb dX0_shareFamily_68 hl (k := 2) rfl (by decide) (by decide) rfl (fun ls hl => ?_)
        refine lv_goto (tgt := 2) hx hb dX0_shareFamily_71 (by decide) ?_
        refine lv_iload_n hx hb dX0_shareFamily_2 rfl (lv_at hl 0 rfl) ?_
        refine lv_iconst (v := 1) hx hb dX0_shareFamily_3 (by decide) ?_
        refine lv_icmp_gt (tgt := 74) hx hb dX0_shareFamily_4 (by decide) (fun c_4 => absurd c_4 (by decide)) (fun c_4 => ?_)
        refine lv_aload_n hx hb dX0_shareFamily_7 rfl (lv_at hl 3 rfl) ?_
        refine va_get (D := G.1) (ci := 0) (v := .ref (g 45)) (C := RX0) (T := TX0) (N := 9) hx hb hts inlX0 hown hG.1 hP 36 (wl_at (by decide) hbk) rfl 4 (by decide) (hts (.fieldLink RX0 29 "SwornLists$Book" "trials" "LSwornLists$Rows;") w_58) (fun _ h9 => h9) rfl dX0_shareFamily_8 ?_
        refine lv_iload_n hx hb dX0_shareFamily_11 rfl (lv_at hl 4 rfl) ?_
        refine lv_iconst (v := 3) hx hb dX0_shareFamily_12 (by decide) ?_
        refine lv_iload_n hx hb dX0_shareFamily_13 rfl (lv_at hl 0 rfl) ?_
        refine lv_iadd hx hb dX0_shareFamily_14 ?_
        refine my_bei (v := 4) (by decide) ?_
        refine rd_calli (va_runV (As := [.int n, .int 4]) (rest := []) ⟨hx, hb, hml, hown, hts⟩ (r_at l G g hg f 45 10 70 nt ct n 4 htr hct (by first | assumption | omega | decide) (by first | assumption | omega | decide) (by first | assumption | omega | decide) (by first | assumption | omega | decide)) (my_cwV hts ok_X5_at w_225 rfl rfl ⟨Nat.le_of_ble_eq_true rfl, Nat.le_of_ble_eq_true rfl⟩) ⟨bP.blind, va_recv hG.1 hP (ci := 5) (q0 := 45) rfl (wl_at (by decide) htr), fun U hU hW => ⟨rfl, by rw [hU]; exact hP, kG.warm hW hG⟩⟩ rfl rfl hl.1 rfl (lv_room (Nat.le_of_ble_eq_true rfl)) dX0_shareFamily_15 ⟨Nat.le_of_ble_eq_true rfl, Nat.le_of_ble_eq_true rfl⟩) (fun r hr9 => ?_)
        subst hr9
        refine lv_istore (lv' := [(4, .int (atv ct nt 70 n 4)), (3, .int 1), (5, .int 1), (0, .ref (g 36)), (1, .int n), (2, .int q)]) hx hb dX0_shareFamily_18 hl (by decide) rfl (fun ls hl => ?_)
        refine lv_iload hx hb dX0_shareFamily_20 (lv_at hl 0 rfl) ?_
        refine lv_aload_n hx hb dX0_shareFamily_22 rfl (lv_at hl 3 rfl) ?_
        refine va_get (D := G.1) (ci := 0) (v := .ref (g 45)) (C := RX0) (T := TX0) (N := 9) hx hb hts inlX0 hown hG.1 hP 36 (wl_at (by decide) hbk) rfl 4 (by decide) (hts (.fieldLink RX0 29 "SwornLists$Book" "trials" "LSwornLists$Rows;") w_58) (fun _ h9 => h9) rfl dX0_shareFamily_23 ?_
        refine lv_iload_n hx hb dX0_shareFamily_26 rfl (lv_at hl 5 rfl) ?_
        refine lv_iconst (v := 3) hx hb dX0_shareFamily_27 (by decide) ?_
        refine rd_calli (va_runV (As := [.int q, .int 3]) (rest := [.int (atv ct nt 70 n 4)]) ⟨hx, hb, hml, hown, hts⟩ (r_at l G g hg f 45 10 70 nt ct q 3 htr hct (by first | assumption | omega | decide) (by first | assumption | omega | decide) (by first | assumption | omega | decide) (by first | assumption | omega | decide)) (my_cwV hts ok_X5_at w_225 rfl rfl ⟨Nat.le_of_ble_eq_true rfl, Nat.le_of_ble_eq_true rfl⟩) ⟨bP.blind, va_recv hG.1 hP (ci := 5) (q0 := 45) rfl (wl_at (by decide) htr), fun U hU hW => ⟨rfl, by rw [hU]; exact hP, kG.warm hW hG⟩⟩ rfl rfl hl.1 rfl (lv_room (Nat.le_of_ble_eq_true rfl)) dX0_shareFamily_28 ⟨Nat.le_of_ble_eq_true rfl, Nat.le_of_ble_eq_true rfl⟩) (fun r hr9 => ?_)
        subst hr9
        refine lv_icmp_eq (tgt := 48) hx hb dX0_shareFamily_31 (by decide) (fun c_31 => ?_) (fun c_31 => ?_)
        · refine lv_iconst (v := 1) hx hb dX0_shareFamily_48 (by decide) ?_
          refine lv_goto (tgt := 53) hx hb dX0_shareFamily_49 (by decide) ?_
          refine lv_istore (lv' := [(5, .int 1), (4, .int (atv ct nt 70 n 4)), (3, .int 1), (0, .ref (g 36)), (1, .int n), (2, .int q)]) hx hb dX0_shareFamily_53 hl (by decide) rfl (fun ls hl => ?_)
          refine lv_iload hx hb dX0_shareFamily_55 (lv_at hl 1 rfl) ?_
          refine lv_iconst (v := (-1)) hx hb dX0_shareFamily_57 (by decide) ?_
          refine lv_icmp_eq (tgt := 68) hx hb dX0_shareFamily_58 (by decide) (fun c_58 => ?_) (fun c_58 => ?_)
          · refine lv_iinc (v := 2) (lv' := [(3, .int 2), (5, .int 1), (4, .int (atv ct nt 70 n 4)), (0, .ref (g 36)), (1, .int n), (2, .int q)]) hx hb dX0_shareFamily_68 hl (k := 2) rfl (by decide) (by decide) rfl (fun ls hl => ?_)
            refine lv_goto (tgt := 2) hx hb dX0_shareFamily_71 (by decide) ?_
            refine lv_iload_n hx hb dX0_shareFamily_2 rfl (lv_at hl 0 rfl) ?_
            refine lv_iconst (v := 1) hx hb dX0_shareFamily_3 (by decide) ?_
            refine lv_icmp_gt (tgt := 74) hx hb dX0_shareFamily_4 (by decide) (fun c_4 => ?_) (fun c_4 => absurd (by decide) c_4)
            refine lv_iconst (v := 0) hx hb dX0_shareFamily_74 (by decide) ?_
            exact W.zret (v := 0) hx hb hr (rfl) (fun t ht hW => ⟨_, rfl, (⟨false, (b2_f (by decide)).symm⟩), ht⟩) (fun _ h => absurd h List.not_mem_nil) dX0_shareFamily_75
          · refine lv_iload hx hb dX0_shareFamily_61 (lv_at hl 0 rfl) ?_
            refine lv_if_eq (tgt := 68) hx hb dX0_shareFamily_63 (by decide) (fun c_63 => absurd c_63 (by decide)) (fun c_63 => ?_)
            refine lv_iconst (v := 1) hx hb dX0_shareFamily_66 (by decide) ?_
            exact W.zret (v := 1) hx hb hr (rfl) (fun t ht hW => ⟨_, rfl, (⟨true, (b2_t rfl).symm⟩), ht⟩) (fun _ h => absurd h List.not_mem_nil) dX0_shareFamily_67
        · refine lv_iload hx hb dX0_shareFamily_34 (lv_at hl 0 rfl) ?_
          refine lv_aload_n hx hb dX0_shareFamily_36 rfl (lv_at hl 3 rfl) ?_
          refine va_get (D := G.1) (ci := 0) (v := .ref (g 45)) (C := RX0) (T := TX0) (N := 9) hx hb hts inlX0 hown hG.1 hP 36 (wl_at (by decide) hbk) rfl 4 (by decide) (hts (.fieldLink RX0 29 "SwornLists$Book" "trials" "LSwornLists$Rows;") w_58) (fun _ h9 => h9) rfl dX0_shareFamily_37 ?_
          refine lv_iload_n hx hb dX0_shareFamily_40 rfl (lv_at hl 5 rfl) ?_
          refine lv_iconst (v := 4) hx hb dX0_shareFamily_41 (by decide) ?_
          refine rd_calli (va_runV (As := [.int q, .int 4]) (rest := [.int (atv ct nt 70 n 4)]) ⟨hx, hb, hml, hown, hts⟩ (r_at l G g hg f 45 10 70 nt ct q 4 htr hct (by first | assumption | omega | decide) (by first | assumption | omega | decide) (by first | assumption | omega | decide) (by first | assumption | omega | decide)) (my_cwV hts ok_X5_at w_225 rfl rfl ⟨Nat.le_of_ble_eq_true rfl, Nat.le_of_ble_eq_true rfl⟩) ⟨bP.blind, va_recv hG.1 hP (ci := 5) (q0 := 45) rfl (wl_at (by decide) htr), fun U hU hW => ⟨rfl, by rw [hU]; exact hP, kG.warm hW hG⟩⟩ rfl rfl hl.1 rfl (lv_room (Nat.le_of_ble_eq_true rfl)) dX0_shareFamily_42 ⟨Nat.le_of_ble_eq_true rfl, Nat.le_of_ble_eq_true rfl⟩) (fun r hr9 => ?_)
          subst hr9
          refine lv_icmp_ne (tgt := 52) hx hb dX0_shareFamily_45 (by decide) (fun c_45 => ?_) (fun c_45 => ?_)
          · refine lv_iconst (v := 0) hx hb dX0_shareFamily_52 (by decide) ?_
            refine lv_istore (lv' := [(5, .int 0), (4, .int (atv ct nt 70 n 4)), (3, .int 1), (0, .ref (g 36)), (1, .int n), (2, .int q)]) hx hb dX0_shareFamily_53 hl (by decide) rfl (fun ls hl => ?_)
            refine lv_iload hx hb dX0_shareFamily_55 (lv_at hl 1 rfl) ?_
            refine lv_iconst (v := (-1)) hx hb dX0_shareFamily_57 (by decide) ?_
            refine lv_icmp_eq (tgt := 68) hx hb dX0_shareFamily_58 (by decide) (fun c_58 => ?_) (fun c_58 => ?_)
            · refine lv_iinc (v := 2) (lv' := [(3, .int 2), (5, .int 0), (4, .int (atv ct nt 70 n 4)), (0, .ref (g 36)), (1, .int n), (2, .int q)]) hx hb dX0_shareFamily_68 hl (k := 2) rfl (by decide) (by decide) rfl (fun ls hl => ?_)
              refine lv_goto (tgt := 2) hx hb dX0_shareFamily_71 (by decide) ?_
              refine lv_iload_n hx hb dX0_shareFamily_2 rfl (lv_at hl 0 rfl) ?_
              refine lv_iconst (v := 1) hx hb dX0_shareFamily_3 (by decide) ?_
              refine lv_icmp_gt (tgt := 74) hx hb dX0_shareFamily_4 (by decide) (fun c_4 => ?_) (fun c_4 => absurd (by decide) c_4)
              refine lv_iconst (v := 0) hx hb dX0_shareFamily_74 (by decide) ?_
              exact W.zret (v := 0) hx hb hr (rfl) (fun t ht hW => ⟨_, rfl, (⟨false, (b2_f (by decide)).symm⟩), ht⟩) (fun _ h => absurd h List.not_mem_nil) dX0_shareFamily_75
            · refine lv_iload hx hb dX0_shareFamily_61 (lv_at hl 0 rfl) ?_
              refine lv_if_eq (tgt := 68) hx hb dX0_shareFamily_63 (by decide) (fun c_63 => ?_) (fun c_63 => absurd (by decide) c_63)
              refine lv_iinc (v := 2) (lv' := [(3, .int 2), (5, .int 0), (4, .int (atv ct nt 70 n 4)), (0, .ref (g 36)), (1, .int n), (2, .int q)]) hx hb dX0_shareFamily_68 hl (k := 2) rfl (by decide) (by decide) rfl (fun ls hl => ?_)
              refine lv_goto (tgt := 2) hx hb dX0_shareFamily_71 (by decide) ?_
              refine lv_iload_n hx hb dX0_shareFamily_2 rfl (lv_at hl 0 rfl) ?_
              refine lv_iconst (v := 1) hx hb dX0_shareFamily_3 (by decide) ?_
              refine lv_icmp_gt (tgt := 74) hx hb dX0_shareFamily_4 (by decide) (fun c_4 => ?_) (fun c_4 => absurd (by decide) c_4)
              refine lv_iconst (v := 0) hx hb dX0_shareFamily_74 (by decide) ?_
              exact W.zret (v := 0) hx hb hr (rfl) (fun t ht hW => ⟨_, rfl, (⟨false, (b2_f (by decide)).symm⟩), ht⟩) (fun _ h => absurd h List.not_mem_nil) dX0_shareFamily_75
          · refine lv_iconst (v := 1) hx hb dX0_shareFamily_48 (by decide) ?_
            refine lv_goto (tgt := 53) hx hb dX0_shareFamily_49 (by decide) ?_
            refine lv_istore (lv' := [(5, .int 1), (4, .int (atv ct nt 70 n 4)), (3, .int 1), (0, .ref (g 36)), (1, .int n), (2, .int q)]) hx hb dX0_shareFamily_53 hl (by decide) rfl (fun ls hl => ?_)
            refine lv_iload hx hb dX0_shareFamily_55 (lv_at hl 1 rfl) ?_
            refine lv_iconst (v := (-1)) hx hb dX0_shareFamily_57 (by decide) ?_
            refine lv_icmp_eq (tgt := 68) hx hb dX0_shareFamily_58 (by decide) (fun c_58 => ?_) (fun c_58 => ?_)
            · refine lv_iinc (v := 2) (lv' := [(3, .int 2), (5, .int 1), (4, .int (atv ct nt 70 n 4)), (0, .ref (g 36)), (1, .int n), (2, .int q)]) hx hb dX0_shareFamily_68 hl (k := 2) rfl (by decide) (by decide) rfl (fun ls hl => ?_)
              refine lv_goto (tgt := 2) hx hb dX0_shareFamily_71 (by decide) ?_
              refine lv_iload_n hx hb dX0_shareFamily_2 rfl (lv_at hl 0 rfl) ?_
              refine lv_iconst (v := 1) hx hb dX0_shareFamily_3 (by decide) ?_
              refine lv_icmp_gt (tgt := 74) hx hb dX0_shareFamily_4 (by decide) (fun c_4 => ?_) (fun c_4 => absurd (by decide) c_4)
              refine lv_iconst (v := 0) hx hb dX0_shareFamily_74 (by decide) ?_
              exact W.zret (v := 0) hx hb hr (rfl) (fun t ht hW => ⟨_, rfl, (⟨false, (b2_f (by decide)).symm⟩), ht⟩) (fun _ h => absurd h List.not_mem_nil) dX0_shareFamily_75
            · refine lv_iload hx hb dX0_shareFamily_61 (lv_at hl 0 rfl) ?_
              refine lv_if_eq (tgt := 68) hx hb dX0_shareFamily_63 (by decide) (fun c_63 => absurd c_63 (by decide)) (fun c_63 => ?_)
              refine lv_iconst (v := 1) hx hb dX0_shareFamily_66 (by decide) ?_
              exact W.zret (v := 1) hx hb hr (rfl) (fun t ht hW => ⟨_, rfl, (⟨true, (b2_t rfl).symm⟩), ht⟩) (fun _ h => absurd h List.not_mem_nil) dX0_shareFamily_67
      · refine lv_iload hx hb dX0_shareFamily_61 (lv_at hl 0 rfl) ?_
        refine lv_if_eq (tgt := 68) hx hb dX0_shareFamily_63 (by decide) (fun c_63 => absurd c_63 (by decide)) (fun c_63 => ?_)
        refine lv_iconst (v := 1) hx hb dX0_shareFamily_66 (by decide) ?_
        exact W.zret (v := 1) hx hb hr (rfl) (fun t ht hW => ⟨_, rfl, (⟨true, (b2_t rfl).symm⟩), ht⟩) (fun _ h => absurd h List.not_mem_nil) dX0_shareFamily_67


set_option maxHeartbeats 4000000 in
set_option maxRecDepth 100000 in
theorem u_hearE00 (l : Launch) (G : gW) (g : Nat → Nat) (hg : gOK g) (f : Nat → va_E) (se : Nat) (hf : Nat → Option Nat) (pay : Int32) (fine : Int32) (nt : Nat) (ct : Nat → Int32) (np : Nat) (dp : Nat → Int32) (nf : Nat) (df : Nat → Int32) (nr : Nat) (dr : Nat → Int32) (k : Nat) (sl : Nat) (lo : Int32) (ib : Int32) (ca : Int32) (mi : Int32) (s0 : Int32) (s1 : Int32) (sx : Int32) (od : Nat → Int32) (vv : Nat → Int64) (sw : Nat → Int32) (w : Nat) (q8 : Nat) (q6 : Nat) (ks : Nat) (fit : Int32) (box : Int32) (hctc : f 1 = eO 1 [.ref (g 36), .ref (g 12), .ref (g 13), .ref (g 15), .int (nI se)]) (hhs : f 12 = eA G 4 10 hf) (hbk : f 36 = eO 0 [.ref (g 37), .ref (g 39), .ref (g 41), .ref (g 43), .ref (g 45), .ref (g 47), .ref (g 112), .int pay, .int fine]) (htr : f 45 = eO 5 [.int (nI 10), .int (nI 70), .ref (g 46), .int (nI nt)]) (hct : f 46 = eI G (10 * 70) ct) (hpr : f 37 = eO 5 [.int (nI 30), .int (nI 4), .ref (g 38), .int (nI np)]) (hpd : f 38 = eI G (30 * 4) dp) (hfr : f 39 = eO 5 [.int (nI 40), .int (nI 3), .ref (g 40), .int (nI nf)]) (hfd : f 40 = eI G (40 * 3) df) (hor : f 41 = eO 5 [.int (nI 4), .int (nI 3), .ref (g 42), .int (nI nr)]) (hod : f 42 = eI G (4 * 3) dr) (hvl : f 15 = eJ G 50 vv) (hhe : f k = eO 3 [.ref (g (k + 1)), .int (nI sl), .int lo, .int ib, .int ca, .int mi, .int s0, .int s1, .int sx]) (hod0 : f (k + 1) = eI G 24 od) (hse : se ≤ 10) (hhf : ∀ i, i < 10 → hf i = some (g (2 * i + 16))) (hnt : nt ≤ 10) (hnp : np ≤ 30) (hnf : nf ≤ 40) (hnr : nr ≤ 4) (hk3 : k + 1 < 36) (hk13 : 13 ≤ k) (hk15 : k ≠ 14 ∧ k ≠ 15) (hsl : sl ≤ 24) (hw : w < nt) (hq8 : ct (70 * w + 8) = nI q8) (hq88 : q8 ≤ 24) (hq6 : ct (70 * w + 6) = nI q6) (hq64 : q6 ≤ 4) (hq2 : ct (70 * w + 2) = nI ks) (hks : ks ≤ 8) (hfit : fitV np (nvF (fun i c => dp (4 * i + c)) (fun t c => ct (70 * t + c)) sw (ct (70 * w + 0)) nt) (knV (fun i c => df (3 * i + c)) (ct (70 * w + 3)) (ct (70 * w + 4)) (ct (70 * w + 0)) nf) (bzV (fun t c => ct (70 * t + c)) sw w w) none = fit) (hbox : boxV np (nvF (fun i c => dp (4 * i + c)) (fun t c => ct (70 * t + c)) sw (ct (70 * w + 0)) nt) fit (rlV np nr (fun i c => dr (3 * i + c)) (ct (70 * w + 0))) (trdV np (fun i c => dp (4 * i + c)) (ct (70 * w + 5))) none = box) (hb30 : ∀ j, 30 ≤ j → bt box j = false) (hZ : ∀ i, i < 10 → okZ G g f (2 * i + 16) (sw i)) : Met l yX1_hear (wsT yX1_hear cX1_hear 11 none) ({ frames := 4, cells := 0, slots := 0, locals := 89 }) (bP G g f [.ref (g 1), .int (nI w), .ref (g k), .null, .null]) (bQv G g (fun (f' : Nat → va_E) => ∃ vv9 : Nat → Int64, f' 15 = eJ G 50 vv9 ∧ (okQ G g f' k box (pasV fit box) (fun c => ct (70 * w + c))) ∧ ∀ j, (j ≠ 15 ∧ j ≠ k ∧ j ≠ k + 1) → f' j = f j)) 0 0 (gA g) := by
  refine Met.ofW (cc := cX1_hear) (maxL := 11) (ret := none) (by decide) rfl ?_
  intro p e s m args below meth c s₁ B hml hv
  obtain ⟨rfl, hP, hG⟩ := hv
  have hx := B.exec
  have hb := B.bytes
  have hr := B.returns
  have hts := my_hts (atoms_spec (ws := wsT yX1_hear cX1_hear 11 none) B.pre)
  have hown : s.vm.findClass RX1 = some m.cls := findClass_of_methodNamed B.named
  have hlocks := B.notSynchronized
  have hS : va_S (gA g) s.heap s.heap [] := va_S.rf
  have hl := lv_entry ([.ref (g 1), .int (nI w), .ref (g k), .null, .null]) (n := 11) (Nat.le_of_ble_eq_true rfl)
  rw [lg_entry_eq]
  generalize (lg_sl ([.ref (g 1), .int (nI w), .ref (g k), .null, .null]) ++ List.replicate (11 - (lg_sl ([.ref (g 1), .int (nI w), .ref (g k), .null, .null])).length) Slot.unset).toArray = ls at hl ⊢
  have hl : lv_has ls 11 [(0, .ref (g 1)), (1, .int (nI w)), (2, .ref (g k)), (3, .null), (4, .null)] := hl
  refine W_q8 (fun Q9 hQ9 => ?_)
  refine lv_aload_n hx hb dX1_hear_0 rfl (lv_at hl 0 rfl) ?_
  refine va_get (D := G.1) (ci := 1) (v := .ref (g 36)) (C := RX1) (T := TX1) (N := 5) hx hb hts inlX1 hown hG.1 hP 1 (wl_at (by decide) hctc) rfl 0 (by decide) (hts (.fieldLink RX1 12 "SwornLists$Court" "book" "LSwornLists$Book;") w_40) (fun _ h9 => h9) rfl dX1_hear_1 ?_
  refine va_getN (D := G.1) (ci := 0) (v := .ref (g 45)) (C := RX0) (T := TX0) (N := 9) (host := RX10) hx hb hts inlX0 hown hG.1 hP 36 (wl_at (by decide) hbk) rfl 4 (by decide) (va_Nw.use rfl (hG.2.1 (.fieldLinkNest RX1 43 RX0 "trials" "LSwornLists$Rows;" RX10) (List.mem_of_getElem? (i := 6) rfl))) (fun _ h9 => h9) rfl dX1_hear_4 ?_
  refine lv_astore (lv' := [(5, .ref (g 45)), (0, .ref (g 1)), (1, .int (nI w)), (2, .ref (g k)), (3, .null), (4, .null)]) hx hb dX1_hear_7 hl (by decide) rfl (fun ls hl => ?_)
  refine lv_aload hx hb dX1_hear_9 (lv_at hl 0 rfl) ?_
  refine lv_iload_n hx hb dX1_hear_11 rfl (lv_at hl 2 rfl) ?_
  refine lv_iconst (v := 0) hx hb dX1_hear_12 (by decide) ?_
  refine rd_calli (va_runV (As := [.int (nI w), .int 0]) (rest := []) ⟨hx, hb, hml, hown, hts⟩ (r_at l G g hg f 45 10 70 nt ct (nI w) 0 htr hct (by first | assumption | omega | decide) (by first | assumption | omega | decide) (by first | assumption | omega | decide) (by first | assumption | omega | decide)) (my_cwV hts ok_X5_at w_389 rfl rfl ⟨Nat.le_of_ble_eq_true rfl, Nat.le_of_ble_eq_true rfl⟩) ⟨bP.blind, va_recv hG.1 hP (ci := 5) (q0 := 45) rfl (wl_at (by decide) htr), fun U hU hW => ⟨rfl, by rw [hU]; exact hP, kG.warm hW hG⟩⟩ rfl rfl hl.1 rfl (lv_room (Nat.le_of_ble_eq_true rfl)) dX1_hear_13 ⟨Nat.le_of_ble_eq_true rfl, Nat.le_of_ble_eq_true rfl⟩) (fun r hr9 => ?_)
  subst hr9
  refine my_bei (v := ct (70 * w + 0)) (atQ (d := ct) (w := 70) (i := w) (c := 0) hw (by omega) (by omega) (by omega)) ?_
  refine lv_istore (lv' := [(6, .int (ct (70 * w + 0))), (5, .ref (g 45)), (0, .ref (g 1)), (1, .int (nI w)), (2, .ref (g k)), (3, .null), (4, .null)]) hx hb dX1_hear_16 hl (by decide) rfl (fun ls hl => ?_)
  refine lv_aload_n hx hb dX1_hear_18 rfl (lv_at hl 2 rfl) ?_
  refine va_get (D := G.1) (ci := 1) (v := .ref (g 36)) (C := RX1) (T := TX1) (N := 5) hx hb hts inlX1 hown hG.1 hP 1 (wl_at (by decide) hctc) rfl 0 (by decide) (hts (.fieldLink RX1 12 "SwornLists$Court" "book" "LSwornLists$Book;") w_40) (fun _ h9 => h9) rfl dX1_hear_19 ?_
  refine rd_calli (va_runV (As := []) (rest := []) ⟨hx, hb, hml, hown, hts⟩ (k_everyoneE l G g hg f pay fine np dp hbk hpr hpd (by first | assumption | omega | decide)) (my_cwV hts ok_X0_everyone w_407 rfl rfl ⟨Nat.le_of_ble_eq_true rfl, Nat.le_of_ble_eq_true rfl⟩) ⟨bP.blind, va_recv hG.1 hP (ci := 0) (q0 := 36) rfl (wl_at (by decide) hbk), fun U hU hW => ⟨rfl, by rw [hU]; exact hP, kG.warm hW hG⟩⟩ rfl rfl hl.1 rfl (lv_room (Nat.le_of_ble_eq_true rfl)) dX1_hear_22 ⟨Nat.le_of_ble_eq_true rfl, Nat.le_of_ble_eq_true rfl⟩) (fun r hr9 => ?_)
  subst hr9
  refine lv_aload_n hx hb dX1_hear_25 rfl (lv_at hl 2 rfl) ?_
  refine va_get (D := G.1) (ci := 1) (v := .ref (g 36)) (C := RX1) (T := TX1) (N := 5) hx hb hts inlX1 hown hG.1 hP 1 (wl_at (by decide) hctc) rfl 0 (by decide) (hts (.fieldLink RX1 12 "SwornLists$Court" "book" "LSwornLists$Book;") w_40) (fun _ h9 => h9) rfl dX1_hear_26 ?_
  refine lv_iload_n hx hb dX1_hear_29 rfl (lv_at hl 3 rfl) ?_
  refine lv_iload hx hb dX1_hear_30 (lv_at hl 0 rfl) ?_
  refine rd_calli (va_runV (As := [.int (nI w), .int (ct (70 * w + 0))]) (rest := [.int ((1 <<< (nI np &&& 31)) - 1)]) ⟨hx, hb, hml, hown, hts⟩ (k_kinOfSidesE l G g hg f pay fine nf df nt ct w (ct (70 * w + 0)) hbk hfr hfd htr hct (by first | assumption | omega | decide) (by first | assumption | omega | decide) (by first | assumption | omega | decide)) (my_cwV hts ok_X0_kinOfSides w_408 rfl rfl ⟨Nat.le_of_ble_eq_true rfl, Nat.le_of_ble_eq_true rfl⟩) ⟨bP.blind, va_recv hG.1 hP (ci := 0) (q0 := 36) rfl (wl_at (by decide) hbk), fun U hU hW => ⟨rfl, by rw [hU]; exact hP, kG.warm hW hG⟩⟩ rfl rfl hl.1 rfl (lv_room (Nat.le_of_ble_eq_true rfl)) dX1_hear_32 ⟨Nat.le_of_ble_eq_true rfl, Nat.le_of_ble_eq_true rfl⟩) (fun r hr9 => ?_)
  subst hr9
  refine lv_iconst (v := (-1)) hx hb dX1_hear_35 (by decide) ?_
  refine lv_ixor hx hb dX1_hear_36 ?_
  refine lv_iand hx hb dX1_hear_37 ?_
  refine lv_aload_n hx hb dX1_hear_38 rfl (lv_at hl 2 rfl) ?_
  refine lv_iload_n hx hb dX1_hear_39 rfl (lv_at hl 3 rfl) ?_
  refine rd_calli (va_runV (As := [.int (nI w)]) (rest := [.int (((1 <<< (nI np &&& 31)) - 1) &&& ((knV (fun i c => df (3 * i + c)) (ct (70 * w + 3)) (ct (70 * w + 4)) (ct (70 * w + 0)) nf) ^^^ (-1)))]) ⟨hx, hb, hml, hown, hts⟩ (u_busyE l G g hg f se hf pay fine nt ct sw w hctc hhs hbk htr hct (by first | assumption | omega | decide) (by first | assumption | omega | decide) (by first | assumption | omega | decide) (by first | assumption | omega | decide) (by first | assumption | omega | decide)) (my_cwV hts ok_X1_busy w_412 rfl rfl ⟨Nat.le_of_ble_eq_true rfl, Nat.le_of_ble_eq_true rfl⟩) ⟨bP.blind, va_recv hG.1 hP (ci := 1) (q0 := 1) rfl (wl_at (by decide) hctc), fun U hU hW => ⟨rfl, by rw [hU]; exact hP, kG.warm hW hG⟩⟩ rfl rfl hl.1 rfl (lv_room (Nat.le_of_ble_eq_true rfl)) dX1_hear_40 ⟨Nat.le_of_ble_eq_true rfl, Nat.le_of_ble_eq_true rfl⟩) (fun r hr9 => ?_)
  subst hr9
  refine lv_iconst (v := (-1)) hx hb dX1_hear_43 (by decide) ?_
  refine lv_ixor hx hb dX1_hear_44 ?_
  refine lv_iand hx hb dX1_hear_45 ?_
  refine my_bei (v := clV np (knV (fun i c => df (3 * i + c)) (ct (70 * w + 3)) (ct (70 * w + 4)) (ct (70 * w + 0)) nf) (bzV (fun t c => ct (70 * t + c)) sw w w)) (rfl) ?_
  refine lv_istore (lv' := [(7, .int (clV np (knV (fun i c => df (3 * i + c)) (ct (70 * w + 3)) (ct (70 * w + 4)) (ct (70 * w + 0)) nf) (bzV (fun t c => ct (70 * t + c)) sw w w))), (6, .int (ct (70 * w + 0))), (5, .ref (g 45)), (0, .ref (g 1)), (1, .int (nI w)), (2, .ref (g k)), (3, .null), (4, .null)]) hx hb dX1_hear_46 hl (by decide) rfl (fun ls hl => ?_)
  refine lv_aload_n hx hb dX1_hear_48 rfl (lv_at hl 3 rfl) ?_
  refine lv_aload_nN hx hb dX1_hear_49 rfl (lv_at hl 6 rfl) ?_
  refine lv_iconst (v := 0) hx hb dX1_hear_50 (by decide) ?_
  refine lv_iload hx hb dX1_hear_51 (lv_at hl 1 rfl) ?_
  refine lv_iload hx hb dX1_hear_53 (lv_at hl 0 rfl) ?_
  refine rd_calli (va_runV (As := [.null, .int 0, .int (ct (70 * w + 0)), .int (clV np (knV (fun i c => df (3 * i + c)) (ct (70 * w + 3)) (ct (70 * w + 4)) (ct (70 * w + 0)) nf) (bzV (fun t c => ct (70 * t + c)) sw w w))]) (rest := []) ⟨hx, hb, hml, hown, hts⟩ (u_truthsN0 l G g hg f (ct (70 * w + 0)) (clV np (knV (fun i c => df (3 * i + c)) (ct (70 * w + 3)) (ct (70 * w + 4)) (ct (70 * w + 0)) nf) (bzV (fun t c => ct (70 * t + c)) sw w w))  ) (my_cwV hts ok_X1_truths w_424 rfl rfl ⟨Nat.le_of_ble_eq_true rfl, Nat.le_of_ble_eq_true rfl⟩) ⟨bP.blind, va_recv hG.1 hP (ci := 1) (q0 := 1) rfl (wl_at (by decide) hctc), fun U hU hW => ⟨rfl, by rw [hU]; exact hP, kG.warm hW hG⟩⟩ rfl rfl hl.1 rfl (lv_room (Nat.le_of_ble_eq_true rfl)) dX1_hear_55 ⟨Nat.le_of_ble_eq_true rfl, Nat.le_of_ble_eq_true rfl⟩) (fun r hr9 => ?_)
  subst hr9
  refine my_bei (v := fit) (hfit) ?_
  refine lv_istore (lv' := [(8, .int fit), (7, .int (clV np (knV (fun i c => df (3 * i + c)) (ct (70 * w + 3)) (ct (70 * w + 4)) (ct (70 * w + 0)) nf) (bzV (fun t c => ct (70 * t + c)) sw w w))), (6, .int (ct (70 * w + 0))), (5, .ref (g 45)), (0, .ref (g 1)), (1, .int (nI w)), (2, .ref (g k)), (3, .null), (4, .null)]) hx hb dX1_hear_58 hl (by decide) rfl (fun ls hl => ?_)
  refine lv_iload hx hb dX1_hear_60 (lv_at hl 0 rfl) ?_
  refine lv_aload_n hx hb dX1_hear_62 rfl (lv_at hl 4 rfl) ?_
  refine va_get (D := G.1) (ci := 1) (v := .ref (g 36)) (C := RX1) (T := TX1) (N := 5) hx hb hts inlX1 hown hG.1 hP 1 (wl_at (by decide) hctc) rfl 0 (by decide) (hts (.fieldLink RX1 12 "SwornLists$Court" "book" "LSwornLists$Book;") w_40) (fun _ h9 => h9) rfl dX1_hear_63 ?_
  refine lv_iload hx hb dX1_hear_66 (lv_at hl 2 rfl) ?_
  refine rd_calli (va_runV (As := [.int (ct (70 * w + 0))]) (rest := [.int fit]) ⟨hx, hb, hml, hown, hts⟩ (k_listedOnE l G g hg f pay fine np dp nr dr (ct (70 * w + 0)) hbk hpr hpd hor hod (by first | assumption | omega | decide) (by first | assumption | omega | decide)) (my_cwV hts ok_X0_listedOn w_464 rfl rfl ⟨Nat.le_of_ble_eq_true rfl, Nat.le_of_ble_eq_true rfl⟩) ⟨bP.blind, va_recv hG.1 hP (ci := 0) (q0 := 36) rfl (wl_at (by decide) hbk), fun U hU hW => ⟨rfl, by rw [hU]; exact hP, kG.warm hW hG⟩⟩ rfl rfl hl.1 rfl (lv_room (Nat.le_of_ble_eq_true rfl)) dX1_hear_68 ⟨Nat.le_of_ble_eq_true rfl, Nat.le_of_ble_eq_true rfl⟩) (fun r hr9 => ?_)
  subst hr9
  refine lv_iand hx hb dX1_hear_71 ?_
  refine lv_aload_n hx hb dX1_hear_72 rfl (lv_at hl 4 rfl) ?_
  refine va_get (D := G.1) (ci := 1) (v := .ref (g 36)) (C := RX1) (T := TX1) (N := 5) hx hb hts inlX1 hown hG.1 hP 1 (wl_at (by decide) hctc) rfl 0 (by decide) (hts (.fieldLink RX1 12 "SwornLists$Court" "book" "LSwornLists$Book;") w_40) (fun _ h9 => h9) rfl dX1_hear_73 ?_
  refine lv_iload_n hx hb dX1_hear_76 rfl (lv_at hl 5 rfl) ?_
  refine rd_calli (va_runV (As := [.int (nI w)]) (rest := [.int (fit &&& (rlV np nr (fun i c => dr (3 * i + c)) (ct (70 * w + 0))))]) ⟨hx, hb, hml, hown, hts⟩ (k_ofTradeWantedE l G g hg f pay fine np dp nt ct w hbk hpr hpd htr hct (by first | assumption | omega | decide) (by first | assumption | omega | decide) (by first | assumption | omega | decide)) (my_cwV hts ok_X0_ofTradeWanted w_465 rfl rfl ⟨Nat.le_of_ble_eq_true rfl, Nat.le_of_ble_eq_true rfl⟩) ⟨bP.blind, va_recv hG.1 hP (ci := 0) (q0 := 36) rfl (wl_at (by decide) hbk), fun U hU hW => ⟨rfl, by rw [hU]; exact hP, kG.warm hW hG⟩⟩ rfl rfl hl.1 rfl (lv_room (Nat.le_of_ble_eq_true rfl)) dX1_hear_77 ⟨Nat.le_of_ble_eq_true rfl, Nat.le_of_ble_eq_true rfl⟩) (fun r hr9 => ?_)
  subst hr9
  refine my_bei (v := (trdV np (fun i c => dp (4 * i + c)) (ct (70 * w + 5)))) (rfl) ?_
  refine lv_iand hx hb dX1_hear_80 ?_
  refine my_bei (v := liV fit (rlV np nr (fun i c => dr (3 * i + c)) (ct (70 * w + 0))) (trdV np (fun i c => dp (4 * i + c)) (ct (70 * w + 5)))) (rfl) ?_
  refine lv_istore (lv' := [(9, .int (liV fit (rlV np nr (fun i c => dr (3 * i + c)) (ct (70 * w + 0))) (trdV np (fun i c => dp (4 * i + c)) (ct (70 * w + 5))))), (8, .int fit), (7, .int (clV np (knV (fun i c => df (3 * i + c)) (ct (70 * w + 3)) (ct (70 * w + 4)) (ct (70 * w + 0)) nf) (bzV (fun t c => ct (70 * t + c)) sw w w))), (6, .int (ct (70 * w + 0))), (5, .ref (g 45)), (0, .ref (g 1)), (1, .int (nI w)), (2, .ref (g k)), (3, .null), (4, .null)]) hx hb dX1_hear_81 hl (by decide) rfl (fun ls hl => ?_)
  refine lv_aload_n hx hb dX1_hear_83 rfl (lv_at hl 5 rfl) ?_
  refine lv_aloadN hx hb dX1_hear_84 (lv_at hl 9 rfl) ?_
  refine lv_iconst (v := 1) hx hb dX1_hear_86 (by decide) ?_
  refine lv_iload hx hb dX1_hear_87 (lv_at hl 3 rfl) ?_
  refine lv_iload hx hb dX1_hear_89 (lv_at hl 0 rfl) ?_
  refine rd_calli (va_runV (As := [.null, .int 1, .int (ct (70 * w + 0)), .int (liV fit (rlV np nr (fun i c => dr (3 * i + c)) (ct (70 * w + 0))) (trdV np (fun i c => dp (4 * i + c)) (ct (70 * w + 5))))]) (rest := []) ⟨hx, hb, hml, hown, hts⟩ (u_truthsN1 l G g hg f (ct (70 * w + 0)) (liV fit (rlV np nr (fun i c => dr (3 * i + c)) (ct (70 * w + 0))) (trdV np (fun i c => dp (4 * i + c)) (ct (70 * w + 5))))  ) (my_cwV hts ok_X1_truths w_424 rfl rfl ⟨Nat.le_of_ble_eq_true rfl, Nat.le_of_ble_eq_true rfl⟩) ⟨bP.blind, va_recv hG.1 hP (ci := 1) (q0 := 1) rfl (wl_at (by decide) hctc), fun U hU hW => ⟨rfl, by rw [hU]; exact hP, kG.warm hW hG⟩⟩ rfl rfl hl.1 rfl (lv_room (Nat.le_of_ble_eq_true rfl)) dX1_hear_91 ⟨Nat.le_of_ble_eq_true rfl, Nat.le_of_ble_eq_true rfl⟩) (fun r hr9 => ?_)
  subst hr9
  refine my_bei (v := trV np (nvF (fun i c => dp (4 * i + c)) (fun t c => ct (70 * t + c)) sw (ct (70 * w + 0)) nt) 0 (liV fit (rlV np nr (fun i c => dr (3 * i + c)) (ct (70 * w + 0))) (trdV np (fun i c => dp (4 * i + c)) (ct (70 * w + 5)))) none) (rfl) ?_
  refine lv_istore (lv' := [(10, .int (trV np (nvF (fun i c => dp (4 * i + c)) (fun t c => ct (70 * t + c)) sw (ct (70 * w + 0)) nt) 0 (liV fit (rlV np nr (fun i c => dr (3 * i + c)) (ct (70 * w + 0))) (trdV np (fun i c => dp (4 * i + c)) (ct (70 * w + 5)))) none)), (9, .int (liV fit (rlV np nr (fun i c => dr (3 * i + c)) (ct (70 * w + 0))) (trdV np (fun i c => dp (4 * i + c)) (ct (70 * w + 5))))), (8, .int fit), (7, .int (clV np (knV (fun i c => df (3 * i + c)) (ct (70 * w + 3)) (ct (70 * w + 4)) (ct (70 * w + 0)) nf) (bzV (fun t c => ct (70 * t + c)) sw w w))), (6, .int (ct (70 * w + 0))), (5, .ref (g 45)), (0, .ref (g 1)), (1, .int (nI w)), (2, .ref (g k)), (3, .null), (4, .null)]) hx hb dX1_hear_94 hl (by decide) rfl (fun ls hl => ?_)
  refine lv_aload_n hx hb dX1_hear_96 rfl (lv_at hl 8 rfl) ?_
  refine lv_iload hx hb dX1_hear_97 (lv_at hl 1 rfl) ?_
  refine lv_iload hx hb dX1_hear_99 (lv_at hl 0 rfl) ?_
  refine lv_iconst (v := (-1)) hx hb dX1_hear_101 (by decide) ?_
  refine lv_ixor hx hb dX1_hear_102 ?_
  refine lv_iand hx hb dX1_hear_103 ?_
  refine my_bei (v := box) (hbox) ?_
  refine lv_aload hx hb dX1_hear_104 (lv_at hl 5 rfl) ?_
  refine lv_iload_n hx hb dX1_hear_106 rfl (lv_at hl 7 rfl) ?_
  refine lv_bipush (v := 7) hx hb dX1_hear_107 (by decide) ?_
  refine rd_calli (va_runV (As := [.int (nI w), .int 7]) (rest := [.int box, .ref (g k)]) ⟨hx, hb, hml, hown, hts⟩ (r_at l G g hg f 45 10 70 nt ct (nI w) 7 htr hct (by first | assumption | omega | decide) (by first | assumption | omega | decide) (by first | assumption | omega | decide) (by first | assumption | omega | decide)) (my_cwV hts ok_X5_at w_389 rfl rfl ⟨Nat.le_of_ble_eq_true rfl, Nat.le_of_ble_eq_true rfl⟩) ⟨bP.blind, va_recv hG.1 hP (ci := 5) (q0 := 45) rfl (wl_at (by decide) htr), fun U hU hW => ⟨rfl, by rw [hU]; exact hP, kG.warm hW hG⟩⟩ rfl rfl hl.1 rfl (lv_room (Nat.le_of_ble_eq_true rfl)) dX1_hear_109 ⟨Nat.le_of_ble_eq_true rfl, Nat.le_of_ble_eq_true rfl⟩) (fun r hr9 => ?_)
  subst hr9
  refine my_bei (v := ct (70 * w + 7)) (atQ (d := ct) (w := 70) (i := w) (c := 7) hw (by omega) (by omega) (by omega)) ?_
  refine lv_aload hx hb dX1_hear_112 (lv_at hl 5 rfl) ?_
  refine lv_iload_n hx hb dX1_hear_114 rfl (lv_at hl 7 rfl) ?_
  refine lv_bipush (v := 8) hx hb dX1_hear_115 (by decide) ?_
  refine rd_calli (va_runV (As := [.int (nI w), .int 8]) (rest := [.int (ct (70 * w + 7)), .int box, .ref (g k)]) ⟨hx, hb, hml, hown, hts⟩ (r_at l G g hg f 45 10 70 nt ct (nI w) 8 htr hct (by first | assumption | omega | decide) (by first | assumption | omega | decide) (by first | assumption | omega | decide) (by first | assumption | omega | decide)) (my_cwV hts ok_X5_at w_389 rfl rfl ⟨Nat.le_of_ble_eq_true rfl, Nat.le_of_ble_eq_true rfl⟩) ⟨bP.blind, va_recv hG.1 hP (ci := 5) (q0 := 45) rfl (wl_at (by decide) htr), fun U hU hW => ⟨rfl, by rw [hU]; exact hP, kG.warm hW hG⟩⟩ rfl rfl hl.1 rfl (lv_room (Nat.le_of_ble_eq_true rfl)) dX1_hear_117 ⟨Nat.le_of_ble_eq_true rfl, Nat.le_of_ble_eq_true rfl⟩) (fun r hr9 => ?_)
  subst hr9
  refine my_bei (v := nI q8) ((atQ (d := ct) (w := 70) (i := w) (c := 8) hw (by omega) (by omega) (by omega)).trans hq8) ?_
  refine b_callv (va_runV (As := [.int box, .int (ct (70 * w + 7)), .int (nI q8)]) (rest := []) ⟨hx, hb, hml, hown, hts⟩ (h_drawE l G g hg f k sl lo ib ca mi s0 s1 sx od box (ct (70 * w + 7)) q8 hhe hod0 (by first | assumption | omega | decide) (by first | assumption | omega | decide) (by first | assumption | omega | decide) (hb30)) (my_cwV hts ok_X3_draw w_473 rfl rfl ⟨Nat.le_of_ble_eq_true rfl, Nat.le_of_ble_eq_true rfl⟩) ⟨bP.blind, va_recv hG.1 hP (ci := 3) (q0 := k) rfl (wl_at (by omega) hhe), fun U hU hW => ⟨rfl, by rw [hU]; exact hP, kG.warm hW hG⟩⟩ rfl rfl hl.1 rfl (lv_room (Nat.le_of_ble_eq_true rfl)) dX1_hear_120 ⟨Nat.le_of_ble_eq_true rfl, Nat.le_of_ble_eq_true rfl⟩) hS (fun f_1 H locs hq9 hP hS => ?_)
  obtain ⟨od91, hq_1_0, hq_1_1, hx_1_0, o_1⟩ := hq9
  have hhe : f_1 k = eO 3 [.ref (g (k + 1)), .int (nI (min q8 (cnt box 30))), .int (lotF (ct (70 * w + 7)) (min q8 (cnt box 30))), .int box, .int (drC box (ct (70 * w + 7)) (min q8 (cnt box 30))), .int mi, .int s0, .int s1, .int sx] := hq_1_0
  have hod0 : f_1 (k + 1) = eI G 24 od91 := hq_1_1
  have hcl := cnt_le (x := box) 30
  have hod9 : ∀ i, i < min q8 (cnt box 30) → od91 i = nI ((drP box (ct (70 * w + 7))) i) ∧ (drP box (ct (70 * w + 7))) i < 30 := fun i hi => ⟨hx_1_0 i hi, (dr_in (box := box) (o0 := ct (70 * w + 7)) (j := i) (by omega)).1⟩
  refine lv_aload_n hx hb dX1_hear_123 rfl (lv_at hl 8 rfl) ?_
  refine lv_aload hx hb dX1_hear_124 (lv_at hl 5 rfl) ?_
  refine lv_iload_n hx hb dX1_hear_126 rfl (lv_at hl 7 rfl) ?_
  replace htr := ((o_1 45 (by first | decide | omega))).trans htr
  replace hct := ((o_1 46 (by first | decide | omega))).trans hct
  refine b_callv (va_runV (As := [.ref (g 45), .int (nI w)]) (rest := []) ⟨hx, hb, hml, hown, hts⟩ (h_strikeE l G g hg f_1 k (min q8 (cnt box 30)) (lotF (ct (70 * w + 7)) (min q8 (cnt box 30))) box (drC box (ct (70 * w + 7)) (min q8 (cnt box 30))) mi s0 s1 sx od91 nt ct (drP box (ct (70 * w + 7))) w q6 hhe hod0 htr hct (by first | assumption | omega | decide) (by first | assumption | omega | decide) (by first | assumption | omega | decide) (hod9) (by first | assumption | omega | decide) (hq6) (hq64)) (my_cwV hts ok_X3_strike w_493 rfl rfl ⟨Nat.le_of_ble_eq_true rfl, Nat.le_of_ble_eq_true rfl⟩) ⟨bP.blind, va_recv hG.1 hP (ci := 3) (q0 := k) rfl (wl_at (by omega) hhe), fun U hU hW => ⟨rfl, by rw [hU]; exact hP, kG.warm hW hG⟩⟩ rfl rfl hl.1 rfl (lv_room (Nat.le_of_ble_eq_true rfl)) dX1_hear_127 ⟨Nat.le_of_ble_eq_true rfl, Nat.le_of_ble_eq_true rfl⟩) hS (fun f_2 H locs hq9 hP hS => ?_)
  obtain ⟨hq_2_0, o_2⟩ := hq9
  have hhe : f_2 k = eO 3 [.ref (g (k + 1)), .int (nI (min q8 (cnt box 30))), .int (lotF (ct (70 * w + 7)) (min q8 (cnt box 30))), .int box, .int (drC box (ct (70 * w + 7)) (min q8 (cnt box 30))), .int ((drC box (ct (70 * w + 7)) (min q8 (cnt box 30))) &&& ct (70 * w + 9)), .int ((stX (fun sd lf => lkP (drP box (ct (70 * w + 7))) (fun p => ct (70 * w + (30 * sd + p + 10))) lf (min q8 (cnt box 30))) (drC box (ct (70 * w + 7)) (min q8 (cnt box 30))) ((drC box (ct (70 * w + 7)) (min q8 (cnt box 30))) &&& ct (70 * w + 9)) (2 * q6)).1), .int ((stX (fun sd lf => lkP (drP box (ct (70 * w + 7))) (fun p => ct (70 * w + (30 * sd + p + 10))) lf (min q8 (cnt box 30))) (drC box (ct (70 * w + 7)) (min q8 (cnt box 30))) ((drC box (ct (70 * w + 7)) (min q8 (cnt box 30))) &&& ct (70 * w + 9)) (2 * q6)).2), .int sx] := hq_2_0
  refine lv_aload_n hx hb dX1_hear_130 rfl (lv_at hl 8 rfl) ?_
  refine lv_aload hx hb dX1_hear_131 (lv_at hl 5 rfl) ?_
  refine lv_iload_n hx hb dX1_hear_133 rfl (lv_at hl 7 rfl) ?_
  refine lv_iconst (v := 2) hx hb dX1_hear_134 (by decide) ?_
  replace htr := ((o_2 45 (by first | decide | omega))).trans htr
  replace hct := ((o_2 46 (by first | decide | omega))).trans hct
  refine rd_calli (va_runV (As := [.int (nI w), .int 2]) (rest := [.ref (g k)]) ⟨hx, hb, hml, hown, hts⟩ (r_at l G g hg f_2 45 10 70 nt ct (nI w) 2 htr hct (by first | assumption | omega | decide) (by first | assumption | omega | decide) (by first | assumption | omega | decide) (by first | assumption | omega | decide)) (my_cwV hts ok_X5_at w_389 rfl rfl ⟨Nat.le_of_ble_eq_true rfl, Nat.le_of_ble_eq_true rfl⟩) ⟨bP.blind, va_recv hG.1 hP (ci := 5) (q0 := 45) rfl (wl_at (by decide) htr), fun U hU hW => ⟨rfl, by rw [hU]; exact hP, kG.warm hW hG⟩⟩ rfl rfl hl.1 rfl (lv_room (Nat.le_of_ble_eq_true rfl)) dX1_hear_135 ⟨Nat.le_of_ble_eq_true rfl, Nat.le_of_ble_eq_true rfl⟩) (fun r hr9 => ?_)
  subst hr9
  refine my_bei (v := nI ks) ((atQ (d := ct) (w := 70) (i := w) (c := 2) hw (by omega) (by omega) (by omega)).trans hq2) ?_
  refine lv_iload hx hb dX1_hear_138 (lv_at hl 2 rfl) ?_
  refine lv_aload_n hx hb dX1_hear_140 rfl (lv_at hl 8 rfl) ?_
  refine va_getN (D := G.1) (ci := 3) (v := .int box) (C := RX3) (T := TX3) (N := 9) (host := RX10) hx hb hts inlX3 hown hG.1 hP k (wl_at (by omega) hhe) rfl 3 (by decide) (va_Nw.use rfl (hG.2.1 (.fieldLinkNest RX1 96 RX3 "inBox" "I" RX10) (List.mem_of_getElem? (i := 12) rfl))) (fun _ h9 => h9) rfl dX1_hear_141 ?_
  refine lv_iconst (v := (-1)) hx hb dX1_hear_144 (by decide) ?_
  refine lv_ixor hx hb dX1_hear_145 ?_
  refine lv_iand hx hb dX1_hear_146 ?_
  refine my_bei (v := pasV fit box) (rfl) ?_
  replace hod0 : f_2 (k + 1) = eI G 24 od91 := ((o_2 (k + 1) (by omega))).trans hod0
  refine b_callv (va_runV (As := [.int (nI ks), .int (pasV fit box)]) (rest := []) ⟨hx, hb, hml, hown, hts⟩ (h_seatE l G g hg f_2 k (min q8 (cnt box 30)) (lotF (ct (70 * w + 7)) (min q8 (cnt box 30))) box (drC box (ct (70 * w + 7)) (min q8 (cnt box 30))) ((drC box (ct (70 * w + 7)) (min q8 (cnt box 30))) &&& ct (70 * w + 9)) ((stX (fun sd lf => lkP (drP box (ct (70 * w + 7))) (fun p => ct (70 * w + (30 * sd + p + 10))) lf (min q8 (cnt box 30))) (drC box (ct (70 * w + 7)) (min q8 (cnt box 30))) ((drC box (ct (70 * w + 7)) (min q8 (cnt box 30))) &&& ct (70 * w + 9)) (2 * q6)).1) ((stX (fun sd lf => lkP (drP box (ct (70 * w + 7))) (fun p => ct (70 * w + (30 * sd + p + 10))) lf (min q8 (cnt box 30))) (drC box (ct (70 * w + 7)) (min q8 (cnt box 30))) ((drC box (ct (70 * w + 7)) (min q8 (cnt box 30))) &&& ct (70 * w + 9)) (2 * q6)).2) sx od91 (drP box (ct (70 * w + 7))) ks (pasV fit box) hhe hod0 (by first | assumption | omega | decide) (by first | assumption | omega | decide) (hod9) (hks) (fun i j h1 h2 => dr_inj h1 (by omega)) (pas_lf (by omega))) (my_cwV hts ok_X3_seat w_511 rfl rfl ⟨Nat.le_of_ble_eq_true rfl, Nat.le_of_ble_eq_true rfl⟩) ⟨bP.blind, va_recv hG.1 hP (ci := 3) (q0 := k) rfl (wl_at (by omega) hhe), fun U hU hW => ⟨rfl, by rw [hU]; exact hP, kG.warm hW hG⟩⟩ rfl rfl hl.1 rfl (lv_room (Nat.le_of_ble_eq_true rfl)) dX1_hear_147 ⟨Nat.le_of_ble_eq_true rfl, Nat.le_of_ble_eq_true rfl⟩) hS (fun f_3 H locs hq9 hP hS => ?_)
  obtain ⟨hq_3_0, o_3⟩ := hq9
  have hhe : f_3 k = eO 3 [.ref (g (k + 1)), .int (nI (min q8 (cnt box 30))), .int (lotF (ct (70 * w + 7)) (min q8 (cnt box 30))), .int box, .int (drC box (ct (70 * w + 7)) (min q8 (cnt box 30))), .int ((drC box (ct (70 * w + 7)) (min q8 (cnt box 30))) &&& ct (70 * w + 9)), .int ((stX (fun sd lf => lkP (drP box (ct (70 * w + 7))) (fun p => ct (70 * w + (30 * sd + p + 10))) lf (min q8 (cnt box 30))) (drC box (ct (70 * w + 7)) (min q8 (cnt box 30))) ((drC box (ct (70 * w + 7)) (min q8 (cnt box 30))) &&& ct (70 * w + 9)) (2 * q6)).1), .int ((stX (fun sd lf => lkP (drP box (ct (70 * w + 7))) (fun p => ct (70 * w + (30 * sd + p + 10))) lf (min q8 (cnt box 30))) (drC box (ct (70 * w + 7)) (min q8 (cnt box 30))) ((drC box (ct (70 * w + 7)) (min q8 (cnt box 30))) &&& ct (70 * w + 9)) (2 * q6)).2), .int (if (paF (pasV fit box) ks (seF (drP box (ct (70 * w + 7))) (lfV (drC box (ct (70 * w + 7)) (min q8 (cnt box 30))) ((drC box (ct (70 * w + 7)) (min q8 (cnt box 30))) &&& ct (70 * w + 9)) (((stX (fun sd lf => lkP (drP box (ct (70 * w + 7))) (fun p => ct (70 * w + (30 * sd + p + 10))) lf (min q8 (cnt box 30))) (drC box (ct (70 * w + 7)) (min q8 (cnt box 30))) ((drC box (ct (70 * w + 7)) (min q8 (cnt box 30))) &&& ct (70 * w + 9)) (2 * q6)).1), ((stX (fun sd lf => lkP (drP box (ct (70 * w + 7))) (fun p => ct (70 * w + (30 * sd + p + 10))) lf (min q8 (cnt box 30))) (drC box (ct (70 * w + 7)) (min q8 (cnt box 30))) ((drC box (ct (70 * w + 7)) (min q8 (cnt box 30))) &&& ct (70 * w + 9)) (2 * q6)).2))) ks (min q8 (cnt box 30))) 30).2 < ks then 0 else (paF (pasV fit box) ks (seF (drP box (ct (70 * w + 7))) (lfV (drC box (ct (70 * w + 7)) (min q8 (cnt box 30))) ((drC box (ct (70 * w + 7)) (min q8 (cnt box 30))) &&& ct (70 * w + 9)) (((stX (fun sd lf => lkP (drP box (ct (70 * w + 7))) (fun p => ct (70 * w + (30 * sd + p + 10))) lf (min q8 (cnt box 30))) (drC box (ct (70 * w + 7)) (min q8 (cnt box 30))) ((drC box (ct (70 * w + 7)) (min q8 (cnt box 30))) &&& ct (70 * w + 9)) (2 * q6)).1), ((stX (fun sd lf => lkP (drP box (ct (70 * w + 7))) (fun p => ct (70 * w + (30 * sd + p + 10))) lf (min q8 (cnt box 30))) (drC box (ct (70 * w + 7)) (min q8 (cnt box 30))) ((drC box (ct (70 * w + 7)) (min q8 (cnt box 30))) &&& ct (70 * w + 9)) (2 * q6)).2))) ks (min q8 (cnt box 30))) 30).1)] := hq_3_0
  replace hvl := ((o_3 15 (by first | decide | omega)).trans ((o_2 15 (by first | decide | omega)).trans ((o_1 15 (by first | decide | omega))))).trans hvl
  replace hod0 : f_3 (k + 1) = eI G 24 od91 := ((o_3 (k + 1) (by omega))).trans hod0
  refine W_q9 hQ9 ?_
  exact W.vret hx hb hr (fun _ hT9 _ => ⟨⟨f_3, rfl, (⟨vv, hvl, okQ_mk (R := (fun c => ct (70 * w + c))) hq8 hq88 hq6 hq64 hq2 hks hhe hod0 (fun i hi => (hod9 i hi).1), fun j hj => (((o_3 j (by omega))).trans (o_2 j (by omega))).trans (o_1 j (by omega))⟩), by rw [hT9]; exact hP⟩, hS.F hT9⟩) hS.2.2 dX1_hear_150
set_option maxHeartbeats 4000000 in
set_option maxRecDepth 100000 in
theorem u_hearE01 (l : Launch) (G : gW) (g : Nat → Nat) (hg : gOK g) (f : Nat → va_E) (se : Nat) (hf : Nat → Option Nat) (pay : Int32) (fine : Int32) (nt : Nat) (ct : Nat → Int32) (np : Nat) (dp : Nat → Int32) (nf : Nat) (df : Nat → Int32) (nr : Nat) (dr : Nat → Int32) (k : Nat) (sl : Nat) (lo : Int32) (ib : Int32) (ca : Int32) (mi : Int32) (s0 : Int32) (s1 : Int32) (sx : Int32) (od : Nat → Int32) (vv : Nat → Int64) (sw : Nat → Int32) (w : Nat) (q8 : Nat) (q6 : Nat) (ks : Nat) (fit : Int32) (box : Int32) (k2 : Nat) (ln2 : Nat) (sc2 : Nat) (sp2 : Nat → Int32) (l2 : List (Int32 × Int32)) (hctc : f 1 = eO 1 [.ref (g 36), .ref (g 12), .ref (g 13), .ref (g 15), .int (nI se)]) (hhs : f 12 = eA G 4 10 hf) (hbk : f 36 = eO 0 [.ref (g 37), .ref (g 39), .ref (g 41), .ref (g 43), .ref (g 45), .ref (g 47), .ref (g 112), .int pay, .int fine]) (htr : f 45 = eO 5 [.int (nI 10), .int (nI 70), .ref (g 46), .int (nI nt)]) (hct : f 46 = eI G (10 * 70) ct) (hpr : f 37 = eO 5 [.int (nI 30), .int (nI 4), .ref (g 38), .int (nI np)]) (hpd : f 38 = eI G (30 * 4) dp) (hfr : f 39 = eO 5 [.int (nI 40), .int (nI 3), .ref (g 40), .int (nI nf)]) (hfd : f 40 = eI G (40 * 3) df) (hor : f 41 = eO 5 [.int (nI 4), .int (nI 3), .ref (g 42), .int (nI nr)]) (hod : f 42 = eI G (4 * 3) dr) (hvl : f 15 = eJ G 50 vv) (hhe : f k = eO 3 [.ref (g (k + 1)), .int (nI sl), .int lo, .int ib, .int ca, .int mi, .int s0, .int s1, .int sx]) (hod0 : f (k + 1) = eI G 24 od) (htx2 : f k2 = eO 7 [.ref (g (k2 + 1)), .ref (g (k2 + 2)), .int (nI ln2), .int (nI sc2)]) (hpx2 : f (k2 + 2) = eI G 50 sp2) (hse : se ≤ 10) (hhf : ∀ i, i < 10 → hf i = some (g (2 * i + 16))) (hnt : nt ≤ 10) (hnp : np ≤ 30) (hnf : nf ≤ 40) (hnr : nr ≤ 4) (hk3 : k + 1 < 36) (hk13 : 13 ≤ k) (hk15 : k ≠ 14 ∧ k ≠ 15) (hsl : sl ≤ 24) (hw : w < nt) (hq8 : ct (70 * w + 8) = nI q8) (hq88 : q8 ≤ 24) (hq6 : ct (70 * w + 6) = nI q6) (hq64 : q6 ≤ 4) (hq2 : ct (70 * w + 2) = nI ks) (hks : ks ≤ 8) (hk32 : k2 + 2 < 333) (hkt2 : 36 ≤ k2) (hln2 : ln2 ≤ 50) (hsc2 : sc2 ≤ 50) (hls2 : stk sp2 sc2 = l2.map cdp) (hlen2 : l2.length = sc2) (hdl2 : dpl l2 = some 1) (hol2 : okO l2) (hfit : fitV np (nvF (fun i c => dp (4 * i + c)) (fun t c => ct (70 * t + c)) sw (ct (70 * w + 0)) nt) (knV (fun i c => df (3 * i + c)) (ct (70 * w + 3)) (ct (70 * w + 4)) (ct (70 * w + 0)) nf) (bzV (fun t c => ct (70 * t + c)) sw w w) none = fit) (hbox : boxV np (nvF (fun i c => dp (4 * i + c)) (fun t c => ct (70 * t + c)) sw (ct (70 * w + 0)) nt) fit (rlV np nr (fun i c => dr (3 * i + c)) (ct (70 * w + 0))) (trdV np (fun i c => dp (4 * i + c)) (ct (70 * w + 5))) (some l2) = box) (hb30 : ∀ j, 30 ≤ j → bt box j = false) (hZ : ∀ i, i < 10 → okZ G g f (2 * i + 16) (sw i)) : Met l yX1_hear (wsT yX1_hear cX1_hear 11 none) ({ frames := 5, cells := 0, slots := 0, locals := 124 }) (bP G g f [.ref (g 1), .int (nI w), .ref (g k), .null, .ref (g k2)]) (bQv G g (fun (f' : Nat → va_E) => ∃ vv9 : Nat → Int64, f' 15 = eJ G 50 vv9 ∧ (okQ G g f' k box (pasV fit box) (fun c => ct (70 * w + c))) ∧ ∀ j, (j ≠ 15 ∧ j ≠ k ∧ j ≠ k + 1) → f' j = f j)) 0 0 (gA g) := by
  refine Met.ofW (cc := cX1_hear) (maxL := 11) (ret := none) (by decide) rfl ?_
  intro p e s m args below meth c s₁ B hml hv
  obtain ⟨rfl, hP, hG⟩ := hv
  have hx := B.exec
  have hb := B.bytes
  have hr := B.returns
  have hts := my_hts (atoms_spec (ws := wsT yX1_hear cX1_hear 11 none) B.pre)
  have hown : s.vm.findClass RX1 = some m.cls := findClass_of_methodNamed B.named
  have hlocks := B.notSynchronized
  have hS : va_S (gA g) s.heap s.heap [] := va_S.rf
  have hl := lv_entry ([.ref (g 1), .int (nI w), .ref (g k), .null, .ref (g k2)]) (n := 11) (Nat.le_of_ble_eq_true rfl)
  rw [lg_entry_eq]
  generalize (lg_sl ([.ref (g 1), .int (nI w), .ref (g k), .null, .ref (g k2)]) ++ List.replicate (11 - (lg_sl ([.ref (g 1), .int (nI w), .ref (g k), .null, .ref (g k2)])).length) Slot.unset).toArray = ls at hl ⊢
  have hl : lv_has ls 11 [(0, .ref (g 1)), (1, .int (nI w)), (2, .ref (g k)), (3, .null), (4, .ref (g k2))] := hl
  refine W_q8 (fun Q9 hQ9 => ?_)
  refine lv_aload_n hx hb dX1_hear_0 rfl (lv_at hl 0 rfl) ?_
  refine va_get (D := G.1) (ci := 1) (v := .ref (g 36)) (C := RX1) (T := TX1) (N := 5) hx hb hts inlX1 hown hG.1 hP 1 (wl_at (by decide) hctc) rfl 0 (by decide) (hts (.fieldLink RX1 12 "SwornLists$Court" "book" "LSwornLists$Book;") w_40) (fun _ h9 => h9) rfl dX1_hear_1 ?_
  refine va_getN (D := G.1) (ci := 0) (v := .ref (g 45)) (C := RX0) (T := TX0) (N := 9) (host := RX10) hx hb hts inlX0 hown hG.1 hP 36 (wl_at (by decide) hbk) rfl 4 (by decide) (va_Nw.use rfl (hG.2.1 (.fieldLinkNest RX1 43 RX0 "trials" "LSwornLists$Rows;" RX10) (List.mem_of_getElem? (i := 6) rfl))) (fun _ h9 => h9) rfl dX1_hear_4 ?_
  refine lv_astore (lv' := [(5, .ref (g 45)), (0, .ref (g 1)), (1, .int (nI w)), (2, .ref (g k)), (3, .null), (4, .ref (g k2))]) hx hb dX1_hear_7 hl (by decide) rfl (fun ls hl => ?_)
  refine lv_aload hx hb dX1_hear_9 (lv_at hl 0 rfl) ?_
  refine lv_iload_n hx hb dX1_hear_11 rfl (lv_at hl 2 rfl) ?_
  refine lv_iconst (v := 0) hx hb dX1_hear_12 (by decide) ?_
  refine rd_calli (va_runV (As := [.int (nI w), .int 0]) (rest := []) ⟨hx, hb, hml, hown, hts⟩ (r_at l G g hg f 45 10 70 nt ct (nI w) 0 htr hct (by first | assumption | omega | decide) (by first | assumption | omega | decide) (by first | assumption | omega | decide) (by first | assumption | omega | decide)) (my_cwV hts ok_X5_at w_389 rfl rfl ⟨Nat.le_of_ble_eq_true rfl, Nat.le_of_ble_eq_true rfl⟩) ⟨bP.blind, va_recv hG.1 hP (ci := 5) (q0 := 45) rfl (wl_at (by decide) htr), fun U hU hW => ⟨rfl, by rw [hU]; exact hP, kG.warm hW hG⟩⟩ rfl rfl hl.1 rfl (lv_room (Nat.le_of_ble_eq_true rfl)) dX1_hear_13 ⟨Nat.le_of_ble_eq_true rfl, Nat.le_of_ble_eq_true rfl⟩) (fun r hr9 => ?_)
  subst hr9
  refine my_bei (v := ct (70 * w + 0)) (atQ (d := ct) (w := 70) (i := w) (c := 0) hw (by omega) (by omega) (by omega)) ?_
  refine lv_istore (lv' := [(6, .int (ct (70 * w + 0))), (5, .ref (g 45)), (0, .ref (g 1)), (1, .int (nI w)), (2, .ref (g k)), (3, .null), (4, .ref (g k2))]) hx hb dX1_hear_16 hl (by decide) rfl (fun ls hl => ?_)
  refine lv_aload_n hx hb dX1_hear_18 rfl (lv_at hl 2 rfl) ?_
  refine va_get (D := G.1) (ci := 1) (v := .ref (g 36)) (C := RX1) (T := TX1) (N := 5) hx hb hts inlX1 hown hG.1 hP 1 (wl_at (by decide) hctc) rfl 0 (by decide) (hts (.fieldLink RX1 12 "SwornLists$Court" "book" "LSwornLists$Book;") w_40) (fun _ h9 => h9) rfl dX1_hear_19 ?_
  refine rd_calli (va_runV (As := []) (rest := []) ⟨hx, hb, hml, hown, hts⟩ (k_everyoneE l G g hg f pay fine np dp hbk hpr hpd (by first | assumption | omega | decide)) (my_cwV hts ok_X0_everyone w_407 rfl rfl ⟨Nat.le_of_ble_eq_true rfl, Nat.le_of_ble_eq_true rfl⟩) ⟨bP.blind, va_recv hG.1 hP (ci := 0) (q0 := 36) rfl (wl_at (by decide) hbk), fun U hU hW => ⟨rfl, by rw [hU]; exact hP, kG.warm hW hG⟩⟩ rfl rfl hl.1 rfl (lv_room (Nat.le_of_ble_eq_true rfl)) dX1_hear_22 ⟨Nat.le_of_ble_eq_true rfl, Nat.le_of_ble_eq_true rfl⟩) (fun r hr9 => ?_)
  subst hr9
  refine lv_aload_n hx hb dX1_hear_25 rfl (lv_at hl 2 rfl) ?_
  refine va_get (D := G.1) (ci := 1) (v := .ref (g 36)) (C := RX1) (T := TX1) (N := 5) hx hb hts inlX1 hown hG.1 hP 1 (wl_at (by decide) hctc) rfl 0 (by decide) (hts (.fieldLink RX1 12 "SwornLists$Court" "book" "LSwornLists$Book;") w_40) (fun _ h9 => h9) rfl dX1_hear_26 ?_
  refine lv_iload_n hx hb dX1_hear_29 rfl (lv_at hl 3 rfl) ?_
  refine lv_iload hx hb dX1_hear_30 (lv_at hl 0 rfl) ?_
  refine rd_calli (va_runV (As := [.int (nI w), .int (ct (70 * w + 0))]) (rest := [.int ((1 <<< (nI np &&& 31)) - 1)]) ⟨hx, hb, hml, hown, hts⟩ (k_kinOfSidesE l G g hg f pay fine nf df nt ct w (ct (70 * w + 0)) hbk hfr hfd htr hct (by first | assumption | omega | decide) (by first | assumption | omega | decide) (by first | assumption | omega | decide)) (my_cwV hts ok_X0_kinOfSides w_408 rfl rfl ⟨Nat.le_of_ble_eq_true rfl, Nat.le_of_ble_eq_true rfl⟩) ⟨bP.blind, va_recv hG.1 hP (ci := 0) (q0 := 36) rfl (wl_at (by decide) hbk), fun U hU hW => ⟨rfl, by rw [hU]; exact hP, kG.warm hW hG⟩⟩ rfl rfl hl.1 rfl (lv_room (Nat.le_of_ble_eq_true rfl)) dX1_hear_32 ⟨Nat.le_of_ble_eq_true rfl, Nat.le_of_ble_eq_true rfl⟩) (fun r hr9 => ?_)
  subst hr9
  refine lv_iconst (v := (-1)) hx hb dX1_hear_35 (by decide) ?_
  refine lv_ixor hx hb dX1_hear_36 ?_
  refine lv_iand hx hb dX1_hear_37 ?_
  refine lv_aload_n hx hb dX1_hear_38 rfl (lv_at hl 2 rfl) ?_
  refine lv_iload_n hx hb dX1_hear_39 rfl (lv_at hl 3 rfl) ?_
  refine rd_calli (va_runV (As := [.int (nI w)]) (rest := [.int (((1 <<< (nI np &&& 31)) - 1) &&& ((knV (fun i c => df (3 * i + c)) (ct (70 * w + 3)) (ct (70 * w + 4)) (ct (70 * w + 0)) nf) ^^^ (-1)))]) ⟨hx, hb, hml, hown, hts⟩ (u_busyE l G g hg f se hf pay fine nt ct sw w hctc hhs hbk htr hct (by first | assumption | omega | decide) (by first | assumption | omega | decide) (by first | assumption | omega | decide) (by first | assumption | omega | decide) (by first | assumption | omega | decide)) (my_cwV hts ok_X1_busy w_412 rfl rfl ⟨Nat.le_of_ble_eq_true rfl, Nat.le_of_ble_eq_true rfl⟩) ⟨bP.blind, va_recv hG.1 hP (ci := 1) (q0 := 1) rfl (wl_at (by decide) hctc), fun U hU hW => ⟨rfl, by rw [hU]; exact hP, kG.warm hW hG⟩⟩ rfl rfl hl.1 rfl (lv_room (Nat.le_of_ble_eq_true rfl)) dX1_hear_40 ⟨Nat.le_of_ble_eq_true rfl, Nat.le_of_ble_eq_true rfl⟩) (fun r hr9 => ?_)
  subst hr9
  refine lv_iconst (v := (-1)) hx hb dX1_hear_43 (by decide) ?_
  refine lv_ixor hx hb dX1_hear_44 ?_
  refine lv_iand hx hb dX1_hear_45 ?_
  refine my_bei (v := clV np (knV (fun i c => df (3 * i + c)) (ct (70 * w + 3)) (ct (70 * w + 4)) (ct (70 * w + 0)) nf) (bzV (fun t c => ct (70 * t + c)) sw w w)) (rfl) ?_
  refine lv_istore (lv' := [(7, .int (clV np (knV (fun i c => df (3 * i + c)) (ct (70 * w + 3)) (ct (70 * w + 4)) (ct (70 * w + 0)) nf) (bzV (fun t c => ct (70 * t + c)) sw w w))), (6, .int (ct (70 * w + 0))), (5, .ref (g 45)), (0, .ref (g 1)), (1, .int (nI w)), (2, .ref (g k)), (3, .null), (4, .ref (g k2))]) hx hb dX1_hear_46 hl (by decide) rfl (fun ls hl => ?_)
  refine lv_aload_n hx hb dX1_hear_48 rfl (lv_at hl 3 rfl) ?_
  refine lv_aload_nN hx hb dX1_hear_49 rfl (lv_at hl 6 rfl) ?_
  refine lv_iconst (v := 0) hx hb dX1_hear_50 (by decide) ?_
  refine lv_iload hx hb dX1_hear_51 (lv_at hl 1 rfl) ?_
  refine lv_iload hx hb dX1_hear_53 (lv_at hl 0 rfl) ?_
  refine rd_calli (va_runV (As := [.null, .int 0, .int (ct (70 * w + 0)), .int (clV np (knV (fun i c => df (3 * i + c)) (ct (70 * w + 3)) (ct (70 * w + 4)) (ct (70 * w + 0)) nf) (bzV (fun t c => ct (70 * t + c)) sw w w))]) (rest := []) ⟨hx, hb, hml, hown, hts⟩ (u_truthsN0 l G g hg f (ct (70 * w + 0)) (clV np (knV (fun i c => df (3 * i + c)) (ct (70 * w + 3)) (ct (70 * w + 4)) (ct (70 * w + 0)) nf) (bzV (fun t c => ct (70 * t + c)) sw w w))  ) (my_cwV hts ok_X1_truths w_424 rfl rfl ⟨Nat.le_of_ble_eq_true rfl, Nat.le_of_ble_eq_true rfl⟩) ⟨bP.blind, va_recv hG.1 hP (ci := 1) (q0 := 1) rfl (wl_at (by decide) hctc), fun U hU hW => ⟨rfl, by rw [hU]; exact hP, kG.warm hW hG⟩⟩ rfl rfl hl.1 rfl (lv_room (Nat.le_of_ble_eq_true rfl)) dX1_hear_55 ⟨Nat.le_of_ble_eq_true rfl, Nat.le_of_ble_eq_true rfl⟩) (fun r hr9 => ?_)
  subst hr9
  refine my_bei (v := fit) (hfit) ?_
  refine lv_istore (lv' := [(8, .int fit), (7, .int (clV np (knV (fun i c => df (3 * i + c)) (ct (70 * w + 3)) (ct (70 * w + 4)) (ct (70 * w + 0)) nf) (bzV (fun t c => ct (70 * t + c)) sw w w))), (6, .int (ct (70 * w + 0))), (5, .ref (g 45)), (0, .ref (g 1)), (1, .int (nI w)), (2, .ref (g k)), (3, .null), (4, .ref (g k2))]) hx hb dX1_hear_58 hl (by decide) rfl (fun ls hl => ?_)
  refine lv_iload hx hb dX1_hear_60 (lv_at hl 0 rfl) ?_
  refine lv_aload_n hx hb dX1_hear_62 rfl (lv_at hl 4 rfl) ?_
  refine va_get (D := G.1) (ci := 1) (v := .ref (g 36)) (C := RX1) (T := TX1) (N := 5) hx hb hts inlX1 hown hG.1 hP 1 (wl_at (by decide) hctc) rfl 0 (by decide) (hts (.fieldLink RX1 12 "SwornLists$Court" "book" "LSwornLists$Book;") w_40) (fun _ h9 => h9) rfl dX1_hear_63 ?_
  refine lv_iload hx hb dX1_hear_66 (lv_at hl 2 rfl) ?_
  refine rd_calli (va_runV (As := [.int (ct (70 * w + 0))]) (rest := [.int fit]) ⟨hx, hb, hml, hown, hts⟩ (k_listedOnE l G g hg f pay fine np dp nr dr (ct (70 * w + 0)) hbk hpr hpd hor hod (by first | assumption | omega | decide) (by first | assumption | omega | decide)) (my_cwV hts ok_X0_listedOn w_464 rfl rfl ⟨Nat.le_of_ble_eq_true rfl, Nat.le_of_ble_eq_true rfl⟩) ⟨bP.blind, va_recv hG.1 hP (ci := 0) (q0 := 36) rfl (wl_at (by decide) hbk), fun U hU hW => ⟨rfl, by rw [hU]; exact hP, kG.warm hW hG⟩⟩ rfl rfl hl.1 rfl (lv_room (Nat.le_of_ble_eq_true rfl)) dX1_hear_68 ⟨Nat.le_of_ble_eq_true rfl, Nat.le_of_ble_eq_true rfl⟩) (fun r hr9 => ?_)
  subst hr9
  refine lv_iand hx hb dX1_hear_71 ?_
  refine lv_aload_n hx hb dX1_hear_72 rfl (lv_at hl 4 rfl) ?_
  refine va_get (D := G.1) (ci := 1) (v := .ref (g 36)) (C := RX1) (T := TX1) (N := 5) hx hb hts inlX1 hown hG.1 hP 1 (wl_at (by decide) hctc) rfl 0 (by decide) (hts (.fieldLink RX1 12 "SwornLists$Court" "book" "LSwornLists$Book;") w_40) (fun _ h9 => h9) rfl dX1_hear_73 ?_
  refine lv_iload_n hx hb dX1_hear_76 rfl (lv_at hl 5 rfl) ?_
  refine rd_calli (va_runV (As := [.int (nI w)]) (rest := [.int (fit &&& (rlV np nr (fun i c => dr (3 * i + c)) (ct (70 * w + 0))))]) ⟨hx, hb, hml, hown, hts⟩ (k_ofTradeWantedE l G g hg f pay fine np dp nt ct w hbk hpr hpd htr hct (by first | assumption | omega | decide) (by first | assumption | omega | decide) (by first | assumption | omega | decide)) (my_cwV hts ok_X0_ofTradeWanted w_465 rfl rfl ⟨Nat.le_of_ble_eq_true rfl, Nat.le_of_ble_eq_true rfl⟩) ⟨bP.blind, va_recv hG.1 hP (ci := 0) (q0 := 36) rfl (wl_at (by decide) hbk), fun U hU hW => ⟨rfl, by rw [hU]; exact hP, kG.warm hW hG⟩⟩ rfl rfl hl.1 rfl (lv_room (Nat.le_of_ble_eq_true rfl)) dX1_hear_77 ⟨Nat.le_of_ble_eq_true rfl, Nat.le_of_ble_eq_true rfl⟩) (fun r hr9 => ?_)
  subst hr9
  refine my_bei (v := (trdV np (fun i c => dp (4 * i + c)) (ct (70 * w + 5)))) (rfl) ?_
  refine lv_iand hx hb dX1_hear_80 ?_
  refine my_bei (v := liV fit (rlV np nr (fun i c => dr (3 * i + c)) (ct (70 * w + 0))) (trdV np (fun i c => dp (4 * i + c)) (ct (70 * w + 5)))) (rfl) ?_
  refine lv_istore (lv' := [(9, .int (liV fit (rlV np nr (fun i c => dr (3 * i + c)) (ct (70 * w + 0))) (trdV np (fun i c => dp (4 * i + c)) (ct (70 * w + 5))))), (8, .int fit), (7, .int (clV np (knV (fun i c => df (3 * i + c)) (ct (70 * w + 3)) (ct (70 * w + 4)) (ct (70 * w + 0)) nf) (bzV (fun t c => ct (70 * t + c)) sw w w))), (6, .int (ct (70 * w + 0))), (5, .ref (g 45)), (0, .ref (g 1)), (1, .int (nI w)), (2, .ref (g k)), (3, .null), (4, .ref (g k2))]) hx hb dX1_hear_81 hl (by decide) rfl (fun ls hl => ?_)
  refine lv_aload_n hx hb dX1_hear_83 rfl (lv_at hl 5 rfl) ?_
  refine lv_aload hx hb dX1_hear_84 (lv_at hl 9 rfl) ?_
  refine lv_iconst (v := 1) hx hb dX1_hear_86 (by decide) ?_
  refine lv_iload hx hb dX1_hear_87 (lv_at hl 3 rfl) ?_
  refine lv_iload hx hb dX1_hear_89 (lv_at hl 0 rfl) ?_
  refine b_calli (va_runV (As := [.ref (g k2), .int 1, .int (ct (70 * w + 0)), .int (liV fit (rlV np nr (fun i c => dr (3 * i + c)) (ct (70 * w + 0))) (trdV np (fun i c => dp (4 * i + c)) (ct (70 * w + 5))))]) (rest := []) ⟨hx, hb, hml, hown, hts⟩ (u_truthsTE l G g hg f se hf pay fine nt ct np dp k2 ln2 sc2 sp2 vv sw l2 1 (ct (70 * w + 0)) (liV fit (rlV np nr (fun i c => dr (3 * i + c)) (ct (70 * w + 0))) (trdV np (fun i c => dp (4 * i + c)) (ct (70 * w + 5)))) hctc hhs hbk htr hct hpr hpd htx2 hpx2 hvl (by first | assumption | omega | decide) (by first | assumption | omega | decide) (by first | assumption | omega | decide) (by first | assumption | omega | decide) (by first | assumption | omega | decide) (by first | assumption | omega | decide) (by first | assumption | omega | decide) (by first | assumption | omega | decide) (hls2) (hlen2) (hdl2) (hol2) (by first | assumption | omega | decide)) (my_cwV hts ok_X1_truths w_424 rfl rfl ⟨Nat.le_of_ble_eq_true rfl, Nat.le_of_ble_eq_true rfl⟩) ⟨bP.blind, va_recv hG.1 hP (ci := 1) (q0 := 1) rfl (wl_at (by decide) hctc), fun U hU hW => ⟨rfl, by rw [hU]; exact hP, kG.warm hW hG⟩⟩ rfl rfl hl.1 rfl (lv_room (Nat.le_of_ble_eq_true rfl)) dX1_hear_91 ⟨Nat.le_of_ble_eq_true rfl, Nat.le_of_ble_eq_true rfl⟩) hS (fun v1 f_1 H locs hq9 hP hS => ?_)
  obtain ⟨vv92, rfl, hq_1_0, o_1⟩ := hq9
  have hvl : f_1 15 = eJ G 50 vv92 := hq_1_0
  refine my_bei (v := trV np (nvF (fun i c => dp (4 * i + c)) (fun t c => ct (70 * t + c)) sw (ct (70 * w + 0)) nt) 0 (liV fit (rlV np nr (fun i c => dr (3 * i + c)) (ct (70 * w + 0))) (trdV np (fun i c => dp (4 * i + c)) (ct (70 * w + 5)))) (some l2)) (rfl) ?_
  refine lv_istore (lv' := [(10, .int (trV np (nvF (fun i c => dp (4 * i + c)) (fun t c => ct (70 * t + c)) sw (ct (70 * w + 0)) nt) 0 (liV fit (rlV np nr (fun i c => dr (3 * i + c)) (ct (70 * w + 0))) (trdV np (fun i c => dp (4 * i + c)) (ct (70 * w + 5)))) (some l2))), (9, .int (liV fit (rlV np nr (fun i c => dr (3 * i + c)) (ct (70 * w + 0))) (trdV np (fun i c => dp (4 * i + c)) (ct (70 * w + 5))))), (8, .int fit), (7, .int (clV np (knV (fun i c => df (3 * i + c)) (ct (70 * w + 3)) (ct (70 * w + 4)) (ct (70 * w + 0)) nf) (bzV (fun t c => ct (70 * t + c)) sw w w))), (6, .int (ct (70 * w + 0))), (5, .ref (g 45)), (0, .ref (g 1)), (1, .int (nI w)), (2, .ref (g k)), (3, .null), (4, .ref (g k2))]) hx hb dX1_hear_94 hl (by decide) rfl (fun ls hl => ?_)
  refine lv_aload_n hx hb dX1_hear_96 rfl (lv_at hl 8 rfl) ?_
  refine lv_iload hx hb dX1_hear_97 (lv_at hl 1 rfl) ?_
  refine lv_iload hx hb dX1_hear_99 (lv_at hl 0 rfl) ?_
  refine lv_iconst (v := (-1)) hx hb dX1_hear_101 (by decide) ?_
  refine lv_ixor hx hb dX1_hear_102 ?_
  refine lv_iand hx hb dX1_hear_103 ?_
  refine my_bei (v := box) (hbox) ?_
  refine lv_aload hx hb dX1_hear_104 (lv_at hl 5 rfl) ?_
  refine lv_iload_n hx hb dX1_hear_106 rfl (lv_at hl 7 rfl) ?_
  refine lv_bipush (v := 7) hx hb dX1_hear_107 (by decide) ?_
  replace htr := ((o_1 45 (by first | decide | omega))).trans htr
  replace hct := ((o_1 46 (by first | decide | omega))).trans hct
  refine rd_calli (va_runV (As := [.int (nI w), .int 7]) (rest := [.int box, .ref (g k)]) ⟨hx, hb, hml, hown, hts⟩ (r_at l G g hg f_1 45 10 70 nt ct (nI w) 7 htr hct (by first | assumption | omega | decide) (by first | assumption | omega | decide) (by first | assumption | omega | decide) (by first | assumption | omega | decide)) (my_cwV hts ok_X5_at w_389 rfl rfl ⟨Nat.le_of_ble_eq_true rfl, Nat.le_of_ble_eq_true rfl⟩) ⟨bP.blind, va_recv hG.1 hP (ci := 5) (q0 := 45) rfl (wl_at (by decide) htr), fun U hU hW => ⟨rfl, by rw [hU]; exact hP, kG.warm hW hG⟩⟩ rfl rfl hl.1 rfl (lv_room (Nat.le_of_ble_eq_true rfl)) dX1_hear_109 ⟨Nat.le_of_ble_eq_true rfl, Nat.le_of_ble_eq_true rfl⟩) (fun r hr9 => ?_)
  subst hr9
  refine my_bei (v := ct (70 * w + 7)) (atQ (d := ct) (w := 70) (i := w) (c := 7) hw (by omega) (by omega) (by omega)) ?_
  refine lv_aload hx hb dX1_hear_112 (lv_at hl 5 rfl) ?_
  refine lv_iload_n hx hb dX1_hear_114 rfl (lv_at hl 7 rfl) ?_
  refine lv_bipush (v := 8) hx hb dX1_hear_115 (by decide) ?_
  refine rd_calli (va_runV (As := [.int (nI w), .int 8]) (rest := [.int (ct (70 * w + 7)), .int box, .ref (g k)]) ⟨hx, hb, hml, hown, hts⟩ (r_at l G g hg f_1 45 10 70 nt ct (nI w) 8 htr hct (by first | assumption | omega | decide) (by first | assumption | omega | decide) (by first | assumption | omega | decide) (by first | assumption | omega | decide)) (my_cwV hts ok_X5_at w_389 rfl rfl ⟨Nat.le_of_ble_eq_true rfl, Nat.le_of_ble_eq_true rfl⟩) ⟨bP.blind, va_recv hG.1 hP (ci := 5) (q0 := 45) rfl (wl_at (by decide) htr), fun U hU hW => ⟨rfl, by rw [hU]; exact hP, kG.warm hW hG⟩⟩ rfl rfl hl.1 rfl (lv_room (Nat.le_of_ble_eq_true rfl)) dX1_hear_117 ⟨Nat.le_of_ble_eq_true rfl, Nat.le_of_ble_eq_true rfl⟩) (fun r hr9 => ?_)
  subst hr9
  refine my_bei (v := nI q8) ((atQ (d := ct) (w := 70) (i := w) (c := 8) hw (by omega) (by omega) (by omega)).trans hq8) ?_
  replace hhe : f_1 k = eO 3 [.ref (g (k + 1)), .int (nI sl), .int lo, .int ib, .int ca, .int mi, .int s0, .int s1, .int sx] := ((o_1 k (by omega))).trans hhe
  replace hod0 : f_1 (k + 1) = eI G 24 od := ((o_1 (k + 1) (by omega))).trans hod0
  replace hZ : ∀ i, i < 10 → okZ G g f_1 (2 * i + 16) (sw i) := fun z hz => okZ_fr (hZ z hz) (o_1 _ (by omega)) (o_1 _ (by omega))
  refine b_callv (va_runV (As := [.int box, .int (ct (70 * w + 7)), .int (nI q8)]) (rest := []) ⟨hx, hb, hml, hown, hts⟩ (h_drawE l G g hg f_1 k sl lo ib ca mi s0 s1 sx od box (ct (70 * w + 7)) q8 hhe hod0 (by first | assumption | omega | decide) (by first | assumption | omega | decide) (by first | assumption | omega | decide) (hb30)) (my_cwV hts ok_X3_draw w_473 rfl rfl ⟨Nat.le_of_ble_eq_true rfl, Nat.le_of_ble_eq_true rfl⟩) ⟨bP.blind, va_recv hG.1 hP (ci := 3) (q0 := k) rfl (wl_at (by omega) hhe), fun U hU hW => ⟨rfl, by rw [hU]; exact hP, kG.warm hW hG⟩⟩ rfl rfl hl.1 rfl (lv_room (Nat.le_of_ble_eq_true rfl)) dX1_hear_120 ⟨Nat.le_of_ble_eq_true rfl, Nat.le_of_ble_eq_true rfl⟩) hS (fun f_2 H locs hq9 hP hS => ?_)
  obtain ⟨od93, hq_2_0, hq_2_1, hx_2_0, o_2⟩ := hq9
  have hhe : f_2 k = eO 3 [.ref (g (k + 1)), .int (nI (min q8 (cnt box 30))), .int (lotF (ct (70 * w + 7)) (min q8 (cnt box 30))), .int box, .int (drC box (ct (70 * w + 7)) (min q8 (cnt box 30))), .int mi, .int s0, .int s1, .int sx] := hq_2_0
  have hod0 : f_2 (k + 1) = eI G 24 od93 := hq_2_1
  have hcl := cnt_le (x := box) 30
  have hod9 : ∀ i, i < min q8 (cnt box 30) → od93 i = nI ((drP box (ct (70 * w + 7))) i) ∧ (drP box (ct (70 * w + 7))) i < 30 := fun i hi => ⟨hx_2_0 i hi, (dr_in (box := box) (o0 := ct (70 * w + 7)) (j := i) (by omega)).1⟩
  refine lv_aload_n hx hb dX1_hear_123 rfl (lv_at hl 8 rfl) ?_
  refine lv_aload hx hb dX1_hear_124 (lv_at hl 5 rfl) ?_
  refine lv_iload_n hx hb dX1_hear_126 rfl (lv_at hl 7 rfl) ?_
  replace htr := ((o_2 45 (by first | decide | omega))).trans htr
  replace hct := ((o_2 46 (by first | decide | omega))).trans hct
  refine b_callv (va_runV (As := [.ref (g 45), .int (nI w)]) (rest := []) ⟨hx, hb, hml, hown, hts⟩ (h_strikeE l G g hg f_2 k (min q8 (cnt box 30)) (lotF (ct (70 * w + 7)) (min q8 (cnt box 30))) box (drC box (ct (70 * w + 7)) (min q8 (cnt box 30))) mi s0 s1 sx od93 nt ct (drP box (ct (70 * w + 7))) w q6 hhe hod0 htr hct (by first | assumption | omega | decide) (by first | assumption | omega | decide) (by first | assumption | omega | decide) (hod9) (by first | assumption | omega | decide) (hq6) (hq64)) (my_cwV hts ok_X3_strike w_493 rfl rfl ⟨Nat.le_of_ble_eq_true rfl, Nat.le_of_ble_eq_true rfl⟩) ⟨bP.blind, va_recv hG.1 hP (ci := 3) (q0 := k) rfl (wl_at (by omega) hhe), fun U hU hW => ⟨rfl, by rw [hU]; exact hP, kG.warm hW hG⟩⟩ rfl rfl hl.1 rfl (lv_room (Nat.le_of_ble_eq_true rfl)) dX1_hear_127 ⟨Nat.le_of_ble_eq_true rfl, Nat.le_of_ble_eq_true rfl⟩) hS (fun f_3 H locs hq9 hP hS => ?_)
  obtain ⟨hq_3_0, o_3⟩ := hq9
  have hhe : f_3 k = eO 3 [.ref (g (k + 1)), .int (nI (min q8 (cnt box 30))), .int (lotF (ct (70 * w + 7)) (min q8 (cnt box 30))), .int box, .int (drC box (ct (70 * w + 7)) (min q8 (cnt box 30))), .int ((drC box (ct (70 * w + 7)) (min q8 (cnt box 30))) &&& ct (70 * w + 9)), .int ((stX (fun sd lf => lkP (drP box (ct (70 * w + 7))) (fun p => ct (70 * w + (30 * sd + p + 10))) lf (min q8 (cnt box 30))) (drC box (ct (70 * w + 7)) (min q8 (cnt box 30))) ((drC box (ct (70 * w + 7)) (min q8 (cnt box 30))) &&& ct (70 * w + 9)) (2 * q6)).1), .int ((stX (fun sd lf => lkP (drP box (ct (70 * w + 7))) (fun p => ct (70 * w + (30 * sd + p + 10))) lf (min q8 (cnt box 30))) (drC box (ct (70 * w + 7)) (min q8 (cnt box 30))) ((drC box (ct (70 * w + 7)) (min q8 (cnt box 30))) &&& ct (70 * w + 9)) (2 * q6)).2), .int sx] := hq_3_0
  refine lv_aload_n hx hb dX1_hear_130 rfl (lv_at hl 8 rfl) ?_
  refine lv_aload hx hb dX1_hear_131 (lv_at hl 5 rfl) ?_
  refine lv_iload_n hx hb dX1_hear_133 rfl (lv_at hl 7 rfl) ?_
  refine lv_iconst (v := 2) hx hb dX1_hear_134 (by decide) ?_
  replace htr := ((o_3 45 (by first | decide | omega))).trans htr
  replace hct := ((o_3 46 (by first | decide | omega))).trans hct
  refine rd_calli (va_runV (As := [.int (nI w), .int 2]) (rest := [.ref (g k)]) ⟨hx, hb, hml, hown, hts⟩ (r_at l G g hg f_3 45 10 70 nt ct (nI w) 2 htr hct (by first | assumption | omega | decide) (by first | assumption | omega | decide) (by first | assumption | omega | decide) (by first | assumption | omega | decide)) (my_cwV hts ok_X5_at w_389 rfl rfl ⟨Nat.le_of_ble_eq_true rfl, Nat.le_of_ble_eq_true rfl⟩) ⟨bP.blind, va_recv hG.1 hP (ci := 5) (q0 := 45) rfl (wl_at (by decide) htr), fun U hU hW => ⟨rfl, by rw [hU]; exact hP, kG.warm hW hG⟩⟩ rfl rfl hl.1 rfl (lv_room (Nat.le_of_ble_eq_true rfl)) dX1_hear_135 ⟨Nat.le_of_ble_eq_true rfl, Nat.le_of_ble_eq_true rfl⟩) (fun r hr9 => ?_)
  subst hr9
  refine my_bei (v := nI ks) ((atQ (d := ct) (w := 70) (i := w) (c := 2) hw (by omega) (by omega) (by omega)).trans hq2) ?_
  refine lv_iload hx hb dX1_hear_138 (lv_at hl 2 rfl) ?_
  refine lv_aload_n hx hb dX1_hear_140 rfl (lv_at hl 8 rfl) ?_
  refine va_getN (D := G.1) (ci := 3) (v := .int box) (C := RX3) (T := TX3) (N := 9) (host := RX10) hx hb hts inlX3 hown hG.1 hP k (wl_at (by omega) hhe) rfl 3 (by decide) (va_Nw.use rfl (hG.2.1 (.fieldLinkNest RX1 96 RX3 "inBox" "I" RX10) (List.mem_of_getElem? (i := 12) rfl))) (fun _ h9 => h9) rfl dX1_hear_141 ?_
  refine lv_iconst (v := (-1)) hx hb dX1_hear_144 (by decide) ?_
  refine lv_ixor hx hb dX1_hear_145 ?_
  refine lv_iand hx hb dX1_hear_146 ?_
  refine my_bei (v := pasV fit box) (rfl) ?_
  replace hod0 : f_3 (k + 1) = eI G 24 od93 := ((o_3 (k + 1) (by omega))).trans hod0
  refine b_callv (va_runV (As := [.int (nI ks), .int (pasV fit box)]) (rest := []) ⟨hx, hb, hml, hown, hts⟩ (h_seatE l G g hg f_3 k (min q8 (cnt box 30)) (lotF (ct (70 * w + 7)) (min q8 (cnt box 30))) box (drC box (ct (70 * w + 7)) (min q8 (cnt box 30))) ((drC box (ct (70 * w + 7)) (min q8 (cnt box 30))) &&& ct (70 * w + 9)) ((stX (fun sd lf => lkP (drP box (ct (70 * w + 7))) (fun p => ct (70 * w + (30 * sd + p + 10))) lf (min q8 (cnt box 30))) (drC box (ct (70 * w + 7)) (min q8 (cnt box 30))) ((drC box (ct (70 * w + 7)) (min q8 (cnt box 30))) &&& ct (70 * w + 9)) (2 * q6)).1) ((stX (fun sd lf => lkP (drP box (ct (70 * w + 7))) (fun p => ct (70 * w + (30 * sd + p + 10))) lf (min q8 (cnt box 30))) (drC box (ct (70 * w + 7)) (min q8 (cnt box 30))) ((drC box (ct (70 * w + 7)) (min q8 (cnt box 30))) &&& ct (70 * w + 9)) (2 * q6)).2) sx od93 (drP box (ct (70 * w + 7))) ks (pasV fit box) hhe hod0 (by first | assumption | omega | decide) (by first | assumption | omega | decide) (hod9) (hks) (fun i j h1 h2 => dr_inj h1 (by omega)) (pas_lf (by omega))) (my_cwV hts ok_X3_seat w_511 rfl rfl ⟨Nat.le_of_ble_eq_true rfl, Nat.le_of_ble_eq_true rfl⟩) ⟨bP.blind, va_recv hG.1 hP (ci := 3) (q0 := k) rfl (wl_at (by omega) hhe), fun U hU hW => ⟨rfl, by rw [hU]; exact hP, kG.warm hW hG⟩⟩ rfl rfl hl.1 rfl (lv_room (Nat.le_of_ble_eq_true rfl)) dX1_hear_147 ⟨Nat.le_of_ble_eq_true rfl, Nat.le_of_ble_eq_true rfl⟩) hS (fun f_4 H locs hq9 hP hS => ?_)
  obtain ⟨hq_4_0, o_4⟩ := hq9
  have hhe : f_4 k = eO 3 [.ref (g (k + 1)), .int (nI (min q8 (cnt box 30))), .int (lotF (ct (70 * w + 7)) (min q8 (cnt box 30))), .int box, .int (drC box (ct (70 * w + 7)) (min q8 (cnt box 30))), .int ((drC box (ct (70 * w + 7)) (min q8 (cnt box 30))) &&& ct (70 * w + 9)), .int ((stX (fun sd lf => lkP (drP box (ct (70 * w + 7))) (fun p => ct (70 * w + (30 * sd + p + 10))) lf (min q8 (cnt box 30))) (drC box (ct (70 * w + 7)) (min q8 (cnt box 30))) ((drC box (ct (70 * w + 7)) (min q8 (cnt box 30))) &&& ct (70 * w + 9)) (2 * q6)).1), .int ((stX (fun sd lf => lkP (drP box (ct (70 * w + 7))) (fun p => ct (70 * w + (30 * sd + p + 10))) lf (min q8 (cnt box 30))) (drC box (ct (70 * w + 7)) (min q8 (cnt box 30))) ((drC box (ct (70 * w + 7)) (min q8 (cnt box 30))) &&& ct (70 * w + 9)) (2 * q6)).2), .int (if (paF (pasV fit box) ks (seF (drP box (ct (70 * w + 7))) (lfV (drC box (ct (70 * w + 7)) (min q8 (cnt box 30))) ((drC box (ct (70 * w + 7)) (min q8 (cnt box 30))) &&& ct (70 * w + 9)) (((stX (fun sd lf => lkP (drP box (ct (70 * w + 7))) (fun p => ct (70 * w + (30 * sd + p + 10))) lf (min q8 (cnt box 30))) (drC box (ct (70 * w + 7)) (min q8 (cnt box 30))) ((drC box (ct (70 * w + 7)) (min q8 (cnt box 30))) &&& ct (70 * w + 9)) (2 * q6)).1), ((stX (fun sd lf => lkP (drP box (ct (70 * w + 7))) (fun p => ct (70 * w + (30 * sd + p + 10))) lf (min q8 (cnt box 30))) (drC box (ct (70 * w + 7)) (min q8 (cnt box 30))) ((drC box (ct (70 * w + 7)) (min q8 (cnt box 30))) &&& ct (70 * w + 9)) (2 * q6)).2))) ks (min q8 (cnt box 30))) 30).2 < ks then 0 else (paF (pasV fit box) ks (seF (drP box (ct (70 * w + 7))) (lfV (drC box (ct (70 * w + 7)) (min q8 (cnt box 30))) ((drC box (ct (70 * w + 7)) (min q8 (cnt box 30))) &&& ct (70 * w + 9)) (((stX (fun sd lf => lkP (drP box (ct (70 * w + 7))) (fun p => ct (70 * w + (30 * sd + p + 10))) lf (min q8 (cnt box 30))) (drC box (ct (70 * w + 7)) (min q8 (cnt box 30))) ((drC box (ct (70 * w + 7)) (min q8 (cnt box 30))) &&& ct (70 * w + 9)) (2 * q6)).1), ((stX (fun sd lf => lkP (drP box (ct (70 * w + 7))) (fun p => ct (70 * w + (30 * sd + p + 10))) lf (min q8 (cnt box 30))) (drC box (ct (70 * w + 7)) (min q8 (cnt box 30))) ((drC box (ct (70 * w + 7)) (min q8 (cnt box 30))) &&& ct (70 * w + 9)) (2 * q6)).2))) ks (min q8 (cnt box 30))) 30).1)] := hq_4_0
  replace hvl := ((o_4 15 (by first | decide | omega)).trans ((o_3 15 (by first | decide | omega)).trans ((o_2 15 (by first | decide | omega))))).trans hvl
  replace hod0 : f_4 (k + 1) = eI G 24 od93 := ((o_4 (k + 1) (by omega))).trans hod0
  refine W_q9 hQ9 ?_
  exact W.vret hx hb hr (fun _ hT9 _ => ⟨⟨f_4, rfl, (⟨vv92, hvl, okQ_mk (R := (fun c => ct (70 * w + c))) hq8 hq88 hq6 hq64 hq2 hks hhe hod0 (fun i hi => (hod9 i hi).1), fun j hj => ((((o_4 j (by omega))).trans (o_3 j (by omega))).trans (o_2 j (by omega))).trans (o_1 j (by omega))⟩), by rw [hT9]; exact hP⟩, hS.F hT9⟩) hS.2.2 dX1_hear_150
set_option maxHeartbeats 4000000 in
set_option maxRecDepth 100000 in
theorem u_hearE10 (l : Launch) (G : gW) (g : Nat → Nat) (hg : gOK g) (f : Nat → va_E) (se : Nat) (hf : Nat → Option Nat) (pay : Int32) (fine : Int32) (nt : Nat) (ct : Nat → Int32) (np : Nat) (dp : Nat → Int32) (nf : Nat) (df : Nat → Int32) (nr : Nat) (dr : Nat → Int32) (k : Nat) (sl : Nat) (lo : Int32) (ib : Int32) (ca : Int32) (mi : Int32) (s0 : Int32) (s1 : Int32) (sx : Int32) (od : Nat → Int32) (vv : Nat → Int64) (sw : Nat → Int32) (w : Nat) (q8 : Nat) (q6 : Nat) (ks : Nat) (fit : Int32) (box : Int32) (k1 : Nat) (ln1 : Nat) (sc1 : Nat) (sp1 : Nat → Int32) (l1 : List (Int32 × Int32)) (hctc : f 1 = eO 1 [.ref (g 36), .ref (g 12), .ref (g 13), .ref (g 15), .int (nI se)]) (hhs : f 12 = eA G 4 10 hf) (hbk : f 36 = eO 0 [.ref (g 37), .ref (g 39), .ref (g 41), .ref (g 43), .ref (g 45), .ref (g 47), .ref (g 112), .int pay, .int fine]) (htr : f 45 = eO 5 [.int (nI 10), .int (nI 70), .ref (g 46), .int (nI nt)]) (hct : f 46 = eI G (10 * 70) ct) (hpr : f 37 = eO 5 [.int (nI 30), .int (nI 4), .ref (g 38), .int (nI np)]) (hpd : f 38 = eI G (30 * 4) dp) (hfr : f 39 = eO 5 [.int (nI 40), .int (nI 3), .ref (g 40), .int (nI nf)]) (hfd : f 40 = eI G (40 * 3) df) (hor : f 41 = eO 5 [.int (nI 4), .int (nI 3), .ref (g 42), .int (nI nr)]) (hod : f 42 = eI G (4 * 3) dr) (hvl : f 15 = eJ G 50 vv) (hhe : f k = eO 3 [.ref (g (k + 1)), .int (nI sl), .int lo, .int ib, .int ca, .int mi, .int s0, .int s1, .int sx]) (hod0 : f (k + 1) = eI G 24 od) (htx1 : f k1 = eO 7 [.ref (g (k1 + 1)), .ref (g (k1 + 2)), .int (nI ln1), .int (nI sc1)]) (hpx1 : f (k1 + 2) = eI G 50 sp1) (hse : se ≤ 10) (hhf : ∀ i, i < 10 → hf i = some (g (2 * i + 16))) (hnt : nt ≤ 10) (hnp : np ≤ 30) (hnf : nf ≤ 40) (hnr : nr ≤ 4) (hk3 : k + 1 < 36) (hk13 : 13 ≤ k) (hk15 : k ≠ 14 ∧ k ≠ 15) (hsl : sl ≤ 24) (hw : w < nt) (hq8 : ct (70 * w + 8) = nI q8) (hq88 : q8 ≤ 24) (hq6 : ct (70 * w + 6) = nI q6) (hq64 : q6 ≤ 4) (hq2 : ct (70 * w + 2) = nI ks) (hks : ks ≤ 8) (hk31 : k1 + 2 < 333) (hkt1 : 36 ≤ k1) (hln1 : ln1 ≤ 50) (hsc1 : sc1 ≤ 50) (hls1 : stk sp1 sc1 = l1.map cdp) (hlen1 : l1.length = sc1) (hdl1 : dpl l1 = some 1) (hol1 : okO l1) (hfit : fitV np (nvF (fun i c => dp (4 * i + c)) (fun t c => ct (70 * t + c)) sw (ct (70 * w + 0)) nt) (knV (fun i c => df (3 * i + c)) (ct (70 * w + 3)) (ct (70 * w + 4)) (ct (70 * w + 0)) nf) (bzV (fun t c => ct (70 * t + c)) sw w w) (some l1) = fit) (hbox : boxV np (nvF (fun i c => dp (4 * i + c)) (fun t c => ct (70 * t + c)) sw (ct (70 * w + 0)) nt) fit (rlV np nr (fun i c => dr (3 * i + c)) (ct (70 * w + 0))) (trdV np (fun i c => dp (4 * i + c)) (ct (70 * w + 5))) none = box) (hb30 : ∀ j, 30 ≤ j → bt box j = false) (hZ : ∀ i, i < 10 → okZ G g f (2 * i + 16) (sw i)) : Met l yX1_hear (wsT yX1_hear cX1_hear 11 none) ({ frames := 5, cells := 0, slots := 0, locals := 124 }) (bP G g f [.ref (g 1), .int (nI w), .ref (g k), .ref (g k1), .null]) (bQv G g (fun (f' : Nat → va_E) => ∃ vv9 : Nat → Int64, f' 15 = eJ G 50 vv9 ∧ (okQ G g f' k box (pasV fit box) (fun c => ct (70 * w + c))) ∧ ∀ j, (j ≠ 15 ∧ j ≠ k ∧ j ≠ k + 1) → f' j = f j)) 0 0 (gA g) := by
  refine Met.ofW (cc := cX1_hear) (maxL := 11) (ret := none) (by decide) rfl ?_
  intro p e s m args below meth c s₁ B hml hv
  obtain ⟨rfl, hP, hG⟩ := hv
  have hx := B.exec
  have hb := B.bytes
  have hr := B.returns
  have hts := my_hts (atoms_spec (ws := wsT yX1_hear cX1_hear 11 none) B.pre)
  have hown : s.vm.findClass RX1 = some m.cls := findClass_of_methodNamed B.named
  have hlocks := B.notSynchronized
  have hS : va_S (gA g) s.heap s.heap [] := va_S.rf
  have hl := lv_entry ([.ref (g 1), .int (nI w), .ref (g k), .ref (g k1), .null]) (n := 11) (Nat.le_of_ble_eq_true rfl)
  rw [lg_entry_eq]
  generalize (lg_sl ([.ref (g 1), .int (nI w), .ref (g k), .ref (g k1), .null]) ++ List.replicate (11 - (lg_sl ([.ref (g 1), .int (nI w), .ref (g k), .ref (g k1), .null])).length) Slot.unset).toArray = ls at hl ⊢
  have hl : lv_has ls 11 [(0, .ref (g 1)), (1, .int (nI w)), (2, .ref (g k)), (3, .ref (g k1)), (4, .null)] := hl
  refine W_q8 (fun Q9 hQ9 => ?_)
  refine lv_aload_n hx hb dX1_hear_0 rfl (lv_at hl 0 rfl) ?_
  refine va_get (D := G.1) (ci := 1) (v := .ref (g 36)) (C := RX1) (T := TX1) (N := 5) hx hb hts inlX1 hown hG.1 hP 1 (wl_at (by decide) hctc) rfl 0 (by decide) (hts (.fieldLink RX1 12 "SwornLists$Court" "book" "LSwornLists$Book;") w_40) (fun _ h9 => h9) rfl dX1_hear_1 ?_
  refine va_getN (D := G.1) (ci := 0) (v := .ref (g 45)) (C := RX0) (T := TX0) (N := 9) (host := RX10) hx hb hts inlX0 hown hG.1 hP 36 (wl_at (by decide) hbk) rfl 4 (by decide) (va_Nw.use rfl (hG.2.1 (.fieldLinkNest RX1 43 RX0 "trials" "LSwornLists$Rows;" RX10) (List.mem_of_getElem? (i := 6) rfl))) (fun _ h9 => h9) rfl dX1_hear_4 ?_
  refine lv_astore (lv' := [(5, .ref (g 45)), (0, .ref (g 1)), (1, .int (nI w)), (2, .ref (g k)), (3, .ref (g k1)), (4, .null)]) hx hb dX1_hear_7 hl (by decide) rfl (fun ls hl => ?_)
  refine lv_aload hx hb dX1_hear_9 (lv_at hl 0 rfl) ?_
  refine lv_iload_n hx hb dX1_hear_11 rfl (lv_at hl 2 rfl) ?_
  refine lv_iconst (v := 0) hx hb dX1_hear_12 (by decide) ?_
  refine rd_calli (va_runV (As := [.int (nI w), .int 0]) (rest := []) ⟨hx, hb, hml, hown, hts⟩ (r_at l G g hg f 45 10 70 nt ct (nI w) 0 htr hct (by first | assumption | omega | decide) (by first | assumption | omega | decide) (by first | assumption | omega | decide) (by first | assumption | omega | decide)) (my_cwV hts ok_X5_at w_389 rfl rfl ⟨Nat.le_of_ble_eq_true rfl, Nat.le_of_ble_eq_true rfl⟩) ⟨bP.blind, va_recv hG.1 hP (ci := 5) (q0 := 45) rfl (wl_at (by decide) htr), fun U hU hW => ⟨rfl, by rw [hU]; exact hP, kG.warm hW hG⟩⟩ rfl rfl hl.1 rfl (lv_room (Nat.le_of_ble_eq_true rfl)) dX1_hear_13 ⟨Nat.le_of_ble_eq_true rfl, Nat.le_of_ble_eq_true rfl⟩) (fun r hr9 => ?_)
  subst hr9
  refine my_bei (v := ct (70 * w + 0)) (atQ (d := ct) (w := 70) (i := w) (c := 0) hw (by omega) (by omega) (by omega)) ?_
  refine lv_istore (lv' := [(6, .int (ct (70 * w + 0))), (5, .ref (g 45)), (0, .ref (g 1)), (1, .int (nI w)), (2, .ref (g k)), (3, .ref (g k1)), (4, .null)]) hx hb dX1_hear_16 hl (by decide) rfl (fun ls hl => ?_)
  refine lv_aload_n hx hb dX1_hear_18 rfl (lv_at hl 2 rfl) ?_
  refine va_get (D := G.1) (ci := 1) (v := .ref (g 36)) (C := RX1) (T := TX1) (N := 5) hx hb hts inlX1 hown hG.1 hP 1 (wl_at (by decide) hctc) rfl 0 (by decide) (hts (.fieldLink RX1 12 "SwornLists$Court" "book" "LSwornLists$Book;") w_40) (fun _ h9 => h9) rfl dX1_hear_19 ?_
  refine rd_calli (va_runV (As := []) (rest := []) ⟨hx, hb, hml, hown, hts⟩ (k_everyoneE l G g hg f pay fine np dp hbk hpr hpd (by first | assumption | omega | decide)) (my_cwV hts ok_X0_everyone w_407 rfl rfl ⟨Nat.le_of_ble_eq_true rfl, Nat.le_of_ble_eq_true rfl⟩) ⟨bP.blind, va_recv hG.1 hP (ci := 0) (q0 := 36) rfl (wl_at (by decide) hbk), fun U hU hW => ⟨rfl, by rw [hU]; exact hP, kG.warm hW hG⟩⟩ rfl rfl hl.1 rfl (lv_room (Nat.le_of_ble_eq_true rfl)) dX1_hear_22 ⟨Nat.le_of_ble_eq_true rfl, Nat.le_of_ble_eq_true rfl⟩) (fun r hr9 => ?_)
  subst hr9
  refine lv_aload_n hx hb dX1_hear_25 rfl (lv_at hl 2 rfl) ?_
  refine va_get (D := G.1) (ci := 1) (v := .ref (g 36)) (C := RX1) (T := TX1) (N := 5) hx hb hts inlX1 hown hG.1 hP 1 (wl_at (by decide) hctc) rfl 0 (by decide) (hts (.fieldLink RX1 12 "SwornLists$Court" "book" "LSwornLists$Book;") w_40) (fun _ h9 => h9) rfl dX1_hear_26 ?_
  refine lv_iload_n hx hb dX1_hear_29 rfl (lv_at hl 3 rfl) ?_
  refine lv_iload hx hb dX1_hear_30 (lv_at hl 0 rfl) ?_
  refine rd_calli (va_runV (As := [.int (nI w), .int (ct (70 * w + 0))]) (rest := [.int ((1 <<< (nI np &&& 31)) - 1)]) ⟨hx, hb, hml, hown, hts⟩ (k_kinOfSidesE l G g hg f pay fine nf df nt ct w (ct (70 * w + 0)) hbk hfr hfd htr hct (by first | assumption | omega | decide) (by first | assumption | omega | decide) (by first | assumption | omega | decide)) (my_cwV hts ok_X0_kinOfSides w_408 rfl rfl ⟨Nat.le_of_ble_eq_true rfl, Nat.le_of_ble_eq_true rfl⟩) ⟨bP.blind, va_recv hG.1 hP (ci := 0) (q0 := 36) rfl (wl_at (by decide) hbk), fun U hU hW => ⟨rfl, by rw [hU]; exact hP, kG.warm hW hG⟩⟩ rfl rfl hl.1 rfl (lv_room (Nat.le_of_ble_eq_true rfl)) dX1_hear_32 ⟨Nat.le_of_ble_eq_true rfl, Nat.le_of_ble_eq_true rfl⟩) (fun r hr9 => ?_)
  subst hr9
  refine lv_iconst (v := (-1)) hx hb dX1_hear_35 (by decide) ?_
  refine lv_ixor hx hb dX1_hear_36 ?_
  refine lv_iand hx hb dX1_hear_37 ?_
  refine lv_aload_n hx hb dX1_hear_38 rfl (lv_at hl 2 rfl) ?_
  refine lv_iload_n hx hb dX1_hear_39 rfl (lv_at hl 3 rfl) ?_
  refine rd_calli (va_runV (As := [.int (nI w)]) (rest := [.int (((1 <<< (nI np &&& 31)) - 1) &&& ((knV (fun i c => df (3 * i + c)) (ct (70 * w + 3)) (ct (70 * w + 4)) (ct (70 * w + 0)) nf) ^^^ (-1)))]) ⟨hx, hb, hml, hown, hts⟩ (u_busyE l G g hg f se hf pay fine nt ct sw w hctc hhs hbk htr hct (by first | assumption | omega | decide) (by first | assumption | omega | decide) (by first | assumption | omega | decide) (by first | assumption | omega | decide) (by first | assumption | omega | decide)) (my_cwV hts ok_X1_busy w_412 rfl rfl ⟨Nat.le_of_ble_eq_true rfl, Nat.le_of_ble_eq_true rfl⟩) ⟨bP.blind, va_recv hG.1 hP (ci := 1) (q0 := 1) rfl (wl_at (by decide) hctc), fun U hU hW => ⟨rfl, by rw [hU]; exact hP, kG.warm hW hG⟩⟩ rfl rfl hl.1 rfl (lv_room (Nat.le_of_ble_eq_true rfl)) dX1_hear_40 ⟨Nat.le_of_ble_eq_true rfl, Nat.le_of_ble_eq_true rfl⟩) (fun r hr9 => ?_)
  subst hr9
  refine lv_iconst (v := (-1)) hx hb dX1_hear_43 (by decide) ?_
  refine lv_ixor hx hb dX1_hear_44 ?_
  refine lv_iand hx hb dX1_hear_45 ?_
  refine my_bei (v := clV np (knV (fun i c => df (3 * i + c)) (ct (70 * w + 3)) (ct (70 * w + 4)) (ct (70 * w + 0)) nf) (bzV (fun t c => ct (70 * t + c)) sw w w)) (rfl) ?_
  refine lv_istore (lv' := [(7, .int (clV np (knV (fun i c => df (3 * i + c)) (ct (70 * w + 3)) (ct (70 * w + 4)) (ct (70 * w + 0)) nf) (bzV (fun t c => ct (70 * t + c)) sw w w))), (6, .int (ct (70 * w + 0))), (5, .ref (g 45)), (0, .ref (g 1)), (1, .int (nI w)), (2, .ref (g k)), (3, .ref (g k1)), (4, .null)]) hx hb dX1_hear_46 hl (by decide) rfl (fun ls hl => ?_)
  refine lv_aload_n hx hb dX1_hear_48 rfl (lv_at hl 3 rfl) ?_
  refine lv_aload_n hx hb dX1_hear_49 rfl (lv_at hl 6 rfl) ?_
  refine lv_iconst (v := 0) hx hb dX1_hear_50 (by decide) ?_
  refine lv_iload hx hb dX1_hear_51 (lv_at hl 1 rfl) ?_
  refine lv_iload hx hb dX1_hear_53 (lv_at hl 0 rfl) ?_
  refine b_calli (va_runV (As := [.ref (g k1), .int 0, .int (ct (70 * w + 0)), .int (clV np (knV (fun i c => df (3 * i + c)) (ct (70 * w + 3)) (ct (70 * w + 4)) (ct (70 * w + 0)) nf) (bzV (fun t c => ct (70 * t + c)) sw w w))]) (rest := []) ⟨hx, hb, hml, hown, hts⟩ (u_truthsTE l G g hg f se hf pay fine nt ct np dp k1 ln1 sc1 sp1 vv sw l1 0 (ct (70 * w + 0)) (clV np (knV (fun i c => df (3 * i + c)) (ct (70 * w + 3)) (ct (70 * w + 4)) (ct (70 * w + 0)) nf) (bzV (fun t c => ct (70 * t + c)) sw w w)) hctc hhs hbk htr hct hpr hpd htx1 hpx1 hvl (by first | assumption | omega | decide) (by first | assumption | omega | decide) (by first | assumption | omega | decide) (by first | assumption | omega | decide) (by first | assumption | omega | decide) (by first | assumption | omega | decide) (by first | assumption | omega | decide) (by first | assumption | omega | decide) (hls1) (hlen1) (hdl1) (hol1) (by first | assumption | omega | decide)) (my_cwV hts ok_X1_truths w_424 rfl rfl ⟨Nat.le_of_ble_eq_true rfl, Nat.le_of_ble_eq_true rfl⟩) ⟨bP.blind, va_recv hG.1 hP (ci := 1) (q0 := 1) rfl (wl_at (by decide) hctc), fun U hU hW => ⟨rfl, by rw [hU]; exact hP, kG.warm hW hG⟩⟩ rfl rfl hl.1 rfl (lv_room (Nat.le_of_ble_eq_true rfl)) dX1_hear_55 ⟨Nat.le_of_ble_eq_true rfl, Nat.le_of_ble_eq_true rfl⟩) hS (fun v1 f_1 H locs hq9 hP hS => ?_)
  obtain ⟨vv92, rfl, hq_1_0, o_1⟩ := hq9
  have hvl : f_1 15 = eJ G 50 vv92 := hq_1_0
  refine my_bei (v := fit) (hfit) ?_
  refine lv_istore (lv' := [(8, .int fit), (7, .int (clV np (knV (fun i c => df (3 * i + c)) (ct (70 * w + 3)) (ct (70 * w + 4)) (ct (70 * w + 0)) nf) (bzV (fun t c => ct (70 * t + c)) sw w w))), (6, .int (ct (70 * w + 0))), (5, .ref (g 45)), (0, .ref (g 1)), (1, .int (nI w)), (2, .ref (g k)), (3, .ref (g k1)), (4, .null)]) hx hb dX1_hear_58 hl (by decide) rfl (fun ls hl => ?_)
  refine lv_iload hx hb dX1_hear_60 (lv_at hl 0 rfl) ?_
  refine lv_aload_n hx hb dX1_hear_62 rfl (lv_at hl 4 rfl) ?_
  replace hctc := ((o_1 1 (by first | decide | omega))).trans hctc
  refine va_get (D := G.1) (ci := 1) (v := .ref (g 36)) (C := RX1) (T := TX1) (N := 5) hx hb hts inlX1 hown hG.1 hP 1 (wl_at (by decide) hctc) rfl 0 (by decide) (hts (.fieldLink RX1 12 "SwornLists$Court" "book" "LSwornLists$Book;") w_40) (fun _ h9 => h9) rfl dX1_hear_63 ?_
  refine lv_iload hx hb dX1_hear_66 (lv_at hl 2 rfl) ?_
  replace hbk := ((o_1 36 (by first | decide | omega))).trans hbk
  replace hpr := ((o_1 37 (by first | decide | omega))).trans hpr
  replace hpd := ((o_1 38 (by first | decide | omega))).trans hpd
  replace hor := ((o_1 41 (by first | decide | omega))).trans hor
  replace hod := ((o_1 42 (by first | decide | omega))).trans hod
  refine rd_calli (va_runV (As := [.int (ct (70 * w + 0))]) (rest := [.int fit]) ⟨hx, hb, hml, hown, hts⟩ (k_listedOnE l G g hg f_1 pay fine np dp nr dr (ct (70 * w + 0)) hbk hpr hpd hor hod (by first | assumption | omega | decide) (by first | assumption | omega | decide)) (my_cwV hts ok_X0_listedOn w_464 rfl rfl ⟨Nat.le_of_ble_eq_true rfl, Nat.le_of_ble_eq_true rfl⟩) ⟨bP.blind, va_recv hG.1 hP (ci := 0) (q0 := 36) rfl (wl_at (by decide) hbk), fun U hU hW => ⟨rfl, by rw [hU]; exact hP, kG.warm hW hG⟩⟩ rfl rfl hl.1 rfl (lv_room (Nat.le_of_ble_eq_true rfl)) dX1_hear_68 ⟨Nat.le_of_ble_eq_true rfl, Nat.le_of_ble_eq_true rfl⟩) (fun r hr9 => ?_)
  subst hr9
  refine lv_iand hx hb dX1_hear_71 ?_
  refine lv_aload_n hx hb dX1_hear_72 rfl (lv_at hl 4 rfl) ?_
  refine va_get (D := G.1) (ci := 1) (v := .ref (g 36)) (C := RX1) (T := TX1) (N := 5) hx hb hts inlX1 hown hG.1 hP 1 (wl_at (by decide) hctc) rfl 0 (by decide) (hts (.fieldLink RX1 12 "SwornLists$Court" "book" "LSwornLists$Book;") w_40) (fun _ h9 => h9) rfl dX1_hear_73 ?_
  refine lv_iload_n hx hb dX1_hear_76 rfl (lv_at hl 5 rfl) ?_
  replace htr := ((o_1 45 (by first | decide | omega))).trans htr
  replace hct := ((o_1 46 (by first | decide | omega))).trans hct
  refine rd_calli (va_runV (As := [.int (nI w)]) (rest := [.int (fit &&& (rlV np nr (fun i c => dr (3 * i + c)) (ct (70 * w + 0))))]) ⟨hx, hb, hml, hown, hts⟩ (k_ofTradeWantedE l G g hg f_1 pay fine np dp nt ct w hbk hpr hpd htr hct (by first | assumption | omega | decide) (by first | assumption | omega | decide) (by first | assumption | omega | decide)) (my_cwV hts ok_X0_ofTradeWanted w_465 rfl rfl ⟨Nat.le_of_ble_eq_true rfl, Nat.le_of_ble_eq_true rfl⟩) ⟨bP.blind, va_recv hG.1 hP (ci := 0) (q0 := 36) rfl (wl_at (by decide) hbk), fun U hU hW => ⟨rfl, by rw [hU]; exact hP, kG.warm hW hG⟩⟩ rfl rfl hl.1 rfl (lv_room (Nat.le_of_ble_eq_true rfl)) dX1_hear_77 ⟨Nat.le_of_ble_eq_true rfl, Nat.le_of_ble_eq_true rfl⟩) (fun r hr9 => ?_)
  subst hr9
  refine my_bei (v := (trdV np (fun i c => dp (4 * i + c)) (ct (70 * w + 5)))) (rfl) ?_
  refine lv_iand hx hb dX1_hear_80 ?_
  refine my_bei (v := liV fit (rlV np nr (fun i c => dr (3 * i + c)) (ct (70 * w + 0))) (trdV np (fun i c => dp (4 * i + c)) (ct (70 * w + 5)))) (rfl) ?_
  refine lv_istore (lv' := [(9, .int (liV fit (rlV np nr (fun i c => dr (3 * i + c)) (ct (70 * w + 0))) (trdV np (fun i c => dp (4 * i + c)) (ct (70 * w + 5))))), (8, .int fit), (7, .int (clV np (knV (fun i c => df (3 * i + c)) (ct (70 * w + 3)) (ct (70 * w + 4)) (ct (70 * w + 0)) nf) (bzV (fun t c => ct (70 * t + c)) sw w w))), (6, .int (ct (70 * w + 0))), (5, .ref (g 45)), (0, .ref (g 1)), (1, .int (nI w)), (2, .ref (g k)), (3, .ref (g k1)), (4, .null)]) hx hb dX1_hear_81 hl (by decide) rfl (fun ls hl => ?_)
  refine lv_aload_n hx hb dX1_hear_83 rfl (lv_at hl 5 rfl) ?_
  refine lv_aloadN hx hb dX1_hear_84 (lv_at hl 9 rfl) ?_
  refine lv_iconst (v := 1) hx hb dX1_hear_86 (by decide) ?_
  refine lv_iload hx hb dX1_hear_87 (lv_at hl 3 rfl) ?_
  refine lv_iload hx hb dX1_hear_89 (lv_at hl 0 rfl) ?_
  refine rd_calli (va_runV (As := [.null, .int 1, .int (ct (70 * w + 0)), .int (liV fit (rlV np nr (fun i c => dr (3 * i + c)) (ct (70 * w + 0))) (trdV np (fun i c => dp (4 * i + c)) (ct (70 * w + 5))))]) (rest := []) ⟨hx, hb, hml, hown, hts⟩ (u_truthsN1 l G g hg f_1 (ct (70 * w + 0)) (liV fit (rlV np nr (fun i c => dr (3 * i + c)) (ct (70 * w + 0))) (trdV np (fun i c => dp (4 * i + c)) (ct (70 * w + 5))))  ) (my_cwV hts ok_X1_truths w_424 rfl rfl ⟨Nat.le_of_ble_eq_true rfl, Nat.le_of_ble_eq_true rfl⟩) ⟨bP.blind, va_recv hG.1 hP (ci := 1) (q0 := 1) rfl (wl_at (by decide) hctc), fun U hU hW => ⟨rfl, by rw [hU]; exact hP, kG.warm hW hG⟩⟩ rfl rfl hl.1 rfl (lv_room (Nat.le_of_ble_eq_true rfl)) dX1_hear_91 ⟨Nat.le_of_ble_eq_true rfl, Nat.le_of_ble_eq_true rfl⟩) (fun r hr9 => ?_)
  subst hr9
  refine my_bei (v := trV np (nvF (fun i c => dp (4 * i + c)) (fun t c => ct (70 * t + c)) sw (ct (70 * w + 0)) nt) 0 (liV fit (rlV np nr (fun i c => dr (3 * i + c)) (ct (70 * w + 0))) (trdV np (fun i c => dp (4 * i + c)) (ct (70 * w + 5)))) none) (rfl) ?_
  refine lv_istore (lv' := [(10, .int (trV np (nvF (fun i c => dp (4 * i + c)) (fun t c => ct (70 * t + c)) sw (ct (70 * w + 0)) nt) 0 (liV fit (rlV np nr (fun i c => dr (3 * i + c)) (ct (70 * w + 0))) (trdV np (fun i c => dp (4 * i + c)) (ct (70 * w + 5)))) none)), (9, .int (liV fit (rlV np nr (fun i c => dr (3 * i + c)) (ct (70 * w + 0))) (trdV np (fun i c => dp (4 * i + c)) (ct (70 * w + 5))))), (8, .int fit), (7, .int (clV np (knV (fun i c => df (3 * i + c)) (ct (70 * w + 3)) (ct (70 * w + 4)) (ct (70 * w + 0)) nf) (bzV (fun t c => ct (70 * t + c)) sw w w))), (6, .int (ct (70 * w + 0))), (5, .ref (g 45)), (0, .ref (g 1)), (1, .int (nI w)), (2, .ref (g k)), (3, .ref (g k1)), (4, .null)]) hx hb dX1_hear_94 hl (by decide) rfl (fun ls hl => ?_)
  refine lv_aload_n hx hb dX1_hear_96 rfl (lv_at hl 8 rfl) ?_
  refine lv_iload hx hb dX1_hear_97 (lv_at hl 1 rfl) ?_
  refine lv_iload hx hb dX1_hear_99 (lv_at hl 0 rfl) ?_
  refine lv_iconst (v := (-1)) hx hb dX1_hear_101 (by decide) ?_
  refine lv_ixor hx hb dX1_hear_102 ?_
  refine lv_iand hx hb dX1_hear_103 ?_
  refine my_bei (v := box) (hbox) ?_
  refine lv_aload hx hb dX1_hear_104 (lv_at hl 5 rfl) ?_
  refine lv_iload_n hx hb dX1_hear_106 rfl (lv_at hl 7 rfl) ?_
  refine lv_bipush (v := 7) hx hb dX1_hear_107 (by decide) ?_
  refine rd_calli (va_runV (As := [.int (nI w), .int 7]) (rest := [.int box, .ref (g k)]) ⟨hx, hb, hml, hown, hts⟩ (r_at l G g hg f_1 45 10 70 nt ct (nI w) 7 htr hct (by first | assumption | omega | decide) (by first | assumption | omega | decide) (by first | assumption | omega | decide) (by first | assumption | omega | decide)) (my_cwV hts ok_X5_at w_389 rfl rfl ⟨Nat.le_of_ble_eq_true rfl, Nat.le_of_ble_eq_true rfl⟩) ⟨bP.blind, va_recv hG.1 hP (ci := 5) (q0 := 45) rfl (wl_at (by decide) htr), fun U hU hW => ⟨rfl, by rw [hU]; exact hP, kG.warm hW hG⟩⟩ rfl rfl hl.1 rfl (lv_room (Nat.le_of_ble_eq_true rfl)) dX1_hear_109 ⟨Nat.le_of_ble_eq_true rfl, Nat.le_of_ble_eq_true rfl⟩) (fun r hr9 => ?_)
  subst hr9
  refine my_bei (v := ct (70 * w + 7)) (atQ (d := ct) (w := 70) (i := w) (c := 7) hw (by omega) (by omega) (by omega)) ?_
  refine lv_aload hx hb dX1_hear_112 (lv_at hl 5 rfl) ?_
  refine lv_iload_n hx hb dX1_hear_114 rfl (lv_at hl 7 rfl) ?_
  refine lv_bipush (v := 8) hx hb dX1_hear_115 (by decide) ?_
  refine rd_calli (va_runV (As := [.int (nI w), .int 8]) (rest := [.int (ct (70 * w + 7)), .int box, .ref (g k)]) ⟨hx, hb, hml, hown, hts⟩ (r_at l G g hg f_1 45 10 70 nt ct (nI w) 8 htr hct (by first | assumption | omega | decide) (by first | assumption | omega | decide) (by first | assumption | omega | decide) (by first | assumption | omega | decide)) (my_cwV hts ok_X5_at w_389 rfl rfl ⟨Nat.le_of_ble_eq_true rfl, Nat.le_of_ble_eq_true rfl⟩) ⟨bP.blind, va_recv hG.1 hP (ci := 5) (q0 := 45) rfl (wl_at (by decide) htr), fun U hU hW => ⟨rfl, by rw [hU]; exact hP, kG.warm hW hG⟩⟩ rfl rfl hl.1 rfl (lv_room (Nat.le_of_ble_eq_true rfl)) dX1_hear_117 ⟨Nat.le_of_ble_eq_true rfl, Nat.le_of_ble_eq_true rfl⟩) (fun r hr9 => ?_)
  subst hr9
  refine my_bei (v := nI q8) ((atQ (d := ct) (w := 70) (i := w) (c := 8) hw (by omega) (by omega) (by omega)).trans hq8) ?_
  replace hhe : f_1 k = eO 3 [.ref (g (k + 1)), .int (nI sl), .int lo, .int ib, .int ca, .int mi, .int s0, .int s1, .int sx] := ((o_1 k (by omega))).trans hhe
  replace hod0 : f_1 (k + 1) = eI G 24 od := ((o_1 (k + 1) (by omega))).trans hod0
  replace hZ : ∀ i, i < 10 → okZ G g f_1 (2 * i + 16) (sw i) := fun z hz => okZ_fr (hZ z hz) (o_1 _ (by omega)) (o_1 _ (by omega))
  refine b_callv (va_runV (As := [.int box, .int (ct (70 * w + 7)), .int (nI q8)]) (rest := []) ⟨hx, hb, hml, hown, hts⟩ (h_drawE l G g hg f_1 k sl lo ib ca mi s0 s1 sx od box (ct (70 * w + 7)) q8 hhe hod0 (by first | assumption | omega | decide) (by first | assumption | omega | decide) (by first | assumption | omega | decide) (hb30)) (my_cwV hts ok_X3_draw w_473 rfl rfl ⟨Nat.le_of_ble_eq_true rfl, Nat.le_of_ble_eq_true rfl⟩) ⟨bP.blind, va_recv hG.1 hP (ci := 3) (q0 := k) rfl (wl_at (by omega) hhe), fun U hU hW => ⟨rfl, by rw [hU]; exact hP, kG.warm hW hG⟩⟩ rfl rfl hl.1 rfl (lv_room (Nat.le_of_ble_eq_true rfl)) dX1_hear_120 ⟨Nat.le_of_ble_eq_true rfl, Nat.le_of_ble_eq_true rfl⟩) hS (fun f_2 H locs hq9 hP hS => ?_)
  obtain ⟨od93, hq_2_0, hq_2_1, hx_2_0, o_2⟩ := hq9
  have hhe : f_2 k = eO 3 [.ref (g (k + 1)), .int (nI (min q8 (cnt box 30))), .int (lotF (ct (70 * w + 7)) (min q8 (cnt box 30))), .int box, .int (drC box (ct (70 * w + 7)) (min q8 (cnt box 30))), .int mi, .int s0, .int s1, .int sx] := hq_2_0
  have hod0 : f_2 (k + 1) = eI G 24 od93 := hq_2_1
  have hcl := cnt_le (x := box) 30
  have hod9 : ∀ i, i < min q8 (cnt box 30) → od93 i = nI ((drP box (ct (70 * w + 7))) i) ∧ (drP box (ct (70 * w + 7))) i < 30 := fun i hi => ⟨hx_2_0 i hi, (dr_in (box := box) (o0 := ct (70 * w + 7)) (j := i) (by omega)).1⟩
  refine lv_aload_n hx hb dX1_hear_123 rfl (lv_at hl 8 rfl) ?_
  refine lv_aload hx hb dX1_hear_124 (lv_at hl 5 rfl) ?_
  refine lv_iload_n hx hb dX1_hear_126 rfl (lv_at hl 7 rfl) ?_
  replace htr := ((o_2 45 (by first | decide | omega))).trans htr
  replace hct := ((o_2 46 (by first | decide | omega))).trans hct
  refine b_callv (va_runV (As := [.ref (g 45), .int (nI w)]) (rest := []) ⟨hx, hb, hml, hown, hts⟩ (h_strikeE l G g hg f_2 k (min q8 (cnt box 30)) (lotF (ct (70 * w + 7)) (min q8 (cnt box 30))) box (drC box (ct (70 * w + 7)) (min q8 (cnt box 30))) mi s0 s1 sx od93 nt ct (drP box (ct (70 * w + 7))) w q6 hhe hod0 htr hct (by first | assumption | omega | decide) (by first | assumption | omega | decide) (by first | assumption | omega | decide) (hod9) (by first | assumption | omega | decide) (hq6) (hq64)) (my_cwV hts ok_X3_strike w_493 rfl rfl ⟨Nat.le_of_ble_eq_true rfl, Nat.le_of_ble_eq_true rfl⟩) ⟨bP.blind, va_recv hG.1 hP (ci := 3) (q0 := k) rfl (wl_at (by omega) hhe), fun U hU hW => ⟨rfl, by rw [hU]; exact hP, kG.warm hW hG⟩⟩ rfl rfl hl.1 rfl (lv_room (Nat.le_of_ble_eq_true rfl)) dX1_hear_127 ⟨Nat.le_of_ble_eq_true rfl, Nat.le_of_ble_eq_true rfl⟩) hS (fun f_3 H locs hq9 hP hS => ?_)
  obtain ⟨hq_3_0, o_3⟩ := hq9
  have hhe : f_3 k = eO 3 [.ref (g (k + 1)), .int (nI (min q8 (cnt box 30))), .int (lotF (ct (70 * w + 7)) (min q8 (cnt box 30))), .int box, .int (drC box (ct (70 * w + 7)) (min q8 (cnt box 30))), .int ((drC box (ct (70 * w + 7)) (min q8 (cnt box 30))) &&& ct (70 * w + 9)), .int ((stX (fun sd lf => lkP (drP box (ct (70 * w + 7))) (fun p => ct (70 * w + (30 * sd + p + 10))) lf (min q8 (cnt box 30))) (drC box (ct (70 * w + 7)) (min q8 (cnt box 30))) ((drC box (ct (70 * w + 7)) (min q8 (cnt box 30))) &&& ct (70 * w + 9)) (2 * q6)).1), .int ((stX (fun sd lf => lkP (drP box (ct (70 * w + 7))) (fun p => ct (70 * w + (30 * sd + p + 10))) lf (min q8 (cnt box 30))) (drC box (ct (70 * w + 7)) (min q8 (cnt box 30))) ((drC box (ct (70 * w + 7)) (min q8 (cnt box 30))) &&& ct (70 * w + 9)) (2 * q6)).2), .int sx] := hq_3_0
  refine lv_aload_n hx hb dX1_hear_130 rfl (lv_at hl 8 rfl) ?_
  refine lv_aload hx hb dX1_hear_131 (lv_at hl 5 rfl) ?_
  refine lv_iload_n hx hb dX1_hear_133 rfl (lv_at hl 7 rfl) ?_
  refine lv_iconst (v := 2) hx hb dX1_hear_134 (by decide) ?_
  replace htr := ((o_3 45 (by first | decide | omega))).trans htr
  replace hct := ((o_3 46 (by first | decide | omega))).trans hct
  refine rd_calli (va_runV (As := [.int (nI w), .int 2]) (rest := [.ref (g k)]) ⟨hx, hb, hml, hown, hts⟩ (r_at l G g hg f_3 45 10 70 nt ct (nI w) 2 htr hct (by first | assumption | omega | decide) (by first | assumption | omega | decide) (by first | assumption | omega | decide) (by first | assumption | omega | decide)) (my_cwV hts ok_X5_at w_389 rfl rfl ⟨Nat.le_of_ble_eq_true rfl, Nat.le_of_ble_eq_true rfl⟩) ⟨bP.blind, va_recv hG.1 hP (ci := 5) (q0 := 45) rfl (wl_at (by decide) htr), fun U hU hW => ⟨rfl, by rw [hU]; exact hP, kG.warm hW hG⟩⟩ rfl rfl hl.1 rfl (lv_room (Nat.le_of_ble_eq_true rfl)) dX1_hear_135 ⟨Nat.le_of_ble_eq_true rfl, Nat.le_of_ble_eq_true rfl⟩) (fun r hr9 => ?_)
  subst hr9
  refine my_bei (v := nI ks) ((atQ (d := ct) (w := 70) (i := w) (c := 2) hw (by omega) (by omega) (by omega)).trans hq2) ?_
  refine lv_iload hx hb dX1_hear_138 (lv_at hl 2 rfl) ?_
  refine lv_aload_n hx hb dX1_hear_140 rfl (lv_at hl 8 rfl) ?_
  refine va_getN (D := G.1) (ci := 3) (v := .int box) (C := RX3) (T := TX3) (N := 9) (host := RX10) hx hb hts inlX3 hown hG.1 hP k (wl_at (by omega) hhe) rfl 3 (by decide) (va_Nw.use rfl (hG.2.1 (.fieldLinkNest RX1 96 RX3 "inBox" "I" RX10) (List.mem_of_getElem? (i := 12) rfl))) (fun _ h9 => h9) rfl dX1_hear_141 ?_
  refine lv_iconst (v := (-1)) hx hb dX1_hear_144 (by decide) ?_
  refine lv_ixor hx hb dX1_hear_145 ?_
  refine lv_iand hx hb dX1_hear_146 ?_
  refine my_bei (v := pasV fit box) (rfl) ?_
  replace hod0 : f_3 (k + 1) = eI G 24 od93 := ((o_3 (k + 1) (by omega))).trans hod0
  refine b_callv (va_runV (As := [.int (nI ks), .int (pasV fit box)]) (rest := []) ⟨hx, hb, hml, hown, hts⟩ (h_seatE l G g hg f_3 k (min q8 (cnt box 30)) (lotF (ct (70 * w + 7)) (min q8 (cnt box 30))) box (drC box (ct (70 * w + 7)) (min q8 (cnt box 30))) ((drC box (ct (70 * w + 7)) (min q8 (cnt box 30))) &&& ct (70 * w + 9)) ((stX (fun sd lf => lkP (drP box (ct (70 * w + 7))) (fun p => ct (70 * w + (30 * sd + p + 10))) lf (min q8 (cnt box 30))) (drC box (ct (70 * w + 7)) (min q8 (cnt box 30))) ((drC box (ct (70 * w + 7)) (min q8 (cnt box 30))) &&& ct (70 * w + 9)) (2 * q6)).1) ((stX (fun sd lf => lkP (drP box (ct (70 * w + 7))) (fun p => ct (70 * w + (30 * sd + p + 10))) lf (min q8 (cnt box 30))) (drC box (ct (70 * w + 7)) (min q8 (cnt box 30))) ((drC box (ct (70 * w + 7)) (min q8 (cnt box 30))) &&& ct (70 * w + 9)) (2 * q6)).2) sx od93 (drP box (ct (70 * w + 7))) ks (pasV fit box) hhe hod0 (by first | assumption | omega | decide) (by first | assumption | omega | decide) (hod9) (hks) (fun i j h1 h2 => dr_inj h1 (by omega)) (pas_lf (by omega))) (my_cwV hts ok_X3_seat w_511 rfl rfl ⟨Nat.le_of_ble_eq_true rfl, Nat.le_of_ble_eq_true rfl⟩) ⟨bP.blind, va_recv hG.1 hP (ci := 3) (q0 := k) rfl (wl_at (by omega) hhe), fun U hU hW => ⟨rfl, by rw [hU]; exact hP, kG.warm hW hG⟩⟩ rfl rfl hl.1 rfl (lv_room (Nat.le_of_ble_eq_true rfl)) dX1_hear_147 ⟨Nat.le_of_ble_eq_true rfl, Nat.le_of_ble_eq_true rfl⟩) hS (fun f_4 H locs hq9 hP hS => ?_)
  obtain ⟨hq_4_0, o_4⟩ := hq9
  have hhe : f_4 k = eO 3 [.ref (g (k + 1)), .int (nI (min q8 (cnt box 30))), .int (lotF (ct (70 * w + 7)) (min q8 (cnt box 30))), .int box, .int (drC box (ct (70 * w + 7)) (min q8 (cnt box 30))), .int ((drC box (ct (70 * w + 7)) (min q8 (cnt box 30))) &&& ct (70 * w + 9)), .int ((stX (fun sd lf => lkP (drP box (ct (70 * w + 7))) (fun p => ct (70 * w + (30 * sd + p + 10))) lf (min q8 (cnt box 30))) (drC box (ct (70 * w + 7)) (min q8 (cnt box 30))) ((drC box (ct (70 * w + 7)) (min q8 (cnt box 30))) &&& ct (70 * w + 9)) (2 * q6)).1), .int ((stX (fun sd lf => lkP (drP box (ct (70 * w + 7))) (fun p => ct (70 * w + (30 * sd + p + 10))) lf (min q8 (cnt box 30))) (drC box (ct (70 * w + 7)) (min q8 (cnt box 30))) ((drC box (ct (70 * w + 7)) (min q8 (cnt box 30))) &&& ct (70 * w + 9)) (2 * q6)).2), .int (if (paF (pasV fit box) ks (seF (drP box (ct (70 * w + 7))) (lfV (drC box (ct (70 * w + 7)) (min q8 (cnt box 30))) ((drC box (ct (70 * w + 7)) (min q8 (cnt box 30))) &&& ct (70 * w + 9)) (((stX (fun sd lf => lkP (drP box (ct (70 * w + 7))) (fun p => ct (70 * w + (30 * sd + p + 10))) lf (min q8 (cnt box 30))) (drC box (ct (70 * w + 7)) (min q8 (cnt box 30))) ((drC box (ct (70 * w + 7)) (min q8 (cnt box 30))) &&& ct (70 * w + 9)) (2 * q6)).1), ((stX (fun sd lf => lkP (drP box (ct (70 * w + 7))) (fun p => ct (70 * w + (30 * sd + p + 10))) lf (min q8 (cnt box 30))) (drC box (ct (70 * w + 7)) (min q8 (cnt box 30))) ((drC box (ct (70 * w + 7)) (min q8 (cnt box 30))) &&& ct (70 * w + 9)) (2 * q6)).2))) ks (min q8 (cnt box 30))) 30).2 < ks then 0 else (paF (pasV fit box) ks (seF (drP box (ct (70 * w + 7))) (lfV (drC box (ct (70 * w + 7)) (min q8 (cnt box 30))) ((drC box (ct (70 * w + 7)) (min q8 (cnt box 30))) &&& ct (70 * w + 9)) (((stX (fun sd lf => lkP (drP box (ct (70 * w + 7))) (fun p => ct (70 * w + (30 * sd + p + 10))) lf (min q8 (cnt box 30))) (drC box (ct (70 * w + 7)) (min q8 (cnt box 30))) ((drC box (ct (70 * w + 7)) (min q8 (cnt box 30))) &&& ct (70 * w + 9)) (2 * q6)).1), ((stX (fun sd lf => lkP (drP box (ct (70 * w + 7))) (fun p => ct (70 * w + (30 * sd + p + 10))) lf (min q8 (cnt box 30))) (drC box (ct (70 * w + 7)) (min q8 (cnt box 30))) ((drC box (ct (70 * w + 7)) (min q8 (cnt box 30))) &&& ct (70 * w + 9)) (2 * q6)).2))) ks (min q8 (cnt box 30))) 30).1)] := hq_4_0
  replace hvl := ((o_4 15 (by first | decide | omega)).trans ((o_3 15 (by first | decide | omega)).trans ((o_2 15 (by first | decide | omega))))).trans hvl
  replace hod0 : f_4 (k + 1) = eI G 24 od93 := ((o_4 (k + 1) (by omega))).trans hod0
  refine W_q9 hQ9 ?_
  exact W.vret hx hb hr (fun _ hT9 _ => ⟨⟨f_4, rfl, (⟨vv92, hvl, okQ_mk (R := (fun c => ct (70 * w + c))) hq8 hq88 hq6 hq64 hq2 hks hhe hod0 (fun i hi => (hod9 i hi).1), fun j hj => ((((o_4 j (by omega))).trans (o_3 j (by omega))).trans (o_2 j (by omega))).trans (o_1 j (by omega))⟩), by rw [hT9]; exact hP⟩, hS.F hT9⟩) hS.2.2 dX1_hear_150
set_option maxHeartbeats 4000000 in
set_option maxRecDepth 100000 in
theorem u_hearE11 (l : Launch) (G : gW) (g : Nat → Nat) (hg : gOK g) (f : Nat → va_E) (se : Nat) (hf : Nat → Option Nat) (pay : Int32) (fine : Int32) (nt : Nat) (ct : Nat → Int32) (np : Nat) (dp : Nat → Int32) (nf : Nat) (df : Nat → Int32) (nr : Nat) (dr : Nat → Int32) (k : Nat) (sl : Nat) (lo : Int32) (ib : Int32) (ca : Int32) (mi : Int32) (s0 : Int32) (s1 : Int32) (sx : Int32) (od : Nat → Int32) (vv : Nat → Int64) (sw : Nat → Int32) (w : Nat) (q8 : Nat) (q6 : Nat) (ks : Nat) (fit : Int32) (box : Int32) (k1 : Nat) (ln1 : Nat) (sc1 : Nat) (sp1 : Nat → Int32) (l1 : List (Int32 × Int32)) (k2 : Nat) (ln2 : Nat) (sc2 : Nat) (sp2 : Nat → Int32) (l2 : List (Int32 × Int32)) (hctc : f 1 = eO 1 [.ref (g 36), .ref (g 12), .ref (g 13), .ref (g 15), .int (nI se)]) (hhs : f 12 = eA G 4 10 hf) (hbk : f 36 = eO 0 [.ref (g 37), .ref (g 39), .ref (g 41), .ref (g 43), .ref (g 45), .ref (g 47), .ref (g 112), .int pay, .int fine]) (htr : f 45 = eO 5 [.int (nI 10), .int (nI 70), .ref (g 46), .int (nI nt)]) (hct : f 46 = eI G (10 * 70) ct) (hpr : f 37 = eO 5 [.int (nI 30), .int (nI 4), .ref (g 38), .int (nI np)]) (hpd : f 38 = eI G (30 * 4) dp) (hfr : f 39 = eO 5 [.int (nI 40), .int (nI 3), .ref (g 40), .int (nI nf)]) (hfd : f 40 = eI G (40 * 3) df) (hor : f 41 = eO 5 [.int (nI 4), .int (nI 3), .ref (g 42), .int (nI nr)]) (hod : f 42 = eI G (4 * 3) dr) (hvl : f 15 = eJ G 50 vv) (hhe : f k = eO 3 [.ref (g (k + 1)), .int (nI sl), .int lo, .int ib, .int ca, .int mi, .int s0, .int s1, .int sx]) (hod0 : f (k + 1) = eI G 24 od) (htx1 : f k1 = eO 7 [.ref (g (k1 + 1)), .ref (g (k1 + 2)), .int (nI ln1), .int (nI sc1)]) (hpx1 : f (k1 + 2) = eI G 50 sp1) (htx2 : f k2 = eO 7 [.ref (g (k2 + 1)), .ref (g (k2 + 2)), .int (nI ln2), .int (nI sc2)]) (hpx2 : f (k2 + 2) = eI G 50 sp2) (hse : se ≤ 10) (hhf : ∀ i, i < 10 → hf i = some (g (2 * i + 16))) (hnt : nt ≤ 10) (hnp : np ≤ 30) (hnf : nf ≤ 40) (hnr : nr ≤ 4) (hk3 : k + 1 < 36) (hk13 : 13 ≤ k) (hk15 : k ≠ 14 ∧ k ≠ 15) (hsl : sl ≤ 24) (hw : w < nt) (hq8 : ct (70 * w + 8) = nI q8) (hq88 : q8 ≤ 24) (hq6 : ct (70 * w + 6) = nI q6) (hq64 : q6 ≤ 4) (hq2 : ct (70 * w + 2) = nI ks) (hks : ks ≤ 8) (hk31 : k1 + 2 < 333) (hkt1 : 36 ≤ k1) (hln1 : ln1 ≤ 50) (hsc1 : sc1 ≤ 50) (hls1 : stk sp1 sc1 = l1.map cdp) (hlen1 : l1.length = sc1) (hdl1 : dpl l1 = some 1) (hol1 : okO l1) (hk32 : k2 + 2 < 333) (hkt2 : 36 ≤ k2) (hln2 : ln2 ≤ 50) (hsc2 : sc2 ≤ 50) (hls2 : stk sp2 sc2 = l2.map cdp) (hlen2 : l2.length = sc2) (hdl2 : dpl l2 = some 1) (hol2 : okO l2) (hfit : fitV np (nvF (fun i c => dp (4 * i + c)) (fun t c => ct (70 * t + c)) sw (ct (70 * w + 0)) nt) (knV (fun i c => df (3 * i + c)) (ct (70 * w + 3)) (ct (70 * w + 4)) (ct (70 * w + 0)) nf) (bzV (fun t c => ct (70 * t + c)) sw w w) (some l1) = fit) (hbox : boxV np (nvF (fun i c => dp (4 * i + c)) (fun t c => ct (70 * t + c)) sw (ct (70 * w + 0)) nt) fit (rlV np nr (fun i c => dr (3 * i + c)) (ct (70 * w + 0))) (trdV np (fun i c => dp (4 * i + c)) (ct (70 * w + 5))) (some l2) = box) (hb30 : ∀ j, 30 ≤ j → bt box j = false) (hZ : ∀ i, i < 10 → okZ G g f (2 * i + 16) (sw i)) : Met l yX1_hear (wsT yX1_hear cX1_hear 11 none) ({ frames := 5, cells := 0, slots := 0, locals := 124 }) (bP G g f [.ref (g 1), .int (nI w), .ref (g k), .ref (g k1), .ref (g k2)]) (bQv G g (fun (f' : Nat → va_E) => ∃ vv9 : Nat → Int64, f' 15 = eJ G 50 vv9 ∧ (okQ G g f' k box (pasV fit box) (fun c => ct (70 * w + c))) ∧ ∀ j, (j ≠ 15 ∧ j ≠ k ∧ j ≠ k + 1) → f' j = f j)) 0 0 (gA g) := by
  refine Met.ofW (cc := cX1_hear) (maxL := 11) (ret := none) (by decide) rfl ?_
  intro p e s m args below meth c s₁ B hml hv
  obtain ⟨rfl, hP, hG⟩ := hv
  have hx := B.exec
  have hb := B.bytes
  have hr := B.returns
  have hts := my_hts (atoms_spec (ws := wsT yX1_hear cX1_hear 11 none) B.pre)
  have hown : s.vm.findClass RX1 = some m.cls := findClass_of_methodNamed B.named
  have hlocks := B.notSynchronized
  have hS : va_S (gA g) s.heap s.heap [] := va_S.rf
  have hl := lv_entry ([.ref (g 1), .int (nI w), .ref (g k), .ref (g k1), .ref (g k2)]) (n := 11) (Nat.le_of_ble_eq_true rfl)
  rw [lg_entry_eq]
  generalize (lg_sl ([.ref (g 1), .int (nI w), .ref (g k), .ref (g k1), .ref (g k2)]) ++ List.replicate (11 - (lg_sl ([.ref (g 1), .int (nI w), .ref (g k), .ref (g k1), .ref (g k2)])).length) Slot.unset).toArray = ls at hl ⊢
  have hl : lv_has ls 11 [(0, .ref (g 1)), (1, .int (nI w)), (2, .ref (g k)), (3, .ref (g k1)), (4, .ref (g k2))] := hl
  refine W_q8 (fun Q9 hQ9 => ?_)
  refine lv_aload_n hx hb dX1_hear_0 rfl (lv_at hl 0 rfl) ?_
  refine va_get (D := G.1) (ci := 1) (v := .ref (g 36)) (C := RX1) (T := TX1) (N := 5) hx hb hts inlX1 hown hG.1 hP 1 (wl_at (by decide) hctc) rfl 0 (by decide) (hts (.fieldLink RX1 12 "SwornLists$Court" "book" "LSwornLists$Book;") w_40) (fun _ h9 => h9) rfl dX1_hear_1 ?_
  refine va_getN (D := G.1) (ci := 0) (v := .ref (g 45)) (C := RX0) (T := TX0) (N := 9) (host := RX10) hx hb hts inlX0 hown hG.1 hP 36 (wl_at (by decide) hbk) rfl 4 (by decide) (va_Nw.use rfl (hG.2.1 (.fieldLinkNest RX1 43 RX0 "trials" "LSwornLists$Rows;" RX10) (List.mem_of_getElem? (i := 6) rfl))) (fun _ h9 => h9) rfl dX1_hear_4 ?_
  refine lv_astore (lv' := [(5, .ref (g 45)), (0, .ref (g 1)), (1, .int (nI w)), (2, .ref (g k)), (3, .ref (g k1)), (4, .ref (g k2))]) hx hb dX1_hear_7 hl (by decide) rfl (fun ls hl => ?_)
  refine lv_aload hx hb dX1_hear_9 (lv_at hl 0 rfl) ?_
  refine lv_iload_n hx hb dX1_hear_11 rfl (lv_at hl 2 rfl) ?_
  refine lv_iconst (v := 0) hx hb dX1_hear_12 (by decide) ?_
  refine rd_calli (va_runV (As := [.int (nI w), .int 0]) (rest := []) ⟨hx, hb, hml, hown, hts⟩ (r_at l G g hg f 45 10 70 nt ct (nI w) 0 htr hct (by first | assumption | omega | decide) (by first | assumption | omega | decide) (by first | assumption | omega | decide) (by first | assumption | omega | decide)) (my_cwV hts ok_X5_at w_389 rfl rfl ⟨Nat.le_of_ble_eq_true rfl, Nat.le_of_ble_eq_true rfl⟩) ⟨bP.blind, va_recv hG.1 hP (ci := 5) (q0 := 45) rfl (wl_at (by decide) htr), fun U hU hW => ⟨rfl, by rw [hU]; exact hP, kG.warm hW hG⟩⟩ rfl rfl hl.1 rfl (lv_room (Nat.le_of_ble_eq_true rfl)) dX1_hear_13 ⟨Nat.le_of_ble_eq_true rfl, Nat.le_of_ble_eq_true rfl⟩) (fun r hr9 => ?_)
  subst hr9
  refine my_bei (v := ct (70 * w + 0)) (atQ (d := ct) (w := 70) (i := w) (c := 0) hw (by omega) (by omega) (by omega)) ?_
  refine lv_istore (lv' := [(6, .int (ct (70 * w + 0))), (5, .ref (g 45)), (0, .ref (g 1)), (1, .int (nI w)), (2, .ref (g k)), (3, .ref (g k1)), (4, .ref (g k2))]) hx hb dX1_hear_16 hl (by decide) rfl (fun ls hl => ?_)
  refine lv_aload_n hx hb dX1_hear_18 rfl (lv_at hl 2 rfl) ?_
  refine va_get (D := G.1) (ci := 1) (v := .ref (g 36)) (C := RX1) (T := TX1) (N := 5) hx hb hts inlX1 hown hG.1 hP 1 (wl_at (by decide) hctc) rfl 0 (by decide) (hts (.fieldLink RX1 12 "SwornLists$Court" "book" "LSwornLists$Book;") w_40) (fun _ h9 => h9) rfl dX1_hear_19 ?_
  refine rd_calli (va_runV (As := []) (rest := []) ⟨hx, hb, hml, hown, hts⟩ (k_everyoneE l G g hg f pay fine np dp hbk hpr hpd (by first | assumption | omega | decide)) (my_cwV hts ok_X0_everyone w_407 rfl rfl ⟨Nat.le_of_ble_eq_true rfl, Nat.le_of_ble_eq_true rfl⟩) ⟨bP.blind, va_recv hG.1 hP (ci := 0) (q0 := 36) rfl (wl_at (by decide) hbk), fun U hU hW => ⟨rfl, by rw [hU]; exact hP, kG.warm hW hG⟩⟩ rfl rfl hl.1 rfl (lv_room (Nat.le_of_ble_eq_true rfl)) dX1_hear_22 ⟨Nat.le_of_ble_eq_true rfl, Nat.le_of_ble_eq_true rfl⟩) (fun r hr9 => ?_)
  subst hr9
  refine lv_aload_n hx hb dX1_hear_25 rfl (lv_at hl 2 rfl) ?_
  refine va_get (D := G.1) (ci := 1) (v := .ref (g 36)) (C := RX1) (T := TX1) (N := 5) hx hb hts inlX1 hown hG.1 hP 1 (wl_at (by decide) hctc) rfl 0 (by decide) (hts (.fieldLink RX1 12 "SwornLists$Court" "book" "LSwornLists$Book;") w_40) (fun _ h9 => h9) rfl dX1_hear_26 ?_
  refine lv_iload_n hx hb dX1_hear_29 rfl (lv_at hl 3 rfl) ?_
  refine lv_iload hx hb dX1_hear_30 (lv_at hl 0 rfl) ?_
  refine rd_calli (va_runV (As := [.int (nI w), .int (ct (70 * w + 0))]) (rest := [.int ((1 <<< (nI np &&& 31)) - 1)]) ⟨hx, hb, hml, hown, hts⟩ (k_kinOfSidesE l G g hg f pay fine nf df nt ct w (ct (70 * w + 0)) hbk hfr hfd htr hct (by first | assumption | omega | decide) (by first | assumption | omega | decide) (by first | assumption | omega | decide)) (my_cwV hts ok_X0_kinOfSides w_408 rfl rfl ⟨Nat.le_of_ble_eq_true rfl, Nat.le_of_ble_eq_true rfl⟩) ⟨bP.blind, va_recv hG.1 hP (ci := 0) (q0 := 36) rfl (wl_at (by decide) hbk), fun U hU hW => ⟨rfl, by rw [hU]; exact hP, kG.warm hW hG⟩⟩ rfl rfl hl.1 rfl (lv_room (Nat.le_of_ble_eq_true rfl)) dX1_hear_32 ⟨Nat.le_of_ble_eq_true rfl, Nat.le_of_ble_eq_true rfl⟩) (fun r hr9 => ?_)
  subst hr9
  refine lv_iconst (v := (-1)) hx hb dX1_hear_35 (by decide) ?_
  refine lv_ixor hx hb dX1_hear_36 ?_
  refine lv_iand hx hb dX1_hear_37 ?_
  refine lv_aload_n hx hb dX1_hear_38 rfl (lv_at hl 2 rfl) ?_
  refine lv_iload_n hx hb dX1_hear_39 rfl (lv_at hl 3 rfl) ?_
  refine rd_calli (va_runV (As := [.int (nI w)]) (rest := [.int (((1 <<< (nI np &&& 31)) - 1) &&& ((knV (fun i c => df (3 * i + c)) (ct (70 * w + 3)) (ct (70 * w + 4)) (ct (70 * w + 0)) nf) ^^^ (-1)))]) ⟨hx, hb, hml, hown, hts⟩ (u_busyE l G g hg f se hf pay fine nt ct sw w hctc hhs hbk htr hct (by first | assumption | omega | decide) (by first | assumption | omega | decide) (by first | assumption | omega | decide) (by first | assumption | omega | decide) (by first | assumption | omega | decide)) (my_cwV hts ok_X1_busy w_412 rfl rfl ⟨Nat.le_of_ble_eq_true rfl, Nat.le_of_ble_eq_true rfl⟩) ⟨bP.blind, va_recv hG.1 hP (ci := 1) (q0 := 1) rfl (wl_at (by decide) hctc), fun U hU hW => ⟨rfl, by rw [hU]; exact hP, kG.warm hW hG⟩⟩ rfl rfl hl.1 rfl (lv_room (Nat.le_of_ble_eq_true rfl)) dX1_hear_40 ⟨Nat.le_of_ble_eq_true rfl, Nat.le_of_ble_eq_true rfl⟩) (fun r hr9 => ?_)
  subst hr9
  refine lv_iconst (v := (-1)) hx hb dX1_hear_43 (by decide) ?_
  refine lv_ixor hx hb dX1_hear_44 ?_
  refine lv_iand hx hb dX1_hear_45 ?_
  refine my_bei (v := clV np (knV (fun i c => df (3 * i + c)) (ct (70 * w + 3)) (ct (70 * w + 4)) (ct (70 * w + 0)) nf) (bzV (fun t c => ct (70 * t + c)) sw w w)) (rfl) ?_
  refine lv_istore (lv' := [(7, .int (clV np (knV (fun i c => df (3 * i + c)) (ct (70 * w + 3)) (ct (70 * w + 4)) (ct (70 * w + 0)) nf) (bzV (fun t c => ct (70 * t + c)) sw w w))), (6, .int (ct (70 * w + 0))), (5, .ref (g 45)), (0, .ref (g 1)), (1, .int (nI w)), (2, .ref (g k)), (3, .ref (g k1)), (4, .ref (g k2))]) hx hb dX1_hear_46 hl (by decide) rfl (fun ls hl => ?_)
  refine lv_aload_n hx hb dX1_hear_48 rfl (lv_at hl 3 rfl) ?_
  refine lv_aload_n hx hb dX1_hear_49 rfl (lv_at hl 6 rfl) ?_
  refine lv_iconst (v := 0) hx hb dX1_hear_50 (by decide) ?_
  refine lv_iload hx hb dX1_hear_51 (lv_at hl 1 rfl) ?_
  refine lv_iload hx hb dX1_hear_53 (lv_at hl 0 rfl) ?_
  refine b_calli (va_runV (As := [.ref (g k1), .int 0, .int (ct (70 * w + 0)), .int (clV np (knV (fun i c => df (3 * i + c)) (ct (70 * w + 3)) (ct (70 * w + 4)) (ct (70 * w + 0)) nf) (bzV (fun t c => ct (70 * t + c)) sw w w))]) (rest := []) ⟨hx, hb, hml, hown, hts⟩ (u_truthsTE l G g hg f se hf pay fine nt ct np dp k1 ln1 sc1 sp1 vv sw l1 0 (ct (70 * w + 0)) (clV np (knV (fun i c => df (3 * i + c)) (ct (70 * w + 3)) (ct (70 * w + 4)) (ct (70 * w + 0)) nf) (bzV (fun t c => ct (70 * t + c)) sw w w)) hctc hhs hbk htr hct hpr hpd htx1 hpx1 hvl (by first | assumption | omega | decide) (by first | assumption | omega | decide) (by first | assumption | omega | decide) (by first | assumption | omega | decide) (by first | assumption | omega | decide) (by first | assumption | omega | decide) (by first | assumption | omega | decide) (by first | assumption | omega | decide) (hls1) (hlen1) (hdl1) (hol1) (by first | assumption | omega | decide)) (my_cwV hts ok_X1_truths w_424 rfl rfl ⟨Nat.le_of_ble_eq_true rfl, Nat.le_of_ble_eq_true rfl⟩) ⟨bP.blind, va_recv hG.1 hP (ci := 1) (q0 := 1) rfl (wl_at (by decide) hctc), fun U hU hW => ⟨rfl, by rw [hU]; exact hP, kG.warm hW hG⟩⟩ rfl rfl hl.1 rfl (lv_room (Nat.le_of_ble_eq_true rfl)) dX1_hear_55 ⟨Nat.le_of_ble_eq_true rfl, Nat.le_of_ble_eq_true rfl⟩) hS (fun v1 f_1 H locs hq9 hP hS => ?_)
  obtain ⟨vv92, rfl, hq_1_0, o_1⟩ := hq9
  have hvl : f_1 15 = eJ G 50 vv92 := hq_1_0
  refine my_bei (v := fit) (hfit) ?_
  refine lv_istore (lv' := [(8, .int fit), (7, .int (clV np (knV (fun i c => df (3 * i + c)) (ct (70 * w + 3)) (ct (70 * w + 4)) (ct (70 * w + 0)) nf) (bzV (fun t c => ct (70 * t + c)) sw w w))), (6, .int (ct (70 * w + 0))), (5, .ref (g 45)), (0, .ref (g 1)), (1, .int (nI w)), (2, .ref (g k)), (3, .ref (g k1)), (4, .ref (g k2))]) hx hb dX1_hear_58 hl (by decide) rfl (fun ls hl => ?_)
  refine lv_iload hx hb dX1_hear_60 (lv_at hl 0 rfl) ?_
  refine lv_aload_n hx hb dX1_hear_62 rfl (lv_at hl 4 rfl) ?_
  replace hctc := ((o_1 1 (by first | decide | omega))).trans hctc
  refine va_get (D := G.1) (ci := 1) (v := .ref (g 36)) (C := RX1) (T := TX1) (N := 5) hx hb hts inlX1 hown hG.1 hP 1 (wl_at (by decide) hctc) rfl 0 (by decide) (hts (.fieldLink RX1 12 "SwornLists$Court" "book" "LSwornLists$Book;") w_40) (fun _ h9 => h9) rfl dX1_hear_63 ?_
  refine lv_iload hx hb dX1_hear_66 (lv_at hl 2 rfl) ?_
  replace hbk := ((o_1 36 (by first | decide | omega))).trans hbk
  replace hpr := ((o_1 37 (by first | decide | omega))).trans hpr
  replace hpd := ((o_1 38 (by first | decide | omega))).trans hpd
  replace hor := ((o_1 41 (by first | decide | omega))).trans hor
  replace hod := ((o_1 42 (by first | decide | omega))).trans hod
  refine rd_calli (va_runV (As := [.int (ct (70 * w + 0))]) (rest := [.int fit]) ⟨hx, hb, hml, hown, hts⟩ (k_listedOnE l G g hg f_1 pay fine np dp nr dr (ct (70 * w + 0)) hbk hpr hpd hor hod (by first | assumption | omega | decide) (by first | assumption | omega | decide)) (my_cwV hts ok_X0_listedOn w_464 rfl rfl ⟨Nat.le_of_ble_eq_true rfl, Nat.le_of_ble_eq_true rfl⟩) ⟨bP.blind, va_recv hG.1 hP (ci := 0) (q0 := 36) rfl (wl_at (by decide) hbk), fun U hU hW => ⟨rfl, by rw [hU]; exact hP, kG.warm hW hG⟩⟩ rfl rfl hl.1 rfl (lv_room (Nat.le_of_ble_eq_true rfl)) dX1_hear_68 ⟨Nat.le_of_ble_eq_true rfl, Nat.le_of_ble_eq_true rfl⟩) (fun r hr9 => ?_)
  subst hr9
  refine lv_iand hx hb dX1_hear_71 ?_
  refine lv_aload_n hx hb dX1_hear_72 rfl (lv_at hl 4 rfl) ?_
  refine va_get (D := G.1) (ci := 1) (v := .ref (g 36)) (C := RX1) (T := TX1) (N := 5) hx hb hts inlX1 hown hG.1 hP 1 (wl_at (by decide) hctc) rfl 0 (by decide) (hts (.fieldLink RX1 12 "SwornLists$Court" "book" "LSwornLists$Book;") w_40) (fun _ h9 => h9) rfl dX1_hear_73 ?_
  refine lv_iload_n hx hb dX1_hear_76 rfl (lv_at hl 5 rfl) ?_
  replace htr := ((o_1 45 (by first | decide | omega))).trans htr
  replace hct := ((o_1 46 (by first | decide | omega))).trans hct
  refine rd_calli (va_runV (As := [.int (nI w)]) (rest := [.int (fit &&& (rlV np nr (fun i c => dr (3 * i + c)) (ct (70 * w + 0))))]) ⟨hx, hb, hml, hown, hts⟩ (k_ofTradeWantedE l G g hg f_1 pay fine np dp nt ct w hbk hpr hpd htr hct (by first | assumption | omega | decide) (by first | assumption | omega | decide) (by first | assumption | omega | decide)) (my_cwV hts ok_X0_ofTradeWanted w_465 rfl rfl ⟨Nat.le_of_ble_eq_true rfl, Nat.le_of_ble_eq_true rfl⟩) ⟨bP.blind, va_recv hG.1 hP (ci := 0) (q0 := 36) rfl (wl_at (by decide) hbk), fun U hU hW => ⟨rfl, by rw [hU]; exact hP, kG.warm hW hG⟩⟩ rfl rfl hl.1 rfl (lv_room (Nat.le_of_ble_eq_true rfl)) dX1_hear_77 ⟨Nat.le_of_ble_eq_true rfl, Nat.le_of_ble_eq_true rfl⟩) (fun r hr9 => ?_)
  subst hr9
  refine my_bei (v := (trdV np (fun i c => dp (4 * i + c)) (ct (70 * w + 5)))) (rfl) ?_
  refine lv_iand hx hb dX1_hear_80 ?_
  refine my_bei (v := liV fit (rlV np nr (fun i c => dr (3 * i + c)) (ct (70 * w + 0))) (trdV np (fun i c => dp (4 * i + c)) (ct (70 * w + 5)))) (rfl) ?_
  refine lv_istore (lv' := [(9, .int (liV fit (rlV np nr (fun i c => dr (3 * i + c)) (ct (70 * w + 0))) (trdV np (fun i c => dp (4 * i + c)) (ct (70 * w + 5))))), (8, .int fit), (7, .int (clV np (knV (fun i c => df (3 * i + c)) (ct (70 * w + 3)) (ct (70 * w + 4)) (ct (70 * w + 0)) nf) (bzV (fun t c => ct (70 * t + c)) sw w w))), (6, .int (ct (70 * w + 0))), (5, .ref (g 45)), (0, .ref (g 1)), (1, .int (nI w)), (2, .ref (g k)), (3, .ref (g k1)), (4, .ref (g k2))]) hx hb dX1_hear_81 hl (by decide) rfl (fun ls hl => ?_)
  refine lv_aload_n hx hb dX1_hear_83 rfl (lv_at hl 5 rfl) ?_
  refine lv_aload hx hb dX1_hear_84 (lv_at hl 9 rfl) ?_
  refine lv_iconst (v := 1) hx hb dX1_hear_86 (by decide) ?_
  refine lv_iload hx hb dX1_hear_87 (lv_at hl 3 rfl) ?_
  refine lv_iload hx hb dX1_hear_89 (lv_at hl 0 rfl) ?_
  replace hhs := ((o_1 12 (by first | decide | omega))).trans hhs
  replace htx2 : f_1 k2 = eO 7 [.ref (g (k2 + 1)), .ref (g (k2 + 2)), .int (nI ln2), .int (nI sc2)] := ((o_1 k2 (by omega))).trans htx2
  replace hpx2 : f_1 (k2 + 2) = eI G 50 sp2 := ((o_1 (k2 + 2) (by omega))).trans hpx2
  replace hZ : ∀ i, i < 10 → okZ G g f_1 (2 * i + 16) (sw i) := fun z hz => okZ_fr (hZ z hz) (o_1 _ (by omega)) (o_1 _ (by omega))
  refine b_calli (va_runV (As := [.ref (g k2), .int 1, .int (ct (70 * w + 0)), .int (liV fit (rlV np nr (fun i c => dr (3 * i + c)) (ct (70 * w + 0))) (trdV np (fun i c => dp (4 * i + c)) (ct (70 * w + 5))))]) (rest := []) ⟨hx, hb, hml, hown, hts⟩ (u_truthsTE l G g hg f_1 se hf pay fine nt ct np dp k2 ln2 sc2 sp2 vv92 sw l2 1 (ct (70 * w + 0)) (liV fit (rlV np nr (fun i c => dr (3 * i + c)) (ct (70 * w + 0))) (trdV np (fun i c => dp (4 * i + c)) (ct (70 * w + 5)))) hctc hhs hbk htr hct hpr hpd htx2 hpx2 hvl (by first | assumption | omega | decide) (by first | assumption | omega | decide) (by first | assumption | omega | decide) (by first | assumption | omega | decide) (by first | assumption | omega | decide) (by first | assumption | omega | decide) (by first | assumption | omega | decide) (by first | assumption | omega | decide) (hls2) (hlen2) (hdl2) (hol2) (by first | assumption | omega | decide)) (my_cwV hts ok_X1_truths w_424 rfl rfl ⟨Nat.le_of_ble_eq_true rfl, Nat.le_of_ble_eq_true rfl⟩) ⟨bP.blind, va_recv hG.1 hP (ci := 1) (q0 := 1) rfl (wl_at (by decide) hctc), fun U hU hW => ⟨rfl, by rw [hU]; exact hP, kG.warm hW hG⟩⟩ rfl rfl hl.1 rfl (lv_room (Nat.le_of_ble_eq_true rfl)) dX1_hear_91 ⟨Nat.le_of_ble_eq_true rfl, Nat.le_of_ble_eq_true rfl⟩) hS (fun v3 f_2 H locs hq9 hP hS => ?_)
  obtain ⟨vv94, rfl, hq_2_0, o_2⟩ := hq9
  have hvl : f_2 15 = eJ G 50 vv94 := hq_2_0
  refine my_bei (v := trV np (nvF (fun i c => dp (4 * i + c)) (fun t c => ct (70 * t + c)) sw (ct (70 * w + 0)) nt) 0 (liV fit (rlV np nr (fun i c => dr (3 * i + c)) (ct (70 * w + 0))) (trdV np (fun i c => dp (4 * i + c)) (ct (70 * w + 5)))) (some l2)) (rfl) ?_
  refine lv_istore (lv' := [(10, .int (trV np (nvF (fun i c => dp (4 * i + c)) (fun t c => ct (70 * t + c)) sw (ct (70 * w + 0)) nt) 0 (liV fit (rlV np nr (fun i c => dr (3 * i + c)) (ct (70 * w + 0))) (trdV np (fun i c => dp (4 * i + c)) (ct (70 * w + 5)))) (some l2))), (9, .int (liV fit (rlV np nr (fun i c => dr (3 * i + c)) (ct (70 * w + 0))) (trdV np (fun i c => dp (4 * i + c)) (ct (70 * w + 5))))), (8, .int fit), (7, .int (clV np (knV (fun i c => df (3 * i + c)) (ct (70 * w + 3)) (ct (70 * w + 4)) (ct (70 * w + 0)) nf) (bzV (fun t c => ct (70 * t + c)) sw w w))), (6, .int (ct (70 * w + 0))), (5, .ref (g 45)), (0, .ref (g 1)), (1, .int (nI w)), (2, .ref (g k)), (3, .ref (g k1)), (4, .ref (g k2))]) hx hb dX1_hear_94 hl (by decide) rfl (fun ls hl => ?_)
  refine lv_aload_n hx hb dX1_hear_96 rfl (lv_at hl 8 rfl) ?_
  refine lv_iload hx hb dX1_hear_97 (lv_at hl 1 rfl) ?_
  refine lv_iload hx hb dX1_hear_99 (lv_at hl 0 rfl) ?_
  refine lv_iconst (v := (-1)) hx hb dX1_hear_101 (by decide) ?_
  refine lv_ixor hx hb dX1_hear_102 ?_
  refine lv_iand hx hb dX1_hear_103 ?_
  refine my_bei (v := box) (hbox) ?_
  refine lv_aload hx hb dX1_hear_104 (lv_at hl 5 rfl) ?_
  refine lv_iload_n hx hb dX1_hear_106 rfl (lv_at hl 7 rfl) ?_
  refine lv_bipush (v := 7) hx hb dX1_hear_107 (by decide) ?_
  replace htr := ((o_2 45 (by first | decide | omega))).trans htr
  replace hct := ((o_2 46 (by first | decide | omega))).trans hct
  refine rd_calli (va_runV (As := [.int (nI w), .int 7]) (rest := [.int box, .ref (g k)]) ⟨hx, hb, hml, hown, hts⟩ (r_at l G g hg f_2 45 10 70 nt ct (nI w) 7 htr hct (by first | assumption | omega | decide) (by first | assumption | omega | decide) (by first | assumption | omega | decide) (by first | assumption | omega | decide)) (my_cwV hts ok_X5_at w_389 rfl rfl ⟨Nat.le_of_ble_eq_true rfl, Nat.le_of_ble_eq_true rfl⟩) ⟨bP.blind, va_recv hG.1 hP (ci := 5) (q0 := 45) rfl (wl_at (by decide) htr), fun U hU hW => ⟨rfl, by rw [hU]; exact hP, kG.warm hW hG⟩⟩ rfl rfl hl.1 rfl (lv_room (Nat.le_of_ble_eq_true rfl)) dX1_hear_109 ⟨Nat.le_of_ble_eq_true rfl, Nat.le_of_ble_eq_true rfl⟩) (fun r hr9 => ?_)
  subst hr9
  refine my_bei (v := ct (70 * w + 7)) (atQ (d := ct) (w := 70) (i := w) (c := 7) hw (by omega) (by omega) (by omega)) ?_
  refine lv_aload hx hb dX1_hear_112 (lv_at hl 5 rfl) ?_
  refine lv_iload_n hx hb dX1_hear_114 rfl (lv_at hl 7 rfl) ?_
  refine lv_bipush (v := 8) hx hb dX1_hear_115 (by decide) ?_
  refine rd_calli (va_runV (As := [.int (nI w), .int 8]) (rest := [.int (ct (70 * w + 7)), .int box, .ref (g k)]) ⟨hx, hb, hml, hown, hts⟩ (r_at l G g hg f_2 45 10 70 nt ct (nI w) 8 htr hct (by first | assumption | omega | decide) (by first | assumption | omega | decide) (by first | assumption | omega | decide) (by first | assumption | omega | decide)) (my_cwV hts ok_X5_at w_389 rfl rfl ⟨Nat.le_of_ble_eq_true rfl, Nat.le_of_ble_eq_true rfl⟩) ⟨bP.blind, va_recv hG.1 hP (ci := 5) (q0 := 45) rfl (wl_at (by decide) htr), fun U hU hW => ⟨rfl, by rw [hU]; exact hP, kG.warm hW hG⟩⟩ rfl rfl hl.1 rfl (lv_room (Nat.le_of_ble_eq_true rfl)) dX1_hear_117 ⟨Nat.le_of_ble_eq_true rfl, Nat.le_of_ble_eq_true rfl⟩) (fun r hr9 => ?_)
  subst hr9
  refine my_bei (v := nI q8) ((atQ (d := ct) (w := 70) (i := w) (c := 8) hw (by omega) (by omega) (by omega)).trans hq8) ?_
  replace hhe : f_2 k = eO 3 [.ref (g (k + 1)), .int (nI sl), .int lo, .int ib, .int ca, .int mi, .int s0, .int s1, .int sx] := ((o_2 k (by omega)).trans ((o_1 k (by omega)))).trans hhe
  replace hod0 : f_2 (k + 1) = eI G 24 od := ((o_2 (k + 1) (by omega)).trans ((o_1 (k + 1) (by omega)))).trans hod0
  replace hZ : ∀ i, i < 10 → okZ G g f_2 (2 * i + 16) (sw i) := fun z hz => okZ_fr (hZ z hz) (o_2 _ (by omega)) (o_2 _ (by omega))
  refine b_callv (va_runV (As := [.int box, .int (ct (70 * w + 7)), .int (nI q8)]) (rest := []) ⟨hx, hb, hml, hown, hts⟩ (h_drawE l G g hg f_2 k sl lo ib ca mi s0 s1 sx od box (ct (70 * w + 7)) q8 hhe hod0 (by first | assumption | omega | decide) (by first | assumption | omega | decide) (by first | assumption | omega | decide) (hb30)) (my_cwV hts ok_X3_draw w_473 rfl rfl ⟨Nat.le_of_ble_eq_true rfl, Nat.le_of_ble_eq_true rfl⟩) ⟨bP.blind, va_recv hG.1 hP (ci := 3) (q0 := k) rfl (wl_at (by omega) hhe), fun U hU hW => ⟨rfl, by rw [hU]; exact hP, kG.warm hW hG⟩⟩ rfl rfl hl.1 rfl (lv_room (Nat.le_of_ble_eq_true rfl)) dX1_hear_120 ⟨Nat.le_of_ble_eq_true rfl, Nat.le_of_ble_eq_true rfl⟩) hS (fun f_3 H locs hq9 hP hS => ?_)
  obtain ⟨od95, hq_3_0, hq_3_1, hx_3_0, o_3⟩ := hq9
  have hhe : f_3 k = eO 3 [.ref (g (k + 1)), .int (nI (min q8 (cnt box 30))), .int (lotF (ct (70 * w + 7)) (min q8 (cnt box 30))), .int box, .int (drC box (ct (70 * w + 7)) (min q8 (cnt box 30))), .int mi, .int s0, .int s1, .int sx] := hq_3_0
  have hod0 : f_3 (k + 1) = eI G 24 od95 := hq_3_1
  have hcl := cnt_le (x := box) 30
  have hod9 : ∀ i, i < min q8 (cnt box 30) → od95 i = nI ((drP box (ct (70 * w + 7))) i) ∧ (drP box (ct (70 * w + 7))) i < 30 := fun i hi => ⟨hx_3_0 i hi, (dr_in (box := box) (o0 := ct (70 * w + 7)) (j := i) (by omega)).1⟩
  refine lv_aload_n hx hb dX1_hear_123 rfl (lv_at hl 8 rfl) ?_
  refine lv_aload hx hb dX1_hear_124 (lv_at hl 5 rfl) ?_
  refine lv_iload_n hx hb dX1_hear_126 rfl (lv_at hl 7 rfl) ?_
  replace htr := ((o_3 45 (by first | decide | omega))).trans htr
  replace hct := ((o_3 46 (by first | decide | omega))).trans hct
  refine b_callv (va_runV (As := [.ref (g 45), .int (nI w)]) (rest := []) ⟨hx, hb, hml, hown, hts⟩ (h_strikeE l G g hg f_3 k (min q8 (cnt box 30)) (lotF (ct (70 * w + 7)) (min q8 (cnt box 30))) box (drC box (ct (70 * w + 7)) (min q8 (cnt box 30))) mi s0 s1 sx od95 nt ct (drP box (ct (70 * w + 7))) w q6 hhe hod0 htr hct (by first | assumption | omega | decide) (by first | assumption | omega | decide) (by first | assumption | omega | decide) (hod9) (by first | assumption | omega | decide) (hq6) (hq64)) (my_cwV hts ok_X3_strike w_493 rfl rfl ⟨Nat.le_of_ble_eq_true rfl, Nat.le_of_ble_eq_true rfl⟩) ⟨bP.blind, va_recv hG.1 hP (ci := 3) (q0 := k) rfl (wl_at (by omega) hhe), fun U hU hW => ⟨rfl, by rw [hU]; exact hP, kG.warm hW hG⟩⟩ rfl rfl hl.1 rfl (lv_room (Nat.le_of_ble_eq_true rfl)) dX1_hear_127 ⟨Nat.le_of_ble_eq_true rfl, Nat.le_of_ble_eq_true rfl⟩) hS (fun f_4 H locs hq9 hP hS => ?_)
  obtain ⟨hq_4_0, o_4⟩ := hq9
  have hhe : f_4 k = eO 3 [.ref (g (k + 1)), .int (nI (min q8 (cnt box 30))), .int (lotF (ct (70 * w + 7)) (min q8 (cnt box 30))), .int box, .int (drC box (ct (70 * w + 7)) (min q8 (cnt box 30))), .int ((drC box (ct (70 * w + 7)) (min q8 (cnt box 30))) &&& ct (70 * w + 9)), .int ((stX (fun sd lf => lkP (drP box (ct (70 * w + 7))) (fun p => ct (70 * w + (30 * sd + p + 10))) lf (min q8 (cnt box 30))) (drC box (ct (70 * w + 7)) (min q8 (cnt box 30))) ((drC box (ct (70 * w + 7)) (min q8 (cnt box 30))) &&& ct (70 * w + 9)) (2 * q6)).1), .int ((stX (fun sd lf => lkP (drP box (ct (70 * w + 7))) (fun p => ct (70 * w + (30 * sd + p + 10))) lf (min q8 (cnt box 30))) (drC box (ct (70 * w + 7)) (min q8 (cnt box 30))) ((drC box (ct (70 * w + 7)) (min q8 (cnt box 30))) &&& ct (70 * w + 9)) (2 * q6)).2), .int sx] := hq_4_0
  refine lv_aload_n hx hb dX1_hear_130 rfl (lv_at hl 8 rfl) ?_
  refine lv_aload hx hb dX1_hear_131 (lv_at hl 5 rfl) ?_
  refine lv_iload_n hx hb dX1_hear_133 rfl (lv_at hl 7 rfl) ?_
  refine lv_iconst (v := 2) hx hb dX1_hear_134 (by decide) ?_
  replace htr := ((o_4 45 (by first | decide | omega))).trans htr
  replace hct := ((o_4 46 (by first | decide | omega))).trans hct
  refine rd_calli (va_runV (As := [.int (nI w), .int 2]) (rest := [.ref (g k)]) ⟨hx, hb, hml, hown, hts⟩ (r_at l G g hg f_4 45 10 70 nt ct (nI w) 2 htr hct (by first | assumption | omega | decide) (by first | assumption | omega | decide) (by first | assumption | omega | decide) (by first | assumption | omega | decide)) (my_cwV hts ok_X5_at w_389 rfl rfl ⟨Nat.le_of_ble_eq_true rfl, Nat.le_of_ble_eq_true rfl⟩) ⟨bP.blind, va_recv hG.1 hP (ci := 5) (q0 := 45) rfl (wl_at (by decide) htr), fun U hU hW => ⟨rfl, by rw [hU]; exact hP, kG.warm hW hG⟩⟩ rfl rfl hl.1 rfl (lv_room (Nat.le_of_ble_eq_true rfl)) dX1_hear_135 ⟨Nat.le_of_ble_eq_true rfl, Nat.le_of_ble_eq_true rfl⟩) (fun r hr9 => ?_)
  subst hr9
  refine my_bei (v := nI ks) ((atQ (d := ct) (w := 70) (i := w) (c := 2) hw (by omega) (by omega) (by omega)).trans hq2) ?_
  refine lv_iload hx hb dX1_hear_138 (lv_at hl 2 rfl) ?_
  refine lv_aload_n hx hb dX1_hear_140 rfl (lv_at hl 8 rfl) ?_
  refine va_getN (D := G.1) (ci := 3) (v := .int box) (C := RX3) (T := TX3) (N := 9) (host := RX10) hx hb hts inlX3 hown hG.1 hP k (wl_at (by omega) hhe) rfl 3 (by decide) (va_Nw.use rfl (hG.2.1 (.fieldLinkNest RX1 96 RX3 "inBox" "I" RX10) (List.mem_of_getElem? (i := 12) rfl))) (fun _ h9 => h9) rfl dX1_hear_141 ?_
  refine lv_iconst (v := (-1)) hx hb dX1_hear_144 (by decide) ?_
  refine lv_ixor hx hb dX1_hear_145 ?_
  refine lv_iand hx hb dX1_hear_146 ?_
  refine my_bei (v := pasV fit box) (rfl) ?_
  replace hod0 : f_4 (k + 1) = eI G 24 od95 := ((o_4 (k + 1) (by omega))).trans hod0
  refine b_callv (va_runV (As := [.int (nI ks), .int (pasV fit box)]) (rest := []) ⟨hx, hb, hml, hown, hts⟩ (h_seatE l G g hg f_4 k (min q8 (cnt box 30)) (lotF (ct (70 * w + 7)) (min q8 (cnt box 30))) box (drC box (ct (70 * w + 7)) (min q8 (cnt box 30))) ((drC box (ct (70 * w + 7)) (min q8 (cnt box 30))) &&& ct (70 * w + 9)) ((stX (fun sd lf => lkP (drP box (ct (70 * w + 7))) (fun p => ct (70 * w + (30 * sd + p + 10))) lf (min q8 (cnt box 30))) (drC box (ct (70 * w + 7)) (min q8 (cnt box 30))) ((drC box (ct (70 * w + 7)) (min q8 (cnt box 30))) &&& ct (70 * w + 9)) (2 * q6)).1) ((stX (fun sd lf => lkP (drP box (ct (70 * w + 7))) (fun p => ct (70 * w + (30 * sd + p + 10))) lf (min q8 (cnt box 30))) (drC box (ct (70 * w + 7)) (min q8 (cnt box 30))) ((drC box (ct (70 * w + 7)) (min q8 (cnt box 30))) &&& ct (70 * w + 9)) (2 * q6)).2) sx od95 (drP box (ct (70 * w + 7))) ks (pasV fit box) hhe hod0 (by first | assumption | omega | decide) (by first | assumption | omega | decide) (hod9) (hks) (fun i j h1 h2 => dr_inj h1 (by omega)) (pas_lf (by omega))) (my_cwV hts ok_X3_seat w_511 rfl rfl ⟨Nat.le_of_ble_eq_true rfl, Nat.le_of_ble_eq_true rfl⟩) ⟨bP.blind, va_recv hG.1 hP (ci := 3) (q0 := k) rfl (wl_at (by omega) hhe), fun U hU hW => ⟨rfl, by rw [hU]; exact hP, kG.warm hW hG⟩⟩ rfl rfl hl.1 rfl (lv_room (Nat.le_of_ble_eq_true rfl)) dX1_hear_147 ⟨Nat.le_of_ble_eq_true rfl, Nat.le_of_ble_eq_true rfl⟩) hS (fun f_5 H locs hq9 hP hS => ?_)
  obtain ⟨hq_5_0, o_5⟩ := hq9
  have hhe : f_5 k = eO 3 [.ref (g (k + 1)), .int (nI (min q8 (cnt box 30))), .int (lotF (ct (70 * w + 7)) (min q8 (cnt box 30))), .int box, .int (drC box (ct (70 * w + 7)) (min q8 (cnt box 30))), .int ((drC box (ct (70 * w + 7)) (min q8 (cnt box 30))) &&& ct (70 * w + 9)), .int ((stX (fun sd lf => lkP (drP box (ct (70 * w + 7))) (fun p => ct (70 * w + (30 * sd + p + 10))) lf (min q8 (cnt box 30))) (drC box (ct (70 * w + 7)) (min q8 (cnt box 30))) ((drC box (ct (70 * w + 7)) (min q8 (cnt box 30))) &&& ct (70 * w + 9)) (2 * q6)).1), .int ((stX (fun sd lf => lkP (drP box (ct (70 * w + 7))) (fun p => ct (70 * w + (30 * sd + p + 10))) lf (min q8 (cnt box 30))) (drC box (ct (70 * w + 7)) (min q8 (cnt box 30))) ((drC box (ct (70 * w + 7)) (min q8 (cnt box 30))) &&& ct (70 * w + 9)) (2 * q6)).2), .int (if (paF (pasV fit box) ks (seF (drP box (ct (70 * w + 7))) (lfV (drC box (ct (70 * w + 7)) (min q8 (cnt box 30))) ((drC box (ct (70 * w + 7)) (min q8 (cnt box 30))) &&& ct (70 * w + 9)) (((stX (fun sd lf => lkP (drP box (ct (70 * w + 7))) (fun p => ct (70 * w + (30 * sd + p + 10))) lf (min q8 (cnt box 30))) (drC box (ct (70 * w + 7)) (min q8 (cnt box 30))) ((drC box (ct (70 * w + 7)) (min q8 (cnt box 30))) &&& ct (70 * w + 9)) (2 * q6)).1), ((stX (fun sd lf => lkP (drP box (ct (70 * w + 7))) (fun p => ct (70 * w + (30 * sd + p + 10))) lf (min q8 (cnt box 30))) (drC box (ct (70 * w + 7)) (min q8 (cnt box 30))) ((drC box (ct (70 * w + 7)) (min q8 (cnt box 30))) &&& ct (70 * w + 9)) (2 * q6)).2))) ks (min q8 (cnt box 30))) 30).2 < ks then 0 else (paF (pasV fit box) ks (seF (drP box (ct (70 * w + 7))) (lfV (drC box (ct (70 * w + 7)) (min q8 (cnt box 30))) ((drC box (ct (70 * w + 7)) (min q8 (cnt box 30))) &&& ct (70 * w + 9)) (((stX (fun sd lf => lkP (drP box (ct (70 * w + 7))) (fun p => ct (70 * w + (30 * sd + p + 10))) lf (min q8 (cnt box 30))) (drC box (ct (70 * w + 7)) (min q8 (cnt box 30))) ((drC box (ct (70 * w + 7)) (min q8 (cnt box 30))) &&& ct (70 * w + 9)) (2 * q6)).1), ((stX (fun sd lf => lkP (drP box (ct (70 * w + 7))) (fun p => ct (70 * w + (30 * sd + p + 10))) lf (min q8 (cnt box 30))) (drC box (ct (70 * w + 7)) (min q8 (cnt box 30))) ((drC box (ct (70 * w + 7)) (min q8 (cnt box 30))) &&& ct (70 * w + 9)) (2 * q6)).2))) ks (min q8 (cnt box 30))) 30).1)] := hq_5_0
  replace hvl := ((o_5 15 (by first | decide | omega)).trans ((o_4 15 (by first | decide | omega)).trans ((o_3 15 (by first | decide | omega))))).trans hvl
  replace hod0 : f_5 (k + 1) = eI G 24 od95 := ((o_5 (k + 1) (by omega))).trans hod0
  refine W_q9 hQ9 ?_
  exact W.vret hx hb hr (fun _ hT9 _ => ⟨⟨f_5, rfl, (⟨vv94, hvl, okQ_mk (R := (fun c => ct (70 * w + c))) hq8 hq88 hq6 hq64 hq2 hks hhe hod0 (fun i hi => (hod9 i hi).1), fun j hj => (((((o_5 j (by omega))).trans (o_4 j (by omega))).trans (o_3 j (by omega))).trans (o_2 j (by omega))).trans (o_1 j (by omega))⟩), by rw [hT9]; exact hP⟩, hS.F hT9⟩) hS.2.2 dX1_hear_150


set_option maxHeartbeats 4000000 in
set_option maxRecDepth 100000 in
theorem jn_image (l : Launch) (G : gW) (g : Nat → Nat) (hg : gOK g) (f : Nat → va_E) (se : Nat) (hf : Nat → Option Nat) (imf : Nat → Option Nat) (kf : Nat → Int32) (mc : Nat) (op : Int32) (cm : Int32) (wu : Int32) (mk : Nat → Int32) (ab : Int64) (be : Int64) (mn : Nat) (le : Int32) (wt : Nat → Int32) (ww : Nat → Int32) (wb : Nat → Int32) (wf : Nat → Int32) (vv : Nat → Int64) (pay : Int32) (fine : Int32) (np : Nat) (dp : Nat → Int32) (nf : Nat) (df : Nat → Int32) (nr : Nat) (dr : Nat → Int32) (na : Nat) (da : Nat → Int32) (nt : Nat) (ct : Nat → Int32) (lf : Nat → Option Nat) (tf : Nat → Option Nat) (TL : Nat → Nat) (TG : Nat → Nat → Int32) (LL : Nat → Nat) (LG : Nat → Nat → Int32) (N1 : Nat → Nat) (E1 : Nat → Nat → Int32) (P1 : Nat → Int32) (L1 : Nat → Nat) (S1 : Nat → Nat → Int32) (W1 : Nat → Nat) (X1 : Nat → Nat → Int32) (N2 : Nat → Nat) (E2 : Nat → Nat → Int32) (P2 : Nat → Int32) (L2 : Nat → Nat) (S2 : Nat → Nat → Int32) (W2 : Nat → Nat) (X2 : Nat → Nat → Int32) (a1 : Int32) (hx0 : f 0 = eO 9 [.ref (g 1), .ref (g 36), .ref (g 2), .ref (g 3), .ref (g 4), .ref (g 6), .ref (g 7)]) (hctc : f 1 = eO 1 [.ref (g 36), .ref (g 12), .ref (g 13), .ref (g 15), .int (nI se)]) (hhs : f 12 = eA G 4 10 hf) (him : f 2 = eA G 3 2 imf) (hkp : f 3 = eZ G 2 kf) (hrd : f 4 = eO 4 [.ref (g 5), .int (nI mc), .int op, .int cm, .int wu]) (hmk : f 5 = eI G 50 mk) (hfc6 : f 6 = eO 2 [.long ab, .long be]) (hwt : f 7 = eO 8 [.ref (g 8), .ref (g 9), .ref (g 10), .ref (g 11), .int (nI mn), .int le]) (hw8 : f 8 = eI G 6 wt) (hw9 : f 9 = eI G 6 ww) (hw10 : f 10 = eI G 6 wb) (hw11 : f 11 = eI G 6 wf) (hvl : f 15 = eJ G 50 vv) (hbk : f 36 = eO 0 [.ref (g 37), .ref (g 39), .ref (g 41), .ref (g 43), .ref (g 45), .ref (g 47), .ref (g 112), .int pay, .int fine]) (hpr : f 37 = eO 5 [.int (nI 30), .int (nI 4), .ref (g 38), .int (nI np)]) (hpd : f 38 = eI G (30 * 4) dp) (hfr : f 39 = eO 5 [.int (nI 40), .int (nI 3), .ref (g 40), .int (nI nf)]) (hfd : f 40 = eI G (40 * 3) df) (hor : f 41 = eO 5 [.int (nI 4), .int (nI 3), .ref (g 42), .int (nI nr)]) (hod : f 42 = eI G (4 * 3) dr) (har : f 43 = eO 5 [.int (nI 20), .int (nI 3), .ref (g 44), .int (nI na)]) (had : f 44 = eI G (20 * 3) da) (htr : f 45 = eO 5 [.int (nI 10), .int (nI 70), .ref (g 46), .int (nI nt)]) (hct : f 46 = eI G (10 * 70) ct) (hla : f 47 = eO 6 [.ref (g 48), .ref (g 49)]) (hlaa : f 48 = eA G 5 20 lf) (hts0 : f 112 = eO 6 [.ref (g 113), .ref (g 114)]) (htsa : f 113 = eA G 5 4 tf) (hse : se ≤ 10) (hhf : ∀ i, i < 10 → hf i = some (g (2 * i + 16))) (him0 : imf 0 = some (g 129)) (him1 : imf 1 = some (g 222)) (hmc : mc ≤ 50) (hmn : mn ≤ 6) (hnp : np ≤ 30) (hnf : nf ≤ 40) (hnr : nr ≤ 4) (hna : na ≤ 20) (hnt : nt ≤ 10) (hlf : ∀ z, z < 20 → lf z = some (g (47 + 3 * z + 5))) (htf : ∀ z, z < 4 → tf z = some (g (112 + 3 * z + 5))) (hsn : se ≤ nt) (hTr : trC ct nt) (hH : ∀ i, i < 10 → okH G g f (2 * i + 16)) (hSp : okH G g f 13) (hL : ∀ i, i < 20 → ltx G g f (3 * i + 52) (LL i) (LG i) (i < na)) (hT : ∀ i, i < 4 → txt G g f (3 * i + 117) (TL i) (TG i)) (hB1 : bkD G g f 129 N1 E1 P1 L1 S1 W1 X1) (hB2 : bkD G g f 222 N2 E2 P2 L2 S2 W2 X2) (hQ : ∀ z, z < se → cHz G g f np nf nr na dp df dr da ct LL LG z) : Met l yX10_image (wsT yX10_image cX10_image 2 (some .int)) ({ frames := 4, cells := 0, slots := 0, locals := 82 }) (bP G g f [.ref (g 0), .int a1]) (bQi G g (fun (z9 : Int32) (f' : Nat → va_E) => ∃ kf9 : Nat → Int32, ∃ N19 : Nat → Nat, ∃ E19 : Nat → Nat → Int32, ∃ P19 : Nat → Int32, ∃ L19 : Nat → Nat, ∃ S19 : Nat → Nat → Int32, ∃ W19 : Nat → Nat, ∃ X19 : Nat → Nat → Int32, ∃ N29 : Nat → Nat, ∃ E29 : Nat → Nat → Int32, ∃ P29 : Nat → Int32, ∃ L29 : Nat → Nat, ∃ S29 : Nat → Nat → Int32, ∃ W29 : Nat → Nat, ∃ X29 : Nat → Nat → Int32, (cJ G g f' np dp nf df nr dr nt ct pay fine kf9 na da TL TG LL LG N19 E19 P19 L19 S19 W19 X19 N29 E29 P29 L29 S29 W29 X29) ∧ ((¬ inB 0 a1 1 = true ∧ z9 = -2 ∧ kf9 = kf ∧ N19 = N1 ∧ E19 = E1 ∧ P19 = P1 ∧ L19 = L1 ∧ S19 = S1 ∧ W19 = W1 ∧ X19 = X1 ∧ N29 = N2 ∧ E29 = E2 ∧ P29 = P2 ∧ L29 = L2 ∧ S29 = S2 ∧ W29 = W2 ∧ X29 = X2) ∨ ((a1 : Int32) = 0 ∧ z9 = 1 ∧ kf9 = upd kf (Int32.toNatClampNeg 0) (vp_nar .boolean 1) ∧ eqD N19 E19 P19 L19 S19 W19 X19 (mkN np nf nr na nt) (mkE dp df dr da ct) (mkP pay fine) TL TG LL LG ∧ N29 = N2 ∧ E29 = E2 ∧ P29 = P2 ∧ L29 = L2 ∧ S29 = S2 ∧ W29 = W2 ∧ X29 = X2) ∨ ((a1 : Int32) = 1 ∧ z9 = 1 ∧ kf9 = upd kf (Int32.toNatClampNeg 1) (vp_nar .boolean 1) ∧ eqD N29 E29 P29 L29 S29 W29 X29 (mkN np nf nr na nt) (mkE dp df dr da ct) (mkP pay fine) TL TG LL LG ∧ N19 = N1 ∧ E19 = E1 ∧ P19 = P1 ∧ L19 = L1 ∧ S19 = S1 ∧ W19 = W1 ∧ X19 = X1)) ∧ ∀ j, 315 ≤ j → f' j = f j)) 0 0 (gA g) := by
  refine Met.ofW (cc := cX10_image) (maxL := 2) (ret := (some .int)) (by decide) rfl ?_
  intro p e s m args below meth c s₁ B hml hv
  obtain ⟨rfl, hP, hG⟩ := hv
  have hx := B.exec
  have hb := B.bytes
  have hr := B.returns
  have hts := my_hts (atoms_spec (ws := wsT yX10_image cX10_image 2 (some .int)) B.pre)
  have hown : s.vm.findClass RX10 = some m.cls := findClass_of_methodNamed B.named
  have hlocks := B.notSynchronized
  have hS : va_S (gA g) s.heap s.heap [] := va_S.rf
  have hl := lv_entry ([.ref (g 0), .int a1]) (n := 2) (Nat.le_of_ble_eq_true rfl)
  rw [lg_entry_eq]
  generalize (lg_sl ([.ref (g 0), .int a1]) ++ List.replicate (2 - (lg_sl ([.ref (g 0), .int a1])).length) Slot.unset).toArray = ls at hl ⊢
  have hl : lv_has ls 2 [(0, .ref (g 0)), (1, .int a1)] := hl
  refine W_q8 (fun Q9 hQ9 => ?_)
  refine lv_iload_n hx hb dX10_image_0 rfl (lv_at hl 1 rfl) ?_
  refine lv_iconst (v := 0) hx hb dX10_image_1 (by decide) ?_
  refine lv_iconst (v := 1) hx hb dX10_image_2 (by decide) ?_
  refine rd_calli (va_runS (As := [.int a1, .int 0, .int 1]) (rest := []) ⟨hx, hb, hml, hown, hts⟩ (s_within l G g hg f a1 0 1  ) (my_cwS hts ok_X10_within w_134 rfl rfl ⟨Nat.le_of_ble_eq_true rfl, Nat.le_of_ble_eq_true rfl⟩) ⟨bP.blind, fun U hU hW => ⟨rfl, by rw [hU]; exact hP, kG.warm hW hG⟩⟩ rfl rfl hl.1 rfl (lv_room (Nat.le_of_ble_eq_true rfl)) dX10_image_3 ⟨Nat.le_of_ble_eq_true rfl, Nat.le_of_ble_eq_true rfl⟩) (fun r hr9 => ?_)
  subst hr9
  refine my_ifne (tgt := 12) hx hb dX10_image_6 (by decide) (fun c_6 => ?_) (fun c_6 => ?_)
  · rcases inB_01.mp c_6 with e9 | e9
    · subst e9
      obtain ⟨lf1, tf1, hbk1, hp1r, hp1d, hf1r, hf1d, hr1r, hr1d, ha1r, ha1d, ht1r, ht1d, hsl1, hal1, hsw1, haw1, hnp1, hnf1, hnr1, hna1, hnt1, hlf1, htf1, hKl1, hKw1⟩ := id hB1
      refine lv_aload_n hx hb dX10_image_12 rfl (lv_at hl 0 rfl) ?_
      refine va_get (D := G.1) (ci := 9) (v := .ref (g 2)) (C := RX10) (T := TX10) (N := 7) hx hb hts inlX10 hown hG.1 hP 0 (wl_at (by decide) hx0) rfl 2 (by decide) (hts (.fieldLink RX10 23 "SwornLists" "images" "[LSwornLists$Book;") w_18) (fun _ h9 => h9) rfl dX10_image_13 ?_
      refine lv_iload_n hx hb dX10_image_16 rfl (lv_at hl 1 rfl) ?_
      refine va_aldq hx hb hG.1 hP 2 3 (wl_at (by decide) him) rfl (by unfold vp_in; decide) dX10_image_17 ?_
      refine my_bea (v := .ref (g 129)) (by rw [show Int32.toNatClampNeg 0 = 0 from rfl, him0]; rfl) ?_
      refine lv_aload_n hx hb dX10_image_18 rfl (lv_at hl 0 rfl) ?_
      refine va_get (D := G.1) (ci := 9) (v := .ref (g 36)) (C := RX10) (T := TX10) (N := 7) hx hb hts inlX10 hown hG.1 hP 0 (wl_at (by decide) hx0) rfl 1 (by decide) (hts (.fieldLink RX10 20 "SwornLists" "book" "LSwornLists$Book;") w_16) (fun _ h9 => h9) rfl dX10_image_19 ?_
      obtain ⟨cl, sl, hKl2, hKl3⟩ := ltx_sk (P := fun z => 3 * z + 52) hL
      obtain ⟨cw, sw, hKw2⟩ := txt_sk (P := fun z => 3 * z + 117) hT
      refine b_callv (va_runV (As := [.ref (g 36)]) (rest := []) ⟨hx, hb, hml, hown, hts⟩ (k_copy l G g hg f 129 36 (P1 0) (P1 1) (N1 0) (E1 0) (N1 1) (E1 1) (N1 2) (E1 2) (N1 3) (E1 3) (N1 4) (E1 4) lf1 tf1 pay fine np dp nf df nr dr na da nt ct lf tf LL cl LG sl TL cw TG sw hbk1 hp1r hp1d hf1r hf1d hr1r hr1d ha1r ha1d ht1r ht1d hsl1 hal1 hsw1 haw1 hbk hpr hpd hfr hfd hor hod har had htr hct hla hlaa hts0 htsa (by first | assumption | omega | decide) (by first | assumption | omega | decide) (by first | assumption | omega | decide) (by first | assumption | omega | decide) (by first | assumption | omega | decide) (hlf1) (htf1) (by first | assumption | omega | decide) (by first | assumption | omega | decide) (by first | assumption | omega | decide) (by first | assumption | omega | decide) (by first | assumption | omega | decide) (hlf) (htf) (by first | assumption | omega | decide) (by first | assumption | omega | decide) (by first | assumption | omega | decide) (fun z hz => ltx_ok (hKl1 z hz)) (fun z hz => okT_of_txt (hKw1 z hz)) (hKl2) (hKw2)) (my_cwV hts ok_X0_copy w_894 rfl rfl ⟨Nat.le_of_ble_eq_true rfl, Nat.le_of_ble_eq_true rfl⟩) ⟨bP.blind, va_recv hG.1 hP (ci := 0) (q0 := 129) rfl (wl_at (by decide) hbk1), fun U hU hW => ⟨rfl, by rw [hU]; exact hP, kG.warm hW hG⟩⟩ rfl rfl hl.1 rfl (lv_room (Nat.le_of_ble_eq_true rfl)) dX10_image_22 ⟨Nat.le_of_ble_eq_true rfl, Nat.le_of_ble_eq_true rfl⟩) hS (fun f_1 H locs hq9 hP hS => ?_)
      obtain ⟨dp91, df92, dr93, da94, dt95, gl96, sl97, gw98, sw99, hq_1_0, hq_1_1, hq_1_2, hq_1_3, hq_1_4, hq_1_5, hq_1_6, hq_1_7, hq_1_8, hq_1_9, hq_1_10, hq_1_11, hq_1_12, hq_1_13, hq_1_14, hx_1_0, hx_1_1, hx_1_2, hx_1_3, hx_1_4, hx_1_5, hx_1_6, hx_1_7, hx_1_8, o_1⟩ := hq9
      have hbk1 : f_1 129 = eO 0 [.ref (g (129 + 1)), .ref (g (129 + 3)), .ref (g (129 + 5)), .ref (g (129 + 7)), .ref (g (129 + 9)), .ref (g (129 + 11)), .ref (g (129 + 76)), .int pay, .int fine] := hq_1_0
      have hp1r : f_1 130 = eO 5 [.int (nI 30), .int (nI 4), .ref (g (129 + 2)), .int (nI np)] := hq_1_1
      have hp1d : f_1 131 = eI G (30 * 4) dp91 := hq_1_2
      have hf1r : f_1 132 = eO 5 [.int (nI 40), .int (nI 3), .ref (g (129 + 4)), .int (nI nf)] := hq_1_3
      have hf1d : f_1 133 = eI G (40 * 3) df92 := hq_1_4
      have hr1r : f_1 134 = eO 5 [.int (nI 4), .int (nI 3), .ref (g (129 + 6)), .int (nI nr)] := hq_1_5
      have hr1d : f_1 135 = eI G (4 * 3) dr93 := hq_1_6
      have ha1r : f_1 136 = eO 5 [.int (nI 20), .int (nI 3), .ref (g (129 + 8)), .int (nI na)] := hq_1_7
      have ha1d : f_1 137 = eI G (20 * 3) da94 := hq_1_8
      have ht1r : f_1 138 = eO 5 [.int (nI 10), .int (nI 70), .ref (g (129 + 10)), .int (nI nt)] := hq_1_9
      have ht1d : f_1 139 = eI G (10 * 70) dt95 := hq_1_10
      have hsl1 : f_1 140 = eO 6 [.ref (g (129 + 12)), .ref (g (129 + 13))] := hq_1_11
      have hal1 : f_1 141 = eA G 5 20 lf1 := hq_1_12
      have hsw1 : f_1 205 = eO 6 [.ref (g (129 + 77)), .ref (g (129 + 78))] := hq_1_13
      have haw1 : f_1 206 = eA G 5 4 tf1 := hq_1_14
      have hNLx : ∀ z, z < 20 → isT G g f_1 (3 * z + (129 + 11) + 5) (LL z) (cl z) (gl96 z) (sl97 z) := hx_1_5
      have hNWx : ∀ z, z < 4 → isT G g f_1 (3 * z + (129 + 76) + 5) (TL z) (cw z) (gw98 z) (sw99 z) := hx_1_7
      refine lv_aload_n hx hb dX10_image_25 rfl (lv_at hl 0 rfl) ?_
      replace hx0 := ((o_1 0 (by first | decide | omega))).trans hx0
      refine va_get (D := G.1) (ci := 9) (v := .ref (g 3)) (C := RX10) (T := TX10) (N := 7) hx hb hts inlX10 hown hG.1 hP 0 (wl_at (by decide) hx0) rfl 3 (by decide) (hts (.fieldLink RX10 27 "SwornLists" "kept" "[Z") w_20) (fun _ h9 => h9) rfl dX10_image_26 ?_
      refine lv_iload_n hx hb dX10_image_29 rfl (lv_at hl 1 rfl) ?_
      refine lv_iconst (v := 1) hx hb dX10_image_30 (by decide) ?_
      replace hkp := ((o_1 3 (by first | decide | omega))).trans hkp
      refine va_zast hx hb hG.1 hP (wl_D hg f_1) hS 3 2 (wl_at (by decide) hkp) rfl (by unfold vp_in; decide) dX10_image_31 (fun H locs hP _ hS => ?_)
      obtain ⟨f_2, hP, e_2, o_2⟩ := b_put (by decide) hP
      have hkp : f_2 3 = eZ G 2 (upd kf (Int32.toNatClampNeg 0) (vp_nar .boolean 1)) := e_2
      refine lv_iconst (v := 1) hx hb dX10_image_32 (by decide) ?_
      replace hbk1 := ((o_2 129 (by decide))).trans hbk1
      replace hp1r := ((o_2 130 (by decide))).trans hp1r
      replace hp1d := ((o_2 131 (by decide))).trans hp1d
      replace hf1r := ((o_2 132 (by decide))).trans hf1r
      replace hf1d := ((o_2 133 (by decide))).trans hf1d
      replace hr1r := ((o_2 134 (by decide))).trans hr1r
      replace hr1d := ((o_2 135 (by decide))).trans hr1d
      replace ha1r := ((o_2 136 (by decide))).trans ha1r
      replace ha1d := ((o_2 137 (by decide))).trans ha1d
      replace ht1r := ((o_2 138 (by decide))).trans ht1r
      replace ht1d := ((o_2 139 (by decide))).trans ht1d
      replace hsl1 := ((o_2 140 (by decide))).trans hsl1
      replace hal1 := ((o_2 141 (by decide))).trans hal1
      replace hsw1 := ((o_2 205 (by decide))).trans hsw1
      replace haw1 := ((o_2 206 (by decide))).trans haw1
      refine W_q9 hQ9 ?_
      replace hx0 := ((o_2 0 (by decide))).trans hx0
      replace hctc := ((o_2 1 (by decide)).trans ((o_1 1 (by first | decide | omega)))).trans hctc
      replace hhs := ((o_2 12 (by decide)).trans ((o_1 12 (by first | decide | omega)))).trans hhs
      replace him := ((o_2 2 (by decide)).trans ((o_1 2 (by first | decide | omega)))).trans him
      replace hrd := ((o_2 4 (by decide)).trans ((o_1 4 (by first | decide | omega)))).trans hrd
      replace hmk := ((o_2 5 (by decide)).trans ((o_1 5 (by first | decide | omega)))).trans hmk
      replace hfc6 := ((o_2 6 (by decide)).trans ((o_1 6 (by first | decide | omega)))).trans hfc6
      replace hwt := ((o_2 7 (by decide)).trans ((o_1 7 (by first | decide | omega)))).trans hwt
      replace hw8 := ((o_2 8 (by decide)).trans ((o_1 8 (by first | decide | omega)))).trans hw8
      replace hw9 := ((o_2 9 (by decide)).trans ((o_1 9 (by first | decide | omega)))).trans hw9
      replace hw10 := ((o_2 10 (by decide)).trans ((o_1 10 (by first | decide | omega)))).trans hw10
      replace hw11 := ((o_2 11 (by decide)).trans ((o_1 11 (by first | decide | omega)))).trans hw11
      replace hvl := ((o_2 15 (by decide)).trans ((o_1 15 (by first | decide | omega)))).trans hvl
      replace hbk := ((o_2 36 (by decide)).trans ((o_1 36 (by first | decide | omega)))).trans hbk
      replace hpr := ((o_2 37 (by decide)).trans ((o_1 37 (by first | decide | omega)))).trans hpr
      replace hpd := ((o_2 38 (by decide)).trans ((o_1 38 (by first | decide | omega)))).trans hpd
      replace hfr := ((o_2 39 (by decide)).trans ((o_1 39 (by first | decide | omega)))).trans hfr
      replace hfd := ((o_2 40 (by decide)).trans ((o_1 40 (by first | decide | omega)))).trans hfd
      replace hor := ((o_2 41 (by decide)).trans ((o_1 41 (by first | decide | omega)))).trans hor
      replace hod := ((o_2 42 (by decide)).trans ((o_1 42 (by first | decide | omega)))).trans hod
      replace har := ((o_2 43 (by decide)).trans ((o_1 43 (by first | decide | omega)))).trans har
      replace had := ((o_2 44 (by decide)).trans ((o_1 44 (by first | decide | omega)))).trans had
      replace htr := ((o_2 45 (by decide)).trans ((o_1 45 (by first | decide | omega)))).trans htr
      replace hct := ((o_2 46 (by decide)).trans ((o_1 46 (by first | decide | omega)))).trans hct
      replace hla := ((o_2 47 (by decide)).trans ((o_1 47 (by first | decide | omega)))).trans hla
      replace hlaa := ((o_2 48 (by decide)).trans ((o_1 48 (by first | decide | omega)))).trans hlaa
      replace hts0 := ((o_2 112 (by decide)).trans ((o_1 112 (by first | decide | omega)))).trans hts0
      replace htsa := ((o_2 113 (by decide)).trans ((o_1 113 (by first | decide | omega)))).trans htsa
      replace hH : ∀ i, i < 10 → okH G g f_1 (2 * i + 16) := fun z hz => okH_fr (hH z hz) (o_1 _ (by omega)) (o_1 _ (by omega))
      replace hH : ∀ i, i < 10 → okH G g f_2 (2 * i + 16) := fun z hz => okH_fr (hH z hz) (o_2 _ (by omega)) (o_2 _ (by omega))
      replace hSp : okH G g f_1 13 := okH_fr hSp (o_1 _ (by omega)) (o_1 _ (by omega))
      replace hSp : okH G g f_2 13 := okH_fr hSp (o_2 _ (by omega)) (o_2 _ (by omega))
      replace hL : ∀ i, i < 20 → ltx G g f_1 (3 * i + 52) (LL i) (LG i) (i < na) := fun z hz => ltx_fr (hL z hz) (o_1 _ (by omega)) (o_1 _ (by omega)) (o_1 _ (by omega))
      replace hL : ∀ i, i < 20 → ltx G g f_2 (3 * i + 52) (LL i) (LG i) (i < na) := fun z hz => ltx_fr (hL z hz) (o_2 _ (by omega)) (o_2 _ (by omega)) (o_2 _ (by omega))
      replace hT : ∀ i, i < 4 → txt G g f_1 (3 * i + 117) (TL i) (TG i) := fun z hz => txt_fr (hT z hz) (o_1 _ (by omega)) (o_1 _ (by omega)) (o_1 _ (by omega))
      replace hT : ∀ i, i < 4 → txt G g f_2 (3 * i + 117) (TL i) (TG i) := fun z hz => txt_fr (hT z hz) (o_2 _ (by omega)) (o_2 _ (by omega)) (o_2 _ (by omega))
      replace hB2 : bkD G g f_1 222 N2 E2 P2 L2 S2 W2 X2 := bkD_fr hB2 (fun j _ _ => o_1 j (by omega))
      replace hB2 : bkD G g f_2 222 N2 E2 P2 L2 S2 W2 X2 := bkD_fr hB2 (fun j _ _ => o_2 j (by omega))
      replace hQ : ∀ z, z < se → cHz G g f_1 np nf nr na dp df dr da ct LL LG z := fun z hz => okQ_fr (hQ z hz) (o_1 _ (by omega)) (o_1 _ (by omega))
      replace hQ : ∀ z, z < se → cHz G g f_2 np nf nr na dp df dr da ct LL LG z := fun z hz => okQ_fr (hQ z hz) (o_2 _ (by omega)) (o_2 _ (by omega))
      replace hNLx : ∀ z, z < 20 → isT G g f_2 (3 * z + (129 + 11) + 5) (LL z) (cl z) (gl96 z) (sl97 z) := fun z hz => isT_fr (hNLx z hz) (o_2 _ (by omega)) (o_2 _ (by omega)) (o_2 _ (by omega))
      replace hNWx : ∀ z, z < 4 → isT G g f_2 (3 * z + (129 + 76) + 5) (TL z) (cw z) (gw98 z) (sw99 z) := fun z hz => isT_fr (hNWx z hz) (o_2 _ (by omega)) (o_2 _ (by omega)) (o_2 _ (by omega))
      exact W.iret (v := 1) hx hb hr (fun _ hT9 _ => ⟨⟨_, f_2, rfl, (⟨(upd kf (Int32.toNatClampNeg 0) (vp_nar .boolean 1)), (mkN np nf nr na nt), (mkE dp91 df92 dr93 da94 dt95), (mkP pay fine), TL, gw98, LL, gl96, N2, E2, P2, L2, S2, W2, X2, cJ_mk (se) (hf) (imf) (mc) (op) (cm) (wu) (mk) (ab) (be) (mn) (le) (wt) (ww) (wb) (wf) (vv) (lf) (tf) (hx0) (hctc) (hhs) (him) (hkp) (hrd) (hmk) (hfc6) (hwt) (hw8) (hw9) (hw10) (hw11) (hvl) (hbk) (hpr) (hpd) (hfr) (hfd) (hor) (hod) (har) (had) (htr) (hct) (hla) (hlaa) (hts0) (htsa) (by omega) (hhf) (him0) (him1) (by omega) (by omega) (by omega) (by omega) (by omega) (by omega) (by omega) (hlf) (htf) (by omega) (hH) (hSp) (hL) (hT) (⟨lf1, tf1, hbk1, hp1r, hp1d, hf1r, hf1d, hr1r, hr1d, ha1r, ha1d, ht1r, ht1d, hsl1, hal1, hsw1, haw1, (show np ≤ 30 by omega), (show nf ≤ 40 by omega), (show nr ≤ 4 by omega), (show na ≤ 20 by omega), (show nt ≤ 10 by omega), hlf1, htf1, (fun z hz => ⟨_, _, hNLx z hz, fun q => ltx_cp (hNLx z hz).2.2.2.1 (hNLx z hz).2.2.2.2 (hx_1_6 z hz) (hKl3 z hz q)⟩), (fun z hz => ⟨_, _, hNWx z hz⟩)⟩) (hB2) (hQ), (Or.inr (Or.inl ⟨rfl, rfl, rfl, ⟨rfl, hx_1_3, fun _ _ => rfl, fun z hz q hq => (hx_1_6 z hz q hq).1, rfl, rfl, rfl, rfl, hx_1_0, hx_1_1, hx_1_2, hx_1_4, rfl, rfl, fun _ _ => rfl, fun z hz q hq => (hx_1_8 z hz q hq).1⟩, rfl, rfl, rfl, rfl, rfl, rfl, rfl⟩)), fun j hj => ((o_2 j (by omega))).trans (o_1 j (by omega))⟩), by rw [hT9]; exact hP⟩, hS.F hT9⟩) hS.2.2 dX10_image_33
    · subst e9
      obtain ⟨lf1, tf1, hbk1, hp1r, hp1d, hf1r, hf1d, hr1r, hr1d, ha1r, ha1d, ht1r, ht1d, hsl1, hal1, hsw1, haw1, hnp1, hnf1, hnr1, hna1, hnt1, hlf1, htf1, hKl1, hKw1⟩ := id hB2
      refine lv_aload_n hx hb dX10_image_12 rfl (lv_at hl 0 rfl) ?_
      refine va_get (D := G.1) (ci := 9) (v := .ref (g 2)) (C := RX10) (T := TX10) (N := 7) hx hb hts inlX10 hown hG.1 hP 0 (wl_at (by decide) hx0) rfl 2 (by decide) (hts (.fieldLink RX10 23 "SwornLists" "images" "[LSwornLists$Book;") w_18) (fun _ h9 => h9) rfl dX10_image_13 ?_
      refine lv_iload_n hx hb dX10_image_16 rfl (lv_at hl 1 rfl) ?_
      refine va_aldq hx hb hG.1 hP 2 3 (wl_at (by decide) him) rfl (by unfold vp_in; decide) dX10_image_17 ?_
      refine my_bea (v := .ref (g 222)) (by rw [show Int32.toNatClampNeg 1 = 1 from rfl, him1]; rfl) ?_
      refine lv_aload_n hx hb dX10_image_18 rfl (lv_at hl 0 rfl) ?_
      refine va_get (D := G.1) (ci := 9) (v := .ref (g 36)) (C := RX10) (T := TX10) (N := 7) hx hb hts inlX10 hown hG.1 hP 0 (wl_at (by decide) hx0) rfl 1 (by decide) (hts (.fieldLink RX10 20 "SwornLists" "book" "LSwornLists$Book;") w_16) (fun _ h9 => h9) rfl dX10_image_19 ?_
      obtain ⟨cl, sl, hKl2, hKl3⟩ := ltx_sk (P := fun z => 3 * z + 52) hL
      obtain ⟨cw, sw, hKw2⟩ := txt_sk (P := fun z => 3 * z + 117) hT
      refine b_callv (va_runV (As := [.ref (g 36)]) (rest := []) ⟨hx, hb, hml, hown, hts⟩ (k_copy l G g hg f 222 36 (P2 0) (P2 1) (N2 0) (E2 0) (N2 1) (E2 1) (N2 2) (E2 2) (N2 3) (E2 3) (N2 4) (E2 4) lf1 tf1 pay fine np dp nf df nr dr na da nt ct lf tf LL cl LG sl TL cw TG sw hbk1 hp1r hp1d hf1r hf1d hr1r hr1d ha1r ha1d ht1r ht1d hsl1 hal1 hsw1 haw1 hbk hpr hpd hfr hfd hor hod har had htr hct hla hlaa hts0 htsa (by first | assumption | omega | decide) (by first | assumption | omega | decide) (by first | assumption | omega | decide) (by first | assumption | omega | decide) (by first | assumption | omega | decide) (hlf1) (htf1) (by first | assumption | omega | decide) (by first | assumption | omega | decide) (by first | assumption | omega | decide) (by first | assumption | omega | decide) (by first | assumption | omega | decide) (hlf) (htf) (by first | assumption | omega | decide) (by first | assumption | omega | decide) (by first | assumption | omega | decide) (fun z hz => ltx_ok (hKl1 z hz)) (fun z hz => okT_of_txt (hKw1 z hz)) (hKl2) (hKw2)) (my_cwV hts ok_X0_copy w_894 rfl rfl ⟨Nat.le_of_ble_eq_true rfl, Nat.le_of_ble_eq_true rfl⟩) ⟨bP.blind, va_recv hG.1 hP (ci := 0) (q0 := 222) rfl (wl_at (by decide) hbk1), fun U hU hW => ⟨rfl, by rw [hU]; exact hP, kG.warm hW hG⟩⟩ rfl rfl hl.1 rfl (lv_room (Nat.le_of_ble_eq_true rfl)) dX10_image_22 ⟨Nat.le_of_ble_eq_true rfl, Nat.le_of_ble_eq_true rfl⟩) hS (fun f_3 H locs hq9 hP hS => ?_)
      obtain ⟨dp910, df911, dr912, da913, dt914, gl915, sl916, gw917, sw918, hq_3_0, hq_3_1, hq_3_2, hq_3_3, hq_3_4, hq_3_5, hq_3_6, hq_3_7, hq_3_8, hq_3_9, hq_3_10, hq_3_11, hq_3_12, hq_3_13, hq_3_14, hx_3_0, hx_3_1, hx_3_2, hx_3_3, hx_3_4, hx_3_5, hx_3_6, hx_3_7, hx_3_8, o_3⟩ := hq9
      have hbk1 : f_3 222 = eO 0 [.ref (g (222 + 1)), .ref (g (222 + 3)), .ref (g (222 + 5)), .ref (g (222 + 7)), .ref (g (222 + 9)), .ref (g (222 + 11)), .ref (g (222 + 76)), .int pay, .int fine] := hq_3_0
      have hp1r : f_3 223 = eO 5 [.int (nI 30), .int (nI 4), .ref (g (222 + 2)), .int (nI np)] := hq_3_1
      have hp1d : f_3 224 = eI G (30 * 4) dp910 := hq_3_2
      have hf1r : f_3 225 = eO 5 [.int (nI 40), .int (nI 3), .ref (g (222 + 4)), .int (nI nf)] := hq_3_3
      have hf1d : f_3 226 = eI G (40 * 3) df911 := hq_3_4
      have hr1r : f_3 227 = eO 5 [.int (nI 4), .int (nI 3), .ref (g (222 + 6)), .int (nI nr)] := hq_3_5
      have hr1d : f_3 228 = eI G (4 * 3) dr912 := hq_3_6
      have ha1r : f_3 229 = eO 5 [.int (nI 20), .int (nI 3), .ref (g (222 + 8)), .int (nI na)] := hq_3_7
      have ha1d : f_3 230 = eI G (20 * 3) da913 := hq_3_8
      have ht1r : f_3 231 = eO 5 [.int (nI 10), .int (nI 70), .ref (g (222 + 10)), .int (nI nt)] := hq_3_9
      have ht1d : f_3 232 = eI G (10 * 70) dt914 := hq_3_10
      have hsl1 : f_3 233 = eO 6 [.ref (g (222 + 12)), .ref (g (222 + 13))] := hq_3_11
      have hal1 : f_3 234 = eA G 5 20 lf1 := hq_3_12
      have hsw1 : f_3 298 = eO 6 [.ref (g (222 + 77)), .ref (g (222 + 78))] := hq_3_13
      have haw1 : f_3 299 = eA G 5 4 tf1 := hq_3_14
      have hNLx : ∀ z, z < 20 → isT G g f_3 (3 * z + (222 + 11) + 5) (LL z) (cl z) (gl915 z) (sl916 z) := hx_3_5
      have hNWx : ∀ z, z < 4 → isT G g f_3 (3 * z + (222 + 76) + 5) (TL z) (cw z) (gw917 z) (sw918 z) := hx_3_7
      refine lv_aload_n hx hb dX10_image_25 rfl (lv_at hl 0 rfl) ?_
      replace hx0 := ((o_3 0 (by first | decide | omega))).trans hx0
      refine va_get (D := G.1) (ci := 9) (v := .ref (g 3)) (C := RX10) (T := TX10) (N := 7) hx hb hts inlX10 hown hG.1 hP 0 (wl_at (by decide) hx0) rfl 3 (by decide) (hts (.fieldLink RX10 27 "SwornLists" "kept" "[Z") w_20) (fun _ h9 => h9) rfl dX10_image_26 ?_
      refine lv_iload_n hx hb dX10_image_29 rfl (lv_at hl 1 rfl) ?_
      refine lv_iconst (v := 1) hx hb dX10_image_30 (by decide) ?_
      replace hkp := ((o_3 3 (by first | decide | omega))).trans hkp
      refine va_zast hx hb hG.1 hP (wl_D hg f_3) hS 3 2 (wl_at (by decide) hkp) rfl (by unfold vp_in; decide) dX10_image_31 (fun H locs hP _ hS => ?_)
      obtain ⟨f_4, hP, e_4, o_4⟩ := b_put (by decide) hP
      have hkp : f_4 3 = eZ G 2 (upd kf (Int32.toNatClampNeg 1) (vp_nar .boolean 1)) := e_4
      refine lv_iconst (v := 1) hx hb dX10_image_32 (by decide) ?_
      replace hbk1 := ((o_4 222 (by decide))).trans hbk1
      replace hp1r := ((o_4 223 (by decide))).trans hp1r
      replace hp1d := ((o_4 224 (by decide))).trans hp1d
      replace hf1r := ((o_4 225 (by decide))).trans hf1r
      replace hf1d := ((o_4 226 (by decide))).trans hf1d
      replace hr1r := ((o_4 227 (by decide))).trans hr1r
      replace hr1d := ((o_4 228 (by decide))).trans hr1d
      replace ha1r := ((o_4 229 (by decide))).trans ha1r
      replace ha1d := ((o_4 230 (by decide))).trans ha1d
      replace ht1r := ((o_4 231 (by decide))).trans ht1r
      replace ht1d := ((o_4 232 (by decide))).trans ht1d
      replace hsl1 := ((o_4 233 (by decide))).trans hsl1
      replace hal1 := ((o_4 234 (by decide))).trans hal1
      replace hsw1 := ((o_4 298 (by decide))).trans hsw1
      replace haw1 := ((o_4 299 (by decide))).trans haw1
      refine W_q9 hQ9 ?_
      replace hx0 := ((o_4 0 (by decide))).trans hx0
      replace hctc := ((o_4 1 (by decide)).trans ((o_3 1 (by first | decide | omega)))).trans hctc
      replace hhs := ((o_4 12 (by decide)).trans ((o_3 12 (by first | decide | omega)))).trans hhs
      replace him := ((o_4 2 (by decide)).trans ((o_3 2 (by first | decide | omega)))).trans him
      replace hrd := ((o_4 4 (by decide)).trans ((o_3 4 (by first | decide | omega)))).trans hrd
      replace hmk := ((o_4 5 (by decide)).trans ((o_3 5 (by first | decide | omega)))).trans hmk
      replace hfc6 := ((o_4 6 (by decide)).trans ((o_3 6 (by first | decide | omega)))).trans hfc6
      replace hwt := ((o_4 7 (by decide)).trans ((o_3 7 (by first | decide | omega)))).trans hwt
      replace hw8 := ((o_4 8 (by decide)).trans ((o_3 8 (by first | decide | omega)))).trans hw8
      replace hw9 := ((o_4 9 (by decide)).trans ((o_3 9 (by first | decide | omega)))).trans hw9
      replace hw10 := ((o_4 10 (by decide)).trans ((o_3 10 (by first | decide | omega)))).trans hw10
      replace hw11 := ((o_4 11 (by decide)).trans ((o_3 11 (by first | decide | omega)))).trans hw11
      replace hvl := ((o_4 15 (by decide)).trans ((o_3 15 (by first | decide | omega)))).trans hvl
      replace hbk := ((o_4 36 (by decide)).trans ((o_3 36 (by first | decide | omega)))).trans hbk
      replace hpr := ((o_4 37 (by decide)).trans ((o_3 37 (by first | decide | omega)))).trans hpr
      replace hpd := ((o_4 38 (by decide)).trans ((o_3 38 (by first | decide | omega)))).trans hpd
      replace hfr := ((o_4 39 (by decide)).trans ((o_3 39 (by first | decide | omega)))).trans hfr
      replace hfd := ((o_4 40 (by decide)).trans ((o_3 40 (by first | decide | omega)))).trans hfd
      replace hor := ((o_4 41 (by decide)).trans ((o_3 41 (by first | decide | omega)))).trans hor
      replace hod := ((o_4 42 (by decide)).trans ((o_3 42 (by first | decide | omega)))).trans hod
      replace har := ((o_4 43 (by decide)).trans ((o_3 43 (by first | decide | omega)))).trans har
      replace had := ((o_4 44 (by decide)).trans ((o_3 44 (by first | decide | omega)))).trans had
      replace htr := ((o_4 45 (by decide)).trans ((o_3 45 (by first | decide | omega)))).trans htr
      replace hct := ((o_4 46 (by decide)).trans ((o_3 46 (by first | decide | omega)))).trans hct
      replace hla := ((o_4 47 (by decide)).trans ((o_3 47 (by first | decide | omega)))).trans hla
      replace hlaa := ((o_4 48 (by decide)).trans ((o_3 48 (by first | decide | omega)))).trans hlaa
      replace hts0 := ((o_4 112 (by decide)).trans ((o_3 112 (by first | decide | omega)))).trans hts0
      replace htsa := ((o_4 113 (by decide)).trans ((o_3 113 (by first | decide | omega)))).trans htsa
      replace hH : ∀ i, i < 10 → okH G g f_3 (2 * i + 16) := fun z hz => okH_fr (hH z hz) (o_3 _ (by omega)) (o_3 _ (by omega))
      replace hH : ∀ i, i < 10 → okH G g f_4 (2 * i + 16) := fun z hz => okH_fr (hH z hz) (o_4 _ (by omega)) (o_4 _ (by omega))
      replace hSp : okH G g f_3 13 := okH_fr hSp (o_3 _ (by omega)) (o_3 _ (by omega))
      replace hSp : okH G g f_4 13 := okH_fr hSp (o_4 _ (by omega)) (o_4 _ (by omega))
      replace hL : ∀ i, i < 20 → ltx G g f_3 (3 * i + 52) (LL i) (LG i) (i < na) := fun z hz => ltx_fr (hL z hz) (o_3 _ (by omega)) (o_3 _ (by omega)) (o_3 _ (by omega))
      replace hL : ∀ i, i < 20 → ltx G g f_4 (3 * i + 52) (LL i) (LG i) (i < na) := fun z hz => ltx_fr (hL z hz) (o_4 _ (by omega)) (o_4 _ (by omega)) (o_4 _ (by omega))
      replace hT : ∀ i, i < 4 → txt G g f_3 (3 * i + 117) (TL i) (TG i) := fun z hz => txt_fr (hT z hz) (o_3 _ (by omega)) (o_3 _ (by omega)) (o_3 _ (by omega))
      replace hT : ∀ i, i < 4 → txt G g f_4 (3 * i + 117) (TL i) (TG i) := fun z hz => txt_fr (hT z hz) (o_4 _ (by omega)) (o_4 _ (by omega)) (o_4 _ (by omega))
      replace hB1 : bkD G g f_3 129 N1 E1 P1 L1 S1 W1 X1 := bkD_fr hB1 (fun j _ _ => o_3 j (by omega))
      replace hB1 : bkD G g f_4 129 N1 E1 P1 L1 S1 W1 X1 := bkD_fr hB1 (fun j _ _ => o_4 j (by omega))
      replace hQ : ∀ z, z < se → cHz G g f_3 np nf nr na dp df dr da ct LL LG z := fun z hz => okQ_fr (hQ z hz) (o_3 _ (by omega)) (o_3 _ (by omega))
      replace hQ : ∀ z, z < se → cHz G g f_4 np nf nr na dp df dr da ct LL LG z := fun z hz => okQ_fr (hQ z hz) (o_4 _ (by omega)) (o_4 _ (by omega))
      replace hNLx : ∀ z, z < 20 → isT G g f_4 (3 * z + (222 + 11) + 5) (LL z) (cl z) (gl915 z) (sl916 z) := fun z hz => isT_fr (hNLx z hz) (o_4 _ (by omega)) (o_4 _ (by omega)) (o_4 _ (by omega))
      replace hNWx : ∀ z, z < 4 → isT G g f_4 (3 * z + (222 + 76) + 5) (TL z) (cw z) (gw917 z) (sw918 z) := fun z hz => isT_fr (hNWx z hz) (o_4 _ (by omega)) (o_4 _ (by omega)) (o_4 _ (by omega))
      exact W.iret (v := 1) hx hb hr (fun _ hT9 _ => ⟨⟨_, f_4, rfl, (⟨(upd kf (Int32.toNatClampNeg 1) (vp_nar .boolean 1)), N1, E1, P1, L1, S1, W1, X1, (mkN np nf nr na nt), (mkE dp910 df911 dr912 da913 dt914), (mkP pay fine), TL, gw917, LL, gl915, cJ_mk (se) (hf) (imf) (mc) (op) (cm) (wu) (mk) (ab) (be) (mn) (le) (wt) (ww) (wb) (wf) (vv) (lf) (tf) (hx0) (hctc) (hhs) (him) (hkp) (hrd) (hmk) (hfc6) (hwt) (hw8) (hw9) (hw10) (hw11) (hvl) (hbk) (hpr) (hpd) (hfr) (hfd) (hor) (hod) (har) (had) (htr) (hct) (hla) (hlaa) (hts0) (htsa) (by omega) (hhf) (him0) (him1) (by omega) (by omega) (by omega) (by omega) (by omega) (by omega) (by omega) (hlf) (htf) (by omega) (hH) (hSp) (hL) (hT) (hB1) (⟨lf1, tf1, hbk1, hp1r, hp1d, hf1r, hf1d, hr1r, hr1d, ha1r, ha1d, ht1r, ht1d, hsl1, hal1, hsw1, haw1, (show np ≤ 30 by omega), (show nf ≤ 40 by omega), (show nr ≤ 4 by omega), (show na ≤ 20 by omega), (show nt ≤ 10 by omega), hlf1, htf1, (fun z hz => ⟨_, _, hNLx z hz, fun q => ltx_cp (hNLx z hz).2.2.2.1 (hNLx z hz).2.2.2.2 (hx_3_6 z hz) (hKl3 z hz q)⟩), (fun z hz => ⟨_, _, hNWx z hz⟩)⟩) (hQ), (Or.inr (Or.inr ⟨rfl, rfl, rfl, ⟨rfl, hx_3_3, fun _ _ => rfl, fun z hz q hq => (hx_3_6 z hz q hq).1, rfl, rfl, rfl, rfl, hx_3_0, hx_3_1, hx_3_2, hx_3_4, rfl, rfl, fun _ _ => rfl, fun z hz q hq => (hx_3_8 z hz q hq).1⟩, rfl, rfl, rfl, rfl, rfl, rfl, rfl⟩)), fun j hj => ((o_4 j (by omega))).trans (o_3 j (by omega))⟩), by rw [hT9]; exact hP⟩, hS.F hT9⟩) hS.2.2 dX10_image_33
  · refine lv_bipush (v := (-2)) hx hb dX10_image_9 (by decide) ?_
    refine W_q9 hQ9 ?_
    exact W.iret (v := (-2)) hx hb hr (fun _ hT9 _ => ⟨⟨_, f, rfl, (⟨kf, N1, E1, P1, L1, S1, W1, X1, N2, E2, P2, L2, S2, W2, X2, cJ_mk (se) (hf) (imf) (mc) (op) (cm) (wu) (mk) (ab) (be) (mn) (le) (wt) (ww) (wb) (wf) (vv) (lf) (tf) (hx0) (hctc) (hhs) (him) (hkp) (hrd) (hmk) (hfc6) (hwt) (hw8) (hw9) (hw10) (hw11) (hvl) (hbk) (hpr) (hpd) (hfr) (hfd) (hor) (hod) (har) (had) (htr) (hct) (hla) (hlaa) (hts0) (htsa) (by omega) (hhf) (him0) (him1) (by omega) (by omega) (by omega) (by omega) (by omega) (by omega) (by omega) (hlf) (htf) (by omega) (hH) (hSp) (hL) (hT) (hB1) (hB2) (hQ), (Or.inl ⟨c_6, rfl, rfl, rfl, rfl, rfl, rfl, rfl, rfl, rfl, rfl, rfl, rfl, rfl, rfl, rfl, rfl⟩), fun j hj => rfl⟩), by rw [hT9]; exact hP⟩, hS.F hT9⟩) hS.2.2 dX10_image_11
theorem j_image (l : Launch) (G : gW) (g : Nat → Nat) (hg : gOK g) (f : Nat → va_E) (np : Nat) (dp : Nat → Int32) (nf : Nat) (df : Nat → Int32) (nr : Nat) (dr : Nat → Int32) (nt : Nat) (ct : Nat → Int32) (pay : Int32) (fine : Int32) (kf : Nat → Int32) (na : Nat) (da : Nat → Int32) (TL : Nat → Nat) (TG : Nat → Nat → Int32) (LL : Nat → Nat) (LG : Nat → Nat → Int32) (N1 : Nat → Nat) (E1 : Nat → Nat → Int32) (P1 : Nat → Int32) (L1 : Nat → Nat) (S1 : Nat → Nat → Int32) (W1 : Nat → Nat) (X1 : Nat → Nat → Int32) (N2 : Nat → Nat) (E2 : Nat → Nat → Int32) (P2 : Nat → Int32) (L2 : Nat → Nat) (S2 : Nat → Nat → Int32) (W2 : Nat → Nat) (X2 : Nat → Nat → Int32) (a1 : Int32) (hI : cJ G g f np dp nf df nr dr nt ct pay fine kf na da TL TG LL LG N1 E1 P1 L1 S1 W1 X1 N2 E2 P2 L2 S2 W2 X2) (hTr : trC ct nt) : Met l yX10_image (wsT yX10_image cX10_image 2 (some .int)) ({ frames := 4, cells := 0, slots := 0, locals := 82 }) (bP G g f [.ref (g 0), .int a1]) (bQi G g (fun (z9 : Int32) (f' : Nat → va_E) => ∃ kf9 : Nat → Int32, ∃ N19 : Nat → Nat, ∃ E19 : Nat → Nat → Int32, ∃ P19 : Nat → Int32, ∃ L19 : Nat → Nat, ∃ S19 : Nat → Nat → Int32, ∃ W19 : Nat → Nat, ∃ X19 : Nat → Nat → Int32, ∃ N29 : Nat → Nat, ∃ E29 : Nat → Nat → Int32, ∃ P29 : Nat → Int32, ∃ L29 : Nat → Nat, ∃ S29 : Nat → Nat → Int32, ∃ W29 : Nat → Nat, ∃ X29 : Nat → Nat → Int32, (cJ G g f' np dp nf df nr dr nt ct pay fine kf9 na da TL TG LL LG N19 E19 P19 L19 S19 W19 X19 N29 E29 P29 L29 S29 W29 X29) ∧ ((¬ inB 0 a1 1 = true ∧ z9 = -2 ∧ kf9 = kf ∧ N19 = N1 ∧ E19 = E1 ∧ P19 = P1 ∧ L19 = L1 ∧ S19 = S1 ∧ W19 = W1 ∧ X19 = X1 ∧ N29 = N2 ∧ E29 = E2 ∧ P29 = P2 ∧ L29 = L2 ∧ S29 = S2 ∧ W29 = W2 ∧ X29 = X2) ∨ ((a1 : Int32) = 0 ∧ z9 = 1 ∧ kf9 = upd kf (Int32.toNatClampNeg 0) (vp_nar .boolean 1) ∧ eqD N19 E19 P19 L19 S19 W19 X19 (mkN np nf nr na nt) (mkE dp df dr da ct) (mkP pay fine) TL TG LL LG ∧ N29 = N2 ∧ E29 = E2 ∧ P29 = P2 ∧ L29 = L2 ∧ S29 = S2 ∧ W29 = W2 ∧ X29 = X2) ∨ ((a1 : Int32) = 1 ∧ z9 = 1 ∧ kf9 = upd kf (Int32.toNatClampNeg 1) (vp_nar .boolean 1) ∧ eqD N29 E29 P29 L29 S29 W29 X29 (mkN np nf nr na nt) (mkE dp df dr da ct) (mkP pay fine) TL TG LL LG ∧ N19 = N1 ∧ E19 = E1 ∧ P19 = P1 ∧ L19 = L1 ∧ S19 = S1 ∧ W19 = W1 ∧ X19 = X1)) ∧ ∀ j, 315 ≤ j → f' j = f j)) 0 0 (gA g) := cJ_elim hI (fun se hf imf mc op cm wu mk ab be mn le wt ww wb wf vv lf tf hx0 hctc hhs him hkp hrd hmk hfc6 hwt hw8 hw9 hw10 hw11 hvl hbk hpr hpd hfr hfd hor hod har had htr hct hla hlaa hts0 htsa hse hhf him0 him1 hmc hmn hnp hnf hnr hna hnt hlf htf hsn hH hSp hL hT hB1 hB2 hQ => jn_image l G g hg f se hf imf kf mc op cm wu mk ab be mn le wt ww wb wf vv pay fine np dp nf df nr dr na da nt ct lf tf TL TG LL LG N1 E1 P1 L1 S1 W1 X1 N2 E2 P2 L2 S2 W2 X2 a1 hx0 hctc hhs him hkp hrd hmk hfc6 hwt hw8 hw9 hw10 hw11 hvl hbk hpr hpd hfr hfd hor hod har had htr hct hla hlaa hts0 htsa hse hhf him0 him1 hmc hmn hnp hnf hnr hna hnt hlf htf hsn hTr hH hSp hL hT hB1 hB2 hQ)
set_option maxHeartbeats 4000000 in
set_option maxRecDepth 100000 in
theorem jn_from (l : Launch) (G : gW) (g : Nat → Nat) (hg : gOK g) (f : Nat → va_E) (se : Nat) (hf : Nat → Option Nat) (imf : Nat → Option Nat) (kf : Nat → Int32) (mc : Nat) (op : Int32) (cm : Int32) (wu : Int32) (mk : Nat → Int32) (ab : Int64) (be : Int64) (mn : Nat) (le : Int32) (wt : Nat → Int32) (ww : Nat → Int32) (wb : Nat → Int32) (wf : Nat → Int32) (vv : Nat → Int64) (pay : Int32) (fine : Int32) (np : Nat) (dp : Nat → Int32) (nf : Nat) (df : Nat → Int32) (nr : Nat) (dr : Nat → Int32) (na : Nat) (da : Nat → Int32) (nt : Nat) (ct : Nat → Int32) (lf : Nat → Option Nat) (tf : Nat → Option Nat) (TL : Nat → Nat) (TG : Nat → Nat → Int32) (LL : Nat → Nat) (LG : Nat → Nat → Int32) (N1 : Nat → Nat) (E1 : Nat → Nat → Int32) (P1 : Nat → Int32) (L1 : Nat → Nat) (S1 : Nat → Nat → Int32) (W1 : Nat → Nat) (X1 : Nat → Nat → Int32) (N2 : Nat → Nat) (E2 : Nat → Nat → Int32) (P2 : Nat → Int32) (L2 : Nat → Nat) (S2 : Nat → Nat → Int32) (W2 : Nat → Nat) (X2 : Nat → Nat → Int32) (a1 : Int32) (hx0 : f 0 = eO 9 [.ref (g 1), .ref (g 36), .ref (g 2), .ref (g 3), .ref (g 4), .ref (g 6), .ref (g 7)]) (hctc : f 1 = eO 1 [.ref (g 36), .ref (g 12), .ref (g 13), .ref (g 15), .int (nI se)]) (hhs : f 12 = eA G 4 10 hf) (him : f 2 = eA G 3 2 imf) (hkp : f 3 = eZ G 2 kf) (hrd : f 4 = eO 4 [.ref (g 5), .int (nI mc), .int op, .int cm, .int wu]) (hmk : f 5 = eI G 50 mk) (hfc6 : f 6 = eO 2 [.long ab, .long be]) (hwt : f 7 = eO 8 [.ref (g 8), .ref (g 9), .ref (g 10), .ref (g 11), .int (nI mn), .int le]) (hw8 : f 8 = eI G 6 wt) (hw9 : f 9 = eI G 6 ww) (hw10 : f 10 = eI G 6 wb) (hw11 : f 11 = eI G 6 wf) (hvl : f 15 = eJ G 50 vv) (hbk : f 36 = eO 0 [.ref (g 37), .ref (g 39), .ref (g 41), .ref (g 43), .ref (g 45), .ref (g 47), .ref (g 112), .int pay, .int fine]) (hpr : f 37 = eO 5 [.int (nI 30), .int (nI 4), .ref (g 38), .int (nI np)]) (hpd : f 38 = eI G (30 * 4) dp) (hfr : f 39 = eO 5 [.int (nI 40), .int (nI 3), .ref (g 40), .int (nI nf)]) (hfd : f 40 = eI G (40 * 3) df) (hor : f 41 = eO 5 [.int (nI 4), .int (nI 3), .ref (g 42), .int (nI nr)]) (hod : f 42 = eI G (4 * 3) dr) (har : f 43 = eO 5 [.int (nI 20), .int (nI 3), .ref (g 44), .int (nI na)]) (had : f 44 = eI G (20 * 3) da) (htr : f 45 = eO 5 [.int (nI 10), .int (nI 70), .ref (g 46), .int (nI nt)]) (hct : f 46 = eI G (10 * 70) ct) (hla : f 47 = eO 6 [.ref (g 48), .ref (g 49)]) (hlaa : f 48 = eA G 5 20 lf) (hts0 : f 112 = eO 6 [.ref (g 113), .ref (g 114)]) (htsa : f 113 = eA G 5 4 tf) (hse : se ≤ 10) (hhf : ∀ i, i < 10 → hf i = some (g (2 * i + 16))) (him0 : imf 0 = some (g 129)) (him1 : imf 1 = some (g 222)) (hmc : mc ≤ 50) (hmn : mn ≤ 6) (hnp : np ≤ 30) (hnf : nf ≤ 40) (hnr : nr ≤ 4) (hna : na ≤ 20) (hnt : nt ≤ 10) (hlf : ∀ z, z < 20 → lf z = some (g (47 + 3 * z + 5))) (htf : ∀ z, z < 4 → tf z = some (g (112 + 3 * z + 5))) (hsn : se ≤ nt) (hTr : trC ct nt) (hH : ∀ i, i < 10 → okH G g f (2 * i + 16)) (hSp : okH G g f 13) (hL : ∀ i, i < 20 → ltx G g f (3 * i + 52) (LL i) (LG i) (i < na)) (hT : ∀ i, i < 4 → txt G g f (3 * i + 117) (TL i) (TG i)) (hB1 : bkD G g f 129 N1 E1 P1 L1 S1 W1 X1) (hB2 : bkD G g f 222 N2 E2 P2 L2 S2 W2 X2) (hQ : ∀ z, z < se → cHz G g f np nf nr na dp df dr da ct LL LG z) : Met l yX10_from (wsT yX10_from cX10_from 2 (some .int)) ({ frames := 4, cells := 0, slots := 0, locals := 82 }) (bP G g f [.ref (g 0), .int a1]) (bQi G g (fun (z9 : Int32) (f' : Nat → va_E) => ∃ np9 : Nat, ∃ dp9 : Nat → Int32, ∃ nf9 : Nat, ∃ df9 : Nat → Int32, ∃ nr9 : Nat, ∃ dr9 : Nat → Int32, ∃ nt9 : Nat, ∃ ct9 : Nat → Int32, ∃ pay9 : Int32, ∃ fine9 : Int32, ∃ TL9 : Nat → Nat, ∃ TG9 : Nat → Nat → Int32, ∃ na9 : Nat, ∃ da9 : Nat → Int32, ∃ LL9 : Nat → Nat, ∃ LG9 : Nat → Nat → Int32, (cJ G g f' np9 dp9 nf9 df9 nr9 dr9 nt9 ct9 pay9 fine9 kf na9 da9 TL9 TG9 LL9 LG9 N1 E1 P1 L1 S1 W1 X1 N2 E2 P2 L2 S2 W2 X2) ∧ ((¬ inB 0 a1 1 = true ∧ z9 = -2 ∧ np9 = np ∧ dp9 = dp ∧ nf9 = nf ∧ df9 = df ∧ nr9 = nr ∧ dr9 = dr ∧ nt9 = nt ∧ ct9 = ct ∧ pay9 = pay ∧ fine9 = fine ∧ TL9 = TL ∧ TG9 = TG ∧ na9 = na ∧ da9 = da ∧ LL9 = LL ∧ LG9 = LG) ∨ ((a1 : Int32) = 0 ∧ ((kf (Int32.toNatClampNeg 0) = 0 ∧ z9 = -3 ∧ np9 = np ∧ dp9 = dp ∧ nf9 = nf ∧ df9 = df ∧ nr9 = nr ∧ dr9 = dr ∧ nt9 = nt ∧ ct9 = ct ∧ pay9 = pay ∧ fine9 = fine ∧ TL9 = TL ∧ TG9 = TG ∧ na9 = na ∧ da9 = da ∧ LL9 = LL ∧ LG9 = LG) ∨ (¬ kf (Int32.toNatClampNeg 0) = 0 ∧ z9 = 1 ∧ eqD (mkN np9 nf9 nr9 na9 nt9) (mkE dp9 df9 dr9 da9 ct9) (mkP pay9 fine9) TL9 TG9 LL9 LG9 N1 E1 P1 L1 S1 W1 X1))) ∨ ((a1 : Int32) = 1 ∧ ((kf (Int32.toNatClampNeg 1) = 0 ∧ z9 = -3 ∧ np9 = np ∧ dp9 = dp ∧ nf9 = nf ∧ df9 = df ∧ nr9 = nr ∧ dr9 = dr ∧ nt9 = nt ∧ ct9 = ct ∧ pay9 = pay ∧ fine9 = fine ∧ TL9 = TL ∧ TG9 = TG ∧ na9 = na ∧ da9 = da ∧ LL9 = LL ∧ LG9 = LG) ∨ (¬ kf (Int32.toNatClampNeg 1) = 0 ∧ z9 = 1 ∧ eqD (mkN np9 nf9 nr9 na9 nt9) (mkE dp9 df9 dr9 da9 ct9) (mkP pay9 fine9) TL9 TG9 LL9 LG9 N2 E2 P2 L2 S2 W2 X2)))) ∧ ∀ j, 315 ≤ j → f' j = f j)) 0 0 (gA g) := by
  refine Met.ofW (cc := cX10_from) (maxL := 2) (ret := (some .int)) (by decide) rfl ?_
  intro p e s m args below meth c s₁ B hml hv
  obtain ⟨rfl, hP, hG⟩ := hv
  have hx := B.exec
  have hb := B.bytes
  have hr := B.returns
  have hts := my_hts (atoms_spec (ws := wsT yX10_from cX10_from 2 (some .int)) B.pre)
  have hown : s.vm.findClass RX10 = some m.cls := findClass_of_methodNamed B.named
  have hlocks := B.notSynchronized
  have hS : va_S (gA g) s.heap s.heap [] := va_S.rf
  have hl := lv_entry ([.ref (g 0), .int a1]) (n := 2) (Nat.le_of_ble_eq_true rfl)
  rw [lg_entry_eq]
  generalize (lg_sl ([.ref (g 0), .int a1]) ++ List.replicate (2 - (lg_sl ([.ref (g 0), .int a1])).length) Slot.unset).toArray = ls at hl ⊢
  have hl : lv_has ls 2 [(0, .ref (g 0)), (1, .int a1)] := hl
  refine W_q8 (fun Q9 hQ9 => ?_)
  refine lv_iload_n hx hb dX10_from_0 rfl (lv_at hl 1 rfl) ?_
  refine lv_iconst (v := 0) hx hb dX10_from_1 (by decide) ?_
  refine lv_iconst (v := 1) hx hb dX10_from_2 (by decide) ?_
  refine rd_calli (va_runS (As := [.int a1, .int 0, .int 1]) (rest := []) ⟨hx, hb, hml, hown, hts⟩ (s_within l G g hg f a1 0 1  ) (my_cwS hts ok_X10_within w_134 rfl rfl ⟨Nat.le_of_ble_eq_true rfl, Nat.le_of_ble_eq_true rfl⟩) ⟨bP.blind, fun U hU hW => ⟨rfl, by rw [hU]; exact hP, kG.warm hW hG⟩⟩ rfl rfl hl.1 rfl (lv_room (Nat.le_of_ble_eq_true rfl)) dX10_from_3 ⟨Nat.le_of_ble_eq_true rfl, Nat.le_of_ble_eq_true rfl⟩) (fun r hr9 => ?_)
  subst hr9
  refine my_ifne (tgt := 12) hx hb dX10_from_6 (by decide) (fun c_6 => ?_) (fun c_6 => ?_)
  · rcases inB_01.mp c_6 with e9 | e9
    · subst e9
      obtain ⟨lf1, tf1, hbk1, hp1r, hp1d, hf1r, hf1d, hr1r, hr1d, ha1r, ha1d, ht1r, ht1d, hsl1, hal1, hsw1, haw1, hnp1, hnf1, hnr1, hna1, hnt1, hlf1, htf1, hKl1, hKw1⟩ := id hB1
      refine lv_aload_n hx hb dX10_from_12 rfl (lv_at hl 0 rfl) ?_
      refine va_get (D := G.1) (ci := 9) (v := .ref (g 3)) (C := RX10) (T := TX10) (N := 7) hx hb hts inlX10 hown hG.1 hP 0 (wl_at (by decide) hx0) rfl 3 (by decide) (hts (.fieldLink RX10 27 "SwornLists" "kept" "[Z") w_20) (fun _ h9 => h9) rfl dX10_from_13 ?_
      refine lv_iload_n hx hb dX10_from_16 rfl (lv_at hl 1 rfl) ?_
      refine va_zald hx hb hG.1 hP 3 2 (wl_at (by decide) hkp) rfl (by unfold vp_in; decide) dX10_from_17 ?_
      refine lv_if_ne (tgt := 24) hx hb dX10_from_18 (by decide) (fun c_18 => ?_) (fun c_18 => ?_)
      · refine lv_aload_n hx hb dX10_from_24 rfl (lv_at hl 0 rfl) ?_
        refine va_get (D := G.1) (ci := 9) (v := .ref (g 36)) (C := RX10) (T := TX10) (N := 7) hx hb hts inlX10 hown hG.1 hP 0 (wl_at (by decide) hx0) rfl 1 (by decide) (hts (.fieldLink RX10 20 "SwornLists" "book" "LSwornLists$Book;") w_16) (fun _ h9 => h9) rfl dX10_from_25 ?_
        refine lv_aload_n hx hb dX10_from_28 rfl (lv_at hl 0 rfl) ?_
        refine va_get (D := G.1) (ci := 9) (v := .ref (g 2)) (C := RX10) (T := TX10) (N := 7) hx hb hts inlX10 hown hG.1 hP 0 (wl_at (by decide) hx0) rfl 2 (by decide) (hts (.fieldLink RX10 23 "SwornLists" "images" "[LSwornLists$Book;") w_18) (fun _ h9 => h9) rfl dX10_from_29 ?_
        refine lv_iload_n hx hb dX10_from_32 rfl (lv_at hl 1 rfl) ?_
        refine va_aldq hx hb hG.1 hP 2 3 (wl_at (by decide) him) rfl (by unfold vp_in; decide) dX10_from_33 ?_
        refine my_bea (v := .ref (g 129)) (by rw [show Int32.toNatClampNeg 0 = 0 from rfl, him0]; rfl) ?_
        obtain ⟨cl, sl, hKl2, hKl3⟩ := ltx_sk (P := fun z => 3 * z + (129 + 11) + 5) hKl1
        obtain ⟨cw, sw, hKw2⟩ := txt_sk (P := fun z => 3 * z + (129 + 76) + 5) hKw1
        refine b_callv (va_runV (As := [.ref (g 129)]) (rest := []) ⟨hx, hb, hml, hown, hts⟩ (k_copy l G g hg f 36 129 pay fine np dp nf df nr dr na da nt ct lf tf (P1 0) (P1 1) (N1 0) (E1 0) (N1 1) (E1 1) (N1 2) (E1 2) (N1 3) (E1 3) (N1 4) (E1 4) lf1 tf1 W1 cl X1 sl L1 cw S1 sw hbk hpr hpd hfr hfd hor hod har had htr hct hla hlaa hts0 htsa hbk1 hp1r hp1d hf1r hf1d hr1r hr1d ha1r ha1d ht1r ht1d hsl1 hal1 hsw1 haw1 (by first | assumption | omega | decide) (by first | assumption | omega | decide) (by first | assumption | omega | decide) (by first | assumption | omega | decide) (by first | assumption | omega | decide) (hlf) (htf) (by first | assumption | omega | decide) (by first | assumption | omega | decide) (by first | assumption | omega | decide) (by first | assumption | omega | decide) (by first | assumption | omega | decide) (hlf1) (htf1) (by first | assumption | omega | decide) (by first | assumption | omega | decide) (by first | assumption | omega | decide) (fun z hz => ltx_ok (hL z hz)) (fun z hz => okT_of_txt (hT z hz)) (hKl2) (hKw2)) (my_cwV hts ok_X0_copy w_894 rfl rfl ⟨Nat.le_of_ble_eq_true rfl, Nat.le_of_ble_eq_true rfl⟩) ⟨bP.blind, va_recv hG.1 hP (ci := 0) (q0 := 36) rfl (wl_at (by decide) hbk), fun U hU hW => ⟨rfl, by rw [hU]; exact hP, kG.warm hW hG⟩⟩ rfl rfl hl.1 rfl (lv_room (Nat.le_of_ble_eq_true rfl)) dX10_from_34 ⟨Nat.le_of_ble_eq_true rfl, Nat.le_of_ble_eq_true rfl⟩) hS (fun f_1 H locs hq9 hP hS => ?_)
        obtain ⟨dp91, df92, dr93, da94, dt95, gl96, sl97, gw98, sw99, hq_1_0, hq_1_1, hq_1_2, hq_1_3, hq_1_4, hq_1_5, hq_1_6, hq_1_7, hq_1_8, hq_1_9, hq_1_10, hq_1_11, hq_1_12, hq_1_13, hq_1_14, hx_1_0, hx_1_1, hx_1_2, hx_1_3, hx_1_4, hx_1_5, hx_1_6, hx_1_7, hx_1_8, o_1⟩ := hq9
        have hbk : f_1 36 = eO 0 [.ref (g (36 + 1)), .ref (g (36 + 3)), .ref (g (36 + 5)), .ref (g (36 + 7)), .ref (g (36 + 9)), .ref (g (36 + 11)), .ref (g (36 + 76)), .int (P1 0), .int (P1 1)] := hq_1_0
        have hpr : f_1 37 = eO 5 [.int (nI 30), .int (nI 4), .ref (g (36 + 2)), .int (nI (N1 0))] := hq_1_1
        have hpd : f_1 38 = eI G (30 * 4) dp91 := hq_1_2
        have hfr : f_1 39 = eO 5 [.int (nI 40), .int (nI 3), .ref (g (36 + 4)), .int (nI (N1 1))] := hq_1_3
        have hfd : f_1 40 = eI G (40 * 3) df92 := hq_1_4
        have hor : f_1 41 = eO 5 [.int (nI 4), .int (nI 3), .ref (g (36 + 6)), .int (nI (N1 2))] := hq_1_5
        have hod : f_1 42 = eI G (4 * 3) dr93 := hq_1_6
        have har : f_1 43 = eO 5 [.int (nI 20), .int (nI 3), .ref (g (36 + 8)), .int (nI (N1 3))] := hq_1_7
        have had : f_1 44 = eI G (20 * 3) da94 := hq_1_8
        have htr : f_1 45 = eO 5 [.int (nI 10), .int (nI 70), .ref (g (36 + 10)), .int (nI (N1 4))] := hq_1_9
        have hct : f_1 46 = eI G (10 * 70) dt95 := hq_1_10
        have hla : f_1 47 = eO 6 [.ref (g (36 + 12)), .ref (g (36 + 13))] := hq_1_11
        have hlaa : f_1 48 = eA G 5 20 lf := hq_1_12
        have hts0 : f_1 112 = eO 6 [.ref (g (36 + 77)), .ref (g (36 + 78))] := hq_1_13
        have htsa : f_1 113 = eA G 5 4 tf := hq_1_14
        have hNLx : ∀ z, z < 20 → isT G g f_1 (3 * z + (36 + 11) + 5) (W1 z) (cl z) (gl96 z) (sl97 z) := hx_1_5
        have hNWx : ∀ z, z < 4 → isT G g f_1 (3 * z + (36 + 76) + 5) (L1 z) (cw z) (gw98 z) (sw99 z) := hx_1_7
        refine lv_aload_n hx hb dX10_from_37 rfl (lv_at hl 0 rfl) ?_
        replace hx0 := ((o_1 0 (by first | decide | omega))).trans hx0
        refine va_get (D := G.1) (ci := 9) (v := .ref (g 1)) (C := RX10) (T := TX10) (N := 7) hx hb hts inlX10 hown hG.1 hP 0 (wl_at (by decide) hx0) rfl 0 (by decide) (hts (.fieldLink RX10 12 "SwornLists" "court" "LSwornLists$Court;") w_15) (fun _ h9 => h9) rfl dX10_from_38 ?_
        refine lv_iconst (v := 0) hx hb dX10_from_41 (by decide) ?_
        replace hctc := ((o_1 1 (by first | decide | omega))).trans hctc
        refine b_callv (va_runV (As := [.int 0]) (rest := []) ⟨hx, hb, hml, hown, hts⟩ (u_unsettle l G g hg f_1 se 0 hctc (by first | assumption | omega | decide) (by first | assumption | omega | decide)) (my_cwV hts ok_X1_unsettle w_146 rfl rfl ⟨Nat.le_of_ble_eq_true rfl, Nat.le_of_ble_eq_true rfl⟩) ⟨bP.blind, va_recv hG.1 hP (ci := 1) (q0 := 1) rfl (wl_at (by decide) hctc), fun U hU hW => ⟨rfl, by rw [hU]; exact hP, kG.warm hW hG⟩⟩ rfl rfl hl.1 rfl (lv_room (Nat.le_of_ble_eq_true rfl)) dX10_from_42 ⟨Nat.le_of_ble_eq_true rfl, Nat.le_of_ble_eq_true rfl⟩) hS (fun f_2 H locs hq9 hP hS => ?_)
        obtain ⟨hq_2_0, o_2⟩ := hq9
        have hctc : f_2 1 = eO 1 [.ref (g 36), .ref (g 12), .ref (g 13), .ref (g 15), .int (nI (min se 0))] := hq_2_0
        refine lv_iconst (v := 1) hx hb dX10_from_45 (by decide) ?_
        refine W_q9 hQ9 ?_
        replace hx0 := ((o_2 0 (by first | decide | omega))).trans hx0
        replace hhs := ((o_2 12 (by first | decide | omega)).trans ((o_1 12 (by first | decide | omega)))).trans hhs
        replace him := ((o_2 2 (by first | decide | omega)).trans ((o_1 2 (by first | decide | omega)))).trans him
        replace hkp := ((o_2 3 (by first | decide | omega)).trans ((o_1 3 (by first | decide | omega)))).trans hkp
        replace hrd := ((o_2 4 (by first | decide | omega)).trans ((o_1 4 (by first | decide | omega)))).trans hrd
        replace hmk := ((o_2 5 (by first | decide | omega)).trans ((o_1 5 (by first | decide | omega)))).trans hmk
        replace hfc6 := ((o_2 6 (by first | decide | omega)).trans ((o_1 6 (by first | decide | omega)))).trans hfc6
        replace hwt := ((o_2 7 (by first | decide | omega)).trans ((o_1 7 (by first | decide | omega)))).trans hwt
        replace hw8 := ((o_2 8 (by first | decide | omega)).trans ((o_1 8 (by first | decide | omega)))).trans hw8
        replace hw9 := ((o_2 9 (by first | decide | omega)).trans ((o_1 9 (by first | decide | omega)))).trans hw9
        replace hw10 := ((o_2 10 (by first | decide | omega)).trans ((o_1 10 (by first | decide | omega)))).trans hw10
        replace hw11 := ((o_2 11 (by first | decide | omega)).trans ((o_1 11 (by first | decide | omega)))).trans hw11
        replace hvl := ((o_2 15 (by first | decide | omega)).trans ((o_1 15 (by first | decide | omega)))).trans hvl
        replace hbk := ((o_2 36 (by first | decide | omega))).trans hbk
        replace hpr := ((o_2 37 (by first | decide | omega))).trans hpr
        replace hpd := ((o_2 38 (by first | decide | omega))).trans hpd
        replace hfr := ((o_2 39 (by first | decide | omega))).trans hfr
        replace hfd := ((o_2 40 (by first | decide | omega))).trans hfd
        replace hor := ((o_2 41 (by first | decide | omega))).trans hor
        replace hod := ((o_2 42 (by first | decide | omega))).trans hod
        replace har := ((o_2 43 (by first | decide | omega))).trans har
        replace had := ((o_2 44 (by first | decide | omega))).trans had
        replace htr := ((o_2 45 (by first | decide | omega))).trans htr
        replace hct := ((o_2 46 (by first | decide | omega))).trans hct
        replace hla := ((o_2 47 (by first | decide | omega))).trans hla
        replace hlaa := ((o_2 48 (by first | decide | omega))).trans hlaa
        replace hts0 := ((o_2 112 (by first | decide | omega))).trans hts0
        replace htsa := ((o_2 113 (by first | decide | omega))).trans htsa
        replace hH : ∀ i, i < 10 → okH G g f_1 (2 * i + 16) := fun z hz => okH_fr (hH z hz) (o_1 _ (by omega)) (o_1 _ (by omega))
        replace hH : ∀ i, i < 10 → okH G g f_2 (2 * i + 16) := fun z hz => okH_fr (hH z hz) (o_2 _ (by omega)) (o_2 _ (by omega))
        replace hSp : okH G g f_1 13 := okH_fr hSp (o_1 _ (by omega)) (o_1 _ (by omega))
        replace hSp : okH G g f_2 13 := okH_fr hSp (o_2 _ (by omega)) (o_2 _ (by omega))
        replace hB1 : bkD G g f_1 129 N1 E1 P1 L1 S1 W1 X1 := bkD_fr hB1 (fun j _ _ => o_1 j (by omega))
        replace hB1 : bkD G g f_2 129 N1 E1 P1 L1 S1 W1 X1 := bkD_fr hB1 (fun j _ _ => o_2 j (by omega))
        replace hB2 : bkD G g f_1 222 N2 E2 P2 L2 S2 W2 X2 := bkD_fr hB2 (fun j _ _ => o_1 j (by omega))
        replace hB2 : bkD G g f_2 222 N2 E2 P2 L2 S2 W2 X2 := bkD_fr hB2 (fun j _ _ => o_2 j (by omega))
        replace hNLx : ∀ z, z < 20 → isT G g f_2 (3 * z + (36 + 11) + 5) (W1 z) (cl z) (gl96 z) (sl97 z) := fun z hz => isT_fr (hNLx z hz) (o_2 _ (by omega)) (o_2 _ (by omega)) (o_2 _ (by omega))
        replace hNWx : ∀ z, z < 4 → isT G g f_2 (3 * z + (36 + 76) + 5) (L1 z) (cw z) (gw98 z) (sw99 z) := fun z hz => isT_fr (hNWx z hz) (o_2 _ (by omega)) (o_2 _ (by omega)) (o_2 _ (by omega))
        exact W.iret (v := 1) hx hb hr (fun _ hT9 _ => ⟨⟨_, f_2, rfl, (⟨(N1 0), dp91, (N1 1), df92, (N1 2), dr93, (N1 4), dt95, (P1 0), (P1 1), L1, gw98, (N1 3), da94, W1, gl96, cJ_mk ((min se 0)) (hf) (imf) (mc) (op) (cm) (wu) (mk) (ab) (be) (mn) (le) (wt) (ww) (wb) (wf) (vv) (lf) (tf) (hx0) (hctc) (hhs) (him) (hkp) (hrd) (hmk) (hfc6) (hwt) (hw8) (hw9) (hw10) (hw11) (hvl) (hbk) (hpr) (hpd) (hfr) (hfd) (hor) (hod) (har) (had) (htr) (hct) (hla) (hlaa) (hts0) (htsa) (by omega) (hhf) (him0) (him1) (by omega) (by omega) (by omega) (by omega) (by omega) (by omega) (by omega) (hlf) (htf) (by omega) (hH) (hSp) ((fun z hz => ⟨_, _, hNLx z hz, fun q => ltx_cp (hNLx z hz).2.2.2.1 (hNLx z hz).2.2.2.2 (hx_1_6 z hz) (hKl3 z hz q)⟩)) ((fun z hz => ⟨_, _, hNWx z hz⟩)) (hB1) (hB2) ((fun z hz => absurd hz (by omega))), (Or.inr (Or.inl ⟨rfl, Or.inr ⟨c_18, rfl, ⟨rfl, hx_1_3, fun _ _ => rfl, fun z hz q hq => (hx_1_6 z hz q hq).1, rfl, rfl, rfl, rfl, hx_1_0, hx_1_1, hx_1_2, hx_1_4, rfl, rfl, fun _ _ => rfl, fun z hz q hq => (hx_1_8 z hz q hq).1⟩⟩⟩)), fun j hj => ((o_2 j (by omega))).trans (o_1 j (by omega))⟩), by rw [hT9]; exact hP⟩, hS.F hT9⟩) hS.2.2 dX10_from_46
      · refine lv_bipush (v := (-3)) hx hb dX10_from_21 (by decide) ?_
        refine W_q9 hQ9 ?_
        exact W.iret (v := (-3)) hx hb hr (fun _ hT9 _ => ⟨⟨_, f, rfl, (⟨np, dp, nf, df, nr, dr, nt, ct, pay, fine, TL, TG, na, da, LL, LG, cJ_mk (se) (hf) (imf) (mc) (op) (cm) (wu) (mk) (ab) (be) (mn) (le) (wt) (ww) (wb) (wf) (vv) (lf) (tf) (hx0) (hctc) (hhs) (him) (hkp) (hrd) (hmk) (hfc6) (hwt) (hw8) (hw9) (hw10) (hw11) (hvl) (hbk) (hpr) (hpd) (hfr) (hfd) (hor) (hod) (har) (had) (htr) (hct) (hla) (hlaa) (hts0) (htsa) (by omega) (hhf) (him0) (him1) (by omega) (by omega) (by omega) (by omega) (by omega) (by omega) (by omega) (hlf) (htf) (by omega) (hH) (hSp) (hL) (hT) (hB1) (hB2) (hQ), (Or.inr (Or.inl ⟨rfl, Or.inl ⟨c_18, rfl, rfl, rfl, rfl, rfl, rfl, rfl, rfl, rfl, rfl, rfl, rfl, rfl, rfl, rfl, rfl, rfl⟩⟩)), fun j hj => rfl⟩), by rw [hT9]; exact hP⟩, hS.F hT9⟩) hS.2.2 dX10_from_23
    · subst e9
      obtain ⟨lf1, tf1, hbk1, hp1r, hp1d, hf1r, hf1d, hr1r, hr1d, ha1r, ha1d, ht1r, ht1d, hsl1, hal1, hsw1, haw1, hnp1, hnf1, hnr1, hna1, hnt1, hlf1, htf1, hKl1, hKw1⟩ := id hB2
      refine lv_aload_n hx hb dX10_from_12 rfl (lv_at hl 0 rfl) ?_
      refine va_get (D := G.1) (ci := 9) (v := .ref (g 3)) (C := RX10) (T := TX10) (N := 7) hx hb hts inlX10 hown hG.1 hP 0 (wl_at (by decide) hx0) rfl 3 (by decide) (hts (.fieldLink RX10 27 "SwornLists" "kept" "[Z") w_20) (fun _ h9 => h9) rfl dX10_from_13 ?_
      refine lv_iload_n hx hb dX10_from_16 rfl (lv_at hl 1 rfl) ?_
      refine va_zald hx hb hG.1 hP 3 2 (wl_at (by decide) hkp) rfl (by unfold vp_in; decide) dX10_from_17 ?_
      refine lv_if_ne (tgt := 24) hx hb dX10_from_18 (by decide) (fun c_18 => ?_) (fun c_18 => ?_)
      · refine lv_aload_n hx hb dX10_from_24 rfl (lv_at hl 0 rfl) ?_
        refine va_get (D := G.1) (ci := 9) (v := .ref (g 36)) (C := RX10) (T := TX10) (N := 7) hx hb hts inlX10 hown hG.1 hP 0 (wl_at (by decide) hx0) rfl 1 (by decide) (hts (.fieldLink RX10 20 "SwornLists" "book" "LSwornLists$Book;") w_16) (fun _ h9 => h9) rfl dX10_from_25 ?_
        refine lv_aload_n hx hb dX10_from_28 rfl (lv_at hl 0 rfl) ?_
        refine va_get (D := G.1) (ci := 9) (v := .ref (g 2)) (C := RX10) (T := TX10) (N := 7) hx hb hts inlX10 hown hG.1 hP 0 (wl_at (by decide) hx0) rfl 2 (by decide) (hts (.fieldLink RX10 23 "SwornLists" "images" "[LSwornLists$Book;") w_18) (fun _ h9 => h9) rfl dX10_from_29 ?_
        refine lv_iload_n hx hb dX10_from_32 rfl (lv_at hl 1 rfl) ?_
        refine va_aldq hx hb hG.1 hP 2 3 (wl_at (by decide) him) rfl (by unfold vp_in; decide) dX10_from_33 ?_
        refine my_bea (v := .ref (g 222)) (by rw [show Int32.toNatClampNeg 1 = 1 from rfl, him1]; rfl) ?_
        obtain ⟨cl, sl, hKl2, hKl3⟩ := ltx_sk (P := fun z => 3 * z + (222 + 11) + 5) hKl1
        obtain ⟨cw, sw, hKw2⟩ := txt_sk (P := fun z => 3 * z + (222 + 76) + 5) hKw1
        refine b_callv (va_runV (As := [.ref (g 222)]) (rest := []) ⟨hx, hb, hml, hown, hts⟩ (k_copy l G g hg f 36 222 pay fine np dp nf df nr dr na da nt ct lf tf (P2 0) (P2 1) (N2 0) (E2 0) (N2 1) (E2 1) (N2 2) (E2 2) (N2 3) (E2 3) (N2 4) (E2 4) lf1 tf1 W2 cl X2 sl L2 cw S2 sw hbk hpr hpd hfr hfd hor hod har had htr hct hla hlaa hts0 htsa hbk1 hp1r hp1d hf1r hf1d hr1r hr1d ha1r ha1d ht1r ht1d hsl1 hal1 hsw1 haw1 (by first | assumption | omega | decide) (by first | assumption | omega | decide) (by first | assumption | omega | decide) (by first | assumption | omega | decide) (by first | assumption | omega | decide) (hlf) (htf) (by first | assumption | omega | decide) (by first | assumption | omega | decide) (by first | assumption | omega | decide) (by first | assumption | omega | decide) (by first | assumption | omega | decide) (hlf1) (htf1) (by first | assumption | omega | decide) (by first | assumption | omega | decide) (by first | assumption | omega | decide) (fun z hz => ltx_ok (hL z hz)) (fun z hz => okT_of_txt (hT z hz)) (hKl2) (hKw2)) (my_cwV hts ok_X0_copy w_894 rfl rfl ⟨Nat.le_of_ble_eq_true rfl, Nat.le_of_ble_eq_true rfl⟩) ⟨bP.blind, va_recv hG.1 hP (ci := 0) (q0 := 36) rfl (wl_at (by decide) hbk), fun U hU hW => ⟨rfl, by rw [hU]; exact hP, kG.warm hW hG⟩⟩ rfl rfl hl.1 rfl (lv_room (Nat.le_of_ble_eq_true rfl)) dX10_from_34 ⟨Nat.le_of_ble_eq_true rfl, Nat.le_of_ble_eq_true rfl⟩) hS (fun f_3 H locs hq9 hP hS => ?_)
        obtain ⟨dp910, df911, dr912, da913, dt914, gl915, sl916, gw917, sw918, hq_3_0, hq_3_1, hq_3_2, hq_3_3, hq_3_4, hq_3_5, hq_3_6, hq_3_7, hq_3_8, hq_3_9, hq_3_10, hq_3_11, hq_3_12, hq_3_13, hq_3_14, hx_3_0, hx_3_1, hx_3_2, hx_3_3, hx_3_4, hx_3_5, hx_3_6, hx_3_7, hx_3_8, o_3⟩ := hq9
        have hbk : f_3 36 = eO 0 [.ref (g (36 + 1)), .ref (g (36 + 3)), .ref (g (36 + 5)), .ref (g (36 + 7)), .ref (g (36 + 9)), .ref (g (36 + 11)), .ref (g (36 + 76)), .int (P2 0), .int (P2 1)] := hq_3_0
        have hpr : f_3 37 = eO 5 [.int (nI 30), .int (nI 4), .ref (g (36 + 2)), .int (nI (N2 0))] := hq_3_1
        have hpd : f_3 38 = eI G (30 * 4) dp910 := hq_3_2
        have hfr : f_3 39 = eO 5 [.int (nI 40), .int (nI 3), .ref (g (36 + 4)), .int (nI (N2 1))] := hq_3_3
        have hfd : f_3 40 = eI G (40 * 3) df911 := hq_3_4
        have hor : f_3 41 = eO 5 [.int (nI 4), .int (nI 3), .ref (g (36 + 6)), .int (nI (N2 2))] := hq_3_5
        have hod : f_3 42 = eI G (4 * 3) dr912 := hq_3_6
        have har : f_3 43 = eO 5 [.int (nI 20), .int (nI 3), .ref (g (36 + 8)), .int (nI (N2 3))] := hq_3_7
        have had : f_3 44 = eI G (20 * 3) da913 := hq_3_8
        have htr : f_3 45 = eO 5 [.int (nI 10), .int (nI 70), .ref (g (36 + 10)), .int (nI (N2 4))] := hq_3_9
        have hct : f_3 46 = eI G (10 * 70) dt914 := hq_3_10
        have hla : f_3 47 = eO 6 [.ref (g (36 + 12)), .ref (g (36 + 13))] := hq_3_11
        have hlaa : f_3 48 = eA G 5 20 lf := hq_3_12
        have hts0 : f_3 112 = eO 6 [.ref (g (36 + 77)), .ref (g (36 + 78))] := hq_3_13
        have htsa : f_3 113 = eA G 5 4 tf := hq_3_14
        have hNLx : ∀ z, z < 20 → isT G g f_3 (3 * z + (36 + 11) + 5) (W2 z) (cl z) (gl915 z) (sl916 z) := hx_3_5
        have hNWx : ∀ z, z < 4 → isT G g f_3 (3 * z + (36 + 76) + 5) (L2 z) (cw z) (gw917 z) (sw918 z) := hx_3_7
        refine lv_aload_n hx hb dX10_from_37 rfl (lv_at hl 0 rfl) ?_
        replace hx0 := ((o_3 0 (by first | decide | omega))).trans hx0
        refine va_get (D := G.1) (ci := 9) (v := .ref (g 1)) (C := RX10) (T := TX10) (N := 7) hx hb hts inlX10 hown hG.1 hP 0 (wl_at (by decide) hx0) rfl 0 (by decide) (hts (.fieldLink RX10 12 "SwornLists" "court" "LSwornLists$Court;") w_15) (fun _ h9 => h9) rfl dX10_from_38 ?_
        refine lv_iconst (v := 0) hx hb dX10_from_41 (by decide) ?_
        replace hctc := ((o_3 1 (by first | decide | omega))).trans hctc
        refine b_callv (va_runV (As := [.int 0]) (rest := []) ⟨hx, hb, hml, hown, hts⟩ (u_unsettle l G g hg f_3 se 0 hctc (by first | assumption | omega | decide) (by first | assumption | omega | decide)) (my_cwV hts ok_X1_unsettle w_146 rfl rfl ⟨Nat.le_of_ble_eq_true rfl, Nat.le_of_ble_eq_true rfl⟩) ⟨bP.blind, va_recv hG.1 hP (ci := 1) (q0 := 1) rfl (wl_at (by decide) hctc), fun U hU hW => ⟨rfl, by rw [hU]; exact hP, kG.warm hW hG⟩⟩ rfl rfl hl.1 rfl (lv_room (Nat.le_of_ble_eq_true rfl)) dX10_from_42 ⟨Nat.le_of_ble_eq_true rfl, Nat.le_of_ble_eq_true rfl⟩) hS (fun f_4 H locs hq9 hP hS => ?_)
        obtain ⟨hq_4_0, o_4⟩ := hq9
        have hctc : f_4 1 = eO 1 [.ref (g 36), .ref (g 12), .ref (g 13), .ref (g 15), .int (nI (min se 0))] := hq_4_0
        refine lv_iconst (v := 1) hx hb dX10_from_45 (by decide) ?_
        refine W_q9 hQ9 ?_
        replace hx0 := ((o_4 0 (by first | decide | omega))).trans hx0
        replace hhs := ((o_4 12 (by first | decide | omega)).trans ((o_3 12 (by first | decide | omega)))).trans hhs
        replace him := ((o_4 2 (by first | decide | omega)).trans ((o_3 2 (by first | decide | omega)))).trans him
        replace hkp := ((o_4 3 (by first | decide | omega)).trans ((o_3 3 (by first | decide | omega)))).trans hkp
        replace hrd := ((o_4 4 (by first | decide | omega)).trans ((o_3 4 (by first | decide | omega)))).trans hrd
        replace hmk := ((o_4 5 (by first | decide | omega)).trans ((o_3 5 (by first | decide | omega)))).trans hmk
        replace hfc6 := ((o_4 6 (by first | decide | omega)).trans ((o_3 6 (by first | decide | omega)))).trans hfc6
        replace hwt := ((o_4 7 (by first | decide | omega)).trans ((o_3 7 (by first | decide | omega)))).trans hwt
        replace hw8 := ((o_4 8 (by first | decide | omega)).trans ((o_3 8 (by first | decide | omega)))).trans hw8
        replace hw9 := ((o_4 9 (by first | decide | omega)).trans ((o_3 9 (by first | decide | omega)))).trans hw9
        replace hw10 := ((o_4 10 (by first | decide | omega)).trans ((o_3 10 (by first | decide | omega)))).trans hw10
        replace hw11 := ((o_4 11 (by first | decide | omega)).trans ((o_3 11 (by first | decide | omega)))).trans hw11
        replace hvl := ((o_4 15 (by first | decide | omega)).trans ((o_3 15 (by first | decide | omega)))).trans hvl
        replace hbk := ((o_4 36 (by first | decide | omega))).trans hbk
        replace hpr := ((o_4 37 (by first | decide | omega))).trans hpr
        replace hpd := ((o_4 38 (by first | decide | omega))).trans hpd
        replace hfr := ((o_4 39 (by first | decide | omega))).trans hfr
        replace hfd := ((o_4 40 (by first | decide | omega))).trans hfd
        replace hor := ((o_4 41 (by first | decide | omega))).trans hor
        replace hod := ((o_4 42 (by first | decide | omega))).trans hod
        replace har := ((o_4 43 (by first | decide | omega))).trans har
        replace had := ((o_4 44 (by first | decide | omega))).trans had
        replace htr := ((o_4 45 (by first | decide | omega))).trans htr
        replace hct := ((o_4 46 (by first | decide | omega))).trans hct
        replace hla := ((o_4 47 (by first | decide | omega))).trans hla
        replace hlaa := ((o_4 48 (by first | decide | omega))).trans hlaa
        replace hts0 := ((o_4 112 (by first | decide | omega))).trans hts0
        replace htsa := ((o_4 113 (by first | decide | omega))).trans htsa
        replace hH : ∀ i, i < 10 → okH G g f_3 (2 * i + 16) := fun z hz => okH_fr (hH z hz) (o_3 _ (by omega)) (o_3 _ (by omega))
        replace hH : ∀ i, i < 10 → okH G g f_4 (2 * i + 16) := fun z hz => okH_fr (hH z hz) (o_4 _ (by omega)) (o_4 _ (by omega))
        replace hSp : okH G g f_3 13 := okH_fr hSp (o_3 _ (by omega)) (o_3 _ (by omega))
        replace hSp : okH G g f_4 13 := okH_fr hSp (o_4 _ (by omega)) (o_4 _ (by omega))
        replace hB1 : bkD G g f_3 129 N1 E1 P1 L1 S1 W1 X1 := bkD_fr hB1 (fun j _ _ => o_3 j (by omega))
        replace hB1 : bkD G g f_4 129 N1 E1 P1 L1 S1 W1 X1 := bkD_fr hB1 (fun j _ _ => o_4 j (by omega))
        replace hB2 : bkD G g f_3 222 N2 E2 P2 L2 S2 W2 X2 := bkD_fr hB2 (fun j _ _ => o_3 j (by omega))
        replace hB2 : bkD G g f_4 222 N2 E2 P2 L2 S2 W2 X2 := bkD_fr hB2 (fun j _ _ => o_4 j (by omega))
        replace hNLx : ∀ z, z < 20 → isT G g f_4 (3 * z + (36 + 11) + 5) (W2 z) (cl z) (gl915 z) (sl916 z) := fun z hz => isT_fr (hNLx z hz) (o_4 _ (by omega)) (o_4 _ (by omega)) (o_4 _ (by omega))
        replace hNWx : ∀ z, z < 4 → isT G g f_4 (3 * z + (36 + 76) + 5) (L2 z) (cw z) (gw917 z) (sw918 z) := fun z hz => isT_fr (hNWx z hz) (o_4 _ (by omega)) (o_4 _ (by omega)) (o_4 _ (by omega))
        exact W.iret (v := 1) hx hb hr (fun _ hT9 _ => ⟨⟨_, f_4, rfl, (⟨(N2 0), dp910, (N2 1), df911, (N2 2), dr912, (N2 4), dt914, (P2 0), (P2 1), L2, gw917, (N2 3), da913, W2, gl915, cJ_mk ((min se 0)) (hf) (imf) (mc) (op) (cm) (wu) (mk) (ab) (be) (mn) (le) (wt) (ww) (wb) (wf) (vv) (lf) (tf) (hx0) (hctc) (hhs) (him) (hkp) (hrd) (hmk) (hfc6) (hwt) (hw8) (hw9) (hw10) (hw11) (hvl) (hbk) (hpr) (hpd) (hfr) (hfd) (hor) (hod) (har) (had) (htr) (hct) (hla) (hlaa) (hts0) (htsa) (by omega) (hhf) (him0) (him1) (by omega) (by omega) (by omega) (by omega) (by omega) (by omega) (by omega) (hlf) (htf) (by omega) (hH) (hSp) ((fun z hz => ⟨_, _, hNLx z hz, fun q => ltx_cp (hNLx z hz).2.2.2.1 (hNLx z hz).2.2.2.2 (hx_3_6 z hz) (hKl3 z hz q)⟩)) ((fun z hz => ⟨_, _, hNWx z hz⟩)) (hB1) (hB2) ((fun z hz => absurd hz (by omega))), (Or.inr (Or.inr ⟨rfl, Or.inr ⟨c_18, rfl, ⟨rfl, hx_3_3, fun _ _ => rfl, fun z hz q hq => (hx_3_6 z hz q hq).1, rfl, rfl, rfl, rfl, hx_3_0, hx_3_1, hx_3_2, hx_3_4, rfl, rfl, fun _ _ => rfl, fun z hz q hq => (hx_3_8 z hz q hq).1⟩⟩⟩)), fun j hj => ((o_4 j (by omega))).trans (o_3 j (by omega))⟩), by rw [hT9]; exact hP⟩, hS.F hT9⟩) hS.2.2 dX10_from_46
      · refine lv_bipush (v := (-3)) hx hb dX10_from_21 (by decide) ?_
        refine W_q9 hQ9 ?_
        exact W.iret (v := (-3)) hx hb hr (fun _ hT9 _ => ⟨⟨_, f, rfl, (⟨np, dp, nf, df, nr, dr, nt, ct, pay, fine, TL, TG, na, da, LL, LG, cJ_mk (se) (hf) (imf) (mc) (op) (cm) (wu) (mk) (ab) (be) (mn) (le) (wt) (ww) (wb) (wf) (vv) (lf) (tf) (hx0) (hctc) (hhs) (him) (hkp) (hrd) (hmk) (hfc6) (hwt) (hw8) (hw9) (hw10) (hw11) (hvl) (hbk) (hpr) (hpd) (hfr) (hfd) (hor) (hod) (har) (had) (htr) (hct) (hla) (hlaa) (hts0) (htsa) (by omega) (hhf) (him0) (him1) (by omega) (by omega) (by omega) (by omega) (by omega) (by omega) (by omega) (hlf) (htf) (by omega) (hH) (hSp) (hL) (hT) (hB1) (hB2) (hQ), (Or.inr (Or.inr ⟨rfl, Or.inl ⟨c_18, rfl, rfl, rfl, rfl, rfl, rfl, rfl, rfl, rfl, rfl, rfl, rfl, rfl, rfl, rfl, rfl, rfl⟩⟩)), fun j hj => rfl⟩), by rw [hT9]; exact hP⟩, hS.F hT9⟩) hS.2.2 dX10_from_23
  · refine lv_bipush (v := (-2)) hx hb dX10_from_9 (by decide) ?_
    refine W_q9 hQ9 ?_
    exact W.iret (v := (-2)) hx hb hr (fun _ hT9 _ => ⟨⟨_, f, rfl, (⟨np, dp, nf, df, nr, dr, nt, ct, pay, fine, TL, TG, na, da, LL, LG, cJ_mk (se) (hf) (imf) (mc) (op) (cm) (wu) (mk) (ab) (be) (mn) (le) (wt) (ww) (wb) (wf) (vv) (lf) (tf) (hx0) (hctc) (hhs) (him) (hkp) (hrd) (hmk) (hfc6) (hwt) (hw8) (hw9) (hw10) (hw11) (hvl) (hbk) (hpr) (hpd) (hfr) (hfd) (hor) (hod) (har) (had) (htr) (hct) (hla) (hlaa) (hts0) (htsa) (by omega) (hhf) (him0) (him1) (by omega) (by omega) (by omega) (by omega) (by omega) (by omega) (by omega) (hlf) (htf) (by omega) (hH) (hSp) (hL) (hT) (hB1) (hB2) (hQ), (Or.inl ⟨c_6, rfl, rfl, rfl, rfl, rfl, rfl, rfl, rfl, rfl, rfl, rfl, rfl, rfl, rfl, rfl, rfl, rfl⟩), fun j hj => rfl⟩), by rw [hT9]; exact hP⟩, hS.F hT9⟩) hS.2.2 dX10_from_11
theorem j_from (l : Launch) (G : gW) (g : Nat → Nat) (hg : gOK g) (f : Nat → va_E) (np : Nat) (dp : Nat → Int32) (nf : Nat) (df : Nat → Int32) (nr : Nat) (dr : Nat → Int32) (nt : Nat) (ct : Nat → Int32) (pay : Int32) (fine : Int32) (kf : Nat → Int32) (na : Nat) (da : Nat → Int32) (TL : Nat → Nat) (TG : Nat → Nat → Int32) (LL : Nat → Nat) (LG : Nat → Nat → Int32) (N1 : Nat → Nat) (E1 : Nat → Nat → Int32) (P1 : Nat → Int32) (L1 : Nat → Nat) (S1 : Nat → Nat → Int32) (W1 : Nat → Nat) (X1 : Nat → Nat → Int32) (N2 : Nat → Nat) (E2 : Nat → Nat → Int32) (P2 : Nat → Int32) (L2 : Nat → Nat) (S2 : Nat → Nat → Int32) (W2 : Nat → Nat) (X2 : Nat → Nat → Int32) (a1 : Int32) (hI : cJ G g f np dp nf df nr dr nt ct pay fine kf na da TL TG LL LG N1 E1 P1 L1 S1 W1 X1 N2 E2 P2 L2 S2 W2 X2) (hTr : trC ct nt) : Met l yX10_from (wsT yX10_from cX10_from 2 (some .int)) ({ frames := 4, cells := 0, slots := 0, locals := 82 }) (bP G g f [.ref (g 0), .int a1]) (bQi G g (fun (z9 : Int32) (f' : Nat → va_E) => ∃ np9 : Nat, ∃ dp9 : Nat → Int32, ∃ nf9 : Nat, ∃ df9 : Nat → Int32, ∃ nr9 : Nat, ∃ dr9 : Nat → Int32, ∃ nt9 : Nat, ∃ ct9 : Nat → Int32, ∃ pay9 : Int32, ∃ fine9 : Int32, ∃ TL9 : Nat → Nat, ∃ TG9 : Nat → Nat → Int32, ∃ na9 : Nat, ∃ da9 : Nat → Int32, ∃ LL9 : Nat → Nat, ∃ LG9 : Nat → Nat → Int32, (cJ G g f' np9 dp9 nf9 df9 nr9 dr9 nt9 ct9 pay9 fine9 kf na9 da9 TL9 TG9 LL9 LG9 N1 E1 P1 L1 S1 W1 X1 N2 E2 P2 L2 S2 W2 X2) ∧ ((¬ inB 0 a1 1 = true ∧ z9 = -2 ∧ np9 = np ∧ dp9 = dp ∧ nf9 = nf ∧ df9 = df ∧ nr9 = nr ∧ dr9 = dr ∧ nt9 = nt ∧ ct9 = ct ∧ pay9 = pay ∧ fine9 = fine ∧ TL9 = TL ∧ TG9 = TG ∧ na9 = na ∧ da9 = da ∧ LL9 = LL ∧ LG9 = LG) ∨ ((a1 : Int32) = 0 ∧ ((kf (Int32.toNatClampNeg 0) = 0 ∧ z9 = -3 ∧ np9 = np ∧ dp9 = dp ∧ nf9 = nf ∧ df9 = df ∧ nr9 = nr ∧ dr9 = dr ∧ nt9 = nt ∧ ct9 = ct ∧ pay9 = pay ∧ fine9 = fine ∧ TL9 = TL ∧ TG9 = TG ∧ na9 = na ∧ da9 = da ∧ LL9 = LL ∧ LG9 = LG) ∨ (¬ kf (Int32.toNatClampNeg 0) = 0 ∧ z9 = 1 ∧ eqD (mkN np9 nf9 nr9 na9 nt9) (mkE dp9 df9 dr9 da9 ct9) (mkP pay9 fine9) TL9 TG9 LL9 LG9 N1 E1 P1 L1 S1 W1 X1))) ∨ ((a1 : Int32) = 1 ∧ ((kf (Int32.toNatClampNeg 1) = 0 ∧ z9 = -3 ∧ np9 = np ∧ dp9 = dp ∧ nf9 = nf ∧ df9 = df ∧ nr9 = nr ∧ dr9 = dr ∧ nt9 = nt ∧ ct9 = ct ∧ pay9 = pay ∧ fine9 = fine ∧ TL9 = TL ∧ TG9 = TG ∧ na9 = na ∧ da9 = da ∧ LL9 = LL ∧ LG9 = LG) ∨ (¬ kf (Int32.toNatClampNeg 1) = 0 ∧ z9 = 1 ∧ eqD (mkN np9 nf9 nr9 na9 nt9) (mkE dp9 df9 dr9 da9 ct9) (mkP pay9 fine9) TL9 TG9 LL9 LG9 N2 E2 P2 L2 S2 W2 X2)))) ∧ ∀ j, 315 ≤ j → f' j = f j)) 0 0 (gA g) := cJ_elim hI (fun se hf imf mc op cm wu mk ab be mn le wt ww wb wf vv lf tf hx0 hctc hhs him hkp hrd hmk hfc6 hwt hw8 hw9 hw10 hw11 hvl hbk hpr hpd hfr hfd hor hod har had htr hct hla hlaa hts0 htsa hse hhf him0 him1 hmc hmn hnp hnf hnr hna hnt hlf htf hsn hH hSp hL hT hB1 hB2 hQ => jn_from l G g hg f se hf imf kf mc op cm wu mk ab be mn le wt ww wb wf vv pay fine np dp nf df nr dr na da nt ct lf tf TL TG LL LG N1 E1 P1 L1 S1 W1 X1 N2 E2 P2 L2 S2 W2 X2 a1 hx0 hctc hhs him hkp hrd hmk hfc6 hwt hw8 hw9 hw10 hw11 hvl hbk hpr hpd hfr hfd hor hod har had htr hct hla hlaa hts0 htsa hse hhf him0 him1 hmc hmn hnp hnf hnr hna hnt hlf htf hsn hTr hH hSp hL hT hB1 hB2 hQ)

